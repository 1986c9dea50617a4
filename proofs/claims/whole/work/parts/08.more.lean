/-! MATH, COPIES, SWITCHES -/
theorem mth_max : Cond.static Lib.Math.max.name ∈ gT ∧ Cond.initialized "java/lang/Math" ∈ gT ∧ Cond.code Lib.Math.max.name Lib.Math.max.code 2 (some .int) ∈ gT := ⟨gT_in 494 (by decide +kernel) rfl, gT_in 76 (by decide +kernel) rfl, gT_in 495 (by decide +kernel) rfl⟩
theorem mth_min : Cond.static Lib.Math.min.name ∈ gT ∧ Cond.initialized "java/lang/Math" ∈ gT ∧ Cond.code Lib.Math.min.name Lib.Math.min.code 2 (some .int) ∈ gT := ⟨gT_in 418 (by decide +kernel) rfl, gT_in 76 (by decide +kernel) rfl, gT_in 419 (by decide +kernel) rfl⟩
theorem mth_abs : Cond.static Lib.Math.abs.name ∈ gT ∧ Cond.initialized "java/lang/Math" ∈ gT ∧ Cond.code Lib.Math.abs.name Lib.Math.abs.code 1 (some .int) ∈ gT := ⟨gT_in 703 (by decide +kernel) rfl, gT_in 76 (by decide +kernel) rfl, gT_in 704 (by decide +kernel) rfl⟩
theorem cpy_w : Cond.native arraycopyName ∈ lw_tbl ∧ Cond.static arraycopyName ∈ gT ∧ Cond.initialized "java/lang/System" ∈ gT := ⟨List.mem_of_getElem? (i := 248) (by decide +kernel), gT_in 247 (by decide +kernel) rfl, gT_in 74 (by decide +kernel) rfl⟩
theorem cpy_g : goodWord (Cond.native arraycopyName) = true := by decide +kernel
theorem cpy_n : Cond.native arraycopyName ∈ gT := List.mem_filter.mpr ⟨cpy_w.1, cpy_g⟩
theorem AW.max {M : MethT} {d : Nat} {Q : Option AV → St → Prop} {pc idx : Nat} {ls : List (Nat × AV)} {rest : List AV} {x y : Int32} {σ : St} (hlk : ∃ e, lkc (mC M) pc = some (.invokestatic idx, e)) (hlink : Cond.methodLink (ownName (mO M)) idx Lib.Math.max.name ∈ gT) (hd : 1 ≤ d) (hrest : avLen rest ≤ 8) (k : AW M d Q (pc + 3, ls, .inl (if x < y then y else x) :: rest, σ)) : AW M d Q (pc, ls, .inl y :: .inl x :: rest, σ) := by
  intro G p l e R s m args below meth cd H locs cells slots la QQ hC hR hS hl ho hv hret
  obtain ⟨hx, hb, hml, hown, hts, hnw, hK, hfr, hlo, hce, hsl, htab⟩ := id hC
  obtain ⟨hPw, hDw, L9, g1, g2, g3, g4, g5⟩ := id hR
  obtain ⟨e9, he⟩ := hlk
  obtain ⟨hdg, hok⟩ := lk_dec htab he
  have h3 : e9.1 = 3 := by
    unfold ceOK at hok
    rw [Bool.and_eq_true] at hok
    exact of_decide_eq_true hok.2
  rw [h3] at hdg
  have hv2 := (List.forall_mem_cons.mp (List.forall_mem_cons.mp hv).2).2
  exact va_mmax hx hb (by rw [hml]; exact hl.1.symm) hown (hts _ hlink) (hts _ mth_max.1) (hts _ mth_max.2.1) (hts _ mth_max.2.2) (Nat.le_trans hd hfr) (by rw [cat_sum]; omega) hce hsl hdg (k G p l e R s m args below meth cd H locs cells slots la QQ hC hR hS hl ho (List.forall_mem_cons.mpr ⟨trivial, hv2⟩) hret)
theorem AW.min {M : MethT} {d : Nat} {Q : Option AV → St → Prop} {pc idx : Nat} {ls : List (Nat × AV)} {rest : List AV} {x y : Int32} {σ : St} (hlk : ∃ e, lkc (mC M) pc = some (.invokestatic idx, e)) (hlink : Cond.methodLink (ownName (mO M)) idx Lib.Math.min.name ∈ gT) (hd : 1 ≤ d) (hrest : avLen rest ≤ 8) (k : AW M d Q (pc + 3, ls, .inl (if y < x then y else x) :: rest, σ)) : AW M d Q (pc, ls, .inl y :: .inl x :: rest, σ) := by
  intro G p l e R s m args below meth cd H locs cells slots la QQ hC hR hS hl ho hv hret
  obtain ⟨hx, hb, hml, hown, hts, hnw, hK, hfr, hlo, hce, hsl, htab⟩ := id hC
  obtain ⟨hPw, hDw, L9, g1, g2, g3, g4, g5⟩ := id hR
  obtain ⟨e9, he⟩ := hlk
  obtain ⟨hdg, hok⟩ := lk_dec htab he
  have h3 : e9.1 = 3 := by
    unfold ceOK at hok
    rw [Bool.and_eq_true] at hok
    exact of_decide_eq_true hok.2
  rw [h3] at hdg
  have hv2 := (List.forall_mem_cons.mp (List.forall_mem_cons.mp hv).2).2
  exact va_mmin hx hb (by rw [hml]; exact hl.1.symm) hown (hts _ hlink) (hts _ mth_min.1) (hts _ mth_min.2.1) (hts _ mth_min.2.2) (Nat.le_trans hd hfr) (by rw [cat_sum]; omega) hce hsl hdg (k G p l e R s m args below meth cd H locs cells slots la QQ hC hR hS hl ho (List.forall_mem_cons.mpr ⟨trivial, hv2⟩) hret)
theorem AW.abs {M : MethT} {d : Nat} {Q : Option AV → St → Prop} {pc idx : Nat} {ls : List (Nat × AV)} {rest : List AV} {x : Int32} {σ : St} (hlk : ∃ e, lkc (mC M) pc = some (.invokestatic idx, e)) (hlink : Cond.methodLink (ownName (mO M)) idx Lib.Math.abs.name ∈ gT) (hd : 1 ≤ d) (hrest : avLen rest ≤ 8) (k : AW M d Q (pc + 3, ls, .inl (if 0 ≤ x then x else 0 - x) :: rest, σ)) : AW M d Q (pc, ls, .inl x :: rest, σ) := by
  intro G p l e R s m args below meth cd H locs cells slots la QQ hC hR hS hl ho hv hret
  obtain ⟨hx, hb, hml, hown, hts, hnw, hK, hfr, hlo, hce, hsl, htab⟩ := id hC
  obtain ⟨hPw, hDw, L9, g1, g2, g3, g4, g5⟩ := id hR
  obtain ⟨e9, he⟩ := hlk
  obtain ⟨hdg, hok⟩ := lk_dec htab he
  have h3 : e9.1 = 3 := by
    unfold ceOK at hok
    rw [Bool.and_eq_true] at hok
    exact of_decide_eq_true hok.2
  rw [h3] at hdg
  have hv2 := (List.forall_mem_cons.mp hv).2
  exact va_mabs hx hb (by rw [hml]; exact hl.1.symm) hown (hts _ hlink) (hts _ mth_abs.1) (hts _ mth_abs.2.1) (hts _ mth_abs.2.2) (Nat.le_trans hd hfr) (by rw [cat_sum]; omega) hce hsl hdg (k G p l e R s m args below meth cd H locs cells slots la QQ hC hR hS hl ho (List.forall_mem_cons.mpr ⟨trivial, hv2⟩) hret)
theorem cpyM_ne {σ : St} {c i j c2 i2 j2 n : Nat} {r : AR} (h : r ≠ (c2, i2, j2)) (k' : Nat) : cpyM σ c i j c2 i2 j2 n r.1 r.2.1 r.2.2 k' = σ r.1 r.2.1 r.2.2 k' := by
  unfold cpyM
  rw [if_neg]
  rintro ⟨h1, h2, h3, -⟩
  exact h (by rw [← h1, ← h2, ← h3])
theorem cpyM_arr {σ : St} {c i j c2 i2 j2 n : Nat} : cpyM σ c i j c2 i2 j2 n c2 i2 j2 = va_cpy (σ c i j) (σ c2 i2 j2) 0 0 n := by
  funext k'
  simp [cpyM, va_cpy]
theorem cpyM_six {σ : St} {c i j c2 i2 j2 n : Nat} (h : c2 < 6) : cpyM σ c i j c2 i2 j2 n 6 = σ 6 := by
  funext i' j' k'
  simp only [cpyM]
  rw [if_neg]
  rintro ⟨h1, -⟩
  omega
/-- System.arraycopy of a whole row -/
theorem AW.copy {M : MethT} {d : Nat} {Q : Option AV → St → Prop} {pc idx c i j c2 i2 j2 n : Nat} {ls : List (Nat × AV)} {rest : List AV} {σ : St} (hlk : ∃ e, lkc (mC M) pc = some (.invokestatic idx, e)) (hlink : Cond.methodLink (ownName (mO M)) idx arraycopyName ∈ gT) (hd : 1 ≤ d) (hrest : avLen rest ≤ 8) (h1 : alen c j = some n) (h2 : alen c2 j2 = some n) (hn : n < 2 ^ 31) (k : AW M d Q (pc + 3, ls, rest, cpyM σ c i j c2 i2 j2 n)) : AW M d Q (pc, ls, .inl (nI n) :: .inl 0 :: .inr (.inr (c2, i2, j2)) :: .inl 0 :: .inr (.inr (c, i, j)) :: rest, σ) := by
  intro G p l e R s m args below meth cd H locs cells slots la QQ hC hR hS hl ho hv hret
  obtain ⟨hx, hb, hml, hown, hts, hnw, hK, hfr, hlo, hce, hsl, htab⟩ := id hC
  obtain ⟨hPw, hDw, L9, g1, g2, g3, g4, g5⟩ := id hR
  obtain ⟨e9, he⟩ := hlk
  obtain ⟨hdg, hok⟩ := lk_dec htab he
  have h3 : e9.1 = 3 := by
    unfold ceOK at hok
    rw [Bool.and_eq_true] at hok
    exact of_decide_eq_true hok.2
  rw [h3] at hdg
  obtain ⟨-, hv⟩ := List.forall_mem_cons.mp hv
  obtain ⟨-, hv⟩ := List.forall_mem_cons.mp hv
  obtain ⟨hd2, hv⟩ := List.forall_mem_cons.mp hv
  obtain ⟨-, hv⟩ := List.forall_mem_cons.mp hv
  obtain ⟨hd1, hv⟩ := List.forall_mem_cons.mp hv
  have hm1 : (c, i, j) ∈ domL := by
    rcases hd1 with h9 | h9
    · exact h9
    · cases h9; cases h1
  have hm2 : (c2, i2, j2) ∈ domL := by
    rcases hd2 with h9 | h9
    · exact h9
    · cases h9; cases h2
  obtain ⟨q0, -, hq0⟩ := wsG_at (G := G) (σ := σ) hm1
  obtain ⟨q1, hqd, hq1⟩ := wsG_at (G := G) (σ := σ) hm2
  rw [cellOf_arr h1] at hq0
  rw [cellOf_arr h2] at hq1
  have e0 : (0 : Int32).toNatClampNeg = 0 := by decide
  have en : (nI n).toNatClampNeg = n := nI_clamp hn
  refine va_copyi (D := G.2.2.1) (cl := gCl) (tys := tysG G) (ty := .int) hx hb (by rw [hml]; exact hl.1.symm) hown (hts _ hlink) (hts _ cpy_n) (hts _ cpy_w.2.1) (hts _ cpy_w.2.2) hK hPw hDw hS q0 q1 0 0 hq0 hq1 rfl rfl rfl (by decide) (by decide) (nI_pos hn) (by rw [e0, en]; omega) (by rw [e0, en]; omega) (fun _ _ => rfl) (Nat.le_trans hd hfr) (by rw [cat_sum]; show avLen rest + (7 + 11) ≤ _; omega) hdg (fun H1 locs1 hP1 hD1 hS1 => ?_)
  have hset : (wsG G σ).set q1 (G.2.2.2.1 (c2, i2, j2), .inl (G.1, n, .inl (va_cpy (σ c i j) (σ c2 i2 j2) (0 : Int32).toNatClampNeg (0 : Int32).toNatClampNeg (nI n).toNatClampNeg))) = wsG G (cpyM σ c i j c2 i2 j2 n) := by
    rw [← wsG_set (G := G) (σ := σ) (σ' := cpyM σ c i j c2 i2 j2 n) hqd (fun r' _ hne => cellOf_congr (fun k' => cpyM_ne hne k')), cellOf_arr h2, cpyM_arr, e0, en]
  rw [hset] at hP1 hD1
  exact k G p l e R s m args below meth cd H1 locs1 cells slots la QQ hC ⟨hP1, hD1, scrG_set (σ := σ) ⟨L9, g1, g2, g3, g4, g5⟩ (cpyM_six (alen_lt h2))⟩ hS1 hl ho hv hret
theorem AW.tswIn {M : MethT} {d : Nat} {Q : Option AV → St → Prop} {pc tgt k : Nat} {dflt lo hi off : Int} {offs : Array Int} {ls : List (Nat × AV)} {rest : List AV} {x : Int32} {σ : St} (hlk : ∃ e, lkc (mC M) pc = some (.tableswitch dflt lo hi offs, e)) (hk : x.toInt = lo + (k : Int)) (hh : lo + (k : Int) ≤ hi) (ho : offs[k]? = some off) (ht : (pc : Int) + off = (tgt : Int)) (kk : AW M d Q (tgt, ls, rest, σ)) : AW M d Q (pc, ls, .inl x :: rest, σ) := by
  have ho9 := ho
  intro G p l e R s m args below meth cd H locs cells slots la QQ hC hR hS hl ho hv hret
  obtain ⟨hx, hb, hml, hown, hts, hnw, hK, hfr, hlo, hce, hsl, htab⟩ := id hC
  obtain ⟨e9, he⟩ := hlk
  obtain ⟨hdg, hok⟩ := lk_dec htab he
  exact lv_tableIn hx hb hdg (by omega) (by omega) (by rw [show (x.toInt - lo).toNat = k by omega]; exact ho9) ht (kk G p l e R s m args below meth cd H locs cells slots la QQ hC hR hS hl ho (List.forall_mem_cons.mp hv).2 hret)
theorem AW.tswOut {M : MethT} {d : Nat} {Q : Option AV → St → Prop} {pc tgt : Nat} {dflt lo hi : Int} {offs : Array Int} {ls : List (Nat × AV)} {rest : List AV} {x : Int32} {σ : St} (hlk : ∃ e, lkc (mC M) pc = some (.tableswitch dflt lo hi offs, e)) (h : x.toInt < lo ∨ hi < x.toInt) (ht : (pc : Int) + dflt = (tgt : Int)) (kk : AW M d Q (tgt, ls, rest, σ)) : AW M d Q (pc, ls, .inl x :: rest, σ) := by
  intro G p l e R s m args below meth cd H locs cells slots la QQ hC hR hS hl ho hv hret
  obtain ⟨hx, hb, hml, hown, hts, hnw, hK, hfr, hlo, hce, hsl, htab⟩ := id hC
  obtain ⟨e9, he⟩ := hlk
  obtain ⟨hdg, hok⟩ := lk_dec htab he
  exact lv_tableOut hx hb hdg h ht (kk G p l e R s m args below meth cd H locs cells slots la QQ hC hR hS hl ho (List.forall_mem_cons.mp hv).2 hret)
theorem AW.lsw {M : MethT} {d : Nat} {Q : Option AV → St → Prop} {pc tgt : Nat} {dflt off : Int} {ps : Array (Int × Int)} {ls : List (Nat × AV)} {rest : List AV} {x : Int32} {σ : St} (hlk : ∃ e, lkc (mC M) pc = some (.lookupswitch dflt ps, e)) (hp : (ps.toList.zip (ps.toList.drop 1)).all (fun (a, next) => a.1 < next.1) = true) (hof : Op.lookupswitch.offset ps.toList dflt x.toInt = off) (ht : (pc : Int) + off = (tgt : Int)) (kk : AW M d Q (tgt, ls, rest, σ)) : AW M d Q (pc, ls, .inl x :: rest, σ) := by
  intro G p l e R s m args below meth cd H locs cells slots la QQ hC hR hS hl ho hv hret
  obtain ⟨hx, hb, hml, hown, hts, hnw, hK, hfr, hlo, hce, hsl, htab⟩ := id hC
  obtain ⟨e9, he⟩ := hlk
  obtain ⟨hdg, hok⟩ := lk_dec htab he
  exact lv_lookup hx hb hdg hp hof ht (kk G p l e R s m args below meth cd H locs cells slots la QQ hC hR hS hl ho (List.forall_mem_cons.mp hv).2 hret)
