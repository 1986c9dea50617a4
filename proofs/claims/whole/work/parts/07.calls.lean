/-! CONTRACTS AND CALLS -/
def wsM (M : MethT) : List Cond := .code (mY M) (mB M) (mL M) (mR M) :: gT
def rmD (d : Nat) : Room := { frames := d, cells := 0, slots := 0, locals := 36 * d }
def CtP (G : WPar) (av : List AV) (σ : St) : Array Value → State → Prop := fun v U => v = (av.map (cv G.2.2.2.1)).toArray ∧ RepG G σ U U.heap ∧ va_K G.2.2.1 gCl (tysG G) U ∧ ∀ w ∈ gN, va_Nw w U
def CtQ (G : WPar) (Q : Option AV → St → Prop) : Array Value → State → Outcome → State → Prop := fun _ st o t => (∃ (r : Option AV) (σ' : St), Q r σ' ∧ (∀ v ∈ r.toList, vOK v) ∧ o = .returned (r.map (cv G.2.2.2.1)) ∧ RepG G σ' t t.heap) ∧ va_F G.2.2.2.2 st t
/-- the method, called with these values on these ints, comes back with Q -/
def Ct (M : MethT) (d : Nat) (av : List AV) (σ : St) (Q : Option AV → St → Prop) : Prop := (∀ v ∈ av, vOK v) → ∀ (G : WPar) (l : Launch), Met l (mY M) (wsM M) (rmD d) (CtP G av σ) (CtQ G Q) 0 0 G.2.2.2.2
/-- a method's table is true, its words are there -/
def MF (M : MethT) (n : Nat) : Prop := plainName (mY M).cls = true ∧ (mY M).cls = ownName (mO M) ∧ (mC M).all (fun e => ceOK (mO M) (mB M) e && ixOK (mL M) e) = true ∧ Cond.code (mY M) (mB M) (mL M) (mR M) ∈ gT ∧ Cond.initialized (mY M).cls ∈ gT ∧ ((mY M).cls ≠ "java/lang/invoke/MethodHandle" ∧ (mY M).cls ≠ "java/lang/invoke/VarHandle" ∧ (parseMethodDescriptor (mY M).desc).map (fun d => d.parameters.length) = some n) ∧ mL M ≤ 17
def MV (M : MethT) : Prop := Cond.instanceMethod (mY M) ∈ gT ∧ Cond.selects (mY M).cls (mY M) (mY M) ∈ gT
def MS (M : MethT) : Prop := Cond.static (mY M) ∈ gT
def avArgs : Nat → List AV → List (Nat × AV)
  | _, [] => []
  | i, v :: vs => (i, v) :: avArgs (match isL v with | true => i + 2 | false => i + 1) vs
def avLen : List AV → Nat
  | [] => 0
  | v :: vs => (match isL v with | true => 2 | false => 1) + avLen vs
theorem avArgs_eq {ρ : AR → Nat} : ∀ (av : List AV) (i : Nat), lv_args i (av.map (cv ρ)) = cls ρ (avArgs i av)
  | [], _ => rfl
  | v :: vs, i => by
    simp only [List.map_cons, lv_args, avArgs, cls]
    rw [avArgs_eq vs]
    have h := cv_cat (ρ := ρ) v
    cases hb : isL v
    · rw [hb] at h
      have : ¬ (cv ρ v).category = 2 := by simpa using h
      rw [if_neg this]
      rfl
    · rw [hb] at h
      have : (cv ρ v).category = 2 := by simpa using h
      rw [if_pos this]
      rfl
theorem avLen_eq {ρ : AR → Nat} : ∀ (av : List AV), (lg_sl (av.map (cv ρ))).length = avLen av
  | [] => rfl
  | v :: vs => by
    have ih := avLen_eq (ρ := ρ) vs
    have e : lg_sl ((v :: vs).map (cv ρ)) = (if (cv ρ v).category = 2 then [.val (cv ρ v), .second] else [.val (cv ρ v)]) ++ lg_sl (vs.map (cv ρ)) := rfl
    rw [e, List.length_append, ih]
    have h := cv_cat (ρ := ρ) v
    simp only [avLen]
    cases hb : isL v
    · rw [hb] at h
      have : ¬ (cv ρ v).category = 2 := by simpa using h
      rw [if_neg this]
      rfl
    · rw [hb] at h
      have : (cv ρ v).category = 2 := by simpa using h
      rw [if_pos this]
      rfl
theorem avArgs_ok : ∀ (av : List AV) (i : Nat), (∀ v ∈ av, vOK v) → ∀ q ∈ avArgs i av, vOK q.2
  | [], _, _ => fun q hq => by cases hq
  | v :: vs, i, h => fun q hq => by
    rcases List.mem_cons.mp hq with rfl | hq
    · exact h v List.mem_cons_self
    · exact avArgs_ok vs _ (fun w hw => h w (List.mem_cons_of_mem _ hw)) q hq
theorem RepG_move {G : WPar} {σ : St} {s t : State} {H : Heap} {locs : List Loc} (h : RepG G σ s H) (hS : va_S G.2.2.2.2 s.heap H locs) (hW : s.WarmedH t.vm) (ht : t.heap = H) : RepG G σ t t.heap := by
  obtain ⟨h1, h2, h3⟩ := h
  refine ⟨by rw [ht]; exact h1, h2, ?_⟩
  obtain ⟨L, g1, g2, g3, g4, g5⟩ := id h3
  exact scrG_move h3 hW.alike (by rw [ht]; exact hS.1) (by rw [ht]; exact hS.2.1 _ g4 g5)
theorem Ct.of {M : MethT} {n d : Nat} {av : List AV} {σ : St} {Q : Option AV → St → Prop} (hM : MF M n) (hlen : avLen av ≤ mL M) (k : AW M d Q (0, avArgs 0 av, [], σ)) : Ct M d av σ Q := by
  intro hav G l
  obtain ⟨f1, f2, f3, f4, f5, f6, f7⟩ := hM
  refine Met.ofW (cc := mB M) (maxL := mL M) (ret := mR M) f1 rfl ?_
  intro p e s m args below meth c s₁ B hml hv
  obtain ⟨rfl, hR, hK, hN⟩ := hv
  have hx := B.exec
  have hb := B.bytes
  have hr := B.returns
  have hts := atoms_spec (ws := wsM M) B.pre
  have hown : s.vm.findClass (mY M).cls = some m.cls := findClass_of_methodNamed B.named
  rw [f2] at hown
  have hlocks := B.notSynchronized
  have hl := lv_entry (av.map (cv G.2.2.2.1)) (n := mL M) (by rw [avLen_eq]; exact hlen)
  rw [avArgs_eq] at hl
  rw [lg_entry_eq]
  refine k G p l e (rmD d) s m _ below meth c s.heap [] 0 0 _ _ ⟨hx, hb, hml, hown, fun w hw => hts w (List.mem_cons_of_mem _ hw), hN, hK, Nat.le_refl _, Nat.le_refl _, Nat.le_refl _, Nat.le_refl _, f3⟩ hR va_S.rf hl (avArgs_ok av 0 hav) (fun v hv => by cases hv) ?_
  intro r σ' H' locs' pc' la' hQ hvr hRep hS hra hla
  have hq : ∀ t : State, t.heap = H' → s.WarmedH t.vm → CtQ G Q ((av.map (cv G.2.2.2.1)).toArray) s (.returned (r.map (cv G.2.2.2.1))) t := fun t ht hW => ⟨⟨r, σ', hQ, hvr, rfl, RepG_move hRep hS hW ht⟩, hS.F ht⟩
  have hdec : ∀ ins e, lkc (mC M) pc' = some (ins, e) → decode (mB M) pc' = .ok (ins, e.1) ∧ ceOK (mO M) (mB M) (pc', ins, e) = true := by
    intro ins e he
    have hok := List.all_eq_true.mp f3 _ (lkc_mem he)
    rw [Bool.and_eq_true] at hok
    refine ⟨?_, hok.1⟩
    have h1 := hok.1
    unfold ceOK at h1
    rw [Bool.and_eq_true] at h1
    exact of_decide_eq_true h1.1
  have one : ∀ ins e, lkc (mC M) pc' = some (ins, e) → (ins = .ireturn ∨ ins = .lreturn ∨ ins = .return_ ∨ ins = .areturn) → decode (mB M) pc' = .ok (ins, 1) := by
    intro ins e he hi
    obtain ⟨h1, h2⟩ := hdec ins e he
    unfold ceOK at h2
    rw [Bool.and_eq_true] at h2
    have h3 := h2.2
    have : e.1 = 1 := by rcases hi with rfl | rfl | rfl | rfl <;> exact of_decide_eq_true h3
    rw [this] at h1
    exact h1
  rcases r with _ | x | x | x
  · obtain ⟨⟨e9, he⟩, hmr⟩ := hra
    exact W.vret hx hb (by rw [hr, hmr]) hq hS.2.2 (one _ _ he (by simp))
  · obtain ⟨⟨e9, he⟩, hmr⟩ := hra
    rcases hmr with hmr | ⟨hmr, rfl | rfl⟩
    · exact W.iret (v := x) hx hb (by rw [hr, hmr]) hq hS.2.2 (one _ _ he (by simp))
    · exact W.zret (v := 0) (ty := .boolean) hx hb (by rw [hr, hmr]) rfl hq hS.2.2 (one _ _ he (by simp))
    · exact W.zret (v := 1) (ty := .boolean) hx hb (by rw [hr, hmr]) rfl hq hS.2.2 (one _ _ he (by simp))
  · obtain ⟨⟨e9, he⟩, hmr⟩ := hra
    exact W.lret (v := x) hx hb (by rw [hr, hmr]) hq hS.2.2 (one _ _ he (by simp))
  · obtain ⟨⟨e9, he⟩, hmr⟩ := hra
    exact W.aret (v := .ref (G.2.2.2.1 x)) (rt := .object "GingerArmy$Shelf") hx hb (by rw [hr, hmr]) (Or.inl ⟨_, rfl⟩) (Or.inr ⟨_, rfl⟩) hq hS.2.2 (one _ _ he (by simp))
theorem CtP_blind {G : WPar} {av : List AV} {σ : St} : FrameBlind (CtP G av σ) := by
  intro a U g mk h
  obtain ⟨h1, ⟨h2, h3, h4⟩, h5, h6⟩ := h
  refine ⟨h1, ⟨h2, h3, scrG_move h4 (Vm.Alike.refl U.vm) (Nat.le_refl _) rfl⟩, va_K.moved (u := U) (U := U.calling g mk a) (Vm.Alike.refl U.vm) h5, fun w hw => ?_⟩
  have hg := (List.mem_filter.mp hw).2
  cases w <;> first | (simp [gNest] at hg; done) | exact va_Nw.same rfl rfl (h6 _ hw)
theorem CtP_at {G : WPar} {av : List AV} {σ : St} {s U : State} {H : Heap} {locs : List Loc} {v : Array Value} (hv : v = (av.map (cv G.2.2.2.1)).toArray) (hR : RepG G σ s H) (hS : va_S G.2.2.2.2 s.heap H locs) (hK : va_K G.2.2.1 gCl (tysG G) s) (hN : ∀ w ∈ gN, va_Nw w s) (hU : U.heap = H) (hW : s.WarmedH U.vm) : CtP G av σ v U :=
  ⟨hv, RepG_move hR hS hW hU, va_K.moved hW.alike hK, fun w hw => gN_warm hW w hw (hN w hw)⟩
theorem cat_sum {ρ : AR → Nat} : ∀ (st : List AV), ((st.map (cv ρ)).map fun v => v.category).sum = avLen st
  | [] => rfl
  | v :: vs => by
    have ih := cat_sum (ρ := ρ) vs
    simp only [List.map_cons, List.sum_cons, avLen]
    rw [ih]
    congr 1
    rcases v with x | x | x <;> rfl
theorem lk_dec {M : MethT} {pc : Nat} {ins : Instr} {e : Nat × Int32 × Nat × Nat × Nat} (h : (mC M).all (fun e => ceOK (mO M) (mB M) e && ixOK (mL M) e) = true) (hl : lkc (mC M) pc = some (ins, e)) : decode (mB M) pc = .ok (ins, e.1) ∧ ceOK (mO M) (mB M) (pc, ins, e) = true := by
  have hok := List.all_eq_true.mp h _ (lkc_mem hl)
  rw [Bool.and_eq_true] at hok
  refine ⟨?_, hok.1⟩
  have h1 := hok.1
  unfold ceOK at h1
  rw [Bool.and_eq_true] at h1
  exact of_decide_eq_true h1.1
/-- behind a call -/
theorem call_back {M : MethT} {d : Nat} {Q Q1 : Option AV → St → Prop} {pc : Nat} {ls : List (Nat × AV)} {rest : List AV} {G : WPar} {p : Program} {l : Launch} {e : Env} {R : Room} {s : State} {m : MethodId} {args : Array Value} {below : List Frame} {meth : Method} {cd : Code} {H : Heap} {locs : List Loc} {cells slots : Nat} {la : Array Slot} {QQ : State → Prop} {st0 : List Value} {a : Array Value}
    (hr : va_Run p l e R s m args below meth cd H locs cells slots 0 0 (F0 m pc la st0) (rest.map (cv G.2.2.2.1)) (CtQ G Q1 a) G.2.2.2.2)
    (k : ∀ r σ1, Q1 r σ1 → AW M d Q (pc + 3, ls, r.toList ++ rest, σ1)) (hC : Cx M d G p R s m args cd cells slots) (hS : va_S G.2.2.2.2 s.heap H locs) (hl : lv_has la (mL M) (cls G.2.2.2.1 ls)) (ho : ∀ q ∈ ls, vOK q.2) (hv : ∀ v ∈ rest, vOK v) (hbs : G.2.2.2.1 (6, 0, 1) < s.heap.size)
    (hret : ∀ (r : Option AV) (σ' : St) (H' : Heap) (locs' : List Loc) (pc' : Nat) (la' : Array Slot), Q r σ' → (∀ v ∈ r.toList, vOK v) → RepG G σ' s H' → va_S G.2.2.2.2 s.heap H' locs' → retAt M pc' r → la'.size = mL M → W p l e R s m args below meth cd H' locs' cells slots QQ (F0 m pc' la' (r.toList.map (cv G.2.2.2.1)))) :
    W p l e R s m args below meth cd H locs cells slots QQ (F0 m pc la st0) := by
  intro T hT X
  obtain ⟨v, st₀, t, T', L, h0, X', hL, e1, e2, ⟨⟨r, σ1, hQ1, hvr, hv1, hRep⟩, hF⟩, st⟩ := hr T hT X
  cases hv1
  have hz : H.size ≤ T'.heap.size := by rw [e1]; have := hF.1; rw [h0] at this; exact this
  have hkp : ∀ q : Nat, q < H.size → ¬ G.2.2.2.2 q → T'.heap[q]? = H[q]? := fun q h1 h2 => by rw [e1]; have := hF.2 q (by rw [h0]; exact h1) h2; rw [h0] at this; exact this
  have hS1 : va_S G.2.2.2.2 s.heap T'.heap (locs ++ L) := ⟨Nat.le_trans hS.1 hz, fun q h1 h2 => by rw [hkp q (Nat.lt_of_lt_of_le h1 hS.1) h2]; exact hS.2.1 q h1 h2, fun q hq => by
    rcases List.mem_append.mp hq with h | h
    · exact hS.2.2 q h
    · exact hL q h⟩
  have hal : t.vm.Alike s.vm := by rw [← e2]; exact X'.warmed.alike.symm
  obtain ⟨g1, g2, g3⟩ := hRep
  have hRep2 : RepG G σ1 s T'.heap := by
    refine ⟨by rw [e1]; exact g1, g2, ?_⟩
    obtain ⟨L9, i1, i2, i3, i4, i5⟩ := id g3
    refine ⟨L9, i1, i2, ?_, ?_, i5⟩
    · refine (i3.moved hal).kept ?_
      rw [← hS1.2.1 _ hbs i5, e1]
    · exact hbs
  have hw := k r σ1 hQ1 G p l e R s m args below meth cd T'.heap (locs ++ L) cells slots la QQ hC hRep2 hS1 hl ho (fun v hv2 => by
    rcases List.mem_append.mp hv2 with h | h
    · exact hvr v h
    · exact hv v h) hret
  obtain ⟨t2, a1, b1⟩ := hw T' rfl X'
  refine ⟨t2, st t2 ?_, b1⟩
  have es : (r.toList ++ rest).map (cv G.2.2.2.1) = (r.map (cv G.2.2.2.1)).toList ++ rest.map (cv G.2.2.2.1) := by cases r <;> simp
  rw [es] at a1
  exact a1

theorem callB_w {M M' : MethT} {n d d' : Nat} {R : Room} {s : State} {args : Array Value} {idx : Nat} (hts : ∀ w ∈ gT, w.before args s = true) (hM : MF M' n) (hlink : Cond.methodLink (ownName (mO M)) idx (mY M') ∈ gT) (hd : d' + 1 ≤ d) (hfr : d ≤ R.frames) (hlo : 36 * d ≤ R.locals) : CallB R s args (ownName (mO M)) idx (mY M') (mB M') (mL M') (mR M') (wsM M') (rmD d') 0 0 n := by
  obtain ⟨f1, f2, f3, f4, f5, f6, f7⟩ := hM
  have hG : GoodIn gT (wsM M') := fun w hw => by
    rcases List.mem_cons.mp hw with rfl | hw
    · exact gT_good _ f4
    · exact gT_good _ hw
  refine callB_of n hts hG rfl rfl rfl (hts _ f5) (hts _ hlink) f6 ⟨Nat.le_trans hd hfr, ?_⟩
  show 8 + (mL M' + 11) + 36 * d' ≤ R.locals
  omega
theorem AW.callV {M M' : MethT} {n d d' : Nat} {Q Q1 : Option AV → St → Prop} {pc idx c i : Nat} {ls : List (Nat × AV)} {st As rest : List AV} {σ : St} (hlk : ∃ e, lkc (mC M) pc = some (.invokevirtual idx, e)) (hM : MF M' n) (hV : MV M') (hlink : Cond.methodLink (ownName (mO M)) idx (mY M') ∈ gT) (hcl : (mY M').cls = (gCl.getD c (RX1, TX1, 3)).1 ∧ c < 6) (hn : As.length = n) (hd : d' + 1 ≤ d) (hst : st = As.reverse ++ .inr (.inr (c, i, 0)) :: rest) (hrest : avLen rest ≤ 8) (hCt : Ct M' d' (.inr (.inr (c, i, 0)) :: As) σ Q1) (k : ∀ r σ1, Q1 r σ1 → AW M d Q (pc + 3, ls, r.toList ++ rest, σ1)) : AW M d Q (pc, ls, st, σ) := by
  subst hst
  intro G p l e R s m args below meth cd H locs cells slots la QQ hC hR hS hl ho hv hret
  obtain ⟨hx, hb, hml, hown, hts, hnw, hK, hfr, hlo, hce, hsl, htab⟩ := id hC
  obtain ⟨hPw, hDw, L9, g1, g2, g3, g4, g5⟩ := id hR
  obtain ⟨e9, he⟩ := hlk
  obtain ⟨hdg, hok⟩ := lk_dec htab he
  have h3 : e9.1 = 3 := by
    unfold ceOK at hok
    rw [Bool.and_eq_true] at hok
    exact of_decide_eq_true hok.2
  rw [h3] at hdg
  have hvA : ∀ v ∈ As.reverse, vOK v := fun v h => hv v (List.mem_append_left _ h)
  have hvB : ∀ v ∈ .inr (.inr (c, i, 0)) :: rest, vOK v := fun v h => hv v (List.mem_append_right _ h)
  obtain ⟨hv0, hvr⟩ := List.forall_mem_cons.mp hvB
  have hdm : (c, i, 0) ∈ domL := by
    rcases hv0 with h9 | h9
    · exact h9
    · cases h9
  have hAs : ∀ v ∈ .inr (.inr (c, i, 0)) :: As, vOK v := List.forall_mem_cons.mpr ⟨hv0, fun v h => hvA v (List.mem_reverse.mpr h)⟩
  obtain ⟨q0, -, hq0⟩ := wsG_at (G := G) (σ := σ) hdm
  rw [cellOf_obj] at hq0
  have hrecv := va_recv hK hPw (gCl_at hcl.2) hq0
  rw [← hcl.1] at hrecv
  have hcb := callB_w (args := args) (s := s) hts hM hlink hd hfr hlo
  have hstk : (As.reverse ++ .inr (.inr (c, i, 0)) :: rest).map (cv G.2.2.2.1) = (As.map (cv G.2.2.2.1)).reverse ++ .ref (G.2.2.2.1 (c, i, 0)) :: rest.map (cv G.2.2.2.1) := by
    simp only [List.map_append, List.map_cons, List.map_reverse]; rfl
  have hrun := va_runV (p := p) (l := l) (e := e) (R := R) (s := s) (m := m) (args := args) (below := below) (meth := meth) (c := cd) (H := H) (locs := locs) (cells := cells) (slots := slots) (g := F0 m pc la ((As.reverse ++ .inr (.inr (c, i, 0)) :: rest).map (cv G.2.2.2.1))) (As := As.map (cv G.2.2.2.1)) (rest := rest.map (cv G.2.2.2.1)) (b := G.2.2.2.1 (c, i, 0)) (nL := mL M) (index := idx) (n := n) (C := (mY M').cls) ⟨hx, hb, hml, hown, hts⟩ (hCt hAs G l) ⟨hcb, hts _ hV.1, hts _ hV.2⟩ ⟨CtP_blind, hrecv, fun U hU hW => CtP_at (by simp only [List.map_cons]; rfl) hR hS hK hnw hU hW⟩ rfl (by rw [List.length_map]; exact hn) hl.1 hstk (lv_room (by rw [cat_sum]; exact hrest)) hdg ⟨hce, hsl⟩
  exact call_back hrun k hC hS hl ho hvr g4 hret
theorem AW.callS {M M' : MethT} {n d d' : Nat} {Q Q1 : Option AV → St → Prop} {pc idx : Nat} {ls : List (Nat × AV)} {st As rest : List AV} {σ : St} (hlk : ∃ e, lkc (mC M) pc = some (.invokestatic idx, e)) (hM : MF M' n) (hV : MS M') (hlink : Cond.methodLink (ownName (mO M)) idx (mY M') ∈ gT) (hn : As.length = n) (hd : d' + 1 ≤ d) (hst : st = As.reverse ++ rest) (hrest : avLen rest ≤ 8) (hCt : Ct M' d' As σ Q1) (k : ∀ r σ1, Q1 r σ1 → AW M d Q (pc + 3, ls, r.toList ++ rest, σ1)) : AW M d Q (pc, ls, st, σ) := by
  subst hst
  intro G p l e R s m args below meth cd H locs cells slots la QQ hC hR hS hl ho hv hret
  obtain ⟨hx, hb, hml, hown, hts, hnw, hK, hfr, hlo, hce, hsl, htab⟩ := id hC
  obtain ⟨hPw, hDw, L9, g1, g2, g3, g4, g5⟩ := id hR
  obtain ⟨e9, he⟩ := hlk
  obtain ⟨hdg, hok⟩ := lk_dec htab he
  have h3 : e9.1 = 3 := by
    unfold ceOK at hok
    rw [Bool.and_eq_true] at hok
    exact of_decide_eq_true hok.2
  rw [h3] at hdg
  have hAs : ∀ v ∈ As, vOK v := fun v h => hv v (List.mem_append_left _ (List.mem_reverse.mpr h))
  have hvr : ∀ v ∈ rest, vOK v := fun v h => hv v (List.mem_append_right _ h)
  have hcb := callB_w (args := args) (s := s) hts hM hlink hd hfr hlo
  have hstk : (As.reverse ++ rest).map (cv G.2.2.2.1) = (As.map (cv G.2.2.2.1)).reverse ++ rest.map (cv G.2.2.2.1) := by
    simp only [List.map_append, List.map_reverse]
  have hrun := va_runS (p := p) (l := l) (e := e) (R := R) (s := s) (m := m) (args := args) (below := below) (meth := meth) (c := cd) (H := H) (locs := locs) (cells := cells) (slots := slots) (g := F0 m pc la ((As.reverse ++ rest).map (cv G.2.2.2.1))) (As := As.map (cv G.2.2.2.1)) (rest := rest.map (cv G.2.2.2.1)) (nL := mL M) (index := idx) (n := n) ⟨hx, hb, hml, hown, hts⟩ (hCt hAs G l) ⟨hcb, hts _ hV⟩ ⟨CtP_blind, fun U hU hW => CtP_at rfl hR hS hK hnw hU hW⟩ rfl (by rw [List.length_map]; exact hn) hl.1 hstk (lv_room (by rw [cat_sum]; exact hrest)) hdg ⟨hce, hsl⟩
  exact call_back hrun k hC hS hl ho hvr g4 hret
