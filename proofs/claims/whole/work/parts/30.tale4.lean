/-! A CELLAR TOLD -/
def exeN (tp : Nat → Nat) (len : Nat) : Nat → Nat → Nat → Sv → Int32 × Option Sv
  | 0, st, _, S => (nI st, some S)
  | k + 1, st, p, S => if len ≤ p then (nI st, some S) else match cryN tp len p S with
    | none => (-2000 - nI p, none)
    | some S' => exeN tp len k (st + 1) (p + (dgN (ltN tp len p) + 2)) S'
def telN (tp : Nat → Nat) (len : Nat) (S : Sv) : Int32 × Option Sv := match brkN tp len 96 0 0 with
  | some q => (-1000 - nI q, none)
  | none => exeN tp len 96 0 0 S
theorem cry_ok {tp : Nat → Nat} {len p q : Nat} {S S' : Sv} (hO : SOK S) (hd : Sd S ≤ 999) (hst : stN tp len p = (true, q)) (hl : ltN tp len p ≤ 255) (h : cryN tp len p S = some S') : SOK S' ∧ Sd S' ≤ 999 := by
  obtain ⟨hq9, hd0, hds⟩ := stN_true hst
  have h1 := dig_le (tp := tp) (len := len) (k := p + 1) (hds 0 hd0)
  unfold cryN at h
  split at h
  · rename_i e
    have hv : dgN (ltN tp len p) = 4 := by rw [e]; rfl
    have h2 := dig_le (tp := tp) (len := len) (k := p + 2) (hds 1 (by omega))
    unfold o1 at h
    split at h
    · rename_i hc
      cases h
      exact ⟨SOK_addS hO hc.2.2.1 (by omega) h2 (by omega), hd⟩
    · cases h
  · split at h
    · rename_i e
      have hv : dgN (ltN tp len p) = 3 := by rw [e]; rfl
      have h2 := num_le (tp := tp) (len := len) (k := p + 2) (hds 1 (by omega)) (hds 2 (by omega))
      unfold o2 at h
      split at h
      · rename_i hw
        cases h
        exact ⟨SOK_q hO (SOK_lt hO hw) h2, hd⟩
      · cases h
    · split at h
      · unfold o3 at h
        split at h
        · rename_i hw
          cases h
          exact ⟨SOK_t hO (SOK_lt hO hw), hd⟩
        · cases h
      · split at h
        · rename_i e
          have hv : dgN (ltN tp len p) = 2 := by rw [e]; rfl
          cases h
          exact ⟨SOK_U hO h1 (dig_le (hds 1 (by omega))), hd⟩
        · split at h
          · unfold o2 at h
            split at h
            · rename_i hw
              cases h
              exact ⟨SOK_q hO (SOK_lt hO hw) (by omega), hd⟩
            · cases h
          · unfold o4 at h
            split at h
            · rename_i hc
              cases h
              exact ⟨SOK_pass _ hO, by rw [pass_d]; exact hc.2.2⟩
            · cases h
theorem TaleR.mv {σ τ : St} {tp : Nat → Nat} {len a : Nat} (h : TaleR σ tp len) (ho : Only 2 a σ τ) : TaleR τ tp len := by
  obtain ⟨h1, h2, h3, h4⟩ := h
  have e := ho 3 0 (by omega)
  exact ⟨h1, h2, by rw [e]; exact h3, fun i hi => by rw [e]; exact h4 i hi⟩

theorem brk_le {tp : Nat → Nat} {len q : Nat} : ∀ (k st p : Nat), brkN tp len k st p = some q → q ≤ p + 6 * k
  | 0, _, _, h => by cases h
  | k + 1, st, p, h => by
    have hle := stN_le (tp := tp) (len := len) (p := p)
    unfold brkN at h
    split at h
    · cases h
    · split at h
      · rename_i q2 hq
        cases h
        rw [hq] at hle
        have : q ≤ p + 6 := hle
        omega
      · rename_i q2 hq
        rw [hq] at hle
        have h2 : q2 ≤ p + 6 := hle
        have := brk_le k (st + 1) q2 h
        omega
theorem brk_lt {tp : Nat → Nat} {len q : Nat} (h : brkN tp len 96 0 0 = some q) : q < 2 ^ 31 := by
  have := brk_le 96 0 0 h
  omega
set_option maxHeartbeats 4000000 in
set_option maxRecDepth 100000 in
theorem c4_tellTo (a : Nat) (S : Sv) (σ : St) (hR : RepS (σ 2 a) S) (hO : SOK S) (hd : Sd S ≤ 999) (tp : Nat → Nat) (len : Nat) (hT : TaleR σ tp len) : Ct M4_tellTo 6 [.inr (.inr (3, 0, 0)), .inr (.inr (2, a, 0))] σ (PI fun r9 σ' => Only 2 a σ σ' ∧ ∃ o, telN tp len S = (r9, o) ∧ ∀ S', o = some S' → RepS (σ' 2 a) S' ∧ SOK S' ∧ Sd S' ≤ 999) := by
  refine Ct.of f_4_tellTo (Nat.le_of_ble_eq_true rfl) ?_
  show AW M4_tellTo 6 _ (0, [(0, .inr (.inr (3, 0, 0))), (1, .inr (.inr (2, a, 0)))], [], σ)
  cases hb : brkN tp len 96 0 0 with
  | some q =>
    have hq : ¬ nI q = (-9 : Int32) := nI_m9 (brk_lt hb)
    refine AW.run 1 [] (1, [(0, .inr (.inr (3, 0, 0))), (1, .inr (.inr (2, a, 0)))], [.inr (.inr (3, 0, 0))], σ) [] rfl ?_ ?_
    · exact trivial
    refine AW.callVI (d' := 1) [] [] ⟨_, rfl⟩ f_4_firstBroken v_4_firstBroken l_4_19 ⟨rfl, by decide⟩ rfl (Nat.le_of_ble_eq_true rfl) rfl (Nat.le_of_ble_eq_true rfl) (c4_firstBroken tp len σ hT) ?_
    rintro _ _ ⟨rfl, rfl⟩
    rw [hb]
    dsimp only [optI]
    refine AW.run 7 [false] (16, [(2, .inl (nI q)), (0, .inr (.inr (3, 0, 0))), (1, .inr (.inr (2, a, 0)))], [.inl ((-1000) - (nI q))], σ) [¬ icP .eq (nI q) (-9)] rfl ?_ ?_
    · exact allP1 (hq)
    refine AW.reti ⟨_, rfl⟩ rfl ?_
    exact ⟨only_rfl, none, by unfold telN; rw [hb], fun S9 h => by cases h⟩
  | none =>
    have htl : telN tp len S = exeN tp len 96 0 0 S := by unfold telN; rw [hb]
    refine AW.run 1 [] (1, [(0, .inr (.inr (3, 0, 0))), (1, .inr (.inr (2, a, 0)))], [.inr (.inr (3, 0, 0))], σ) [] rfl ?_ ?_
    · exact trivial
    refine AW.callVI (d' := 1) [] [] ⟨_, rfl⟩ f_4_firstBroken v_4_firstBroken l_4_19 ⟨rfl, by decide⟩ rfl (Nat.le_of_ble_eq_true rfl) rfl (Nat.le_of_ble_eq_true rfl) (c4_firstBroken tp len σ hT) ?_
    rintro _ _ ⟨rfl, rfl⟩
    rw [hb]
    dsimp only [optI]
    refine AW.run 8 [true] (22, [(4, .inl 0), (3, .inl 0), (2, .inl (-9)), (0, .inr (.inr (3, 0, 0))), (1, .inr (.inr (2, a, 0)))], [], σ) [icP .eq (-9 : Int32) (-9)] rfl ?_ ?_
    · exact allP1 (by decide : ((-9 : Int32) = (-9)))
    refine AW.pick [3, 4, 1, 0] (ls' := [(0, .inr (.inr (3, 0, 0))), (1, .inr (.inr (2, a, 0))), (3, .inl (nI 0)), (4, .inl (nI 0))]) rfl ?_
    refine AW.loop (α := Nat × Sv) 22 96 (fun s y => [(0, .inr (.inr (3, 0, 0))), (1, .inr (.inr (2, a, 0))), (3, .inl (nI y.1)), (4, .inl (nI s))]) (fun s y τ => Only 2 a σ τ ∧ RepS (τ 2 a) y.2 ∧ SOK y.2 ∧ Sd y.2 ≤ 999 ∧ y.1 ≤ 6 * s ∧ brkN tp len (96 - s) s y.1 = none ∧ exeN tp len 96 0 0 S = exeN tp len (96 - s) s y.1 y.2 ∧ (0 < s ∨ y.1 = 0)) ?_ ?_ 96 0 (0, S) _ (by omega) ⟨only_rfl, hR, hO, hd, Nat.le_refl _, hb, rfl, Or.inr rfl⟩
    · intro s y τ hs hI hk
      obtain ⟨hA, hR1, hO1, hd1, hps, hbk, hg, hs0⟩ := hI
      have hT1 := hT.mv hA
      obtain ⟨t1, t2, t3, t4⟩ := id hT1
      have hll := ltN_le (len := len) (k := y.1) t2
      have hdl := dgN_le (ltN tp len y.1)
      have hu : exeN tp len (96 - s) s y.1 y.2 = if len ≤ y.1 then (nI s, some y.2) else match cryN tp len y.1 y.2 with | none => (-2000 - nI y.1, none) | some S' => exeN tp len (96 - (s + 1)) (s + 1) (y.1 + (dgN (ltN tp len y.1) + 2)) S' := by
        obtain ⟨m, hm⟩ : ∃ m, 96 - s = m + 1 := ⟨95 - s, by omega⟩
        rw [hm, show 96 - (s + 1) = m by omega]; rfl
      have hv : brkN tp len (96 - s) s y.1 = if 0 < s ∧ len ≤ y.1 then none else match stN tp len y.1 with | (false, q) => some q | (true, q) => brkN tp len (96 - (s + 1)) (s + 1) q := by
        obtain ⟨m, hm⟩ : ∃ m, 96 - s = m + 1 := ⟨95 - s, by omega⟩
        rw [hm, show 96 - (s + 1) = m by omega]; rfl
      rw [hu] at hg
      rw [hv] at hbk
      by_cases hend : len ≤ y.1
      · rw [if_pos hend] at hg
        refine AW.run 6 [false] (34, [(0, .inr (.inr (3, 0, 0))), (1, .inr (.inr (2, a, 0))), (3, .inl (nI y.1)), (4, .inl (nI s))], [.inl (τ 3 0 0 1), .inl (nI y.1)], τ) [¬ icP .ge (nI s) 96] rfl ?_ ?_
        · exact allP1 (nle_lit (a := 96) hs (by decide))
        rw [t3]
        refine AW.run 2 [false] (39, [(0, .inr (.inr (3, 0, 0))), (1, .inr (.inr (2, a, 0))), (3, .inl (nI y.1)), (4, .inl (nI s))], [.inl (nI s)], τ) [¬ icP .lt (nI y.1) (nI len)] rfl ?_ ?_
        · exact allP1 (nI_nlt hend (by omega))
        refine AW.reti ⟨_, rfl⟩ rfl ?_
        exact ⟨hA, some y.2, htl.trans hg, fun S9 h => by cases h; exact ⟨hR1, hO1, hd1⟩⟩
      · rw [if_neg hend] at hg
        rw [if_neg (fun h => hend h.2)] at hbk
        cases hst : stN tp len y.1 with
        | mk b q9 =>
          rw [hst] at hbk
          cases b with
          | false => cases hbk
          | true =>
            have hbk : brkN tp len (96 - (s + 1)) (s + 1) q9 = none := hbk
            obtain ⟨hq9, hdz, hds⟩ := stN_true hst
            cases hc : cryN tp len y.1 y.2 with
            | none =>
              rw [hc] at hg
              refine AW.run 6 [false] (34, [(0, .inr (.inr (3, 0, 0))), (1, .inr (.inr (2, a, 0))), (3, .inl (nI y.1)), (4, .inl (nI s))], [.inl (τ 3 0 0 1), .inl (nI y.1)], τ) [¬ icP .ge (nI s) 96] rfl ?_ ?_
              · exact allP1 (nle_lit (a := 96) hs (by decide))
              rw [t3]
              refine AW.run 4 [true] (43, [(0, .inr (.inr (3, 0, 0))), (1, .inr (.inr (2, a, 0))), (3, .inl (nI y.1)), (4, .inl (nI s))], [.inl (nI y.1), .inr (.inr (2, a, 0)), .inr (.inr (3, 0, 0))], τ) [icP .lt (nI y.1) (nI len)] rfl ?_ ?_
              · exact allP1 (nI_lt (by omega) (by omega))
              refine AW.callVI (d' := 5) [.inr (.inr (2, a, 0)), .inl (nI y.1)] [] ⟨_, rfl⟩ f_4_carryOut v_4_carryOut l_4_23 ⟨rfl, by decide⟩ rfl (Nat.le_of_ble_eq_true rfl) rfl (Nat.le_of_ble_eq_true rfl) (c4_carryOut a y.2 τ hR1 hO1 hd1 tp len hT1 y.1 q9 (by omega) hst) ?_
              rintro v τ1 ⟨hB1, hB2⟩
              rw [hc] at hB2
              obtain rfl : v = 0 := hB2
              refine AW.run 4 [false] (54, [(0, .inr (.inr (3, 0, 0))), (1, .inr (.inr (2, a, 0))), (3, .inl (nI y.1)), (4, .inl (nI s))], [.inl ((-2000) - (nI y.1))], τ1) [¬ icP .ne (0 : Int32) 0] rfl ?_ ?_
              · exact allP1 (by decide : ¬ (¬ (0 : Int32) = 0))
              refine AW.reti ⟨_, rfl⟩ rfl ?_
              exact ⟨only_trans hA hB1, none, htl.trans hg, fun S9 h => by cases h⟩
            | some S' =>
              rw [hc] at hg
              obtain ⟨hO2, hd2⟩ := cry_ok hO1 hd1 hst hll hc
              refine AW.run 6 [false] (34, [(0, .inr (.inr (3, 0, 0))), (1, .inr (.inr (2, a, 0))), (3, .inl (nI y.1)), (4, .inl (nI s))], [.inl (τ 3 0 0 1), .inl (nI y.1)], τ) [¬ icP .ge (nI s) 96] rfl ?_ ?_
              · exact allP1 (nle_lit (a := 96) hs (by decide))
              rw [t3]
              refine AW.run 4 [true] (43, [(0, .inr (.inr (3, 0, 0))), (1, .inr (.inr (2, a, 0))), (3, .inl (nI y.1)), (4, .inl (nI s))], [.inl (nI y.1), .inr (.inr (2, a, 0)), .inr (.inr (3, 0, 0))], τ) [icP .lt (nI y.1) (nI len)] rfl ?_ ?_
              · exact allP1 (nI_lt (by omega) (by omega))
              refine AW.callVI (d' := 5) [.inr (.inr (2, a, 0)), .inl (nI y.1)] [] ⟨_, rfl⟩ f_4_carryOut v_4_carryOut l_4_23 ⟨rfl, by decide⟩ rfl (Nat.le_of_ble_eq_true rfl) rfl (Nat.le_of_ble_eq_true rfl) (c4_carryOut a y.2 τ hR1 hO1 hd1 tp len hT1 y.1 q9 (by omega) hst) ?_
              rintro v τ1 ⟨hB1, hB2⟩
              rw [hc] at hB2
              obtain ⟨rfl, hB2⟩ := hB2
              refine AW.run 4 [true] (58, [(0, .inr (.inr (3, 0, 0))), (1, .inr (.inr (2, a, 0))), (3, .inl (nI y.1)), (4, .inl (nI s))], [.inl (nI y.1), .inr (.inr (3, 0, 0)), .inl (nI y.1)], τ1) [icP .ne (1 : Int32) 0] rfl ?_ ?_
              · exact allP1 (by decide : (¬ (1 : Int32) = 0))
              refine AW.callVI (d' := 0) [.inl (nI y.1)] [.inl (nI y.1)] ⟨_, rfl⟩ f_4_letterAt v_4_letterAt l_4_27 ⟨rfl, by decide⟩ rfl (Nat.le_of_ble_eq_true rfl) rfl (Nat.le_of_ble_eq_true rfl) (c4_letterAt tp len τ1 (hT1.mv hB1) y.1 (by omega)) ?_
              rintro _ _ ⟨rfl, rfl⟩
              refine AW.callSI (d' := 0) [.inl (nI (ltN tp len y.1))] [.inl (nI y.1)] ⟨_, rfl⟩ f_4_digitsBehind s_4_digitsBehind l_4_31 rfl (Nat.le_of_ble_eq_true rfl) rfl (Nat.le_of_ble_eq_true rfl) (c4_digitsBehind (ltN tp len y.1) hll τ1) ?_
              rintro _ _ ⟨rfl, rfl⟩
              refine AW.run 2 [] (66, [(0, .inr (.inr (3, 0, 0))), (1, .inr (.inr (2, a, 0))), (3, .inl (nI y.1)), (4, .inl (nI s))], [.inl ((nI (dgN (ltN tp len y.1))) + 2), .inl (nI y.1)], τ1) [] rfl ?_ ?_
              · exact trivial
              rw [show nI (dgN (ltN tp len y.1)) + 2 = nI (dgN (ltN tp len y.1) + 2) from nI_add _ 2]
              refine AW.run 1 [] (67, [(0, .inr (.inr (3, 0, 0))), (1, .inr (.inr (2, a, 0))), (3, .inl (nI y.1)), (4, .inl (nI s))], [.inl ((nI y.1) + (nI (dgN (ltN tp len y.1) + 2)))], τ1) [] rfl ?_ ?_
              · exact trivial
              rw [nI_add]
              refine AW.run 3 [] (22, [(4, .inl ((nI s) + 1)), (3, .inl (nI (y.1 + (dgN (ltN tp len y.1) + 2)))), (0, .inr (.inr (3, 0, 0))), (1, .inr (.inr (2, a, 0)))], [], τ1) [] rfl ?_ ?_
              · exact trivial
              rw [nI_1 s]
              refine AW.pick [2, 3, 1, 0] (ls' := [(0, .inr (.inr (3, 0, 0))), (1, .inr (.inr (2, a, 0))), (3, .inl (nI (y.1 + (dgN (ltN tp len y.1) + 2)))), (4, .inl (nI (s + 1)))]) rfl ?_
              exact hk ((y.1 + (dgN (ltN tp len y.1) + 2)), S') _ ⟨only_trans hA hB1, hB2, hO2, hd2, by show (y.1 + (dgN (ltN tp len y.1) + 2)) ≤ 6 * (s + 1); omega, by rw [hq9] at hbk; exact hbk, hg, Or.inl (Nat.succ_pos _)⟩
    · intro y τ hI
      obtain ⟨hA, hR1, hO1, hd1, hps, hbk, hg, hs0⟩ := hI
      refine AW.run 4 [true] (76, [(0, .inr (.inr (3, 0, 0))), (1, .inr (.inr (2, a, 0))), (3, .inl (nI y.1)), (4, .inl (nI 96))], [.inl 96], τ) [icP .ge (nI 96) 96] rfl ?_ ?_
      · exact allP1 (le_lit (a := 96) (b := 96) (by decide) (by decide))
      refine AW.reti ⟨_, rfl⟩ rfl ?_
      exact ⟨hA, some y.2, htl.trans hg, fun S9 h => by cases h; exact ⟨hR1, hO1, hd1⟩⟩
