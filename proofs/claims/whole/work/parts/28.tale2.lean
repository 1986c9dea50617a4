/-! THE TALE: its faults, its statements -/
/-- digits from p on: how far -/
def dsN (tp : Nat → Nat) (len : Nat) : Nat → Nat → Bool × Nat
  | 0, p => (true, p)
  | k + 1, p => if isDg (ltN tp len p) = true then dsN tp len k (p + 1) else (false, p)
/-- a statement at p: (true, the place behind), or (false, the fault's place) -/
def stN (tp : Nat → Nat) (len p : Nat) : Bool × Nat :=
  if dgN (ltN tp len p) = 0 then (false, p)
  else match dsN tp len (dgN (ltN tp len p)) (p + 1) with
    | (false, q) => (false, q)
    | (true, q) => if ltN tp len q = 59 then (true, q + 1) else (false, q)
def brkN (tp : Nat → Nat) (len : Nat) : Nat → Nat → Nat → Option Nat
  | 0, _, _ => none
  | k + 1, st, p => if 0 < st ∧ len ≤ p then none else match stN tp len p with
    | (false, q) => some q
    | (true, q) => brkN tp len k (st + 1) q
theorem dsN_true {tp : Nat → Nat} {len : Nat} : ∀ (k p q : Nat), dsN tp len k p = (true, q) → q = p + k ∧ ∀ j, j < k → isDg (ltN tp len (p + j)) = true
  | 0, p, q, h => by
    cases h
    exact ⟨rfl, fun j hj => absurd hj (Nat.not_lt_zero _)⟩
  | k + 1, p, q, h => by
    unfold dsN at h
    split at h
    · rename_i hd
      obtain ⟨h1, h2⟩ := dsN_true k (p + 1) q h
      refine ⟨by omega, fun j hj => ?_⟩
      cases j with
      | zero => exact hd
      | succ j => rw [show p + (j + 1) = p + 1 + j by omega]; exact h2 j (by omega)
    · cases h
theorem dsN_le {tp : Nat → Nat} {len : Nat} : ∀ (k p : Nat), (dsN tp len k p).2 ≤ p + k
  | 0, p => Nat.le_refl _
  | k + 1, p => by
    unfold dsN
    split
    · have := dsN_le (tp := tp) (len := len) k (p + 1); omega
    · show p ≤ p + (k + 1); omega
theorem stN_true {tp : Nat → Nat} {len p q : Nat} (h : stN tp len p = (true, q)) : q = p + dgN (ltN tp len p) + 2 ∧ 0 < dgN (ltN tp len p) ∧ ∀ j, j < dgN (ltN tp len p) → isDg (ltN tp len (p + 1 + j)) = true := by
  unfold stN at h
  split at h
  · cases h
  · rename_i hd
    split at h
    · cases h
    · rename_i q2 hq
      split at h
      · cases h
        obtain ⟨h1, h2⟩ := dsN_true _ _ _ hq
        exact ⟨by omega, by omega, h2⟩
      · cases h
theorem stN_le {tp : Nat → Nat} {len p : Nat} : (stN tp len p).2 ≤ p + 6 := by
  have h := dgN_le (ltN tp len p)
  have h2 := dsN_le (tp := tp) (len := len) (dgN (ltN tp len p)) (p + 1)
  unfold stN
  split
  · show p ≤ p + 6; omega
  · split
    · rename_i q hq; rw [hq] at h2; show q ≤ p + 6; have : q ≤ p + 1 + dgN (ltN tp len p) := h2; omega
    · rename_i q hq
      rw [hq] at h2
      have : q ≤ p + 1 + dgN (ltN tp len p) := h2
      split
      · show q + 1 ≤ p + 6; omega
      · show q ≤ p + 6; omega

set_option maxHeartbeats 4000000 in
set_option maxRecDepth 100000 in
theorem c4_firstBroken (tp : Nat → Nat) (len : Nat) (σ : St) (hT : TaleR σ tp len) : Ct M4_firstBroken 1 [.inr (.inr (3, 0, 0))] σ (PI fun r9 σ' => optI (brkN tp len 96 0 0) = r9 ∧ σ = σ') := by
  refine Ct.of f_4_firstBroken (Nat.le_of_ble_eq_true rfl) ?_
  show AW M4_firstBroken 1 _ (0, [(0, .inr (.inr (3, 0, 0)))], [], σ)
  have hT0 := hT
  obtain ⟨t1, t2, t3, t4⟩ := hT0
  refine AW.run 4 [] (4, [(2, .inl 0), (1, .inl 0), (0, .inr (.inr (3, 0, 0)))], [], σ) [] rfl ?_ ?_
  · exact trivial
  refine AW.pick [2, 1, 0] (ls' := [(0, .inr (.inr (3, 0, 0))), (1, .inl (nI 0)), (2, .inl (nI 0))]) rfl ?_
  refine AW.loop (α := Nat) 4 96 (fun s p => [(0, .inr (.inr (3, 0, 0))), (1, .inl (nI p)), (2, .inl (nI s))]) (fun s p τ => σ = τ ∧ p ≤ 6 * s ∧ brkN tp len 96 0 0 = brkN tp len (96 - s) s p) ?_ ?_ 96 0 0 _ (by omega) ⟨rfl, Nat.le_refl _, rfl⟩
  · intro s p τ hs hI hk
    obtain ⟨rfl, hps, hg⟩ := hI
    have hu : brkN tp len (96 - s) s p = if 0 < s ∧ len ≤ p then none else match stN tp len p with | (false, q) => some q | (true, q) => brkN tp len (96 - (s + 1)) (s + 1) q := by
      obtain ⟨m, hm⟩ : ∃ m, 96 - s = m + 1 := ⟨95 - s, by omega⟩
      rw [hm, show 96 - (s + 1) = m by omega]; rfl
    rw [hu] at hg
    have hl0 := ltN_le (len := len) (k := p) t2
    have hdl := dgN_le (ltN tp len p)
    by_cases hend : 0 < s ∧ len ≤ p
    · rw [if_pos hend] at hg
      refine AW.run 8 [false, false] (19, [(0, .inr (.inr (3, 0, 0))), (1, .inl (nI p)), (2, .inl (nI s))], [.inl (σ 3 0 0 1), .inl (nI p)], σ) [¬ icP .ge (nI s) 96, ¬ icP .le (nI s) 0] rfl ?_ ?_
      · exact ⟨(nle_lit (a := 96) hs (by decide)), allP1 (nI_nle hend.1 (by omega))⟩
      rw [t3]
      refine AW.run 2 [false] (24, [(0, .inr (.inr (3, 0, 0))), (1, .inl (nI p)), (2, .inl (nI s))], [.inl (-9)], σ) [¬ icP .lt (nI p) (nI len)] rfl ?_ ?_
      · exact allP1 (nI_nlt hend.2 (by omega))
      refine AW.reti ⟨_, rfl⟩ rfl ?_
      exact ⟨by rw [hg]; rfl, rfl⟩
    · rw [if_neg hend] at hg
      have h25 : AW M4_firstBroken 1 (PI fun r9 σ' => optI (brkN tp len 96 0 0) = r9 ∧ σ = σ') (25, [(0, .inr (.inr (3, 0, 0))), (1, .inl (nI p)), (2, .inl (nI s))], [], σ) := by
        by_cases hd0 : dgN (ltN tp len p) = 0
        · have hst : stN tp len p = (false, p) := by unfold stN; rw [if_pos hd0]
          rw [hst] at hg
          refine AW.run 2 [] (27, [(0, .inr (.inr (3, 0, 0))), (1, .inl (nI p)), (2, .inl (nI s))], [.inl (nI p), .inr (.inr (3, 0, 0))], σ) [] rfl ?_ ?_
          · exact trivial
          refine AW.callVI (d' := 0) [.inl (nI p)] [] ⟨_, rfl⟩ f_4_letterAt v_4_letterAt l_4_27 ⟨rfl, by decide⟩ rfl (Nat.le_of_ble_eq_true rfl) rfl (Nat.le_of_ble_eq_true rfl) (c4_letterAt tp len σ hT p (by omega)) ?_
          rintro _ _ ⟨rfl, rfl⟩
          refine AW.callSI (d' := 0) [.inl (nI (ltN tp len p))] [] ⟨_, rfl⟩ f_4_digitsBehind s_4_digitsBehind l_4_31 rfl (Nat.le_of_ble_eq_true rfl) rfl (Nat.le_of_ble_eq_true rfl) (c4_digitsBehind (ltN tp len p) hl0 σ) ?_
          rintro _ _ ⟨rfl, rfl⟩
          refine AW.run 4 [false] (39, [(3, .inl (nI (dgN (ltN tp len p)))), (0, .inr (.inr (3, 0, 0))), (1, .inl (nI p)), (2, .inl (nI s))], [.inl (nI p)], σ) [¬ icP .ne (nI (dgN (ltN tp len p))) 0] rfl ?_ ?_
          · exact allP1 (fun q => q (by rw [hd0]; rfl))
          refine AW.reti ⟨_, rfl⟩ rfl ?_
          exact ⟨by rw [hg]; rfl, rfl⟩
        · have hst : stN tp len p = match dsN tp len (dgN (ltN tp len p)) (p + 1) with | (false, q) => (false, q) | (true, q) => if ltN tp len q = 59 then (true, q + 1) else (false, q) := by unfold stN; rw [if_neg hd0]
          refine AW.run 2 [] (27, [(0, .inr (.inr (3, 0, 0))), (1, .inl (nI p)), (2, .inl (nI s))], [.inl (nI p), .inr (.inr (3, 0, 0))], σ) [] rfl ?_ ?_
          · exact trivial
          refine AW.callVI (d' := 0) [.inl (nI p)] [] ⟨_, rfl⟩ f_4_letterAt v_4_letterAt l_4_27 ⟨rfl, by decide⟩ rfl (Nat.le_of_ble_eq_true rfl) rfl (Nat.le_of_ble_eq_true rfl) (c4_letterAt tp len σ hT p (by omega)) ?_
          rintro _ _ ⟨rfl, rfl⟩
          refine AW.callSI (d' := 0) [.inl (nI (ltN tp len p))] [] ⟨_, rfl⟩ f_4_digitsBehind s_4_digitsBehind l_4_31 rfl (Nat.le_of_ble_eq_true rfl) rfl (Nat.le_of_ble_eq_true rfl) (c4_digitsBehind (ltN tp len p) hl0 σ) ?_
          rintro _ _ ⟨rfl, rfl⟩
          refine AW.run 6 [true] (46, [(4, .inl 0), (1, .inl ((nI p) + 1)), (3, .inl (nI (dgN (ltN tp len p)))), (0, .inr (.inr (3, 0, 0))), (2, .inl (nI s))], [], σ) [icP .ne (nI (dgN (ltN tp len p))) 0] rfl ?_ ?_
          · exact allP1 (nI_ne0 (by omega) (by omega))
          rw [nI_1 p]
          refine AW.pick [3, 1, 4, 2, 0] (ls' := [(0, .inr (.inr (3, 0, 0))), (1, .inl (nI (p + 1))), (2, .inl (nI s)), (3, .inl (nI (dgN (ltN tp len p)))), (4, .inl (nI 0))]) rfl ?_
          refine AW.loop (α := Unit) 46 (dgN (ltN tp len p)) (fun d _ => [(0, .inr (.inr (3, 0, 0))), (1, .inl (nI (p + 1 + d))), (2, .inl (nI s)), (3, .inl (nI (dgN (ltN tp len p)))), (4, .inl (nI d))]) (fun d _ τ => σ = τ ∧ dsN tp len (dgN (ltN tp len p)) (p + 1) = dsN tp len (dgN (ltN tp len p) - d) (p + 1 + d)) ?_ ?_ (dgN (ltN tp len p)) 0 () _ (by omega) ⟨rfl, rfl⟩
          · intro d _ τ hd hJ hk9
            obtain ⟨rfl, hJ⟩ := hJ
            have hw : dsN tp len (dgN (ltN tp len p) - d) (p + 1 + d) = if isDg (ltN tp len (p + 1 + d)) = true then dsN tp len (dgN (ltN tp len p) - (d + 1)) (p + 1 + (d + 1)) else (false, p + 1 + d) := by
              obtain ⟨m, hm⟩ : ∃ m, dgN (ltN tp len p) - d = m + 1 := ⟨dgN (ltN tp len p) - d - 1, by omega⟩
              rw [hm, show dgN (ltN tp len p) - (d + 1) = m by omega]; rfl
            rw [hw] at hJ
            have hl1 := ltN_le (len := len) (k := p + 1 + d) t2
            refine AW.run 5 [false] (54, [(0, .inr (.inr (3, 0, 0))), (1, .inl (nI (p + 1 + d))), (2, .inl (nI s)), (3, .inl (nI (dgN (ltN tp len p)))), (4, .inl (nI d))], [.inl (nI (p + 1 + d)), .inr (.inr (3, 0, 0))], σ) [¬ icP .ge (nI d) (nI (dgN (ltN tp len p)))] rfl ?_ ?_
            · exact allP1 (nI_ge hd (by omega))
            refine AW.callVI (d' := 0) [.inl (nI (p + 1 + d))] [] ⟨_, rfl⟩ f_4_letterAt v_4_letterAt l_4_27 ⟨rfl, by decide⟩ rfl (Nat.le_of_ble_eq_true rfl) rfl (Nat.le_of_ble_eq_true rfl) (c4_letterAt tp len σ hT (p + 1 + d) (by omega)) ?_
            rintro _ _ ⟨rfl, rfl⟩
            refine AW.callSI (d' := 0) [.inl (nI (ltN tp len (p + 1 + d)))] [] ⟨_, rfl⟩ f_4_isDigit s_4_isDigit l_4_34 rfl (Nat.le_of_ble_eq_true rfl) rfl (Nat.le_of_ble_eq_true rfl) (c4_isDigit (ltN tp len (p + 1 + d)) hl1 σ) ?_
            rintro v _ ⟨rfl, hv⟩
            rcases hv with ⟨rfl, hp57⟩ | ⟨rfl, hp57⟩
            · skip
              refine AW.run 4 [true] (46, [(4, .inl ((nI d) + 1)), (1, .inl ((nI (p + 1 + d)) + 1)), (0, .inr (.inr (3, 0, 0))), (2, .inl (nI s)), (3, .inl (nI (dgN (ltN tp len p))))], [], σ) [icP .ne (1 : Int32) 0] rfl ?_ ?_
              · exact allP1 (by decide : (¬ (1 : Int32) = 0))
              rw [nI_1 (p + 1 + d), nI_1 d]
              refine AW.pick [2, 1, 3, 4, 0] (ls' := [(0, .inr (.inr (3, 0, 0))), (1, .inl (nI (p + 1 + (d + 1)))), (2, .inl (nI s)), (3, .inl (nI (dgN (ltN tp len p)))), (4, .inl (nI (d + 1)))]) rfl ?_
              exact hk9 () _ ⟨rfl, by rw [hJ, if_pos hp57]⟩
            · skip
              refine AW.run 2 [false] (64, [(0, .inr (.inr (3, 0, 0))), (1, .inl (nI (p + 1 + d))), (2, .inl (nI s)), (3, .inl (nI (dgN (ltN tp len p)))), (4, .inl (nI d))], [.inl (nI (p + 1 + d))], σ) [¬ icP .ne (0 : Int32) 0] rfl ?_ ?_
              · exact allP1 (by decide : ¬ (¬ (0 : Int32) = 0))
              refine AW.reti ⟨_, rfl⟩ rfl ?_
              rw [if_neg (by rw [hp57]; decide)] at hJ
              rw [hJ] at hst
              rw [hst] at hg
              exact ⟨by rw [hg]; rfl, rfl⟩
          · intro _ τ hJ
            obtain ⟨rfl, hJ⟩ := hJ
            rw [Nat.sub_self] at hJ
            have hJ : dsN tp len (dgN (ltN tp len p)) (p + 1) = (true, p + 1 + dgN (ltN tp len p)) := hJ
            rw [hJ] at hst
            have hst : stN tp len p = if ltN tp len (p + 1 + dgN (ltN tp len p)) = 59 then (true, p + 1 + dgN (ltN tp len p) + 1) else (false, p + 1 + dgN (ltN tp len p)) := hst
            have hl2 := ltN_le (len := len) (k := p + 1 + dgN (ltN tp len p)) t2
            refine AW.run 5 [true] (76, [(0, .inr (.inr (3, 0, 0))), (1, .inl (nI (p + 1 + dgN (ltN tp len p)))), (2, .inl (nI s)), (3, .inl (nI (dgN (ltN tp len p)))), (4, .inl (nI (dgN (ltN tp len p))))], [.inl (nI (p + 1 + dgN (ltN tp len p))), .inr (.inr (3, 0, 0))], σ) [icP .ge (nI (dgN (ltN tp len p))) (nI (dgN (ltN tp len p)))] rfl ?_ ?_
            · exact allP1 (nI_le (Nat.le_refl _) (by omega))
            refine AW.callVI (d' := 0) [.inl (nI (p + 1 + dgN (ltN tp len p)))] [] ⟨_, rfl⟩ f_4_letterAt v_4_letterAt l_4_27 ⟨rfl, by decide⟩ rfl (Nat.le_of_ble_eq_true rfl) rfl (Nat.le_of_ble_eq_true rfl) (c4_letterAt tp len σ hT (p + 1 + dgN (ltN tp len p)) (by omega)) ?_
            rintro _ _ ⟨rfl, rfl⟩
            by_cases h81_1 : ltN tp len (p + 1 + dgN (ltN tp len p)) = 59
            · skip
              refine AW.run 5 [true] (4, [(2, .inl ((nI s) + 1)), (1, .inl ((nI (p + 1 + dgN (ltN tp len p))) + 1)), (0, .inr (.inr (3, 0, 0))), (3, .inl (nI (dgN (ltN tp len p)))), (4, .inl (nI (dgN (ltN tp len p))))], [], σ) [icP .eq (nI (ltN tp len (p + 1 + dgN (ltN tp len p)))) 59] rfl ?_ ?_
              · exact allP1 (by rw [h81_1]; exact rfl)
              rw [nI_1 (p + 1 + dgN (ltN tp len p)), nI_1 s]
              refine AW.pick [2, 1, 0] (ls' := [(0, .inr (.inr (3, 0, 0))), (1, .inl (nI ((p + 1 + dgN (ltN tp len p)) + 1))), (2, .inl (nI (s + 1)))]) rfl ?_
              rw [if_pos (by assumption)] at hst
              rw [hst] at hg
              exact hk ((p + 1 + dgN (ltN tp len p)) + 1) _ ⟨rfl, by omega, hg⟩
            · skip
              refine AW.run 3 [false] (85, [(0, .inr (.inr (3, 0, 0))), (1, .inl (nI (p + 1 + dgN (ltN tp len p)))), (2, .inl (nI s)), (3, .inl (nI (dgN (ltN tp len p)))), (4, .inl (nI (dgN (ltN tp len p))))], [.inl (nI (p + 1 + dgN (ltN tp len p)))], σ) [¬ icP .eq (nI (ltN tp len (p + 1 + dgN (ltN tp len p)))) 59] rfl ?_ ?_
              · exact allP1 (fun q => h81_1 (nI_lit (n := 59) q (by omega) (by decide)))
              refine AW.reti ⟨_, rfl⟩ rfl ?_
              rw [if_neg (by assumption)] at hst
              rw [hst] at hg
              exact ⟨by rw [hg]; rfl, rfl⟩
      by_cases hs0 : 0 < s
      · skip
        refine AW.run 8 [false, false] (19, [(0, .inr (.inr (3, 0, 0))), (1, .inl (nI p)), (2, .inl (nI s))], [.inl (σ 3 0 0 1), .inl (nI p)], σ) [¬ icP .ge (nI s) 96, ¬ icP .le (nI s) 0] rfl ?_ ?_
        · exact ⟨(nle_lit (a := 96) hs (by decide)), allP1 (nI_nle hs0 (by omega))⟩
        rw [t3]
        refine AW.run 1 [true] (25, [(0, .inr (.inr (3, 0, 0))), (1, .inl (nI p)), (2, .inl (nI s))], [], σ) [icP .lt (nI p) (nI len)] rfl ?_ ?_
        · exact allP1 (nI_lt (by omega) (by omega))
        refine AW.pick [0, 1, 2] (ls' := [(0, .inr (.inr (3, 0, 0))), (1, .inl (nI p)), (2, .inl (nI s))]) rfl ?_
        exact h25
      · have hs1 : s = 0 := by omega
        refine AW.run 5 [false, true] (25, [(0, .inr (.inr (3, 0, 0))), (1, .inl (nI p)), (2, .inl (nI s))], [], σ) [¬ icP .ge (nI s) 96, icP .le (nI s) 0] rfl ?_ ?_
        · exact ⟨(nle_lit (a := 96) hs (by decide)), allP1 (by rw [hs1]; exact (by decide : nI 0 ≤ (0 : Int32)))⟩
        refine AW.pick [0, 1, 2] (ls' := [(0, .inr (.inr (3, 0, 0))), (1, .inl (nI p)), (2, .inl (nI s))]) rfl ?_
        exact h25
  · intro p τ hI
    obtain ⟨rfl, hps, hg⟩ := hI
    refine AW.run 4 [true] (97, [(0, .inr (.inr (3, 0, 0))), (1, .inl (nI p)), (2, .inl (nI 96))], [.inl (-9)], σ) [icP .ge (nI 96) 96] rfl ?_ ?_
    · exact allP1 (le_lit (a := 96) (b := 96) (by decide) (by decide))
    refine AW.reti ⟨_, rfl⟩ rfl ?_
    exact ⟨by rw [hg]; rfl, rfl⟩
