/-! THE MIND, THIRD PART -/
set_option maxHeartbeats 4000000 in
set_option maxRecDepth 100000 in
theorem c1_firstToGo (S : Sv) (σ : St) (hR : RepS (σ 2 0) S) (hO : SOK S) : Ct M1_firstToGo 3 [.inr (.inr (0, 0, 0)), .inr (.inr (2, 0, 0))] σ (PI fun r9 σ' => optI (firstN S 60 S) = r9 ∧ Only 2 3 σ σ') := by
  refine Ct.of f_1_firstToGo (Nat.le_of_ble_eq_true rfl) ?_
  show AW M1_firstToGo 3 _ (0, [(0, .inr (.inr (0, 0, 0))), (1, .inr (.inr (2, 0, 0)))], [], σ)
  refine AW.run 3 [] (5, [(0, .inr (.inr (0, 0, 0))), (1, .inr (.inr (2, 0, 0)))], [.inr (.inr (2, 0, 0)), .inr (.inr (2, 3, 0))], σ) [] rfl ?_ ?_
  · exact trivial
  refine AW.callVV (d' := 1) [.inr (.inr (2, 0, 0))] [] ⟨_, rfl⟩ f_3_copyFrom v_3_copyFrom l_1_25 ⟨rfl, by decide⟩ rfl (Nat.le_of_ble_eq_true rfl) rfl (Nat.le_of_ble_eq_true rfl) (c3_copyFrom 3 0 (by decide) S σ hR hO) ?_
  rintro τ37 ⟨a37, b37⟩
  refine AW.run 2 [] (10, [(2, .inl 0), (0, .inr (.inr (0, 0, 0))), (1, .inr (.inr (2, 0, 0)))], [], τ37) [] rfl ?_ ?_
  · exact trivial
  refine AW.pick [1, 2, 0] (ls' := [(0, .inr (.inr (0, 0, 0))), (1, .inr (.inr (2, 0, 0))), (2, .inl (nI 0))]) rfl ?_
  refine AW.loop (α := Sv) 10 60 (fun d T => [(0, .inr (.inr (0, 0, 0))), (1, .inr (.inr (2, 0, 0))), (2, .inl (nI d))]) (fun d T τ => Only 2 3 σ τ ∧ RepS (τ 2 3) T ∧ SOK T ∧ firstN S 60 S = firstN S (60 - d) T) ?_ ?_ 60 0 S _ (by omega) ⟨(only_trans only_rfl a37), b37, hO, rfl⟩
  · intro d T τ hd hI hk
    obtain ⟨hA, hT, hOT, hg⟩ := hI
    have hu : firstN S (60 - d) T = match fstN (newGone S (dayS T)) 8 0 with | some i => some i | none => firstN S (60 - (d + 1)) (dayS T) := by
      obtain ⟨m, hm⟩ : ∃ m, 60 - d = m + 1 := ⟨59 - d, by omega⟩
      rw [hm, show 60 - (d + 1) = m by omega]; rfl
    rw [hu] at hg
    refine AW.run 5 [false] (20, [(0, .inr (.inr (0, 0, 0))), (1, .inr (.inr (2, 0, 0))), (2, .inl (nI d))], [.inr (.inr (2, 3, 0))], τ) [¬ icP .ge (nI d) 60] rfl ?_ ?_
    · exact allP1 (nle_lit (a := 60) hd (by decide))
    refine AW.callVV (d' := 2) [] [] ⟨_, rfl⟩ f_3_dayGoesBy v_3_dayGoesBy l_1_47 ⟨rfl, by decide⟩ rfl (Nat.le_of_ble_eq_true rfl) rfl (Nat.le_of_ble_eq_true rfl) (c3_dayGoesBy 3 T τ hT hOT ) ?_
    rintro τ38 ⟨a38, b38⟩
    refine AW.run 2 [] (27, [(0, .inr (.inr (0, 0, 0))), (1, .inr (.inr (2, 0, 0))), (2, .inl (nI d))], [.inl (τ38 2 0 0 8)], τ38) [] rfl ?_ ?_
    · exact trivial
    rw [(only_rep (only_trans hA a38) hR).1.2.1]
    refine AW.run 3 [] (34, [(0, .inr (.inr (0, 0, 0))), (1, .inr (.inr (2, 0, 0))), (2, .inl (nI d))], [.inl (τ38 2 3 0 8), .inl (bI (Sw S))], τ38) [] rfl ?_ ?_
    · exact trivial
    rw [b38.1.2.1]
    refine AW.run 3 [] (37, [(0, .inr (.inr (0, 0, 0))), (1, .inr (.inr (2, 0, 0))), (2, .inl (nI d))], [.inl ((bI (Sw S)) &&& ((bI (Sw (dayS T))) ^^^ (-1)))], τ38) [] rfl ?_ ?_
    · exact trivial
    rw [bI_andn]
    change AW M1_firstToGo 3 _ (37, [(0, .inr (.inr (0, 0, 0))), (1, .inr (.inr (2, 0, 0))), (2, .inl (nI d))], [.inl (bI (newGone S (dayS T)))], τ38)
    refine AW.run 3 [] (41, [(4, .inl 0), (3, .inl (bI (newGone S (dayS T)))), (0, .inr (.inr (0, 0, 0))), (1, .inr (.inr (2, 0, 0))), (2, .inl (nI d))], [], τ38) [] rfl ?_ ?_
    · exact trivial
    refine AW.pick [2, 3, 4, 1, 0] (ls' := [(0, .inr (.inr (0, 0, 0))), (1, .inr (.inr (2, 0, 0))), (2, .inl (nI d)), (3, .inl (bI (newGone S (dayS T)))), (4, .inl (nI 0))]) rfl ?_
    refine AW.loop (α := Unit) 41 8 (fun i _ => [(0, .inr (.inr (0, 0, 0))), (1, .inr (.inr (2, 0, 0))), (2, .inl (nI d)), (3, .inl (bI (newGone S (dayS T)))), (4, .inl (nI i))]) (fun i _ τ9 => τ38 = τ9 ∧ fstN (newGone S (dayS T)) 8 0 = fstN (newGone S (dayS T)) (8 - i) i) ?_ ?_ 8 0 () _ (by omega) ⟨rfl, rfl⟩
    · intro i _ τ9 hi hJ hk9
      obtain ⟨rfl, hJ⟩ := hJ
      have hu9 : fstN (newGone S (dayS T)) (8 - i) i = if newGone S (dayS T) i = true then some i else fstN (newGone S (dayS T)) (8 - (i + 1)) (i + 1) := by
        obtain ⟨m, hm⟩ : ∃ m, 8 - i = m + 1 := ⟨7 - i, by omega⟩
        rw [hm, show 8 - (i + 1) = m by omega]; rfl
      have hbit := bI_bit (newGone S (dayS T)) hi
      by_cases hgi : newGone S (dayS T) i = true
      · rw [hu9, if_pos hgi] at hJ
        rw [hJ] at hg
        refine AW.run 8 [false] (54, [(0, .inr (.inr (0, 0, 0))), (1, .inr (.inr (2, 0, 0))), (2, .inl (nI d)), (3, .inl (bI (newGone S (dayS T)))), (4, .inl (nI i))], [.inl (((bI (newGone S (dayS T))) >>> ((nI i) &&& 31)) &&& 1)], τ38) [¬ icP .ge (nI i) 8] rfl ?_ ?_
        · exact allP1 (nle_lit (a := 8) hi (by decide))
        rw [hbit]
        refine AW.run 2 [false] (59, [(0, .inr (.inr (0, 0, 0))), (1, .inr (.inr (2, 0, 0))), (2, .inl (nI d)), (3, .inl (bI (newGone S (dayS T)))), (4, .inl (nI i))], [.inl (nI i)], τ38) [¬ icP .eq (if newGone S (dayS T) i = true then 1 else 0) 0] rfl ?_ ?_
        · exact allP1 (by rw [if_pos hgi]; exact (by decide : ¬ (1 : Int32) = 0))
        refine AW.reti ⟨_, rfl⟩ rfl ?_
        exact ⟨by rw [hg]; rfl, (only_trans hA a38)⟩
      · skip
        refine AW.run 8 [false] (54, [(0, .inr (.inr (0, 0, 0))), (1, .inr (.inr (2, 0, 0))), (2, .inl (nI d)), (3, .inl (bI (newGone S (dayS T)))), (4, .inl (nI i))], [.inl (((bI (newGone S (dayS T))) >>> ((nI i) &&& 31)) &&& 1)], τ38) [¬ icP .ge (nI i) 8] rfl ?_ ?_
        · exact allP1 (nle_lit (a := 8) hi (by decide))
        rw [hbit]
        refine AW.run 3 [true] (41, [(4, .inl ((nI i) + 1)), (0, .inr (.inr (0, 0, 0))), (1, .inr (.inr (2, 0, 0))), (2, .inl (nI d)), (3, .inl (bI (newGone S (dayS T))))], [], τ38) [icP .eq (if newGone S (dayS T) i = true then 1 else 0) 0] rfl ?_ ?_
        · exact allP1 (by rw [if_neg hgi]; exact (rfl : (0 : Int32) = 0))
        rw [nI_1 i]
        refine AW.pick [1, 2, 3, 4, 0] (ls' := [(0, .inr (.inr (0, 0, 0))), (1, .inr (.inr (2, 0, 0))), (2, .inl (nI d)), (3, .inl (bI (newGone S (dayS T)))), (4, .inl (nI (i + 1)))]) rfl ?_
        exact hk9 () _ ⟨rfl, by rw [hJ, hu9, if_neg hgi]⟩
    · intro _ τ9 hJ
      obtain ⟨rfl, hJ⟩ := hJ
      have hJ : fstN (newGone S (dayS T)) 8 0 = none := hJ
      rw [hJ] at hg
      refine AW.run 5 [true] (10, [(2, .inl ((nI d) + 1)), (0, .inr (.inr (0, 0, 0))), (1, .inr (.inr (2, 0, 0))), (3, .inl (bI (newGone S (dayS T)))), (4, .inl (nI 8))], [], τ38) [icP .ge (nI 8) 8] rfl ?_ ?_
      · exact allP1 (le_lit (a := 8) (b := 8) (by decide) (by decide))
      rw [nI_1 d]
      refine AW.pick [1, 2, 0] (ls' := [(0, .inr (.inr (0, 0, 0))), (1, .inr (.inr (2, 0, 0))), (2, .inl (nI (d + 1)))]) rfl ?_
      exact hk (dayS T) _ ⟨(only_trans hA a38), b38, (SOK_day hOT), hg⟩
  · intro T τ hI
    obtain ⟨hA, hT, hOT, hg⟩ := hI
    refine AW.run 4 [true] (74, [(0, .inr (.inr (0, 0, 0))), (1, .inr (.inr (2, 0, 0))), (2, .inl (nI 60))], [.inl (-9)], τ) [icP .ge (nI 60) 60] rfl ?_ ?_
    · exact allP1 (le_lit (a := 60) (b := 60) (by decide) (by decide))
    refine AW.reti ⟨_, rfl⟩ rfl ?_
    exact ⟨by rw [hg]; rfl, hA⟩
set_option maxHeartbeats 4000000 in
set_option maxRecDepth 100000 in
theorem c1_longestQuiet (S : Sv) (σ : St) (hR : RepS (σ 2 0) S) (hO : SOK S) : Ct M1_longestQuiet 3 [.inr (.inr (0, 0, 0)), .inr (.inr (2, 0, 0))] σ (PI fun r9 σ' => nI (quietN S 60).1 = r9 ∧ Only 2 3 σ σ') := by
  refine Ct.of f_1_longestQuiet (Nat.le_of_ble_eq_true rfl) ?_
  show AW M1_longestQuiet 3 _ (0, [(0, .inr (.inr (0, 0, 0))), (1, .inr (.inr (2, 0, 0)))], [], σ)
  refine AW.run 3 [] (5, [(0, .inr (.inr (0, 0, 0))), (1, .inr (.inr (2, 0, 0)))], [.inr (.inr (2, 0, 0)), .inr (.inr (2, 3, 0))], σ) [] rfl ?_ ?_
  · exact trivial
  refine AW.callVV (d' := 1) [.inr (.inr (2, 0, 0))] [] ⟨_, rfl⟩ f_3_copyFrom v_3_copyFrom l_1_25 ⟨rfl, by decide⟩ rfl (Nat.le_of_ble_eq_true rfl) rfl (Nat.le_of_ble_eq_true rfl) (c3_copyFrom 3 0 (by decide) S σ hR hO) ?_
  rintro τ39 ⟨a39, b39⟩
  refine AW.run 6 [] (15, [(4, .inl 0), (3, .inl 0), (2, .inl 0), (0, .inr (.inr (0, 0, 0))), (1, .inr (.inr (2, 0, 0)))], [], τ39) [] rfl ?_ ?_
  · exact trivial
  refine AW.pick [3, 4, 2, 1, 0] (ls' := [(0, .inr (.inr (0, 0, 0))), (1, .inr (.inr (2, 0, 0))), (2, .inl (nI (quietN S 0).1)), (3, .inl (nI (quietN S 0).2)), (4, .inl (nI 0))]) rfl ?_
  refine AW.loop (α := Unit) 15 60 (fun d _ => [(0, .inr (.inr (0, 0, 0))), (1, .inr (.inr (2, 0, 0))), (2, .inl (nI (quietN S d).1)), (3, .inl (nI (quietN S d).2)), (4, .inl (nI d))]) (fun d _ τ => Only 2 3 σ τ ∧ RepS (τ 2 3) (passS d S)) ?_ ?_ 60 0 () _ (by omega) ⟨(only_trans only_rfl a39), b39⟩
  · intro d _ τ hd hI hk
    obtain ⟨hA, hT⟩ := hI
    have hOT := SOK_pass d hO
    obtain ⟨l1, l2⟩ := quietN_le (S := S) d
    by_cases hsm : sameW (dayS (passS d S)) (passS d S) = true
    · have hs : quietN S (d + 1) = (Nat.max (quietN S d).1 ((quietN S d).2 + 1), (quietN S d).2 + 1) := by simp only [quietN, pass_succ]; rw [if_pos hsm]
      have he : bI (Sw (dayS (passS d S))) = bI (Sw (passS d S)) := bI_eq.mpr (of_decide_eq_true hsm)
      refine AW.run 6 [false] (29, [(0, .inr (.inr (0, 0, 0))), (1, .inr (.inr (2, 0, 0))), (2, .inl (nI (quietN S d).1)), (3, .inl (nI (quietN S d).2)), (4, .inl (nI d))], [.inl (τ 2 3 0 8)], τ) [¬ icP .ge (nI d) 60] rfl ?_ ?_
      · exact allP1 (nle_lit (a := 60) hd (by decide))
      rw [hT.1.2.1]
      refine AW.run 3 [] (35, [(5, .inl (bI (Sw (passS d S)))), (0, .inr (.inr (0, 0, 0))), (1, .inr (.inr (2, 0, 0))), (2, .inl (nI (quietN S d).1)), (3, .inl (nI (quietN S d).2)), (4, .inl (nI d))], [.inr (.inr (2, 3, 0))], τ) [] rfl ?_ ?_
      · exact trivial
      refine AW.callVV (d' := 2) [] [] ⟨_, rfl⟩ f_3_dayGoesBy v_3_dayGoesBy l_1_47 ⟨rfl, by decide⟩ rfl (Nat.le_of_ble_eq_true rfl) rfl (Nat.le_of_ble_eq_true rfl) (c3_dayGoesBy 3 (passS d S) τ hT hOT ) ?_
      rintro τ40 ⟨a40, b40⟩
      refine AW.run 3 [] (45, [(5, .inl (bI (Sw (passS d S)))), (0, .inr (.inr (0, 0, 0))), (1, .inr (.inr (2, 0, 0))), (2, .inl (nI (quietN S d).1)), (3, .inl (nI (quietN S d).2)), (4, .inl (nI d))], [.inl (τ40 2 3 0 8)], τ40) [] rfl ?_ ?_
      · exact trivial
      rw [b40.1.2.1]
      refine AW.run 6 [false] (57, [(5, .inl (bI (Sw (passS d S)))), (0, .inr (.inr (0, 0, 0))), (1, .inr (.inr (2, 0, 0))), (2, .inl (nI (quietN S d).1)), (3, .inl (nI (quietN S d).2)), (4, .inl (nI d))], [.inl ((nI (quietN S d).2) + 1)], τ40) [¬ icP .ne (bI (Sw (dayS (passS d S)))) (bI (Sw (passS d S)))] rfl ?_ ?_
      · exact allP1 (fun q => q he)
      rw [nI_1]
      refine AW.run 3 [] (60, [(3, .inl (nI ((quietN S d).2 + 1))), (5, .inl (bI (Sw (passS d S)))), (0, .inr (.inr (0, 0, 0))), (1, .inr (.inr (2, 0, 0))), (2, .inl (nI (quietN S d).1)), (4, .inl (nI d))], [.inl (nI ((quietN S d).2 + 1)), .inl (nI (quietN S d).1)], τ40) [] rfl ?_ ?_
      · exact trivial
      refine AW.max ⟨_, rfl⟩ l_1_50 (Nat.le_of_ble_eq_true rfl) (Nat.le_of_ble_eq_true rfl) ?_
      rw [max_nI (by omega) (by omega)]
      refine AW.run 3 [] (15, [(4, .inl ((nI d) + 1)), (2, .inl (nI (Nat.max (quietN S d).1 ((quietN S d).2 + 1)))), (3, .inl (nI ((quietN S d).2 + 1))), (5, .inl (bI (Sw (passS d S)))), (0, .inr (.inr (0, 0, 0))), (1, .inr (.inr (2, 0, 0)))], [], τ40) [] rfl ?_ ?_
      · exact trivial
      have hx := hk () τ40 ⟨(only_trans hA a40), by rw [pass_succ]; exact b40⟩
      rw [hs, ← nI_1 d] at hx
      refine AW.pick [4, 5, 1, 2, 0] (ls' := _) rfl ?_
      exact hx
    · have hs : quietN S (d + 1) = (Nat.max (quietN S d).1 0, 0) := by simp only [quietN, pass_succ]; rw [if_neg hsm]
      have he : ¬ bI (Sw (dayS (passS d S))) = bI (Sw (passS d S)) := fun q => hsm (decide_eq_true (bI_eq.mp q))
      refine AW.run 6 [false] (29, [(0, .inr (.inr (0, 0, 0))), (1, .inr (.inr (2, 0, 0))), (2, .inl (nI (quietN S d).1)), (3, .inl (nI (quietN S d).2)), (4, .inl (nI d))], [.inl (τ 2 3 0 8)], τ) [¬ icP .ge (nI d) 60] rfl ?_ ?_
      · exact allP1 (nle_lit (a := 60) hd (by decide))
      rw [hT.1.2.1]
      refine AW.run 3 [] (35, [(5, .inl (bI (Sw (passS d S)))), (0, .inr (.inr (0, 0, 0))), (1, .inr (.inr (2, 0, 0))), (2, .inl (nI (quietN S d).1)), (3, .inl (nI (quietN S d).2)), (4, .inl (nI d))], [.inr (.inr (2, 3, 0))], τ) [] rfl ?_ ?_
      · exact trivial
      refine AW.callVV (d' := 2) [] [] ⟨_, rfl⟩ f_3_dayGoesBy v_3_dayGoesBy l_1_47 ⟨rfl, by decide⟩ rfl (Nat.le_of_ble_eq_true rfl) rfl (Nat.le_of_ble_eq_true rfl) (c3_dayGoesBy 3 (passS d S) τ hT hOT ) ?_
      rintro τ41 ⟨a41, b41⟩
      refine AW.run 3 [] (45, [(5, .inl (bI (Sw (passS d S)))), (0, .inr (.inr (0, 0, 0))), (1, .inr (.inr (2, 0, 0))), (2, .inl (nI (quietN S d).1)), (3, .inl (nI (quietN S d).2)), (4, .inl (nI d))], [.inl (τ41 2 3 0 8)], τ41) [] rfl ?_ ?_
      · exact trivial
      rw [b41.1.2.1]
      refine AW.run 6 [true] (60, [(3, .inl 0), (5, .inl (bI (Sw (passS d S)))), (0, .inr (.inr (0, 0, 0))), (1, .inr (.inr (2, 0, 0))), (2, .inl (nI (quietN S d).1)), (4, .inl (nI d))], [.inl 0, .inl (nI (quietN S d).1)], τ41) [icP .ne (bI (Sw (dayS (passS d S)))) (bI (Sw (passS d S)))] rfl ?_ ?_
      · exact allP1 (he)
      refine AW.max ⟨_, rfl⟩ l_1_50 (Nat.le_of_ble_eq_true rfl) (Nat.le_of_ble_eq_true rfl) ?_
      rw [max_n0 (by omega)]
      refine AW.run 3 [] (15, [(4, .inl ((nI d) + 1)), (2, .inl (nI (Nat.max (quietN S d).1 0))), (3, .inl 0), (5, .inl (bI (Sw (passS d S)))), (0, .inr (.inr (0, 0, 0))), (1, .inr (.inr (2, 0, 0)))], [], τ41) [] rfl ?_ ?_
      · exact trivial
      have hx := hk () τ41 ⟨(only_trans hA a41), by rw [pass_succ]; exact b41⟩
      rw [hs, ← nI_1 d] at hx
      refine AW.pick [4, 5, 1, 2, 0] (ls' := _) rfl ?_
      exact hx
  · intro _ τ hI
    obtain ⟨hA, hT⟩ := hI
    refine AW.run 4 [true] (71, [(0, .inr (.inr (0, 0, 0))), (1, .inr (.inr (2, 0, 0))), (2, .inl (nI (quietN S 60).1)), (3, .inl (nI (quietN S 60).2)), (4, .inl (nI 60))], [.inl (nI (quietN S 60).1)], τ) [icP .ge (nI 60) 60] rfl ?_ ?_
    · exact allP1 (le_lit (a := 60) (b := 60) (by decide) (by decide))
    refine AW.reti ⟨_, rfl⟩ rfl ?_
    exact ⟨rfl, hA⟩
set_option maxHeartbeats 4000000 in
set_option maxRecDepth 100000 in
theorem c1_leftWithSugar (S : Sv) (σ : St) (hR : RepS (σ 2 0) S) (hO : SOK S) (u n : Nat) (hu : u ≤ 9) (hn : n < 2 ^ 31) : Ct M1_leftWithSugar 4 [.inr (.inr (0, 0, 0)), .inr (.inr (2, 0, 0)), .inl (nI u), .inl (nI n)] σ (PI fun r9 σ' => nI (leftS (withU S u (She S)) n) = r9 ∧ Only 2 3 σ σ') := by
  refine Ct.of f_1_leftWithSugar (Nat.le_of_ble_eq_true rfl) ?_
  show AW M1_leftWithSugar 4 _ (0, [(0, .inr (.inr (0, 0, 0))), (1, .inr (.inr (2, 0, 0))), (2, .inl (nI u)), (3, .inl (nI n))], [], σ)
  refine AW.run 3 [] (5, [(0, .inr (.inr (0, 0, 0))), (1, .inr (.inr (2, 0, 0))), (2, .inl (nI u)), (3, .inl (nI n))], [.inr (.inr (2, 0, 0)), .inr (.inr (2, 3, 0))], σ) [] rfl ?_ ?_
  · exact trivial
  refine AW.callVV (d' := 1) [.inr (.inr (2, 0, 0))] [] ⟨_, rfl⟩ f_3_copyFrom v_3_copyFrom l_1_25 ⟨rfl, by decide⟩ rfl (Nat.le_of_ble_eq_true rfl) rfl (Nat.le_of_ble_eq_true rfl) (c3_copyFrom 3 0 (by decide) S σ hR hO) ?_
  rintro τ42 ⟨a42, b42⟩
  refine AW.run 5 [] (17, [(0, .inr (.inr (0, 0, 0))), (1, .inr (.inr (2, 0, 0))), (2, .inl (nI u)), (3, .inl (nI n))], [.inl (τ42 2 0 0 11), .inl (nI u), .inr (.inr (2, 3, 0))], τ42) [] rfl ?_ ?_
  · exact trivial
  rw [(only_rep (only_trans only_rfl a42) hR).1.2.2.2.2.1]
  refine AW.callVV (d' := 2) [.inl (nI u), .inl (nI (She S))] [] ⟨_, rfl⟩ f_3_nourish v_3_nourish l_1_95 ⟨rfl, by decide⟩ rfl (Nat.le_of_ble_eq_true rfl) rfl (Nat.le_of_ble_eq_true rfl) (c3_nourish 3 S τ42 b42 hO u (She S) hu hO.2.2.2.2) ?_
  rintro τ43 ⟨a43, b43⟩
  refine AW.run 3 [] (25, [(0, .inr (.inr (0, 0, 0))), (1, .inr (.inr (2, 0, 0))), (2, .inl (nI u)), (3, .inl (nI n))], [.inl (nI n), .inr (.inr (2, 3, 0))], τ43) [] rfl ?_ ?_
  · exact trivial
  refine AW.callVV (d' := 3) [.inl (nI n)] [] ⟨_, rfl⟩ f_3_pass v_3_pass l_1_29 ⟨rfl, by decide⟩ rfl (Nat.le_of_ble_eq_true rfl) rfl (Nat.le_of_ble_eq_true rfl) (c3_pass 3 (withU S u (She S)) τ43 b43 (SOK_U hO hu hO.2.2.2.2) n (by omega)) ?_
  rintro τ44 ⟨a44, b44⟩
  refine AW.run 3 [] (35, [(0, .inr (.inr (0, 0, 0))), (1, .inr (.inr (2, 0, 0))), (2, .inl (nI u)), (3, .inl (nI n))], [.inl (τ44 2 3 0 8)], τ44) [] rfl ?_ ?_
  · exact trivial
  rw [b44.1.2.1]
  refine AW.callSI (d' := 0) [.inl (bI (Sw (passS n (withU S u (She S)))))] [] ⟨_, rfl⟩ f_J_bitCount s_J_bitCount l_1_37 rfl (Nat.le_of_ble_eq_true rfl) rfl (Nat.le_of_ble_eq_true rfl) (cJ_bitCount (bI (Sw (passS n (withU S u (She S))))) τ44) ?_
  rintro _ _ ⟨rfl, rfl⟩
  refine AW.reti ⟨_, rfl⟩ rfl ?_
  exact ⟨(bcV_bI _).symm, (only_trans (only_trans (only_trans only_rfl a42) a43) a44)⟩
/-- the best sugar: the greatest of the best -/
def bsug (S : Sv) (n : Nat) : Nat → Nat × Option Nat
  | 0 => (0, none)
  | u + 1 => if above (bsug S n u).2 (leftS (withU S u (She S)) n + 1) = true then (u, some (leftS (withU S u (She S)) n)) else bsug S n u
theorem bsug_le {S : Sv} {n : Nat} : ∀ i, (∀ m, (bsug S n i).2 = some m → m ≤ 8) ∧ (bsug S n i).1 ≤ i
  | 0 => ⟨fun m h => (by cases h), Nat.le_refl _⟩
  | i + 1 => by
    obtain ⟨h1, h2⟩ := bsug_le (S := S) (n := n) i
    unfold bsug
    split
    · exact ⟨fun m h => by cases h; exact leftS_le _ _, by omega⟩
    · exact ⟨h1, by omega⟩
theorem above_ge {o : Option Nat} {v : Nat} (hv : v ≤ 8) (ho : ∀ m, o = some m → m ≤ 8) : nI v < optM o ↔ above o (v + 1) = false := by
  cases o with
  | none =>
    have h : ∀ v < 9, ¬ nI v < (-1 : Int32) := by decide
    exact ⟨fun q => absurd q (h v (by omega)), fun q => by cases q⟩
  | some m =>
    have := ho m rfl
    simp only [optM, above]
    rw [nI_ltI (by omega) (by omega)]
    simp
    omega
set_option maxHeartbeats 4000000 in
set_option maxRecDepth 100000 in
theorem c1_bestSugar (S : Sv) (σ : St) (hR : RepS (σ 2 0) S) (hO : SOK S) (n : Nat) (hn : n < 2 ^ 31) : Ct M1_bestSugar 5 [.inr (.inr (0, 0, 0)), .inr (.inr (2, 0, 0)), .inl (nI n)] σ (PI fun r9 σ' => nI (bsug S n 10).1 = r9 ∧ Only 2 3 σ σ') := by
  refine Ct.of f_1_bestSugar (Nat.le_of_ble_eq_true rfl) ?_
  show AW M1_bestSugar 5 _ (0, [(0, .inr (.inr (0, 0, 0))), (1, .inr (.inr (2, 0, 0))), (2, .inl (nI n))], [], σ)
  refine AW.run 6 [] (8, [(5, .inl 0), (4, .inl (-1)), (3, .inl 0), (0, .inr (.inr (0, 0, 0))), (1, .inr (.inr (2, 0, 0))), (2, .inl (nI n))], [], σ) [] rfl ?_ ?_
  · exact trivial
  refine AW.pick [3, 4, 5, 2, 1, 0] (ls' := [(0, .inr (.inr (0, 0, 0))), (1, .inr (.inr (2, 0, 0))), (2, .inl (nI n)), (3, .inl (nI (bsug S n 0).1)), (4, .inl (optM (bsug S n 0).2)), (5, .inl (nI 0))]) rfl ?_
  refine AW.loop (α := Unit) 8 10 (fun d _ => [(0, .inr (.inr (0, 0, 0))), (1, .inr (.inr (2, 0, 0))), (2, .inl (nI n)), (3, .inl (nI (bsug S n d).1)), (4, .inl (optM (bsug S n d).2)), (5, .inl (nI d))]) (fun d _ τ => Only 2 3 σ τ) ?_ ?_ 10 0 () _ (by omega) only_rfl
  · intro d _ τ hd hA hk
    obtain ⟨hlim, _⟩ := bsug_le (S := S) (n := n) d
    have hle := leftS_le (withU S d (She S)) n
    by_cases hab : above (bsug S n d).2 (leftS (withU S d (She S)) n + 1) = true
    · have hs : bsug S n (d + 1) = (d, some (leftS (withU S d (She S)) n)) := by simp only [bsug]; rw [if_pos hab]
      refine AW.run 7 [false] (20, [(0, .inr (.inr (0, 0, 0))), (1, .inr (.inr (2, 0, 0))), (2, .inl (nI n)), (3, .inl (nI (bsug S n d).1)), (4, .inl (optM (bsug S n d).2)), (5, .inl (nI d))], [.inl (nI n), .inl (nI d), .inr (.inr (2, 0, 0)), .inr (.inr (0, 0, 0))], τ) [¬ icP .gt (nI d) 9] rfl ?_ ?_
      · exact allP1 (nI_nlt (a := 9) (b := d) (by omega) (by omega))
      refine AW.callVI (d' := 4) [.inr (.inr (2, 0, 0)), .inl (nI d), .inl (nI n)] [] ⟨_, rfl⟩ f_1_leftWithSugar v_1_leftWithSugar l_1_98 ⟨rfl, by decide⟩ rfl (Nat.le_of_ble_eq_true rfl) rfl (Nat.le_of_ble_eq_true rfl) (c1_leftWithSugar S τ (only_rep hA hR) hO d n (by omega) (by omega)) ?_
      rintro _ τ45 ⟨rfl, a45⟩
      refine AW.run 10 [false] (8, [(5, .inl ((nI d) + 1)), (3, .inl (nI d)), (4, .inl (nI (leftS (withU S d (She S)) n))), (6, .inl (nI (leftS (withU S d (She S)) n))), (0, .inr (.inr (0, 0, 0))), (1, .inr (.inr (2, 0, 0))), (2, .inl (nI n))], [], τ45) [¬ icP .lt (nI (leftS (withU S d (She S)) n)) (optM (bsug S n d).2)] rfl ?_ ?_
      · exact allP1 (fun q9 => by rw [(above_ge hle hlim).mp q9] at hab; cases hab)
      have hx := hk () τ45 (only_trans hA a45)
      rw [hs, ← nI_1 d] at hx
      refine AW.pick [4, 5, 6, 1, 2, 0] (ls' := _) rfl ?_
      exact hx
    · have hs : bsug S n (d + 1) = bsug S n d := by simp only [bsug]; rw [if_neg hab]
      refine AW.run 7 [false] (20, [(0, .inr (.inr (0, 0, 0))), (1, .inr (.inr (2, 0, 0))), (2, .inl (nI n)), (3, .inl (nI (bsug S n d).1)), (4, .inl (optM (bsug S n d).2)), (5, .inl (nI d))], [.inl (nI n), .inl (nI d), .inr (.inr (2, 0, 0)), .inr (.inr (0, 0, 0))], τ) [¬ icP .gt (nI d) 9] rfl ?_ ?_
      · exact allP1 (nI_nlt (a := 9) (b := d) (by omega) (by omega))
      refine AW.callVI (d' := 4) [.inr (.inr (2, 0, 0)), .inl (nI d), .inl (nI n)] [] ⟨_, rfl⟩ f_1_leftWithSugar v_1_leftWithSugar l_1_98 ⟨rfl, by decide⟩ rfl (Nat.le_of_ble_eq_true rfl) rfl (Nat.le_of_ble_eq_true rfl) (c1_leftWithSugar S τ (only_rep hA hR) hO d n (by omega) (by omega)) ?_
      rintro _ τ46 ⟨rfl, a46⟩
      refine AW.run 6 [true] (8, [(5, .inl ((nI d) + 1)), (6, .inl (nI (leftS (withU S d (She S)) n))), (0, .inr (.inr (0, 0, 0))), (1, .inr (.inr (2, 0, 0))), (2, .inl (nI n)), (3, .inl (nI (bsug S n d).1)), (4, .inl (optM (bsug S n d).2))], [], τ46) [icP .lt (nI (leftS (withU S d (She S)) n)) (optM (bsug S n d).2)] rfl ?_ ?_
      · exact allP1 ((above_ge hle hlim).mpr (by cases hb9 : above (bsug S n d).2 (leftS (withU S d (She S)) n + 1); rfl; exact absurd hb9 hab))
      have hx := hk () τ46 (only_trans hA a46)
      rw [hs, ← nI_1 d] at hx
      refine AW.pick [2, 3, 4, 5, 6, 0] (ls' := _) rfl ?_
      exact hx
  · intro _ τ hI
    refine AW.run 4 [true] (46, [(0, .inr (.inr (0, 0, 0))), (1, .inr (.inr (2, 0, 0))), (2, .inl (nI n)), (3, .inl (nI (bsug S n 10).1)), (4, .inl (optM (bsug S n 10).2)), (5, .inl (nI 10))], [.inl (nI (bsug S n 10).1)], τ) [icP .gt (nI 10) 9] rfl ?_ ?_
    · exact allP1 (nI_lt (a := 9) (b := 10) (by decide) (by decide))
    refine AW.reti ⟨_, rfl⟩ rfl ?_
    exact ⟨rfl, hI⟩
