/-! THE MIND, SIXTH PART -/
set_option maxHeartbeats 4000000 in
set_option maxRecDepth 100000 in
theorem c1_daysTillOneGoesHalved (S : Sv) (σ : St) (hR : RepS (σ 2 0) S) (hO : SOK S) : Ct M1_daysTillOneGoesHalved 3 [.inr (.inr (0, 0, 0)), .inr (.inr (2, 0, 0))] σ (PI fun r9 σ' => optI (hlvN S 60 1 S) = r9 ∧ Only 2 3 σ σ') := by
  refine Ct.of f_1_daysTillOneGoesHalved (Nat.le_of_ble_eq_true rfl) ?_
  show AW M1_daysTillOneGoesHalved 3 _ (0, [(0, .inr (.inr (0, 0, 0))), (1, .inr (.inr (2, 0, 0)))], [], σ)
  refine AW.run 3 [] (5, [(0, .inr (.inr (0, 0, 0))), (1, .inr (.inr (2, 0, 0)))], [.inr (.inr (2, 0, 0)), .inr (.inr (2, 3, 0))], σ) [] rfl ?_ ?_
  · exact trivial
  refine AW.callVV (d' := 1) [.inr (.inr (2, 0, 0))] [] ⟨_, rfl⟩ f_3_copyFrom v_3_copyFrom l_1_25 ⟨rfl, by decide⟩ rfl (Nat.le_of_ble_eq_true rfl) rfl (Nat.le_of_ble_eq_true rfl) (c3_copyFrom 3 0 (by decide) S σ hR hO) ?_
  rintro τ64 ⟨a64, b64⟩
  refine AW.run 2 [] (10, [(2, .inl 1), (0, .inr (.inr (0, 0, 0))), (1, .inr (.inr (2, 0, 0)))], [], τ64) [] rfl ?_ ?_
  · exact trivial
  refine AW.pick [1, 2, 0] (ls' := [(0, .inr (.inr (0, 0, 0))), (1, .inr (.inr (2, 0, 0))), (2, .inl (nI (0 + 1)))]) rfl ?_
  refine AW.loop (α := Sv) 10 60 (fun d T => [(0, .inr (.inr (0, 0, 0))), (1, .inr (.inr (2, 0, 0))), (2, .inl (nI (d + 1)))]) (fun d T τ => Only 2 3 σ τ ∧ RepS (τ 2 3) T ∧ SOK T ∧ hlvN S 60 1 S = hlvN S (60 - d) (d + 1) T) ?_ ?_ 60 0 S _ (by omega) ⟨(only_trans only_rfl a64), b64, hO, rfl⟩
  · intro d T τ hd hI hk
    obtain ⟨hA, hT, hOT, hg⟩ := hI
    have hw : hlvN S (60 - d) (d + 1) T = if sameW (hlvD (d + 1) T) S = true then hlvN S (60 - (d + 1)) (d + 1 + 1) (hlvD (d + 1) T) else some (d + 1) := by
      obtain ⟨k, hk⟩ : ∃ k, 60 - d = k + 1 := ⟨59 - d, by omega⟩
      rw [hk, show 60 - (d + 1) = k by omega]; rfl
    rw [hw] at hg
    have hr7 := rem7 (d + 1) (by omega)
    by_cases h7 : (d + 1) % 7 = 0
    · have hD : hlvD (d + 1) T = dayS (halfS T) := by simp [hlvD, h7]
      refine AW.run 9 [false, false] (27, [(0, .inr (.inr (0, 0, 0))), (1, .inr (.inr (2, 0, 0))), (2, .inl (nI (d + 1)))], [.inr (.inr (2, 3, 0))], τ) [¬ icP .gt (nI (d + 1)) 60, ¬ (7 : Int32) = 0, ¬ icP .ne ((nI (d + 1)) - (nI (d + 1)) / 7 * 7) 0] rfl ?_ ?_
      · exact ⟨(nI_nlt (a := 60) (b := d + 1) (by omega) (by omega)), (by decide), allP1 (fun q => q (hr7.mpr h7))⟩
      refine AW.callVV (d' := 1) [] [] ⟨_, rfl⟩ f_3_halvePress v_3_halvePress l_1_109 ⟨rfl, by decide⟩ rfl (Nat.le_of_ble_eq_true rfl) rfl (Nat.le_of_ble_eq_true rfl) (c3_halvePress 3 T τ hT hOT ) ?_
      rintro τ65 ⟨a65, b65⟩
      refine AW.run 2 [] (34, [(0, .inr (.inr (0, 0, 0))), (1, .inr (.inr (2, 0, 0))), (2, .inl (nI (d + 1)))], [.inr (.inr (2, 3, 0))], τ65) [] rfl ?_ ?_
      · exact trivial
      refine AW.callVV (d' := 2) [] [] ⟨_, rfl⟩ f_3_dayGoesBy v_3_dayGoesBy l_1_47 ⟨rfl, by decide⟩ rfl (Nat.le_of_ble_eq_true rfl) rfl (Nat.le_of_ble_eq_true rfl) (c3_dayGoesBy 3 (halfS T) τ65 b65 (SOK_halfQ hOT 8) ) ?_
      rintro τ66 ⟨a66, b66⟩
      refine AW.run 3 [] (44, [(0, .inr (.inr (0, 0, 0))), (1, .inr (.inr (2, 0, 0))), (2, .inl (nI (d + 1)))], [.inl (τ66 2 3 0 8)], τ66) [] rfl ?_ ?_
      · exact trivial
      rw [b66.1.2.1]
      refine AW.run 2 [] (48, [(0, .inr (.inr (0, 0, 0))), (1, .inr (.inr (2, 0, 0))), (2, .inl (nI (d + 1)))], [.inl (τ66 2 0 0 8), .inl (bI (Sw (dayS (halfS T))))], τ66) [] rfl ?_ ?_
      · exact trivial
      rw [(only_rep (only_trans (only_trans hA a65) a66) hR).1.2.1]
      by_cases h48_1 : sameW (hlvD (d + 1) T) S = true
      · skip
        refine AW.run 3 [true] (10, [(2, .inl ((nI (d + 1)) + 1)), (0, .inr (.inr (0, 0, 0))), (1, .inr (.inr (2, 0, 0)))], [], τ66) [icP .eq (bI (Sw (dayS (halfS T)))) (bI (Sw S))] rfl ?_ ?_
        · exact allP1 (bI_eq.mpr (by have := of_decide_eq_true h48_1; rw [hD] at this; exact this))
        rw [nI_1 (d + 1)]
        refine AW.pick [1, 2, 0] (ls' := [(0, .inr (.inr (0, 0, 0))), (1, .inr (.inr (2, 0, 0))), (2, .inl (nI (d + 1 + 1)))]) rfl ?_
        exact hk (hlvD (d + 1) T) _ ⟨(only_trans (only_trans hA a65) a66), by rw [hD]; exact b66, SOK_hlv hOT, by rw [hg, if_pos (by assumption)]⟩
      · skip
        refine AW.run 2 [false] (52, [(0, .inr (.inr (0, 0, 0))), (1, .inr (.inr (2, 0, 0))), (2, .inl (nI (d + 1)))], [.inl (nI (d + 1))], τ66) [¬ icP .eq (bI (Sw (dayS (halfS T)))) (bI (Sw S))] rfl ?_ ?_
        · exact allP1 (fun q => h48_1 (decide_eq_true (by rw [hD]; exact bI_eq.mp q)))
        refine AW.reti ⟨_, rfl⟩ rfl ?_
        exact ⟨by rw [hg, if_neg (by assumption)]; rfl, (only_trans (only_trans hA a65) a66)⟩
    · have hD : hlvD (d + 1) T = dayS T := by simp [hlvD, h7]
      refine AW.run 9 [false, true] (34, [(0, .inr (.inr (0, 0, 0))), (1, .inr (.inr (2, 0, 0))), (2, .inl (nI (d + 1)))], [.inr (.inr (2, 3, 0))], τ) [¬ icP .gt (nI (d + 1)) 60, ¬ (7 : Int32) = 0, icP .ne ((nI (d + 1)) - (nI (d + 1)) / 7 * 7) 0] rfl ?_ ?_
      · exact ⟨(nI_nlt (a := 60) (b := d + 1) (by omega) (by omega)), (by decide), allP1 (fun q => h7 (hr7.mp q))⟩
      refine AW.callVV (d' := 2) [] [] ⟨_, rfl⟩ f_3_dayGoesBy v_3_dayGoesBy l_1_47 ⟨rfl, by decide⟩ rfl (Nat.le_of_ble_eq_true rfl) rfl (Nat.le_of_ble_eq_true rfl) (c3_dayGoesBy 3 T τ hT hOT ) ?_
      rintro τ67 ⟨a67, b67⟩
      refine AW.run 3 [] (44, [(0, .inr (.inr (0, 0, 0))), (1, .inr (.inr (2, 0, 0))), (2, .inl (nI (d + 1)))], [.inl (τ67 2 3 0 8)], τ67) [] rfl ?_ ?_
      · exact trivial
      rw [b67.1.2.1]
      refine AW.run 2 [] (48, [(0, .inr (.inr (0, 0, 0))), (1, .inr (.inr (2, 0, 0))), (2, .inl (nI (d + 1)))], [.inl (τ67 2 0 0 8), .inl (bI (Sw (dayS T)))], τ67) [] rfl ?_ ?_
      · exact trivial
      rw [(only_rep (only_trans hA a67) hR).1.2.1]
      by_cases h48_1 : sameW (hlvD (d + 1) T) S = true
      · skip
        refine AW.run 3 [true] (10, [(2, .inl ((nI (d + 1)) + 1)), (0, .inr (.inr (0, 0, 0))), (1, .inr (.inr (2, 0, 0)))], [], τ67) [icP .eq (bI (Sw (dayS T))) (bI (Sw S))] rfl ?_ ?_
        · exact allP1 (bI_eq.mpr (by have := of_decide_eq_true h48_1; rw [hD] at this; exact this))
        rw [nI_1 (d + 1)]
        refine AW.pick [1, 2, 0] (ls' := [(0, .inr (.inr (0, 0, 0))), (1, .inr (.inr (2, 0, 0))), (2, .inl (nI (d + 1 + 1)))]) rfl ?_
        exact hk (hlvD (d + 1) T) _ ⟨(only_trans hA a67), by rw [hD]; exact b67, SOK_hlv hOT, by rw [hg, if_pos (by assumption)]⟩
      · skip
        refine AW.run 2 [false] (52, [(0, .inr (.inr (0, 0, 0))), (1, .inr (.inr (2, 0, 0))), (2, .inl (nI (d + 1)))], [.inl (nI (d + 1))], τ67) [¬ icP .eq (bI (Sw (dayS T))) (bI (Sw S))] rfl ?_ ?_
        · exact allP1 (fun q => h48_1 (decide_eq_true (by rw [hD]; exact bI_eq.mp q)))
        refine AW.reti ⟨_, rfl⟩ rfl ?_
        exact ⟨by rw [hg, if_neg (by assumption)]; rfl, (only_trans hA a67)⟩
  · intro T τ hI
    obtain ⟨hA, hT, hOT, hg⟩ := hI
    refine AW.run 4 [true] (61, [(0, .inr (.inr (0, 0, 0))), (1, .inr (.inr (2, 0, 0))), (2, .inl (nI (60 + 1)))], [.inl (-9)], τ) [icP .gt (nI (60 + 1)) 60] rfl ?_ ?_
    · exact allP1 (nI_lt (a := 60) (b := 61) (by decide) (by decide))
    refine AW.reti ⟨_, rfl⟩ rfl ?_
    exact ⟨by rw [hg]; rfl, hA⟩
set_option maxHeartbeats 4000000 in
set_option maxRecDepth 100000 in
theorem c1_daysTillAllGone (S : Sv) (σ : St) (hR : RepS (σ 2 0) S) (hO : SOK S) : Ct M1_daysTillAllGone 3 [.inr (.inr (0, 0, 0)), .inr (.inr (2, 0, 0))] σ (PI fun r9 σ' => optI (endN 61 0 S) = r9 ∧ Only 2 3 σ σ') := by
  refine Ct.of f_1_daysTillAllGone (Nat.le_of_ble_eq_true rfl) ?_
  show AW M1_daysTillAllGone 3 _ (0, [(0, .inr (.inr (0, 0, 0))), (1, .inr (.inr (2, 0, 0)))], [], σ)
  refine AW.run 3 [] (5, [(0, .inr (.inr (0, 0, 0))), (1, .inr (.inr (2, 0, 0)))], [.inr (.inr (2, 0, 0)), .inr (.inr (2, 3, 0))], σ) [] rfl ?_ ?_
  · exact trivial
  refine AW.callVV (d' := 1) [.inr (.inr (2, 0, 0))] [] ⟨_, rfl⟩ f_3_copyFrom v_3_copyFrom l_1_25 ⟨rfl, by decide⟩ rfl (Nat.le_of_ble_eq_true rfl) rfl (Nat.le_of_ble_eq_true rfl) (c3_copyFrom 3 0 (by decide) S σ hR hO) ?_
  rintro τ68 ⟨a68, b68⟩
  refine AW.run 2 [] (10, [(2, .inl 0), (0, .inr (.inr (0, 0, 0))), (1, .inr (.inr (2, 0, 0)))], [], τ68) [] rfl ?_ ?_
  · exact trivial
  refine AW.pick [1, 2, 0] (ls' := [(0, .inr (.inr (0, 0, 0))), (1, .inr (.inr (2, 0, 0))), (2, .inl (nI 0))]) rfl ?_
  refine AW.loop (α := Sv) 10 61 (fun d T => [(0, .inr (.inr (0, 0, 0))), (1, .inr (.inr (2, 0, 0))), (2, .inl (nI d))]) (fun d T τ => Only 2 3 σ τ ∧ RepS (τ 2 3) T ∧ SOK T ∧ endN 61 0 S = endN (61 - d) d T) ?_ ?_ 61 0 S _ (by omega) ⟨(only_trans only_rfl a68), b68, hO, rfl⟩
  · intro d T τ hd hI hk
    obtain ⟨hA, hT, hOT, hg⟩ := hI
    have hu : endN (61 - d) d T = if bN (Sw T) = 0 then some d else endN (61 - (d + 1)) (d + 1) (dayS T) := by
      obtain ⟨m, hm⟩ : ∃ m, 61 - d = m + 1 := ⟨60 - d, by omega⟩
      rw [hm, show 61 - (d + 1) = m by omega]; rfl
    rw [hu] at hg
    refine AW.run 6 [false] (23, [(0, .inr (.inr (0, 0, 0))), (1, .inr (.inr (2, 0, 0))), (2, .inl (nI d))], [.inl (τ 2 3 0 8)], τ) [¬ icP .gt (nI d) 60] rfl ?_ ?_
    · exact allP1 (nI_nlt (a := 60) (b := d) (by omega) (by omega))
    rw [hT.1.2.1]
    by_cases h23_1 : bN (Sw T) = 0
    · skip
      refine AW.run 2 [false] (27, [(0, .inr (.inr (0, 0, 0))), (1, .inr (.inr (2, 0, 0))), (2, .inl (nI d))], [.inl (nI d)], τ) [¬ icP .ne (bI (Sw T)) 0] rfl ?_ ?_
      · exact allP1 (fun q => q (bI_z.mpr h23_1))
      refine AW.reti ⟨_, rfl⟩ rfl ?_
      rw [hg, if_pos (by assumption)]
      exact ⟨rfl, hA⟩
    · skip
      refine AW.run 3 [true] (32, [(0, .inr (.inr (0, 0, 0))), (1, .inr (.inr (2, 0, 0))), (2, .inl (nI d))], [.inr (.inr (2, 3, 0))], τ) [icP .ne (bI (Sw T)) 0] rfl ?_ ?_
      · exact allP1 (fun q => h23_1 (bI_z.mp q))
      refine AW.callVV (d' := 2) [] [] ⟨_, rfl⟩ f_3_dayGoesBy v_3_dayGoesBy l_1_47 ⟨rfl, by decide⟩ rfl (Nat.le_of_ble_eq_true rfl) rfl (Nat.le_of_ble_eq_true rfl) (c3_dayGoesBy 3 T τ hT hOT ) ?_
      rintro τ69 ⟨a69, b69⟩
      refine AW.run 2 [] (10, [(2, .inl ((nI d) + 1)), (0, .inr (.inr (0, 0, 0))), (1, .inr (.inr (2, 0, 0)))], [], τ69) [] rfl ?_ ?_
      · exact trivial
      rw [nI_1 d]
      refine AW.pick [1, 2, 0] (ls' := [(0, .inr (.inr (0, 0, 0))), (1, .inr (.inr (2, 0, 0))), (2, .inl (nI (d + 1)))]) rfl ?_
      exact hk (dayS T) _ ⟨(only_trans hA a69), b69, (SOK_day hOT), by rw [hg, if_neg (by assumption)]⟩
  · intro T τ hI
    obtain ⟨hA, hT, hOT, hg⟩ := hI
    refine AW.run 4 [true] (43, [(0, .inr (.inr (0, 0, 0))), (1, .inr (.inr (2, 0, 0))), (2, .inl (nI 61))], [.inl (-9)], τ) [icP .gt (nI 61) 60] rfl ?_ ?_
    · exact allP1 (nI_lt (a := 60) (b := 61) (by decide) (by decide))
    refine AW.reti ⟨_, rfl⟩ rfl ?_
    rw [hg]
    exact ⟨rfl, hA⟩
set_option maxHeartbeats 4000000 in
set_option maxRecDepth 100000 in
theorem c1_greatestCalmHeat (S : Sv) (σ : St) (hR : RepS (σ 2 0) S) (hO : SOK S) : Ct M1_greatestCalmHeat 3 [.inr (.inr (0, 0, 0)), .inr (.inr (2, 0, 0))] σ (PI fun r9 σ' => optI (clmN S 10) = r9 ∧ Only 2 3 σ σ') := by
  refine Ct.of f_1_greatestCalmHeat (Nat.le_of_ble_eq_true rfl) ?_
  show AW M1_greatestCalmHeat 3 _ (0, [(0, .inr (.inr (0, 0, 0))), (1, .inr (.inr (2, 0, 0)))], [], σ)
  refine AW.run 7 [false] (12, [(2, .inl 9), (0, .inr (.inr (0, 0, 0))), (1, .inr (.inr (2, 0, 0)))], [.inr (.inr (2, 0, 0)), .inr (.inr (2, 3, 0))], σ) [¬ icP .lt (9 : Int32) 0] rfl ?_ ?_
  · exact allP1 (by decide : ¬ ((9 : Int32) < 0))
  refine AW.callVV (d' := 1) [.inr (.inr (2, 0, 0))] [] ⟨_, rfl⟩ f_3_copyFrom v_3_copyFrom l_1_25 ⟨rfl, by decide⟩ rfl (Nat.le_of_ble_eq_true rfl) rfl (Nat.le_of_ble_eq_true rfl) (c3_copyFrom 3 0 (by decide) S σ hR hO) ?_
  rintro τ70 ⟨a70, b70⟩
  refine AW.run 4 [] (23, [(2, .inl 9), (0, .inr (.inr (0, 0, 0))), (1, .inr (.inr (2, 0, 0)))], [.inl (τ70 2 0 0 10), .inr (.inr (2, 3, 0))], τ70) [] rfl ?_ ?_
  · exact trivial
  rw [(only_rep (only_trans only_rfl a70) hR).1.2.2.2.1]
  refine AW.run 1 [] (24, [(2, .inl 9), (0, .inr (.inr (0, 0, 0))), (1, .inr (.inr (2, 0, 0)))], [.inl 9, .inl (nI (Su S)), .inr (.inr (2, 3, 0))], τ70) [] rfl ?_ ?_
  · exact trivial
  refine AW.callVV (d' := 2) [.inl (nI (Su S)), .inl 9] [] ⟨_, rfl⟩ f_3_nourish v_3_nourish l_1_95 ⟨rfl, by decide⟩ rfl (Nat.le_of_ble_eq_true rfl) rfl (Nat.le_of_ble_eq_true rfl) (c3_nourish 3 S τ70 b70 hO (Su S) 9 hO.2.2.2.1 (by omega)) ?_
  rintro τ71 ⟨a71, b71⟩
  refine AW.run 2 [] (31, [(2, .inl 9), (0, .inr (.inr (0, 0, 0))), (1, .inr (.inr (2, 0, 0)))], [.inr (.inr (2, 3, 0))], τ71) [] rfl ?_ ?_
  · exact trivial
  refine AW.callVV (d' := 2) [] [] ⟨_, rfl⟩ f_3_dayGoesBy v_3_dayGoesBy l_1_47 ⟨rfl, by decide⟩ rfl (Nat.le_of_ble_eq_true rfl) rfl (Nat.le_of_ble_eq_true rfl) (c3_dayGoesBy 3 (withU S (Su S) 9) τ71 b71 (SOK_U hO hO.2.2.2.1 (by omega)) ) ?_
  rintro τ72 ⟨a72, b72⟩
  refine AW.run 3 [] (41, [(2, .inl 9), (0, .inr (.inr (0, 0, 0))), (1, .inr (.inr (2, 0, 0)))], [.inl (τ72 2 3 0 8)], τ72) [] rfl ?_ ?_
  · exact trivial
  rw [b72.1.2.1]
  refine AW.run 2 [] (45, [(2, .inl 9), (0, .inr (.inr (0, 0, 0))), (1, .inr (.inr (2, 0, 0)))], [.inl (τ72 2 0 0 8), .inl (bI (Sw (dayS (withU S (Su S) 9))))], τ72) [] rfl ?_ ?_
  · exact trivial
  rw [(only_rep (only_trans (only_trans (only_trans only_rfl a70) a71) a72) hR).1.2.1]
  by_cases h45_1 : sameW (dayS (withU S (Su S) 9)) S = true
  · skip
    refine AW.run 2 [false] (49, [(2, .inl 9), (0, .inr (.inr (0, 0, 0))), (1, .inr (.inr (2, 0, 0)))], [.inl 9], τ72) [¬ icP .ne (bI (Sw (dayS (withU S (Su S) 9)))) (bI (Sw S))] rfl ?_ ?_
    · exact allP1 (fun q => q (bI_eq.mpr (of_decide_eq_true h45_1)))
    refine AW.reti ⟨_, rfl⟩ rfl ?_
    exact ⟨by simp [clmN, *] <;> rfl, (only_trans (only_trans (only_trans only_rfl a70) a71) a72)⟩
  · skip
    refine AW.run 8 [true, false] (12, [(2, .inl 8), (0, .inr (.inr (0, 0, 0))), (1, .inr (.inr (2, 0, 0)))], [.inr (.inr (2, 0, 0)), .inr (.inr (2, 3, 0))], τ72) [icP .ne (bI (Sw (dayS (withU S (Su S) 9)))) (bI (Sw S)), ¬ icP .lt (8 : Int32) 0] rfl ?_ ?_
    · exact ⟨(fun q => h45_1 (decide_eq_true (bI_eq.mp q))), allP1 (by decide : ¬ ((8 : Int32) < 0))⟩
    refine AW.callVV (d' := 1) [.inr (.inr (2, 0, 0))] [] ⟨_, rfl⟩ f_3_copyFrom v_3_copyFrom l_1_25 ⟨rfl, by decide⟩ rfl (Nat.le_of_ble_eq_true rfl) rfl (Nat.le_of_ble_eq_true rfl) (c3_copyFrom 3 0 (by decide) S τ72 (only_rep (only_trans (only_trans (only_trans only_rfl a70) a71) a72) hR) hO) ?_
    rintro τ73 ⟨a73, b73⟩
    refine AW.run 4 [] (23, [(2, .inl 8), (0, .inr (.inr (0, 0, 0))), (1, .inr (.inr (2, 0, 0)))], [.inl (τ73 2 0 0 10), .inr (.inr (2, 3, 0))], τ73) [] rfl ?_ ?_
    · exact trivial
    rw [(only_rep (only_trans (only_trans (only_trans (only_trans only_rfl a70) a71) a72) a73) hR).1.2.2.2.1]
    refine AW.run 1 [] (24, [(2, .inl 8), (0, .inr (.inr (0, 0, 0))), (1, .inr (.inr (2, 0, 0)))], [.inl 8, .inl (nI (Su S)), .inr (.inr (2, 3, 0))], τ73) [] rfl ?_ ?_
    · exact trivial
    refine AW.callVV (d' := 2) [.inl (nI (Su S)), .inl 8] [] ⟨_, rfl⟩ f_3_nourish v_3_nourish l_1_95 ⟨rfl, by decide⟩ rfl (Nat.le_of_ble_eq_true rfl) rfl (Nat.le_of_ble_eq_true rfl) (c3_nourish 3 S τ73 b73 hO (Su S) 8 hO.2.2.2.1 (by omega)) ?_
    rintro τ74 ⟨a74, b74⟩
    refine AW.run 2 [] (31, [(2, .inl 8), (0, .inr (.inr (0, 0, 0))), (1, .inr (.inr (2, 0, 0)))], [.inr (.inr (2, 3, 0))], τ74) [] rfl ?_ ?_
    · exact trivial
    refine AW.callVV (d' := 2) [] [] ⟨_, rfl⟩ f_3_dayGoesBy v_3_dayGoesBy l_1_47 ⟨rfl, by decide⟩ rfl (Nat.le_of_ble_eq_true rfl) rfl (Nat.le_of_ble_eq_true rfl) (c3_dayGoesBy 3 (withU S (Su S) 8) τ74 b74 (SOK_U hO hO.2.2.2.1 (by omega)) ) ?_
    rintro τ75 ⟨a75, b75⟩
    refine AW.run 3 [] (41, [(2, .inl 8), (0, .inr (.inr (0, 0, 0))), (1, .inr (.inr (2, 0, 0)))], [.inl (τ75 2 3 0 8)], τ75) [] rfl ?_ ?_
    · exact trivial
    rw [b75.1.2.1]
    refine AW.run 2 [] (45, [(2, .inl 8), (0, .inr (.inr (0, 0, 0))), (1, .inr (.inr (2, 0, 0)))], [.inl (τ75 2 0 0 8), .inl (bI (Sw (dayS (withU S (Su S) 8))))], τ75) [] rfl ?_ ?_
    · exact trivial
    rw [(only_rep (only_trans (only_trans (only_trans (only_trans (only_trans (only_trans only_rfl a70) a71) a72) a73) a74) a75) hR).1.2.1]
    by_cases h45_2 : sameW (dayS (withU S (Su S) 8)) S = true
    · skip
      refine AW.run 2 [false] (49, [(2, .inl 8), (0, .inr (.inr (0, 0, 0))), (1, .inr (.inr (2, 0, 0)))], [.inl 8], τ75) [¬ icP .ne (bI (Sw (dayS (withU S (Su S) 8)))) (bI (Sw S))] rfl ?_ ?_
      · exact allP1 (fun q => q (bI_eq.mpr (of_decide_eq_true h45_2)))
      refine AW.reti ⟨_, rfl⟩ rfl ?_
      exact ⟨by simp [clmN, *] <;> rfl, (only_trans (only_trans (only_trans (only_trans (only_trans (only_trans only_rfl a70) a71) a72) a73) a74) a75)⟩
    · skip
      refine AW.run 8 [true, false] (12, [(2, .inl 7), (0, .inr (.inr (0, 0, 0))), (1, .inr (.inr (2, 0, 0)))], [.inr (.inr (2, 0, 0)), .inr (.inr (2, 3, 0))], τ75) [icP .ne (bI (Sw (dayS (withU S (Su S) 8)))) (bI (Sw S)), ¬ icP .lt (7 : Int32) 0] rfl ?_ ?_
      · exact ⟨(fun q => h45_2 (decide_eq_true (bI_eq.mp q))), allP1 (by decide : ¬ ((7 : Int32) < 0))⟩
      refine AW.callVV (d' := 1) [.inr (.inr (2, 0, 0))] [] ⟨_, rfl⟩ f_3_copyFrom v_3_copyFrom l_1_25 ⟨rfl, by decide⟩ rfl (Nat.le_of_ble_eq_true rfl) rfl (Nat.le_of_ble_eq_true rfl) (c3_copyFrom 3 0 (by decide) S τ75 (only_rep (only_trans (only_trans (only_trans (only_trans (only_trans (only_trans only_rfl a70) a71) a72) a73) a74) a75) hR) hO) ?_
      rintro τ76 ⟨a76, b76⟩
      refine AW.run 4 [] (23, [(2, .inl 7), (0, .inr (.inr (0, 0, 0))), (1, .inr (.inr (2, 0, 0)))], [.inl (τ76 2 0 0 10), .inr (.inr (2, 3, 0))], τ76) [] rfl ?_ ?_
      · exact trivial
      rw [(only_rep (only_trans (only_trans (only_trans (only_trans (only_trans (only_trans (only_trans only_rfl a70) a71) a72) a73) a74) a75) a76) hR).1.2.2.2.1]
      refine AW.run 1 [] (24, [(2, .inl 7), (0, .inr (.inr (0, 0, 0))), (1, .inr (.inr (2, 0, 0)))], [.inl 7, .inl (nI (Su S)), .inr (.inr (2, 3, 0))], τ76) [] rfl ?_ ?_
      · exact trivial
      refine AW.callVV (d' := 2) [.inl (nI (Su S)), .inl 7] [] ⟨_, rfl⟩ f_3_nourish v_3_nourish l_1_95 ⟨rfl, by decide⟩ rfl (Nat.le_of_ble_eq_true rfl) rfl (Nat.le_of_ble_eq_true rfl) (c3_nourish 3 S τ76 b76 hO (Su S) 7 hO.2.2.2.1 (by omega)) ?_
      rintro τ77 ⟨a77, b77⟩
      refine AW.run 2 [] (31, [(2, .inl 7), (0, .inr (.inr (0, 0, 0))), (1, .inr (.inr (2, 0, 0)))], [.inr (.inr (2, 3, 0))], τ77) [] rfl ?_ ?_
      · exact trivial
      refine AW.callVV (d' := 2) [] [] ⟨_, rfl⟩ f_3_dayGoesBy v_3_dayGoesBy l_1_47 ⟨rfl, by decide⟩ rfl (Nat.le_of_ble_eq_true rfl) rfl (Nat.le_of_ble_eq_true rfl) (c3_dayGoesBy 3 (withU S (Su S) 7) τ77 b77 (SOK_U hO hO.2.2.2.1 (by omega)) ) ?_
      rintro τ78 ⟨a78, b78⟩
      refine AW.run 3 [] (41, [(2, .inl 7), (0, .inr (.inr (0, 0, 0))), (1, .inr (.inr (2, 0, 0)))], [.inl (τ78 2 3 0 8)], τ78) [] rfl ?_ ?_
      · exact trivial
      rw [b78.1.2.1]
      refine AW.run 2 [] (45, [(2, .inl 7), (0, .inr (.inr (0, 0, 0))), (1, .inr (.inr (2, 0, 0)))], [.inl (τ78 2 0 0 8), .inl (bI (Sw (dayS (withU S (Su S) 7))))], τ78) [] rfl ?_ ?_
      · exact trivial
      rw [(only_rep (only_trans (only_trans (only_trans (only_trans (only_trans (only_trans (only_trans (only_trans (only_trans only_rfl a70) a71) a72) a73) a74) a75) a76) a77) a78) hR).1.2.1]
      by_cases h45_3 : sameW (dayS (withU S (Su S) 7)) S = true
      · skip
        refine AW.run 2 [false] (49, [(2, .inl 7), (0, .inr (.inr (0, 0, 0))), (1, .inr (.inr (2, 0, 0)))], [.inl 7], τ78) [¬ icP .ne (bI (Sw (dayS (withU S (Su S) 7)))) (bI (Sw S))] rfl ?_ ?_
        · exact allP1 (fun q => q (bI_eq.mpr (of_decide_eq_true h45_3)))
        refine AW.reti ⟨_, rfl⟩ rfl ?_
        exact ⟨by simp [clmN, *] <;> rfl, (only_trans (only_trans (only_trans (only_trans (only_trans (only_trans (only_trans (only_trans (only_trans only_rfl a70) a71) a72) a73) a74) a75) a76) a77) a78)⟩
      · skip
        refine AW.run 8 [true, false] (12, [(2, .inl 6), (0, .inr (.inr (0, 0, 0))), (1, .inr (.inr (2, 0, 0)))], [.inr (.inr (2, 0, 0)), .inr (.inr (2, 3, 0))], τ78) [icP .ne (bI (Sw (dayS (withU S (Su S) 7)))) (bI (Sw S)), ¬ icP .lt (6 : Int32) 0] rfl ?_ ?_
        · exact ⟨(fun q => h45_3 (decide_eq_true (bI_eq.mp q))), allP1 (by decide : ¬ ((6 : Int32) < 0))⟩
        refine AW.callVV (d' := 1) [.inr (.inr (2, 0, 0))] [] ⟨_, rfl⟩ f_3_copyFrom v_3_copyFrom l_1_25 ⟨rfl, by decide⟩ rfl (Nat.le_of_ble_eq_true rfl) rfl (Nat.le_of_ble_eq_true rfl) (c3_copyFrom 3 0 (by decide) S τ78 (only_rep (only_trans (only_trans (only_trans (only_trans (only_trans (only_trans (only_trans (only_trans (only_trans only_rfl a70) a71) a72) a73) a74) a75) a76) a77) a78) hR) hO) ?_
        rintro τ79 ⟨a79, b79⟩
        refine AW.run 4 [] (23, [(2, .inl 6), (0, .inr (.inr (0, 0, 0))), (1, .inr (.inr (2, 0, 0)))], [.inl (τ79 2 0 0 10), .inr (.inr (2, 3, 0))], τ79) [] rfl ?_ ?_
        · exact trivial
        rw [(only_rep (only_trans (only_trans (only_trans (only_trans (only_trans (only_trans (only_trans (only_trans (only_trans (only_trans only_rfl a70) a71) a72) a73) a74) a75) a76) a77) a78) a79) hR).1.2.2.2.1]
        refine AW.run 1 [] (24, [(2, .inl 6), (0, .inr (.inr (0, 0, 0))), (1, .inr (.inr (2, 0, 0)))], [.inl 6, .inl (nI (Su S)), .inr (.inr (2, 3, 0))], τ79) [] rfl ?_ ?_
        · exact trivial
        refine AW.callVV (d' := 2) [.inl (nI (Su S)), .inl 6] [] ⟨_, rfl⟩ f_3_nourish v_3_nourish l_1_95 ⟨rfl, by decide⟩ rfl (Nat.le_of_ble_eq_true rfl) rfl (Nat.le_of_ble_eq_true rfl) (c3_nourish 3 S τ79 b79 hO (Su S) 6 hO.2.2.2.1 (by omega)) ?_
        rintro τ80 ⟨a80, b80⟩
        refine AW.run 2 [] (31, [(2, .inl 6), (0, .inr (.inr (0, 0, 0))), (1, .inr (.inr (2, 0, 0)))], [.inr (.inr (2, 3, 0))], τ80) [] rfl ?_ ?_
        · exact trivial
        refine AW.callVV (d' := 2) [] [] ⟨_, rfl⟩ f_3_dayGoesBy v_3_dayGoesBy l_1_47 ⟨rfl, by decide⟩ rfl (Nat.le_of_ble_eq_true rfl) rfl (Nat.le_of_ble_eq_true rfl) (c3_dayGoesBy 3 (withU S (Su S) 6) τ80 b80 (SOK_U hO hO.2.2.2.1 (by omega)) ) ?_
        rintro τ81 ⟨a81, b81⟩
        refine AW.run 3 [] (41, [(2, .inl 6), (0, .inr (.inr (0, 0, 0))), (1, .inr (.inr (2, 0, 0)))], [.inl (τ81 2 3 0 8)], τ81) [] rfl ?_ ?_
        · exact trivial
        rw [b81.1.2.1]
        refine AW.run 2 [] (45, [(2, .inl 6), (0, .inr (.inr (0, 0, 0))), (1, .inr (.inr (2, 0, 0)))], [.inl (τ81 2 0 0 8), .inl (bI (Sw (dayS (withU S (Su S) 6))))], τ81) [] rfl ?_ ?_
        · exact trivial
        rw [(only_rep (only_trans (only_trans (only_trans (only_trans (only_trans (only_trans (only_trans (only_trans (only_trans (only_trans (only_trans (only_trans only_rfl a70) a71) a72) a73) a74) a75) a76) a77) a78) a79) a80) a81) hR).1.2.1]
        by_cases h45_4 : sameW (dayS (withU S (Su S) 6)) S = true
        · skip
          refine AW.run 2 [false] (49, [(2, .inl 6), (0, .inr (.inr (0, 0, 0))), (1, .inr (.inr (2, 0, 0)))], [.inl 6], τ81) [¬ icP .ne (bI (Sw (dayS (withU S (Su S) 6)))) (bI (Sw S))] rfl ?_ ?_
          · exact allP1 (fun q => q (bI_eq.mpr (of_decide_eq_true h45_4)))
          refine AW.reti ⟨_, rfl⟩ rfl ?_
          exact ⟨by simp [clmN, *] <;> rfl, (only_trans (only_trans (only_trans (only_trans (only_trans (only_trans (only_trans (only_trans (only_trans (only_trans (only_trans (only_trans only_rfl a70) a71) a72) a73) a74) a75) a76) a77) a78) a79) a80) a81)⟩
        · skip
          refine AW.run 8 [true, false] (12, [(2, .inl 5), (0, .inr (.inr (0, 0, 0))), (1, .inr (.inr (2, 0, 0)))], [.inr (.inr (2, 0, 0)), .inr (.inr (2, 3, 0))], τ81) [icP .ne (bI (Sw (dayS (withU S (Su S) 6)))) (bI (Sw S)), ¬ icP .lt (5 : Int32) 0] rfl ?_ ?_
          · exact ⟨(fun q => h45_4 (decide_eq_true (bI_eq.mp q))), allP1 (by decide : ¬ ((5 : Int32) < 0))⟩
          refine AW.callVV (d' := 1) [.inr (.inr (2, 0, 0))] [] ⟨_, rfl⟩ f_3_copyFrom v_3_copyFrom l_1_25 ⟨rfl, by decide⟩ rfl (Nat.le_of_ble_eq_true rfl) rfl (Nat.le_of_ble_eq_true rfl) (c3_copyFrom 3 0 (by decide) S τ81 (only_rep (only_trans (only_trans (only_trans (only_trans (only_trans (only_trans (only_trans (only_trans (only_trans (only_trans (only_trans (only_trans only_rfl a70) a71) a72) a73) a74) a75) a76) a77) a78) a79) a80) a81) hR) hO) ?_
          rintro τ82 ⟨a82, b82⟩
          refine AW.run 4 [] (23, [(2, .inl 5), (0, .inr (.inr (0, 0, 0))), (1, .inr (.inr (2, 0, 0)))], [.inl (τ82 2 0 0 10), .inr (.inr (2, 3, 0))], τ82) [] rfl ?_ ?_
          · exact trivial
          rw [(only_rep (only_trans (only_trans (only_trans (only_trans (only_trans (only_trans (only_trans (only_trans (only_trans (only_trans (only_trans (only_trans (only_trans only_rfl a70) a71) a72) a73) a74) a75) a76) a77) a78) a79) a80) a81) a82) hR).1.2.2.2.1]
          refine AW.run 1 [] (24, [(2, .inl 5), (0, .inr (.inr (0, 0, 0))), (1, .inr (.inr (2, 0, 0)))], [.inl 5, .inl (nI (Su S)), .inr (.inr (2, 3, 0))], τ82) [] rfl ?_ ?_
          · exact trivial
          refine AW.callVV (d' := 2) [.inl (nI (Su S)), .inl 5] [] ⟨_, rfl⟩ f_3_nourish v_3_nourish l_1_95 ⟨rfl, by decide⟩ rfl (Nat.le_of_ble_eq_true rfl) rfl (Nat.le_of_ble_eq_true rfl) (c3_nourish 3 S τ82 b82 hO (Su S) 5 hO.2.2.2.1 (by omega)) ?_
          rintro τ83 ⟨a83, b83⟩
          refine AW.run 2 [] (31, [(2, .inl 5), (0, .inr (.inr (0, 0, 0))), (1, .inr (.inr (2, 0, 0)))], [.inr (.inr (2, 3, 0))], τ83) [] rfl ?_ ?_
          · exact trivial
          refine AW.callVV (d' := 2) [] [] ⟨_, rfl⟩ f_3_dayGoesBy v_3_dayGoesBy l_1_47 ⟨rfl, by decide⟩ rfl (Nat.le_of_ble_eq_true rfl) rfl (Nat.le_of_ble_eq_true rfl) (c3_dayGoesBy 3 (withU S (Su S) 5) τ83 b83 (SOK_U hO hO.2.2.2.1 (by omega)) ) ?_
          rintro τ84 ⟨a84, b84⟩
          refine AW.run 3 [] (41, [(2, .inl 5), (0, .inr (.inr (0, 0, 0))), (1, .inr (.inr (2, 0, 0)))], [.inl (τ84 2 3 0 8)], τ84) [] rfl ?_ ?_
          · exact trivial
          rw [b84.1.2.1]
          refine AW.run 2 [] (45, [(2, .inl 5), (0, .inr (.inr (0, 0, 0))), (1, .inr (.inr (2, 0, 0)))], [.inl (τ84 2 0 0 8), .inl (bI (Sw (dayS (withU S (Su S) 5))))], τ84) [] rfl ?_ ?_
          · exact trivial
          rw [(only_rep (only_trans (only_trans (only_trans (only_trans (only_trans (only_trans (only_trans (only_trans (only_trans (only_trans (only_trans (only_trans (only_trans (only_trans (only_trans only_rfl a70) a71) a72) a73) a74) a75) a76) a77) a78) a79) a80) a81) a82) a83) a84) hR).1.2.1]
          by_cases h45_5 : sameW (dayS (withU S (Su S) 5)) S = true
          · skip
            refine AW.run 2 [false] (49, [(2, .inl 5), (0, .inr (.inr (0, 0, 0))), (1, .inr (.inr (2, 0, 0)))], [.inl 5], τ84) [¬ icP .ne (bI (Sw (dayS (withU S (Su S) 5)))) (bI (Sw S))] rfl ?_ ?_
            · exact allP1 (fun q => q (bI_eq.mpr (of_decide_eq_true h45_5)))
            refine AW.reti ⟨_, rfl⟩ rfl ?_
            exact ⟨by simp [clmN, *] <;> rfl, (only_trans (only_trans (only_trans (only_trans (only_trans (only_trans (only_trans (only_trans (only_trans (only_trans (only_trans (only_trans (only_trans (only_trans (only_trans only_rfl a70) a71) a72) a73) a74) a75) a76) a77) a78) a79) a80) a81) a82) a83) a84)⟩
          · skip
            refine AW.run 8 [true, false] (12, [(2, .inl 4), (0, .inr (.inr (0, 0, 0))), (1, .inr (.inr (2, 0, 0)))], [.inr (.inr (2, 0, 0)), .inr (.inr (2, 3, 0))], τ84) [icP .ne (bI (Sw (dayS (withU S (Su S) 5)))) (bI (Sw S)), ¬ icP .lt (4 : Int32) 0] rfl ?_ ?_
            · exact ⟨(fun q => h45_5 (decide_eq_true (bI_eq.mp q))), allP1 (by decide : ¬ ((4 : Int32) < 0))⟩
            refine AW.callVV (d' := 1) [.inr (.inr (2, 0, 0))] [] ⟨_, rfl⟩ f_3_copyFrom v_3_copyFrom l_1_25 ⟨rfl, by decide⟩ rfl (Nat.le_of_ble_eq_true rfl) rfl (Nat.le_of_ble_eq_true rfl) (c3_copyFrom 3 0 (by decide) S τ84 (only_rep (only_trans (only_trans (only_trans (only_trans (only_trans (only_trans (only_trans (only_trans (only_trans (only_trans (only_trans (only_trans (only_trans (only_trans (only_trans only_rfl a70) a71) a72) a73) a74) a75) a76) a77) a78) a79) a80) a81) a82) a83) a84) hR) hO) ?_
            rintro τ85 ⟨a85, b85⟩
            refine AW.run 4 [] (23, [(2, .inl 4), (0, .inr (.inr (0, 0, 0))), (1, .inr (.inr (2, 0, 0)))], [.inl (τ85 2 0 0 10), .inr (.inr (2, 3, 0))], τ85) [] rfl ?_ ?_
            · exact trivial
            rw [(only_rep (only_trans (only_trans (only_trans (only_trans (only_trans (only_trans (only_trans (only_trans (only_trans (only_trans (only_trans (only_trans (only_trans (only_trans (only_trans (only_trans only_rfl a70) a71) a72) a73) a74) a75) a76) a77) a78) a79) a80) a81) a82) a83) a84) a85) hR).1.2.2.2.1]
            refine AW.run 1 [] (24, [(2, .inl 4), (0, .inr (.inr (0, 0, 0))), (1, .inr (.inr (2, 0, 0)))], [.inl 4, .inl (nI (Su S)), .inr (.inr (2, 3, 0))], τ85) [] rfl ?_ ?_
            · exact trivial
            refine AW.callVV (d' := 2) [.inl (nI (Su S)), .inl 4] [] ⟨_, rfl⟩ f_3_nourish v_3_nourish l_1_95 ⟨rfl, by decide⟩ rfl (Nat.le_of_ble_eq_true rfl) rfl (Nat.le_of_ble_eq_true rfl) (c3_nourish 3 S τ85 b85 hO (Su S) 4 hO.2.2.2.1 (by omega)) ?_
            rintro τ86 ⟨a86, b86⟩
            refine AW.run 2 [] (31, [(2, .inl 4), (0, .inr (.inr (0, 0, 0))), (1, .inr (.inr (2, 0, 0)))], [.inr (.inr (2, 3, 0))], τ86) [] rfl ?_ ?_
            · exact trivial
            refine AW.callVV (d' := 2) [] [] ⟨_, rfl⟩ f_3_dayGoesBy v_3_dayGoesBy l_1_47 ⟨rfl, by decide⟩ rfl (Nat.le_of_ble_eq_true rfl) rfl (Nat.le_of_ble_eq_true rfl) (c3_dayGoesBy 3 (withU S (Su S) 4) τ86 b86 (SOK_U hO hO.2.2.2.1 (by omega)) ) ?_
            rintro τ87 ⟨a87, b87⟩
            refine AW.run 3 [] (41, [(2, .inl 4), (0, .inr (.inr (0, 0, 0))), (1, .inr (.inr (2, 0, 0)))], [.inl (τ87 2 3 0 8)], τ87) [] rfl ?_ ?_
            · exact trivial
            rw [b87.1.2.1]
            refine AW.run 2 [] (45, [(2, .inl 4), (0, .inr (.inr (0, 0, 0))), (1, .inr (.inr (2, 0, 0)))], [.inl (τ87 2 0 0 8), .inl (bI (Sw (dayS (withU S (Su S) 4))))], τ87) [] rfl ?_ ?_
            · exact trivial
            rw [(only_rep (only_trans (only_trans (only_trans (only_trans (only_trans (only_trans (only_trans (only_trans (only_trans (only_trans (only_trans (only_trans (only_trans (only_trans (only_trans (only_trans (only_trans (only_trans only_rfl a70) a71) a72) a73) a74) a75) a76) a77) a78) a79) a80) a81) a82) a83) a84) a85) a86) a87) hR).1.2.1]
            by_cases h45_6 : sameW (dayS (withU S (Su S) 4)) S = true
            · skip
              refine AW.run 2 [false] (49, [(2, .inl 4), (0, .inr (.inr (0, 0, 0))), (1, .inr (.inr (2, 0, 0)))], [.inl 4], τ87) [¬ icP .ne (bI (Sw (dayS (withU S (Su S) 4)))) (bI (Sw S))] rfl ?_ ?_
              · exact allP1 (fun q => q (bI_eq.mpr (of_decide_eq_true h45_6)))
              refine AW.reti ⟨_, rfl⟩ rfl ?_
              exact ⟨by simp [clmN, *] <;> rfl, (only_trans (only_trans (only_trans (only_trans (only_trans (only_trans (only_trans (only_trans (only_trans (only_trans (only_trans (only_trans (only_trans (only_trans (only_trans (only_trans (only_trans (only_trans only_rfl a70) a71) a72) a73) a74) a75) a76) a77) a78) a79) a80) a81) a82) a83) a84) a85) a86) a87)⟩
            · skip
              refine AW.run 8 [true, false] (12, [(2, .inl 3), (0, .inr (.inr (0, 0, 0))), (1, .inr (.inr (2, 0, 0)))], [.inr (.inr (2, 0, 0)), .inr (.inr (2, 3, 0))], τ87) [icP .ne (bI (Sw (dayS (withU S (Su S) 4)))) (bI (Sw S)), ¬ icP .lt (3 : Int32) 0] rfl ?_ ?_
              · exact ⟨(fun q => h45_6 (decide_eq_true (bI_eq.mp q))), allP1 (by decide : ¬ ((3 : Int32) < 0))⟩
              refine AW.callVV (d' := 1) [.inr (.inr (2, 0, 0))] [] ⟨_, rfl⟩ f_3_copyFrom v_3_copyFrom l_1_25 ⟨rfl, by decide⟩ rfl (Nat.le_of_ble_eq_true rfl) rfl (Nat.le_of_ble_eq_true rfl) (c3_copyFrom 3 0 (by decide) S τ87 (only_rep (only_trans (only_trans (only_trans (only_trans (only_trans (only_trans (only_trans (only_trans (only_trans (only_trans (only_trans (only_trans (only_trans (only_trans (only_trans (only_trans (only_trans (only_trans only_rfl a70) a71) a72) a73) a74) a75) a76) a77) a78) a79) a80) a81) a82) a83) a84) a85) a86) a87) hR) hO) ?_
              rintro τ88 ⟨a88, b88⟩
              refine AW.run 4 [] (23, [(2, .inl 3), (0, .inr (.inr (0, 0, 0))), (1, .inr (.inr (2, 0, 0)))], [.inl (τ88 2 0 0 10), .inr (.inr (2, 3, 0))], τ88) [] rfl ?_ ?_
              · exact trivial
              rw [(only_rep (only_trans (only_trans (only_trans (only_trans (only_trans (only_trans (only_trans (only_trans (only_trans (only_trans (only_trans (only_trans (only_trans (only_trans (only_trans (only_trans (only_trans (only_trans (only_trans only_rfl a70) a71) a72) a73) a74) a75) a76) a77) a78) a79) a80) a81) a82) a83) a84) a85) a86) a87) a88) hR).1.2.2.2.1]
              refine AW.run 1 [] (24, [(2, .inl 3), (0, .inr (.inr (0, 0, 0))), (1, .inr (.inr (2, 0, 0)))], [.inl 3, .inl (nI (Su S)), .inr (.inr (2, 3, 0))], τ88) [] rfl ?_ ?_
              · exact trivial
              refine AW.callVV (d' := 2) [.inl (nI (Su S)), .inl 3] [] ⟨_, rfl⟩ f_3_nourish v_3_nourish l_1_95 ⟨rfl, by decide⟩ rfl (Nat.le_of_ble_eq_true rfl) rfl (Nat.le_of_ble_eq_true rfl) (c3_nourish 3 S τ88 b88 hO (Su S) 3 hO.2.2.2.1 (by omega)) ?_
              rintro τ89 ⟨a89, b89⟩
              refine AW.run 2 [] (31, [(2, .inl 3), (0, .inr (.inr (0, 0, 0))), (1, .inr (.inr (2, 0, 0)))], [.inr (.inr (2, 3, 0))], τ89) [] rfl ?_ ?_
              · exact trivial
              refine AW.callVV (d' := 2) [] [] ⟨_, rfl⟩ f_3_dayGoesBy v_3_dayGoesBy l_1_47 ⟨rfl, by decide⟩ rfl (Nat.le_of_ble_eq_true rfl) rfl (Nat.le_of_ble_eq_true rfl) (c3_dayGoesBy 3 (withU S (Su S) 3) τ89 b89 (SOK_U hO hO.2.2.2.1 (by omega)) ) ?_
              rintro τ90 ⟨a90, b90⟩
              refine AW.run 3 [] (41, [(2, .inl 3), (0, .inr (.inr (0, 0, 0))), (1, .inr (.inr (2, 0, 0)))], [.inl (τ90 2 3 0 8)], τ90) [] rfl ?_ ?_
              · exact trivial
              rw [b90.1.2.1]
              refine AW.run 2 [] (45, [(2, .inl 3), (0, .inr (.inr (0, 0, 0))), (1, .inr (.inr (2, 0, 0)))], [.inl (τ90 2 0 0 8), .inl (bI (Sw (dayS (withU S (Su S) 3))))], τ90) [] rfl ?_ ?_
              · exact trivial
              rw [(only_rep (only_trans (only_trans (only_trans (only_trans (only_trans (only_trans (only_trans (only_trans (only_trans (only_trans (only_trans (only_trans (only_trans (only_trans (only_trans (only_trans (only_trans (only_trans (only_trans (only_trans (only_trans only_rfl a70) a71) a72) a73) a74) a75) a76) a77) a78) a79) a80) a81) a82) a83) a84) a85) a86) a87) a88) a89) a90) hR).1.2.1]
              by_cases h45_7 : sameW (dayS (withU S (Su S) 3)) S = true
              · skip
                refine AW.run 2 [false] (49, [(2, .inl 3), (0, .inr (.inr (0, 0, 0))), (1, .inr (.inr (2, 0, 0)))], [.inl 3], τ90) [¬ icP .ne (bI (Sw (dayS (withU S (Su S) 3)))) (bI (Sw S))] rfl ?_ ?_
                · exact allP1 (fun q => q (bI_eq.mpr (of_decide_eq_true h45_7)))
                refine AW.reti ⟨_, rfl⟩ rfl ?_
                exact ⟨by simp [clmN, *] <;> rfl, (only_trans (only_trans (only_trans (only_trans (only_trans (only_trans (only_trans (only_trans (only_trans (only_trans (only_trans (only_trans (only_trans (only_trans (only_trans (only_trans (only_trans (only_trans (only_trans (only_trans (only_trans only_rfl a70) a71) a72) a73) a74) a75) a76) a77) a78) a79) a80) a81) a82) a83) a84) a85) a86) a87) a88) a89) a90)⟩
              · skip
                refine AW.run 8 [true, false] (12, [(2, .inl 2), (0, .inr (.inr (0, 0, 0))), (1, .inr (.inr (2, 0, 0)))], [.inr (.inr (2, 0, 0)), .inr (.inr (2, 3, 0))], τ90) [icP .ne (bI (Sw (dayS (withU S (Su S) 3)))) (bI (Sw S)), ¬ icP .lt (2 : Int32) 0] rfl ?_ ?_
                · exact ⟨(fun q => h45_7 (decide_eq_true (bI_eq.mp q))), allP1 (by decide : ¬ ((2 : Int32) < 0))⟩
                refine AW.callVV (d' := 1) [.inr (.inr (2, 0, 0))] [] ⟨_, rfl⟩ f_3_copyFrom v_3_copyFrom l_1_25 ⟨rfl, by decide⟩ rfl (Nat.le_of_ble_eq_true rfl) rfl (Nat.le_of_ble_eq_true rfl) (c3_copyFrom 3 0 (by decide) S τ90 (only_rep (only_trans (only_trans (only_trans (only_trans (only_trans (only_trans (only_trans (only_trans (only_trans (only_trans (only_trans (only_trans (only_trans (only_trans (only_trans (only_trans (only_trans (only_trans (only_trans (only_trans (only_trans only_rfl a70) a71) a72) a73) a74) a75) a76) a77) a78) a79) a80) a81) a82) a83) a84) a85) a86) a87) a88) a89) a90) hR) hO) ?_
                rintro τ91 ⟨a91, b91⟩
                refine AW.run 4 [] (23, [(2, .inl 2), (0, .inr (.inr (0, 0, 0))), (1, .inr (.inr (2, 0, 0)))], [.inl (τ91 2 0 0 10), .inr (.inr (2, 3, 0))], τ91) [] rfl ?_ ?_
                · exact trivial
                rw [(only_rep (only_trans (only_trans (only_trans (only_trans (only_trans (only_trans (only_trans (only_trans (only_trans (only_trans (only_trans (only_trans (only_trans (only_trans (only_trans (only_trans (only_trans (only_trans (only_trans (only_trans (only_trans (only_trans only_rfl a70) a71) a72) a73) a74) a75) a76) a77) a78) a79) a80) a81) a82) a83) a84) a85) a86) a87) a88) a89) a90) a91) hR).1.2.2.2.1]
                refine AW.run 1 [] (24, [(2, .inl 2), (0, .inr (.inr (0, 0, 0))), (1, .inr (.inr (2, 0, 0)))], [.inl 2, .inl (nI (Su S)), .inr (.inr (2, 3, 0))], τ91) [] rfl ?_ ?_
                · exact trivial
                refine AW.callVV (d' := 2) [.inl (nI (Su S)), .inl 2] [] ⟨_, rfl⟩ f_3_nourish v_3_nourish l_1_95 ⟨rfl, by decide⟩ rfl (Nat.le_of_ble_eq_true rfl) rfl (Nat.le_of_ble_eq_true rfl) (c3_nourish 3 S τ91 b91 hO (Su S) 2 hO.2.2.2.1 (by omega)) ?_
                rintro τ92 ⟨a92, b92⟩
                refine AW.run 2 [] (31, [(2, .inl 2), (0, .inr (.inr (0, 0, 0))), (1, .inr (.inr (2, 0, 0)))], [.inr (.inr (2, 3, 0))], τ92) [] rfl ?_ ?_
                · exact trivial
                refine AW.callVV (d' := 2) [] [] ⟨_, rfl⟩ f_3_dayGoesBy v_3_dayGoesBy l_1_47 ⟨rfl, by decide⟩ rfl (Nat.le_of_ble_eq_true rfl) rfl (Nat.le_of_ble_eq_true rfl) (c3_dayGoesBy 3 (withU S (Su S) 2) τ92 b92 (SOK_U hO hO.2.2.2.1 (by omega)) ) ?_
                rintro τ93 ⟨a93, b93⟩
                refine AW.run 3 [] (41, [(2, .inl 2), (0, .inr (.inr (0, 0, 0))), (1, .inr (.inr (2, 0, 0)))], [.inl (τ93 2 3 0 8)], τ93) [] rfl ?_ ?_
                · exact trivial
                rw [b93.1.2.1]
                refine AW.run 2 [] (45, [(2, .inl 2), (0, .inr (.inr (0, 0, 0))), (1, .inr (.inr (2, 0, 0)))], [.inl (τ93 2 0 0 8), .inl (bI (Sw (dayS (withU S (Su S) 2))))], τ93) [] rfl ?_ ?_
                · exact trivial
                rw [(only_rep (only_trans (only_trans (only_trans (only_trans (only_trans (only_trans (only_trans (only_trans (only_trans (only_trans (only_trans (only_trans (only_trans (only_trans (only_trans (only_trans (only_trans (only_trans (only_trans (only_trans (only_trans (only_trans (only_trans (only_trans only_rfl a70) a71) a72) a73) a74) a75) a76) a77) a78) a79) a80) a81) a82) a83) a84) a85) a86) a87) a88) a89) a90) a91) a92) a93) hR).1.2.1]
                by_cases h45_8 : sameW (dayS (withU S (Su S) 2)) S = true
                · skip
                  refine AW.run 2 [false] (49, [(2, .inl 2), (0, .inr (.inr (0, 0, 0))), (1, .inr (.inr (2, 0, 0)))], [.inl 2], τ93) [¬ icP .ne (bI (Sw (dayS (withU S (Su S) 2)))) (bI (Sw S))] rfl ?_ ?_
                  · exact allP1 (fun q => q (bI_eq.mpr (of_decide_eq_true h45_8)))
                  refine AW.reti ⟨_, rfl⟩ rfl ?_
                  exact ⟨by simp [clmN, *] <;> rfl, (only_trans (only_trans (only_trans (only_trans (only_trans (only_trans (only_trans (only_trans (only_trans (only_trans (only_trans (only_trans (only_trans (only_trans (only_trans (only_trans (only_trans (only_trans (only_trans (only_trans (only_trans (only_trans (only_trans (only_trans only_rfl a70) a71) a72) a73) a74) a75) a76) a77) a78) a79) a80) a81) a82) a83) a84) a85) a86) a87) a88) a89) a90) a91) a92) a93)⟩
                · skip
                  refine AW.run 8 [true, false] (12, [(2, .inl 1), (0, .inr (.inr (0, 0, 0))), (1, .inr (.inr (2, 0, 0)))], [.inr (.inr (2, 0, 0)), .inr (.inr (2, 3, 0))], τ93) [icP .ne (bI (Sw (dayS (withU S (Su S) 2)))) (bI (Sw S)), ¬ icP .lt (1 : Int32) 0] rfl ?_ ?_
                  · exact ⟨(fun q => h45_8 (decide_eq_true (bI_eq.mp q))), allP1 (by decide : ¬ ((1 : Int32) < 0))⟩
                  refine AW.callVV (d' := 1) [.inr (.inr (2, 0, 0))] [] ⟨_, rfl⟩ f_3_copyFrom v_3_copyFrom l_1_25 ⟨rfl, by decide⟩ rfl (Nat.le_of_ble_eq_true rfl) rfl (Nat.le_of_ble_eq_true rfl) (c3_copyFrom 3 0 (by decide) S τ93 (only_rep (only_trans (only_trans (only_trans (only_trans (only_trans (only_trans (only_trans (only_trans (only_trans (only_trans (only_trans (only_trans (only_trans (only_trans (only_trans (only_trans (only_trans (only_trans (only_trans (only_trans (only_trans (only_trans (only_trans (only_trans only_rfl a70) a71) a72) a73) a74) a75) a76) a77) a78) a79) a80) a81) a82) a83) a84) a85) a86) a87) a88) a89) a90) a91) a92) a93) hR) hO) ?_
                  rintro τ94 ⟨a94, b94⟩
                  refine AW.run 4 [] (23, [(2, .inl 1), (0, .inr (.inr (0, 0, 0))), (1, .inr (.inr (2, 0, 0)))], [.inl (τ94 2 0 0 10), .inr (.inr (2, 3, 0))], τ94) [] rfl ?_ ?_
                  · exact trivial
                  rw [(only_rep (only_trans (only_trans (only_trans (only_trans (only_trans (only_trans (only_trans (only_trans (only_trans (only_trans (only_trans (only_trans (only_trans (only_trans (only_trans (only_trans (only_trans (only_trans (only_trans (only_trans (only_trans (only_trans (only_trans (only_trans (only_trans only_rfl a70) a71) a72) a73) a74) a75) a76) a77) a78) a79) a80) a81) a82) a83) a84) a85) a86) a87) a88) a89) a90) a91) a92) a93) a94) hR).1.2.2.2.1]
                  refine AW.run 1 [] (24, [(2, .inl 1), (0, .inr (.inr (0, 0, 0))), (1, .inr (.inr (2, 0, 0)))], [.inl 1, .inl (nI (Su S)), .inr (.inr (2, 3, 0))], τ94) [] rfl ?_ ?_
                  · exact trivial
                  refine AW.callVV (d' := 2) [.inl (nI (Su S)), .inl 1] [] ⟨_, rfl⟩ f_3_nourish v_3_nourish l_1_95 ⟨rfl, by decide⟩ rfl (Nat.le_of_ble_eq_true rfl) rfl (Nat.le_of_ble_eq_true rfl) (c3_nourish 3 S τ94 b94 hO (Su S) 1 hO.2.2.2.1 (by omega)) ?_
                  rintro τ95 ⟨a95, b95⟩
                  refine AW.run 2 [] (31, [(2, .inl 1), (0, .inr (.inr (0, 0, 0))), (1, .inr (.inr (2, 0, 0)))], [.inr (.inr (2, 3, 0))], τ95) [] rfl ?_ ?_
                  · exact trivial
                  refine AW.callVV (d' := 2) [] [] ⟨_, rfl⟩ f_3_dayGoesBy v_3_dayGoesBy l_1_47 ⟨rfl, by decide⟩ rfl (Nat.le_of_ble_eq_true rfl) rfl (Nat.le_of_ble_eq_true rfl) (c3_dayGoesBy 3 (withU S (Su S) 1) τ95 b95 (SOK_U hO hO.2.2.2.1 (by omega)) ) ?_
                  rintro τ96 ⟨a96, b96⟩
                  refine AW.run 3 [] (41, [(2, .inl 1), (0, .inr (.inr (0, 0, 0))), (1, .inr (.inr (2, 0, 0)))], [.inl (τ96 2 3 0 8)], τ96) [] rfl ?_ ?_
                  · exact trivial
                  rw [b96.1.2.1]
                  refine AW.run 2 [] (45, [(2, .inl 1), (0, .inr (.inr (0, 0, 0))), (1, .inr (.inr (2, 0, 0)))], [.inl (τ96 2 0 0 8), .inl (bI (Sw (dayS (withU S (Su S) 1))))], τ96) [] rfl ?_ ?_
                  · exact trivial
                  rw [(only_rep (only_trans (only_trans (only_trans (only_trans (only_trans (only_trans (only_trans (only_trans (only_trans (only_trans (only_trans (only_trans (only_trans (only_trans (only_trans (only_trans (only_trans (only_trans (only_trans (only_trans (only_trans (only_trans (only_trans (only_trans (only_trans (only_trans (only_trans only_rfl a70) a71) a72) a73) a74) a75) a76) a77) a78) a79) a80) a81) a82) a83) a84) a85) a86) a87) a88) a89) a90) a91) a92) a93) a94) a95) a96) hR).1.2.1]
                  by_cases h45_9 : sameW (dayS (withU S (Su S) 1)) S = true
                  · skip
                    refine AW.run 2 [false] (49, [(2, .inl 1), (0, .inr (.inr (0, 0, 0))), (1, .inr (.inr (2, 0, 0)))], [.inl 1], τ96) [¬ icP .ne (bI (Sw (dayS (withU S (Su S) 1)))) (bI (Sw S))] rfl ?_ ?_
                    · exact allP1 (fun q => q (bI_eq.mpr (of_decide_eq_true h45_9)))
                    refine AW.reti ⟨_, rfl⟩ rfl ?_
                    exact ⟨by simp [clmN, *] <;> rfl, (only_trans (only_trans (only_trans (only_trans (only_trans (only_trans (only_trans (only_trans (only_trans (only_trans (only_trans (only_trans (only_trans (only_trans (only_trans (only_trans (only_trans (only_trans (only_trans (only_trans (only_trans (only_trans (only_trans (only_trans (only_trans (only_trans (only_trans only_rfl a70) a71) a72) a73) a74) a75) a76) a77) a78) a79) a80) a81) a82) a83) a84) a85) a86) a87) a88) a89) a90) a91) a92) a93) a94) a95) a96)⟩
                  · skip
                    refine AW.run 8 [true, false] (12, [(2, .inl 0), (0, .inr (.inr (0, 0, 0))), (1, .inr (.inr (2, 0, 0)))], [.inr (.inr (2, 0, 0)), .inr (.inr (2, 3, 0))], τ96) [icP .ne (bI (Sw (dayS (withU S (Su S) 1)))) (bI (Sw S)), ¬ icP .lt (0 : Int32) 0] rfl ?_ ?_
                    · exact ⟨(fun q => h45_9 (decide_eq_true (bI_eq.mp q))), allP1 (by decide : ¬ ((0 : Int32) < 0))⟩
                    refine AW.callVV (d' := 1) [.inr (.inr (2, 0, 0))] [] ⟨_, rfl⟩ f_3_copyFrom v_3_copyFrom l_1_25 ⟨rfl, by decide⟩ rfl (Nat.le_of_ble_eq_true rfl) rfl (Nat.le_of_ble_eq_true rfl) (c3_copyFrom 3 0 (by decide) S τ96 (only_rep (only_trans (only_trans (only_trans (only_trans (only_trans (only_trans (only_trans (only_trans (only_trans (only_trans (only_trans (only_trans (only_trans (only_trans (only_trans (only_trans (only_trans (only_trans (only_trans (only_trans (only_trans (only_trans (only_trans (only_trans (only_trans (only_trans (only_trans only_rfl a70) a71) a72) a73) a74) a75) a76) a77) a78) a79) a80) a81) a82) a83) a84) a85) a86) a87) a88) a89) a90) a91) a92) a93) a94) a95) a96) hR) hO) ?_
                    rintro τ97 ⟨a97, b97⟩
                    refine AW.run 4 [] (23, [(2, .inl 0), (0, .inr (.inr (0, 0, 0))), (1, .inr (.inr (2, 0, 0)))], [.inl (τ97 2 0 0 10), .inr (.inr (2, 3, 0))], τ97) [] rfl ?_ ?_
                    · exact trivial
                    rw [(only_rep (only_trans (only_trans (only_trans (only_trans (only_trans (only_trans (only_trans (only_trans (only_trans (only_trans (only_trans (only_trans (only_trans (only_trans (only_trans (only_trans (only_trans (only_trans (only_trans (only_trans (only_trans (only_trans (only_trans (only_trans (only_trans (only_trans (only_trans (only_trans only_rfl a70) a71) a72) a73) a74) a75) a76) a77) a78) a79) a80) a81) a82) a83) a84) a85) a86) a87) a88) a89) a90) a91) a92) a93) a94) a95) a96) a97) hR).1.2.2.2.1]
                    refine AW.run 1 [] (24, [(2, .inl 0), (0, .inr (.inr (0, 0, 0))), (1, .inr (.inr (2, 0, 0)))], [.inl 0, .inl (nI (Su S)), .inr (.inr (2, 3, 0))], τ97) [] rfl ?_ ?_
                    · exact trivial
                    refine AW.callVV (d' := 2) [.inl (nI (Su S)), .inl 0] [] ⟨_, rfl⟩ f_3_nourish v_3_nourish l_1_95 ⟨rfl, by decide⟩ rfl (Nat.le_of_ble_eq_true rfl) rfl (Nat.le_of_ble_eq_true rfl) (c3_nourish 3 S τ97 b97 hO (Su S) 0 hO.2.2.2.1 (by omega)) ?_
                    rintro τ98 ⟨a98, b98⟩
                    refine AW.run 2 [] (31, [(2, .inl 0), (0, .inr (.inr (0, 0, 0))), (1, .inr (.inr (2, 0, 0)))], [.inr (.inr (2, 3, 0))], τ98) [] rfl ?_ ?_
                    · exact trivial
                    refine AW.callVV (d' := 2) [] [] ⟨_, rfl⟩ f_3_dayGoesBy v_3_dayGoesBy l_1_47 ⟨rfl, by decide⟩ rfl (Nat.le_of_ble_eq_true rfl) rfl (Nat.le_of_ble_eq_true rfl) (c3_dayGoesBy 3 (withU S (Su S) 0) τ98 b98 (SOK_U hO hO.2.2.2.1 (by omega)) ) ?_
                    rintro τ99 ⟨a99, b99⟩
                    refine AW.run 3 [] (41, [(2, .inl 0), (0, .inr (.inr (0, 0, 0))), (1, .inr (.inr (2, 0, 0)))], [.inl (τ99 2 3 0 8)], τ99) [] rfl ?_ ?_
                    · exact trivial
                    rw [b99.1.2.1]
                    refine AW.run 2 [] (45, [(2, .inl 0), (0, .inr (.inr (0, 0, 0))), (1, .inr (.inr (2, 0, 0)))], [.inl (τ99 2 0 0 8), .inl (bI (Sw (dayS (withU S (Su S) 0))))], τ99) [] rfl ?_ ?_
                    · exact trivial
                    rw [(only_rep (only_trans (only_trans (only_trans (only_trans (only_trans (only_trans (only_trans (only_trans (only_trans (only_trans (only_trans (only_trans (only_trans (only_trans (only_trans (only_trans (only_trans (only_trans (only_trans (only_trans (only_trans (only_trans (only_trans (only_trans (only_trans (only_trans (only_trans (only_trans (only_trans (only_trans only_rfl a70) a71) a72) a73) a74) a75) a76) a77) a78) a79) a80) a81) a82) a83) a84) a85) a86) a87) a88) a89) a90) a91) a92) a93) a94) a95) a96) a97) a98) a99) hR).1.2.1]
                    by_cases h45_10 : sameW (dayS (withU S (Su S) 0)) S = true
                    · skip
                      refine AW.run 2 [false] (49, [(2, .inl 0), (0, .inr (.inr (0, 0, 0))), (1, .inr (.inr (2, 0, 0)))], [.inl 0], τ99) [¬ icP .ne (bI (Sw (dayS (withU S (Su S) 0)))) (bI (Sw S))] rfl ?_ ?_
                      · exact allP1 (fun q => q (bI_eq.mpr (of_decide_eq_true h45_10)))
                      refine AW.reti ⟨_, rfl⟩ rfl ?_
                      exact ⟨by simp [clmN, *] <;> rfl, (only_trans (only_trans (only_trans (only_trans (only_trans (only_trans (only_trans (only_trans (only_trans (only_trans (only_trans (only_trans (only_trans (only_trans (only_trans (only_trans (only_trans (only_trans (only_trans (only_trans (only_trans (only_trans (only_trans (only_trans (only_trans (only_trans (only_trans (only_trans (only_trans (only_trans only_rfl a70) a71) a72) a73) a74) a75) a76) a77) a78) a79) a80) a81) a82) a83) a84) a85) a86) a87) a88) a89) a90) a91) a92) a93) a94) a95) a96) a97) a98) a99)⟩
                    · skip
                      refine AW.run 6 [true, true] (58, [(2, .inl (-1)), (0, .inr (.inr (0, 0, 0))), (1, .inr (.inr (2, 0, 0)))], [.inl (-9)], τ99) [icP .ne (bI (Sw (dayS (withU S (Su S) 0)))) (bI (Sw S)), icP .lt (-1 : Int32) 0] rfl ?_ ?_
                      · exact ⟨(fun q => h45_10 (decide_eq_true (bI_eq.mp q))), allP1 (by decide : ((-1 : Int32) < 0))⟩
                      refine AW.reti ⟨_, rfl⟩ rfl ?_
                      exact ⟨by simp [clmN, *] <;> rfl, (only_trans (only_trans (only_trans (only_trans (only_trans (only_trans (only_trans (only_trans (only_trans (only_trans (only_trans (only_trans (only_trans (only_trans (only_trans (only_trans (only_trans (only_trans (only_trans (only_trans (only_trans (only_trans (only_trans (only_trans (only_trans (only_trans (only_trans (only_trans (only_trans (only_trans only_rfl a70) a71) a72) a73) a74) a75) a76) a77) a78) a79) a80) a81) a82) a83) a84) a85) a86) a87) a88) a89) a90) a91) a92) a93) a94) a95) a96) a97) a98) a99)⟩
set_option maxHeartbeats 4000000 in
set_option maxRecDepth 100000 in
theorem c1_easedBy (S : Sv) (σ : St) (hR : RepS (σ 2 0) S) (hO : SOK S) (b o n : Nat) (hb : b < Sn S) (ho : o < Sn S) (hn : n < 2 ^ 31) : Ct M1_easedBy 5 [.inr (.inr (0, 0, 0)), .inr (.inr (2, 0, 0)), .inl (nI b), .inl (nI o), .inl (nI n)] σ (PI fun r9 σ' => nI (Sq (passS n S) b) - nI (Sq (passS n (withW S (fu (Sw S) o false))) b) = r9 ∧ Only 2 3 σ σ') := by
  refine Ct.of f_1_easedBy (Nat.le_of_ble_eq_true rfl) ?_
  show AW M1_easedBy 5 _ (0, [(0, .inr (.inr (0, 0, 0))), (1, .inr (.inr (2, 0, 0))), (2, .inl (nI b)), (3, .inl (nI o)), (4, .inl (nI n))], [], σ)
  refine AW.run 3 [] (4, [(0, .inr (.inr (0, 0, 0))), (1, .inr (.inr (2, 0, 0))), (2, .inl (nI b)), (3, .inl (nI o)), (4, .inl (nI n))], [.inl (nI n), .inr (.inr (2, 0, 0)), .inr (.inr (0, 0, 0))], σ) [] rfl ?_ ?_
  · exact trivial
  refine AW.callVR (d' := 4) [.inr (.inr (2, 0, 0)), .inl (nI n)] [] ⟨_, rfl⟩ f_1_ahead v_1_ahead l_1_76 ⟨rfl, by decide⟩ rfl (Nat.le_of_ble_eq_true rfl) rfl (Nat.le_of_ble_eq_true rfl) (c1_ahead S σ hR hO n (by omega)) ?_
  rintro _ τ100 ⟨rfl, a100, b100⟩
  refine AW.run 1 [] (8, [(0, .inr (.inr (0, 0, 0))), (1, .inr (.inr (2, 0, 0))), (2, .inl (nI b)), (3, .inl (nI o)), (4, .inl (nI n))], [.inl (nI b), .inr (.inr (2, 3, 0))], τ100) [] rfl ?_ ?_
  · exact trivial
  refine AW.callVI (d' := 1) [.inl (nI b)] [] ⟨_, rfl⟩ f_3_pressOf v_3_pressOf l_1_106 ⟨rfl, by decide⟩ rfl (Nat.le_of_ble_eq_true rfl) rfl (Nat.le_of_ble_eq_true rfl) (c3_pressOf 3 (passS n S) τ100 b100 (SOK_pass n hO) b (by rw [pass_n]; exact hb)) ?_
  rintro _ _ ⟨rfl, rfl⟩
  refine AW.run 4 [] (18, [(5, .inl (nI (Sq (passS n S) b))), (0, .inr (.inr (0, 0, 0))), (1, .inr (.inr (2, 0, 0))), (2, .inl (nI b)), (3, .inl (nI o)), (4, .inl (nI n))], [.inr (.inr (2, 0, 0)), .inr (.inr (2, 3, 0))], τ100) [] rfl ?_ ?_
  · exact trivial
  refine AW.callVV (d' := 1) [.inr (.inr (2, 0, 0))] [] ⟨_, rfl⟩ f_3_copyFrom v_3_copyFrom l_1_25 ⟨rfl, by decide⟩ rfl (Nat.le_of_ble_eq_true rfl) rfl (Nat.le_of_ble_eq_true rfl) (c3_copyFrom 3 0 (by decide) S τ100 (only_rep (only_trans only_rfl a100) hR) hO) ?_
  rintro τ101 ⟨a101, b101⟩
  refine AW.run 3 [] (26, [(5, .inl (nI (Sq (passS n S) b))), (0, .inr (.inr (0, 0, 0))), (1, .inr (.inr (2, 0, 0))), (2, .inl (nI b)), (3, .inl (nI o)), (4, .inl (nI n))], [.inl (nI o), .inr (.inr (2, 3, 0))], τ101) [] rfl ?_ ?_
  · exact trivial
  refine AW.callVV (d' := 1) [.inl (nI o)] [] ⟨_, rfl⟩ f_3_takeAway v_3_takeAway l_1_139 ⟨rfl, by decide⟩ rfl (Nat.le_of_ble_eq_true rfl) rfl (Nat.le_of_ble_eq_true rfl) (c3_takeAway 3 S τ101 b101 hO o ho) ?_
  rintro τ102 ⟨a102, b102⟩
  refine AW.run 3 [] (35, [(5, .inl (nI (Sq (passS n S) b))), (0, .inr (.inr (0, 0, 0))), (1, .inr (.inr (2, 0, 0))), (2, .inl (nI b)), (3, .inl (nI o)), (4, .inl (nI n))], [.inl (nI n), .inr (.inr (2, 3, 0))], τ102) [] rfl ?_ ?_
  · exact trivial
  refine AW.callVV (d' := 3) [.inl (nI n)] [] ⟨_, rfl⟩ f_3_pass v_3_pass l_1_29 ⟨rfl, by decide⟩ rfl (Nat.le_of_ble_eq_true rfl) rfl (Nat.le_of_ble_eq_true rfl) (c3_pass 3 (withW S (fu (Sw S) o false)) τ102 b102 (SOK_w hO) n (by omega)) ?_
  rintro τ103 ⟨a103, b103⟩
  refine AW.run 4 [] (45, [(5, .inl (nI (Sq (passS n S) b))), (0, .inr (.inr (0, 0, 0))), (1, .inr (.inr (2, 0, 0))), (2, .inl (nI b)), (3, .inl (nI o)), (4, .inl (nI n))], [.inl (nI b), .inr (.inr (2, 3, 0)), .inl (nI (Sq (passS n S) b))], τ103) [] rfl ?_ ?_
  · exact trivial
  refine AW.callVI (d' := 1) [.inl (nI b)] [.inl (nI (Sq (passS n S) b))] ⟨_, rfl⟩ f_3_pressOf v_3_pressOf l_1_106 ⟨rfl, by decide⟩ rfl (Nat.le_of_ble_eq_true rfl) rfl (Nat.le_of_ble_eq_true rfl) (c3_pressOf 3 (passS n (withW S (fu (Sw S) o false))) τ103 b103 (SOK_pass n (SOK_w hO)) b (by rw [pass_n]; exact hb)) ?_
  rintro _ _ ⟨rfl, rfl⟩
  refine AW.run 1 [] (49, [(5, .inl (nI (Sq (passS n S) b))), (0, .inr (.inr (0, 0, 0))), (1, .inr (.inr (2, 0, 0))), (2, .inl (nI b)), (3, .inl (nI o)), (4, .inl (nI n))], [.inl ((nI (Sq (passS n S) b)) - (nI (Sq (passS n (withW S (fu (Sw S) o false))) b)))], τ103) [] rfl ?_ ?_
  · exact trivial
  refine AW.reti ⟨_, rfl⟩ rfl ?_
  exact ⟨rfl, (only_trans (only_trans (only_trans (only_trans only_rfl a100) a101) a102) a103)⟩
/-- the mind's own may have changed -/
def OnlyM (σ σ' : St) : Prop := ∀ c' i', c' ≠ 0 → ¬ (c' = 2 ∧ i' = 3) → σ' c' i' = σ c' i'
theorem onlyM_rfl {σ : St} : OnlyM σ σ := fun _ _ _ _ => rfl
theorem onlyM_of {σ σ1 : St} (h : Only 2 3 σ σ1) : OnlyM σ σ1 := fun c' i' _ hn => h c' i' hn
theorem onlyM_trans {σ σ1 σ2 : St} (h : OnlyM σ σ1) (h2 : Only 2 3 σ1 σ2) : OnlyM σ σ2 := fun c' i' h0 hn => (h2 c' i' hn).trans (h c' i' h0 hn)
theorem onlyM_set {σ τ : St} {j k : Nat} {v : Int32} (h : OnlyM σ τ) : OnlyM σ (setM τ 0 0 j k v) := fun c' i' h0 hn => by
  rw [set_ne (fun q => h0 q.1)]; exact h c' i' h0 hn
theorem onlyM_rep {σ τ : St} {S : Sv} (h : OnlyM σ τ) (hR : RepS (σ 2 0) S) : RepS (τ 2 0) S := by
  rw [h 2 0 (by decide) (by decide)]; exact hR
def rest0 (S : Sv) (a : Nat) (p : Bool) : Sv := if p = true then withQ S (fu (Sq S) a 0) else S
def restS (S : Sv) (one other p : Nat) : Sv := rest0 (rest0 S one (decide (2 ≤ p))) other (decide (p % 2 = 1))
theorem SOK_rest0 {S : Sv} {a : Nat} {p : Bool} (hO : SOK S) (ha : a < Sn S) : SOK (rest0 S a p) := by
  unfold rest0
  split
  · exact SOK_q hO ha (by omega)
  · exact hO
def rw1 (S : Sv) (one other n p : Nat) : Nat := wantN (passS n (restS S one other p)) one
def rw2 (S : Sv) (one other n p : Nat) : Nat := wantN (passS n (restS S one other p)) other
def restB (S : Sv) (one other n : Nat) : Nat → Bool := fun p => decide (rw1 S one other n (p ^^^ 2) ≤ rw1 S one other n p) && decide (rw2 S one other n (p ^^^ 1) ≤ rw2 S one other n p)
def restO (S : Sv) (one other n : Nat) : Int32 := match fstN (restB S one other n) 4 0 with
  | none => -9
  | some p => nI (10 * (p / 2) + p % 2)
theorem want_le {T : Sv} (hO : SOK T) (b : Nat) : wantN T b ≤ 14 := by
  have := (hO.2.1 b).2.2.2
  unfold wantN
  split <;> omega
theorem p4a : ∀ p < 4, nI p - nI p / 2 * 2 = nI (p % 2) := by decide
theorem p4b : ∀ p < 4, vp_in (nI p ^^^ 2) 4 ∧ (nI p ^^^ 2).toNatClampNeg = p ^^^ 2 ∧ p ^^^ 2 < 4 := by
  intro p hp
  have : p = 0 ∨ p = 1 ∨ p = 2 ∨ p = 3 := by omega
  rcases this with rfl | rfl | rfl | rfl <;> exact ⟨by unfold vp_in; decide, by decide, by decide⟩
theorem p4c : ∀ p < 4, vp_in (nI p ^^^ 1) 4 ∧ (nI p ^^^ 1).toNatClampNeg = p ^^^ 1 ∧ p ^^^ 1 < 4 := by
  intro p hp
  have : p = 0 ∨ p = 1 ∨ p = 2 ∨ p = 3 := by omega
  rcases this with rfl | rfl | rfl | rfl <;> exact ⟨by unfold vp_in; decide, by decide, by decide⟩
theorem p4d : ∀ p < 4, (10 : Int32) * (nI p / 2) + nI (p % 2) = nI (10 * (p / 2) + p % 2) := by decide
theorem cl4 {p : Nat} (h : p < 4) : (nI p).toNatClampNeg = p := nI_clamp (by omega)
set_option maxHeartbeats 4000000 in
set_option maxRecDepth 100000 in
theorem c1_restingPair (S : Sv) (σ : St) (hR : RepS (σ 2 0) S) (hO : SOK S) (one other n : Nat) (h1 : one < Sn S) (h2 : other < Sn S) (hn : n < 2 ^ 31) : Ct M1_restingPair 4 [.inr (.inr (0, 0, 0)), .inr (.inr (2, 0, 0)), .inl (nI one), .inl (nI other), .inl (nI n)] σ (PI fun r9 σ' => restO S one other n = r9 ∧ OnlyM σ σ') := by
  refine Ct.of f_1_restingPair (Nat.le_of_ble_eq_true rfl) ?_
  show AW M1_restingPair 4 _ (0, [(0, .inr (.inr (0, 0, 0))), (1, .inr (.inr (2, 0, 0))), (2, .inl (nI one)), (3, .inl (nI other)), (4, .inl (nI n))], [], σ)
  have hp4 : ∀ p, SOK (passS n (restS S one other p)) := fun p => SOK_pass n (SOK_rest0 (SOK_rest0 hO h1) (by unfold rest0; split <;> exact h2))
  refine AW.run 2 [] (3, [(5, .inl 0), (0, .inr (.inr (0, 0, 0))), (1, .inr (.inr (2, 0, 0))), (2, .inl (nI one)), (3, .inl (nI other)), (4, .inl (nI n))], [], σ) [] rfl ?_ ?_
  · exact trivial
  refine AW.pick [1, 2, 3, 4, 5, 0] (ls' := [(0, .inr (.inr (0, 0, 0))), (1, .inr (.inr (2, 0, 0))), (2, .inl (nI one)), (3, .inl (nI other)), (4, .inl (nI n)), (5, .inl (nI 0))]) rfl ?_
  refine AW.loop (α := Unit) 3 4 (fun p _ => [(0, .inr (.inr (0, 0, 0))), (1, .inr (.inr (2, 0, 0))), (2, .inl (nI one)), (3, .inl (nI other)), (4, .inl (nI n)), (5, .inl (nI p))]) (fun p _ τ => OnlyM σ τ ∧ ∀ j, j < p → τ 0 0 2 j = nI (rw1 S one other n j) ∧ τ 0 0 3 j = nI (rw2 S one other n j)) ?_ ?_ 4 0 () _ (by omega) ⟨onlyM_rfl, fun j hj => absurd hj (Nat.not_lt_zero _)⟩
  · intro p _ τ hp hI hk
    obtain ⟨hA, hF⟩ := hI
    have hm2 := p4a p hp
    refine AW.run 6 [false] (14, [(0, .inr (.inr (0, 0, 0))), (1, .inr (.inr (2, 0, 0))), (2, .inl (nI one)), (3, .inl (nI other)), (4, .inl (nI n)), (5, .inl (nI p))], [.inr (.inr (2, 0, 0)), .inr (.inr (2, 3, 0))], τ) [¬ icP .ge (nI p) 4] rfl ?_ ?_
    · exact allP1 (nle_lit (a := 4) hp (by decide))
    refine AW.callVV (d' := 1) [.inr (.inr (2, 0, 0))] [] ⟨_, rfl⟩ f_3_copyFrom v_3_copyFrom l_1_25 ⟨rfl, by decide⟩ rfl (Nat.le_of_ble_eq_true rfl) rfl (Nat.le_of_ble_eq_true rfl) (c3_copyFrom 3 0 (by decide) S τ (onlyM_rep hA hR) hO) ?_
    rintro τ104 ⟨a104, b104⟩
    by_cases h20_1 : 2 ≤ p
    · skip
      refine AW.run 7 [false] (29, [(0, .inr (.inr (0, 0, 0))), (1, .inr (.inr (2, 0, 0))), (2, .inl (nI one)), (3, .inl (nI other)), (4, .inl (nI n)), (5, .inl (nI p))], [.inl 0, .inl (nI one), .inr (.inr (2, 3, 0))], τ104) [¬ icP .lt (nI p) 2] rfl ?_ ?_
      · exact allP1 (nI_nlt (a := p) (b := 2) (by omega) (by omega))
      refine AW.callVV (d' := 1) [.inl (nI one), .inl 0] [] ⟨_, rfl⟩ f_3_setPress v_3_setPress l_1_86 ⟨rfl, by decide⟩ rfl (Nat.le_of_ble_eq_true rfl) rfl (Nat.le_of_ble_eq_true rfl) (c3_setPress 3 S τ104 b104 hO one 0 (show one < Sn S from h1)) ?_
      rintro τ105 ⟨a105, b105⟩
      refine AW.run 3 [] (36, [(0, .inr (.inr (0, 0, 0))), (1, .inr (.inr (2, 0, 0))), (2, .inl (nI one)), (3, .inl (nI other)), (4, .inl (nI n)), (5, .inl (nI p))], [.inl ((nI p) - (nI p) / 2 * 2)], τ105) [¬ (2 : Int32) = 0] rfl ?_ ?_
      · exact allP1 (by decide)
      rw [hm2]
      by_cases h37_2 : p % 2 = 1
      · skip
        refine AW.run 6 [false] (46, [(0, .inr (.inr (0, 0, 0))), (1, .inr (.inr (2, 0, 0))), (2, .inl (nI one)), (3, .inl (nI other)), (4, .inl (nI n)), (5, .inl (nI p))], [.inl 0, .inl (nI other), .inr (.inr (2, 3, 0))], τ105) [¬ icP .ne (nI (p % 2)) 1] rfl ?_ ?_
        · exact allP1 (fun q => q (by rw [h37_2]; rfl))
        refine AW.callVV (d' := 1) [.inl (nI other), .inl 0] [] ⟨_, rfl⟩ f_3_setPress v_3_setPress l_1_86 ⟨rfl, by decide⟩ rfl (Nat.le_of_ble_eq_true rfl) rfl (Nat.le_of_ble_eq_true rfl) (c3_setPress 3 (withQ S (fu (Sq S) one 0)) τ105 b105 (SOK_q hO (show one < Sn S from h1) (by omega)) other 0 (show other < Sn S from h2)) ?_
        rintro τ106 ⟨a106, b106⟩
        refine AW.run 3 [] (55, [(0, .inr (.inr (0, 0, 0))), (1, .inr (.inr (2, 0, 0))), (2, .inl (nI one)), (3, .inl (nI other)), (4, .inl (nI n)), (5, .inl (nI p))], [.inl (nI n), .inr (.inr (2, 3, 0))], τ106) [] rfl ?_ ?_
        · exact trivial
        refine AW.callVV (d' := 3) [.inl (nI n)] [] ⟨_, rfl⟩ f_3_pass v_3_pass l_1_29 ⟨rfl, by decide⟩ rfl (Nat.le_of_ble_eq_true rfl) rfl (Nat.le_of_ble_eq_true rfl) (c3_pass 3 (withQ (withQ S (fu (Sq S) one 0)) (fu (Sq (withQ S (fu (Sq S) one 0))) other 0)) τ106 b106 (SOK_q (SOK_q hO (show one < Sn S from h1) (by omega)) (show other < Sn S from h2) (by omega)) n (by omega)) ?_
        rintro τ107 ⟨a107, b107⟩
        refine AW.run 5 [] (66, [(0, .inr (.inr (0, 0, 0))), (1, .inr (.inr (2, 0, 0))), (2, .inl (nI one)), (3, .inl (nI other)), (4, .inl (nI n)), (5, .inl (nI p))], [.inl (nI one), .inr (.inr (0, 0, 0)), .inl (nI p), .inr (.inr (0, 0, 2))], τ107) [] rfl ?_ ?_
        · exact trivial
        refine AW.callVI (d' := 2) [.inl (nI one)] [.inl (nI p), .inr (.inr (0, 0, 2))] ⟨_, rfl⟩ f_1_wantMet v_1_wantMet l_1_130 ⟨rfl, by decide⟩ rfl (Nat.le_of_ble_eq_true rfl) rfl (Nat.le_of_ble_eq_true rfl) (c1_wantMet (passS n (withQ (withQ S (fu (Sq S) one 0)) (fu (Sq (withQ S (fu (Sq S) one 0))) other 0))) τ107 b107 (SOK_pass n (SOK_q (SOK_q hO (show one < Sn S from h1) (by omega)) (show other < Sn S from h2) (by omega))) one (by rw [pass_n]; exact h1)) ?_
        rintro _ _ ⟨rfl, rfl⟩
        refine AW.run 6 [] (78, [(0, .inr (.inr (0, 0, 0))), (1, .inr (.inr (2, 0, 0))), (2, .inl (nI one)), (3, .inl (nI other)), (4, .inl (nI n)), (5, .inl (nI p))], [.inl (nI other), .inr (.inr (0, 0, 0)), .inl (nI p), .inr (.inr (0, 0, 3))], (setM τ107 0 0 2 (nI p).toNatClampNeg (nI (wantN (passS n (withQ (withQ S (fu (Sq S) one 0)) (fu (Sq (withQ S (fu (Sq S) one 0))) other 0))) one)))) [vp_in (nI p) 4] rfl ?_ ?_
        · exact allP1 (by exact vp_in_nI hp (by decide))
        refine AW.callVI (d' := 2) [.inl (nI other)] [.inl (nI p), .inr (.inr (0, 0, 3))] ⟨_, rfl⟩ f_1_wantMet v_1_wantMet l_1_130 ⟨rfl, by decide⟩ rfl (Nat.le_of_ble_eq_true rfl) rfl (Nat.le_of_ble_eq_true rfl) (c1_wantMet (passS n (withQ (withQ S (fu (Sq S) one 0)) (fu (Sq (withQ S (fu (Sq S) one 0))) other 0))) (setM τ107 0 0 2 (nI p).toNatClampNeg (nI (wantN (passS n (withQ (withQ S (fu (Sq S) one 0)) (fu (Sq (withQ S (fu (Sq S) one 0))) other 0))) one))) (by rw [set_ne (by decide)]; exact b107) (SOK_pass n (SOK_q (SOK_q hO (show one < Sn S from h1) (by omega)) (show other < Sn S from h2) (by omega))) other (by rw [pass_n]; exact h2)) ?_
        rintro _ _ ⟨rfl, rfl⟩
        refine AW.run 3 [] (3, [(5, .inl ((nI p) + 1)), (0, .inr (.inr (0, 0, 0))), (1, .inr (.inr (2, 0, 0))), (2, .inl (nI one)), (3, .inl (nI other)), (4, .inl (nI n))], [], (setM (setM τ107 0 0 2 (nI p).toNatClampNeg (nI (wantN (passS n (withQ (withQ S (fu (Sq S) one 0)) (fu (Sq (withQ S (fu (Sq S) one 0))) other 0))) one))) 0 0 3 (nI p).toNatClampNeg (nI (wantN (passS n (withQ (withQ S (fu (Sq S) one 0)) (fu (Sq (withQ S (fu (Sq S) one 0))) other 0))) other)))) [vp_in (nI p) 4] rfl ?_ ?_
        · exact allP1 (by exact vp_in_nI hp (by decide))
        rw [nI_1 p]
        refine AW.pick [1, 2, 3, 4, 5, 0] (ls' := [(0, .inr (.inr (0, 0, 0))), (1, .inr (.inr (2, 0, 0))), (2, .inl (nI one)), (3, .inl (nI other)), (4, .inl (nI n)), (5, .inl (nI (p + 1)))]) rfl ?_
        have hch : τ107 0 0 = τ 0 0 := (only_trans (only_trans (only_trans a104 a105) a106) a107) 0 0 (by decide)
        rw [cl4 hp]
        refine hk () _ ⟨onlyM_set (onlyM_set (onlyM_trans (onlyM_trans (onlyM_trans (onlyM_trans hA a104) a105) a106) a107)), fun j hj => ?_⟩
        by_cases hjp : j = p
        · subst hjp
          have hre : restS S one other j = (withQ (withQ S (fu (Sq S) one 0)) (fu (Sq (withQ S (fu (Sq S) one 0))) other 0)) := by simp [restS, rest0, *]
          simp only [setM_at, rw1, rw2, hre]
          simp
        · have := hF j (by omega)
          simp only [setM_at]
          rw [if_neg (by omega), if_neg (by omega), if_neg (by omega), if_neg (by omega), hch]
          exact this
      · skip
        refine AW.run 5 [true] (55, [(0, .inr (.inr (0, 0, 0))), (1, .inr (.inr (2, 0, 0))), (2, .inl (nI one)), (3, .inl (nI other)), (4, .inl (nI n)), (5, .inl (nI p))], [.inl (nI n), .inr (.inr (2, 3, 0))], τ105) [icP .ne (nI (p % 2)) 1] rfl ?_ ?_
        · exact allP1 (fun q => h37_2 (nI_lit (n := 1) q (by omega) (by decide)))
        refine AW.callVV (d' := 3) [.inl (nI n)] [] ⟨_, rfl⟩ f_3_pass v_3_pass l_1_29 ⟨rfl, by decide⟩ rfl (Nat.le_of_ble_eq_true rfl) rfl (Nat.le_of_ble_eq_true rfl) (c3_pass 3 (withQ S (fu (Sq S) one 0)) τ105 b105 (SOK_q hO (show one < Sn S from h1) (by omega)) n (by omega)) ?_
        rintro τ108 ⟨a108, b108⟩
        refine AW.run 5 [] (66, [(0, .inr (.inr (0, 0, 0))), (1, .inr (.inr (2, 0, 0))), (2, .inl (nI one)), (3, .inl (nI other)), (4, .inl (nI n)), (5, .inl (nI p))], [.inl (nI one), .inr (.inr (0, 0, 0)), .inl (nI p), .inr (.inr (0, 0, 2))], τ108) [] rfl ?_ ?_
        · exact trivial
        refine AW.callVI (d' := 2) [.inl (nI one)] [.inl (nI p), .inr (.inr (0, 0, 2))] ⟨_, rfl⟩ f_1_wantMet v_1_wantMet l_1_130 ⟨rfl, by decide⟩ rfl (Nat.le_of_ble_eq_true rfl) rfl (Nat.le_of_ble_eq_true rfl) (c1_wantMet (passS n (withQ S (fu (Sq S) one 0))) τ108 b108 (SOK_pass n (SOK_q hO (show one < Sn S from h1) (by omega))) one (by rw [pass_n]; exact h1)) ?_
        rintro _ _ ⟨rfl, rfl⟩
        refine AW.run 6 [] (78, [(0, .inr (.inr (0, 0, 0))), (1, .inr (.inr (2, 0, 0))), (2, .inl (nI one)), (3, .inl (nI other)), (4, .inl (nI n)), (5, .inl (nI p))], [.inl (nI other), .inr (.inr (0, 0, 0)), .inl (nI p), .inr (.inr (0, 0, 3))], (setM τ108 0 0 2 (nI p).toNatClampNeg (nI (wantN (passS n (withQ S (fu (Sq S) one 0))) one)))) [vp_in (nI p) 4] rfl ?_ ?_
        · exact allP1 (by exact vp_in_nI hp (by decide))
        refine AW.callVI (d' := 2) [.inl (nI other)] [.inl (nI p), .inr (.inr (0, 0, 3))] ⟨_, rfl⟩ f_1_wantMet v_1_wantMet l_1_130 ⟨rfl, by decide⟩ rfl (Nat.le_of_ble_eq_true rfl) rfl (Nat.le_of_ble_eq_true rfl) (c1_wantMet (passS n (withQ S (fu (Sq S) one 0))) (setM τ108 0 0 2 (nI p).toNatClampNeg (nI (wantN (passS n (withQ S (fu (Sq S) one 0))) one))) (by rw [set_ne (by decide)]; exact b108) (SOK_pass n (SOK_q hO (show one < Sn S from h1) (by omega))) other (by rw [pass_n]; exact h2)) ?_
        rintro _ _ ⟨rfl, rfl⟩
        refine AW.run 3 [] (3, [(5, .inl ((nI p) + 1)), (0, .inr (.inr (0, 0, 0))), (1, .inr (.inr (2, 0, 0))), (2, .inl (nI one)), (3, .inl (nI other)), (4, .inl (nI n))], [], (setM (setM τ108 0 0 2 (nI p).toNatClampNeg (nI (wantN (passS n (withQ S (fu (Sq S) one 0))) one))) 0 0 3 (nI p).toNatClampNeg (nI (wantN (passS n (withQ S (fu (Sq S) one 0))) other)))) [vp_in (nI p) 4] rfl ?_ ?_
        · exact allP1 (by exact vp_in_nI hp (by decide))
        rw [nI_1 p]
        refine AW.pick [1, 2, 3, 4, 5, 0] (ls' := [(0, .inr (.inr (0, 0, 0))), (1, .inr (.inr (2, 0, 0))), (2, .inl (nI one)), (3, .inl (nI other)), (4, .inl (nI n)), (5, .inl (nI (p + 1)))]) rfl ?_
        have hch : τ108 0 0 = τ 0 0 := (only_trans (only_trans a104 a105) a108) 0 0 (by decide)
        rw [cl4 hp]
        refine hk () _ ⟨onlyM_set (onlyM_set (onlyM_trans (onlyM_trans (onlyM_trans hA a104) a105) a108)), fun j hj => ?_⟩
        by_cases hjp : j = p
        · subst hjp
          have hre : restS S one other j = (withQ S (fu (Sq S) one 0)) := by simp [restS, rest0, *]
          simp only [setM_at, rw1, rw2, hre]
          simp
        · have := hF j (by omega)
          simp only [setM_at]
          rw [if_neg (by omega), if_neg (by omega), if_neg (by omega), if_neg (by omega), hch]
          exact this
    · skip
      refine AW.run 6 [true] (36, [(0, .inr (.inr (0, 0, 0))), (1, .inr (.inr (2, 0, 0))), (2, .inl (nI one)), (3, .inl (nI other)), (4, .inl (nI n)), (5, .inl (nI p))], [.inl ((nI p) - (nI p) / 2 * 2)], τ104) [icP .lt (nI p) 2, ¬ (2 : Int32) = 0] rfl ?_ ?_
      · exact ⟨(nI_lt (b := 2) (by omega) (by decide)), allP1 (by decide)⟩
      rw [hm2]
      by_cases h37_3 : p % 2 = 1
      · skip
        refine AW.run 6 [false] (46, [(0, .inr (.inr (0, 0, 0))), (1, .inr (.inr (2, 0, 0))), (2, .inl (nI one)), (3, .inl (nI other)), (4, .inl (nI n)), (5, .inl (nI p))], [.inl 0, .inl (nI other), .inr (.inr (2, 3, 0))], τ104) [¬ icP .ne (nI (p % 2)) 1] rfl ?_ ?_
        · exact allP1 (fun q => q (by rw [h37_3]; rfl))
        refine AW.callVV (d' := 1) [.inl (nI other), .inl 0] [] ⟨_, rfl⟩ f_3_setPress v_3_setPress l_1_86 ⟨rfl, by decide⟩ rfl (Nat.le_of_ble_eq_true rfl) rfl (Nat.le_of_ble_eq_true rfl) (c3_setPress 3 S τ104 b104 hO other 0 (show other < Sn S from h2)) ?_
        rintro τ109 ⟨a109, b109⟩
        refine AW.run 3 [] (55, [(0, .inr (.inr (0, 0, 0))), (1, .inr (.inr (2, 0, 0))), (2, .inl (nI one)), (3, .inl (nI other)), (4, .inl (nI n)), (5, .inl (nI p))], [.inl (nI n), .inr (.inr (2, 3, 0))], τ109) [] rfl ?_ ?_
        · exact trivial
        refine AW.callVV (d' := 3) [.inl (nI n)] [] ⟨_, rfl⟩ f_3_pass v_3_pass l_1_29 ⟨rfl, by decide⟩ rfl (Nat.le_of_ble_eq_true rfl) rfl (Nat.le_of_ble_eq_true rfl) (c3_pass 3 (withQ S (fu (Sq S) other 0)) τ109 b109 (SOK_q hO (show other < Sn S from h2) (by omega)) n (by omega)) ?_
        rintro τ110 ⟨a110, b110⟩
        refine AW.run 5 [] (66, [(0, .inr (.inr (0, 0, 0))), (1, .inr (.inr (2, 0, 0))), (2, .inl (nI one)), (3, .inl (nI other)), (4, .inl (nI n)), (5, .inl (nI p))], [.inl (nI one), .inr (.inr (0, 0, 0)), .inl (nI p), .inr (.inr (0, 0, 2))], τ110) [] rfl ?_ ?_
        · exact trivial
        refine AW.callVI (d' := 2) [.inl (nI one)] [.inl (nI p), .inr (.inr (0, 0, 2))] ⟨_, rfl⟩ f_1_wantMet v_1_wantMet l_1_130 ⟨rfl, by decide⟩ rfl (Nat.le_of_ble_eq_true rfl) rfl (Nat.le_of_ble_eq_true rfl) (c1_wantMet (passS n (withQ S (fu (Sq S) other 0))) τ110 b110 (SOK_pass n (SOK_q hO (show other < Sn S from h2) (by omega))) one (by rw [pass_n]; exact h1)) ?_
        rintro _ _ ⟨rfl, rfl⟩
        refine AW.run 6 [] (78, [(0, .inr (.inr (0, 0, 0))), (1, .inr (.inr (2, 0, 0))), (2, .inl (nI one)), (3, .inl (nI other)), (4, .inl (nI n)), (5, .inl (nI p))], [.inl (nI other), .inr (.inr (0, 0, 0)), .inl (nI p), .inr (.inr (0, 0, 3))], (setM τ110 0 0 2 (nI p).toNatClampNeg (nI (wantN (passS n (withQ S (fu (Sq S) other 0))) one)))) [vp_in (nI p) 4] rfl ?_ ?_
        · exact allP1 (by exact vp_in_nI hp (by decide))
        refine AW.callVI (d' := 2) [.inl (nI other)] [.inl (nI p), .inr (.inr (0, 0, 3))] ⟨_, rfl⟩ f_1_wantMet v_1_wantMet l_1_130 ⟨rfl, by decide⟩ rfl (Nat.le_of_ble_eq_true rfl) rfl (Nat.le_of_ble_eq_true rfl) (c1_wantMet (passS n (withQ S (fu (Sq S) other 0))) (setM τ110 0 0 2 (nI p).toNatClampNeg (nI (wantN (passS n (withQ S (fu (Sq S) other 0))) one))) (by rw [set_ne (by decide)]; exact b110) (SOK_pass n (SOK_q hO (show other < Sn S from h2) (by omega))) other (by rw [pass_n]; exact h2)) ?_
        rintro _ _ ⟨rfl, rfl⟩
        refine AW.run 3 [] (3, [(5, .inl ((nI p) + 1)), (0, .inr (.inr (0, 0, 0))), (1, .inr (.inr (2, 0, 0))), (2, .inl (nI one)), (3, .inl (nI other)), (4, .inl (nI n))], [], (setM (setM τ110 0 0 2 (nI p).toNatClampNeg (nI (wantN (passS n (withQ S (fu (Sq S) other 0))) one))) 0 0 3 (nI p).toNatClampNeg (nI (wantN (passS n (withQ S (fu (Sq S) other 0))) other)))) [vp_in (nI p) 4] rfl ?_ ?_
        · exact allP1 (by exact vp_in_nI hp (by decide))
        rw [nI_1 p]
        refine AW.pick [1, 2, 3, 4, 5, 0] (ls' := [(0, .inr (.inr (0, 0, 0))), (1, .inr (.inr (2, 0, 0))), (2, .inl (nI one)), (3, .inl (nI other)), (4, .inl (nI n)), (5, .inl (nI (p + 1)))]) rfl ?_
        have hch : τ110 0 0 = τ 0 0 := (only_trans (only_trans a104 a109) a110) 0 0 (by decide)
        rw [cl4 hp]
        refine hk () _ ⟨onlyM_set (onlyM_set (onlyM_trans (onlyM_trans (onlyM_trans hA a104) a109) a110)), fun j hj => ?_⟩
        by_cases hjp : j = p
        · subst hjp
          have hre : restS S one other j = (withQ S (fu (Sq S) other 0)) := by simp [restS, rest0, *]
          simp only [setM_at, rw1, rw2, hre]
          simp
        · have := hF j (by omega)
          simp only [setM_at]
          rw [if_neg (by omega), if_neg (by omega), if_neg (by omega), if_neg (by omega), hch]
          exact this
      · skip
        refine AW.run 5 [true] (55, [(0, .inr (.inr (0, 0, 0))), (1, .inr (.inr (2, 0, 0))), (2, .inl (nI one)), (3, .inl (nI other)), (4, .inl (nI n)), (5, .inl (nI p))], [.inl (nI n), .inr (.inr (2, 3, 0))], τ104) [icP .ne (nI (p % 2)) 1] rfl ?_ ?_
        · exact allP1 (fun q => h37_3 (nI_lit (n := 1) q (by omega) (by decide)))
        refine AW.callVV (d' := 3) [.inl (nI n)] [] ⟨_, rfl⟩ f_3_pass v_3_pass l_1_29 ⟨rfl, by decide⟩ rfl (Nat.le_of_ble_eq_true rfl) rfl (Nat.le_of_ble_eq_true rfl) (c3_pass 3 S τ104 b104 hO n (by omega)) ?_
        rintro τ111 ⟨a111, b111⟩
        refine AW.run 5 [] (66, [(0, .inr (.inr (0, 0, 0))), (1, .inr (.inr (2, 0, 0))), (2, .inl (nI one)), (3, .inl (nI other)), (4, .inl (nI n)), (5, .inl (nI p))], [.inl (nI one), .inr (.inr (0, 0, 0)), .inl (nI p), .inr (.inr (0, 0, 2))], τ111) [] rfl ?_ ?_
        · exact trivial
        refine AW.callVI (d' := 2) [.inl (nI one)] [.inl (nI p), .inr (.inr (0, 0, 2))] ⟨_, rfl⟩ f_1_wantMet v_1_wantMet l_1_130 ⟨rfl, by decide⟩ rfl (Nat.le_of_ble_eq_true rfl) rfl (Nat.le_of_ble_eq_true rfl) (c1_wantMet (passS n S) τ111 b111 (SOK_pass n hO) one (by rw [pass_n]; exact h1)) ?_
        rintro _ _ ⟨rfl, rfl⟩
        refine AW.run 6 [] (78, [(0, .inr (.inr (0, 0, 0))), (1, .inr (.inr (2, 0, 0))), (2, .inl (nI one)), (3, .inl (nI other)), (4, .inl (nI n)), (5, .inl (nI p))], [.inl (nI other), .inr (.inr (0, 0, 0)), .inl (nI p), .inr (.inr (0, 0, 3))], (setM τ111 0 0 2 (nI p).toNatClampNeg (nI (wantN (passS n S) one)))) [vp_in (nI p) 4] rfl ?_ ?_
        · exact allP1 (by exact vp_in_nI hp (by decide))
        refine AW.callVI (d' := 2) [.inl (nI other)] [.inl (nI p), .inr (.inr (0, 0, 3))] ⟨_, rfl⟩ f_1_wantMet v_1_wantMet l_1_130 ⟨rfl, by decide⟩ rfl (Nat.le_of_ble_eq_true rfl) rfl (Nat.le_of_ble_eq_true rfl) (c1_wantMet (passS n S) (setM τ111 0 0 2 (nI p).toNatClampNeg (nI (wantN (passS n S) one))) (by rw [set_ne (by decide)]; exact b111) (SOK_pass n hO) other (by rw [pass_n]; exact h2)) ?_
        rintro _ _ ⟨rfl, rfl⟩
        refine AW.run 3 [] (3, [(5, .inl ((nI p) + 1)), (0, .inr (.inr (0, 0, 0))), (1, .inr (.inr (2, 0, 0))), (2, .inl (nI one)), (3, .inl (nI other)), (4, .inl (nI n))], [], (setM (setM τ111 0 0 2 (nI p).toNatClampNeg (nI (wantN (passS n S) one))) 0 0 3 (nI p).toNatClampNeg (nI (wantN (passS n S) other)))) [vp_in (nI p) 4] rfl ?_ ?_
        · exact allP1 (by exact vp_in_nI hp (by decide))
        rw [nI_1 p]
        refine AW.pick [1, 2, 3, 4, 5, 0] (ls' := [(0, .inr (.inr (0, 0, 0))), (1, .inr (.inr (2, 0, 0))), (2, .inl (nI one)), (3, .inl (nI other)), (4, .inl (nI n)), (5, .inl (nI (p + 1)))]) rfl ?_
        have hch : τ111 0 0 = τ 0 0 := (only_trans a104 a111) 0 0 (by decide)
        rw [cl4 hp]
        refine hk () _ ⟨onlyM_set (onlyM_set (onlyM_trans (onlyM_trans hA a104) a111)), fun j hj => ?_⟩
        by_cases hjp : j = p
        · subst hjp
          have hre : restS S one other j = S := by simp [restS, rest0, *]
          simp only [setM_at, rw1, rw2, hre]
          simp
        · have := hF j (by omega)
          simp only [setM_at]
          rw [if_neg (by omega), if_neg (by omega), if_neg (by omega), if_neg (by omega), hch]
          exact this
  · intro _ τ hI
    obtain ⟨hA, hF⟩ := hI
    refine AW.run 5 [true] (91, [(5, .inl 0), (0, .inr (.inr (0, 0, 0))), (1, .inr (.inr (2, 0, 0))), (2, .inl (nI one)), (3, .inl (nI other)), (4, .inl (nI n))], [], τ) [icP .ge (nI 4) 4] rfl ?_ ?_
    · exact allP1 (le_lit (a := 4) (b := 4) (by decide) (by decide))
    refine AW.pick [1, 2, 3, 4, 5, 0] (ls' := [(0, .inr (.inr (0, 0, 0))), (1, .inr (.inr (2, 0, 0))), (2, .inl (nI one)), (3, .inl (nI other)), (4, .inl (nI n)), (5, .inl (nI 0))]) rfl ?_
    refine AW.loop (α := Unit) 91 4 (fun p _ => [(0, .inr (.inr (0, 0, 0))), (1, .inr (.inr (2, 0, 0))), (2, .inl (nI one)), (3, .inl (nI other)), (4, .inl (nI n)), (5, .inl (nI p))]) (fun p _ τ9 => τ = τ9 ∧ fstN (restB S one other n) 4 0 = fstN (restB S one other n) (4 - p) p) ?_ ?_ 4 0 () _ (by omega) ⟨rfl, rfl⟩
    · intro p _ τ9 hp hJ hk
      obtain ⟨rfl, hJ⟩ := hJ
      have hw : fstN (restB S one other n) (4 - p) p = if restB S one other n p = true then some p else fstN (restB S one other n) (4 - (p + 1)) (p + 1) := by
        obtain ⟨m, hm⟩ : ∃ m, 4 - p = m + 1 := ⟨3 - p, by omega⟩
        rw [hm, show 4 - (p + 1) = m by omega]; rfl
      rw [hw] at hJ
      obtain ⟨b1, b2, b3⟩ := p4b p hp
      obtain ⟨c1, c2, c3⟩ := p4c p hp
      have q1 : τ 0 0 2 (nI p).toNatClampNeg = nI (rw1 S one other n p) := by rw [cl4 hp]; exact (hF p hp).1
      have q2 : τ 0 0 2 (nI p ^^^ 2).toNatClampNeg = nI (rw1 S one other n (p ^^^ 2)) := by rw [b2]; exact (hF _ b3).1
      have q3 : τ 0 0 3 (nI p).toNatClampNeg = nI (rw2 S one other n p) := by rw [cl4 hp]; exact (hF p hp).2
      have q4 : τ 0 0 3 (nI p ^^^ 1).toNatClampNeg = nI (rw2 S one other n (p ^^^ 1)) := by rw [c2]; exact (hF _ c3).2
      have wl1 : ∀ j, rw1 S one other n j ≤ 14 := fun j => want_le (hp4 j) one
      have wl2 : ∀ j, rw2 S one other n j ≤ 14 := fun j => want_le (hp4 j) other
      have l1 := wl1 p
      have l2 := wl1 (p ^^^ 2)
      have l3 := wl2 p
      have l4 := wl2 (p ^^^ 1)
      refine AW.run 7 [false] (104, [(0, .inr (.inr (0, 0, 0))), (1, .inr (.inr (2, 0, 0))), (2, .inl (nI one)), (3, .inl (nI other)), (4, .inl (nI n)), (5, .inl (nI p))], [.inl (τ 0 0 2 (nI p).toNatClampNeg)], τ) [¬ icP .ge (nI p) 4, vp_in (nI p) 4] rfl ?_ ?_
      · exact ⟨(nle_lit (a := 4) hp (by decide)), allP1 (by first | exact vp_in_nI hp (by decide) | exact b1 | exact c1)⟩
      rw [q1]
      refine AW.run 6 [] (113, [(0, .inr (.inr (0, 0, 0))), (1, .inr (.inr (2, 0, 0))), (2, .inl (nI one)), (3, .inl (nI other)), (4, .inl (nI n)), (5, .inl (nI p))], [.inl (τ 0 0 2 ((nI p) ^^^ 2).toNatClampNeg), .inl (nI (rw1 S one other n p))], τ) [vp_in ((nI p) ^^^ 2) 4] rfl ?_ ?_
      · exact allP1 (by first | exact vp_in_nI hp (by decide) | exact b1 | exact c1)
      rw [q2]
      by_cases h113_1 : rw1 S one other n p < rw1 S one other n (p ^^^ 2)
      · skip
        refine AW.run 7 [true] (130, [(6, .inl 0), (0, .inr (.inr (0, 0, 0))), (1, .inr (.inr (2, 0, 0))), (2, .inl (nI one)), (3, .inl (nI other)), (4, .inl (nI n)), (5, .inl (nI p))], [.inl (τ 0 0 3 (nI p).toNatClampNeg)], τ) [icP .lt (nI (rw1 S one other n p)) (nI (rw1 S one other n (p ^^^ 2))), vp_in (nI p) 4] rfl ?_ ?_
        · exact ⟨(nI_lt h113_1 (by omega)), allP1 (by first | exact vp_in_nI hp (by decide) | exact b1 | exact c1)⟩
        rw [q3]
        refine AW.run 6 [] (139, [(6, .inl 0), (0, .inr (.inr (0, 0, 0))), (1, .inr (.inr (2, 0, 0))), (2, .inl (nI one)), (3, .inl (nI other)), (4, .inl (nI n)), (5, .inl (nI p))], [.inl (τ 0 0 3 ((nI p) ^^^ 1).toNatClampNeg), .inl (nI (rw2 S one other n p))], τ) [vp_in ((nI p) ^^^ 1) 4] rfl ?_ ?_
        · exact allP1 (by first | exact vp_in_nI hp (by decide) | exact b1 | exact c1)
        rw [q4]
        by_cases h139_2 : rw2 S one other n p < rw2 S one other n (p ^^^ 1)
        · skip
          refine AW.run 7 [true, true] (91, [(5, .inl ((nI p) + 1)), (7, .inl 0), (6, .inl 0), (0, .inr (.inr (0, 0, 0))), (1, .inr (.inr (2, 0, 0))), (2, .inl (nI one)), (3, .inl (nI other)), (4, .inl (nI n))], [], τ) [icP .lt (nI (rw2 S one other n p)) (nI (rw2 S one other n (p ^^^ 1))), icP .eq (0 : Int32) 0] rfl ?_ ?_
          · exact ⟨(nI_lt h139_2 (by omega)), allP1 (by decide : ((0 : Int32) = 0))⟩
          rw [nI_1 p]
          refine AW.pick [3, 4, 5, 6, 7, 0] (ls' := [(0, .inr (.inr (0, 0, 0))), (1, .inr (.inr (2, 0, 0))), (2, .inl (nI one)), (3, .inl (nI other)), (4, .inl (nI n)), (5, .inl (nI (p + 1)))]) rfl ?_
          exact hk () _ ⟨rfl, by rw [hJ, if_neg (by simp only [restB, Bool.and_eq_true, decide_eq_true_eq]; omega)]⟩
        · skip
          refine AW.run 8 [false, true] (91, [(5, .inl ((nI p) + 1)), (7, .inl 1), (6, .inl 0), (0, .inr (.inr (0, 0, 0))), (1, .inr (.inr (2, 0, 0))), (2, .inl (nI one)), (3, .inl (nI other)), (4, .inl (nI n))], [], τ) [¬ icP .lt (nI (rw2 S one other n p)) (nI (rw2 S one other n (p ^^^ 1))), icP .eq (0 : Int32) 0] rfl ?_ ?_
          · exact ⟨(nI_nlt (by omega) (by omega)), allP1 (by decide : ((0 : Int32) = 0))⟩
          rw [nI_1 p]
          refine AW.pick [3, 4, 5, 6, 7, 0] (ls' := [(0, .inr (.inr (0, 0, 0))), (1, .inr (.inr (2, 0, 0))), (2, .inl (nI one)), (3, .inl (nI other)), (4, .inl (nI n)), (5, .inl (nI (p + 1)))]) rfl ?_
          exact hk () _ ⟨rfl, by rw [hJ, if_neg (by simp only [restB, Bool.and_eq_true, decide_eq_true_eq]; omega)]⟩
      · skip
        refine AW.run 8 [false] (130, [(6, .inl 1), (0, .inr (.inr (0, 0, 0))), (1, .inr (.inr (2, 0, 0))), (2, .inl (nI one)), (3, .inl (nI other)), (4, .inl (nI n)), (5, .inl (nI p))], [.inl (τ 0 0 3 (nI p).toNatClampNeg)], τ) [¬ icP .lt (nI (rw1 S one other n p)) (nI (rw1 S one other n (p ^^^ 2))), vp_in (nI p) 4] rfl ?_ ?_
        · exact ⟨(nI_nlt (by omega) (by omega)), allP1 (by first | exact vp_in_nI hp (by decide) | exact b1 | exact c1)⟩
        rw [q3]
        refine AW.run 6 [] (139, [(6, .inl 1), (0, .inr (.inr (0, 0, 0))), (1, .inr (.inr (2, 0, 0))), (2, .inl (nI one)), (3, .inl (nI other)), (4, .inl (nI n)), (5, .inl (nI p))], [.inl (τ 0 0 3 ((nI p) ^^^ 1).toNatClampNeg), .inl (nI (rw2 S one other n p))], τ) [vp_in ((nI p) ^^^ 1) 4] rfl ?_ ?_
        · exact allP1 (by first | exact vp_in_nI hp (by decide) | exact b1 | exact c1)
        rw [q4]
        by_cases h139_3 : rw2 S one other n p < rw2 S one other n (p ^^^ 1)
        · skip
          refine AW.run 9 [true, false, true] (91, [(5, .inl ((nI p) + 1)), (7, .inl 0), (6, .inl 1), (0, .inr (.inr (0, 0, 0))), (1, .inr (.inr (2, 0, 0))), (2, .inl (nI one)), (3, .inl (nI other)), (4, .inl (nI n))], [], τ) [icP .lt (nI (rw2 S one other n p)) (nI (rw2 S one other n (p ^^^ 1))), ¬ icP .eq (1 : Int32) 0, icP .eq (0 : Int32) 0] rfl ?_ ?_
          · exact ⟨(nI_lt h139_3 (by omega)), (by decide : ¬ ((1 : Int32) = 0)), allP1 (by decide : ((0 : Int32) = 0))⟩
          rw [nI_1 p]
          refine AW.pick [3, 4, 5, 6, 7, 0] (ls' := [(0, .inr (.inr (0, 0, 0))), (1, .inr (.inr (2, 0, 0))), (2, .inl (nI one)), (3, .inl (nI other)), (4, .inl (nI n)), (5, .inl (nI (p + 1)))]) rfl ?_
          exact hk () _ ⟨rfl, by rw [hJ, if_neg (by simp only [restB, Bool.and_eq_true, decide_eq_true_eq]; omega)]⟩
        · skip
          refine AW.run 16 [false, false, false] (170, [(7, .inl 1), (6, .inl 1), (0, .inr (.inr (0, 0, 0))), (1, .inr (.inr (2, 0, 0))), (2, .inl (nI one)), (3, .inl (nI other)), (4, .inl (nI n)), (5, .inl (nI p))], [.inl ((nI p) - (nI p) / 2 * 2), .inl (10 * ((nI p) / 2))], τ) [¬ icP .lt (nI (rw2 S one other n p)) (nI (rw2 S one other n (p ^^^ 1))), ¬ icP .eq (1 : Int32) 0, ¬ icP .eq (1 : Int32) 0, ¬ (2 : Int32) = 0, ¬ (2 : Int32) = 0] rfl ?_ ?_
          · exact ⟨(nI_nlt (by omega) (by omega)), (by decide : ¬ ((1 : Int32) = 0)), (by decide : ¬ ((1 : Int32) = 0)), (by decide), allP1 (by decide)⟩
          rw [p4a p hp]
          refine AW.run 1 [] (171, [(7, .inl 1), (6, .inl 1), (0, .inr (.inr (0, 0, 0))), (1, .inr (.inr (2, 0, 0))), (2, .inl (nI one)), (3, .inl (nI other)), (4, .inl (nI n)), (5, .inl (nI p))], [.inl ((10 * ((nI p) / 2)) + (nI (p % 2)))], τ) [] rfl ?_ ?_
          · exact trivial
          rw [p4d p hp]
          refine AW.reti ⟨_, rfl⟩ rfl ?_
          rw [if_pos (by simp only [restB, Bool.and_eq_true, decide_eq_true_eq]; omega)] at hJ
          exact ⟨by unfold restO; rw [hJ], hA⟩
    · intro _ τ9 hJ
      obtain ⟨rfl, hJ⟩ := hJ
      refine AW.run 4 [true] (180, [(0, .inr (.inr (0, 0, 0))), (1, .inr (.inr (2, 0, 0))), (2, .inl (nI one)), (3, .inl (nI other)), (4, .inl (nI n)), (5, .inl (nI 4))], [.inl (-9)], τ) [icP .ge (nI 4) 4] rfl ?_ ?_
      · exact allP1 (le_lit (a := 4) (b := 4) (by decide) (by decide))
      refine AW.reti ⟨_, rfl⟩ rfl ?_
      exact ⟨by unfold restO; rw [hJ]; rfl, hA⟩
