/-! THE ARMY: tape, row, bottle, cellar, count -/
theorem nI_prd (a : Nat) : nI (a + 1) - 1 = nI a := by rw [← nI_1]; exact Int32.add_sub_cancel _ _
theorem exe_sign {tp : Nat → Nat} {len : Nat} : ∀ (k st p : Nat) (S : Sv) (r : Int32) (o : Option Sv), exeN tp len k st p S = (r, o) → p ≤ 6 * st → st + k ≤ 96 → (o = none → r < 0) ∧ ∀ S', o = some S' → ¬ r < 0
  | 0, st, p, S, r, o, h, hp, hk => by
    cases h
    exact ⟨fun h => (by cases h), fun _ _ => nI_pos (by omega)⟩
  | k + 1, st, p, S, r, o, h, hp, hk => by
    unfold exeN at h
    split at h
    · obtain ⟨rfl, rfl⟩ := Prod.mk.inj h
      exact ⟨fun h => (by cases h), fun _ _ => nI_pos (by omega)⟩
    · split at h
      · obtain ⟨rfl, rfl⟩ := Prod.mk.inj h
        refine ⟨fun _ => ?_, fun S' h => (by cases h)⟩
        have hd : ∀ p < 600, (-2000 : Int32) - nI p < 0 := by decide +kernel
        exact hd p (by omega)
      · have := dgN_le (ltN tp len p)
        exact exe_sign k (st + 1) _ _ r o h (by omega) (by omega)
theorem tel_sign {tp : Nat → Nat} {len : Nat} {S : Sv} {r : Int32} {o : Option Sv} (h : telN tp len S = (r, o)) : (o = none → r < 0) ∧ ∀ S', o = some S' → ¬ r < 0 := by
  unfold telN at h
  split at h
  · rename_i q hq
    obtain ⟨rfl, rfl⟩ := Prod.mk.inj h
    refine ⟨fun _ => ?_, fun S' h => (by cases h)⟩
    have hd : ∀ p < 600, (-1000 : Int32) - nI p < 0 := by decide +kernel
    have := brk_le 96 0 0 hq
    exact hd q (by omega)
  · exact exe_sign 96 0 0 S r o h (by omega) (by omega)

set_option maxHeartbeats 4000000 in
set_option maxRecDepth 100000 in
theorem c5_feed (F : Gv) (σ : St) (hA : RepA σ F) (hF : FOK F) (x : Int32) : Ct M5_feed 2 [.inr (.inr (4, 0, 0)), .inl x] σ (QA σ (feedP F x)) := by
  refine Ct.of f_5_feed (Nat.le_of_ble_eq_true rfl) ?_
  show AW M5_feed 2 _ (0, [(0, .inr (.inr (4, 0, 0))), (1, .inl x)], [], σ)
  have hS : RepS (σ 2 0) F.1 := hA.1
  have hO : SOK F.1 := hF.1.1
  have hn8 : Sn F.1 ≤ 8 := hO.1
  obtain ⟨nx, m1, m2, m3, m4⟩ := id hA.2.2.2.2.1
  have hl96 := hF.2.1.1
  rcases fMax_or 255 (by decide) x with ⟨h4v1, ev1⟩ | ⟨h4v1, h6v1, ev1⟩ | ⟨v1, hv1, rfl, ev1⟩
  · skip
    refine AW.run 4 [false] (7, [(0, .inr (.inr (4, 0, 0))), (1, .inl x)], [.inl (-4), .inr (.inr (4, 0, 0))], σ) [¬ icP .ge x 0] rfl ?_ ?_
    · exact allP1 (nge_of h4v1)
    refine AW.callVI (d' := 0) [.inl (-4)] [] ⟨_, rfl⟩ f_5_refuse v_5_refuse l_5_50 ⟨rfl, by decide⟩ rfl (Nat.le_of_ble_eq_true rfl) rfl (Nat.le_of_ble_eq_true rfl) (c5_refuse4 σ) ?_
    rintro _ _ ⟨rfl, rfl⟩
    refine AW.reti ⟨_, rfl⟩ rfl ?_
    exact ⟨rfuF F 4, (by unfold feedP; rw [maxP_e4 ev1]; try rfl), RepA_ref hA (by decide) (by decide)⟩
  · skip
    refine AW.run 7 [true, true] (33, [(0, .inr (.inr (4, 0, 0))), (1, .inl x)], [.inl (-6), .inr (.inr (4, 0, 0))], σ) [icP .ge x 0, icP .gt x 255] rfl ?_ ?_
    · exact ⟨(ge_of h4v1), allP1 (h6v1)⟩
    refine AW.callVI (d' := 0) [.inl (-6)] [] ⟨_, rfl⟩ f_5_refuse v_5_refuse l_5_50 ⟨rfl, by decide⟩ rfl (Nat.le_of_ble_eq_true rfl) rfl (Nat.le_of_ble_eq_true rfl) (c5_refuse6 σ) ?_
    rintro _ _ ⟨rfl, rfl⟩
    refine AW.reti ⟨_, rfl⟩ rfl ?_
    exact ⟨rfuF F 6, (by unfold feedP; rw [maxP_e6 ev1]; try rfl), RepA_ref hA (by decide) (by decide)⟩
  · skip
    by_cases h96 : F.2.1.1 < 96
    · skip
      refine AW.run 8 [true, false] (25, [(0, .inr (.inr (4, 0, 0))), (1, .inl (nI v1))], [.inl (σ 3 0 0 1)], σ) [icP .ge (nI v1) 0, ¬ icP .gt (nI v1) 255] rfl ?_ ?_
      · exact ⟨(nI_pos' (by omega)), allP1 (nI_nlt (a := 255) hv1 (by decide))⟩
      rw [hA.2.1.2.2.1]
      refine AW.run 5 [true] (42, [(0, .inr (.inr (4, 0, 0))), (1, .inl (nI v1))], [.inl (nI v1), .inr (.inr (3, 0, 0))], σ) [icP .lt (nI F.2.1.1) 96] rfl ?_ ?_
      · exact allP1 (nI_lt (b := 96) h96 (by decide))
      refine AW.callVV (d' := 0) [.inl (nI v1)] [] ⟨_, rfl⟩ f_4_add v_4_add l_5_58 ⟨rfl, by decide⟩ rfl (Nat.le_of_ble_eq_true rfl) rfl (Nat.le_of_ble_eq_true rfl) (c4_add F.2.1.2 F.2.1.1 σ hA.2.1 v1 hv1 h96) ?_
      rintro τ ⟨w1, w2⟩
      refine AW.run 3 [] (52, [(0, .inr (.inr (4, 0, 0))), (1, .inl (nI v1))], [.inl (τ 3 0 0 1)], τ) [] rfl ?_ ?_
      · exact trivial
      rw [w1.2.2.1]
      refine AW.reti ⟨_, rfl⟩ rfl ?_
      exact ⟨_, (by unfold feedP; rw [maxP_e0 ev1 (by omega), if_pos h96]; try rfl), RepA_tale hA w2 w1⟩
    · skip
      refine AW.run 8 [true, false] (25, [(0, .inr (.inr (4, 0, 0))), (1, .inl (nI v1))], [.inl (σ 3 0 0 1)], σ) [icP .ge (nI v1) 0, ¬ icP .gt (nI v1) 255] rfl ?_ ?_
      · exact ⟨(nI_pos' (by omega)), allP1 (nI_nlt (a := 255) hv1 (by decide))⟩
      rw [hA.2.1.2.2.1]
      refine AW.run 4 [false] (33, [(0, .inr (.inr (4, 0, 0))), (1, .inl (nI v1))], [.inl (-6), .inr (.inr (4, 0, 0))], σ) [¬ icP .lt (nI F.2.1.1) 96] rfl ?_ ?_
      · exact allP1 (nI_nlt (b := 96) (by omega) (by omega))
      refine AW.callVI (d' := 0) [.inl (-6)] [] ⟨_, rfl⟩ f_5_refuse v_5_refuse l_5_50 ⟨rfl, by decide⟩ rfl (Nat.le_of_ble_eq_true rfl) rfl (Nat.le_of_ble_eq_true rfl) (c5_refuse6 σ) ?_
      rintro _ _ ⟨rfl, rfl⟩
      refine AW.reti ⟨_, rfl⟩ rfl ?_
      exact ⟨rfuF F 6, (by unfold feedP; rw [maxP_e0 ev1 (by omega), if_neg h96]; try rfl), RepA_ref hA (by decide) (by decide)⟩
set_option maxHeartbeats 4000000 in
set_option maxRecDepth 100000 in
theorem c5_row (F : Gv) (σ : St) (hA : RepA σ F) (hF : FOK F) (x : Int32) : Ct M5_row 1 [.inr (.inr (4, 0, 0)), .inl x] σ (QA σ (rowP F x)) := by
  refine Ct.of f_5_row (Nat.le_of_ble_eq_true rfl) ?_
  show AW M5_row 1 _ (0, [(0, .inr (.inr (4, 0, 0))), (1, .inl x)], [], σ)
  have hS : RepS (σ 2 0) F.1 := hA.1
  have hO : SOK F.1 := hF.1.1
  have hn8 : Sn F.1 ≤ 8 := hO.1
  obtain ⟨nx, m1, m2, m3, m4⟩ := id hA.2.2.2.2.1
  have hl12 := hF.2.2.1.1
  rcases fMax_or 99 (by decide) x with ⟨h4v1, ev1⟩ | ⟨h4v1, h6v1, ev1⟩ | ⟨v1, hv1, rfl, ev1⟩
  · skip
    refine AW.run 4 [false] (7, [(0, .inr (.inr (4, 0, 0))), (1, .inl x)], [.inl (-4), .inr (.inr (4, 0, 0))], σ) [¬ icP .ge x 0] rfl ?_ ?_
    · exact allP1 (nge_of h4v1)
    refine AW.callVI (d' := 0) [.inl (-4)] [] ⟨_, rfl⟩ f_5_refuse v_5_refuse l_5_50 ⟨rfl, by decide⟩ rfl (Nat.le_of_ble_eq_true rfl) rfl (Nat.le_of_ble_eq_true rfl) (c5_refuse4 σ) ?_
    rintro _ _ ⟨rfl, rfl⟩
    refine AW.reti ⟨_, rfl⟩ rfl ?_
    exact ⟨rfuF F 4, (by unfold rowP; rw [maxP_e4 ev1]; try rfl), RepA_ref hA (by decide) (by decide)⟩
  · skip
    refine AW.run 7 [true, true] (32, [(0, .inr (.inr (4, 0, 0))), (1, .inl x)], [.inl (-6), .inr (.inr (4, 0, 0))], σ) [icP .ge x 0, icP .gt x 99] rfl ?_ ?_
    · exact ⟨(ge_of h4v1), allP1 (h6v1)⟩
    refine AW.callVI (d' := 0) [.inl (-6)] [] ⟨_, rfl⟩ f_5_refuse v_5_refuse l_5_50 ⟨rfl, by decide⟩ rfl (Nat.le_of_ble_eq_true rfl) rfl (Nat.le_of_ble_eq_true rfl) (c5_refuse6 σ) ?_
    rintro _ _ ⟨rfl, rfl⟩
    refine AW.reti ⟨_, rfl⟩ rfl ?_
    exact ⟨rfuF F 6, (by unfold rowP; rw [maxP_e6 ev1]; try rfl), RepA_ref hA (by decide) (by decide)⟩
  · skip
    by_cases h96 : F.2.2.1.1 < 12
    · skip
      refine AW.run 7 [true, false] (21, [(0, .inr (.inr (4, 0, 0))), (1, .inl (nI v1))], [.inl (σ 4 0 0 8)], σ) [icP .ge (nI v1) 0, ¬ icP .gt (nI v1) 99] rfl ?_ ?_
      · exact ⟨(nI_pos' (by omega)), allP1 (nI_nlt (a := 99) hv1 (by decide))⟩
      rw [hA.2.2.1.1]
      refine AW.run 8 [true] (44, [(0, .inr (.inr (4, 0, 0))), (1, .inl (nI v1))], [.inl (σ 4 0 0 8), .inr (.inr (4, 0, 7))], σ) [icP .lt (nI F.2.2.1.1) (Int32.ofNat 12)] rfl ?_ ?_
      · exact allP1 (nI_lt (b := 12) h96 (by decide))
      rw [hA.2.2.1.1]
      have hvi : vp_in (nI F.2.2.1.1) 12 := vp_in_nI h96 (by decide)
      refine AW.run 5 [] (51, [(0, .inr (.inr (4, 0, 0))), (1, .inl (nI v1))], [.inl ((setM σ 4 0 7 (nI F.2.2.1.1).toNatClampNeg (nI v1)) 4 0 0 8), .inr (.inr (4, 0, 0))], (setM σ 4 0 7 (nI F.2.2.1.1).toNatClampNeg (nI v1))) [vp_in (nI F.2.2.1.1) 12] rfl ?_ ?_
      · exact allP1 (by assumption)
      rw [show (setM σ 4 0 7 (nI F.2.2.1.1).toNatClampNeg (nI v1)) 4 0 0 8 = nI F.2.2.1.1 from by rw [setM_at, if_neg (by omega)]; exact hA.2.2.1.1]
      refine AW.run 2 [] (53, [(0, .inr (.inr (4, 0, 0))), (1, .inl (nI v1))], [.inl ((nI F.2.2.1.1) + 1), .inr (.inr (4, 0, 0))], (setM σ 4 0 7 (nI F.2.2.1.1).toNatClampNeg (nI v1))) [] rfl ?_ ?_
      · exact trivial
      rw [nI_1 F.2.2.1.1]
      refine AW.run 3 [] (60, [(0, .inr (.inr (4, 0, 0))), (1, .inl (nI v1))], [.inl ((setM (setM σ 4 0 7 (nI F.2.2.1.1).toNatClampNeg (nI v1)) 4 0 0 8 (nI (F.2.2.1.1 + 1))) 4 0 0 8)], (setM (setM σ 4 0 7 (nI F.2.2.1.1).toNatClampNeg (nI v1)) 4 0 0 8 (nI (F.2.2.1.1 + 1)))) [] rfl ?_ ?_
      · exact trivial
      rw [show (setM (setM σ 4 0 7 (nI F.2.2.1.1).toNatClampNeg (nI v1)) 4 0 0 8 (nI (F.2.2.1.1 + 1))) 4 0 0 8 = nI (F.2.2.1.1 + 1) from by rw [setM_at, if_pos ⟨rfl, rfl⟩]]
      refine AW.reti ⟨_, rfl⟩ rfl ?_
      exact ⟨_, (by unfold rowP; rw [maxP_e0 ev1 (by omega), if_pos h96]; try rfl), RepA_row hA rfl h96 hv1 rfl⟩
    · skip
      refine AW.run 7 [true, false] (21, [(0, .inr (.inr (4, 0, 0))), (1, .inl (nI v1))], [.inl (σ 4 0 0 8)], σ) [icP .ge (nI v1) 0, ¬ icP .gt (nI v1) 99] rfl ?_ ?_
      · exact ⟨(nI_pos' (by omega)), allP1 (nI_nlt (a := 99) hv1 (by decide))⟩
      rw [hA.2.2.1.1]
      refine AW.run 6 [false] (32, [(0, .inr (.inr (4, 0, 0))), (1, .inl (nI v1))], [.inl (-6), .inr (.inr (4, 0, 0))], σ) [¬ icP .lt (nI F.2.2.1.1) (Int32.ofNat 12)] rfl ?_ ?_
      · exact allP1 (nI_nlt (b := 12) (by omega) (by omega))
      refine AW.callVI (d' := 0) [.inl (-6)] [] ⟨_, rfl⟩ f_5_refuse v_5_refuse l_5_50 ⟨rfl, by decide⟩ rfl (Nat.le_of_ble_eq_true rfl) rfl (Nat.le_of_ble_eq_true rfl) (c5_refuse6 σ) ?_
      rintro _ _ ⟨rfl, rfl⟩
      refine AW.reti ⟨_, rfl⟩ rfl ?_
      exact ⟨rfuF F 6, (by unfold rowP; rw [maxP_e0 ev1 (by omega), if_neg h96]; try rfl), RepA_ref hA (by decide) (by decide)⟩
set_option maxHeartbeats 4000000 in
set_option maxRecDepth 100000 in
theorem c5_clear (F : Gv) (σ : St) (hA : RepA σ F) (hF : FOK F) : Ct M5_clear 0 [.inr (.inr (4, 0, 0))] σ (QA σ (clearP F)) := by
  refine Ct.of f_5_clear (Nat.le_of_ble_eq_true rfl) ?_
  show AW M5_clear 0 _ (0, [(0, .inr (.inr (4, 0, 0)))], [], σ)
  have hS : RepS (σ 2 0) F.1 := hA.1
  have hO : SOK F.1 := hF.1.1
  have hn8 : Sn F.1 ≤ 8 := hO.1
  obtain ⟨nx, m1, m2, m3, m4⟩ := id hA.2.2.2.2.1
  refine AW.run 2 [] (4, [(0, .inr (.inr (4, 0, 0)))], [.inl (σ 4 0 0 8)], σ) [] rfl ?_ ?_
  · exact trivial
  rw [hA.2.2.1.1]
  refine AW.run 5 [] (11, [(1, .inl (nI F.2.2.1.1)), (0, .inr (.inr (4, 0, 0)))], [.inl (nI F.2.2.1.1)], (setM σ 4 0 0 8 0)) [] rfl ?_ ?_
  · exact trivial
  refine AW.reti ⟨_, rfl⟩ rfl ?_
  exact ⟨_, rfl, RepA_clr hA⟩
set_option maxHeartbeats 4000000 in
set_option maxRecDepth 100000 in
theorem c5_judge (F : Gv) (σ : St) (hA : RepA σ F) (hF : FOK F) : Ct M5_judge 2 [.inr (.inr (4, 0, 0))] σ (QA σ (judgeP F)) := by
  refine Ct.of f_5_judge (Nat.le_of_ble_eq_true rfl) ?_
  show AW M5_judge 2 _ (0, [(0, .inr (.inr (4, 0, 0)))], [], σ)
  have hS : RepS (σ 2 0) F.1 := hA.1
  have hO : SOK F.1 := hF.1.1
  have hn8 : Sn F.1 ≤ 8 := hO.1
  have hl12 := hF.2.2.1.1
  have e8 := hA.2.2.1.1
  refine AW.run 4 [] (5, [(2, .inl 0), (1, .inl (-9)), (0, .inr (.inr (4, 0, 0)))], [], σ) [] rfl ?_ ?_
  · exact trivial
  refine AW.pick [2, 1, 0] (ls' := [(0, .inr (.inr (4, 0, 0))), (1, .inl (-9)), (2, .inl (nI 0))]) rfl ?_
  refine AW.loop (α := Unit) 5 F.2.2.1.1 (fun i _ => [(0, .inr (.inr (4, 0, 0))), (1, .inl (-9)), (2, .inl (nI i))]) (fun i _ τ => σ = τ ∧ jdgN F F.2.2.1.1 0 = jdgN F (F.2.2.1.1 - i) i) ?_ ?_ F.2.2.1.1 0 () _ (by omega) ⟨rfl, rfl⟩
  · intro i _ τ hi hI hk
    obtain ⟨rfl, hg⟩ := hI
    have hu : jdgN F (F.2.2.1.1 - i) i = if i < Sn F.1 ∧ Sq F.1 i = F.2.2.1.2 i then jdgN F (F.2.2.1.1 - (i + 1)) (i + 1) else some i := by
      obtain ⟨m, hm⟩ : ∃ m, F.2.2.1.1 - i = m + 1 := ⟨F.2.2.1.1 - i - 1, by omega⟩
      rw [hm, show F.2.2.1.1 - (i + 1) = m by omega]; rfl
    rw [hu] at hg
    have hvi : vp_in (nI i) 12 := vp_in_nI (by omega) (by decide)
    have eri : σ 4 0 7 (nI i).toNatClampNeg = nI (F.2.2.1.2 i) := by rw [nI_clamp (by omega)]; exact hA.2.2.1.2.2.2 i hi
    by_cases hb : i < Sn F.1
    · by_cases he : Sq F.1 i = F.2.2.1.2 i
      · skip
        refine AW.run 3 [] (10, [(0, .inr (.inr (4, 0, 0))), (1, .inl (-9)), (2, .inl (nI i))], [.inl (σ 4 0 0 8), .inl (nI i)], σ) [] rfl ?_ ?_
        · exact trivial
        rw [e8]
        refine AW.run 12 [false, false, false] (33, [(0, .inr (.inr (4, 0, 0))), (1, .inl (-9)), (2, .inl (nI i))], [.inl (nI i), .inr (.inr (2, 0, 0))], σ) [¬ icP .ge (nI i) (nI F.2.2.1.1), ¬ icP .ge (nI i) (Int32.ofNat 12), ¬ icP .ne ((-9) : Int32) (-9)] rfl ?_ ?_
        · exact ⟨(nI_ge hi (by omega)), (nle_lit (b := i) (a := 12) (by omega) (by decide)), allP1 (by decide : ¬ (¬ ((-9) : Int32) = (-9)))⟩
        refine AW.callVI (d' := 0) [.inl (nI i)] [] ⟨_, rfl⟩ f_3_has v_3_has l_5_74 ⟨rfl, by decide⟩ rfl (Nat.le_of_ble_eq_true rfl) rfl (Nat.le_of_ble_eq_true rfl) (c3_has 0 F.1 σ hS hO (nI i)) ?_
        rintro v _ ⟨rfl, hv⟩
        obtain rfl : v = 1 := by
          rcases hv with h | h
          · exact h.1
          · exact absurd rfl (h.2 i hb)
        refine AW.run 4 [false] (44, [(0, .inr (.inr (4, 0, 0))), (1, .inl (-9)), (2, .inl (nI i))], [.inl (nI i), .inr (.inr (2, 0, 0))], σ) [¬ icP .eq (1 : Int32) 0] rfl ?_ ?_
        · exact allP1 (by decide : ¬ ((1 : Int32) = 0))
        refine AW.callVI (d' := 1) [.inl (nI i)] [] ⟨_, rfl⟩ f_3_pressOf v_3_pressOf l_5_87 ⟨rfl, by decide⟩ rfl (Nat.le_of_ble_eq_true rfl) rfl (Nat.le_of_ble_eq_true rfl) (c3_pressOf 0 F.1 σ hS hO i hb) ?_
        rintro _ _ ⟨rfl, rfl⟩
        refine AW.run 4 [] (53, [(0, .inr (.inr (4, 0, 0))), (1, .inl (-9)), (2, .inl (nI i))], [.inl (σ 4 0 7 (nI i).toNatClampNeg), .inl (nI (Sq F.1 i))], σ) [vp_in (nI i) 12] rfl ?_ ?_
        · exact allP1 (by assumption)
        rw [eri]
        refine AW.run 3 [true] (5, [(2, .inl ((nI i) + 1)), (0, .inr (.inr (4, 0, 0))), (1, .inl (-9))], [], σ) [icP .eq (nI (Sq F.1 i)) (nI (F.2.2.1.2 i))] rfl ?_ ?_
        · exact allP1 (congrArg nI he)
        rw [nI_1 i]
        refine AW.pick [1, 2, 0] (ls' := [(0, .inr (.inr (4, 0, 0))), (1, .inl (-9)), (2, .inl (nI (i + 1)))]) rfl ?_
        exact hk () _ ⟨rfl, by rw [hg, if_pos ⟨hb, he⟩]⟩
      · skip
        refine AW.run 3 [] (10, [(0, .inr (.inr (4, 0, 0))), (1, .inl (-9)), (2, .inl (nI i))], [.inl (σ 4 0 0 8), .inl (nI i)], σ) [] rfl ?_ ?_
        · exact trivial
        rw [e8]
        refine AW.run 12 [false, false, false] (33, [(0, .inr (.inr (4, 0, 0))), (1, .inl (-9)), (2, .inl (nI i))], [.inl (nI i), .inr (.inr (2, 0, 0))], σ) [¬ icP .ge (nI i) (nI F.2.2.1.1), ¬ icP .ge (nI i) (Int32.ofNat 12), ¬ icP .ne ((-9) : Int32) (-9)] rfl ?_ ?_
        · exact ⟨(nI_ge hi (by omega)), (nle_lit (b := i) (a := 12) (by omega) (by decide)), allP1 (by decide : ¬ (¬ ((-9) : Int32) = (-9)))⟩
        refine AW.callVI (d' := 0) [.inl (nI i)] [] ⟨_, rfl⟩ f_3_has v_3_has l_5_74 ⟨rfl, by decide⟩ rfl (Nat.le_of_ble_eq_true rfl) rfl (Nat.le_of_ble_eq_true rfl) (c3_has 0 F.1 σ hS hO (nI i)) ?_
        rintro v _ ⟨rfl, hv⟩
        obtain rfl : v = 1 := by
          rcases hv with h | h
          · exact h.1
          · exact absurd rfl (h.2 i hb)
        refine AW.run 4 [false] (44, [(0, .inr (.inr (4, 0, 0))), (1, .inl (-9)), (2, .inl (nI i))], [.inl (nI i), .inr (.inr (2, 0, 0))], σ) [¬ icP .eq (1 : Int32) 0] rfl ?_ ?_
        · exact allP1 (by decide : ¬ ((1 : Int32) = 0))
        refine AW.callVI (d' := 1) [.inl (nI i)] [] ⟨_, rfl⟩ f_3_pressOf v_3_pressOf l_5_87 ⟨rfl, by decide⟩ rfl (Nat.le_of_ble_eq_true rfl) rfl (Nat.le_of_ble_eq_true rfl) (c3_pressOf 0 F.1 σ hS hO i hb) ?_
        rintro _ _ ⟨rfl, rfl⟩
        refine AW.run 4 [] (53, [(0, .inr (.inr (4, 0, 0))), (1, .inl (-9)), (2, .inl (nI i))], [.inl (σ 4 0 7 (nI i).toNatClampNeg), .inl (nI (Sq F.1 i))], σ) [vp_in (nI i) 12] rfl ?_ ?_
        · exact allP1 (by assumption)
        rw [eri]
        refine AW.run 5 [false] (5, [(2, .inl ((nI i) + 1)), (1, .inl (nI i)), (0, .inr (.inr (4, 0, 0)))], [], σ) [¬ icP .eq (nI (Sq F.1 i)) (nI (F.2.2.1.2 i))] rfl ?_ ?_
        · exact allP1 (fun q => he (nI_lit q (by have := (hO.2.1 i).2.2.2; omega) (by have := hF.2.2.1.2 i; omega)))
        rw [nI_1 i]
        refine AW.pick [2, 1, 0] (ls' := [(0, .inr (.inr (4, 0, 0))), (1, .inl (nI i)), (2, .inl (nI (i + 1)))]) rfl ?_
        refine AW.run 3 [] (10, [(0, .inr (.inr (4, 0, 0))), (1, .inl (nI i)), (2, .inl (nI (i + 1)))], [.inl (σ 4 0 0 8), .inl (nI (i + 1))], σ) [] rfl ?_ ?_
        · exact trivial
        rw [e8]
        by_cases h10_1 : (nI F.2.2.1.1 : Int32) ≤ (nI (i + 1))
        · skip
          refine AW.run 5 [true] (70, [(0, .inr (.inr (4, 0, 0))), (1, .inl (nI i)), (2, .inl (nI (i + 1)))], [.inl (nI i)], (setM σ 4 0 0 8 0)) [icP .ge (nI (i + 1)) (nI F.2.2.1.1)] rfl ?_ ?_
          · exact allP1 (h10_1)
          refine AW.reti ⟨_, rfl⟩ rfl ?_
          exact ⟨_, by unfold judgeP; rw [hg, if_neg (fun h => he h.2)]; rfl, RepA_clr hA⟩
        · skip
          by_cases h19_2 : (Int32.ofNat 12 : Int32) ≤ (nI (i + 1))
          · skip
            refine AW.run 10 [false, true] (70, [(0, .inr (.inr (4, 0, 0))), (1, .inl (nI i)), (2, .inl (nI (i + 1)))], [.inl (nI i)], (setM σ 4 0 0 8 0)) [¬ icP .ge (nI (i + 1)) (nI F.2.2.1.1), icP .ge (nI (i + 1)) (Int32.ofNat 12)] rfl ?_ ?_
            · exact ⟨(h10_1), allP1 (h19_2)⟩
            refine AW.reti ⟨_, rfl⟩ rfl ?_
            exact ⟨_, by unfold judgeP; rw [hg, if_neg (fun h => he h.2)]; rfl, RepA_clr hA⟩
          · skip
            refine AW.run 13 [false, false, true] (70, [(0, .inr (.inr (4, 0, 0))), (1, .inl (nI i)), (2, .inl (nI (i + 1)))], [.inl (nI i)], (setM σ 4 0 0 8 0)) [¬ icP .ge (nI (i + 1)) (nI F.2.2.1.1), ¬ icP .ge (nI (i + 1)) (Int32.ofNat 12), icP .ne (nI i) (-9)] rfl ?_ ?_
            · exact ⟨(h10_1), (h19_2), allP1 (nI_m9 (by omega))⟩
            refine AW.reti ⟨_, rfl⟩ rfl ?_
            exact ⟨_, by unfold judgeP; rw [hg, if_neg (fun h => he h.2)]; rfl, RepA_clr hA⟩
    · skip
      refine AW.run 3 [] (10, [(0, .inr (.inr (4, 0, 0))), (1, .inl (-9)), (2, .inl (nI i))], [.inl (σ 4 0 0 8), .inl (nI i)], σ) [] rfl ?_ ?_
      · exact trivial
      rw [e8]
      refine AW.run 12 [false, false, false] (33, [(0, .inr (.inr (4, 0, 0))), (1, .inl (-9)), (2, .inl (nI i))], [.inl (nI i), .inr (.inr (2, 0, 0))], σ) [¬ icP .ge (nI i) (nI F.2.2.1.1), ¬ icP .ge (nI i) (Int32.ofNat 12), ¬ icP .ne ((-9) : Int32) (-9)] rfl ?_ ?_
      · exact ⟨(nI_ge hi (by omega)), (nle_lit (b := i) (a := 12) (by omega) (by decide)), allP1 (by decide : ¬ (¬ ((-9) : Int32) = (-9)))⟩
      refine AW.callVI (d' := 0) [.inl (nI i)] [] ⟨_, rfl⟩ f_3_has v_3_has l_5_74 ⟨rfl, by decide⟩ rfl (Nat.le_of_ble_eq_true rfl) rfl (Nat.le_of_ble_eq_true rfl) (c3_has 0 F.1 σ hS hO (nI i)) ?_
      rintro v _ ⟨rfl, hv⟩
      obtain rfl : v = 0 := by
        rcases hv with h | h
        · exact absurd h.2 (fun ⟨j, hj, e⟩ => hb (by have := nI_lit e (by omega) (by omega); omega))
        · exact h.1
      refine AW.run 5 [true] (5, [(2, .inl ((nI i) + 1)), (1, .inl (nI i)), (0, .inr (.inr (4, 0, 0)))], [], σ) [icP .eq (0 : Int32) 0] rfl ?_ ?_
      · exact allP1 (by decide : ((0 : Int32) = 0))
      rw [nI_1 i]
      refine AW.pick [2, 1, 0] (ls' := [(0, .inr (.inr (4, 0, 0))), (1, .inl (nI i)), (2, .inl (nI (i + 1)))]) rfl ?_
      refine AW.run 3 [] (10, [(0, .inr (.inr (4, 0, 0))), (1, .inl (nI i)), (2, .inl (nI (i + 1)))], [.inl (σ 4 0 0 8), .inl (nI (i + 1))], σ) [] rfl ?_ ?_
      · exact trivial
      rw [e8]
      by_cases h10_1 : (nI F.2.2.1.1 : Int32) ≤ (nI (i + 1))
      · skip
        refine AW.run 5 [true] (70, [(0, .inr (.inr (4, 0, 0))), (1, .inl (nI i)), (2, .inl (nI (i + 1)))], [.inl (nI i)], (setM σ 4 0 0 8 0)) [icP .ge (nI (i + 1)) (nI F.2.2.1.1)] rfl ?_ ?_
        · exact allP1 (h10_1)
        refine AW.reti ⟨_, rfl⟩ rfl ?_
        exact ⟨_, by unfold judgeP; rw [hg, if_neg (fun h => hb h.1)]; rfl, RepA_clr hA⟩
      · skip
        by_cases h19_2 : (Int32.ofNat 12 : Int32) ≤ (nI (i + 1))
        · skip
          refine AW.run 10 [false, true] (70, [(0, .inr (.inr (4, 0, 0))), (1, .inl (nI i)), (2, .inl (nI (i + 1)))], [.inl (nI i)], (setM σ 4 0 0 8 0)) [¬ icP .ge (nI (i + 1)) (nI F.2.2.1.1), icP .ge (nI (i + 1)) (Int32.ofNat 12)] rfl ?_ ?_
          · exact ⟨(h10_1), allP1 (h19_2)⟩
          refine AW.reti ⟨_, rfl⟩ rfl ?_
          exact ⟨_, by unfold judgeP; rw [hg, if_neg (fun h => hb h.1)]; rfl, RepA_clr hA⟩
        · skip
          refine AW.run 13 [false, false, true] (70, [(0, .inr (.inr (4, 0, 0))), (1, .inl (nI i)), (2, .inl (nI (i + 1)))], [.inl (nI i)], (setM σ 4 0 0 8 0)) [¬ icP .ge (nI (i + 1)) (nI F.2.2.1.1), ¬ icP .ge (nI (i + 1)) (Int32.ofNat 12), icP .ne (nI i) (-9)] rfl ?_ ?_
          · exact ⟨(h10_1), (h19_2), allP1 (nI_m9 (by omega))⟩
          refine AW.reti ⟨_, rfl⟩ rfl ?_
          exact ⟨_, by unfold judgeP; rw [hg, if_neg (fun h => hb h.1)]; rfl, RepA_clr hA⟩
  · intro _ τ hI
    obtain ⟨rfl, hg⟩ := hI
    refine AW.run 3 [] (10, [(0, .inr (.inr (4, 0, 0))), (1, .inl (-9)), (2, .inl (nI F.2.2.1.1))], [.inl (σ 4 0 0 8), .inl (nI F.2.2.1.1)], σ) [] rfl ?_ ?_
    · exact trivial
    rw [e8]
    refine AW.run 5 [true] (70, [(0, .inr (.inr (4, 0, 0))), (1, .inl (-9)), (2, .inl (nI F.2.2.1.1))], [.inl (-9)], (setM σ 4 0 0 8 0)) [icP .ge (nI F.2.2.1.1) (nI F.2.2.1.1)] rfl ?_ ?_
    · exact allP1 (nI_le (Nat.le_refl _) (by omega))
    refine AW.reti ⟨_, rfl⟩ rfl ?_
    exact ⟨_, by unfold judgeP; rw [hg, Nat.sub_self]; rfl, RepA_clr hA⟩
theorem at_lt {S : Sv} (hO : SOK S) {p i : Nat} (h : atS S p = some i) : i < Sn S := by
  have : ∀ k j, atN S p k j = some i → Sw S i = true := by
    intro k
    induction k with
    | zero => intro j h; cases h
    | succ k ih =>
      intro j h
      unfold atN at h
      split at h
      · rename_i hc
        cases h
        exact hc.1
      · exact ih _ h
  exact SOK_lt hO (this 8 0 h)
set_option maxHeartbeats 4000000 in
set_option maxRecDepth 100000 in
theorem c5_bottle (F : Gv) (σ : St) (hA : RepA σ F) (hF : FOK F) (k : Int32) (f : Int32) (p : Int32) : Ct M5_bottle 4 [.inr (.inr (4, 0, 0)), .inl k, .inl f, .inl p] σ (QA σ (bottleP F k f p)) := by
  refine Ct.of f_5_bottle (Nat.le_of_ble_eq_true rfl) ?_
  show AW M5_bottle 4 _ (0, [(0, .inr (.inr (4, 0, 0))), (1, .inl k), (2, .inl f), (3, .inl p)], [], σ)
  have hS : RepS (σ 2 0) F.1 := hA.1
  have hO : SOK F.1 := hF.1.1
  have hn8 : Sn F.1 ≤ 8 := hO.1
  obtain ⟨nx, m1, m2, m3, m4⟩ := id hA.2.2.2.2.1
  rcases bot_or 6 k with ⟨j1, hj1, rfl⟩ | hno
  · skip
    rcases fMax_or 9 (by decide) f with ⟨h4f1, ef1⟩ | ⟨h4f1, h6f1, ef1⟩ | ⟨f1, hf1, rfl, ef1⟩
    · skip
      refine AW.run 9 [false, true, false] (24, [(0, .inr (.inr (4, 0, 0))), (1, .inl (nI j1)), (2, .inl f), (3, .inl p)], [.inl (-4), .inr (.inr (4, 0, 0))], σ) [¬ icP .lt (nI j1) 0, icP .lt (nI j1) 6, ¬ icP .ge f 0] rfl ?_ ?_
      · exact ⟨(nlt0 (by omega)), (nI_lt (b := 6) hj1 (by decide)), allP1 (nge_of h4f1)⟩
      refine AW.callVI (d' := 0) [.inl (-4)] [] ⟨_, rfl⟩ f_5_refuse v_5_refuse l_5_50 ⟨rfl, by decide⟩ rfl (Nat.le_of_ble_eq_true rfl) rfl (Nat.le_of_ble_eq_true rfl) (c5_refuse4 σ) ?_
      rintro _ _ ⟨rfl, rfl⟩
      refine AW.reti ⟨_, rfl⟩ rfl ?_
      exact ⟨rfuF F 4, (by unfold bottleP; rw [botI_some hj1 (by decide)]; (try dsimp only); rw [maxP_e4 ef1]; try rfl), RepA_ref hA (by decide) (by decide)⟩
    · skip
      refine AW.run 12 [false, true, true, true] (49, [(0, .inr (.inr (4, 0, 0))), (1, .inl (nI j1)), (2, .inl f), (3, .inl p)], [.inl (-6), .inr (.inr (4, 0, 0))], σ) [¬ icP .lt (nI j1) 0, icP .lt (nI j1) 6, icP .ge f 0, icP .gt f 9] rfl ?_ ?_
      · exact ⟨(nlt0 (by omega)), (nI_lt (b := 6) hj1 (by decide)), (ge_of h4f1), allP1 (h6f1)⟩
      refine AW.callVI (d' := 0) [.inl (-6)] [] ⟨_, rfl⟩ f_5_refuse v_5_refuse l_5_50 ⟨rfl, by decide⟩ rfl (Nat.le_of_ble_eq_true rfl) rfl (Nat.le_of_ble_eq_true rfl) (c5_refuse6 σ) ?_
      rintro _ _ ⟨rfl, rfl⟩
      refine AW.reti ⟨_, rfl⟩ rfl ?_
      exact ⟨rfuF F 6, (by unfold bottleP; rw [botI_some hj1 (by decide)]; (try dsimp only); rw [maxP_e6 ef1]; try rfl), RepA_ref hA (by decide) (by decide)⟩
    · skip
      by_cases h8 : Sn F.1 < 8
      · skip
        rcases bot_or 15 p with ⟨j2, hj2, rfl⟩ | hno
        · skip
          cases hat : atS F.1 j2 with
          | none =>
            refine AW.run 13 [false, true, true, false] (41, [(0, .inr (.inr (4, 0, 0))), (1, .inl (nI j1)), (2, .inl (nI f1)), (3, .inl (nI j2))], [.inl (σ 2 0 0 7)], σ) [¬ icP .lt (nI j1) 0, icP .lt (nI j1) 6, icP .ge (nI f1) 0, ¬ icP .gt (nI f1) 9] rfl ?_ ?_
            · exact ⟨(nlt0 (by omega)), (nI_lt (b := 6) hj1 (by decide)), (nI_pos' (by omega)), allP1 (nI_nlt (a := 9) hf1 (by decide))⟩
            rw [(hS).1.1]
            refine AW.run 10 [true, false, true] (74, [(0, .inr (.inr (4, 0, 0))), (1, .inl (nI j1)), (2, .inl (nI f1)), (3, .inl (nI j2))], [.inl (nI j2), .inr (.inr (2, 0, 0))], σ) [icP .lt (nI (Sn F.1)) 8, ¬ icP .lt (nI j2) 0, icP .lt (nI j2) 15] rfl ?_ ?_
            · exact ⟨(nI_lt (b := 8) h8 (by decide)), (nlt0 (by omega)), allP1 (nI_lt (b := 15) hj2 (by decide))⟩
            refine AW.callVI (d' := 1) [.inl (nI j2)] [] ⟨_, rfl⟩ f_3_wholeAt v_3_wholeAt l_5_105 ⟨rfl, by decide⟩ rfl (Nat.le_of_ble_eq_true rfl) rfl (Nat.le_of_ble_eq_true rfl) (c3_wholeAt 0 F.1 σ hS hO j2 (by omega)) ?_
            rintro _ _ ⟨rfl, rfl⟩
            rw [hat]
            dsimp only [optI]
            refine AW.run 4 [true] (93, [(0, .inr (.inr (4, 0, 0))), (1, .inl (nI j1)), (2, .inl (nI f1)), (3, .inl (nI j2))], [.inr (.inr (1, 0, 0))], σ) [icP .eq ((-9) : Int32) (-9)] rfl ?_ ?_
            · exact allP1 (by decide : (((-9) : Int32) = (-9)))
            refine AW.callVV (d' := 0) [] [] ⟨_, rfl⟩ f_2_forget v_2_forget l_5_73 ⟨rfl, by decide⟩ rfl (Nat.le_of_ble_eq_true rfl) rfl (Nat.le_of_ble_eq_true rfl) (c2_forget σ) ?_
            rintro _ rfl
            obtain ⟨hA1, hX1⟩ := RepA_fgt hA
            refine AW.run 5 [] (103, [(0, .inr (.inr (4, 0, 0))), (1, .inl (nI j1)), (2, .inl (nI f1)), (3, .inl (nI j2))], [.inl (nI j2), .inl (nI f1), .inl (nI j1), .inr (.inr (2, 0, 0))], (setM σ 1 0 0 2 0)) [] rfl ?_ ?_
            · exact trivial
            refine AW.callVV (d' := 3) [.inl (nI j1), .inl (nI f1), .inl (nI j2)] [] ⟨_, rfl⟩ f_3_add v_3_add l_5_111 ⟨rfl, by decide⟩ rfl (Nat.le_of_ble_eq_true rfl) rfl (Nat.le_of_ble_eq_true rfl) (c3_add 0 F.1 (setM σ 1 0 0 2 0) hA1.1 hO j1 f1 j2 h8 (by omega) hf1) ?_
            rintro τ2 ⟨w1, w2⟩
            refine AW.run 3 [] (113, [(0, .inr (.inr (4, 0, 0))), (1, .inl (nI j1)), (2, .inl (nI f1)), (3, .inl (nI j2))], [.inl (τ2 2 0 0 7)], τ2) [] rfl ?_ ?_
            · exact trivial
            rw [w2.1.1]
            show AW _ _ _ (113, _, .inl (nI (Sn F.1 + 1)) :: _, _)
            refine AW.run 2 [] (115, [(0, .inr (.inr (4, 0, 0))), (1, .inl (nI j1)), (2, .inl (nI f1)), (3, .inl (nI j2))], [.inl ((nI (Sn F.1 + 1)) - 1)], τ2) [] rfl ?_ ?_
            · exact trivial
            rw [nI_prd]
            refine AW.reti ⟨_, rfl⟩ rfl ?_
            exact ⟨_, (by unfold bottleP; rw [botI_some hj1 (by decide)]; (try dsimp only); rw [maxP_e0 ef1 (by omega)]; (try dsimp only); rw [if_pos h8]; (try dsimp only); rw [botI_some hj2 (by decide)]; (try dsimp only); rw [hat]; try rfl), QA_now hA1 hX1 w1 w2⟩
          | some i9 =>
            have hi9 := at_lt hO hat
            have hk9 : ¬ nI i9 = (-9 : Int32) := nI_m9 (by omega)
            refine AW.run 13 [false, true, true, false] (41, [(0, .inr (.inr (4, 0, 0))), (1, .inl (nI j1)), (2, .inl (nI f1)), (3, .inl (nI j2))], [.inl (σ 2 0 0 7)], σ) [¬ icP .lt (nI j1) 0, icP .lt (nI j1) 6, icP .ge (nI f1) 0, ¬ icP .gt (nI f1) 9] rfl ?_ ?_
            · exact ⟨(nlt0 (by omega)), (nI_lt (b := 6) hj1 (by decide)), (nI_pos' (by omega)), allP1 (nI_nlt (a := 9) hf1 (by decide))⟩
            rw [(hS).1.1]
            refine AW.run 10 [true, false, true] (74, [(0, .inr (.inr (4, 0, 0))), (1, .inl (nI j1)), (2, .inl (nI f1)), (3, .inl (nI j2))], [.inl (nI j2), .inr (.inr (2, 0, 0))], σ) [icP .lt (nI (Sn F.1)) 8, ¬ icP .lt (nI j2) 0, icP .lt (nI j2) 15] rfl ?_ ?_
            · exact ⟨(nI_lt (b := 8) h8 (by decide)), (nlt0 (by omega)), allP1 (nI_lt (b := 15) hj2 (by decide))⟩
            refine AW.callVI (d' := 1) [.inl (nI j2)] [] ⟨_, rfl⟩ f_3_wholeAt v_3_wholeAt l_5_105 ⟨rfl, by decide⟩ rfl (Nat.le_of_ble_eq_true rfl) rfl (Nat.le_of_ble_eq_true rfl) (c3_wholeAt 0 F.1 σ hS hO j2 (by omega)) ?_
            rintro _ _ ⟨rfl, rfl⟩
            rw [hat]
            dsimp only [optI]
            refine AW.run 4 [false] (85, [(0, .inr (.inr (4, 0, 0))), (1, .inl (nI j1)), (2, .inl (nI f1)), (3, .inl (nI j2))], [.inl (-3), .inr (.inr (4, 0, 0))], σ) [¬ icP .eq (nI i9) (-9)] rfl ?_ ?_
            · exact allP1 (hk9)
            refine AW.callVI (d' := 0) [.inl (-3)] [] ⟨_, rfl⟩ f_5_refuse v_5_refuse l_5_50 ⟨rfl, by decide⟩ rfl (Nat.le_of_ble_eq_true rfl) rfl (Nat.le_of_ble_eq_true rfl) (c5_refuse3 σ) ?_
            rintro _ _ ⟨rfl, rfl⟩
            refine AW.reti ⟨_, rfl⟩ rfl ?_
            exact ⟨rfuF F 3, (by unfold bottleP; rw [botI_some hj1 (by decide)]; (try dsimp only); rw [maxP_e0 ef1 (by omega)]; (try dsimp only); rw [if_pos h8]; (try dsimp only); rw [botI_some hj2 (by decide)]; (try dsimp only); rw [hat]; try rfl), RepA_ref hA (by decide) (by decide)⟩
        · by_cases hz : p < 0
          · skip
            refine AW.run 13 [false, true, true, false] (41, [(0, .inr (.inr (4, 0, 0))), (1, .inl (nI j1)), (2, .inl (nI f1)), (3, .inl p)], [.inl (σ 2 0 0 7)], σ) [¬ icP .lt (nI j1) 0, icP .lt (nI j1) 6, icP .ge (nI f1) 0, ¬ icP .gt (nI f1) 9] rfl ?_ ?_
            · exact ⟨(nlt0 (by omega)), (nI_lt (b := 6) hj1 (by decide)), (nI_pos' (by omega)), allP1 (nI_nlt (a := 9) hf1 (by decide))⟩
            rw [(hS).1.1]
            refine AW.run 6 [true, true] (65, [(0, .inr (.inr (4, 0, 0))), (1, .inl (nI j1)), (2, .inl (nI f1)), (3, .inl p)], [.inl (-1), .inr (.inr (4, 0, 0))], σ) [icP .lt (nI (Sn F.1)) 8, icP .lt p 0] rfl ?_ ?_
            · exact ⟨(nI_lt (b := 8) h8 (by decide)), allP1 (hz)⟩
            refine AW.callVI (d' := 0) [.inl (-1)] [] ⟨_, rfl⟩ f_5_refuse v_5_refuse l_5_50 ⟨rfl, by decide⟩ rfl (Nat.le_of_ble_eq_true rfl) rfl (Nat.le_of_ble_eq_true rfl) (c5_refuse1 σ) ?_
            rintro _ _ ⟨rfl, rfl⟩
            refine AW.reti ⟨_, rfl⟩ rfl ?_
            exact ⟨rfuF F 1, (by unfold bottleP; rw [botI_some hj1 (by decide)]; (try dsimp only); rw [maxP_e0 ef1 (by omega)]; (try dsimp only); rw [if_pos h8]; (try dsimp only); rw [botI_none hno]; try rfl), RepA_ref hA (by decide) (by decide)⟩
          · skip
            refine AW.run 13 [false, true, true, false] (41, [(0, .inr (.inr (4, 0, 0))), (1, .inl (nI j1)), (2, .inl (nI f1)), (3, .inl p)], [.inl (σ 2 0 0 7)], σ) [¬ icP .lt (nI j1) 0, icP .lt (nI j1) 6, icP .ge (nI f1) 0, ¬ icP .gt (nI f1) 9] rfl ?_ ?_
            · exact ⟨(nlt0 (by omega)), (nI_lt (b := 6) hj1 (by decide)), (nI_pos' (by omega)), allP1 (nI_nlt (a := 9) hf1 (by decide))⟩
            rw [(hS).1.1]
            refine AW.run 9 [true, false, false] (65, [(0, .inr (.inr (4, 0, 0))), (1, .inl (nI j1)), (2, .inl (nI f1)), (3, .inl p)], [.inl (-1), .inr (.inr (4, 0, 0))], σ) [icP .lt (nI (Sn F.1)) 8, ¬ icP .lt p 0, ¬ icP .lt p 15] rfl ?_ ?_
            · exact ⟨(nI_lt (b := 8) h8 (by decide)), (hz), allP1 (Int32.not_lt.mpr (bot_out (by decide) hno hz))⟩
            refine AW.callVI (d' := 0) [.inl (-1)] [] ⟨_, rfl⟩ f_5_refuse v_5_refuse l_5_50 ⟨rfl, by decide⟩ rfl (Nat.le_of_ble_eq_true rfl) rfl (Nat.le_of_ble_eq_true rfl) (c5_refuse1 σ) ?_
            rintro _ _ ⟨rfl, rfl⟩
            refine AW.reti ⟨_, rfl⟩ rfl ?_
            exact ⟨rfuF F 1, (by unfold bottleP; rw [botI_some hj1 (by decide)]; (try dsimp only); rw [maxP_e0 ef1 (by omega)]; (try dsimp only); rw [if_pos h8]; (try dsimp only); rw [botI_none hno]; try rfl), RepA_ref hA (by decide) (by decide)⟩
      · skip
        refine AW.run 13 [false, true, true, false] (41, [(0, .inr (.inr (4, 0, 0))), (1, .inl (nI j1)), (2, .inl (nI f1)), (3, .inl p)], [.inl (σ 2 0 0 7)], σ) [¬ icP .lt (nI j1) 0, icP .lt (nI j1) 6, icP .ge (nI f1) 0, ¬ icP .gt (nI f1) 9] rfl ?_ ?_
        · exact ⟨(nlt0 (by omega)), (nI_lt (b := 6) hj1 (by decide)), (nI_pos' (by omega)), allP1 (nI_nlt (a := 9) hf1 (by decide))⟩
        rw [(hS).1.1]
        refine AW.run 4 [false] (49, [(0, .inr (.inr (4, 0, 0))), (1, .inl (nI j1)), (2, .inl (nI f1)), (3, .inl p)], [.inl (-6), .inr (.inr (4, 0, 0))], σ) [¬ icP .lt (nI (Sn F.1)) 8] rfl ?_ ?_
        · exact allP1 (nI_nlt (b := 8) (by omega) (by omega))
        refine AW.callVI (d' := 0) [.inl (-6)] [] ⟨_, rfl⟩ f_5_refuse v_5_refuse l_5_50 ⟨rfl, by decide⟩ rfl (Nat.le_of_ble_eq_true rfl) rfl (Nat.le_of_ble_eq_true rfl) (c5_refuse6 σ) ?_
        rintro _ _ ⟨rfl, rfl⟩
        refine AW.reti ⟨_, rfl⟩ rfl ?_
        exact ⟨rfuF F 6, (by unfold bottleP; rw [botI_some hj1 (by decide)]; (try dsimp only); rw [maxP_e0 ef1 (by omega)]; (try dsimp only); rw [if_neg h8]; try rfl), RepA_ref hA (by decide) (by decide)⟩
  · by_cases hz : k < 0
    · skip
      refine AW.run 4 [true] (13, [(0, .inr (.inr (4, 0, 0))), (1, .inl k), (2, .inl f), (3, .inl p)], [.inl (-2), .inr (.inr (4, 0, 0))], σ) [icP .lt k 0] rfl ?_ ?_
      · exact allP1 (hz)
      refine AW.callVI (d' := 0) [.inl (-2)] [] ⟨_, rfl⟩ f_5_refuse v_5_refuse l_5_50 ⟨rfl, by decide⟩ rfl (Nat.le_of_ble_eq_true rfl) rfl (Nat.le_of_ble_eq_true rfl) (c5_refuse2 σ) ?_
      rintro _ _ ⟨rfl, rfl⟩
      refine AW.reti ⟨_, rfl⟩ rfl ?_
      exact ⟨rfuF F 2, (by unfold bottleP; rw [botI_none hno]; try rfl), RepA_ref hA (by decide) (by decide)⟩
    · skip
      refine AW.run 7 [false, false] (13, [(0, .inr (.inr (4, 0, 0))), (1, .inl k), (2, .inl f), (3, .inl p)], [.inl (-2), .inr (.inr (4, 0, 0))], σ) [¬ icP .lt k 0, ¬ icP .lt k 6] rfl ?_ ?_
      · exact ⟨(hz), allP1 (Int32.not_lt.mpr (bot_out (by decide) hno hz))⟩
      refine AW.callVI (d' := 0) [.inl (-2)] [] ⟨_, rfl⟩ f_5_refuse v_5_refuse l_5_50 ⟨rfl, by decide⟩ rfl (Nat.le_of_ble_eq_true rfl) rfl (Nat.le_of_ble_eq_true rfl) (c5_refuse2 σ) ?_
      rintro _ _ ⟨rfl, rfl⟩
      refine AW.reti ⟨_, rfl⟩ rfl ?_
      exact ⟨rfuF F 2, (by unfold bottleP; rw [botI_none hno]; try rfl), RepA_ref hA (by decide) (by decide)⟩
set_option maxHeartbeats 4000000 in
set_option maxRecDepth 100000 in
theorem c5_refusalsTold (F : Gv) (σ : St) (hA : RepA σ F) (x : Int32) : Ct M5_refusalsTold 0 [.inr (.inr (4, 0, 0)), .inl x] σ (PI fun r9 σ' => rtoldN F x = r9 ∧ σ = σ') := by
  refine Ct.of f_5_refusalsTold (Nat.le_of_ble_eq_true rfl) ?_
  show AW M5_refusalsTold 0 _ (0, [(0, .inr (.inr (4, 0, 0))), (1, .inl x)], [], σ)
  rcases lt1_or x with hl | ⟨j, h1, h31, rfl, hl⟩
  · skip
    refine AW.run 4 [true] (25, [(0, .inr (.inr (4, 0, 0))), (1, .inl x)], [.inl (-9)], σ) [icP .lt x 1] rfl ?_ ?_
    · exact allP1 (hl)
    refine AW.reti ⟨_, rfl⟩ rfl ?_
    exact ⟨by unfold rtoldN; rw [if_neg (fun h => nge_of hl h.1)], rfl⟩
  · by_cases h7 : j < 7
    · have hvi : vp_in (nI j) 7 := vp_in_nI h7 (by decide)
      have er : σ 4 0 8 (nI j).toNatClampNeg = F.2.2.2.1 (nI j).toNatClampNeg := by rw [nI_clamp (by omega)]; exact hA.2.2.2.1 j (by omega) (by omega)
      refine AW.run 13 [false, false] (25, [(0, .inr (.inr (4, 0, 0))), (1, .inl (nI j))], [.inl (σ 4 0 8 (nI j).toNatClampNeg)], σ) [¬ icP .lt (nI j) 1, ¬ icP .ge (nI j) (Int32.ofNat 7), vp_in (nI j) 7] rfl ?_ ?_
      · exact ⟨(hl), (nle_lit (b := j) (a := 7) h7 (by decide)), allP1 (by assumption)⟩
      refine AW.reti ⟨_, rfl⟩ rfl ?_
      exact ⟨by unfold rtoldN; rw [if_pos ⟨ge_of hl, nI_lt (b := 7) h7 (by decide)⟩, er], rfl⟩
    · skip
      refine AW.run 9 [false, true] (25, [(0, .inr (.inr (4, 0, 0))), (1, .inl (nI j))], [.inl (-9)], σ) [¬ icP .lt (nI j) 1, icP .ge (nI j) (Int32.ofNat 7)] rfl ?_ ?_
      · exact ⟨(hl), allP1 (nI_le (a := 7) (by omega) (by omega))⟩
      refine AW.reti ⟨_, rfl⟩ rfl ?_
      exact ⟨by unfold rtoldN; rw [if_neg (fun h => nI_nlt (a := j) (b := 7) (by omega) (by omega) h.2)], rfl⟩
set_option maxHeartbeats 4000000 in
set_option maxRecDepth 100000 in
theorem c5_count (F : Gv) (σ : St) (hA : RepA σ F) (hF : FOK F) (w : Int32) : Ct M5_count 3 [.inr (.inr (4, 0, 0)), .inl w] σ (QA σ (countP F w)) := by
  refine Ct.of f_5_count (Nat.le_of_ble_eq_true rfl) ?_
  show AW M5_count 3 _ (0, [(0, .inr (.inr (4, 0, 0))), (1, .inl w)], [], σ)
  have hS : RepS (σ 2 0) F.1 := hA.1
  have hO : SOK F.1 := hF.1.1
  have hn8 : Sn F.1 ≤ 8 := hO.1
  obtain ⟨nx, m1, m2, m3, m4⟩ := id hA.2.2.2.2.1
  by_cases hw0 : w = 0
  · subst hw0
    refine AW.run 1 [] (1, [(0, .inr (.inr (4, 0, 0))), (1, .inl 0)], [.inl 0], σ) [] rfl ?_ ?_
    · exact trivial
    refine AW.tswIn (k := 0) (tgt := 52) ⟨_, rfl⟩ (by decide) (by decide) rfl (by decide) ?_
    refine AW.run 3 [] (59, [(0, .inr (.inr (4, 0, 0))), (1, .inl 0)], [.inl (σ 2 0 0 7)], σ) [] rfl ?_ ?_
    · exact trivial
    rw [(hS).1.1]
    refine AW.reti ⟨_, rfl⟩ rfl ?_
    exact ⟨F, (by unfold countP; rw [if_pos rfl]; try rfl), RepA_mind onlyM_rfl hA⟩
  by_cases hw1 : w = 1
  · subst hw1
    refine AW.run 1 [] (1, [(0, .inr (.inr (4, 0, 0))), (1, .inl 1)], [.inl 1], σ) [] rfl ?_ ?_
    · exact trivial
    refine AW.tswIn (k := 1) (tgt := 60) ⟨_, rfl⟩ (by decide) (by decide) rfl (by decide) ?_
    refine AW.run 3 [] (67, [(0, .inr (.inr (4, 0, 0))), (1, .inl 1)], [.inl (σ 2 0 0 12)], σ) [] rfl ?_ ?_
    · exact trivial
    rw [(hS).1.2.2.2.2.2]
    refine AW.reti ⟨_, rfl⟩ rfl ?_
    exact ⟨F, (by unfold countP; rw [if_neg (by decide : ¬ (1 : Int32) = 0), if_pos rfl]; try rfl), RepA_mind onlyM_rfl hA⟩
  by_cases hw2 : w = 2
  · subst hw2
    refine AW.run 1 [] (1, [(0, .inr (.inr (4, 0, 0))), (1, .inl 2)], [.inl 2], σ) [] rfl ?_ ?_
    · exact trivial
    refine AW.tswIn (k := 2) (tgt := 68) ⟨_, rfl⟩ (by decide) (by decide) rfl (by decide) ?_
    refine AW.run 3 [] (75, [(0, .inr (.inr (4, 0, 0))), (1, .inl 2)], [.inl (σ 2 0 0 10)], σ) [] rfl ?_ ?_
    · exact trivial
    rw [(hS).1.2.2.2.1]
    refine AW.reti ⟨_, rfl⟩ rfl ?_
    exact ⟨F, (by unfold countP; rw [if_neg (by decide : ¬ (2 : Int32) = 0), if_neg (by decide : ¬ (2 : Int32) = 1), if_pos rfl]; try rfl), RepA_mind onlyM_rfl hA⟩
  by_cases hw3 : w = 3
  · subst hw3
    refine AW.run 1 [] (1, [(0, .inr (.inr (4, 0, 0))), (1, .inl 3)], [.inl 3], σ) [] rfl ?_ ?_
    · exact trivial
    refine AW.tswIn (k := 3) (tgt := 76) ⟨_, rfl⟩ (by decide) (by decide) rfl (by decide) ?_
    refine AW.run 3 [] (83, [(0, .inr (.inr (4, 0, 0))), (1, .inl 3)], [.inl (σ 2 0 0 11)], σ) [] rfl ?_ ?_
    · exact trivial
    rw [(hS).1.2.2.2.2.1]
    refine AW.reti ⟨_, rfl⟩ rfl ?_
    exact ⟨F, (by unfold countP; rw [if_neg (by decide : ¬ (3 : Int32) = 0), if_neg (by decide : ¬ (3 : Int32) = 1), if_neg (by decide : ¬ (3 : Int32) = 2), if_pos rfl]; try rfl), RepA_mind onlyM_rfl hA⟩
  by_cases hw4 : w = 4
  · subst hw4
    refine AW.run 1 [] (1, [(0, .inr (.inr (4, 0, 0))), (1, .inl 4)], [.inl 4], σ) [] rfl ?_ ?_
    · exact trivial
    refine AW.tswIn (k := 4) (tgt := 84) ⟨_, rfl⟩ (by decide) (by decide) rfl (by decide) ?_
    refine AW.run 3 [] (91, [(0, .inr (.inr (4, 0, 0))), (1, .inl 4)], [.inl (σ 2 0 0 8)], σ) [] rfl ?_ ?_
    · exact trivial
    rw [(hS).1.2.1]
    refine AW.reti ⟨_, rfl⟩ rfl ?_
    exact ⟨F, (by unfold countP; rw [if_neg (by decide : ¬ (4 : Int32) = 0), if_neg (by decide : ¬ (4 : Int32) = 1), if_neg (by decide : ¬ (4 : Int32) = 2), if_neg (by decide : ¬ (4 : Int32) = 3), if_pos rfl]; try rfl), RepA_mind onlyM_rfl hA⟩
  by_cases hw5 : w = 5
  · subst hw5
    refine AW.run 1 [] (1, [(0, .inr (.inr (4, 0, 0))), (1, .inl 5)], [.inl 5], σ) [] rfl ?_ ?_
    · exact trivial
    refine AW.tswIn (k := 5) (tgt := 92) ⟨_, rfl⟩ (by decide) (by decide) rfl (by decide) ?_
    refine AW.run 2 [] (96, [(0, .inr (.inr (4, 0, 0))), (1, .inl 5)], [.inr (.inr (2, 0, 0))], σ) [] rfl ?_ ?_
    · exact trivial
    refine AW.callVI (d' := 1) [] [] ⟨_, rfl⟩ f_3_pressOfWhole v_3_pressOfWhole l_5_163 ⟨rfl, by decide⟩ rfl (Nat.le_of_ble_eq_true rfl) rfl (Nat.le_of_ble_eq_true rfl) (c3_pressOfWhole 0 F.1 σ hS hO ) ?_
    rintro _ _ ⟨rfl, rfl⟩
    refine AW.reti ⟨_, rfl⟩ rfl ?_
    exact ⟨F, (by unfold countP; rw [if_neg (by decide : ¬ (5 : Int32) = 0), if_neg (by decide : ¬ (5 : Int32) = 1), if_neg (by decide : ¬ (5 : Int32) = 2), if_neg (by decide : ¬ (5 : Int32) = 3), if_neg (by decide : ¬ (5 : Int32) = 4), if_pos rfl]; try rfl), RepA_mind onlyM_rfl hA⟩
  by_cases hw6 : w = 6
  · subst hw6
    refine AW.run 1 [] (1, [(0, .inr (.inr (4, 0, 0))), (1, .inl 6)], [.inl 6], σ) [] rfl ?_ ?_
    · exact trivial
    refine AW.tswIn (k := 6) (tgt := 100) ⟨_, rfl⟩ (by decide) (by decide) rfl (by decide) ?_
    refine AW.run 3 [] (107, [(0, .inr (.inr (4, 0, 0))), (1, .inl 6)], [.inl (σ 3 0 0 1)], σ) [] rfl ?_ ?_
    · exact trivial
    rw [hA.2.1.2.2.1]
    refine AW.reti ⟨_, rfl⟩ rfl ?_
    exact ⟨F, (by unfold countP; rw [if_neg (by decide : ¬ (6 : Int32) = 0), if_neg (by decide : ¬ (6 : Int32) = 1), if_neg (by decide : ¬ (6 : Int32) = 2), if_neg (by decide : ¬ (6 : Int32) = 3), if_neg (by decide : ¬ (6 : Int32) = 4), if_neg (by decide : ¬ (6 : Int32) = 5), if_pos rfl]; try rfl), RepA_mind onlyM_rfl hA⟩
  by_cases hw7 : w = 7
  · subst hw7
    refine AW.run 1 [] (1, [(0, .inr (.inr (4, 0, 0))), (1, .inl 7)], [.inl 7], σ) [] rfl ?_ ?_
    · exact trivial
    refine AW.tswIn (k := 7) (tgt := 108) ⟨_, rfl⟩ (by decide) (by decide) rfl (by decide) ?_
    refine AW.run 2 [] (112, [(0, .inr (.inr (4, 0, 0))), (1, .inl 7)], [.inl (σ 4 0 0 8)], σ) [] rfl ?_ ?_
    · exact trivial
    rw [hA.2.2.1.1]
    refine AW.reti ⟨_, rfl⟩ rfl ?_
    exact ⟨F, (by unfold countP; rw [if_neg (by decide : ¬ (7 : Int32) = 0), if_neg (by decide : ¬ (7 : Int32) = 1), if_neg (by decide : ¬ (7 : Int32) = 2), if_neg (by decide : ¬ (7 : Int32) = 3), if_neg (by decide : ¬ (7 : Int32) = 4), if_neg (by decide : ¬ (7 : Int32) = 5), if_neg (by decide : ¬ (7 : Int32) = 6), if_pos rfl]; try rfl), RepA_mind onlyM_rfl hA⟩
  by_cases hw8 : w = 8
  · subst hw8
    refine AW.run 1 [] (1, [(0, .inr (.inr (4, 0, 0))), (1, .inl 8)], [.inl 8], σ) [] rfl ?_ ?_
    · exact trivial
    refine AW.tswIn (k := 8) (tgt := 113) ⟨_, rfl⟩ (by decide) (by decide) rfl (by decide) ?_
    refine AW.run 3 [] (120, [(0, .inr (.inr (4, 0, 0))), (1, .inl 8)], [.inl (σ 1 0 0 2)], σ) [] rfl ?_ ?_
    · exact trivial
    rw [m3]
    refine AW.reti ⟨_, rfl⟩ rfl ?_
    exact ⟨F, (by unfold countP; rw [if_neg (by decide : ¬ (8 : Int32) = 0), if_neg (by decide : ¬ (8 : Int32) = 1), if_neg (by decide : ¬ (8 : Int32) = 2), if_neg (by decide : ¬ (8 : Int32) = 3), if_neg (by decide : ¬ (8 : Int32) = 4), if_neg (by decide : ¬ (8 : Int32) = 5), if_neg (by decide : ¬ (8 : Int32) = 6), if_neg (by decide : ¬ (8 : Int32) = 7), if_pos rfl]; try rfl), RepA_mind onlyM_rfl hA⟩
  · skip
    refine AW.run 1 [] (1, [(0, .inr (.inr (4, 0, 0))), (1, .inl w)], [.inl w], σ) [] rfl ?_ ?_
    · exact trivial
    have ehw0 := lv_neT (a := 0) hw0 rfl
    have ehw1 := lv_neT (a := 1) hw1 rfl
    have ehw2 := lv_neT (a := 2) hw2 rfl
    have ehw3 := lv_neT (a := 3) hw3 rfl
    have ehw4 := lv_neT (a := 4) hw4 rfl
    have ehw5 := lv_neT (a := 5) hw5 rfl
    have ehw6 := lv_neT (a := 6) hw6 rfl
    have ehw7 := lv_neT (a := 7) hw7 rfl
    have ehw8 := lv_neT (a := 8) hw8 rfl
    refine AW.tswOut (tgt := 121) ⟨_, rfl⟩ (by omega) (by decide) ?_
    refine AW.run 4 [] (126, [(0, .inr (.inr (4, 0, 0))), (1, .inl w)], [.inl (w - 10), .inr (.inr (4, 0, 0))], σ) [] rfl ?_ ?_
    · exact trivial
    refine AW.callVI (d' := 0) [.inl (w - 10)] [] ⟨_, rfl⟩ f_5_refusalsTold v_5_refusalsTold l_5_283 ⟨rfl, by decide⟩ rfl (Nat.le_of_ble_eq_true rfl) rfl (Nat.le_of_ble_eq_true rfl) (c5_refusalsTold F σ hA (w - 10)) ?_
    rintro _ _ ⟨rfl, rfl⟩
    refine AW.reti ⟨_, rfl⟩ rfl ?_
    exact ⟨F, (by unfold countP; rw [if_neg hw0, if_neg hw1, if_neg hw2, if_neg hw3, if_neg hw4, if_neg hw5, if_neg hw6, if_neg hw7, if_neg hw8]; try rfl), RepA_mind onlyM_rfl hA⟩
set_option maxHeartbeats 4000000 in
set_option maxRecDepth 100000 in
theorem c5_cellar (F : Gv) (σ : St) (hA : RepA σ F) (hF : FOK F) : Ct M5_cellar 7 [.inr (.inr (4, 0, 0))] σ (QA σ (cellarP F)) := by
  refine Ct.of f_5_cellar (Nat.le_of_ble_eq_true rfl) ?_
  show AW M5_cellar 7 _ (0, [(0, .inr (.inr (4, 0, 0)))], [], σ)
  have hS : RepS (σ 2 0) F.1 := hA.1
  have hO : SOK F.1 := hF.1.1
  have hn8 : Sn F.1 ≤ 8 := hO.1
  refine AW.run 4 [] (8, [(0, .inr (.inr (4, 0, 0)))], [.inr (.inr (2, 0, 0)), .inr (.inr (2, 1, 0))], σ) [] rfl ?_ ?_
  · exact trivial
  refine AW.callVV (d' := 1) [.inr (.inr (2, 0, 0))] [] ⟨_, rfl⟩ f_3_copyFrom v_3_copyFrom l_5_62 ⟨rfl, by decide⟩ rfl (Nat.le_of_ble_eq_true rfl) rfl (Nat.le_of_ble_eq_true rfl) (c3_copyFrom 1 0 (by decide) F.1 σ hS hO) ?_
  rintro τ ⟨w1, w2⟩
  obtain ⟨hA1, hX1⟩ := RepA_trial hA w1
  refine AW.run 4 [] (19, [(0, .inr (.inr (4, 0, 0)))], [.inr (.inr (2, 1, 0)), .inr (.inr (3, 0, 0))], τ) [] rfl ?_ ?_
  · exact trivial
  refine AW.callVI (d' := 6) [.inr (.inr (2, 1, 0))] [] ⟨_, rfl⟩ f_4_tellTo v_4_tellTo l_5_66 ⟨rfl, by decide⟩ rfl (Nat.le_of_ble_eq_true rfl) rfl (Nat.le_of_ble_eq_true rfl) (c4_tellTo 1 F.1 τ w2 hO hF.1.2 F.2.1.2 F.2.1.1 hA1.2.1) ?_
  rintro r9 τ2 ⟨w3, o, ho, w4⟩
  obtain ⟨hA2, hX2⟩ := RepA_trial hA1 w3
  obtain ⟨sg1, sg2⟩ := tel_sign ho
  refine AW.run 3 [] (27, [(1, .inl r9), (0, .inr (.inr (4, 0, 0)))], [.inr (.inr (3, 0, 0))], τ2) [] rfl ?_ ?_
  · exact trivial
  refine AW.callVV (d' := 0) [] [] ⟨_, rfl⟩ f_4_forget v_4_forget l_5_70 ⟨rfl, by decide⟩ rfl (Nat.le_of_ble_eq_true rfl) rfl (Nat.le_of_ble_eq_true rfl) (c4_forget τ2) ?_
  rintro _ rfl
  obtain ⟨hA3, hX3⟩ := RepA_tale (tp := F.2.1.2) (len := 0) hA2 only_set ⟨by omega, hF.2.1.2, by rw [setM_at, if_pos ⟨rfl, rfl⟩], fun i hi => absurd hi (Nat.not_lt_zero i)⟩
  cases o
  · skip
    refine AW.run 3 [true] (53, [(1, .inl r9), (0, .inr (.inr (4, 0, 0)))], [.inl r9], (setM τ2 3 0 0 1 0)) [icP .lt r9 0] rfl ?_ ?_
    · exact allP1 (sg1 rfl)
    refine AW.reti ⟨_, rfl⟩ rfl ?_
    exact ⟨_, by unfold cellarP; rw [ho], hA3, oth_trans hX1 (oth_trans hX2 hX3)⟩
  · skip
    rename_i S9
    have hok := w4 S9 rfl
    have hR9 : RepS (setM τ2 3 0 0 1 0 2 1) S9 := by rw [set_ne (by omega)]; exact hok.1
    refine AW.run 6 [false] (42, [(1, .inl r9), (0, .inr (.inr (4, 0, 0)))], [.inr (.inr (2, 1, 0)), .inr (.inr (2, 0, 0))], (setM τ2 3 0 0 1 0)) [¬ icP .lt r9 0] rfl ?_ ?_
    · exact allP1 (sg2 _ rfl)
    refine AW.callVV (d' := 1) [.inr (.inr (2, 1, 0))] [] ⟨_, rfl⟩ f_3_copyFrom v_3_copyFrom l_5_62 ⟨rfl, by decide⟩ rfl (Nat.le_of_ble_eq_true rfl) rfl (Nat.le_of_ble_eq_true rfl) (c3_copyFrom 0 1 (by decide) S9 (setM τ2 3 0 0 1 0) hR9 hok.2.1) ?_
    rintro τ4 ⟨w5, w6⟩
    obtain ⟨hA4, hX4⟩ := RepA_now w5 hA3 w6
    refine AW.run 2 [] (49, [(1, .inl r9), (0, .inr (.inr (4, 0, 0)))], [.inr (.inr (1, 0, 0))], τ4) [] rfl ?_ ?_
    · exact trivial
    refine AW.callVV (d' := 0) [] [] ⟨_, rfl⟩ f_2_forget v_2_forget l_5_73 ⟨rfl, by decide⟩ rfl (Nat.le_of_ble_eq_true rfl) rfl (Nat.le_of_ble_eq_true rfl) (c2_forget τ4) ?_
    rintro _ rfl
    obtain ⟨hA5, hX5⟩ := RepA_fgt hA4
    refine AW.run 1 [] (53, [(1, .inl r9), (0, .inr (.inr (4, 0, 0)))], [.inl r9], (setM τ4 1 0 0 2 0)) [] rfl ?_ ?_
    · exact trivial
    refine AW.reti ⟨_, rfl⟩ rfl ?_
    exact ⟨_, (by unfold cellarP; rw [ho]; rfl), hA5, oth_trans hX1 (oth_trans hX2 (oth_trans hX3 (oth_trans hX4 hX5)))⟩
