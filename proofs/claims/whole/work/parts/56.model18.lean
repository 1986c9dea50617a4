/-! JUDGE, ROW, CLEAR, MEAN, EASED -/
set_option maxHeartbeats 4000000 in
set_option maxRecDepth 100000 in
theorem d6_judge (F : Gv) (σ : St) (hD : RepD σ F) (hG : GOK F) : Ct M6_judge 1 [.inr (.inr (5, 0, 0))] σ (QD σ (judgeP F)) := by
  refine Ct.of f_6_judge (Nat.le_of_ble_eq_true rfl) ?_
  show AW M6_judge 1 _ (0, [(0, .inr (.inr (5, 0, 0)))], [], σ)
  have hF : FOK F := hG.1
  have hR : RepM (σ 5 0) F.1 := hD.1
  have hO : SOK F.1 := hF.1.1
  have hn8 : Sn F.1 ≤ 8 := hO.1
  have e7 := hR.1.1
  refine AW.run 2 [] (4, [(0, .inr (.inr (5, 0, 0)))], [.inl (σ 5 0 0 24)], σ) [] rfl ?_ ?_
  · exact trivial
  rw [hD.2.2.1.2.1]
  refine AW.run 4 [] (10, [(1, .inl (nI F.2.2.1.1)), (0, .inr (.inr (5, 0, 0)))], [], (setM σ 5 0 0 24 0)) [] rfl ?_ ?_
  · exact trivial
  obtain ⟨υ, eυ⟩ : ∃ x, x = (setM σ 5 0 0 24 0) := ⟨_, rfl⟩
  rw [← eυ]
  obtain ⟨hC1, hC2⟩ : RepD υ (F.1, F.2.1, (0, F.2.2.1.2), F.2.2.2) ∧ Fr TT σ υ := by rw [eυ]; exact RepD_clr hF hD
  have hRu : RepM (υ 5 0) F.1 := hC1.1
  have e7u := hRu.1.1
  have hWu : ∀ i, υ 5 0 24 i = σ 5 0 24 i := fun i => by rw [eυ, setM_at, if_neg (by omega)]
  refine AW.run 2 [] (12, [(2, .inl 0), (1, .inl (nI F.2.2.1.1)), (0, .inr (.inr (5, 0, 0)))], [], υ) [] rfl ?_ ?_
  · exact trivial
  refine AW.pick [2, 1, 0] (ls' := [(0, .inr (.inr (5, 0, 0))), (1, .inl (nI F.2.2.1.1)), (2, .inl (nI 0))]) rfl ?_
  refine AW.loop (α := Unit) 12 F.2.2.1.1 (fun i _ => [(0, .inr (.inr (5, 0, 0))), (1, .inl (nI F.2.2.1.1)), (2, .inl (nI i))]) (fun i _ τ => υ = τ ∧ jdgN F F.2.2.1.1 0 = jdgN F (F.2.2.1.1 - i) i) ?_ ?_ F.2.2.1.1 0 () _ (by omega) ⟨rfl, rfl⟩
  · intro i _ τ hi hI hk
    obtain ⟨rfl, hg⟩ := hI
    have hm12 := hF.2.2.1.1
    have hu : jdgN F (F.2.2.1.1 - i) i = if i < Sn F.1 ∧ Sq F.1 i = F.2.2.1.2 i then jdgN F (F.2.2.1.1 - (i + 1)) (i + 1) else some i := by
      obtain ⟨m, hm⟩ : ∃ m, F.2.2.1.1 - i = m + 1 := ⟨F.2.2.1.1 - i - 1, by omega⟩
      rw [hm, show F.2.2.1.1 - (i + 1) = m by omega]; rfl
    have hw9 := hF.2.2.1.2 i
    have hq9 := (hO.2.1 i).2.2.2
    have er : υ 5 0 24 (nI i).toNatClampNeg = nI (F.2.2.1.2 i) := by rw [nI_clamp (by omega), hWu]; exact hD.2.2.1.2.2 i hi
    by_cases hb : i < Sn F.1
    · have hi8 : i < 8 := by omega
      by_cases he : Sq F.1 i = F.2.2.1.2 i
      · skip
        refine AW.run 6 [false] (22, [(0, .inr (.inr (5, 0, 0))), (1, .inl (nI F.2.2.1.1)), (2, .inl (nI i))], [.inl (υ 5 0 0 7), .inl (nI i)], υ) [¬ icP .ge (nI i) (nI F.2.2.1.1)] rfl ?_ ?_
        · exact allP1 (nI_ge hi (by omega))
        rw [e7u]
        refine AW.run 5 [false] (31, [(0, .inr (.inr (5, 0, 0))), (1, .inl (nI F.2.2.1.1)), (2, .inl (nI i))], [.inl (υ 5 0 5 (nI i).toNatClampNeg)], υ) [¬ icP .ge (nI i) (nI (Sn F.1)), vp_in (nI i) 8] rfl ?_ ?_
        · exact ⟨(nI_ge hb (by omega)), allP1 (by first | exact in8 hi8 | exact vp_in_nI (by omega) (by decide))⟩
        rw [cl8 (k := i) (by omega), (hRu.2 i hb).2.2.2.1]
        refine AW.run 4 [] (37, [(0, .inr (.inr (5, 0, 0))), (1, .inl (nI F.2.2.1.1)), (2, .inl (nI i))], [.inl (υ 5 0 24 (nI i).toNatClampNeg), .inl (nI (Sq F.1 i))], υ) [vp_in (nI i) 12] rfl ?_ ?_
        · exact allP1 (by first | exact in8 hi8 | exact vp_in_nI (by omega) (by decide))
        rw [er]
        refine AW.run 3 [true] (12, [(2, .inl ((nI i) + 1)), (0, .inr (.inr (5, 0, 0))), (1, .inl (nI F.2.2.1.1))], [], υ) [icP .eq (nI (Sq F.1 i)) (nI (F.2.2.1.2 i))] rfl ?_ ?_
        · exact allP1 (congrArg nI he)
        rw [nI_1 i]
        refine AW.pick [1, 2, 0] (ls' := [(0, .inr (.inr (5, 0, 0))), (1, .inl (nI F.2.2.1.1)), (2, .inl (nI (i + 1)))]) rfl ?_
        exact hk () _ ⟨rfl, by rw [hg, hu, if_pos ⟨hb, he⟩]⟩
      · skip
        refine AW.run 6 [false] (22, [(0, .inr (.inr (5, 0, 0))), (1, .inl (nI F.2.2.1.1)), (2, .inl (nI i))], [.inl (υ 5 0 0 7), .inl (nI i)], υ) [¬ icP .ge (nI i) (nI F.2.2.1.1)] rfl ?_ ?_
        · exact allP1 (nI_ge hi (by omega))
        rw [e7u]
        refine AW.run 5 [false] (31, [(0, .inr (.inr (5, 0, 0))), (1, .inl (nI F.2.2.1.1)), (2, .inl (nI i))], [.inl (υ 5 0 5 (nI i).toNatClampNeg)], υ) [¬ icP .ge (nI i) (nI (Sn F.1)), vp_in (nI i) 8] rfl ?_ ?_
        · exact ⟨(nI_ge hb (by omega)), allP1 (by first | exact in8 hi8 | exact vp_in_nI (by omega) (by decide))⟩
        rw [cl8 (k := i) (by omega), (hRu.2 i hb).2.2.2.1]
        refine AW.run 4 [] (37, [(0, .inr (.inr (5, 0, 0))), (1, .inl (nI F.2.2.1.1)), (2, .inl (nI i))], [.inl (υ 5 0 24 (nI i).toNatClampNeg), .inl (nI (Sq F.1 i))], υ) [vp_in (nI i) 12] rfl ?_ ?_
        · exact allP1 (by first | exact in8 hi8 | exact vp_in_nI (by omega) (by decide))
        rw [er]
        refine AW.run 2 [false] (41, [(0, .inr (.inr (5, 0, 0))), (1, .inl (nI F.2.2.1.1)), (2, .inl (nI i))], [.inl (nI i)], υ) [¬ icP .eq (nI (Sq F.1 i)) (nI (F.2.2.1.2 i))] rfl ?_ ?_
        · exact allP1 (fun q => he (nI_lit q (by omega) (by omega)))
        refine AW.reti ⟨_, rfl⟩ rfl ?_
        exact ⟨_, by unfold judgeP; rw [hg, hu, if_neg (fun h => he h.2)]; rfl, hC1, hC2⟩
    · skip
      refine AW.run 6 [false] (22, [(0, .inr (.inr (5, 0, 0))), (1, .inl (nI F.2.2.1.1)), (2, .inl (nI i))], [.inl (υ 5 0 0 7), .inl (nI i)], υ) [¬ icP .ge (nI i) (nI F.2.2.1.1)] rfl ?_ ?_
      · exact allP1 (nI_ge hi (by omega))
      rw [e7u]
      refine AW.run 2 [true] (41, [(0, .inr (.inr (5, 0, 0))), (1, .inl (nI F.2.2.1.1)), (2, .inl (nI i))], [.inl (nI i)], υ) [icP .ge (nI i) (nI (Sn F.1))] rfl ?_ ?_
      · exact allP1 (nI_le (by omega) (by omega))
      refine AW.reti ⟨_, rfl⟩ rfl ?_
      exact ⟨_, by unfold judgeP; rw [hg, hu, if_neg (fun h => hb h.1)]; rfl, hC1, hC2⟩
  · intro _ τ hI
    obtain ⟨rfl, hg⟩ := hI
    have hm12 := hF.2.2.1.1
    refine AW.run 4 [true] (50, [(0, .inr (.inr (5, 0, 0))), (1, .inl (nI F.2.2.1.1)), (2, .inl (nI F.2.2.1.1))], [.inl (-9)], υ) [icP .ge (nI F.2.2.1.1) (nI F.2.2.1.1)] rfl ?_ ?_
    · exact allP1 (nI_le (Nat.le_refl _) (by omega))
    refine AW.reti ⟨_, rfl⟩ rfl ?_
    exact ⟨_, by unfold judgeP; rw [hg, Nat.sub_self]; rfl, hC1, hC2⟩
set_option maxHeartbeats 4000000 in
set_option maxRecDepth 100000 in
theorem d6_clear (F : Gv) (σ : St) (hD : RepD σ F) (hG : GOK F) : Ct M6_clear 1 [.inr (.inr (5, 0, 0))] σ (QD σ (clearP F)) := by
  refine Ct.of f_6_clear (Nat.le_of_ble_eq_true rfl) ?_
  show AW M6_clear 1 _ (0, [(0, .inr (.inr (5, 0, 0)))], [], σ)
  have hF : FOK F := hG.1
  have hR : RepM (σ 5 0) F.1 := hD.1
  have hO : SOK F.1 := hF.1.1
  have hn8 : Sn F.1 ≤ 8 := hO.1
  have e7 := hR.1.1
  refine AW.run 2 [] (4, [(0, .inr (.inr (5, 0, 0)))], [.inl (σ 5 0 0 24)], σ) [] rfl ?_ ?_
  · exact trivial
  rw [hD.2.2.1.2.1]
  refine AW.run 5 [] (11, [(1, .inl (nI F.2.2.1.1)), (0, .inr (.inr (5, 0, 0)))], [.inl (nI F.2.2.1.1)], (setM σ 5 0 0 24 0)) [] rfl ?_ ?_
  · exact trivial
  refine AW.reti ⟨_, rfl⟩ rfl ?_
  exact ⟨_, rfl, RepD_clr hF hD⟩
set_option maxHeartbeats 4000000 in
set_option maxRecDepth 100000 in
theorem d6_row (F : Gv) (σ : St) (hD : RepD σ F) (hG : GOK F) (x : Int32) : Ct M6_row 1 [.inr (.inr (5, 0, 0)), .inl x] σ (QD σ (rowP F x)) := by
  refine Ct.of f_6_row (Nat.le_of_ble_eq_true rfl) ?_
  show AW M6_row 1 _ (0, [(0, .inr (.inr (5, 0, 0))), (1, .inl x)], [], σ)
  have hF : FOK F := hG.1
  have hR : RepM (σ 5 0) F.1 := hD.1
  have hO : SOK F.1 := hF.1.1
  have hn8 : Sn F.1 ≤ 8 := hO.1
  have e7 := hR.1.1
  rcases fMax_or 99 (by decide) x with ⟨h4v1, ev1⟩ | ⟨h4v1, h6v1, ev1⟩ | ⟨v1, hv1, rfl, ev1⟩
  · skip
    refine AW.run 3 [] (4, [(0, .inr (.inr (5, 0, 0))), (1, .inl x)], [.inl 99, .inl 0, .inl x], σ) [] rfl ?_ ?_
    · exact trivial
    refine AW.callSI (d' := 0) [.inl x, .inl 0, .inl 99] [] ⟨_, rfl⟩ f_6_bound s_6_bound l_6_62 rfl (Nat.le_of_ble_eq_true rfl) rfl (Nat.le_of_ble_eq_true rfl) (c6_bound4 x 0 99 h4v1 σ) ?_
    rintro _ _ ⟨rfl, rfl⟩
    refine AW.run 7 [true, false] (30, [(2, .inl (-4)), (0, .inr (.inr (5, 0, 0))), (1, .inl x)], [.inl (-4), .inr (.inr (5, 0, 0))], σ) [icP .ne ((-4) : Int32) 0, ¬ icP .eq ((-4) : Int32) 0] rfl ?_ ?_
    · exact ⟨(by decide : (¬ ((-4) : Int32) = 0)), allP1 (by decide : ¬ (((-4) : Int32) = 0))⟩
    refine AW.callVI (d' := 0) [.inl (-4)] [] ⟨_, rfl⟩ f_6_no v_6_no l_6_69 ⟨rfl, by decide⟩ rfl (Nat.le_of_ble_eq_true rfl) rfl (Nat.le_of_ble_eq_true rfl) (c6_no4 σ) ?_
    rintro _ _ ⟨rfl, rfl⟩
    refine AW.reti ⟨_, rfl⟩ rfl ?_
    exact ⟨rfuF F 4, (by unfold rowP; rw [maxP_e4 ev1]; try rfl), RepD_ref hF hD (by decide) (by decide)⟩
  · skip
    refine AW.run 3 [] (4, [(0, .inr (.inr (5, 0, 0))), (1, .inl x)], [.inl 99, .inl 0, .inl x], σ) [] rfl ?_ ?_
    · exact trivial
    refine AW.callSI (d' := 0) [.inl x, .inl 0, .inl 99] [] ⟨_, rfl⟩ f_6_bound s_6_bound l_6_62 rfl (Nat.le_of_ble_eq_true rfl) rfl (Nat.le_of_ble_eq_true rfl) (c6_bound6 x 0 99 h4v1 h6v1 σ) ?_
    rintro _ _ ⟨rfl, rfl⟩
    refine AW.run 7 [true, false] (30, [(2, .inl (-6)), (0, .inr (.inr (5, 0, 0))), (1, .inl x)], [.inl (-6), .inr (.inr (5, 0, 0))], σ) [icP .ne ((-6) : Int32) 0, ¬ icP .eq ((-6) : Int32) 0] rfl ?_ ?_
    · exact ⟨(by decide : (¬ ((-6) : Int32) = 0)), allP1 (by decide : ¬ (((-6) : Int32) = 0))⟩
    refine AW.callVI (d' := 0) [.inl (-6)] [] ⟨_, rfl⟩ f_6_no v_6_no l_6_69 ⟨rfl, by decide⟩ rfl (Nat.le_of_ble_eq_true rfl) rfl (Nat.le_of_ble_eq_true rfl) (c6_no6 σ) ?_
    rintro _ _ ⟨rfl, rfl⟩
    refine AW.reti ⟨_, rfl⟩ rfl ?_
    exact ⟨rfuF F 6, (by unfold rowP; rw [maxP_e6 ev1]; try rfl), RepD_ref hF hD (by decide) (by decide)⟩
  · skip
    have nlv1 : ¬ nI v1 < 0 := nlt0 (by omega)
    have nmv1 : ¬ nI 99 < nI v1 := nI_nlt hv1 (by decide)
    have hm12 := hF.2.2.1.1
    by_cases h12 : F.2.2.1.1 < 12
    · skip
      refine AW.run 3 [] (4, [(0, .inr (.inr (5, 0, 0))), (1, .inl (nI v1))], [.inl 99, .inl 0, .inl (nI v1)], σ) [] rfl ?_ ?_
      · exact trivial
      refine AW.callSI (d' := 0) [.inl (nI v1), .inl 0, .inl 99] [] ⟨_, rfl⟩ f_6_bound s_6_bound l_6_62 rfl (Nat.le_of_ble_eq_true rfl) rfl (Nat.le_of_ble_eq_true rfl) (c6_bound0 (nI v1) 0 99 nlv1 nmv1 σ) ?_
      rintro _ _ ⟨rfl, rfl⟩
      refine AW.run 5 [false] (16, [(2, .inl 0), (0, .inr (.inr (5, 0, 0))), (1, .inl (nI v1))], [.inl (σ 5 0 0 24)], σ) [¬ icP .ne (0 : Int32) 0] rfl ?_ ?_
      · exact allP1 (by decide : ¬ (¬ (0 : Int32) = 0))
      rw [hD.2.2.1.2.1]
      refine AW.run 8 [true, true] (42, [(2, .inl 0), (0, .inr (.inr (5, 0, 0))), (1, .inl (nI v1))], [.inl (σ 5 0 0 24), .inr (.inr (5, 0, 24))], σ) [icP .ne (nI F.2.2.1.1) 12, icP .eq (0 : Int32) 0] rfl ?_ ?_
      · exact ⟨(fun q => absurd (nI_lit (n := 12) q (by omega) (by decide)) (by omega)), allP1 (by decide : ((0 : Int32) = 0))⟩
      rw [hD.2.2.1.2.1]
      refine AW.run 5 [] (49, [(2, .inl 0), (0, .inr (.inr (5, 0, 0))), (1, .inl (nI v1))], [.inl ((setM σ 5 0 24 (nI F.2.2.1.1).toNatClampNeg (nI v1)) 5 0 0 24), .inr (.inr (5, 0, 0))], (setM σ 5 0 24 (nI F.2.2.1.1).toNatClampNeg (nI v1))) [vp_in (nI F.2.2.1.1) 12] rfl ?_ ?_
      · exact allP1 (by exact vp_in_nI (by omega) (by decide))
      rw [show (setM σ 5 0 24 (nI F.2.2.1.1).toNatClampNeg (nI v1)) 5 0 0 24 = nI F.2.2.1.1 from by rw [setM_at, if_neg (by omega)]; exact hD.2.2.1.2.1]
      refine AW.run 2 [] (51, [(2, .inl 0), (0, .inr (.inr (5, 0, 0))), (1, .inl (nI v1))], [.inl ((nI F.2.2.1.1) + 1), .inr (.inr (5, 0, 0))], (setM σ 5 0 24 (nI F.2.2.1.1).toNatClampNeg (nI v1))) [] rfl ?_ ?_
      · exact trivial
      rw [nI_1 F.2.2.1.1]
      refine AW.run 3 [] (58, [(2, .inl 0), (0, .inr (.inr (5, 0, 0))), (1, .inl (nI v1))], [.inl ((setM (setM σ 5 0 24 (nI F.2.2.1.1).toNatClampNeg (nI v1)) 5 0 0 24 (nI (F.2.2.1.1 + 1))) 5 0 0 24)], (setM (setM σ 5 0 24 (nI F.2.2.1.1).toNatClampNeg (nI v1)) 5 0 0 24 (nI (F.2.2.1.1 + 1)))) [] rfl ?_ ?_
      · exact trivial
      rw [show (setM (setM σ 5 0 24 (nI F.2.2.1.1).toNatClampNeg (nI v1)) 5 0 0 24 (nI (F.2.2.1.1 + 1))) 5 0 0 24 = nI (F.2.2.1.1 + 1) from by rw [setM_at, if_pos ⟨rfl, rfl⟩]]
      refine AW.reti ⟨_, rfl⟩ rfl ?_
      exact ⟨_, (by unfold rowP; rw [maxP_e0 ev1 (by omega), if_pos h12]; try rfl), RepD_rowadd hF hD h12 hv1 rfl⟩
    · skip
      refine AW.run 3 [] (4, [(0, .inr (.inr (5, 0, 0))), (1, .inl (nI v1))], [.inl 99, .inl 0, .inl (nI v1)], σ) [] rfl ?_ ?_
      · exact trivial
      refine AW.callSI (d' := 0) [.inl (nI v1), .inl 0, .inl 99] [] ⟨_, rfl⟩ f_6_bound s_6_bound l_6_62 rfl (Nat.le_of_ble_eq_true rfl) rfl (Nat.le_of_ble_eq_true rfl) (c6_bound0 (nI v1) 0 99 nlv1 nmv1 σ) ?_
      rintro _ _ ⟨rfl, rfl⟩
      refine AW.run 5 [false] (16, [(2, .inl 0), (0, .inr (.inr (5, 0, 0))), (1, .inl (nI v1))], [.inl (σ 5 0 0 24)], σ) [¬ icP .ne (0 : Int32) 0] rfl ?_ ?_
      · exact allP1 (by decide : ¬ (¬ (0 : Int32) = 0))
      rw [hD.2.2.1.2.1]
      refine AW.run 8 [false, false] (30, [(2, .inl (-6)), (0, .inr (.inr (5, 0, 0))), (1, .inl (nI v1))], [.inl (-6), .inr (.inr (5, 0, 0))], σ) [¬ icP .ne (nI F.2.2.1.1) 12, ¬ icP .eq ((-6) : Int32) 0] rfl ?_ ?_
      · exact ⟨(fun q => q (congrArg nI (show F.2.2.1.1 = 12 by omega))), allP1 (by decide : ¬ (((-6) : Int32) = 0))⟩
      refine AW.callVI (d' := 0) [.inl (-6)] [] ⟨_, rfl⟩ f_6_no v_6_no l_6_69 ⟨rfl, by decide⟩ rfl (Nat.le_of_ble_eq_true rfl) rfl (Nat.le_of_ble_eq_true rfl) (c6_no6 σ) ?_
      rintro _ _ ⟨rfl, rfl⟩
      refine AW.reti ⟨_, rfl⟩ rfl ?_
      exact ⟨rfuF F 6, (by unfold rowP; rw [maxP_e0 ev1 (by omega), if_neg h12]; try rfl), RepD_ref hF hD (by decide) (by decide)⟩
theorem cN_pos {f : Nat → Bool} (h : ¬ cN f = 0) : 0 < cN f := Nat.pos_of_ne_zero h
set_option maxHeartbeats 4000000 in
set_option maxRecDepth 100000 in
theorem d6_mean (F : Gv) (σ : St) (hD : RepD σ F) (hG : GOK F) (p : Int32) : Ct M6_mean 3 [.inr (.inr (5, 0, 0)), .inl p] σ (QDL σ (meanP F p)) := by
  refine Ct.of f_6_mean (Nat.le_of_ble_eq_true rfl) ?_
  show AW M6_mean 3 _ (0, [(0, .inr (.inr (5, 0, 0))), (1, .inl p)], [], σ)
  have hF : FOK F := hG.1
  have hR : RepM (σ 5 0) F.1 := hD.1
  have hO : SOK F.1 := hF.1.1
  have hn8 : Sn F.1 ≤ 8 := hO.1
  have e7 := hR.1.1
  have hps := psum_lt F.1 hO
  have hcn := cN_le (Sw F.1)
  by_cases h0 : p = 0
  · subst h0
    by_cases hz : cN (Sw F.1) = 0
    · skip
      refine AW.run 3 [] (3, [(0, .inr (.inr (5, 0, 0))), (1, .inl 0)], [.inl 1, .inl 0, .inl 0], σ) [] rfl ?_ ?_
      · exact trivial
      refine AW.callSI (d' := 0) [.inl 0, .inl 0, .inl 1] [] ⟨_, rfl⟩ f_6_isIn s_6_isIn l_6_80 rfl (Nat.le_of_ble_eq_true rfl) rfl (Nat.le_of_ble_eq_true rfl) (c6_isIn1 0 0 1 (by decide) (by decide) σ) ?_
      rintro _ _ ⟨rfl, rfl⟩
      refine AW.run 2 [true] (17, [(0, .inr (.inr (5, 0, 0))), (1, .inl 0)], [.inr (.inr (5, 0, 0))], σ) [icP .ne (1 : Int32) 0] rfl ?_ ?_
      · exact allP1 (by decide : (¬ (1 : Int32) = 0))
      refine AW.callVI (d' := 1) [] [] ⟨_, rfl⟩ f_6_whole v_6_whole l_6_197 ⟨rfl, by decide⟩ rfl (Nat.le_of_ble_eq_true rfl) rfl (Nat.le_of_ble_eq_true rfl) (c6_whole F.1 σ hR hO) ?_
      rintro _ _ ⟨rfl, rfl⟩
      refine AW.callSI (d' := 0) [.inl (bI (Sw F.1))] [] ⟨_, rfl⟩ f_6_bits s_6_bits l_6_200 rfl (Nat.le_of_ble_eq_true rfl) rfl (Nat.le_of_ble_eq_true rfl) (c6_bits (bI (Sw F.1)) σ) ?_
      rintro _ _ ⟨rfl, rfl⟩
      rw [btV_bI]
      refine AW.run 6 [false] (44, [(2, .inl (nI (cN (Sw F.1)))), (0, .inr (.inr (5, 0, 0))), (1, .inl 0)], [.inr (.inl ((0 : Int32).toInt64))], σ) [¬ icP .ne (nI (cN (Sw F.1))) 0] rfl ?_ ?_
      · exact allP1 (fun q => q (congrArg nI hz))
      refine AW.retl ⟨_, rfl⟩ rfl ?_
      exact ⟨F, (by unfold meanP; rw [if_pos (by decide), if_pos hz]; rfl), QD_fr hF fr_rfl hD hR⟩
    · skip
      refine AW.run 3 [] (3, [(0, .inr (.inr (5, 0, 0))), (1, .inl 0)], [.inl 1, .inl 0, .inl 0], σ) [] rfl ?_ ?_
      · exact trivial
      refine AW.callSI (d' := 0) [.inl 0, .inl 0, .inl 1] [] ⟨_, rfl⟩ f_6_isIn s_6_isIn l_6_80 rfl (Nat.le_of_ble_eq_true rfl) rfl (Nat.le_of_ble_eq_true rfl) (c6_isIn1 0 0 1 (by decide) (by decide) σ) ?_
      rintro _ _ ⟨rfl, rfl⟩
      refine AW.run 2 [true] (17, [(0, .inr (.inr (5, 0, 0))), (1, .inl 0)], [.inr (.inr (5, 0, 0))], σ) [icP .ne (1 : Int32) 0] rfl ?_ ?_
      · exact allP1 (by decide : (¬ (1 : Int32) = 0))
      refine AW.callVI (d' := 1) [] [] ⟨_, rfl⟩ f_6_whole v_6_whole l_6_197 ⟨rfl, by decide⟩ rfl (Nat.le_of_ble_eq_true rfl) rfl (Nat.le_of_ble_eq_true rfl) (c6_whole F.1 σ hR hO) ?_
      rintro _ _ ⟨rfl, rfl⟩
      refine AW.callSI (d' := 0) [.inl (bI (Sw F.1))] [] ⟨_, rfl⟩ f_6_bits s_6_bits l_6_200 rfl (Nat.le_of_ble_eq_true rfl) rfl (Nat.le_of_ble_eq_true rfl) (c6_bits (bI (Sw F.1)) σ) ?_
      rintro _ _ ⟨rfl, rfl⟩
      rw [btV_bI]
      refine AW.run 4 [true] (34, [(2, .inl (nI (cN (Sw F.1)))), (0, .inr (.inr (5, 0, 0))), (1, .inl 0)], [.inr (.inr (5, 0, 0))], σ) [icP .ne (nI (cN (Sw F.1))) 0] rfl ?_ ?_
      · exact allP1 (fun q => hz (nI_lit (n := 0) q (by omega) (by decide)))
      refine AW.callVI (d' := 1) [] [] ⟨_, rfl⟩ f_6_allPress v_6_allPress l_6_216 ⟨rfl, by decide⟩ rfl (Nat.le_of_ble_eq_true rfl) rfl (Nat.le_of_ble_eq_true rfl) (c6_allPress F.1 σ hR hO) ?_
      rintro _ _ ⟨rfl, rfl⟩
      refine AW.run 1 [] (38, [(2, .inl (nI (cN (Sw F.1)))), (0, .inr (.inr (5, 0, 0))), (1, .inl 0)], [.inr (.inl ((nI (psum F.1 8)).toInt64))], σ) [] rfl ?_ ?_
      · exact trivial
      rw [nI_l (by omega)]
      refine AW.run 2 [] (40, [(2, .inl (nI (cN (Sw F.1)))), (0, .inr (.inr (5, 0, 0))), (1, .inl 0)], [.inr (.inl ((nI (cN (Sw F.1))).toInt64)), .inr (.inl (lN (psum F.1 8)))], σ) [] rfl ?_ ?_
      · exact trivial
      rw [nI_l (n := cN (Sw F.1)) (by omega)]
      refine AW.run 1 [] (41, [(2, .inl (nI (cN (Sw F.1)))), (0, .inr (.inr (5, 0, 0))), (1, .inl 0)], [.inl 0, .inr (.inl (lN (cN (Sw F.1)))), .inr (.inl (lN (psum F.1 8)))], σ) [] rfl ?_ ?_
      · exact trivial
      refine AW.callSL (d' := 1) [.inr (.inl (lN (psum F.1 8))), .inr (.inl (lN (cN (Sw F.1)))), .inl 0] [] ⟨_, rfl⟩ f_6_partOf s_6_partOf l_6_274 rfl (Nat.le_of_ble_eq_true rfl) rfl (Nat.le_of_ble_eq_true rfl) (c6_partOf (psum F.1 8) (cN (Sw F.1)) 0 (by omega) (by omega) (by decide) (cN_pos hz) σ) ?_
      rintro _ _ ⟨rfl, rfl⟩
      refine AW.retl ⟨_, rfl⟩ rfl ?_
      exact ⟨F, (by unfold meanP; rw [if_pos (by decide), if_neg hz]; rfl), QD_fr hF fr_rfl hD hR⟩
  by_cases h1 : p = 1
  · subst h1
    by_cases hz : cN (Sw F.1) = 0
    · skip
      refine AW.run 3 [] (3, [(0, .inr (.inr (5, 0, 0))), (1, .inl 1)], [.inl 1, .inl 0, .inl 1], σ) [] rfl ?_ ?_
      · exact trivial
      refine AW.callSI (d' := 0) [.inl 1, .inl 0, .inl 1] [] ⟨_, rfl⟩ f_6_isIn s_6_isIn l_6_80 rfl (Nat.le_of_ble_eq_true rfl) rfl (Nat.le_of_ble_eq_true rfl) (c6_isIn1 1 0 1 (by decide) (by decide) σ) ?_
      rintro _ _ ⟨rfl, rfl⟩
      refine AW.run 2 [true] (17, [(0, .inr (.inr (5, 0, 0))), (1, .inl 1)], [.inr (.inr (5, 0, 0))], σ) [icP .ne (1 : Int32) 0] rfl ?_ ?_
      · exact allP1 (by decide : (¬ (1 : Int32) = 0))
      refine AW.callVI (d' := 1) [] [] ⟨_, rfl⟩ f_6_whole v_6_whole l_6_197 ⟨rfl, by decide⟩ rfl (Nat.le_of_ble_eq_true rfl) rfl (Nat.le_of_ble_eq_true rfl) (c6_whole F.1 σ hR hO) ?_
      rintro _ _ ⟨rfl, rfl⟩
      refine AW.callSI (d' := 0) [.inl (bI (Sw F.1))] [] ⟨_, rfl⟩ f_6_bits s_6_bits l_6_200 rfl (Nat.le_of_ble_eq_true rfl) rfl (Nat.le_of_ble_eq_true rfl) (c6_bits (bI (Sw F.1)) σ) ?_
      rintro _ _ ⟨rfl, rfl⟩
      rw [btV_bI]
      refine AW.run 6 [false] (44, [(2, .inl (nI (cN (Sw F.1)))), (0, .inr (.inr (5, 0, 0))), (1, .inl 1)], [.inr (.inl ((1 : Int32).toInt64))], σ) [¬ icP .ne (nI (cN (Sw F.1))) 0] rfl ?_ ?_
      · exact allP1 (fun q => q (congrArg nI hz))
      refine AW.retl ⟨_, rfl⟩ rfl ?_
      exact ⟨F, (by unfold meanP; rw [if_pos (by decide), if_pos hz]; rfl), QD_fr hF fr_rfl hD hR⟩
    · skip
      refine AW.run 3 [] (3, [(0, .inr (.inr (5, 0, 0))), (1, .inl 1)], [.inl 1, .inl 0, .inl 1], σ) [] rfl ?_ ?_
      · exact trivial
      refine AW.callSI (d' := 0) [.inl 1, .inl 0, .inl 1] [] ⟨_, rfl⟩ f_6_isIn s_6_isIn l_6_80 rfl (Nat.le_of_ble_eq_true rfl) rfl (Nat.le_of_ble_eq_true rfl) (c6_isIn1 1 0 1 (by decide) (by decide) σ) ?_
      rintro _ _ ⟨rfl, rfl⟩
      refine AW.run 2 [true] (17, [(0, .inr (.inr (5, 0, 0))), (1, .inl 1)], [.inr (.inr (5, 0, 0))], σ) [icP .ne (1 : Int32) 0] rfl ?_ ?_
      · exact allP1 (by decide : (¬ (1 : Int32) = 0))
      refine AW.callVI (d' := 1) [] [] ⟨_, rfl⟩ f_6_whole v_6_whole l_6_197 ⟨rfl, by decide⟩ rfl (Nat.le_of_ble_eq_true rfl) rfl (Nat.le_of_ble_eq_true rfl) (c6_whole F.1 σ hR hO) ?_
      rintro _ _ ⟨rfl, rfl⟩
      refine AW.callSI (d' := 0) [.inl (bI (Sw F.1))] [] ⟨_, rfl⟩ f_6_bits s_6_bits l_6_200 rfl (Nat.le_of_ble_eq_true rfl) rfl (Nat.le_of_ble_eq_true rfl) (c6_bits (bI (Sw F.1)) σ) ?_
      rintro _ _ ⟨rfl, rfl⟩
      rw [btV_bI]
      refine AW.run 4 [true] (34, [(2, .inl (nI (cN (Sw F.1)))), (0, .inr (.inr (5, 0, 0))), (1, .inl 1)], [.inr (.inr (5, 0, 0))], σ) [icP .ne (nI (cN (Sw F.1))) 0] rfl ?_ ?_
      · exact allP1 (fun q => hz (nI_lit (n := 0) q (by omega) (by decide)))
      refine AW.callVI (d' := 1) [] [] ⟨_, rfl⟩ f_6_allPress v_6_allPress l_6_216 ⟨rfl, by decide⟩ rfl (Nat.le_of_ble_eq_true rfl) rfl (Nat.le_of_ble_eq_true rfl) (c6_allPress F.1 σ hR hO) ?_
      rintro _ _ ⟨rfl, rfl⟩
      refine AW.run 1 [] (38, [(2, .inl (nI (cN (Sw F.1)))), (0, .inr (.inr (5, 0, 0))), (1, .inl 1)], [.inr (.inl ((nI (psum F.1 8)).toInt64))], σ) [] rfl ?_ ?_
      · exact trivial
      rw [nI_l (by omega)]
      refine AW.run 2 [] (40, [(2, .inl (nI (cN (Sw F.1)))), (0, .inr (.inr (5, 0, 0))), (1, .inl 1)], [.inr (.inl ((nI (cN (Sw F.1))).toInt64)), .inr (.inl (lN (psum F.1 8)))], σ) [] rfl ?_ ?_
      · exact trivial
      rw [nI_l (n := cN (Sw F.1)) (by omega)]
      refine AW.run 1 [] (41, [(2, .inl (nI (cN (Sw F.1)))), (0, .inr (.inr (5, 0, 0))), (1, .inl 1)], [.inl 1, .inr (.inl (lN (cN (Sw F.1)))), .inr (.inl (lN (psum F.1 8)))], σ) [] rfl ?_ ?_
      · exact trivial
      refine AW.callSL (d' := 1) [.inr (.inl (lN (psum F.1 8))), .inr (.inl (lN (cN (Sw F.1)))), .inl 1] [] ⟨_, rfl⟩ f_6_partOf s_6_partOf l_6_274 rfl (Nat.le_of_ble_eq_true rfl) rfl (Nat.le_of_ble_eq_true rfl) (c6_partOf (psum F.1 8) (cN (Sw F.1)) 1 (by omega) (by omega) (by decide) (cN_pos hz) σ) ?_
      rintro _ _ ⟨rfl, rfl⟩
      refine AW.retl ⟨_, rfl⟩ rfl ?_
      exact ⟨F, (by unfold meanP; rw [if_pos (by decide), if_neg hz]; rfl), QD_fr hF fr_rfl hD hR⟩
  · skip
    refine AW.run 3 [] (3, [(0, .inr (.inr (5, 0, 0))), (1, .inl p)], [.inl 1, .inl 0, .inl p], σ) [] rfl ?_ ?_
    · exact trivial
    refine AW.callSI (d' := 0) [.inl p, .inl 0, .inl 1] [] ⟨_, rfl⟩ f_6_isIn s_6_isIn l_6_80 rfl (Nat.le_of_ble_eq_true rfl) rfl (Nat.le_of_ble_eq_true rfl) (c6_isIn0 p 0 1 (in_01 h0 h1) σ) ?_
    rintro _ _ ⟨rfl, rfl⟩
    refine AW.run 3 [false] (12, [(0, .inr (.inr (5, 0, 0))), (1, .inl p)], [.inl (-2), .inr (.inr (5, 0, 0))], σ) [¬ icP .ne (0 : Int32) 0] rfl ?_ ?_
    · exact allP1 (by decide : ¬ (¬ (0 : Int32) = 0))
    refine AW.callVL (d' := 0) [.inl (-2)] [] ⟨_, rfl⟩ f_6_lowestOf v_6_lowestOf l_6_267 ⟨rfl, by decide⟩ rfl (Nat.le_of_ble_eq_true rfl) rfl (Nat.le_of_ble_eq_true rfl) (c6_lowestOf2 σ) ?_
    rintro _ _ ⟨rfl, rfl⟩
    refine AW.retl ⟨_, rfl⟩ rfl ?_
    exact ⟨rfuF F 2, (by unfold meanP; rw [if_neg (fun h => h.elim h0 h1)]; try rfl), RepD_ref hF hD (by decide) (by decide)⟩
set_option maxHeartbeats 4000000 in
set_option maxRecDepth 100000 in
theorem d6_eased (F : Gv) (σ : St) (hD : RepD σ F) (hG : GOK F) (x : Int32) (y : Int32) (n : Int32) : Ct M6_eased 7 [.inr (.inr (5, 0, 0)), .inl x, .inl y, .inl n] σ (QD σ (easedP F x y n)) := by
  refine Ct.of f_6_eased (Nat.le_of_ble_eq_true rfl) ?_
  show AW M6_eased 7 _ (0, [(0, .inr (.inr (5, 0, 0))), (1, .inl x), (2, .inl y), (3, .inl n)], [], σ)
  have hF : FOK F := hG.1
  have hR : RepM (σ 5 0) F.1 := hD.1
  have hO : SOK F.1 := hF.1.1
  have hn8 : Sn F.1 ≤ 8 := hO.1
  have e7 := hR.1.1
  rcases pair_or F hn8 x y with ⟨a, b, ha, hb, hne, rfl, rfl, hpr⟩ | ⟨hpr, hno⟩
  · skip
    have ha8 : a < 8 := by omega
    have hb8 : b < 8 := by omega
    rcases fMax_or 60 (by decide) n with ⟨h4n1, en1⟩ | ⟨h4n1, h6n1, en1⟩ | ⟨n1, hn1, rfl, en1⟩
    · skip
      refine AW.run 2 [] (2, [(0, .inr (.inr (5, 0, 0))), (1, .inl (nI a)), (2, .inl (nI b)), (3, .inl n)], [.inl (nI a), .inr (.inr (5, 0, 0))], σ) [] rfl ?_ ?_
      · exact trivial
      refine AW.callVI (d' := 0) [.inl (nI a)] [] ⟨_, rfl⟩ f_6_isBottle v_6_isBottle l_6_105 ⟨rfl, by decide⟩ rfl (Nat.le_of_ble_eq_true rfl) rfl (Nat.le_of_ble_eq_true rfl) (c6_isBottle1 (Sn F.1) σ e7 hn8 a ha) ?_
      rintro _ _ ⟨rfl, rfl⟩
      refine AW.run 3 [false] (10, [(0, .inr (.inr (5, 0, 0))), (1, .inl (nI a)), (2, .inl (nI b)), (3, .inl n)], [.inl (nI b), .inr (.inr (5, 0, 0))], σ) [¬ icP .eq (1 : Int32) 0] rfl ?_ ?_
      · exact allP1 (by decide : ¬ ((1 : Int32) = 0))
      refine AW.callVI (d' := 0) [.inl (nI b)] [] ⟨_, rfl⟩ f_6_isBottle v_6_isBottle l_6_105 ⟨rfl, by decide⟩ rfl (Nat.le_of_ble_eq_true rfl) rfl (Nat.le_of_ble_eq_true rfl) (c6_isBottle1 (Sn F.1) σ e7 hn8 b hb) ?_
      rintro _ _ ⟨rfl, rfl⟩
      refine AW.run 5 [false, true] (26, [(0, .inr (.inr (5, 0, 0))), (1, .inl (nI a)), (2, .inl (nI b)), (3, .inl n)], [.inl n], σ) [¬ icP .eq (1 : Int32) 0, icP .ne (nI a) (nI b)] rfl ?_ ?_
      · exact ⟨(by decide : ¬ ((1 : Int32) = 0)), allP1 (fun q => hne (nI_lit q (by omega) (by omega)))⟩
      refine AW.callSI (d' := 1) [.inl n] [] ⟨_, rfl⟩ f_6_notDays s_6_notDays l_6_209 rfl (Nat.le_of_ble_eq_true rfl) rfl (Nat.le_of_ble_eq_true rfl) (c6_notDays4 n h4n1 σ) ?_
      rintro _ _ ⟨rfl, rfl⟩
      refine AW.run 5 [false] (39, [(4, .inl (-4)), (0, .inr (.inr (5, 0, 0))), (1, .inl (nI a)), (2, .inl (nI b)), (3, .inl n)], [.inl (-4), .inr (.inr (5, 0, 0))], σ) [¬ icP .eq ((-4) : Int32) 0] rfl ?_ ?_
      · exact allP1 (by decide : ¬ (((-4) : Int32) = 0))
      refine AW.callVI (d' := 0) [.inl (-4)] [] ⟨_, rfl⟩ f_6_lower v_6_lower l_6_293 ⟨rfl, by decide⟩ rfl (Nat.le_of_ble_eq_true rfl) rfl (Nat.le_of_ble_eq_true rfl) (c6_lower4 σ) ?_
      rintro _ _ ⟨rfl, rfl⟩
      refine AW.reti ⟨_, rfl⟩ rfl ?_
      exact ⟨rfuF F 4, (by unfold easedP; rw [hpr]; dsimp only; rw [en1]; rfl), RepD_ref hF hD (by decide) (by decide)⟩
    · skip
      refine AW.run 2 [] (2, [(0, .inr (.inr (5, 0, 0))), (1, .inl (nI a)), (2, .inl (nI b)), (3, .inl n)], [.inl (nI a), .inr (.inr (5, 0, 0))], σ) [] rfl ?_ ?_
      · exact trivial
      refine AW.callVI (d' := 0) [.inl (nI a)] [] ⟨_, rfl⟩ f_6_isBottle v_6_isBottle l_6_105 ⟨rfl, by decide⟩ rfl (Nat.le_of_ble_eq_true rfl) rfl (Nat.le_of_ble_eq_true rfl) (c6_isBottle1 (Sn F.1) σ e7 hn8 a ha) ?_
      rintro _ _ ⟨rfl, rfl⟩
      refine AW.run 3 [false] (10, [(0, .inr (.inr (5, 0, 0))), (1, .inl (nI a)), (2, .inl (nI b)), (3, .inl n)], [.inl (nI b), .inr (.inr (5, 0, 0))], σ) [¬ icP .eq (1 : Int32) 0] rfl ?_ ?_
      · exact allP1 (by decide : ¬ ((1 : Int32) = 0))
      refine AW.callVI (d' := 0) [.inl (nI b)] [] ⟨_, rfl⟩ f_6_isBottle v_6_isBottle l_6_105 ⟨rfl, by decide⟩ rfl (Nat.le_of_ble_eq_true rfl) rfl (Nat.le_of_ble_eq_true rfl) (c6_isBottle1 (Sn F.1) σ e7 hn8 b hb) ?_
      rintro _ _ ⟨rfl, rfl⟩
      refine AW.run 5 [false, true] (26, [(0, .inr (.inr (5, 0, 0))), (1, .inl (nI a)), (2, .inl (nI b)), (3, .inl n)], [.inl n], σ) [¬ icP .eq (1 : Int32) 0, icP .ne (nI a) (nI b)] rfl ?_ ?_
      · exact ⟨(by decide : ¬ ((1 : Int32) = 0)), allP1 (fun q => hne (nI_lit q (by omega) (by omega)))⟩
      refine AW.callSI (d' := 1) [.inl n] [] ⟨_, rfl⟩ f_6_notDays s_6_notDays l_6_209 rfl (Nat.le_of_ble_eq_true rfl) rfl (Nat.le_of_ble_eq_true rfl) (c6_notDays6 n h4n1 h6n1 σ) ?_
      rintro _ _ ⟨rfl, rfl⟩
      refine AW.run 5 [false] (39, [(4, .inl (-6)), (0, .inr (.inr (5, 0, 0))), (1, .inl (nI a)), (2, .inl (nI b)), (3, .inl n)], [.inl (-6), .inr (.inr (5, 0, 0))], σ) [¬ icP .eq ((-6) : Int32) 0] rfl ?_ ?_
      · exact allP1 (by decide : ¬ (((-6) : Int32) = 0))
      refine AW.callVI (d' := 0) [.inl (-6)] [] ⟨_, rfl⟩ f_6_lower v_6_lower l_6_293 ⟨rfl, by decide⟩ rfl (Nat.le_of_ble_eq_true rfl) rfl (Nat.le_of_ble_eq_true rfl) (c6_lower6 σ) ?_
      rintro _ _ ⟨rfl, rfl⟩
      refine AW.reti ⟨_, rfl⟩ rfl ?_
      exact ⟨rfuF F 6, (by unfold easedP; rw [hpr]; dsimp only; rw [en1]; rfl), RepD_ref hF hD (by decide) (by decide)⟩
    · skip
      have nln1 : ¬ nI n1 < 0 := nlt0 (by omega)
      have nmn1 : ¬ nI 60 < nI n1 := nI_nlt hn1 (by decide)
      refine AW.run 2 [] (2, [(0, .inr (.inr (5, 0, 0))), (1, .inl (nI a)), (2, .inl (nI b)), (3, .inl (nI n1))], [.inl (nI a), .inr (.inr (5, 0, 0))], σ) [] rfl ?_ ?_
      · exact trivial
      refine AW.callVI (d' := 0) [.inl (nI a)] [] ⟨_, rfl⟩ f_6_isBottle v_6_isBottle l_6_105 ⟨rfl, by decide⟩ rfl (Nat.le_of_ble_eq_true rfl) rfl (Nat.le_of_ble_eq_true rfl) (c6_isBottle1 (Sn F.1) σ e7 hn8 a ha) ?_
      rintro _ _ ⟨rfl, rfl⟩
      refine AW.run 3 [false] (10, [(0, .inr (.inr (5, 0, 0))), (1, .inl (nI a)), (2, .inl (nI b)), (3, .inl (nI n1))], [.inl (nI b), .inr (.inr (5, 0, 0))], σ) [¬ icP .eq (1 : Int32) 0] rfl ?_ ?_
      · exact allP1 (by decide : ¬ ((1 : Int32) = 0))
      refine AW.callVI (d' := 0) [.inl (nI b)] [] ⟨_, rfl⟩ f_6_isBottle v_6_isBottle l_6_105 ⟨rfl, by decide⟩ rfl (Nat.le_of_ble_eq_true rfl) rfl (Nat.le_of_ble_eq_true rfl) (c6_isBottle1 (Sn F.1) σ e7 hn8 b hb) ?_
      rintro _ _ ⟨rfl, rfl⟩
      refine AW.run 5 [false, true] (26, [(0, .inr (.inr (5, 0, 0))), (1, .inl (nI a)), (2, .inl (nI b)), (3, .inl (nI n1))], [.inl (nI n1)], σ) [¬ icP .eq (1 : Int32) 0, icP .ne (nI a) (nI b)] rfl ?_ ?_
      · exact ⟨(by decide : ¬ ((1 : Int32) = 0)), allP1 (fun q => hne (nI_lit q (by omega) (by omega)))⟩
      refine AW.callSI (d' := 1) [.inl (nI n1)] [] ⟨_, rfl⟩ f_6_notDays s_6_notDays l_6_209 rfl (Nat.le_of_ble_eq_true rfl) rfl (Nat.le_of_ble_eq_true rfl) (c6_notDays0 (nI n1) nln1 nmn1 σ) ?_
      rintro _ _ ⟨rfl, rfl⟩
      refine AW.run 6 [true] (46, [(4, .inl 0), (0, .inr (.inr (5, 0, 0))), (1, .inl (nI a)), (2, .inl (nI b)), (3, .inl (nI n1))], [.inl (nI n1), .inl (nI a), .inr (.inr (5, 0, 0))], σ) [icP .eq (0 : Int32) 0] rfl ?_ ?_
      · exact allP1 (by decide : ((0 : Int32) = 0))
      refine AW.callVI (d' := 6) [.inl (nI a), .inl (nI n1)] [] ⟨_, rfl⟩ f_6_pressBehind v_6_pressBehind l_6_212 ⟨rfl, by decide⟩ rfl (Nat.le_of_ble_eq_true rfl) rfl (Nat.le_of_ble_eq_true rfl) (c6_pressBehind F.1 σ hR hO a n1 ha (by omega)) ?_
      rintro _ τ145 ⟨rfl, f145, r145⟩
      refine AW.run 5 [] (57, [(5, .inl (nI (Sq (passS n1 F.1) a))), (4, .inl 0), (0, .inr (.inr (5, 0, 0))), (1, .inl (nI a)), (2, .inl (nI b)), (3, .inl (nI n1))], [.inl (τ145 5 0 6 (nI b).toNatClampNeg)], τ145) [vp_in (nI b) 8] rfl ?_ ?_
      · exact allP1 (by first | assumption | exact in8 (by omega))
      rw [cl8 (k := b) hb8, (r145.2 b hb).2.2.2.2.1]
      refine AW.run 6 [] (66, [(6, .inl (if Sw F.1 b = true then 0 else 1)), (5, .inl (nI (Sq (passS n1 F.1) a))), (4, .inl 0), (0, .inr (.inr (5, 0, 0))), (1, .inl (nI a)), (2, .inl (nI b)), (3, .inl (nI n1))], [], (setM τ145 5 0 6 (nI b).toNatClampNeg 1)) [vp_in (nI b) 8] rfl ?_ ?_
      · exact allP1 (by first | assumption | exact in8 (by omega))
      rw [cl8 (k := b) hb8]
      obtain ⟨τ146, e146⟩ : ∃ x, x = setM τ145 5 0 6 b 1 := ⟨_, rfl⟩
      rw [← e146]
      have r146 : RepM (τ146 5 0) (withW F.1 (fu (Sw F.1) b false)) := by rw [e146]; exact (repM_w (b := false) r145)
      have f146 : Fr P1 τ145 τ146 := by rw [e146]; exact fr_set fr_rfl (by unfold P1; omega)
      refine AW.run 4 [] (71, [(6, .inl (if Sw F.1 b = true then 0 else 1)), (5, .inl (nI (Sq (passS n1 F.1) a))), (4, .inl 0), (0, .inr (.inr (5, 0, 0))), (1, .inl (nI a)), (2, .inl (nI b)), (3, .inl (nI n1))], [.inl (nI n1), .inl (nI a), .inr (.inr (5, 0, 0)), .inl (nI (Sq (passS n1 F.1) a))], τ146) [] rfl ?_ ?_
      · exact trivial
      refine AW.callVI (d' := 6) [.inl (nI a), .inl (nI n1)] [.inl (nI (Sq (passS n1 F.1) a))] ⟨_, rfl⟩ f_6_pressBehind v_6_pressBehind l_6_212 ⟨rfl, by decide⟩ rfl (Nat.le_of_ble_eq_true rfl) rfl (Nat.le_of_ble_eq_true rfl) (c6_pressBehind (withW F.1 (fu (Sw F.1) b false)) τ146 r146 (SOK_w hO) a n1 ha (by omega)) ?_
      rintro _ τ147 ⟨rfl, f147, r147⟩
      refine AW.run 7 [] (85, [(5, .inl ((nI (Sq (passS n1 F.1) a)) - (nI (Sq (passS n1 (withW F.1 (fu (Sw F.1) b false))) a)))), (6, .inl (if Sw F.1 b = true then 0 else 1)), (4, .inl 0), (0, .inr (.inr (5, 0, 0))), (1, .inl (nI a)), (2, .inl (nI b)), (3, .inl (nI n1))], [], (setM τ147 5 0 6 (nI b).toNatClampNeg (if Sw F.1 b = true then 0 else 1))) [vp_in (nI b) 8] rfl ?_ ?_
      · exact allP1 (by first | assumption | exact in8 (by omega))
      rw [cl8 (k := b) hb8]
      obtain ⟨τ148, e148⟩ : ∃ x, x = setM τ147 5 0 6 b (if Sw F.1 b = true then 0 else 1) := ⟨_, rfl⟩
      rw [← e148]
      have r148 : RepM (τ148 5 0) F.1 := by rw [e148]; exact (repM_wb r147)
      have f148 : Fr P1 τ147 τ148 := by rw [e148]; exact fr_set fr_rfl (by unfold P1; omega)
      refine AW.run 1 [] (87, [(5, .inl ((nI (Sq (passS n1 F.1) a)) - (nI (Sq (passS n1 (withW F.1 (fu (Sw F.1) b false))) a)))), (6, .inl (if Sw F.1 b = true then 0 else 1)), (4, .inl 0), (0, .inr (.inr (5, 0, 0))), (1, .inl (nI a)), (2, .inl (nI b)), (3, .inl (nI n1))], [.inl ((nI (Sq (passS n1 F.1) a)) - (nI (Sq (passS n1 (withW F.1 (fu (Sw F.1) b false))) a)))], τ148) [] rfl ?_ ?_
      · exact trivial
      refine AW.reti ⟨_, rfl⟩ rfl ?_
      exact ⟨F, (by unfold easedP; rw [hpr]; dsimp only; rw [en1]; show (nI (Sq (passS (nI n1).toNatClampNeg F.1) a) - nI (Sq (passS (nI n1).toNatClampNeg (withW F.1 (fu (Sw F.1) b false))) a), F) = _; rw [nI_clamp (by omega)]), QD_fr hF (fr_trans (fr_trans (fr_trans (fr_trans fr_rfl f145) (fr_12 f146)) f147) (fr_12 f148)) hD r148⟩
  · rcases hno with hx | ⟨⟨k, hk, rfl⟩, hy⟩ | ⟨⟨k, hk, rfl⟩, -, rfl⟩
    · skip
      refine AW.run 2 [] (2, [(0, .inr (.inr (5, 0, 0))), (1, .inl x), (2, .inl y), (3, .inl n)], [.inl x, .inr (.inr (5, 0, 0))], σ) [] rfl ?_ ?_
      · exact trivial
      refine AW.callVI (d' := 0) [.inl x] [] ⟨_, rfl⟩ f_6_isBottle v_6_isBottle l_6_105 ⟨rfl, by decide⟩ rfl (Nat.le_of_ble_eq_true rfl) rfl (Nat.le_of_ble_eq_true rfl) (c6_isBottle0 (Sn F.1) σ e7 hn8 x hx) ?_
      rintro _ _ ⟨rfl, rfl⟩
      refine AW.run 8 [true, false] (39, [(4, .inl (-1)), (0, .inr (.inr (5, 0, 0))), (1, .inl x), (2, .inl y), (3, .inl n)], [.inl (-1), .inr (.inr (5, 0, 0))], σ) [icP .eq (0 : Int32) 0, ¬ icP .eq ((-1) : Int32) 0] rfl ?_ ?_
      · exact ⟨(by decide : ((0 : Int32) = 0)), allP1 (by decide : ¬ (((-1) : Int32) = 0))⟩
      refine AW.callVI (d' := 0) [.inl (-1)] [] ⟨_, rfl⟩ f_6_lower v_6_lower l_6_293 ⟨rfl, by decide⟩ rfl (Nat.le_of_ble_eq_true rfl) rfl (Nat.le_of_ble_eq_true rfl) (c6_lower1 σ) ?_
      rintro _ _ ⟨rfl, rfl⟩
      refine AW.reti ⟨_, rfl⟩ rfl ?_
      exact ⟨rfuF F 1, (by unfold easedP; rw [hpr]; rfl), RepD_ref hF hD (by decide) (by decide)⟩
    · skip
      refine AW.run 2 [] (2, [(0, .inr (.inr (5, 0, 0))), (1, .inl (nI k)), (2, .inl y), (3, .inl n)], [.inl (nI k), .inr (.inr (5, 0, 0))], σ) [] rfl ?_ ?_
      · exact trivial
      refine AW.callVI (d' := 0) [.inl (nI k)] [] ⟨_, rfl⟩ f_6_isBottle v_6_isBottle l_6_105 ⟨rfl, by decide⟩ rfl (Nat.le_of_ble_eq_true rfl) rfl (Nat.le_of_ble_eq_true rfl) (c6_isBottle1 (Sn F.1) σ e7 hn8 k hk) ?_
      rintro _ _ ⟨rfl, rfl⟩
      refine AW.run 3 [false] (10, [(0, .inr (.inr (5, 0, 0))), (1, .inl (nI k)), (2, .inl y), (3, .inl n)], [.inl y, .inr (.inr (5, 0, 0))], σ) [¬ icP .eq (1 : Int32) 0] rfl ?_ ?_
      · exact allP1 (by decide : ¬ ((1 : Int32) = 0))
      refine AW.callVI (d' := 0) [.inl y] [] ⟨_, rfl⟩ f_6_isBottle v_6_isBottle l_6_105 ⟨rfl, by decide⟩ rfl (Nat.le_of_ble_eq_true rfl) rfl (Nat.le_of_ble_eq_true rfl) (c6_isBottle0 (Sn F.1) σ e7 hn8 y hy) ?_
      rintro _ _ ⟨rfl, rfl⟩
      refine AW.run 8 [true, false] (39, [(4, .inl (-1)), (0, .inr (.inr (5, 0, 0))), (1, .inl (nI k)), (2, .inl y), (3, .inl n)], [.inl (-1), .inr (.inr (5, 0, 0))], σ) [icP .eq (0 : Int32) 0, ¬ icP .eq ((-1) : Int32) 0] rfl ?_ ?_
      · exact ⟨(by decide : ((0 : Int32) = 0)), allP1 (by decide : ¬ (((-1) : Int32) = 0))⟩
      refine AW.callVI (d' := 0) [.inl (-1)] [] ⟨_, rfl⟩ f_6_lower v_6_lower l_6_293 ⟨rfl, by decide⟩ rfl (Nat.le_of_ble_eq_true rfl) rfl (Nat.le_of_ble_eq_true rfl) (c6_lower1 σ) ?_
      rintro _ _ ⟨rfl, rfl⟩
      refine AW.reti ⟨_, rfl⟩ rfl ?_
      exact ⟨rfuF F 1, (by unfold easedP; rw [hpr]; rfl), RepD_ref hF hD (by decide) (by decide)⟩
    · skip
      refine AW.run 2 [] (2, [(0, .inr (.inr (5, 0, 0))), (1, .inl (nI k)), (2, .inl (nI k)), (3, .inl n)], [.inl (nI k), .inr (.inr (5, 0, 0))], σ) [] rfl ?_ ?_
      · exact trivial
      refine AW.callVI (d' := 0) [.inl (nI k)] [] ⟨_, rfl⟩ f_6_isBottle v_6_isBottle l_6_105 ⟨rfl, by decide⟩ rfl (Nat.le_of_ble_eq_true rfl) rfl (Nat.le_of_ble_eq_true rfl) (c6_isBottle1 (Sn F.1) σ e7 hn8 k hk) ?_
      rintro _ _ ⟨rfl, rfl⟩
      refine AW.run 3 [false] (10, [(0, .inr (.inr (5, 0, 0))), (1, .inl (nI k)), (2, .inl (nI k)), (3, .inl n)], [.inl (nI k), .inr (.inr (5, 0, 0))], σ) [¬ icP .eq (1 : Int32) 0] rfl ?_ ?_
      · exact allP1 (by decide : ¬ ((1 : Int32) = 0))
      refine AW.callVI (d' := 0) [.inl (nI k)] [] ⟨_, rfl⟩ f_6_isBottle v_6_isBottle l_6_105 ⟨rfl, by decide⟩ rfl (Nat.le_of_ble_eq_true rfl) rfl (Nat.le_of_ble_eq_true rfl) (c6_isBottle1 (Sn F.1) σ e7 hn8 k hk) ?_
      rintro _ _ ⟨rfl, rfl⟩
      refine AW.run 11 [false, false, false] (39, [(4, .inl (-1)), (0, .inr (.inr (5, 0, 0))), (1, .inl (nI k)), (2, .inl (nI k)), (3, .inl n)], [.inl (-1), .inr (.inr (5, 0, 0))], σ) [¬ icP .eq (1 : Int32) 0, ¬ icP .ne (nI k) (nI k), ¬ icP .eq ((-1) : Int32) 0] rfl ?_ ?_
      · exact ⟨(by decide : ¬ ((1 : Int32) = 0)), (fun q => q rfl), allP1 (by decide : ¬ (((-1) : Int32) = 0))⟩
      refine AW.callVI (d' := 0) [.inl (-1)] [] ⟨_, rfl⟩ f_6_lower v_6_lower l_6_293 ⟨rfl, by decide⟩ rfl (Nat.le_of_ble_eq_true rfl) rfl (Nat.le_of_ble_eq_true rfl) (c6_lower1 σ) ?_
      rintro _ _ ⟨rfl, rfl⟩
      refine AW.reti ⟨_, rfl⟩ rfl ?_
      exact ⟨rfuF F 1, (by unfold easedP; rw [hpr]; rfl), RepD_ref hF hD (by decide) (by decide)⟩
