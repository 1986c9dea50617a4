/-! THE MODEL'S QUESTIONS -/
theorem spare_g {b p : Nat} (h : p ≤ b) (hb : b ≤ 99) : nI b - nI p = nI (b - p) := by
  have h9 : ∀ b < 100, ∀ p < 100, p ≤ b → nI b - nI p = nI (b - p) := by decide +kernel
  exact h9 b (by omega) p (by omega) h
theorem sub_w {S : Sv} {k : Nat} : (1 : Int32) - (if Sw S k = true then 0 else 1) = if Sw S k = true then 1 else 0 := by
  cases Sw S k <;> decide
theorem nI_nm1 {k : Nat} (h : k < 2 ^ 31) : ¬ nI k = (-1 : Int32) := fun e => by
  have := congrArg (fun x : Int32 => decide (x < 0)) e
  simp [nlt0 h] at this
theorem pb_gt {b : Nat} (hb : b ≤ 9) (m : Nat) (hm : m ≤ 9) : True := trivial

set_option maxHeartbeats 4000000 in
set_option maxRecDepth 100000 in
theorem d6_spare (F : Gv) (σ : St) (hD : RepD σ F) (hG : GOK F) (b : Int32) : Ct M6_spare 2 [.inr (.inr (5, 0, 0)), .inl b] σ (QD σ (spareP F b)) := by
  refine Ct.of f_6_spare (Nat.le_of_ble_eq_true rfl) ?_
  show AW M6_spare 2 _ (0, [(0, .inr (.inr (5, 0, 0))), (1, .inl b)], [], σ)
  have hF : FOK F := hG.1
  have hR : RepM (σ 5 0) F.1 := hD.1
  have hO : SOK F.1 := hF.1.1
  have hn8 : Sn F.1 ≤ 8 := hO.1
  have e7 := hR.1.1
  rcases bot_or (Sn F.1) b with ⟨k, hk, rfl⟩ | hnok
  · skip
    have h8k : k < 8 := by omega
    have hb9 := bear_le hO k
    have hq9 := (hO.2.1 k).2.2.2
    refine AW.run 2 [] (2, [(0, .inr (.inr (5, 0, 0))), (1, .inl (nI k))], [.inl (nI k), .inr (.inr (5, 0, 0))], σ) [] rfl ?_ ?_
    · exact trivial
    refine AW.callVI (d' := 0) [.inl (nI k)] [] ⟨_, rfl⟩ f_6_isBottle v_6_isBottle l_6_105 ⟨rfl, by decide⟩ rfl (Nat.le_of_ble_eq_true rfl) rfl (Nat.le_of_ble_eq_true rfl) (c6_isBottle1 (Sn F.1) σ e7 hn8 k hk) ?_
    rintro _ _ ⟨rfl, rfl⟩
    refine AW.run 3 [true] (16, [(0, .inr (.inr (5, 0, 0))), (1, .inl (nI k))], [.inl (nI k), .inr (.inr (5, 0, 0))], σ) [icP .ne (1 : Int32) 0] rfl ?_ ?_
    · exact allP1 (by decide : (¬ (1 : Int32) = 0))
    refine AW.callVI (d' := 0) [.inl (nI k)] [] ⟨_, rfl⟩ f_6_bears v_6_bears l_6_173 ⟨rfl, by decide⟩ rfl (Nat.le_of_ble_eq_true rfl) rfl (Nat.le_of_ble_eq_true rfl) (c6_bears F.1 σ hR hO k hk) ?_
    rintro _ _ ⟨rfl, rfl⟩
    refine AW.run 4 [] (25, [(0, .inr (.inr (5, 0, 0))), (1, .inl (nI k))], [.inl (σ 5 0 5 (nI k).toNatClampNeg), .inl (nI (bearS F.1 k))], σ) [vp_in (nI k) 8] rfl ?_ ?_
    · exact allP1 (by first | assumption | exact in8 (by omega))
    rw [cl8 (k := k) h8k, (hR.2 k hk).2.2.2.1]
    by_cases h25_1 : bearS F.1 k ≤ Sq F.1 k
    · skip
      refine AW.run 2 [true] (44, [(0, .inr (.inr (5, 0, 0))), (1, .inl (nI k))], [.inl 0], σ) [icP .le (nI (bearS F.1 k)) (nI (Sq F.1 k))] rfl ?_ ?_
      · exact allP1 (nI_le h25_1 (by omega))
      refine AW.reti ⟨_, rfl⟩ rfl ?_
      exact ⟨F, (by unfold spareP; rw [botP_some hk hn8]; rw [Nat.sub_eq_zero_of_le (by assumption)]; try rfl), QD_fr hF fr_rfl hD hR⟩
    · skip
      refine AW.run 3 [false] (30, [(0, .inr (.inr (5, 0, 0))), (1, .inl (nI k))], [.inl (nI k), .inr (.inr (5, 0, 0))], σ) [¬ icP .le (nI (bearS F.1 k)) (nI (Sq F.1 k))] rfl ?_ ?_
      · exact allP1 (nI_ge (by omega) (by omega))
      refine AW.callVI (d' := 0) [.inl (nI k)] [] ⟨_, rfl⟩ f_6_bears v_6_bears l_6_173 ⟨rfl, by decide⟩ rfl (Nat.le_of_ble_eq_true rfl) rfl (Nat.le_of_ble_eq_true rfl) (c6_bears F.1 σ hR hO k hk) ?_
      rintro _ _ ⟨rfl, rfl⟩
      refine AW.run 4 [] (39, [(0, .inr (.inr (5, 0, 0))), (1, .inl (nI k))], [.inl (σ 5 0 5 (nI k).toNatClampNeg), .inl (nI (bearS F.1 k))], σ) [vp_in (nI k) 8] rfl ?_ ?_
      · exact allP1 (by first | assumption | exact in8 (by omega))
      rw [cl8 (k := k) h8k, (hR.2 k hk).2.2.2.1]
      refine AW.run 1 [] (40, [(0, .inr (.inr (5, 0, 0))), (1, .inl (nI k))], [.inl ((nI (bearS F.1 k)) - (nI (Sq F.1 k)))], σ) [] rfl ?_ ?_
      · exact trivial
      rw [spare_g (by omega) (bear_le hO k)]
      refine AW.run 1 [] (44, [(0, .inr (.inr (5, 0, 0))), (1, .inl (nI k))], [.inl (nI (bearS F.1 k - Sq F.1 k))], σ) [] rfl ?_ ?_
      · exact trivial
      refine AW.reti ⟨_, rfl⟩ rfl ?_
      exact ⟨F, (by unfold spareP; rw [botP_some hk hn8]; try rfl), QD_fr hF fr_rfl hD hR⟩
  · skip
    refine AW.run 2 [] (2, [(0, .inr (.inr (5, 0, 0))), (1, .inl b)], [.inl b, .inr (.inr (5, 0, 0))], σ) [] rfl ?_ ?_
    · exact trivial
    refine AW.callVI (d' := 0) [.inl b] [] ⟨_, rfl⟩ f_6_isBottle v_6_isBottle l_6_105 ⟨rfl, by decide⟩ rfl (Nat.le_of_ble_eq_true rfl) rfl (Nat.le_of_ble_eq_true rfl) (c6_isBottle0 (Sn F.1) σ e7 hn8 b hnok) ?_
    rintro _ _ ⟨rfl, rfl⟩
    refine AW.run 3 [false] (10, [(0, .inr (.inr (5, 0, 0))), (1, .inl b)], [.inl (-1), .inr (.inr (5, 0, 0))], σ) [¬ icP .ne (0 : Int32) 0] rfl ?_ ?_
    · exact allP1 (by decide : ¬ (¬ (0 : Int32) = 0))
    refine AW.callVI (d' := 0) [.inl (-1)] [] ⟨_, rfl⟩ f_6_no v_6_no l_6_69 ⟨rfl, by decide⟩ rfl (Nat.le_of_ble_eq_true rfl) rfl (Nat.le_of_ble_eq_true rfl) (c6_no1 σ) ?_
    rintro _ _ ⟨rfl, rfl⟩
    refine AW.reti ⟨_, rfl⟩ rfl ?_
    exact ⟨rfuF F 1, (by unfold spareP; rw [botP_none hnok]; try rfl), RepD_ref hF hD (by decide) (by decide)⟩
set_option maxHeartbeats 4000000 in
set_option maxRecDepth 100000 in
theorem d6_goes (F : Gv) (σ : St) (hD : RepD σ F) (hG : GOK F) (b : Int32) : Ct M6_goes 7 [.inr (.inr (5, 0, 0)), .inl b] σ (QD σ (goesP F b)) := by
  refine Ct.of f_6_goes (Nat.le_of_ble_eq_true rfl) ?_
  show AW M6_goes 7 _ (0, [(0, .inr (.inr (5, 0, 0))), (1, .inl b)], [], σ)
  have hF : FOK F := hG.1
  have hR : RepM (σ 5 0) F.1 := hD.1
  have hO : SOK F.1 := hF.1.1
  have hn8 : Sn F.1 ≤ 8 := hO.1
  have e7 := hR.1.1
  by_cases hb : b = -1
  · subst hb
    refine AW.run 6 [true, false] (24, [(0, .inr (.inr (5, 0, 0))), (1, .inl (-1))], [.inr (.inr (5, 0, 0))], σ) [icP .eq ((-1) : Int32) (-1), ¬ icP .ge ((-1) : Int32) 0] rfl ?_ ?_
    · exact ⟨(by decide : (((-1) : Int32) = (-1))), allP1 (by decide : ¬ ((0 : Int32) ≤ (-1)))⟩
    refine AW.callVI (d' := 6) [] [] ⟨_, rfl⟩ f_6_firstToGo v_6_firstToGo l_6_222 ⟨rfl, by decide⟩ rfl (Nat.le_of_ble_eq_true rfl) rfl (Nat.le_of_ble_eq_true rfl) (c6_firstToGo F.1 σ hR hO ) ?_
    rintro _ τ70 ⟨rfl, f70, r70⟩
    refine AW.run 1 [] (35, [(0, .inr (.inr (5, 0, 0))), (1, .inl (-1))], [.inl (optI (firstN F.1 60 F.1))], τ70) [] rfl ?_ ?_
    · exact trivial
    refine AW.reti ⟨_, rfl⟩ rfl ?_
    exact ⟨F, (by unfold goesP; rw [if_pos rfl]; try rfl), QD_fr hF (fr_trans fr_rfl f70) hD r70⟩
  · skip
    rcases bot_or (Sn F.1) b with ⟨k, hk, rfl⟩ | hnok
    · skip
      have h8k : k < 8 := by omega
      refine AW.run 5 [false] (7, [(0, .inr (.inr (5, 0, 0))), (1, .inl (nI k))], [.inl (nI k), .inr (.inr (5, 0, 0))], σ) [¬ icP .eq (nI k) (-1)] rfl ?_ ?_
      · exact allP1 (hb)
      refine AW.callVI (d' := 0) [.inl (nI k)] [] ⟨_, rfl⟩ f_6_isBottle v_6_isBottle l_6_105 ⟨rfl, by decide⟩ rfl (Nat.le_of_ble_eq_true rfl) rfl (Nat.le_of_ble_eq_true rfl) (c6_isBottle1 (Sn F.1) σ e7 hn8 k hk) ?_
      rintro _ _ ⟨rfl, rfl⟩
      refine AW.run 5 [true, true] (32, [(0, .inr (.inr (5, 0, 0))), (1, .inl (nI k))], [.inl (nI k), .inr (.inr (5, 0, 0))], σ) [icP .ne (1 : Int32) 0, icP .ge (nI k) 0] rfl ?_ ?_
      · exact ⟨(by decide : (¬ (1 : Int32) = 0)), allP1 (nI_pos' (by omega))⟩
      refine AW.callVI (d' := 5) [.inl (nI k)] [] ⟨_, rfl⟩ f_6_goesWhen v_6_goesWhen l_6_219 ⟨rfl, by decide⟩ rfl (Nat.le_of_ble_eq_true rfl) rfl (Nat.le_of_ble_eq_true rfl) (c6_goesWhen F.1 σ hR hO k hk) ?_
      rintro _ τ71 ⟨rfl, f71, r71⟩
      refine AW.reti ⟨_, rfl⟩ rfl ?_
      exact ⟨F, (by unfold goesP; rw [if_neg hb, botP_some hk hn8]; try rfl), QD_fr hF (fr_trans fr_rfl f71) hD r71⟩
    · skip
      refine AW.run 5 [false] (7, [(0, .inr (.inr (5, 0, 0))), (1, .inl b)], [.inl b, .inr (.inr (5, 0, 0))], σ) [¬ icP .eq b (-1)] rfl ?_ ?_
      · exact allP1 (hb)
      refine AW.callVI (d' := 0) [.inl b] [] ⟨_, rfl⟩ f_6_isBottle v_6_isBottle l_6_105 ⟨rfl, by decide⟩ rfl (Nat.le_of_ble_eq_true rfl) rfl (Nat.le_of_ble_eq_true rfl) (c6_isBottle0 (Sn F.1) σ e7 hn8 b hnok) ?_
      rintro _ _ ⟨rfl, rfl⟩
      refine AW.run 3 [false] (15, [(0, .inr (.inr (5, 0, 0))), (1, .inl b)], [.inl (-1), .inr (.inr (5, 0, 0))], σ) [¬ icP .ne (0 : Int32) 0] rfl ?_ ?_
      · exact allP1 (by decide : ¬ (¬ (0 : Int32) = 0))
      refine AW.callVI (d' := 0) [.inl (-1)] [] ⟨_, rfl⟩ f_6_no v_6_no l_6_69 ⟨rfl, by decide⟩ rfl (Nat.le_of_ble_eq_true rfl) rfl (Nat.le_of_ble_eq_true rfl) (c6_no1 σ) ?_
      rintro _ _ ⟨rfl, rfl⟩
      refine AW.reti ⟨_, rfl⟩ rfl ?_
      exact ⟨rfuF F 1, (by unfold goesP; rw [if_neg hb, botP_none hnok]; try rfl), RepD_ref hF hD (by decide) (by decide)⟩
set_option maxHeartbeats 4000000 in
set_option maxRecDepth 100000 in
theorem d6_then (F : Gv) (σ : St) (hD : RepD σ F) (hG : GOK F) (n : Int32) (w : Int32) : Ct M6_then 7 [.inr (.inr (5, 0, 0)), .inl n, .inl w] σ (QD σ (thenP F n w)) := by
  refine Ct.of f_6_then (Nat.le_of_ble_eq_true rfl) ?_
  show AW M6_then 7 _ (0, [(0, .inr (.inr (5, 0, 0))), (1, .inl n), (2, .inl w)], [], σ)
  have hF : FOK F := hG.1
  have hR : RepM (σ 5 0) F.1 := hD.1
  have hO : SOK F.1 := hF.1.1
  have hn8 : Sn F.1 ≤ 8 := hO.1
  have e7 := hR.1.1
  rcases fMax_or 60 (by decide) n with ⟨h4n1, en1⟩ | ⟨h4n1, h6n1, en1⟩ | ⟨n1, hn1, rfl, en1⟩
  · skip
    refine AW.run 1 [] (1, [(0, .inr (.inr (5, 0, 0))), (1, .inl n), (2, .inl w)], [.inl n], σ) [] rfl ?_ ?_
    · exact trivial
    refine AW.callSI (d' := 1) [.inl n] [] ⟨_, rfl⟩ f_6_notDays s_6_notDays l_6_209 rfl (Nat.le_of_ble_eq_true rfl) rfl (Nat.le_of_ble_eq_true rfl) (c6_notDays4 n h4n1 σ) ?_
    rintro _ _ ⟨rfl, rfl⟩
    refine AW.run 7 [true, false] (27, [(3, .inl (-4)), (0, .inr (.inr (5, 0, 0))), (1, .inl n), (2, .inl w)], [.inl (-4), .inr (.inr (5, 0, 0))], σ) [icP .ne ((-4) : Int32) 0, ¬ icP .eq ((-4) : Int32) 0] rfl ?_ ?_
    · exact ⟨(by decide : (¬ ((-4) : Int32) = 0)), allP1 (by decide : ¬ (((-4) : Int32) = 0))⟩
    refine AW.callVI (d' := 0) [.inl (-4)] [] ⟨_, rfl⟩ f_6_no v_6_no l_6_69 ⟨rfl, by decide⟩ rfl (Nat.le_of_ble_eq_true rfl) rfl (Nat.le_of_ble_eq_true rfl) (c6_no4 σ) ?_
    rintro _ _ ⟨rfl, rfl⟩
    refine AW.reti ⟨_, rfl⟩ rfl ?_
    exact ⟨rfuF F 4, (by unfold thenP; rw [maxP_e4 en1]; try rfl), RepD_ref hF hD (by decide) (by decide)⟩
  · skip
    refine AW.run 1 [] (1, [(0, .inr (.inr (5, 0, 0))), (1, .inl n), (2, .inl w)], [.inl n], σ) [] rfl ?_ ?_
    · exact trivial
    refine AW.callSI (d' := 1) [.inl n] [] ⟨_, rfl⟩ f_6_notDays s_6_notDays l_6_209 rfl (Nat.le_of_ble_eq_true rfl) rfl (Nat.le_of_ble_eq_true rfl) (c6_notDays6 n h4n1 h6n1 σ) ?_
    rintro _ _ ⟨rfl, rfl⟩
    refine AW.run 7 [true, false] (27, [(3, .inl (-6)), (0, .inr (.inr (5, 0, 0))), (1, .inl n), (2, .inl w)], [.inl (-6), .inr (.inr (5, 0, 0))], σ) [icP .ne ((-6) : Int32) 0, ¬ icP .eq ((-6) : Int32) 0] rfl ?_ ?_
    · exact ⟨(by decide : (¬ ((-6) : Int32) = 0)), allP1 (by decide : ¬ (((-6) : Int32) = 0))⟩
    refine AW.callVI (d' := 0) [.inl (-6)] [] ⟨_, rfl⟩ f_6_no v_6_no l_6_69 ⟨rfl, by decide⟩ rfl (Nat.le_of_ble_eq_true rfl) rfl (Nat.le_of_ble_eq_true rfl) (c6_no6 σ) ?_
    rintro _ _ ⟨rfl, rfl⟩
    refine AW.reti ⟨_, rfl⟩ rfl ?_
    exact ⟨rfuF F 6, (by unfold thenP; rw [maxP_e6 en1]; try rfl), RepD_ref hF hD (by decide) (by decide)⟩
  · skip
    have nln1 : ¬ nI n1 < 0 := nlt0 (by omega)
    have nmn1 : ¬ nI 60 < nI n1 := nI_nlt hn1 (by decide)
    by_cases hw0 : w = 0
    · subst hw0
      refine AW.run 1 [] (1, [(0, .inr (.inr (5, 0, 0))), (1, .inl (nI n1)), (2, .inl 0)], [.inl (nI n1)], σ) [] rfl ?_ ?_
      · exact trivial
      refine AW.callSI (d' := 1) [.inl (nI n1)] [] ⟨_, rfl⟩ f_6_notDays s_6_notDays l_6_209 rfl (Nat.le_of_ble_eq_true rfl) rfl (Nat.le_of_ble_eq_true rfl) (c6_notDays0 (nI n1) nln1 nmn1 σ) ?_
      rintro _ _ ⟨rfl, rfl⟩
      refine AW.run 6 [false] (12, [(3, .inl 0), (0, .inr (.inr (5, 0, 0))), (1, .inl (nI n1)), (2, .inl 0)], [.inl 2, .inl 0, .inl 0], σ) [¬ icP .ne (0 : Int32) 0] rfl ?_ ?_
      · exact allP1 (by decide : ¬ (¬ (0 : Int32) = 0))
      refine AW.callSI (d' := 0) [.inl 0, .inl 0, .inl 2] [] ⟨_, rfl⟩ f_6_isIn s_6_isIn l_6_80 rfl (Nat.le_of_ble_eq_true rfl) rfl (Nat.le_of_ble_eq_true rfl) (c6_isIn1 0 0 2 (by decide) (by decide) σ) ?_
      rintro _ _ ⟨rfl, rfl⟩
      refine AW.run 4 [true, true] (32, [(3, .inl 0), (0, .inr (.inr (5, 0, 0))), (1, .inl (nI n1)), (2, .inl 0)], [.inr (.inr (5, 0, 0))], σ) [icP .ne (1 : Int32) 0, icP .eq (0 : Int32) 0] rfl ?_ ?_
      · exact ⟨(by decide : (¬ (1 : Int32) = 0)), allP1 (by decide : ((0 : Int32) = 0))⟩
      refine AW.callVV (d' := 2) [] [] ⟨_, rfl⟩ f_6_thinks v_6_thinks l_6_203 ⟨rfl, by decide⟩ rfl (Nat.le_of_ble_eq_true rfl) rfl (Nat.le_of_ble_eq_true rfl) (c6_thinks F.1 σ hR hO.1) ?_
      rintro τ72 ⟨f72, r72, k72⟩
      refine AW.run 2 [] (37, [(3, .inl 0), (0, .inr (.inr (5, 0, 0))), (1, .inl (nI n1)), (2, .inl 0)], [.inl (nI n1), .inr (.inr (5, 0, 0))], τ72) [] rfl ?_ ?_
      · exact trivial
      refine AW.callVV (d' := 5) [.inl (nI n1)] [] ⟨_, rfl⟩ f_6_goesAll v_6_goesAll l_6_114 ⟨rfl, by decide⟩ rfl (Nat.le_of_ble_eq_true rfl) rfl (Nat.le_of_ble_eq_true rfl) (c6_goesAll F.1 τ72 r72 hO n1 (by omega)) ?_
      rintro τ73 ⟨f73, r73⟩
      refine AW.run 3 [false] (45, [(3, .inl 0), (0, .inr (.inr (5, 0, 0))), (1, .inl (nI n1)), (2, .inl 0)], [.inr (.inr (5, 0, 0))], τ73) [¬ icP .ne (0 : Int32) 0] rfl ?_ ?_
      · exact allP1 (by decide : ¬ (¬ (0 : Int32) = 0))
      refine AW.callVI (d' := 1) [] [] ⟨_, rfl⟩ f_6_whole v_6_whole l_6_197 ⟨rfl, by decide⟩ rfl (Nat.le_of_ble_eq_true rfl) rfl (Nat.le_of_ble_eq_true rfl) (c6_whole (passS n1 F.1) τ73 r73 (SOK_pass n1 hO)) ?_
      rintro _ _ ⟨rfl, rfl⟩
      refine AW.run 3 [] (73, [(4, .inl (bI (Sw (passS n1 F.1)))), (3, .inl 0), (0, .inr (.inr (5, 0, 0))), (1, .inl (nI n1)), (2, .inl 0)], [.inr (.inr (5, 0, 0))], τ73) [] rfl ?_ ?_
      · exact trivial
      refine AW.callVV (d' := 2) [] [] ⟨_, rfl⟩ f_6_forgets v_6_forgets l_6_206 ⟨rfl, by decide⟩ rfl (Nat.le_of_ble_eq_true rfl) rfl (Nat.le_of_ble_eq_true rfl) (c6_forgets F.1 τ73 (repK_fr hO.1 (fr_trans (fr_rfl (P := P1)) f73) (fun k _ _ q => by unfold P1 at q; omega) k72) hO.1) ?_
      rintro τ74 ⟨f74, r74⟩
      refine AW.run 1 [] (78, [(4, .inl (bI (Sw (passS n1 F.1)))), (3, .inl 0), (0, .inr (.inr (5, 0, 0))), (1, .inl (nI n1)), (2, .inl 0)], [.inl (bI (Sw (passS n1 F.1)))], τ74) [] rfl ?_ ?_
      · exact trivial
      refine AW.reti ⟨_, rfl⟩ rfl ?_
      exact ⟨F, (by unfold thenP; rw [maxP_e0 en1 (by omega), if_pos rfl]; try rfl), QD_fr hF (fr_trans (fr_trans (fr_trans fr_rfl f72) (fr_12 f73)) f74) hD r74⟩
    by_cases hw1 : w = 1
    · subst hw1
      refine AW.run 1 [] (1, [(0, .inr (.inr (5, 0, 0))), (1, .inl (nI n1)), (2, .inl 1)], [.inl (nI n1)], σ) [] rfl ?_ ?_
      · exact trivial
      refine AW.callSI (d' := 1) [.inl (nI n1)] [] ⟨_, rfl⟩ f_6_notDays s_6_notDays l_6_209 rfl (Nat.le_of_ble_eq_true rfl) rfl (Nat.le_of_ble_eq_true rfl) (c6_notDays0 (nI n1) nln1 nmn1 σ) ?_
      rintro _ _ ⟨rfl, rfl⟩
      refine AW.run 6 [false] (12, [(3, .inl 0), (0, .inr (.inr (5, 0, 0))), (1, .inl (nI n1)), (2, .inl 1)], [.inl 2, .inl 0, .inl 1], σ) [¬ icP .ne (0 : Int32) 0] rfl ?_ ?_
      · exact allP1 (by decide : ¬ (¬ (0 : Int32) = 0))
      refine AW.callSI (d' := 0) [.inl 1, .inl 0, .inl 2] [] ⟨_, rfl⟩ f_6_isIn s_6_isIn l_6_80 rfl (Nat.le_of_ble_eq_true rfl) rfl (Nat.le_of_ble_eq_true rfl) (c6_isIn1 1 0 2 (by decide) (by decide) σ) ?_
      rintro _ _ ⟨rfl, rfl⟩
      refine AW.run 4 [true, true] (32, [(3, .inl 0), (0, .inr (.inr (5, 0, 0))), (1, .inl (nI n1)), (2, .inl 1)], [.inr (.inr (5, 0, 0))], σ) [icP .ne (1 : Int32) 0, icP .eq (0 : Int32) 0] rfl ?_ ?_
      · exact ⟨(by decide : (¬ (1 : Int32) = 0)), allP1 (by decide : ((0 : Int32) = 0))⟩
      refine AW.callVV (d' := 2) [] [] ⟨_, rfl⟩ f_6_thinks v_6_thinks l_6_203 ⟨rfl, by decide⟩ rfl (Nat.le_of_ble_eq_true rfl) rfl (Nat.le_of_ble_eq_true rfl) (c6_thinks F.1 σ hR hO.1) ?_
      rintro τ75 ⟨f75, r75, k75⟩
      refine AW.run 2 [] (37, [(3, .inl 0), (0, .inr (.inr (5, 0, 0))), (1, .inl (nI n1)), (2, .inl 1)], [.inl (nI n1), .inr (.inr (5, 0, 0))], τ75) [] rfl ?_ ?_
      · exact trivial
      refine AW.callVV (d' := 5) [.inl (nI n1)] [] ⟨_, rfl⟩ f_6_goesAll v_6_goesAll l_6_114 ⟨rfl, by decide⟩ rfl (Nat.le_of_ble_eq_true rfl) rfl (Nat.le_of_ble_eq_true rfl) (c6_goesAll F.1 τ75 r75 hO n1 (by omega)) ?_
      rintro τ76 ⟨f76, r76⟩
      refine AW.run 6 [true, false] (57, [(3, .inl 0), (0, .inr (.inr (5, 0, 0))), (1, .inl (nI n1)), (2, .inl 1)], [.inr (.inr (5, 0, 0))], τ76) [icP .ne (1 : Int32) 0, ¬ icP .ne (1 : Int32) 1] rfl ?_ ?_
      · exact ⟨(by decide : (¬ (1 : Int32) = 0)), allP1 (by decide : ¬ (¬ (1 : Int32) = 1))⟩
      refine AW.callVI (d' := 1) [] [] ⟨_, rfl⟩ f_6_allPress v_6_allPress l_6_216 ⟨rfl, by decide⟩ rfl (Nat.le_of_ble_eq_true rfl) rfl (Nat.le_of_ble_eq_true rfl) (c6_allPress (passS n1 F.1) τ76 r76 (SOK_pass n1 hO)) ?_
      rintro _ _ ⟨rfl, rfl⟩
      refine AW.run 3 [] (73, [(4, .inl (nI (psum (passS n1 F.1) 8))), (3, .inl 0), (0, .inr (.inr (5, 0, 0))), (1, .inl (nI n1)), (2, .inl 1)], [.inr (.inr (5, 0, 0))], τ76) [] rfl ?_ ?_
      · exact trivial
      refine AW.callVV (d' := 2) [] [] ⟨_, rfl⟩ f_6_forgets v_6_forgets l_6_206 ⟨rfl, by decide⟩ rfl (Nat.le_of_ble_eq_true rfl) rfl (Nat.le_of_ble_eq_true rfl) (c6_forgets F.1 τ76 (repK_fr hO.1 (fr_trans (fr_rfl (P := P1)) f76) (fun k _ _ q => by unfold P1 at q; omega) k75) hO.1) ?_
      rintro τ77 ⟨f77, r77⟩
      refine AW.run 1 [] (78, [(4, .inl (nI (psum (passS n1 F.1) 8))), (3, .inl 0), (0, .inr (.inr (5, 0, 0))), (1, .inl (nI n1)), (2, .inl 1)], [.inl (nI (psum (passS n1 F.1) 8))], τ77) [] rfl ?_ ?_
      · exact trivial
      refine AW.reti ⟨_, rfl⟩ rfl ?_
      exact ⟨F, (by unfold thenP; rw [maxP_e0 en1 (by omega), if_neg (by decide : ¬ (1 : Int32) = 0), if_pos rfl]; try rfl), QD_fr hF (fr_trans (fr_trans (fr_trans fr_rfl f75) (fr_12 f76)) f77) hD r77⟩
    by_cases hw2 : w = 2
    · subst hw2
      refine AW.run 1 [] (1, [(0, .inr (.inr (5, 0, 0))), (1, .inl (nI n1)), (2, .inl 2)], [.inl (nI n1)], σ) [] rfl ?_ ?_
      · exact trivial
      refine AW.callSI (d' := 1) [.inl (nI n1)] [] ⟨_, rfl⟩ f_6_notDays s_6_notDays l_6_209 rfl (Nat.le_of_ble_eq_true rfl) rfl (Nat.le_of_ble_eq_true rfl) (c6_notDays0 (nI n1) nln1 nmn1 σ) ?_
      rintro _ _ ⟨rfl, rfl⟩
      refine AW.run 6 [false] (12, [(3, .inl 0), (0, .inr (.inr (5, 0, 0))), (1, .inl (nI n1)), (2, .inl 2)], [.inl 2, .inl 0, .inl 2], σ) [¬ icP .ne (0 : Int32) 0] rfl ?_ ?_
      · exact allP1 (by decide : ¬ (¬ (0 : Int32) = 0))
      refine AW.callSI (d' := 0) [.inl 2, .inl 0, .inl 2] [] ⟨_, rfl⟩ f_6_isIn s_6_isIn l_6_80 rfl (Nat.le_of_ble_eq_true rfl) rfl (Nat.le_of_ble_eq_true rfl) (c6_isIn1 2 0 2 (by decide) (by decide) σ) ?_
      rintro _ _ ⟨rfl, rfl⟩
      refine AW.run 4 [true, true] (32, [(3, .inl 0), (0, .inr (.inr (5, 0, 0))), (1, .inl (nI n1)), (2, .inl 2)], [.inr (.inr (5, 0, 0))], σ) [icP .ne (1 : Int32) 0, icP .eq (0 : Int32) 0] rfl ?_ ?_
      · exact ⟨(by decide : (¬ (1 : Int32) = 0)), allP1 (by decide : ((0 : Int32) = 0))⟩
      refine AW.callVV (d' := 2) [] [] ⟨_, rfl⟩ f_6_thinks v_6_thinks l_6_203 ⟨rfl, by decide⟩ rfl (Nat.le_of_ble_eq_true rfl) rfl (Nat.le_of_ble_eq_true rfl) (c6_thinks F.1 σ hR hO.1) ?_
      rintro τ78 ⟨f78, r78, k78⟩
      refine AW.run 2 [] (37, [(3, .inl 0), (0, .inr (.inr (5, 0, 0))), (1, .inl (nI n1)), (2, .inl 2)], [.inl (nI n1), .inr (.inr (5, 0, 0))], τ78) [] rfl ?_ ?_
      · exact trivial
      refine AW.callVV (d' := 5) [.inl (nI n1)] [] ⟨_, rfl⟩ f_6_goesAll v_6_goesAll l_6_114 ⟨rfl, by decide⟩ rfl (Nat.le_of_ble_eq_true rfl) rfl (Nat.le_of_ble_eq_true rfl) (c6_goesAll F.1 τ78 r78 hO n1 (by omega)) ?_
      rintro τ79 ⟨f79, r79⟩
      refine AW.run 6 [true, true] (64, [(3, .inl 0), (0, .inr (.inr (5, 0, 0))), (1, .inl (nI n1)), (2, .inl 2)], [.inr (.inr (5, 0, 0))], τ79) [icP .ne (2 : Int32) 0, icP .ne (2 : Int32) 1] rfl ?_ ?_
      · exact ⟨(by decide : (¬ (2 : Int32) = 0)), allP1 (by decide : (¬ (2 : Int32) = 1))⟩
      refine AW.callVI (d' := 1) [] [] ⟨_, rfl⟩ f_6_whole v_6_whole l_6_197 ⟨rfl, by decide⟩ rfl (Nat.le_of_ble_eq_true rfl) rfl (Nat.le_of_ble_eq_true rfl) (c6_whole (passS n1 F.1) τ79 r79 (SOK_pass n1 hO)) ?_
      rintro _ _ ⟨rfl, rfl⟩
      refine AW.callSI (d' := 0) [.inl (bI (Sw (passS n1 F.1)))] [] ⟨_, rfl⟩ f_6_bits s_6_bits l_6_200 rfl (Nat.le_of_ble_eq_true rfl) rfl (Nat.le_of_ble_eq_true rfl) (c6_bits (bI (Sw (passS n1 F.1))) τ79) ?_
      rintro _ _ ⟨rfl, rfl⟩
      rw [btV_bI]
      refine AW.run 2 [] (73, [(4, .inl (nI (cN (Sw (passS n1 F.1))))), (3, .inl 0), (0, .inr (.inr (5, 0, 0))), (1, .inl (nI n1)), (2, .inl 2)], [.inr (.inr (5, 0, 0))], τ79) [] rfl ?_ ?_
      · exact trivial
      refine AW.callVV (d' := 2) [] [] ⟨_, rfl⟩ f_6_forgets v_6_forgets l_6_206 ⟨rfl, by decide⟩ rfl (Nat.le_of_ble_eq_true rfl) rfl (Nat.le_of_ble_eq_true rfl) (c6_forgets F.1 τ79 (repK_fr hO.1 (fr_trans (fr_rfl (P := P1)) f79) (fun k _ _ q => by unfold P1 at q; omega) k78) hO.1) ?_
      rintro τ80 ⟨f80, r80⟩
      refine AW.run 1 [] (78, [(4, .inl (nI (cN (Sw (passS n1 F.1))))), (3, .inl 0), (0, .inr (.inr (5, 0, 0))), (1, .inl (nI n1)), (2, .inl 2)], [.inl (nI (cN (Sw (passS n1 F.1))))], τ80) [] rfl ?_ ?_
      · exact trivial
      refine AW.reti ⟨_, rfl⟩ rfl ?_
      exact ⟨F, (by unfold thenP; rw [maxP_e0 en1 (by omega), if_neg (by decide : ¬ (2 : Int32) = 0), if_neg (by decide : ¬ (2 : Int32) = 1), if_pos rfl]; try rfl), QD_fr hF (fr_trans (fr_trans (fr_trans fr_rfl f78) (fr_12 f79)) f80) hD r80⟩
    · skip
      refine AW.run 1 [] (1, [(0, .inr (.inr (5, 0, 0))), (1, .inl (nI n1)), (2, .inl w)], [.inl (nI n1)], σ) [] rfl ?_ ?_
      · exact trivial
      refine AW.callSI (d' := 1) [.inl (nI n1)] [] ⟨_, rfl⟩ f_6_notDays s_6_notDays l_6_209 rfl (Nat.le_of_ble_eq_true rfl) rfl (Nat.le_of_ble_eq_true rfl) (c6_notDays0 (nI n1) nln1 nmn1 σ) ?_
      rintro _ _ ⟨rfl, rfl⟩
      refine AW.run 6 [false] (12, [(3, .inl 0), (0, .inr (.inr (5, 0, 0))), (1, .inl (nI n1)), (2, .inl w)], [.inl 2, .inl 0, .inl w], σ) [¬ icP .ne (0 : Int32) 0] rfl ?_ ?_
      · exact allP1 (by decide : ¬ (¬ (0 : Int32) = 0))
      refine AW.callSI (d' := 0) [.inl w, .inl 0, .inl 2] [] ⟨_, rfl⟩ f_6_isIn s_6_isIn l_6_80 rfl (Nat.le_of_ble_eq_true rfl) rfl (Nat.le_of_ble_eq_true rfl) (c6_isIn0 w 0 2 (in_012 hw0 hw1 hw2) σ) ?_
      rintro _ _ ⟨rfl, rfl⟩
      refine AW.run 7 [false, false] (27, [(3, .inl (-2)), (0, .inr (.inr (5, 0, 0))), (1, .inl (nI n1)), (2, .inl w)], [.inl (-2), .inr (.inr (5, 0, 0))], σ) [¬ icP .ne (0 : Int32) 0, ¬ icP .eq ((-2) : Int32) 0] rfl ?_ ?_
      · exact ⟨(by decide : ¬ (¬ (0 : Int32) = 0)), allP1 (by decide : ¬ (((-2) : Int32) = 0))⟩
      refine AW.callVI (d' := 0) [.inl (-2)] [] ⟨_, rfl⟩ f_6_no v_6_no l_6_69 ⟨rfl, by decide⟩ rfl (Nat.le_of_ble_eq_true rfl) rfl (Nat.le_of_ble_eq_true rfl) (c6_no2 σ) ?_
      rintro _ _ ⟨rfl, rfl⟩
      refine AW.reti ⟨_, rfl⟩ rfl ?_
      exact ⟨rfuF F 2, (by unfold thenP; rw [maxP_e0 en1 (by omega), if_neg hw0, if_neg hw1, if_neg hw2]; try rfl), RepD_ref hF hD (by decide) (by decide)⟩
set_option maxHeartbeats 4000000 in
set_option maxRecDepth 100000 in
theorem d6_tightest (F : Gv) (σ : St) (hD : RepD σ F) (hG : GOK F) (w : Int32) : Ct M6_tightest 4 [.inr (.inr (5, 0, 0)), .inl w] σ (QD σ (tightestP F w)) := by
  refine Ct.of f_6_tightest (Nat.le_of_ble_eq_true rfl) ?_
  show AW M6_tightest 4 _ (0, [(0, .inr (.inr (5, 0, 0))), (1, .inl w)], [], σ)
  have hF : FOK F := hG.1
  have hR : RepM (σ 5 0) F.1 := hD.1
  have hO : SOK F.1 := hF.1.1
  have hn8 : Sn F.1 ≤ 8 := hO.1
  have e7 := hR.1.1
  by_cases hw0 : w = 0
  · subst hw0
    refine AW.run 3 [] (3, [(0, .inr (.inr (5, 0, 0))), (1, .inl 0)], [.inl 2, .inl 0, .inl 0], σ) [] rfl ?_ ?_
    · exact trivial
    refine AW.callSI (d' := 0) [.inl 0, .inl 0, .inl 2] [] ⟨_, rfl⟩ f_6_isIn s_6_isIn l_6_80 rfl (Nat.le_of_ble_eq_true rfl) rfl (Nat.le_of_ble_eq_true rfl) (c6_isIn1 0 0 2 (by decide) (by decide) σ) ?_
    rintro _ _ ⟨rfl, rfl⟩
    refine AW.run 4 [true, false] (21, [(0, .inr (.inr (5, 0, 0))), (1, .inl 0)], [.inr (.inr (5, 0, 0))], σ) [icP .ne (1 : Int32) 0, ¬ icP .ne (0 : Int32) 0] rfl ?_ ?_
    · exact ⟨(by decide : (¬ (1 : Int32) = 0)), allP1 (by decide : ¬ (¬ (0 : Int32) = 0))⟩
    refine AW.callVI (d' := 1) [] [] ⟨_, rfl⟩ f_6_tightestOne v_6_tightestOne l_6_278 ⟨rfl, by decide⟩ rfl (Nat.le_of_ble_eq_true rfl) rfl (Nat.le_of_ble_eq_true rfl) (c6_tightestOne F.1 σ hR hO ) ?_
    rintro _ _ ⟨rfl, rfl⟩
    refine AW.run 1 [] (51, [(0, .inr (.inr (5, 0, 0))), (1, .inl 0)], [.inl (optI (tightN F.1 8))], σ) [] rfl ?_ ?_
    · exact trivial
    refine AW.reti ⟨_, rfl⟩ rfl ?_
    exact ⟨F, (by unfold tightestP; rw [if_pos rfl]; try rfl), QD_fr hF fr_rfl hD hR⟩
  by_cases hw1 : w = 1
  · subst hw1
    refine AW.run 3 [] (3, [(0, .inr (.inr (5, 0, 0))), (1, .inl 1)], [.inl 2, .inl 0, .inl 1], σ) [] rfl ?_ ?_
    · exact trivial
    refine AW.callSI (d' := 0) [.inl 1, .inl 0, .inl 2] [] ⟨_, rfl⟩ f_6_isIn s_6_isIn l_6_80 rfl (Nat.le_of_ble_eq_true rfl) rfl (Nat.le_of_ble_eq_true rfl) (c6_isIn1 1 0 2 (by decide) (by decide) σ) ?_
    rintro _ _ ⟨rfl, rfl⟩
    refine AW.run 7 [true, true, false] (33, [(0, .inr (.inr (5, 0, 0))), (1, .inl 1)], [.inr (.inr (5, 0, 0))], σ) [icP .ne (1 : Int32) 0, icP .ne (1 : Int32) 0, ¬ icP .ne (1 : Int32) 1] rfl ?_ ?_
    · exact ⟨(by decide : (¬ (1 : Int32) = 0)), (by decide : (¬ (1 : Int32) = 0)), allP1 (by decide : ¬ (¬ (1 : Int32) = 1))⟩
    refine AW.callVI (d' := 2) [] [] ⟨_, rfl⟩ f_6_longestGap v_6_longestGap l_6_281 ⟨rfl, by decide⟩ rfl (Nat.le_of_ble_eq_true rfl) rfl (Nat.le_of_ble_eq_true rfl) (c6_longestGap F.1 σ hR hO ) ?_
    rintro _ _ ⟨rfl, rfl⟩
    refine AW.run 1 [] (51, [(0, .inr (.inr (5, 0, 0))), (1, .inl 1)], [.inl (nI (gapN F.1 15).1)], σ) [] rfl ?_ ?_
    · exact trivial
    refine AW.reti ⟨_, rfl⟩ rfl ?_
    exact ⟨F, (by unfold tightestP; rw [if_neg (by decide : ¬ (1 : Int32) = 0), if_pos rfl]; try rfl), QD_fr hF fr_rfl hD hR⟩
  by_cases hw2 : w = 2
  · subst hw2
    refine AW.run 3 [] (3, [(0, .inr (.inr (5, 0, 0))), (1, .inl 2)], [.inl 2, .inl 0, .inl 2], σ) [] rfl ?_ ?_
    · exact trivial
    refine AW.callSI (d' := 0) [.inl 2, .inl 0, .inl 2] [] ⟨_, rfl⟩ f_6_isIn s_6_isIn l_6_80 rfl (Nat.le_of_ble_eq_true rfl) rfl (Nat.le_of_ble_eq_true rfl) (c6_isIn1 2 0 2 (by decide) (by decide) σ) ?_
    rintro _ _ ⟨rfl, rfl⟩
    refine AW.run 8 [true, true, true] (43, [(0, .inr (.inr (5, 0, 0))), (1, .inl 2)], [.inl (σ 5 0 0 7)], σ) [icP .ne (1 : Int32) 0, icP .ne (2 : Int32) 0, icP .ne (2 : Int32) 1] rfl ?_ ?_
    · exact ⟨(by decide : (¬ (1 : Int32) = 0)), (by decide : (¬ (2 : Int32) = 0)), allP1 (by decide : (¬ (2 : Int32) = 1))⟩
    rw [e7]
    refine AW.run 1 [] (44, [(0, .inr (.inr (5, 0, 0))), (1, .inl 2)], [.inr (.inr (5, 0, 0)), .inl (nI (Sn F.1))], σ) [] rfl ?_ ?_
    · exact trivial
    refine AW.callVI (d' := 1) [] [.inl (nI (Sn F.1))] ⟨_, rfl⟩ f_6_whole v_6_whole l_6_197 ⟨rfl, by decide⟩ rfl (Nat.le_of_ble_eq_true rfl) rfl (Nat.le_of_ble_eq_true rfl) (c6_whole F.1 σ hR hO) ?_
    rintro _ _ ⟨rfl, rfl⟩
    refine AW.callSI (d' := 0) [.inl (bI (Sw F.1))] [.inl (nI (Sn F.1))] ⟨_, rfl⟩ f_6_bits s_6_bits l_6_200 rfl (Nat.le_of_ble_eq_true rfl) rfl (Nat.le_of_ble_eq_true rfl) (c6_bits (bI (Sw F.1)) σ) ?_
    rintro _ _ ⟨rfl, rfl⟩
    rw [btV_bI]
    refine AW.run 1 [] (51, [(0, .inr (.inr (5, 0, 0))), (1, .inl 2)], [.inl ((nI (Sn F.1)) - (nI (cN (Sw F.1))))], σ) [] rfl ?_ ?_
    · exact trivial
    refine AW.reti ⟨_, rfl⟩ rfl ?_
    exact ⟨F, (by unfold tightestP; rw [if_neg (by decide : ¬ (2 : Int32) = 0), if_neg (by decide : ¬ (2 : Int32) = 1), if_pos rfl]; try rfl), QD_fr hF fr_rfl hD hR⟩
  · skip
    refine AW.run 3 [] (3, [(0, .inr (.inr (5, 0, 0))), (1, .inl w)], [.inl 2, .inl 0, .inl w], σ) [] rfl ?_ ?_
    · exact trivial
    refine AW.callSI (d' := 0) [.inl w, .inl 0, .inl 2] [] ⟨_, rfl⟩ f_6_isIn s_6_isIn l_6_80 rfl (Nat.le_of_ble_eq_true rfl) rfl (Nat.le_of_ble_eq_true rfl) (c6_isIn0 w 0 2 (in_012 hw0 hw1 hw2) σ) ?_
    rintro _ _ ⟨rfl, rfl⟩
    refine AW.run 3 [false] (12, [(0, .inr (.inr (5, 0, 0))), (1, .inl w)], [.inl (-2), .inr (.inr (5, 0, 0))], σ) [¬ icP .ne (0 : Int32) 0] rfl ?_ ?_
    · exact allP1 (by decide : ¬ (¬ (0 : Int32) = 0))
    refine AW.callVI (d' := 0) [.inl (-2)] [] ⟨_, rfl⟩ f_6_no v_6_no l_6_69 ⟨rfl, by decide⟩ rfl (Nat.le_of_ble_eq_true rfl) rfl (Nat.le_of_ble_eq_true rfl) (c6_no2 σ) ?_
    rintro _ _ ⟨rfl, rfl⟩
    refine AW.reti ⟨_, rfl⟩ rfl ?_
    exact ⟨rfuF F 2, (by unfold tightestP; rw [if_neg hw0, if_neg hw1, if_neg hw2]; try rfl), RepD_ref hF hD (by decide) (by decide)⟩
set_option maxHeartbeats 4000000 in
set_option maxRecDepth 100000 in
theorem d6_pairs (F : Gv) (σ : St) (hD : RepD σ F) (hG : GOK F) (w : Int32) : Ct M6_pairs 9 [.inr (.inr (5, 0, 0)), .inl w] σ (QD σ (pairsP F w)) := by
  refine Ct.of f_6_pairs (Nat.le_of_ble_eq_true rfl) ?_
  show AW M6_pairs 9 _ (0, [(0, .inr (.inr (5, 0, 0))), (1, .inl w)], [], σ)
  have hF : FOK F := hG.1
  have hR : RepM (σ 5 0) F.1 := hD.1
  have hO : SOK F.1 := hF.1.1
  have hn8 : Sn F.1 ≤ 8 := hO.1
  have e7 := hR.1.1
  by_cases hw0 : w = 0
  · subst hw0
    refine AW.run 1 [] (1, [(0, .inr (.inr (5, 0, 0))), (1, .inl 0)], [.inl 0], σ) [] rfl ?_ ?_
    · exact trivial
    refine AW.tswIn (k := 0) (tgt := 32) ⟨_, rfl⟩ (by decide) (by decide) rfl (by decide) ?_
    refine AW.run 1 [] (33, [(0, .inr (.inr (5, 0, 0))), (1, .inl 0)], [.inr (.inr (5, 0, 0))], σ) [] rfl ?_ ?_
    · exact trivial
    refine AW.callVI (d' := 2) [] [] ⟨_, rfl⟩ f_6_nearTwos v_6_nearTwos l_6_284 ⟨rfl, by decide⟩ rfl (Nat.le_of_ble_eq_true rfl) rfl (Nat.le_of_ble_eq_true rfl) (c6_nearTwos F.1 σ hR hO ) ?_
    rintro _ _ ⟨rfl, rfl⟩
    refine AW.reti ⟨_, rfl⟩ rfl ?_
    exact ⟨F, (by unfold pairsP; rw [if_pos rfl]; try rfl), QD_fr hF fr_rfl hD hR⟩
  by_cases hw1 : w = 1
  · subst hw1
    refine AW.run 1 [] (1, [(0, .inr (.inr (5, 0, 0))), (1, .inl 1)], [.inl 1], σ) [] rfl ?_ ?_
    · exact trivial
    refine AW.tswIn (k := 1) (tgt := 37) ⟨_, rfl⟩ (by decide) (by decide) rfl (by decide) ?_
    refine AW.run 1 [] (38, [(0, .inr (.inr (5, 0, 0))), (1, .inl 1)], [.inr (.inr (5, 0, 0))], σ) [] rfl ?_ ?_
    · exact trivial
    refine AW.callVI (d' := 7) [] [] ⟨_, rfl⟩ f_6_calmest v_6_calmest l_6_287 ⟨rfl, by decide⟩ rfl (Nat.le_of_ble_eq_true rfl) rfl (Nat.le_of_ble_eq_true rfl) (c6_calmest F.1 σ hR hO ) ?_
    rintro _ τ81 ⟨rfl, f81, r81⟩
    refine AW.reti ⟨_, rfl⟩ rfl ?_
    exact ⟨F, (by unfold pairsP; rw [if_neg (by decide : ¬ (1 : Int32) = 0), if_pos rfl]; try rfl), QD_fr hF (fr_trans fr_rfl f81) hD r81⟩
  by_cases hw2 : w = 2
  · subst hw2
    refine AW.run 1 [] (1, [(0, .inr (.inr (5, 0, 0))), (1, .inl 2)], [.inl 2], σ) [] rfl ?_ ?_
    · exact trivial
    refine AW.tswIn (k := 2) (tgt := 42) ⟨_, rfl⟩ (by decide) (by decide) rfl (by decide) ?_
    refine AW.run 1 [] (43, [(0, .inr (.inr (5, 0, 0))), (1, .inl 2)], [.inr (.inr (5, 0, 0))], σ) [] rfl ?_ ?_
    · exact trivial
    refine AW.callVI (d' := 1) [] [] ⟨_, rfl⟩ f_6_whole v_6_whole l_6_197 ⟨rfl, by decide⟩ rfl (Nat.le_of_ble_eq_true rfl) rfl (Nat.le_of_ble_eq_true rfl) (c6_whole F.1 σ hR hO) ?_
    rintro _ _ ⟨rfl, rfl⟩
    refine AW.callSI (d' := 0) [.inl (bI (Sw F.1))] [] ⟨_, rfl⟩ f_6_bits s_6_bits l_6_200 rfl (Nat.le_of_ble_eq_true rfl) rfl (Nat.le_of_ble_eq_true rfl) (c6_bits (bI (Sw F.1)) σ) ?_
    rintro _ _ ⟨rfl, rfl⟩
    rw [btV_bI]
    refine AW.run 2 [] (51, [(0, .inr (.inr (5, 0, 0))), (1, .inl 2)], [.inl 1, .inr (.inr (5, 0, 0)), .inl (nI (cN (Sw F.1)))], σ) [] rfl ?_ ?_
    · exact trivial
    refine AW.callVI (d' := 6) [.inl 1] [.inl (nI (cN (Sw F.1)))] ⟨_, rfl⟩ f_6_leftIn v_6_leftIn l_6_228 ⟨rfl, by decide⟩ rfl (Nat.le_of_ble_eq_true rfl) rfl (Nat.le_of_ble_eq_true rfl) (c6_leftIn F.1 σ hR hO 1 (by omega)) ?_
    rintro _ τ82 ⟨rfl, f82, r82⟩
    refine AW.run 1 [] (55, [(0, .inr (.inr (5, 0, 0))), (1, .inl 2)], [.inl ((nI (cN (Sw F.1))) - (nI (leftS F.1 1)))], τ82) [] rfl ?_ ?_
    · exact trivial
    refine AW.reti ⟨_, rfl⟩ rfl ?_
    exact ⟨F, (by unfold pairsP; rw [if_neg (by decide : ¬ (2 : Int32) = 0), if_neg (by decide : ¬ (2 : Int32) = 1), if_pos rfl]; try rfl), QD_fr hF (fr_trans fr_rfl f82) hD r82⟩
  by_cases hw3 : w = 3
  · subst hw3
    refine AW.run 1 [] (1, [(0, .inr (.inr (5, 0, 0))), (1, .inl 3)], [.inl 3], σ) [] rfl ?_ ?_
    · exact trivial
    refine AW.tswIn (k := 3) (tgt := 56) ⟨_, rfl⟩ (by decide) (by decide) rfl (by decide) ?_
    refine AW.run 1 [] (57, [(0, .inr (.inr (5, 0, 0))), (1, .inl 3)], [.inr (.inr (5, 0, 0))], σ) [] rfl ?_ ?_
    · exact trivial
    refine AW.callVI (d' := 5) [] [] ⟨_, rfl⟩ f_6_endWhen v_6_endWhen l_6_290 ⟨rfl, by decide⟩ rfl (Nat.le_of_ble_eq_true rfl) rfl (Nat.le_of_ble_eq_true rfl) (c6_endWhen F.1 σ hR hO ) ?_
    rintro _ τ83 ⟨rfl, f83, r83⟩
    refine AW.reti ⟨_, rfl⟩ rfl ?_
    exact ⟨F, (by unfold pairsP; rw [if_neg (by decide : ¬ (3 : Int32) = 0), if_neg (by decide : ¬ (3 : Int32) = 1), if_neg (by decide : ¬ (3 : Int32) = 2), if_pos rfl]; try rfl), QD_fr hF (fr_trans fr_rfl f83) hD r83⟩
  · skip
    refine AW.run 1 [] (1, [(0, .inr (.inr (5, 0, 0))), (1, .inl w)], [.inl w], σ) [] rfl ?_ ?_
    · exact trivial
    have ehw0 := lv_neT (a := 0) hw0 rfl
    have ehw1 := lv_neT (a := 1) hw1 rfl
    have ehw2 := lv_neT (a := 2) hw2 rfl
    have ehw3 := lv_neT (a := 3) hw3 rfl
    refine AW.tswOut (tgt := 61) ⟨_, rfl⟩ (by omega) (by decide) ?_
    refine AW.run 2 [] (64, [(0, .inr (.inr (5, 0, 0))), (1, .inl w)], [.inl (-2), .inr (.inr (5, 0, 0))], σ) [] rfl ?_ ?_
    · exact trivial
    refine AW.callVI (d' := 0) [.inl (-2)] [] ⟨_, rfl⟩ f_6_no v_6_no l_6_69 ⟨rfl, by decide⟩ rfl (Nat.le_of_ble_eq_true rfl) rfl (Nat.le_of_ble_eq_true rfl) (c6_no2 σ) ?_
    rintro _ _ ⟨rfl, rfl⟩
    refine AW.reti ⟨_, rfl⟩ rfl ?_
    exact ⟨rfuF F 2, (by unfold pairsP; rw [if_neg hw0, if_neg hw1, if_neg hw2, if_neg hw3]; try rfl), RepD_ref hF hD (by decide) (by decide)⟩
set_option maxHeartbeats 4000000 in
set_option maxRecDepth 100000 in
theorem d6_bottleOf (F : Gv) (σ : St) (hD : RepD σ F) (hG : GOK F) (b : Int32) (w : Int32) : Ct M6_bottleOf 2 [.inr (.inr (5, 0, 0)), .inl b, .inl w] σ (QD σ (bottleOfP F b w)) := by
  refine Ct.of f_6_bottleOf (Nat.le_of_ble_eq_true rfl) ?_
  show AW M6_bottleOf 2 _ (0, [(0, .inr (.inr (5, 0, 0))), (1, .inl b), (2, .inl w)], [], σ)
  have hF : FOK F := hG.1
  have hR : RepM (σ 5 0) F.1 := hD.1
  have hO : SOK F.1 := hF.1.1
  have hn8 : Sn F.1 ≤ 8 := hO.1
  have e7 := hR.1.1
  rcases bot_or (Sn F.1) b with ⟨k, hk, rfl⟩ | hnok
  · skip
    have h8k : k < 8 := by omega
    by_cases hw0 : w = 0
    · subst hw0
      refine AW.run 2 [] (2, [(0, .inr (.inr (5, 0, 0))), (1, .inl (nI k)), (2, .inl 0)], [.inl (nI k), .inr (.inr (5, 0, 0))], σ) [] rfl ?_ ?_
      · exact trivial
      refine AW.callVI (d' := 0) [.inl (nI k)] [] ⟨_, rfl⟩ f_6_isBottle v_6_isBottle l_6_105 ⟨rfl, by decide⟩ rfl (Nat.le_of_ble_eq_true rfl) rfl (Nat.le_of_ble_eq_true rfl) (c6_isBottle1 (Sn F.1) σ e7 hn8 k hk) ?_
      rintro _ _ ⟨rfl, rfl⟩
      refine AW.run 2 [true] (15, [(0, .inr (.inr (5, 0, 0))), (1, .inl (nI k)), (2, .inl 0)], [.inl 0], σ) [icP .ne (1 : Int32) 0] rfl ?_ ?_
      · exact allP1 (by decide : (¬ (1 : Int32) = 0))
      refine AW.tswIn (k := 0) (tgt := 64) ⟨_, rfl⟩ (by decide) (by decide) rfl (by decide) ?_
      refine AW.run 4 [] (70, [(0, .inr (.inr (5, 0, 0))), (1, .inl (nI k)), (2, .inl 0)], [.inl (σ 5 0 2 (nI k).toNatClampNeg)], σ) [vp_in (nI k) 8] rfl ?_ ?_
      · exact allP1 (by first | assumption | exact in8 (by omega))
      rw [cl8 (k := k) h8k, (hR.2 k hk).1]
      refine AW.reti ⟨_, rfl⟩ rfl ?_
      exact ⟨F, (by unfold bottleOfP; rw [botP_some hk hn8, if_pos rfl]; try rfl), QD_fr hF fr_rfl hD hR⟩
    by_cases hw1 : w = 1
    · subst hw1
      refine AW.run 2 [] (2, [(0, .inr (.inr (5, 0, 0))), (1, .inl (nI k)), (2, .inl 1)], [.inl (nI k), .inr (.inr (5, 0, 0))], σ) [] rfl ?_ ?_
      · exact trivial
      refine AW.callVI (d' := 0) [.inl (nI k)] [] ⟨_, rfl⟩ f_6_isBottle v_6_isBottle l_6_105 ⟨rfl, by decide⟩ rfl (Nat.le_of_ble_eq_true rfl) rfl (Nat.le_of_ble_eq_true rfl) (c6_isBottle1 (Sn F.1) σ e7 hn8 k hk) ?_
      rintro _ _ ⟨rfl, rfl⟩
      refine AW.run 2 [true] (15, [(0, .inr (.inr (5, 0, 0))), (1, .inl (nI k)), (2, .inl 1)], [.inl 1], σ) [icP .ne (1 : Int32) 0] rfl ?_ ?_
      · exact allP1 (by decide : (¬ (1 : Int32) = 0))
      refine AW.tswIn (k := 1) (tgt := 71) ⟨_, rfl⟩ (by decide) (by decide) rfl (by decide) ?_
      refine AW.run 4 [] (77, [(0, .inr (.inr (5, 0, 0))), (1, .inl (nI k)), (2, .inl 1)], [.inl (σ 5 0 3 (nI k).toNatClampNeg)], σ) [vp_in (nI k) 8] rfl ?_ ?_
      · exact allP1 (by first | assumption | exact in8 (by omega))
      rw [cl8 (k := k) h8k, (hR.2 k hk).2.1]
      refine AW.reti ⟨_, rfl⟩ rfl ?_
      exact ⟨F, (by unfold bottleOfP; rw [botP_some hk hn8, if_neg (by decide : ¬ (1 : Int32) = 0), if_pos rfl]; try rfl), QD_fr hF fr_rfl hD hR⟩
    by_cases hw2 : w = 2
    · subst hw2
      refine AW.run 2 [] (2, [(0, .inr (.inr (5, 0, 0))), (1, .inl (nI k)), (2, .inl 2)], [.inl (nI k), .inr (.inr (5, 0, 0))], σ) [] rfl ?_ ?_
      · exact trivial
      refine AW.callVI (d' := 0) [.inl (nI k)] [] ⟨_, rfl⟩ f_6_isBottle v_6_isBottle l_6_105 ⟨rfl, by decide⟩ rfl (Nat.le_of_ble_eq_true rfl) rfl (Nat.le_of_ble_eq_true rfl) (c6_isBottle1 (Sn F.1) σ e7 hn8 k hk) ?_
      rintro _ _ ⟨rfl, rfl⟩
      refine AW.run 2 [true] (15, [(0, .inr (.inr (5, 0, 0))), (1, .inl (nI k)), (2, .inl 2)], [.inl 2], σ) [icP .ne (1 : Int32) 0] rfl ?_ ?_
      · exact allP1 (by decide : (¬ (1 : Int32) = 0))
      refine AW.tswIn (k := 2) (tgt := 78) ⟨_, rfl⟩ (by decide) (by decide) rfl (by decide) ?_
      refine AW.run 4 [] (84, [(0, .inr (.inr (5, 0, 0))), (1, .inl (nI k)), (2, .inl 2)], [.inl (σ 5 0 4 (nI k).toNatClampNeg)], σ) [vp_in (nI k) 8] rfl ?_ ?_
      · exact allP1 (by first | assumption | exact in8 (by omega))
      rw [cl8 (k := k) h8k, (hR.2 k hk).2.2.1]
      refine AW.reti ⟨_, rfl⟩ rfl ?_
      exact ⟨F, (by unfold bottleOfP; rw [botP_some hk hn8, if_neg (by decide : ¬ (2 : Int32) = 0), if_neg (by decide : ¬ (2 : Int32) = 1), if_pos rfl]; try rfl), QD_fr hF fr_rfl hD hR⟩
    by_cases hw3 : w = 3
    · subst hw3
      refine AW.run 2 [] (2, [(0, .inr (.inr (5, 0, 0))), (1, .inl (nI k)), (2, .inl 3)], [.inl (nI k), .inr (.inr (5, 0, 0))], σ) [] rfl ?_ ?_
      · exact trivial
      refine AW.callVI (d' := 0) [.inl (nI k)] [] ⟨_, rfl⟩ f_6_isBottle v_6_isBottle l_6_105 ⟨rfl, by decide⟩ rfl (Nat.le_of_ble_eq_true rfl) rfl (Nat.le_of_ble_eq_true rfl) (c6_isBottle1 (Sn F.1) σ e7 hn8 k hk) ?_
      rintro _ _ ⟨rfl, rfl⟩
      refine AW.run 2 [true] (15, [(0, .inr (.inr (5, 0, 0))), (1, .inl (nI k)), (2, .inl 3)], [.inl 3], σ) [icP .ne (1 : Int32) 0] rfl ?_ ?_
      · exact allP1 (by decide : (¬ (1 : Int32) = 0))
      refine AW.tswIn (k := 3) (tgt := 85) ⟨_, rfl⟩ (by decide) (by decide) rfl (by decide) ?_
      refine AW.run 4 [] (91, [(0, .inr (.inr (5, 0, 0))), (1, .inl (nI k)), (2, .inl 3)], [.inl (σ 5 0 5 (nI k).toNatClampNeg)], σ) [vp_in (nI k) 8] rfl ?_ ?_
      · exact allP1 (by first | assumption | exact in8 (by omega))
      rw [cl8 (k := k) h8k, (hR.2 k hk).2.2.2.1]
      refine AW.reti ⟨_, rfl⟩ rfl ?_
      exact ⟨F, (by unfold bottleOfP; rw [botP_some hk hn8, if_neg (by decide : ¬ (3 : Int32) = 0), if_neg (by decide : ¬ (3 : Int32) = 1), if_neg (by decide : ¬ (3 : Int32) = 2), if_pos rfl]; try rfl), QD_fr hF fr_rfl hD hR⟩
    by_cases hw4 : w = 4
    · subst hw4
      refine AW.run 2 [] (2, [(0, .inr (.inr (5, 0, 0))), (1, .inl (nI k)), (2, .inl 4)], [.inl (nI k), .inr (.inr (5, 0, 0))], σ) [] rfl ?_ ?_
      · exact trivial
      refine AW.callVI (d' := 0) [.inl (nI k)] [] ⟨_, rfl⟩ f_6_isBottle v_6_isBottle l_6_105 ⟨rfl, by decide⟩ rfl (Nat.le_of_ble_eq_true rfl) rfl (Nat.le_of_ble_eq_true rfl) (c6_isBottle1 (Sn F.1) σ e7 hn8 k hk) ?_
      rintro _ _ ⟨rfl, rfl⟩
      refine AW.run 2 [true] (15, [(0, .inr (.inr (5, 0, 0))), (1, .inl (nI k)), (2, .inl 4)], [.inl 4], σ) [icP .ne (1 : Int32) 0] rfl ?_ ?_
      · exact allP1 (by decide : (¬ (1 : Int32) = 0))
      refine AW.tswIn (k := 4) (tgt := 92) ⟨_, rfl⟩ (by decide) (by decide) rfl (by decide) ?_
      refine AW.run 5 [] (99, [(0, .inr (.inr (5, 0, 0))), (1, .inl (nI k)), (2, .inl 4)], [.inl (σ 5 0 6 (nI k).toNatClampNeg), .inl 1], σ) [vp_in (nI k) 8] rfl ?_ ?_
      · exact allP1 (by first | assumption | exact in8 (by omega))
      rw [cl8 (k := k) h8k, (hR.2 k hk).2.2.2.2.1]
      refine AW.run 1 [] (100, [(0, .inr (.inr (5, 0, 0))), (1, .inl (nI k)), (2, .inl 4)], [.inl (1 - (if Sw F.1 k = true then 0 else 1))], σ) [] rfl ?_ ?_
      · exact trivial
      rw [sub_w]
      refine AW.reti ⟨_, rfl⟩ rfl ?_
      exact ⟨F, (by unfold bottleOfP; rw [botP_some hk hn8, if_neg (by decide : ¬ (4 : Int32) = 0), if_neg (by decide : ¬ (4 : Int32) = 1), if_neg (by decide : ¬ (4 : Int32) = 2), if_neg (by decide : ¬ (4 : Int32) = 3), if_pos rfl]; try rfl), QD_fr hF fr_rfl hD hR⟩
    by_cases hw5 : w = 5
    · subst hw5
      refine AW.run 2 [] (2, [(0, .inr (.inr (5, 0, 0))), (1, .inl (nI k)), (2, .inl 5)], [.inl (nI k), .inr (.inr (5, 0, 0))], σ) [] rfl ?_ ?_
      · exact trivial
      refine AW.callVI (d' := 0) [.inl (nI k)] [] ⟨_, rfl⟩ f_6_isBottle v_6_isBottle l_6_105 ⟨rfl, by decide⟩ rfl (Nat.le_of_ble_eq_true rfl) rfl (Nat.le_of_ble_eq_true rfl) (c6_isBottle1 (Sn F.1) σ e7 hn8 k hk) ?_
      rintro _ _ ⟨rfl, rfl⟩
      refine AW.run 2 [true] (15, [(0, .inr (.inr (5, 0, 0))), (1, .inl (nI k)), (2, .inl 5)], [.inl 5], σ) [icP .ne (1 : Int32) 0] rfl ?_ ?_
      · exact allP1 (by decide : (¬ (1 : Int32) = 0))
      refine AW.tswIn (k := 5) (tgt := 101) ⟨_, rfl⟩ (by decide) (by decide) rfl (by decide) ?_
      refine AW.run 4 [] (107, [(0, .inr (.inr (5, 0, 0))), (1, .inl (nI k)), (2, .inl 5)], [.inl (σ 5 0 7 (nI k).toNatClampNeg)], σ) [vp_in (nI k) 8] rfl ?_ ?_
      · exact allP1 (by first | assumption | exact in8 (by omega))
      rw [cl8 (k := k) h8k, (hR.2 k hk).2.2.2.2.2]
      refine AW.reti ⟨_, rfl⟩ rfl ?_
      exact ⟨F, (by unfold bottleOfP; rw [botP_some hk hn8, if_neg (by decide : ¬ (5 : Int32) = 0), if_neg (by decide : ¬ (5 : Int32) = 1), if_neg (by decide : ¬ (5 : Int32) = 2), if_neg (by decide : ¬ (5 : Int32) = 3), if_neg (by decide : ¬ (5 : Int32) = 4), if_pos rfl]; try rfl), QD_fr hF fr_rfl hD hR⟩
    by_cases hw6 : w = 6
    · subst hw6
      refine AW.run 2 [] (2, [(0, .inr (.inr (5, 0, 0))), (1, .inl (nI k)), (2, .inl 6)], [.inl (nI k), .inr (.inr (5, 0, 0))], σ) [] rfl ?_ ?_
      · exact trivial
      refine AW.callVI (d' := 0) [.inl (nI k)] [] ⟨_, rfl⟩ f_6_isBottle v_6_isBottle l_6_105 ⟨rfl, by decide⟩ rfl (Nat.le_of_ble_eq_true rfl) rfl (Nat.le_of_ble_eq_true rfl) (c6_isBottle1 (Sn F.1) σ e7 hn8 k hk) ?_
      rintro _ _ ⟨rfl, rfl⟩
      refine AW.run 2 [true] (15, [(0, .inr (.inr (5, 0, 0))), (1, .inl (nI k)), (2, .inl 6)], [.inl 6], σ) [icP .ne (1 : Int32) 0] rfl ?_ ?_
      · exact allP1 (by decide : (¬ (1 : Int32) = 0))
      refine AW.tswIn (k := 6) (tgt := 108) ⟨_, rfl⟩ (by decide) (by decide) rfl (by decide) ?_
      refine AW.run 2 [] (110, [(0, .inr (.inr (5, 0, 0))), (1, .inl (nI k)), (2, .inl 6)], [.inl (nI k), .inr (.inr (5, 0, 0))], σ) [] rfl ?_ ?_
      · exact trivial
      refine AW.callVI (d' := 0) [.inl (nI k)] [] ⟨_, rfl⟩ f_6_rises v_6_rises l_6_182 ⟨rfl, by decide⟩ rfl (Nat.le_of_ble_eq_true rfl) rfl (Nat.le_of_ble_eq_true rfl) (c6_rises F.1 σ hR hO k hk) ?_
      rintro _ _ ⟨rfl, rfl⟩
      refine AW.reti ⟨_, rfl⟩ rfl ?_
      exact ⟨F, (by unfold bottleOfP; rw [botP_some hk hn8, if_neg (by decide : ¬ (6 : Int32) = 0), if_neg (by decide : ¬ (6 : Int32) = 1), if_neg (by decide : ¬ (6 : Int32) = 2), if_neg (by decide : ¬ (6 : Int32) = 3), if_neg (by decide : ¬ (6 : Int32) = 4), if_neg (by decide : ¬ (6 : Int32) = 5), if_pos rfl]; try rfl), QD_fr hF fr_rfl hD hR⟩
    by_cases hw7 : w = 7
    · subst hw7
      refine AW.run 2 [] (2, [(0, .inr (.inr (5, 0, 0))), (1, .inl (nI k)), (2, .inl 7)], [.inl (nI k), .inr (.inr (5, 0, 0))], σ) [] rfl ?_ ?_
      · exact trivial
      refine AW.callVI (d' := 0) [.inl (nI k)] [] ⟨_, rfl⟩ f_6_isBottle v_6_isBottle l_6_105 ⟨rfl, by decide⟩ rfl (Nat.le_of_ble_eq_true rfl) rfl (Nat.le_of_ble_eq_true rfl) (c6_isBottle1 (Sn F.1) σ e7 hn8 k hk) ?_
      rintro _ _ ⟨rfl, rfl⟩
      refine AW.run 2 [true] (15, [(0, .inr (.inr (5, 0, 0))), (1, .inl (nI k)), (2, .inl 7)], [.inl 7], σ) [icP .ne (1 : Int32) 0] rfl ?_ ?_
      · exact allP1 (by decide : (¬ (1 : Int32) = 0))
      refine AW.tswIn (k := 7) (tgt := 114) ⟨_, rfl⟩ (by decide) (by decide) rfl (by decide) ?_
      refine AW.run 2 [] (116, [(0, .inr (.inr (5, 0, 0))), (1, .inl (nI k)), (2, .inl 7)], [.inl (nI k), .inr (.inr (5, 0, 0))], σ) [] rfl ?_ ?_
      · exact trivial
      refine AW.callVI (d' := 0) [.inl (nI k)] [] ⟨_, rfl⟩ f_6_bears v_6_bears l_6_173 ⟨rfl, by decide⟩ rfl (Nat.le_of_ble_eq_true rfl) rfl (Nat.le_of_ble_eq_true rfl) (c6_bears F.1 σ hR hO k hk) ?_
      rintro _ _ ⟨rfl, rfl⟩
      refine AW.reti ⟨_, rfl⟩ rfl ?_
      exact ⟨F, (by unfold bottleOfP; rw [botP_some hk hn8, if_neg (by decide : ¬ (7 : Int32) = 0), if_neg (by decide : ¬ (7 : Int32) = 1), if_neg (by decide : ¬ (7 : Int32) = 2), if_neg (by decide : ¬ (7 : Int32) = 3), if_neg (by decide : ¬ (7 : Int32) = 4), if_neg (by decide : ¬ (7 : Int32) = 5), if_neg (by decide : ¬ (7 : Int32) = 6), if_pos rfl]; try rfl), QD_fr hF fr_rfl hD hR⟩
    by_cases hw8 : w = 8
    · subst hw8
      refine AW.run 2 [] (2, [(0, .inr (.inr (5, 0, 0))), (1, .inl (nI k)), (2, .inl 8)], [.inl (nI k), .inr (.inr (5, 0, 0))], σ) [] rfl ?_ ?_
      · exact trivial
      refine AW.callVI (d' := 0) [.inl (nI k)] [] ⟨_, rfl⟩ f_6_isBottle v_6_isBottle l_6_105 ⟨rfl, by decide⟩ rfl (Nat.le_of_ble_eq_true rfl) rfl (Nat.le_of_ble_eq_true rfl) (c6_isBottle1 (Sn F.1) σ e7 hn8 k hk) ?_
      rintro _ _ ⟨rfl, rfl⟩
      refine AW.run 2 [true] (15, [(0, .inr (.inr (5, 0, 0))), (1, .inl (nI k)), (2, .inl 8)], [.inl 8], σ) [icP .ne (1 : Int32) 0] rfl ?_ ?_
      · exact allP1 (by decide : (¬ (1 : Int32) = 0))
      refine AW.tswIn (k := 8) (tgt := 120) ⟨_, rfl⟩ (by decide) (by decide) rfl (by decide) ?_
      refine AW.run 2 [] (122, [(0, .inr (.inr (5, 0, 0))), (1, .inl (nI k)), (2, .inl 8)], [.inl (nI k), .inr (.inr (5, 0, 0))], σ) [] rfl ?_ ?_
      · exact trivial
      refine AW.callVI (d' := 0) [.inl (nI k)] [] ⟨_, rfl⟩ f_6_shocks v_6_shocks l_6_167 ⟨rfl, by decide⟩ rfl (Nat.le_of_ble_eq_true rfl) rfl (Nat.le_of_ble_eq_true rfl) (c6_shocks F.1 σ hR hO k hk) ?_
      rintro _ _ ⟨rfl, rfl⟩
      refine AW.reti ⟨_, rfl⟩ rfl ?_
      exact ⟨F, (by unfold bottleOfP; rw [botP_some hk hn8, if_neg (by decide : ¬ (8 : Int32) = 0), if_neg (by decide : ¬ (8 : Int32) = 1), if_neg (by decide : ¬ (8 : Int32) = 2), if_neg (by decide : ¬ (8 : Int32) = 3), if_neg (by decide : ¬ (8 : Int32) = 4), if_neg (by decide : ¬ (8 : Int32) = 5), if_neg (by decide : ¬ (8 : Int32) = 6), if_neg (by decide : ¬ (8 : Int32) = 7), if_pos rfl]; try rfl), QD_fr hF fr_rfl hD hR⟩
    · skip
      refine AW.run 2 [] (2, [(0, .inr (.inr (5, 0, 0))), (1, .inl (nI k)), (2, .inl w)], [.inl (nI k), .inr (.inr (5, 0, 0))], σ) [] rfl ?_ ?_
      · exact trivial
      refine AW.callVI (d' := 0) [.inl (nI k)] [] ⟨_, rfl⟩ f_6_isBottle v_6_isBottle l_6_105 ⟨rfl, by decide⟩ rfl (Nat.le_of_ble_eq_true rfl) rfl (Nat.le_of_ble_eq_true rfl) (c6_isBottle1 (Sn F.1) σ e7 hn8 k hk) ?_
      rintro _ _ ⟨rfl, rfl⟩
      refine AW.run 2 [true] (15, [(0, .inr (.inr (5, 0, 0))), (1, .inl (nI k)), (2, .inl w)], [.inl w], σ) [icP .ne (1 : Int32) 0] rfl ?_ ?_
      · exact allP1 (by decide : (¬ (1 : Int32) = 0))
      have ehw0 := lv_neT (a := 0) hw0 rfl
      have ehw1 := lv_neT (a := 1) hw1 rfl
      have ehw2 := lv_neT (a := 2) hw2 rfl
      have ehw3 := lv_neT (a := 3) hw3 rfl
      have ehw4 := lv_neT (a := 4) hw4 rfl
      have ehw5 := lv_neT (a := 5) hw5 rfl
      have ehw6 := lv_neT (a := 6) hw6 rfl
      have ehw7 := lv_neT (a := 7) hw7 rfl
      have ehw8 := lv_neT (a := 8) hw8 rfl
      refine AW.tswOut (tgt := 126) ⟨_, rfl⟩ (by omega) (by decide) ?_
      refine AW.run 2 [] (129, [(0, .inr (.inr (5, 0, 0))), (1, .inl (nI k)), (2, .inl w)], [.inl (-2), .inr (.inr (5, 0, 0))], σ) [] rfl ?_ ?_
      · exact trivial
      refine AW.callVI (d' := 0) [.inl (-2)] [] ⟨_, rfl⟩ f_6_no v_6_no l_6_69 ⟨rfl, by decide⟩ rfl (Nat.le_of_ble_eq_true rfl) rfl (Nat.le_of_ble_eq_true rfl) (c6_no2 σ) ?_
      rintro _ _ ⟨rfl, rfl⟩
      refine AW.reti ⟨_, rfl⟩ rfl ?_
      exact ⟨rfuF F 2, (by unfold bottleOfP; rw [botP_some hk hn8, if_neg hw0, if_neg hw1, if_neg hw2, if_neg hw3, if_neg hw4, if_neg hw5, if_neg hw6, if_neg hw7, if_neg hw8]; try rfl), RepD_ref hF hD (by decide) (by decide)⟩
  · skip
    refine AW.run 2 [] (2, [(0, .inr (.inr (5, 0, 0))), (1, .inl b), (2, .inl w)], [.inl b, .inr (.inr (5, 0, 0))], σ) [] rfl ?_ ?_
    · exact trivial
    refine AW.callVI (d' := 0) [.inl b] [] ⟨_, rfl⟩ f_6_isBottle v_6_isBottle l_6_105 ⟨rfl, by decide⟩ rfl (Nat.le_of_ble_eq_true rfl) rfl (Nat.le_of_ble_eq_true rfl) (c6_isBottle0 (Sn F.1) σ e7 hn8 b hnok) ?_
    rintro _ _ ⟨rfl, rfl⟩
    refine AW.run 3 [false] (10, [(0, .inr (.inr (5, 0, 0))), (1, .inl b), (2, .inl w)], [.inl (-1), .inr (.inr (5, 0, 0))], σ) [¬ icP .ne (0 : Int32) 0] rfl ?_ ?_
    · exact allP1 (by decide : ¬ (¬ (0 : Int32) = 0))
    refine AW.callVI (d' := 0) [.inl (-1)] [] ⟨_, rfl⟩ f_6_no v_6_no l_6_69 ⟨rfl, by decide⟩ rfl (Nat.le_of_ble_eq_true rfl) rfl (Nat.le_of_ble_eq_true rfl) (c6_no1 σ) ?_
    rintro _ _ ⟨rfl, rfl⟩
    refine AW.reti ⟨_, rfl⟩ rfl ?_
    exact ⟨rfuF F 1, (by unfold bottleOfP; rw [botP_none hnok]; try rfl), RepD_ref hF hD (by decide) (by decide)⟩
set_option maxHeartbeats 4000000 in
set_option maxRecDepth 100000 in
theorem d6_at (F : Gv) (σ : St) (hD : RepD σ F) (hG : GOK F) (p : Int32) : Ct M6_at 3 [.inr (.inr (5, 0, 0)), .inl p] σ (QD σ (atP F p)) := by
  refine Ct.of f_6_at (Nat.le_of_ble_eq_true rfl) ?_
  show AW M6_at 3 _ (0, [(0, .inr (.inr (5, 0, 0))), (1, .inl p)], [], σ)
  have hF : FOK F := hG.1
  have hR : RepM (σ 5 0) F.1 := hD.1
  have hO : SOK F.1 := hF.1.1
  have hn8 : Sn F.1 ≤ 8 := hO.1
  have e7 := hR.1.1
  rcases bot_or 15 p with ⟨j, hj, rfl⟩ | hnp
  · skip
    refine AW.run 1 [] (1, [(0, .inr (.inr (5, 0, 0))), (1, .inl (nI j))], [.inl (nI j)], σ) [] rfl ?_ ?_
    · exact trivial
    refine AW.callSI (d' := 0) [.inl (nI j)] [] ⟨_, rfl⟩ f_6_isPlace s_6_isPlace l_6_94 rfl (Nat.le_of_ble_eq_true rfl) rfl (Nat.le_of_ble_eq_true rfl) (c6_isPlace1 j hj σ) ?_
    rintro _ _ ⟨rfl, rfl⟩
    refine AW.run 3 [false] (9, [(0, .inr (.inr (5, 0, 0))), (1, .inl (nI j))], [.inl (nI j), .inr (.inr (5, 0, 0))], σ) [¬ icP .eq (1 : Int32) 0] rfl ?_ ?_
    · exact allP1 (by decide : ¬ ((1 : Int32) = 0))
    refine AW.callVI (d' := 1) [.inl (nI j)] [] ⟨_, rfl⟩ f_6_wholeAt v_6_wholeAt l_6_98 ⟨rfl, by decide⟩ rfl (Nat.le_of_ble_eq_true rfl) rfl (Nat.le_of_ble_eq_true rfl) (c6_wholeAt F.1 σ hR hO (nI j) j rfl (by omega)) ?_
    rintro _ _ ⟨rfl, rfl⟩
    refine AW.run 1 [] (20, [(0, .inr (.inr (5, 0, 0))), (1, .inl (nI j))], [.inl (optI (atS F.1 j))], σ) [] rfl ?_ ?_
    · exact trivial
    refine AW.reti ⟨_, rfl⟩ rfl ?_
    exact ⟨F, (by unfold atP; rw [botI_some hj (by decide)]; try rfl), QD_fr hF fr_rfl hD hR⟩
  · skip
    refine AW.run 1 [] (1, [(0, .inr (.inr (5, 0, 0))), (1, .inl p)], [.inl p], σ) [] rfl ?_ ?_
    · exact trivial
    refine AW.callSI (d' := 0) [.inl p] [] ⟨_, rfl⟩ f_6_isPlace s_6_isPlace l_6_94 rfl (Nat.le_of_ble_eq_true rfl) rfl (Nat.le_of_ble_eq_true rfl) (c6_isPlace0 p hnp σ) ?_
    rintro _ _ ⟨rfl, rfl⟩
    refine AW.run 3 [true] (17, [(0, .inr (.inr (5, 0, 0))), (1, .inl p)], [.inl (-1), .inr (.inr (5, 0, 0))], σ) [icP .eq (0 : Int32) 0] rfl ?_ ?_
    · exact allP1 (by decide : ((0 : Int32) = 0))
    refine AW.callVI (d' := 0) [.inl (-1)] [] ⟨_, rfl⟩ f_6_no v_6_no l_6_69 ⟨rfl, by decide⟩ rfl (Nat.le_of_ble_eq_true rfl) rfl (Nat.le_of_ble_eq_true rfl) (c6_no1 σ) ?_
    rintro _ _ ⟨rfl, rfl⟩
    refine AW.reti ⟨_, rfl⟩ rfl ?_
    exact ⟨rfuF F 1, (by unfold atP; rw [botI_none hnp]; try rfl), RepD_ref hF hD (by decide) (by decide)⟩
