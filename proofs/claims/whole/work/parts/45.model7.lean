/-! WHAT THE MODEL THINKS -/

set_option maxHeartbeats 4000000 in
set_option maxRecDepth 100000 in
theorem c6_pressBehind (S : Sv) (σ : St) (hR : RepM (σ 5 0) S) (hO : SOK S) (b n : Nat) (hb : b < Sn S) (hn : n < 2 ^ 31) : Ct M6_pressBehind 6 [.inr (.inr (5, 0, 0)), .inl (nI b), .inl (nI n)] σ (PI fun r9 σ' => nI (Sq (passS n S) b) = r9 ∧ Fr P2 σ σ' ∧ RepM (σ' 5 0) S) := by
  refine Ct.of f_6_pressBehind (Nat.le_of_ble_eq_true rfl) ?_
  show AW M6_pressBehind 6 _ (0, [(0, .inr (.inr (5, 0, 0))), (1, .inl (nI b)), (2, .inl (nI n))], [], σ)
  have hn8 : Sn S ≤ 8 := hO.1
  have hb8 : b < 8 := by omega
  refine AW.run 1 [] (1, [(0, .inr (.inr (5, 0, 0))), (1, .inl (nI b)), (2, .inl (nI n))], [.inr (.inr (5, 0, 0))], σ) [] rfl ?_ ?_
  · exact trivial
  refine AW.callVV (d' := 2) [] [] ⟨_, rfl⟩ f_6_thinks v_6_thinks l_6_203 ⟨rfl, by decide⟩ rfl (Nat.le_of_ble_eq_true rfl) rfl (Nat.le_of_ble_eq_true rfl) (c6_thinks S σ hR hO.1) ?_
  rintro τ1 ⟨f1, r1, k1⟩
  refine AW.run 2 [] (6, [(0, .inr (.inr (5, 0, 0))), (1, .inl (nI b)), (2, .inl (nI n))], [.inl (nI n), .inr (.inr (5, 0, 0))], τ1) [] rfl ?_ ?_
  · exact trivial
  refine AW.callVV (d' := 5) [.inl (nI n)] [] ⟨_, rfl⟩ f_6_goesAll v_6_goesAll l_6_114 ⟨rfl, by decide⟩ rfl (Nat.le_of_ble_eq_true rfl) rfl (Nat.le_of_ble_eq_true rfl) (c6_goesAll S τ1 r1 hO n (by omega)) ?_
  rintro τ2 ⟨f2, r2⟩
  refine AW.run 4 [] (15, [(0, .inr (.inr (5, 0, 0))), (1, .inl (nI b)), (2, .inl (nI n))], [.inl (τ2 5 0 5 (nI b).toNatClampNeg)], τ2) [vp_in (nI b) 8] rfl ?_ ?_
  · exact allP1 (by exact in8 hb8)
  rw [cl8 (k := b) hb8, (r2.2 b (by rw [pass_n]; exact hb)).2.2.2.1]
  refine AW.run 2 [] (17, [(3, .inl (nI (Sq (passS n S) b))), (0, .inr (.inr (5, 0, 0))), (1, .inl (nI b)), (2, .inl (nI n))], [.inr (.inr (5, 0, 0))], τ2) [] rfl ?_ ?_
  · exact trivial
  refine AW.callVV (d' := 2) [] [] ⟨_, rfl⟩ f_6_forgets v_6_forgets l_6_206 ⟨rfl, by decide⟩ rfl (Nat.le_of_ble_eq_true rfl) rfl (Nat.le_of_ble_eq_true rfl) (c6_forgets S τ2 (repK_fr hO.1 (fr_trans (fr_rfl (P := P1)) f2) (fun k _ _ q => by unfold P1 at q; omega) k1) hO.1) ?_
  rintro τ3 ⟨f3, r3⟩
  refine AW.run 1 [] (21, [(3, .inl (nI (Sq (passS n S) b))), (0, .inr (.inr (5, 0, 0))), (1, .inl (nI b)), (2, .inl (nI n))], [.inl (nI (Sq (passS n S) b))], τ3) [] rfl ?_ ?_
  · exact trivial
  refine AW.reti ⟨_, rfl⟩ rfl ?_
  exact ⟨rfl, (fr_trans (fr_trans (fr_trans fr_rfl f1) (fr_12 f2)) f3), r3⟩
set_option maxHeartbeats 4000000 in
set_option maxRecDepth 100000 in
theorem c6_leftIn (S : Sv) (σ : St) (hR : RepM (σ 5 0) S) (hO : SOK S) (n : Nat) (hn : n < 2 ^ 31) : Ct M6_leftIn 6 [.inr (.inr (5, 0, 0)), .inl (nI n)] σ (PI fun r9 σ' => nI (leftS S n) = r9 ∧ Fr P2 σ σ' ∧ RepM (σ' 5 0) S) := by
  refine Ct.of f_6_leftIn (Nat.le_of_ble_eq_true rfl) ?_
  show AW M6_leftIn 6 _ (0, [(0, .inr (.inr (5, 0, 0))), (1, .inl (nI n))], [], σ)
  have hn8 : Sn S ≤ 8 := hO.1
  refine AW.run 1 [] (1, [(0, .inr (.inr (5, 0, 0))), (1, .inl (nI n))], [.inr (.inr (5, 0, 0))], σ) [] rfl ?_ ?_
  · exact trivial
  refine AW.callVV (d' := 2) [] [] ⟨_, rfl⟩ f_6_thinks v_6_thinks l_6_203 ⟨rfl, by decide⟩ rfl (Nat.le_of_ble_eq_true rfl) rfl (Nat.le_of_ble_eq_true rfl) (c6_thinks S σ hR hO.1) ?_
  rintro τ4 ⟨f4, r4, k4⟩
  refine AW.run 2 [] (6, [(0, .inr (.inr (5, 0, 0))), (1, .inl (nI n))], [.inl (nI n), .inr (.inr (5, 0, 0))], τ4) [] rfl ?_ ?_
  · exact trivial
  refine AW.callVV (d' := 5) [.inl (nI n)] [] ⟨_, rfl⟩ f_6_goesAll v_6_goesAll l_6_114 ⟨rfl, by decide⟩ rfl (Nat.le_of_ble_eq_true rfl) rfl (Nat.le_of_ble_eq_true rfl) (c6_goesAll S τ4 r4 hO n (by omega)) ?_
  rintro τ5 ⟨f5, r5⟩
  refine AW.run 1 [] (10, [(0, .inr (.inr (5, 0, 0))), (1, .inl (nI n))], [.inr (.inr (5, 0, 0))], τ5) [] rfl ?_ ?_
  · exact trivial
  refine AW.callVI (d' := 1) [] [] ⟨_, rfl⟩ f_6_whole v_6_whole l_6_197 ⟨rfl, by decide⟩ rfl (Nat.le_of_ble_eq_true rfl) rfl (Nat.le_of_ble_eq_true rfl) (c6_whole (passS n S) τ5 r5 (SOK_pass n hO)) ?_
  rintro _ _ ⟨rfl, rfl⟩
  refine AW.callSI (d' := 0) [.inl (bI (Sw (passS n S)))] [] ⟨_, rfl⟩ f_6_bits s_6_bits l_6_200 rfl (Nat.le_of_ble_eq_true rfl) rfl (Nat.le_of_ble_eq_true rfl) (c6_bits (bI (Sw (passS n S))) τ5) ?_
  rintro _ _ ⟨rfl, rfl⟩
  rw [btV_bI]
  refine AW.run 2 [] (18, [(2, .inl (nI (cN (Sw (passS n S))))), (0, .inr (.inr (5, 0, 0))), (1, .inl (nI n))], [.inr (.inr (5, 0, 0))], τ5) [] rfl ?_ ?_
  · exact trivial
  refine AW.callVV (d' := 2) [] [] ⟨_, rfl⟩ f_6_forgets v_6_forgets l_6_206 ⟨rfl, by decide⟩ rfl (Nat.le_of_ble_eq_true rfl) rfl (Nat.le_of_ble_eq_true rfl) (c6_forgets S τ5 (repK_fr hO.1 (fr_trans (fr_rfl (P := P1)) f5) (fun k _ _ q => by unfold P1 at q; omega) k4) hO.1) ?_
  rintro τ6 ⟨f6, r6⟩
  refine AW.run 1 [] (22, [(2, .inl (nI (cN (Sw (passS n S))))), (0, .inr (.inr (5, 0, 0))), (1, .inl (nI n))], [.inl (nI (cN (Sw (passS n S))))], τ6) [] rfl ?_ ?_
  · exact trivial
  refine AW.reti ⟨_, rfl⟩ rfl ?_
  exact ⟨rfl, (fr_trans (fr_trans (fr_trans fr_rfl f4) (fr_12 f5)) f6), r6⟩
set_option maxHeartbeats 4000000 in
set_option maxRecDepth 100000 in
theorem c6_goesWhen (S : Sv) (σ : St) (hR : RepM (σ 5 0) S) (hO : SOK S) (b : Nat) (hb : b < Sn S) : Ct M6_goesWhen 5 [.inr (.inr (5, 0, 0)), .inl (nI b)] σ (PI fun r9 σ' => optI (goneN b 61 0 S) = r9 ∧ Fr P2 σ σ' ∧ RepM (σ' 5 0) S) := by
  refine Ct.of f_6_goesWhen (Nat.le_of_ble_eq_true rfl) ?_
  show AW M6_goesWhen 5 _ (0, [(0, .inr (.inr (5, 0, 0))), (1, .inl (nI b))], [], σ)
  have hn8 : Sn S ≤ 8 := hO.1
  have hb8 : b < 8 := by omega
  refine AW.run 1 [] (1, [(0, .inr (.inr (5, 0, 0))), (1, .inl (nI b))], [.inr (.inr (5, 0, 0))], σ) [] rfl ?_ ?_
  · exact trivial
  refine AW.callVV (d' := 2) [] [] ⟨_, rfl⟩ f_6_thinks v_6_thinks l_6_203 ⟨rfl, by decide⟩ rfl (Nat.le_of_ble_eq_true rfl) rfl (Nat.le_of_ble_eq_true rfl) (c6_thinks S σ hR hO.1) ?_
  rintro τ7 ⟨f7, r7, k7⟩
  refine AW.run 4 [] (9, [(3, .inl 0), (2, .inl (-9)), (0, .inr (.inr (5, 0, 0))), (1, .inl (nI b))], [], τ7) [] rfl ?_ ?_
  · exact trivial
  refine AW.pick [2, 3, 1, 0] (ls' := [(0, .inr (.inr (5, 0, 0))), (1, .inl (nI b)), (2, .inl (-9)), (3, .inl (nI 0))]) rfl ?_
  refine AW.loop (α := Sv) 9 61 (fun d T => [(0, .inr (.inr (5, 0, 0))), (1, .inl (nI b)), (2, .inl (-9)), (3, .inl (nI d))]) (fun d T τ => 0 ≤ d ∧ Fr P1 τ7 τ ∧ RepM (τ 5 0) T ∧ SOK T ∧ Sn T = Sn S ∧ goneN b 61 0 S = goneN b (61 - d) d T) ?_ ?_ 61 0 S _ (by omega) ⟨Nat.le_refl _, (fr_rfl (P := P1)), r7, hO, rfl, rfl⟩
  · intro d T τ hd hI hk
    obtain ⟨hd0, hF, hT, hOT, hTn, hg⟩ := hI
    have hu : goneN b (61 - d) d T = if Sw T b = true then goneN b (61 - (d + 1)) (d + 1) (dayS T) else some d := by
      obtain ⟨m, hm⟩ : ∃ m, 61 - d = m + 1 := ⟨60 - d, by omega⟩
      rw [hm, show 61 - (d + 1) = m by omega]; rfl
    refine AW.run 7 [false, false] (21, [(0, .inr (.inr (5, 0, 0))), (1, .inl (nI b)), (2, .inl (-9)), (3, .inl (nI d))], [.inl (nI b), .inr (.inr (5, 0, 0))], τ) [¬ icP .gt (nI d) 60, ¬ icP .ge ((-9) : Int32) 0] rfl ?_ ?_
    · exact ⟨(nI_nlt (a := 60) (b := d) (by omega) (by omega)), allP1 (by decide : ¬ ((0 : Int32) ≤ (-9)))⟩
    refine AW.callVI (d' := 0) [.inl (nI b)] [] ⟨_, rfl⟩ f_6_isWhole v_6_isWhole l_6_108 ⟨rfl, by decide⟩ rfl (Nat.le_of_ble_eq_true rfl) rfl (Nat.le_of_ble_eq_true rfl) (c6_isWhole T τ hT hOT.1 b (by rw [hTn]; exact hb)) ?_
    rintro v _ ⟨rfl, hv⟩
    rcases hv with ⟨rfl, hp21⟩ | ⟨rfl, hp21⟩
    · skip
      refine AW.run 5 [false] (35, [(2, .inl (-9)), (0, .inr (.inr (5, 0, 0))), (1, .inl (nI b)), (3, .inl (nI d))], [.inr (.inr (5, 0, 0))], τ) [¬ icP .eq (1 : Int32) 0] rfl ?_ ?_
      · exact allP1 (by decide : ¬ ((1 : Int32) = 0))
      refine AW.callVV (d' := 4) [] [] ⟨_, rfl⟩ f_6_goesDay v_6_goesDay l_6_188 ⟨rfl, by decide⟩ rfl (Nat.le_of_ble_eq_true rfl) rfl (Nat.le_of_ble_eq_true rfl) (c6_goesDay T τ hT hOT ) ?_
      rintro τ8 ⟨f8, r8⟩
      refine AW.run 2 [] (9, [(3, .inl ((nI d) + 1)), (2, .inl (-9)), (0, .inr (.inr (5, 0, 0))), (1, .inl (nI b))], [], τ8) [] rfl ?_ ?_
      · exact trivial
      rw [nI_1 d]
      refine AW.pick [2, 3, 1, 0] (ls' := [(0, .inr (.inr (5, 0, 0))), (1, .inl (nI b)), (2, .inl (-9)), (3, .inl (nI (d + 1)))]) rfl ?_
      exact hk (dayS T) _ ⟨by omega, (fr_trans hF f8), r8, (SOK_day hOT), by rw [day_n]; exact hTn, by rw [hg, hu]; rw [if_pos hp21]⟩
    · skip
      refine AW.run 4 [true] (35, [(2, .inl (nI d)), (0, .inr (.inr (5, 0, 0))), (1, .inl (nI b)), (3, .inl (nI d))], [.inr (.inr (5, 0, 0))], τ) [icP .eq (0 : Int32) 0] rfl ?_ ?_
      · exact allP1 (by decide : ((0 : Int32) = 0))
      refine AW.callVV (d' := 4) [] [] ⟨_, rfl⟩ f_6_goesDay v_6_goesDay l_6_188 ⟨rfl, by decide⟩ rfl (Nat.le_of_ble_eq_true rfl) rfl (Nat.le_of_ble_eq_true rfl) (c6_goesDay T τ hT hOT ) ?_
      rintro τ9 ⟨f9, r9⟩
      refine AW.run 2 [] (9, [(3, .inl ((nI d) + 1)), (2, .inl (nI d)), (0, .inr (.inr (5, 0, 0))), (1, .inl (nI b))], [], τ9) [] rfl ?_ ?_
      · exact trivial
      rw [nI_1 d]
      refine AW.pick [2, 3, 1, 0] (ls' := [(0, .inr (.inr (5, 0, 0))), (1, .inl (nI b)), (2, .inl (nI d)), (3, .inl (nI (d + 1)))]) rfl ?_
      by_cases h12_1 : (60 : Int32) < (nI (d + 1))
      · skip
        refine AW.run 4 [true] (45, [(0, .inr (.inr (5, 0, 0))), (1, .inl (nI b)), (2, .inl (nI d)), (3, .inl (nI (d + 1)))], [.inr (.inr (5, 0, 0))], τ9) [icP .gt (nI (d + 1)) 60] rfl ?_ ?_
        · exact allP1 (h12_1)
        refine AW.callVV (d' := 2) [] [] ⟨_, rfl⟩ f_6_forgets v_6_forgets l_6_206 ⟨rfl, by decide⟩ rfl (Nat.le_of_ble_eq_true rfl) rfl (Nat.le_of_ble_eq_true rfl) (c6_forgets S τ9 (repK_fr hO.1 (fr_trans hF f9) (fun k _ _ q => by unfold P1 at q; omega) k7) hO.1) ?_
        rintro τ10 ⟨f10, r10⟩
        refine AW.run 1 [] (49, [(0, .inr (.inr (5, 0, 0))), (1, .inl (nI b)), (2, .inl (nI d)), (3, .inl (nI (d + 1)))], [.inl (nI d)], τ10) [] rfl ?_ ?_
        · exact trivial
        refine AW.reti ⟨_, rfl⟩ rfl ?_
        exact ⟨by rw [hg, hu]; rw [if_neg (by rw [hp21]; decide)]; rfl, (fr_trans (fr_trans (fr_trans (fr_trans fr_rfl f7) (fr_12 hF)) (fr_12 f9)) f10), r10⟩
      · skip
        refine AW.run 6 [false, true] (45, [(0, .inr (.inr (5, 0, 0))), (1, .inl (nI b)), (2, .inl (nI d)), (3, .inl (nI (d + 1)))], [.inr (.inr (5, 0, 0))], τ9) [¬ icP .gt (nI (d + 1)) 60, icP .ge (nI d) 0] rfl ?_ ?_
        · exact ⟨(h12_1), allP1 (nI_pos' (by omega))⟩
        refine AW.callVV (d' := 2) [] [] ⟨_, rfl⟩ f_6_forgets v_6_forgets l_6_206 ⟨rfl, by decide⟩ rfl (Nat.le_of_ble_eq_true rfl) rfl (Nat.le_of_ble_eq_true rfl) (c6_forgets S τ9 (repK_fr hO.1 (fr_trans hF f9) (fun k _ _ q => by unfold P1 at q; omega) k7) hO.1) ?_
        rintro τ11 ⟨f11, r11⟩
        refine AW.run 1 [] (49, [(0, .inr (.inr (5, 0, 0))), (1, .inl (nI b)), (2, .inl (nI d)), (3, .inl (nI (d + 1)))], [.inl (nI d)], τ11) [] rfl ?_ ?_
        · exact trivial
        refine AW.reti ⟨_, rfl⟩ rfl ?_
        exact ⟨by rw [hg, hu]; rw [if_neg (by rw [hp21]; decide)]; rfl, (fr_trans (fr_trans (fr_trans (fr_trans fr_rfl f7) (fr_12 hF)) (fr_12 f9)) f11), r11⟩
  · intro T τ hI
    obtain ⟨hd0, hF, hT, hOT, hTn, hg⟩ := hI
    refine AW.run 4 [true] (45, [(0, .inr (.inr (5, 0, 0))), (1, .inl (nI b)), (2, .inl (-9)), (3, .inl (nI 61))], [.inr (.inr (5, 0, 0))], τ) [icP .gt (nI 61) 60] rfl ?_ ?_
    · exact allP1 (nI_lt (a := 60) (b := 61) (by decide) (by decide))
    refine AW.callVV (d' := 2) [] [] ⟨_, rfl⟩ f_6_forgets v_6_forgets l_6_206 ⟨rfl, by decide⟩ rfl (Nat.le_of_ble_eq_true rfl) rfl (Nat.le_of_ble_eq_true rfl) (c6_forgets S τ (repK_fr hO.1 hF (fun k _ _ q => by unfold P1 at q; omega) k7) hO.1) ?_
    rintro τ12 ⟨f12, r12⟩
    refine AW.run 1 [] (49, [(0, .inr (.inr (5, 0, 0))), (1, .inl (nI b)), (2, .inl (-9)), (3, .inl (nI 61))], [.inl (-9)], τ12) [] rfl ?_ ?_
    · exact trivial
    refine AW.reti ⟨_, rfl⟩ rfl ?_
    exact ⟨by rw [hg]; rfl, (fr_trans (fr_trans (fr_trans fr_rfl f7) (fr_12 hF)) f12), r12⟩
set_option maxHeartbeats 4000000 in
set_option maxRecDepth 100000 in
theorem c6_endWhen (S : Sv) (σ : St) (hR : RepM (σ 5 0) S) (hO : SOK S) : Ct M6_endWhen 5 [.inr (.inr (5, 0, 0))] σ (PI fun r9 σ' => optI (endN 61 0 S) = r9 ∧ Fr P2 σ σ' ∧ RepM (σ' 5 0) S) := by
  refine Ct.of f_6_endWhen (Nat.le_of_ble_eq_true rfl) ?_
  show AW M6_endWhen 5 _ (0, [(0, .inr (.inr (5, 0, 0)))], [], σ)
  have hn8 : Sn S ≤ 8 := hO.1
  refine AW.run 1 [] (1, [(0, .inr (.inr (5, 0, 0)))], [.inr (.inr (5, 0, 0))], σ) [] rfl ?_ ?_
  · exact trivial
  refine AW.callVV (d' := 2) [] [] ⟨_, rfl⟩ f_6_thinks v_6_thinks l_6_203 ⟨rfl, by decide⟩ rfl (Nat.le_of_ble_eq_true rfl) rfl (Nat.le_of_ble_eq_true rfl) (c6_thinks S σ hR hO.1) ?_
  rintro τ13 ⟨f13, r13, k13⟩
  refine AW.run 4 [] (9, [(2, .inl 0), (1, .inl (-9)), (0, .inr (.inr (5, 0, 0)))], [], τ13) [] rfl ?_ ?_
  · exact trivial
  refine AW.pick [2, 1, 0] (ls' := [(0, .inr (.inr (5, 0, 0))), (1, .inl (-9)), (2, .inl (nI 0))]) rfl ?_
  refine AW.loop (α := Sv) 9 61 (fun d T => [(0, .inr (.inr (5, 0, 0))), (1, .inl (-9)), (2, .inl (nI d))]) (fun d T τ => 0 ≤ d ∧ Fr P1 τ13 τ ∧ RepM (τ 5 0) T ∧ SOK T ∧ Sn T = Sn S ∧ endN 61 0 S = endN (61 - d) d T) ?_ ?_ 61 0 S _ (by omega) ⟨Nat.le_refl _, (fr_rfl (P := P1)), r13, hO, rfl, rfl⟩
  · intro d T τ hd hI hk
    obtain ⟨hd0, hF, hT, hOT, hTn, hg⟩ := hI
    have hu : endN (61 - d) d T = if bN (Sw T) = 0 then some d else endN (61 - (d + 1)) (d + 1) (dayS T) := by
      obtain ⟨m, hm⟩ : ∃ m, 61 - d = m + 1 := ⟨60 - d, by omega⟩
      rw [hm, show 61 - (d + 1) = m by omega]; rfl
    refine AW.run 6 [false, false] (20, [(0, .inr (.inr (5, 0, 0))), (1, .inl (-9)), (2, .inl (nI d))], [.inr (.inr (5, 0, 0))], τ) [¬ icP .gt (nI d) 60, ¬ icP .ge ((-9) : Int32) 0] rfl ?_ ?_
    · exact ⟨(nI_nlt (a := 60) (b := d) (by omega) (by omega)), allP1 (by decide : ¬ ((0 : Int32) ≤ (-9)))⟩
    refine AW.callVI (d' := 1) [] [] ⟨_, rfl⟩ f_6_whole v_6_whole l_6_197 ⟨rfl, by decide⟩ rfl (Nat.le_of_ble_eq_true rfl) rfl (Nat.le_of_ble_eq_true rfl) (c6_whole T τ hT hOT) ?_
    rintro _ _ ⟨rfl, rfl⟩
    by_cases h23_1 : bN (Sw T) = 0
    · skip
      refine AW.run 5 [false] (34, [(1, .inl (nI d)), (0, .inr (.inr (5, 0, 0))), (2, .inl (nI d))], [.inr (.inr (5, 0, 0))], τ) [¬ icP .ne (bI (Sw T)) 0] rfl ?_ ?_
      · exact allP1 (fun q => q (bI_z.mpr h23_1))
      refine AW.callVV (d' := 4) [] [] ⟨_, rfl⟩ f_6_goesDay v_6_goesDay l_6_188 ⟨rfl, by decide⟩ rfl (Nat.le_of_ble_eq_true rfl) rfl (Nat.le_of_ble_eq_true rfl) (c6_goesDay T τ hT hOT ) ?_
      rintro τ14 ⟨f14, r14⟩
      refine AW.run 2 [] (9, [(2, .inl ((nI d) + 1)), (1, .inl (nI d)), (0, .inr (.inr (5, 0, 0)))], [], τ14) [] rfl ?_ ?_
      · exact trivial
      rw [nI_1 d]
      refine AW.pick [2, 1, 0] (ls' := [(0, .inr (.inr (5, 0, 0))), (1, .inl (nI d)), (2, .inl (nI (d + 1)))]) rfl ?_
      by_cases h12_1 : (60 : Int32) < (nI (d + 1))
      · skip
        refine AW.run 4 [true] (44, [(0, .inr (.inr (5, 0, 0))), (1, .inl (nI d)), (2, .inl (nI (d + 1)))], [.inr (.inr (5, 0, 0))], τ14) [icP .gt (nI (d + 1)) 60] rfl ?_ ?_
        · exact allP1 (h12_1)
        refine AW.callVV (d' := 2) [] [] ⟨_, rfl⟩ f_6_forgets v_6_forgets l_6_206 ⟨rfl, by decide⟩ rfl (Nat.le_of_ble_eq_true rfl) rfl (Nat.le_of_ble_eq_true rfl) (c6_forgets S τ14 (repK_fr hO.1 (fr_trans hF f14) (fun k _ _ q => by unfold P1 at q; omega) k13) hO.1) ?_
        rintro τ15 ⟨f15, r15⟩
        refine AW.run 1 [] (48, [(0, .inr (.inr (5, 0, 0))), (1, .inl (nI d)), (2, .inl (nI (d + 1)))], [.inl (nI d)], τ15) [] rfl ?_ ?_
        · exact trivial
        refine AW.reti ⟨_, rfl⟩ rfl ?_
        exact ⟨by rw [hg, hu]; rw [if_pos (by assumption)]; rfl, (fr_trans (fr_trans (fr_trans (fr_trans fr_rfl f13) (fr_12 hF)) (fr_12 f14)) f15), r15⟩
      · skip
        refine AW.run 6 [false, true] (44, [(0, .inr (.inr (5, 0, 0))), (1, .inl (nI d)), (2, .inl (nI (d + 1)))], [.inr (.inr (5, 0, 0))], τ14) [¬ icP .gt (nI (d + 1)) 60, icP .ge (nI d) 0] rfl ?_ ?_
        · exact ⟨(h12_1), allP1 (nI_pos' (by omega))⟩
        refine AW.callVV (d' := 2) [] [] ⟨_, rfl⟩ f_6_forgets v_6_forgets l_6_206 ⟨rfl, by decide⟩ rfl (Nat.le_of_ble_eq_true rfl) rfl (Nat.le_of_ble_eq_true rfl) (c6_forgets S τ14 (repK_fr hO.1 (fr_trans hF f14) (fun k _ _ q => by unfold P1 at q; omega) k13) hO.1) ?_
        rintro τ16 ⟨f16, r16⟩
        refine AW.run 1 [] (48, [(0, .inr (.inr (5, 0, 0))), (1, .inl (nI d)), (2, .inl (nI (d + 1)))], [.inl (nI d)], τ16) [] rfl ?_ ?_
        · exact trivial
        refine AW.reti ⟨_, rfl⟩ rfl ?_
        exact ⟨by rw [hg, hu]; rw [if_pos (by assumption)]; rfl, (fr_trans (fr_trans (fr_trans (fr_trans fr_rfl f13) (fr_12 hF)) (fr_12 f14)) f16), r16⟩
    · skip
      refine AW.run 4 [true] (34, [(1, .inl (-9)), (0, .inr (.inr (5, 0, 0))), (2, .inl (nI d))], [.inr (.inr (5, 0, 0))], τ) [icP .ne (bI (Sw T)) 0] rfl ?_ ?_
      · exact allP1 (fun q => h23_1 (bI_z.mp q))
      refine AW.callVV (d' := 4) [] [] ⟨_, rfl⟩ f_6_goesDay v_6_goesDay l_6_188 ⟨rfl, by decide⟩ rfl (Nat.le_of_ble_eq_true rfl) rfl (Nat.le_of_ble_eq_true rfl) (c6_goesDay T τ hT hOT ) ?_
      rintro τ17 ⟨f17, r17⟩
      refine AW.run 2 [] (9, [(2, .inl ((nI d) + 1)), (1, .inl (-9)), (0, .inr (.inr (5, 0, 0)))], [], τ17) [] rfl ?_ ?_
      · exact trivial
      rw [nI_1 d]
      refine AW.pick [2, 1, 0] (ls' := [(0, .inr (.inr (5, 0, 0))), (1, .inl (-9)), (2, .inl (nI (d + 1)))]) rfl ?_
      exact hk (dayS T) _ ⟨by omega, (fr_trans hF f17), r17, (SOK_day hOT), by rw [day_n]; exact hTn, by rw [hg, hu]; rw [if_neg (by assumption)]⟩
  · intro T τ hI
    obtain ⟨hd0, hF, hT, hOT, hTn, hg⟩ := hI
    refine AW.run 4 [true] (44, [(0, .inr (.inr (5, 0, 0))), (1, .inl (-9)), (2, .inl (nI 61))], [.inr (.inr (5, 0, 0))], τ) [icP .gt (nI 61) 60] rfl ?_ ?_
    · exact allP1 (nI_lt (a := 60) (b := 61) (by decide) (by decide))
    refine AW.callVV (d' := 2) [] [] ⟨_, rfl⟩ f_6_forgets v_6_forgets l_6_206 ⟨rfl, by decide⟩ rfl (Nat.le_of_ble_eq_true rfl) rfl (Nat.le_of_ble_eq_true rfl) (c6_forgets S τ (repK_fr hO.1 hF (fun k _ _ q => by unfold P1 at q; omega) k13) hO.1) ?_
    rintro τ18 ⟨f18, r18⟩
    refine AW.run 1 [] (48, [(0, .inr (.inr (5, 0, 0))), (1, .inl (-9)), (2, .inl (nI 61))], [.inl (-9)], τ18) [] rfl ?_ ?_
    · exact trivial
    refine AW.reti ⟨_, rfl⟩ rfl ?_
    exact ⟨by rw [hg]; rfl, (fr_trans (fr_trans (fr_trans fr_rfl f13) (fr_12 hF)) f18), r18⟩
