/-! THE MODEL'S DAYS, SETS, SUMS -/
set_option maxHeartbeats 4000000 in
set_option maxRecDepth 100000 in
theorem c6_goesDay (S : Sv) (σ : St) (hR : RepM (σ 5 0) S) (hO : SOK S) : Ct M6_goesDay 4 [.inr (.inr (5, 0, 0))] σ (PV fun σ' => Fr P1 σ σ' ∧ RepM (σ' 5 0) (dayS S)) := by
  refine Ct.of f_6_goesDay (Nat.le_of_ble_eq_true rfl) ?_
  show AW M6_goesDay 4 _ (0, [(0, .inr (.inr (5, 0, 0)))], [], σ)
  have hn8 : Sn S ≤ 8 := hO.1
  have hR0 : RepM (σ 5 0) (withQ S (addQ S 0)) := by rw [show addQ S 0 = Sq S from by funext j; simp [addQ]]; exact hR
  refine AW.run 2 [] (2, [(1, .inl 0), (0, .inr (.inr (5, 0, 0)))], [], σ) [] rfl ?_ ?_
  · exact trivial
  refine AW.pick [1, 0] (ls' := [(0, .inr (.inr (5, 0, 0))), (1, .inl (nI 0))]) rfl ?_
  refine AW.loop (α := Unit) 2 (Sn S) (fun i _ => [(0, .inr (.inr (5, 0, 0))), (1, .inl (nI i))]) (fun i _ τ => Fr P1 σ τ ∧ RepM (τ 5 0) (withQ S (addQ S i))) ?_ ?_ (Sn S) 0 () _ (by omega) ⟨fr_rfl, hR0⟩
  · intro i _ τ hi hI hk
    obtain ⟨hS1, hR1⟩ := hI
    have hi8 : i < 8 := by omega
    have e7 := hR1.1.1
    have e5 : τ 5 0 5 (nI i).toNatClampNeg = nI (Sq S i) := by rw [cl8 hi8, ← addQ_at (S := S) (i := i)]; exact (hR1.2 i hi).2.2.2.1
    have hq9 := (hO.2.1 i).2.2.2
    have hr9 := rise_le hO i
    skip
    refine AW.run 3 [] (7, [(0, .inr (.inr (5, 0, 0))), (1, .inl (nI i))], [.inl (τ 5 0 0 7), .inl (nI i)], τ) [] rfl ?_ ?_
    · exact trivial
    rw [e7]
    refine AW.run 6 [false] (17, [(0, .inr (.inr (5, 0, 0))), (1, .inl (nI i))], [.inl (nI i), .inr (.inr (5, 0, 0)), .inl (nI i), .inr (.inr (5, 0, 5))], τ) [¬ icP .ge (nI i) (nI (Sn S))] rfl ?_ ?_
    · exact allP1 (nI_ge hi (by omega))
    refine AW.callVI (d' := 0) [.inl (nI i)] [.inl (nI i), .inr (.inr (5, 0, 5))] ⟨_, rfl⟩ f_6_isWhole v_6_isWhole l_6_108 ⟨rfl, by decide⟩ rfl (Nat.le_of_ble_eq_true rfl) rfl (Nat.le_of_ble_eq_true rfl) (c6_isWhole (withQ S (addQ S i)) τ hR1 (by first | exact hO.1 | exact hn8) i hi) ?_
    rintro v _ ⟨rfl, hv⟩
    rcases hv with ⟨rfl, hp17⟩ | ⟨rfl, hp17⟩
    · skip
      refine AW.run 5 [false] (29, [(0, .inr (.inr (5, 0, 0))), (1, .inl (nI i))], [.inl (τ 5 0 5 (nI i).toNatClampNeg), .inl (nI i), .inr (.inr (5, 0, 5))], τ) [¬ icP .eq (1 : Int32) 0, vp_in (nI i) 8] rfl ?_ ?_
      · exact ⟨(by decide : ¬ ((1 : Int32) = 0)), allP1 (by exact in8 (by omega))⟩
      rw [e5]
      refine AW.run 2 [] (31, [(0, .inr (.inr (5, 0, 0))), (1, .inl (nI i))], [.inl (nI i), .inr (.inr (5, 0, 0)), .inl (nI (Sq S i)), .inl (nI i), .inr (.inr (5, 0, 5))], τ) [] rfl ?_ ?_
      · exact trivial
      refine AW.callVI (d' := 0) [.inl (nI i)] [.inl (nI (Sq S i)), .inl (nI i), .inr (.inr (5, 0, 5))] ⟨_, rfl⟩ f_6_rises v_6_rises l_6_182 ⟨rfl, by decide⟩ rfl (Nat.le_of_ble_eq_true rfl) rfl (Nat.le_of_ble_eq_true rfl) (c6_rises (withQ S (addQ S i)) τ hR1 (SOK_add hO i) i hi) ?_
      rintro _ _ ⟨rfl, rfl⟩
      refine AW.run 1 [] (35, [(0, .inr (.inr (5, 0, 0))), (1, .inl (nI i))], [.inl ((nI (Sq S i)) + (nI (riseS S i))), .inl (nI i), .inr (.inr (5, 0, 5))], τ) [] rfl ?_ ?_
      · exact trivial
      rw [nI_add]
      refine AW.callSI (d' := 0) [.inl (nI (Sq S i + riseS S i))] [.inl (nI i), .inr (.inr (5, 0, 5))] ⟨_, rfl⟩ f_6_within s_6_within l_6_170 rfl (Nat.le_of_ble_eq_true rfl) rfl (Nat.le_of_ble_eq_true rfl) (c6_within (Sq S i + riseS S i) (by omega) τ) ?_
      rintro _ _ ⟨rfl, rfl⟩
      refine AW.run 1 [] (47, [(0, .inr (.inr (5, 0, 0))), (1, .inl (nI i))], [.inl (nI (min 99 (Sq S i + riseS S i))), .inl (nI i), .inr (.inr (5, 0, 5))], τ) [] rfl ?_ ?_
      · exact trivial
      refine AW.run 3 [] (2, [(1, .inl ((nI i) + 1)), (0, .inr (.inr (5, 0, 0)))], [], (setM τ 5 0 5 (nI i).toNatClampNeg (nI (min 99 (Sq S i + riseS S i))))) [vp_in (nI i) 8] rfl ?_ ?_
      · exact allP1 (by exact in8 (by omega))
      rw [nI_1 i, cl8 hi8]
      refine AW.pick [1, 0] (ls' := [(0, .inr (.inr (5, 0, 0))), (1, .inl (nI (i + 1)))]) rfl ?_
      exact hk () _ ⟨fr_set hS1 (p1_q (by omega) (by omega)), by rw [addQ_hit (S := S) (i := i) hp17]; exact repM_q hR1⟩
    · skip
      refine AW.run 5 [true] (47, [(0, .inr (.inr (5, 0, 0))), (1, .inl (nI i))], [.inl (τ 5 0 5 (nI i).toNatClampNeg), .inl (nI i), .inr (.inr (5, 0, 5))], τ) [icP .eq (0 : Int32) 0, vp_in (nI i) 8] rfl ?_ ?_
      · exact ⟨(by decide : ((0 : Int32) = 0)), allP1 (by exact in8 (by omega))⟩
      rw [e5]
      refine AW.run 3 [] (2, [(1, .inl ((nI i) + 1)), (0, .inr (.inr (5, 0, 0)))], [], (setM τ 5 0 5 (nI i).toNatClampNeg (nI (Sq S i)))) [vp_in (nI i) 8] rfl ?_ ?_
      · exact allP1 (by exact in8 (by omega))
      rw [nI_1 i, cl8 hi8]
      refine AW.pick [1, 0] (ls' := [(0, .inr (.inr (5, 0, 0))), (1, .inl (nI (i + 1)))]) rfl ?_
      exact hk () _ ⟨fr_set hS1 (p1_q (by omega) (by omega)), by rw [addQ_miss (S := S) (i := i) (fun h => absurd (hp17.symm.trans h) (by decide))]; have h9 := repM_q (k := i) (q := Sq S i) hR1; rw [show fu (Sq (withQ S (addQ S i))) i (Sq S i) = addQ S i from by rw [← addQ_at (S := S) (i := i)]; exact fu_self _ _] at h9; exact h9⟩
  · intro _ τ hI
    obtain ⟨hS1, hR1⟩ := hI
    have e7 := hR1.1.1
    rw [addQ_out hO (Nat.le_refl _) hn8] at hR1
    have hO1 := SOK_add hO 8
    refine AW.run 3 [] (7, [(0, .inr (.inr (5, 0, 0))), (1, .inl (nI (Sn S)))], [.inl (τ 5 0 0 7), .inl (nI (Sn S))], τ) [] rfl ?_ ?_
    · exact trivial
    rw [e7]
    refine AW.run 2 [true] (55, [(0, .inr (.inr (5, 0, 0))), (1, .inl (nI (Sn S)))], [.inr (.inr (5, 0, 0))], τ) [icP .ge (nI (Sn S)) (nI (Sn S))] rfl ?_ ?_
    · exact allP1 (nI_le (Nat.le_refl _) (by omega))
    refine AW.callVV (d' := 3) [] [] ⟨_, rfl⟩ f_6_burstsAll v_6_burstsAll l_6_185 ⟨rfl, by decide⟩ rfl (Nat.le_of_ble_eq_true rfl) rfl (Nat.le_of_ble_eq_true rfl) (c6_burstsAll (withQ S (addQ S 8)) τ hR1 hO1) ?_
    rintro τ1 ⟨hB1, hB2⟩
    have q9 : τ1 5 0 0 10 + 1 = nI (Sd S + 1) := by rw [hB2.1.2.2.2, nI_1, settle_d]; rfl
    refine AW.run 5 [] (65, [(0, .inr (.inr (5, 0, 0))), (1, .inl (nI (Sn S)))], [.inl ((τ1 5 0 0 10) + 1), .inr (.inr (5, 0, 0))], τ1) [] rfl ?_ ?_
    · exact trivial
    rw [q9]
    refine AW.run 1 [] (68, [(0, .inr (.inr (5, 0, 0))), (1, .inl (nI (Sn S)))], [], (setM τ1 5 0 0 10 (nI (Sd S + 1)))) [] rfl ?_ ?_
    · exact trivial
    refine AW.retv ⟨_, rfl⟩ rfl ?_
    exact ⟨fr_set (fr_trans hS1 hB1) (p1_f (by omega) (by omega)), repM_d hB2⟩
set_option maxHeartbeats 4000000 in
set_option maxRecDepth 100000 in
theorem c6_goesAll (S : Sv) (σ : St) (hR : RepM (σ 5 0) S) (hO : SOK S) (n : Nat) (hn : n < 2 ^ 31) : Ct M6_goesAll 5 [.inr (.inr (5, 0, 0)), .inl (nI n)] σ (PV fun σ' => Fr P1 σ σ' ∧ RepM (σ' 5 0) (passS n S)) := by
  refine Ct.of f_6_goesAll (Nat.le_of_ble_eq_true rfl) ?_
  show AW M6_goesAll 5 _ (0, [(0, .inr (.inr (5, 0, 0))), (1, .inl (nI n))], [], σ)
  refine AW.run 2 [] (2, [(2, .inl 0), (0, .inr (.inr (5, 0, 0))), (1, .inl (nI n))], [], σ) [] rfl ?_ ?_
  · exact trivial
  refine AW.pick [1, 2, 0] (ls' := [(0, .inr (.inr (5, 0, 0))), (1, .inl (nI n)), (2, .inl (nI 0))]) rfl ?_
  refine AW.loop (α := Unit) 2 (n) (fun i _ => [(0, .inr (.inr (5, 0, 0))), (1, .inl (nI n)), (2, .inl (nI i))]) (fun i _ τ => Fr P1 σ τ ∧ RepM (τ 5 0) (passS i S)) ?_ ?_ (n) 0 () _ (by omega) ⟨fr_rfl, hR⟩
  · intro i _ τ hi hI hk
    obtain ⟨hS1, hR1⟩ := hI
    skip
    refine AW.run 4 [false] (8, [(0, .inr (.inr (5, 0, 0))), (1, .inl (nI n)), (2, .inl (nI i))], [.inr (.inr (5, 0, 0))], τ) [¬ icP .ge (nI i) (nI n)] rfl ?_ ?_
    · exact allP1 (nI_ge hi (by omega))
    refine AW.callVV (d' := 4) [] [] ⟨_, rfl⟩ f_6_goesDay v_6_goesDay l_6_188 ⟨rfl, by decide⟩ rfl (Nat.le_of_ble_eq_true rfl) rfl (Nat.le_of_ble_eq_true rfl) (c6_goesDay (passS i S) τ hR1 (SOK_pass i hO)) ?_
    rintro τ1 ⟨hB1, hB2⟩
    refine AW.run 2 [] (2, [(2, .inl ((nI i) + 1)), (0, .inr (.inr (5, 0, 0))), (1, .inl (nI n))], [], τ1) [] rfl ?_ ?_
    · exact trivial
    rw [nI_1 i]
    refine AW.pick [1, 2, 0] (ls' := [(0, .inr (.inr (5, 0, 0))), (1, .inl (nI n)), (2, .inl (nI (i + 1)))]) rfl ?_
    exact hk () _ ⟨fr_trans hS1 hB1, by rw [pass_succ]; exact hB2⟩
  · intro _ τ hI
    obtain ⟨hS1, hR1⟩ := hI
    refine AW.run 3 [true] (17, [(0, .inr (.inr (5, 0, 0))), (1, .inl (nI n)), (2, .inl (nI (n)))], [], τ) [icP .ge (nI (n)) (nI n)] rfl ?_ ?_
    · exact allP1 (nI_le (Nat.le_refl _) (by omega))
    refine AW.retv ⟨_, rfl⟩ rfl ?_
    exact ⟨hS1, hR1⟩
set_option maxHeartbeats 4000000 in
set_option maxRecDepth 100000 in
theorem c6_whole (S : Sv) (σ : St) (hR : RepM (σ 5 0) S) (hO : SOK S) : Ct M6_whole 1 [.inr (.inr (5, 0, 0))] σ (PI fun r9 σ' => bI (Sw S) = r9 ∧ σ = σ') := by
  refine Ct.of f_6_whole (Nat.le_of_ble_eq_true rfl) ?_
  show AW M6_whole 1 _ (0, [(0, .inr (.inr (5, 0, 0)))], [], σ)
  have hn8 : Sn S ≤ 8 := hO.1
  have e7 := hR.1.1
  refine AW.run 4 [] (4, [(2, .inl 0), (1, .inl 0), (0, .inr (.inr (5, 0, 0)))], [], σ) [] rfl ?_ ?_
  · exact trivial
  refine AW.pick [2, 1, 0] (ls' := [(0, .inr (.inr (5, 0, 0))), (1, .inl 0), (2, .inl (nI 0))]) rfl ?_
  refine AW.eq (c' := (4, [(0, .inr (.inr (5, 0, 0))), (1, .inl (bI (pre (Sw S) 0))), (2, .inl (nI 0))], [], σ)) (by rw [pre_0]) ?_
  refine AW.loop (α := Unit) 4 (Sn S) (fun i _ => [(0, .inr (.inr (5, 0, 0))), (1, .inl (bI (pre (Sw S) i))), (2, .inl (nI i))]) (fun i _ τ => σ = τ) ?_ ?_ (Sn S) 0 () _ (by omega) rfl
  · intro i _ τ hi hI hk
    subst hI
    have hi8 : i < 8 := by omega
    refine AW.run 3 [] (9, [(0, .inr (.inr (5, 0, 0))), (1, .inl (bI (pre (Sw S) i))), (2, .inl (nI i))], [.inl (σ 5 0 0 7), .inl (nI i)], σ) [] rfl ?_ ?_
    · exact trivial
    rw [e7]
    refine AW.run 4 [false] (15, [(0, .inr (.inr (5, 0, 0))), (1, .inl (bI (pre (Sw S) i))), (2, .inl (nI i))], [.inl (nI i), .inr (.inr (5, 0, 0)), .inl (bI (pre (Sw S) i))], σ) [¬ icP .ge (nI i) (nI (Sn S))] rfl ?_ ?_
    · exact allP1 (nI_ge hi (by omega))
    refine AW.callVI (d' := 0) [.inl (nI i)] [.inl (bI (pre (Sw S) i))] ⟨_, rfl⟩ f_6_isWhole v_6_isWhole l_6_108 ⟨rfl, by decide⟩ rfl (Nat.le_of_ble_eq_true rfl) rfl (Nat.le_of_ble_eq_true rfl) (c6_isWhole S σ hR (by first | exact hO.1 | exact hn8) i hi) ?_
    rintro v _ ⟨rfl, hv⟩
    rcases hv with ⟨rfl, hp15⟩ | ⟨rfl, hp15⟩
    · skip
      refine AW.run 6 [false] (29, [(0, .inr (.inr (5, 0, 0))), (1, .inl (bI (pre (Sw S) i))), (2, .inl (nI i))], [.inl ((bI (pre (Sw S) i)) ||| (1 <<< ((nI i) &&& 31)))], σ) [¬ icP .eq (1 : Int32) 0] rfl ?_ ?_
      · exact allP1 (by decide : ¬ ((1 : Int32) = 0))
      rw [pre_t (hp15) hi8]
      refine AW.run 3 [] (4, [(2, .inl ((nI i) + 1)), (1, .inl (bI (pre (Sw S) (i + 1)))), (0, .inr (.inr (5, 0, 0)))], [], σ) [] rfl ?_ ?_
      · exact trivial
      rw [nI_1 i]
      refine AW.pick [2, 1, 0] (ls' := [(0, .inr (.inr (5, 0, 0))), (1, .inl (bI (pre (Sw S) (i + 1)))), (2, .inl (nI (i + 1)))]) rfl ?_
      exact hk () _ rfl
    · skip
      refine AW.run 3 [true] (29, [(0, .inr (.inr (5, 0, 0))), (1, .inl (bI (pre (Sw S) i))), (2, .inl (nI i))], [.inl ((bI (pre (Sw S) i)) ||| 0)], σ) [icP .eq (0 : Int32) 0] rfl ?_ ?_
      · exact allP1 (by decide : ((0 : Int32) = 0))
      rw [pre_f (hp15)]
      refine AW.run 3 [] (4, [(2, .inl ((nI i) + 1)), (1, .inl (bI (pre (Sw S) (i + 1)))), (0, .inr (.inr (5, 0, 0)))], [], σ) [] rfl ?_ ?_
      · exact trivial
      rw [nI_1 i]
      refine AW.pick [2, 1, 0] (ls' := [(0, .inr (.inr (5, 0, 0))), (1, .inl (bI (pre (Sw S) (i + 1)))), (2, .inl (nI (i + 1)))]) rfl ?_
      exact hk () _ rfl
  · intro _ τ hI
    subst hI
    refine AW.eq (c' := (4, [(0, .inr (.inr (5, 0, 0))), (1, .inl (bI (Sw S))), (2, .inl (nI (Sn S)))], [], σ)) (by rw [pre_end (w_out hO)]) ?_
    refine AW.run 3 [] (9, [(0, .inr (.inr (5, 0, 0))), (1, .inl (bI (Sw S))), (2, .inl (nI (Sn S)))], [.inl (σ 5 0 0 7), .inl (nI (Sn S))], σ) [] rfl ?_ ?_
    · exact trivial
    rw [e7]
    refine AW.run 2 [true] (37, [(0, .inr (.inr (5, 0, 0))), (1, .inl (bI (Sw S))), (2, .inl (nI (Sn S)))], [.inl (bI (Sw S))], σ) [icP .ge (nI (Sn S)) (nI (Sn S))] rfl ?_ ?_
    · exact allP1 (nI_le (Nat.le_refl _) (by omega))
    refine AW.reti ⟨_, rfl⟩ rfl ?_
    exact ⟨rfl, rfl⟩
set_option maxHeartbeats 4000000 in
set_option maxRecDepth 100000 in
theorem c6_allPress (S : Sv) (σ : St) (hR : RepM (σ 5 0) S) (hO : SOK S) : Ct M6_allPress 1 [.inr (.inr (5, 0, 0))] σ (PI fun r9 σ' => nI (psum S 8) = r9 ∧ σ = σ') := by
  refine Ct.of f_6_allPress (Nat.le_of_ble_eq_true rfl) ?_
  show AW M6_allPress 1 _ (0, [(0, .inr (.inr (5, 0, 0)))], [], σ)
  have hn8 : Sn S ≤ 8 := hO.1
  have e7 := hR.1.1
  refine AW.run 4 [] (4, [(2, .inl 0), (1, .inl 0), (0, .inr (.inr (5, 0, 0)))], [], σ) [] rfl ?_ ?_
  · exact trivial
  refine AW.pick [2, 1, 0] (ls' := [(0, .inr (.inr (5, 0, 0))), (1, .inl (nI (psum S 0))), (2, .inl (nI 0))]) rfl ?_
  refine AW.loop (α := Unit) 4 (Sn S) (fun i _ => [(0, .inr (.inr (5, 0, 0))), (1, .inl (nI (psum S i))), (2, .inl (nI i))]) (fun i _ τ => σ = τ) ?_ ?_ (Sn S) 0 () _ (by omega) rfl
  · intro i _ τ hi hI hk
    subst hI
    have e5 : σ 5 0 5 (nI i).toNatClampNeg = nI (Sq S i) := by rw [cl8 (by omega)]; exact (hR.2 i hi).2.2.2.1
    refine AW.run 3 [] (9, [(0, .inr (.inr (5, 0, 0))), (1, .inl (nI (psum S i))), (2, .inl (nI i))], [.inl (σ 5 0 0 7), .inl (nI i)], σ) [] rfl ?_ ?_
    · exact trivial
    rw [e7]
    refine AW.run 4 [false] (15, [(0, .inr (.inr (5, 0, 0))), (1, .inl (nI (psum S i))), (2, .inl (nI i))], [.inl (nI i), .inr (.inr (5, 0, 0)), .inl (nI (psum S i))], σ) [¬ icP .ge (nI i) (nI (Sn S))] rfl ?_ ?_
    · exact allP1 (nI_ge hi (by omega))
    refine AW.callVI (d' := 0) [.inl (nI i)] [.inl (nI (psum S i))] ⟨_, rfl⟩ f_6_isWhole v_6_isWhole l_6_108 ⟨rfl, by decide⟩ rfl (Nat.le_of_ble_eq_true rfl) rfl (Nat.le_of_ble_eq_true rfl) (c6_isWhole S σ hR (by first | exact hO.1 | exact hn8) i hi) ?_
    rintro v _ ⟨rfl, hv⟩
    rcases hv with ⟨rfl, hp15⟩ | ⟨rfl, hp15⟩
    · skip
      refine AW.run 5 [false] (27, [(0, .inr (.inr (5, 0, 0))), (1, .inl (nI (psum S i))), (2, .inl (nI i))], [.inl (σ 5 0 5 (nI i).toNatClampNeg), .inl (nI (psum S i))], σ) [¬ icP .eq (1 : Int32) 0, vp_in (nI i) 8] rfl ?_ ?_
      · exact ⟨(by decide : ¬ ((1 : Int32) = 0)), allP1 (by exact in8 (by omega))⟩
      rw [e5]
      refine AW.run 2 [] (32, [(0, .inr (.inr (5, 0, 0))), (1, .inl (nI (psum S i))), (2, .inl (nI i))], [.inl ((nI (psum S i)) + (nI (Sq S i)))], σ) [] rfl ?_ ?_
      · exact trivial
      rw [nI_add]
      refine AW.eq (c' := (32, [(0, .inr (.inr (5, 0, 0))), (1, .inl (nI (psum S i))), (2, .inl (nI i))], [.inl (nI (psum S (i + 1)))], σ)) (by rw [show psum S (i + 1) = psum S i + Sq S i from by show psum S i + (if Sw S i = true then Sq S i else 0) = _; rw [if_pos hp15]]) ?_
      refine AW.run 3 [] (4, [(2, .inl ((nI i) + 1)), (1, .inl (nI (psum S (i + 1)))), (0, .inr (.inr (5, 0, 0)))], [], σ) [] rfl ?_ ?_
      · exact trivial
      rw [nI_1 i]
      refine AW.pick [2, 1, 0] (ls' := [(0, .inr (.inr (5, 0, 0))), (1, .inl (nI (psum S (i + 1)))), (2, .inl (nI (i + 1)))]) rfl ?_
      exact hk () _ rfl
    · skip
      refine AW.run 3 [true] (32, [(0, .inr (.inr (5, 0, 0))), (1, .inl (nI (psum S i))), (2, .inl (nI i))], [.inl ((nI (psum S i)) + 0)], σ) [icP .eq (0 : Int32) 0] rfl ?_ ?_
      · exact allP1 (by decide : ((0 : Int32) = 0))
      refine AW.eq (c' := (32, [(0, .inr (.inr (5, 0, 0))), (1, .inl (nI (psum S i))), (2, .inl (nI i))], [.inl (nI (psum S (i + 1)))], σ)) (by rw [show nI (psum S i) + 0 = nI (psum S i + 0) from nI_add _ 0, show psum S (i + 1) = psum S i + 0 from by show psum S i + (if Sw S i = true then Sq S i else 0) = _; rw [if_neg (by rw [hp15]; decide)]]) ?_
      refine AW.run 3 [] (4, [(2, .inl ((nI i) + 1)), (1, .inl (nI (psum S (i + 1)))), (0, .inr (.inr (5, 0, 0)))], [], σ) [] rfl ?_ ?_
      · exact trivial
      rw [nI_1 i]
      refine AW.pick [2, 1, 0] (ls' := [(0, .inr (.inr (5, 0, 0))), (1, .inl (nI (psum S (i + 1)))), (2, .inl (nI (i + 1)))]) rfl ?_
      exact hk () _ rfl
  · intro _ τ hI
    subst hI
    refine AW.run 3 [] (9, [(0, .inr (.inr (5, 0, 0))), (1, .inl (nI (psum S (Sn S)))), (2, .inl (nI (Sn S)))], [.inl (σ 5 0 0 7), .inl (nI (Sn S))], σ) [] rfl ?_ ?_
    · exact trivial
    rw [e7]
    refine AW.run 2 [true] (40, [(0, .inr (.inr (5, 0, 0))), (1, .inl (nI (psum S (Sn S)))), (2, .inl (nI (Sn S)))], [.inl (nI (psum S (Sn S)))], σ) [icP .ge (nI (Sn S)) (nI (Sn S))] rfl ?_ ?_
    · exact allP1 (nI_le (Nat.le_refl _) (by omega))
    refine AW.reti ⟨_, rfl⟩ rfl ?_
    exact ⟨by rw [psum_out hO 8 hn8], rfl⟩
