/-! WHO GOES FIRST, QUIET, TAKEN, FED, READY, GETS, PLACES, TIGHTEST, GAP, NEAR, CALM -/
set_option maxHeartbeats 4000000 in
set_option maxRecDepth 100000 in
theorem c6_firstToGo (S : Sv) (σ : St) (hR : RepM (σ 5 0) S) (hO : SOK S) : Ct M6_firstToGo 6 [.inr (.inr (5, 0, 0))] σ (PI fun r9 σ' => optI (firstN S 60 S) = r9 ∧ Fr P2 σ σ' ∧ RepM (σ' 5 0) S) := by
  refine Ct.of f_6_firstToGo (Nat.le_of_ble_eq_true rfl) ?_
  show AW M6_firstToGo 6 _ (0, [(0, .inr (.inr (5, 0, 0)))], [], σ)
  have hn8 : Sn S ≤ 8 := hO.1
  refine AW.run 6 [] (8, [(3, .inl 0), (2, .inl 61), (1, .inl (-9)), (0, .inr (.inr (5, 0, 0)))], [], σ) [] rfl ?_ ?_
  · exact trivial
  refine AW.pick [3, 2, 1, 0] (ls' := [(0, .inr (.inr (5, 0, 0))), (1, .inl (optI (fgM S 0).1)), (2, .inl (nI (fgM S 0).2)), (3, .inl (nI 0))]) rfl ?_
  refine AW.loop (α := Unit) 8 (Sn S) (fun i _ => [(0, .inr (.inr (5, 0, 0))), (1, .inl (optI (fgM S i).1)), (2, .inl (nI (fgM S i).2)), (3, .inl (nI i))]) (fun i _ τ => Fr P2 σ τ ∧ RepM (τ 5 0) S) ?_ ?_ (Sn S) 0 () _ (by omega) ⟨fr_rfl, hR⟩
  · intro i _ τ hi hI hk
    obtain ⟨hS1, hR1⟩ := hI
    have e7 := hR1.1.1
    have hb61 : (fgM S i).2 ≤ 61 := by
      obtain ⟨i1, i2⟩ := fgM_inv (S := S) i
      cases hm : (fgM S i).1 with
      | none => rw [(i1 hm).1]; exact Nat.le_refl _
      | some b => have := (i2 b hm).2.2.1; omega
    have hgi := (gone_iff (b := i) (S := S) 61 0).2
    have hu : fgM S (i + 1) = match goneN i 61 0 S with | none => fgM S i | some d => if 0 < d ∧ d < (fgM S i).2 then (some i, d) else fgM S i := rfl
    cases hg : goneN i 61 0 S with
    | none =>
      refine AW.run 3 [] (13, [(0, .inr (.inr (5, 0, 0))), (1, .inl (optI (fgM S i).1)), (2, .inl (nI (fgM S i).2)), (3, .inl (nI i))], [.inl (τ 5 0 0 7), .inl (nI i)], τ) [] rfl ?_ ?_
      · exact trivial
      rw [e7]
      refine AW.run 3 [false] (18, [(0, .inr (.inr (5, 0, 0))), (1, .inl (optI (fgM S i).1)), (2, .inl (nI (fgM S i).2)), (3, .inl (nI i))], [.inl (nI i), .inr (.inr (5, 0, 0))], τ) [¬ icP .ge (nI i) (nI (Sn S))] rfl ?_ ?_
      · exact allP1 (nI_ge hi (by omega))
      refine AW.callVI (d' := 5) [.inl (nI i)] [] ⟨_, rfl⟩ f_6_goesWhen v_6_goesWhen l_6_219 ⟨rfl, by decide⟩ rfl (Nat.le_of_ble_eq_true rfl) rfl (Nat.le_of_ble_eq_true rfl) (c6_goesWhen S τ hR1 hO i hi) ?_
      rintro _ τ19 ⟨rfl, f19, r19⟩
      rw [hg]
      dsimp only [optI]
      refine AW.run 5 [true] (8, [(3, .inl ((nI i) + 1)), (4, .inl (-9)), (0, .inr (.inr (5, 0, 0))), (1, .inl (optI (fgM S i).1)), (2, .inl (nI (fgM S i).2))], [], τ19) [icP .le ((-9) : Int32) 0] rfl ?_ ?_
      · exact allP1 (by decide : (((-9) : Int32) ≤ 0))
      rw [nI_1 i]
      refine AW.pick [2, 3, 4, 0] (ls' := [(0, .inr (.inr (5, 0, 0))), (1, .inl (optI (fgM S i).1)), (2, .inl (nI (fgM S i).2)), (3, .inl (nI (i + 1)))]) rfl ?_
      have hst : fgM S (i + 1) = fgM S i := by rw [hu, hg]
      have hk2 := hk () τ19 ⟨(fr_trans hS1 f19), r19⟩
      rw [hst] at hk2
      exact hk2
    | some d =>
      obtain ⟨-, hd61, -, -⟩ := hgi d hg
      by_cases h0 : d = 0
      · subst h0
        refine AW.run 3 [] (13, [(0, .inr (.inr (5, 0, 0))), (1, .inl (optI (fgM S i).1)), (2, .inl (nI (fgM S i).2)), (3, .inl (nI i))], [.inl (τ 5 0 0 7), .inl (nI i)], τ) [] rfl ?_ ?_
        · exact trivial
        rw [e7]
        refine AW.run 3 [false] (18, [(0, .inr (.inr (5, 0, 0))), (1, .inl (optI (fgM S i).1)), (2, .inl (nI (fgM S i).2)), (3, .inl (nI i))], [.inl (nI i), .inr (.inr (5, 0, 0))], τ) [¬ icP .ge (nI i) (nI (Sn S))] rfl ?_ ?_
        · exact allP1 (nI_ge hi (by omega))
        refine AW.callVI (d' := 5) [.inl (nI i)] [] ⟨_, rfl⟩ f_6_goesWhen v_6_goesWhen l_6_219 ⟨rfl, by decide⟩ rfl (Nat.le_of_ble_eq_true rfl) rfl (Nat.le_of_ble_eq_true rfl) (c6_goesWhen S τ hR1 hO i hi) ?_
        rintro _ τ20 ⟨rfl, f20, r20⟩
        rw [hg]
        dsimp only [optI]
        refine AW.run 5 [true] (8, [(3, .inl ((nI i) + 1)), (4, .inl (nI 0)), (0, .inr (.inr (5, 0, 0))), (1, .inl (optI (fgM S i).1)), (2, .inl (nI (fgM S i).2))], [], τ20) [icP .le (nI 0) 0] rfl ?_ ?_
        · exact allP1 ((by decide : nI 0 ≤ (0 : Int32)))
        rw [nI_1 i]
        refine AW.pick [2, 3, 4, 0] (ls' := [(0, .inr (.inr (5, 0, 0))), (1, .inl (optI (fgM S i).1)), (2, .inl (nI (fgM S i).2)), (3, .inl (nI (i + 1)))]) rfl ?_
        have hst : fgM S (i + 1) = fgM S i := by rw [hu, hg]; exact if_neg (by omega)
        have hk2 := hk () τ20 ⟨(fr_trans hS1 f20), r20⟩
        rw [hst] at hk2
        exact hk2
      · by_cases hlt : d < (fgM S i).2
        · skip
          refine AW.run 3 [] (13, [(0, .inr (.inr (5, 0, 0))), (1, .inl (optI (fgM S i).1)), (2, .inl (nI (fgM S i).2)), (3, .inl (nI i))], [.inl (τ 5 0 0 7), .inl (nI i)], τ) [] rfl ?_ ?_
          · exact trivial
          rw [e7]
          refine AW.run 3 [false] (18, [(0, .inr (.inr (5, 0, 0))), (1, .inl (optI (fgM S i).1)), (2, .inl (nI (fgM S i).2)), (3, .inl (nI i))], [.inl (nI i), .inr (.inr (5, 0, 0))], τ) [¬ icP .ge (nI i) (nI (Sn S))] rfl ?_ ?_
          · exact allP1 (nI_ge hi (by omega))
          refine AW.callVI (d' := 5) [.inl (nI i)] [] ⟨_, rfl⟩ f_6_goesWhen v_6_goesWhen l_6_219 ⟨rfl, by decide⟩ rfl (Nat.le_of_ble_eq_true rfl) rfl (Nat.le_of_ble_eq_true rfl) (c6_goesWhen S τ hR1 hO i hi) ?_
          rintro _ τ21 ⟨rfl, f21, r21⟩
          rw [hg]
          dsimp only [optI]
          refine AW.run 12 [false, true] (8, [(3, .inl ((nI i) + 1)), (2, .inl (nI d)), (1, .inl (nI i)), (4, .inl (nI d)), (0, .inr (.inr (5, 0, 0)))], [], τ21) [¬ icP .le (nI d) 0, icP .lt (nI d) (nI (fgM S i).2)] rfl ?_ ?_
          · exact ⟨(nI_nle (by omega) (by omega)), allP1 (nI_lt hlt (by omega))⟩
          rw [nI_1 i]
          refine AW.pick [4, 2, 1, 0] (ls' := [(0, .inr (.inr (5, 0, 0))), (1, .inl (nI i)), (2, .inl (nI d)), (3, .inl (nI (i + 1)))]) rfl ?_
          have hst : fgM S (i + 1) = (some i, d) := by rw [hu, hg]; exact if_pos ⟨by omega, by omega⟩
          have hk2 := hk () τ21 ⟨(fr_trans hS1 f21), r21⟩
          rw [hst] at hk2
          exact hk2
        · skip
          refine AW.run 3 [] (13, [(0, .inr (.inr (5, 0, 0))), (1, .inl (optI (fgM S i).1)), (2, .inl (nI (fgM S i).2)), (3, .inl (nI i))], [.inl (τ 5 0 0 7), .inl (nI i)], τ) [] rfl ?_ ?_
          · exact trivial
          rw [e7]
          refine AW.run 3 [false] (18, [(0, .inr (.inr (5, 0, 0))), (1, .inl (optI (fgM S i).1)), (2, .inl (nI (fgM S i).2)), (3, .inl (nI i))], [.inl (nI i), .inr (.inr (5, 0, 0))], τ) [¬ icP .ge (nI i) (nI (Sn S))] rfl ?_ ?_
          · exact allP1 (nI_ge hi (by omega))
          refine AW.callVI (d' := 5) [.inl (nI i)] [] ⟨_, rfl⟩ f_6_goesWhen v_6_goesWhen l_6_219 ⟨rfl, by decide⟩ rfl (Nat.le_of_ble_eq_true rfl) rfl (Nat.le_of_ble_eq_true rfl) (c6_goesWhen S τ hR1 hO i hi) ?_
          rintro _ τ22 ⟨rfl, f22, r22⟩
          rw [hg]
          dsimp only [optI]
          refine AW.run 9 [false, false] (8, [(3, .inl ((nI i) + 1)), (4, .inl (nI d)), (0, .inr (.inr (5, 0, 0))), (1, .inl (optI (fgM S i).1)), (2, .inl (nI (fgM S i).2))], [], τ22) [¬ icP .le (nI d) 0, ¬ icP .lt (nI d) (nI (fgM S i).2)] rfl ?_ ?_
          · exact ⟨(nI_nle (by omega) (by omega)), allP1 (nI_nlt (by omega) (by omega))⟩
          rw [nI_1 i]
          refine AW.pick [2, 3, 4, 0] (ls' := [(0, .inr (.inr (5, 0, 0))), (1, .inl (optI (fgM S i).1)), (2, .inl (nI (fgM S i).2)), (3, .inl (nI (i + 1)))]) rfl ?_
          have hst : fgM S (i + 1) = fgM S i := by rw [hu, hg]; exact if_neg (by omega)
          have hk2 := hk () τ22 ⟨(fr_trans hS1 f22), r22⟩
          rw [hst] at hk2
          exact hk2
  · intro _ τ hI
    obtain ⟨hS1, hR1⟩ := hI
    have e7 := hR1.1.1
    refine AW.run 3 [] (13, [(0, .inr (.inr (5, 0, 0))), (1, .inl (optI (fgM S (Sn S)).1)), (2, .inl (nI (fgM S (Sn S)).2)), (3, .inl (nI (Sn S)))], [.inl (τ 5 0 0 7), .inl (nI (Sn S))], τ) [] rfl ?_ ?_
    · exact trivial
    rw [e7]
    refine AW.run 2 [true] (49, [(0, .inr (.inr (5, 0, 0))), (1, .inl (optI (fgM S (Sn S)).1)), (2, .inl (nI (fgM S (Sn S)).2)), (3, .inl (nI (Sn S)))], [.inl (optI (fgM S (Sn S)).1)], τ) [icP .ge (nI (Sn S)) (nI (Sn S))] rfl ?_ ?_
    · exact allP1 (nI_le (Nat.le_refl _) (by omega))
    refine AW.reti ⟨_, rfl⟩ rfl ?_
    exact ⟨by rw [← fgM_first, fgM_out hO 8 hn8], hS1, hR1⟩
set_option maxHeartbeats 4000000 in
set_option maxRecDepth 100000 in
theorem c6_takenBy (S : Sv) (σ : St) (hR : RepM (σ 5 0) S) (hO : SOK S) (b : Nat) (hb : b < Sn S) : Ct M6_takenBy 4 [.inr (.inr (5, 0, 0)), .inl (nI b)] σ (PI fun r9 σ' => bI (takenS S b) = r9 ∧ Fr P2 σ σ' ∧ RepM (σ' 5 0) S) := by
  refine Ct.of f_6_takenBy (Nat.le_of_ble_eq_true rfl) ?_
  show AW M6_takenBy 4 _ (0, [(0, .inr (.inr (5, 0, 0))), (1, .inl (nI b))], [], σ)
  have hn8 : Sn S ≤ 8 := hO.1
  have hb8 : b < 8 := by omega
  refine AW.run 1 [] (1, [(0, .inr (.inr (5, 0, 0))), (1, .inl (nI b))], [.inr (.inr (5, 0, 0))], σ) [] rfl ?_ ?_
  · exact trivial
  refine AW.callVV (d' := 2) [] [] ⟨_, rfl⟩ f_6_thinks v_6_thinks l_6_203 ⟨rfl, by decide⟩ rfl (Nat.le_of_ble_eq_true rfl) rfl (Nat.le_of_ble_eq_true rfl) (c6_thinks S σ hR hO.1) ?_
  rintro τ23 ⟨f23, r23, k23⟩
  refine AW.run 1 [] (5, [(0, .inr (.inr (5, 0, 0))), (1, .inl (nI b))], [.inr (.inr (5, 0, 0))], τ23) [] rfl ?_ ?_
  · exact trivial
  refine AW.callVI (d' := 1) [] [] ⟨_, rfl⟩ f_6_whole v_6_whole l_6_197 ⟨rfl, by decide⟩ rfl (Nat.le_of_ble_eq_true rfl) rfl (Nat.le_of_ble_eq_true rfl) (c6_whole S τ23 r23 hO) ?_
  rintro _ _ ⟨rfl, rfl⟩
  refine AW.run 3 [] (11, [(2, .inl (bI (Sw S))), (0, .inr (.inr (5, 0, 0))), (1, .inl (nI b))], [.inl (nI b), .inr (.inr (5, 0, 0))], τ23) [] rfl ?_ ?_
  · exact trivial
  refine AW.callVV (d' := 2) [.inl (nI b)] [] ⟨_, rfl⟩ f_6_bursts v_6_bursts l_6_179 ⟨rfl, by decide⟩ rfl (Nat.le_of_ble_eq_true rfl) rfl (Nat.le_of_ble_eq_true rfl) (c6_bursts S τ23 r23 hO b hb) ?_
  rintro τ24 ⟨f24, r24⟩
  refine AW.run 1 [] (15, [(2, .inl (bI (Sw S))), (0, .inr (.inr (5, 0, 0))), (1, .inl (nI b))], [.inr (.inr (5, 0, 0))], τ24) [] rfl ?_ ?_
  · exact trivial
  refine AW.callVV (d' := 3) [] [] ⟨_, rfl⟩ f_6_burstsAll v_6_burstsAll l_6_185 ⟨rfl, by decide⟩ rfl (Nat.le_of_ble_eq_true rfl) rfl (Nat.le_of_ble_eq_true rfl) (c6_burstsAll (burstS S b) τ24 r24 (SOK_burst (b := b) hO) ) ?_
  rintro τ25 ⟨f25, r25⟩
  refine AW.run 2 [] (20, [(2, .inl (bI (Sw S))), (0, .inr (.inr (5, 0, 0))), (1, .inl (nI b))], [.inr (.inr (5, 0, 0)), .inl (bI (Sw S))], τ25) [] rfl ?_ ?_
  · exact trivial
  refine AW.callVI (d' := 1) [] [.inl (bI (Sw S))] ⟨_, rfl⟩ f_6_whole v_6_whole l_6_197 ⟨rfl, by decide⟩ rfl (Nat.le_of_ble_eq_true rfl) rfl (Nat.le_of_ble_eq_true rfl) (c6_whole (settleS 8 (burstS S b)) τ25 r25 (SOK_settle 8 (SOK_burst (b := b) hO))) ?_
  rintro _ _ ⟨rfl, rfl⟩
  refine AW.run 6 [] (29, [(2, .inl (bI (Sw S))), (0, .inr (.inr (5, 0, 0))), (1, .inl (nI b))], [.inl (1 <<< ((nI b) &&& 31)), .inl ((bI (Sw S)) &&& ((bI (Sw (settleS 8 (burstS S b)))) ^^^ (-1)))], τ25) [] rfl ?_ ?_
  · exact trivial
  refine AW.run 3 [] (32, [(2, .inl (bI (Sw S))), (0, .inr (.inr (5, 0, 0))), (1, .inl (nI b))], [.inl (((bI (Sw S)) &&& ((bI (Sw (settleS 8 (burstS S b)))) ^^^ (-1))) &&& (((1 : Int32) <<< (nI b &&& 31)) ^^^ (-1)))], τ25) [] rfl ?_ ?_
  · exact trivial
  rw [taken_bits hb8]
  refine AW.run 2 [] (34, [(3, .inl (bI (takenS S b))), (2, .inl (bI (Sw S))), (0, .inr (.inr (5, 0, 0))), (1, .inl (nI b))], [.inr (.inr (5, 0, 0))], τ25) [] rfl ?_ ?_
  · exact trivial
  refine AW.callVV (d' := 2) [] [] ⟨_, rfl⟩ f_6_forgets v_6_forgets l_6_206 ⟨rfl, by decide⟩ rfl (Nat.le_of_ble_eq_true rfl) rfl (Nat.le_of_ble_eq_true rfl) (c6_forgets S τ25 (repK_fr hO.1 (fr_trans (fr_trans (fr_rfl (P := P1)) f24) f25) (fun k _ _ q => by unfold P1 at q; omega) k23) hO.1) ?_
  rintro τ26 ⟨f26, r26⟩
  refine AW.run 1 [] (38, [(3, .inl (bI (takenS S b))), (2, .inl (bI (Sw S))), (0, .inr (.inr (5, 0, 0))), (1, .inl (nI b))], [.inl (bI (takenS S b))], τ26) [] rfl ?_ ?_
  · exact trivial
  refine AW.reti ⟨_, rfl⟩ rfl ?_
  exact ⟨rfl, (fr_trans (fr_trans (fr_trans (fr_trans fr_rfl f23) (fr_12 f24)) (fr_12 f25)) f26), r26⟩
theorem withU_same (S : Sv) : withU S (Su S) (She S) = S := rfl
theorem withU_u (S : Sv) (u h u2 h2 : Nat) : withU (withU S u h) u2 h2 = withU S u2 h2 := rfl
set_option maxHeartbeats 4000000 in
set_option maxRecDepth 100000 in
theorem c6_leftFed (S : Sv) (σ : St) (hR : RepM (σ 5 0) S) (hO : SOK S) (u n : Nat) (hu : u ≤ 9) (hn : n < 2 ^ 31) : Ct M6_leftFed 7 [.inr (.inr (5, 0, 0)), .inl (nI u), .inl (nI n)] σ (PI fun r9 σ' => nI (leftS (withU S u (She S)) n) = r9 ∧ Fr P2 σ σ' ∧ RepM (σ' 5 0) S) := by
  refine Ct.of f_6_leftFed (Nat.le_of_ble_eq_true rfl) ?_
  show AW M6_leftFed 7 _ (0, [(0, .inr (.inr (5, 0, 0))), (1, .inl (nI u)), (2, .inl (nI n))], [], σ)
  have hn8 : Sn S ≤ 8 := hO.1
  refine AW.run 2 [] (4, [(0, .inr (.inr (5, 0, 0))), (1, .inl (nI u)), (2, .inl (nI n))], [.inl (σ 5 0 0 8)], σ) [] rfl ?_ ?_
  · exact trivial
  rw [hR.1.2.1]
  refine AW.run 4 [] (10, [(3, .inl (nI (Su S))), (0, .inr (.inr (5, 0, 0))), (1, .inl (nI u)), (2, .inl (nI n))], [], (setM σ 5 0 0 8 (nI u))) [] rfl ?_ ?_
  · exact trivial
  obtain ⟨τ27, e27⟩ : ∃ x, x = setM σ 5 0 0 8 (nI u) := ⟨_, rfl⟩
  rw [← e27]
  have r27 : RepM (τ27 5 0) (withU S u (She S)) := by rw [e27]; exact repM_s hR
  have f27 : Fr P1 σ τ27 := by rw [e27]; exact fr_set fr_rfl (by unfold P1; omega)
  refine AW.run 2 [] (12, [(3, .inl (nI (Su S))), (0, .inr (.inr (5, 0, 0))), (1, .inl (nI u)), (2, .inl (nI n))], [.inl (nI n), .inr (.inr (5, 0, 0))], τ27) [] rfl ?_ ?_
  · exact trivial
  refine AW.callVI (d' := 6) [.inl (nI n)] [] ⟨_, rfl⟩ f_6_leftIn v_6_leftIn l_6_228 ⟨rfl, by decide⟩ rfl (Nat.le_of_ble_eq_true rfl) rfl (Nat.le_of_ble_eq_true rfl) (c6_leftIn (withU S u (She S)) τ27 r27 (SOK_U hO hu hO.2.2.2.2) n (by omega)) ?_
  rintro _ τ28 ⟨rfl, f28, r28⟩
  refine AW.run 4 [] (22, [(4, .inl (nI (leftS (withU S u (She S)) n))), (3, .inl (nI (Su S))), (0, .inr (.inr (5, 0, 0))), (1, .inl (nI u)), (2, .inl (nI n))], [], (setM τ28 5 0 0 8 (nI (Su S)))) [] rfl ?_ ?_
  · exact trivial
  have r29 : RepM ((setM τ28 5 0 0 8 (nI (Su S))) 5 0) S := (show RepM _ (withU (withU S u (She S)) (Su S) (She S)) from repM_s r28)
  refine AW.run 1 [] (24, [(4, .inl (nI (leftS (withU S u (She S)) n))), (3, .inl (nI (Su S))), (0, .inr (.inr (5, 0, 0))), (1, .inl (nI u)), (2, .inl (nI n))], [.inl (nI (leftS (withU S u (She S)) n))], (setM τ28 5 0 0 8 (nI (Su S)))) [] rfl ?_ ?_
  · exact trivial
  refine AW.reti ⟨_, rfl⟩ rfl ?_
  exact ⟨rfl, (fr_set (fr_trans (fr_trans fr_rfl (fr_12 f27)) f28) (Or.inl (p1_f (by omega) (by omega)))), r29⟩
set_option maxHeartbeats 4000000 in
set_option maxRecDepth 100000 in
theorem c6_isReady (T : Sv) (σ : St) (hT : RepM (σ 5 0) T) (hOT : SOK T) (b v : Nat) (hb : b < Sn T) (hv : v < 2 ^ 31) : Ct M6_isReady 1 [.inr (.inr (5, 0, 0)), .inl (nI b), .inl (nI v)] σ (PB σ (readyN T b v = true) (readyN T b v = false)) := by
  refine Ct.of f_6_isReady (Nat.le_of_ble_eq_true rfl) ?_
  show AW M6_isReady 1 _ (0, [(0, .inr (.inr (5, 0, 0))), (1, .inl (nI b)), (2, .inl (nI v))], [], σ)
  have hn8 : Sn T ≤ 8 := hOT.1
  have hb8 : b < 8 := by omega
  have hq := (hOT.2.1 b).2.2.2
  refine AW.run 2 [] (2, [(0, .inr (.inr (5, 0, 0))), (1, .inl (nI b)), (2, .inl (nI v))], [.inl (nI b), .inr (.inr (5, 0, 0))], σ) [] rfl ?_ ?_
  · exact trivial
  refine AW.callVI (d' := 0) [.inl (nI b)] [] ⟨_, rfl⟩ f_6_isWhole v_6_isWhole l_6_108 ⟨rfl, by decide⟩ rfl (Nat.le_of_ble_eq_true rfl) rfl (Nat.le_of_ble_eq_true rfl) (c6_isWhole T σ hT hOT.1 b hb) ?_
  rintro v _ ⟨rfl, hv⟩
  rcases hv with ⟨rfl, hp2⟩ | ⟨rfl, hp2⟩
  · skip
    refine AW.run 5 [false] (14, [(0, .inr (.inr (5, 0, 0))), (1, .inl (nI b)), (2, .inl (nI v))], [.inl (σ 5 0 5 (nI b).toNatClampNeg)], σ) [¬ icP .eq (1 : Int32) 0, vp_in (nI b) 8] rfl ?_ ?_
    · exact ⟨(by decide : ¬ ((1 : Int32) = 0)), allP1 (by exact in8 hb8)⟩
    rw [cl8 (k := b) hb8, (hT.2 b hb).2.2.2.1]
    by_cases h15_1 : v ≤ Sq T b
    · skip
      refine AW.run 4 [false] (23, [(0, .inr (.inr (5, 0, 0))), (1, .inl (nI b)), (2, .inl (nI v))], [.inl 1], σ) [¬ icP .lt (nI (Sq T b)) (nI v)] rfl ?_ ?_
      · exact allP1 (nI_nlt h15_1 (by omega))
      refine AW.retz ⟨_, rfl⟩ rfl (by decide) ?_
      exact ⟨rfl, Or.inl ⟨rfl, by unfold readyN; rw [hp2, decide_eq_true (by assumption)]; rfl⟩⟩
    · skip
      refine AW.run 3 [true] (23, [(0, .inr (.inr (5, 0, 0))), (1, .inl (nI b)), (2, .inl (nI v))], [.inl 0], σ) [icP .lt (nI (Sq T b)) (nI v)] rfl ?_ ?_
      · exact allP1 (nI_lt (by omega) hv)
      refine AW.retz ⟨_, rfl⟩ rfl (by decide) ?_
      exact ⟨rfl, Or.inr ⟨rfl, by unfold readyN; first | (rw [hp2]; rfl) | (rw [decide_eq_false (by assumption), Bool.and_false])⟩⟩
  · skip
    refine AW.run 2 [true] (23, [(0, .inr (.inr (5, 0, 0))), (1, .inl (nI b)), (2, .inl (nI v))], [.inl 0], σ) [icP .eq (0 : Int32) 0] rfl ?_ ?_
    · exact allP1 (by decide : ((0 : Int32) = 0))
    refine AW.retz ⟨_, rfl⟩ rfl (by decide) ?_
    exact ⟨rfl, Or.inr ⟨rfl, by unfold readyN; first | (rw [hp2]; rfl) | (rw [decide_eq_false (by assumption), Bool.and_false])⟩⟩
set_option maxHeartbeats 4000000 in
set_option maxRecDepth 100000 in
theorem c6_getsOf (T : Sv) (σ : St) (hT : RepM (σ 5 0) T) (hOT : SOK T) (b : Nat) (hb : b < Sn T) : Ct M6_getsOf 1 [.inr (.inr (5, 0, 0)), .inl (nI b)] σ (PI fun r9 σ' => nI (wantN T b) = r9 ∧ σ = σ') := by
  refine Ct.of f_6_getsOf (Nat.le_of_ble_eq_true rfl) ?_
  show AW M6_getsOf 1 _ (0, [(0, .inr (.inr (5, 0, 0))), (1, .inl (nI b))], [], σ)
  have hn8 : Sn T ≤ 8 := hOT.1
  have hb8 : b < 8 := by omega
  have hq := (hOT.2.1 b).2.2.2
  refine AW.run 2 [] (2, [(0, .inr (.inr (5, 0, 0))), (1, .inl (nI b))], [.inl (nI b), .inr (.inr (5, 0, 0))], σ) [] rfl ?_ ?_
  · exact trivial
  refine AW.callVI (d' := 0) [.inl (nI b)] [] ⟨_, rfl⟩ f_6_isWhole v_6_isWhole l_6_108 ⟨rfl, by decide⟩ rfl (Nat.le_of_ble_eq_true rfl) rfl (Nat.le_of_ble_eq_true rfl) (c6_isWhole T σ hT hOT.1 b hb) ?_
  rintro v _ ⟨rfl, hv⟩
  rcases hv with ⟨rfl, hp2⟩ | ⟨rfl, hp2⟩
  · skip
    refine AW.run 6 [false] (15, [(0, .inr (.inr (5, 0, 0))), (1, .inl (nI b))], [.inl (σ 5 0 5 (nI b).toNatClampNeg), .inl 5], σ) [¬ icP .eq (1 : Int32) 0, vp_in (nI b) 8] rfl ?_ ?_
    · exact ⟨(by decide : ¬ ((1 : Int32) = 0)), allP1 (by first | exact in8 hb8 | decide)⟩
    rw [cl8 (k := b) hb8, (hT.2 b hb).2.2.2.1]
    refine AW.run 2 [] (18, [(0, .inr (.inr (5, 0, 0))), (1, .inl (nI b))], [.inl ((nI (Sq T b)) / 10), .inl 5], σ) [¬ (10 : Int32) = 0] rfl ?_ ?_
    · exact allP1 (by decide)
    rw [ten_n _ (by omega)]
    refine AW.run 2 [] (23, [(0, .inr (.inr (5, 0, 0))), (1, .inl (nI b))], [.inl (5 + (nI (Sq T b / 10)))], σ) [] rfl ?_ ?_
    · exact trivial
    refine AW.reti ⟨_, rfl⟩ rfl ?_
    exact ⟨by unfold wantN; rw [if_pos hp2]; exact (nI_add 5 _).symm, rfl⟩
  · skip
    refine AW.run 2 [true] (23, [(0, .inr (.inr (5, 0, 0))), (1, .inl (nI b))], [.inl 0], σ) [icP .eq (0 : Int32) 0] rfl ?_ ?_
    · exact allP1 (by decide : ((0 : Int32) = 0))
    refine AW.reti ⟨_, rfl⟩ rfl ?_
    exact ⟨by unfold wantN; rw [if_neg (by rw [hp2]; decide)]; rfl, rfl⟩
set_option maxHeartbeats 4000000 in
set_option maxRecDepth 100000 in
theorem c6_movesTwo (S : Sv) (σ : St) (hR : RepM (σ 5 0) S) (hO : SOK S) (a b : Nat) (ha : a < Sn S) (hb : b < Sn S) : Ct M6_movesTwo 0 [.inr (.inr (5, 0, 0)), .inl (nI a), .inl (nI b)] σ (PV fun σ' => Fr P1 σ σ' ∧ RepM (σ' 5 0) (withP S (fu (fu (Sp S) a (Sp S b)) b (Sp S a)))) := by
  refine Ct.of f_6_movesTwo (Nat.le_of_ble_eq_true rfl) ?_
  show AW M6_movesTwo 0 _ (0, [(0, .inr (.inr (5, 0, 0))), (1, .inl (nI a)), (2, .inl (nI b))], [], σ)
  have hn8 : Sn S ≤ 8 := hO.1
  have ha8 : a < 8 := by omega
  have hb8 : b < 8 := by omega
  refine AW.run 4 [] (6, [(0, .inr (.inr (5, 0, 0))), (1, .inl (nI a)), (2, .inl (nI b))], [.inl (σ 5 0 4 (nI a).toNatClampNeg)], σ) [vp_in (nI a) 8] rfl ?_ ?_
  · exact allP1 (by first | exact in8 ha8 | exact in8 hb8)
  rw [cl8 (k := a) ha8, (hR.2 a ha).2.2.1]
  refine AW.run 8 [] (18, [(3, .inl (nI (Sp S a))), (0, .inr (.inr (5, 0, 0))), (1, .inl (nI a)), (2, .inl (nI b))], [.inl (σ 5 0 4 (nI b).toNatClampNeg), .inl (nI a), .inr (.inr (5, 0, 4))], σ) [vp_in (nI b) 8] rfl ?_ ?_
  · exact allP1 (by first | exact in8 ha8 | exact in8 hb8)
  rw [cl8 (k := b) hb8, (hR.2 b hb).2.2.1]
  refine AW.run 6 [] (26, [(3, .inl (nI (Sp S a))), (0, .inr (.inr (5, 0, 0))), (1, .inl (nI a)), (2, .inl (nI b))], [], (setM (setM σ 5 0 4 (nI a).toNatClampNeg (nI (Sp S b))) 5 0 4 (nI b).toNatClampNeg (nI (Sp S a)))) [vp_in (nI a) 8, vp_in (nI b) 8] rfl ?_ ?_
  · exact ⟨(by first | exact in8 ha8 | exact in8 hb8), allP1 (by first | exact in8 ha8 | exact in8 hb8)⟩
  refine AW.retv ⟨_, rfl⟩ rfl ?_
  rw [cl8 ha8, cl8 hb8]
  exact ⟨fr_set (fr_set fr_rfl (p1_q (by omega) (by omega))) (p1_q (by omega) (by omega)), repM_p (S := withP S (fu (Sp S) a (Sp S b))) (repM_p hR)⟩
