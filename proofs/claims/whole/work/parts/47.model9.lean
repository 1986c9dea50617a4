/-! MORE THOUGHTS OF THE MODEL -/
theorem mx_l {a b : Nat} (h : b < a) : Nat.max b a = a := Nat.max_eq_right (Nat.le_of_lt h)
theorem mx_r {a b : Nat} (h : ¬ b < a) : Nat.max b a = b := Nat.max_eq_left (Nat.le_of_not_lt h)
set_option maxHeartbeats 4000000 in
set_option maxRecDepth 100000 in
theorem c6_quiet (S : Sv) (σ : St) (hR : RepM (σ 5 0) S) (hO : SOK S) : Ct M6_quiet 5 [.inr (.inr (5, 0, 0))] σ (PI fun r9 σ' => nI (quietN S 60).1 = r9 ∧ Fr P2 σ σ' ∧ RepM (σ' 5 0) S) := by
  refine Ct.of f_6_quiet (Nat.le_of_ble_eq_true rfl) ?_
  show AW M6_quiet 5 _ (0, [(0, .inr (.inr (5, 0, 0)))], [], σ)
  have hn8 : Sn S ≤ 8 := hO.1
  refine AW.run 1 [] (1, [(0, .inr (.inr (5, 0, 0)))], [.inr (.inr (5, 0, 0))], σ) [] rfl ?_ ?_
  · exact trivial
  refine AW.callVV (d' := 2) [] [] ⟨_, rfl⟩ f_6_thinks v_6_thinks l_6_203 ⟨rfl, by decide⟩ rfl (Nat.le_of_ble_eq_true rfl) rfl (Nat.le_of_ble_eq_true rfl) (c6_thinks S σ hR hO.1) ?_
  rintro τ30 ⟨f30, r30, k30⟩
  refine AW.run 6 [] (10, [(3, .inl 0), (2, .inl 0), (1, .inl 0), (0, .inr (.inr (5, 0, 0)))], [], τ30) [] rfl ?_ ?_
  · exact trivial
  refine AW.pick [3, 2, 1, 0] (ls' := [(0, .inr (.inr (5, 0, 0))), (1, .inl (nI (quietN S 0).1)), (2, .inl (nI (quietN S 0).2)), (3, .inl (nI 0))]) rfl ?_
  refine AW.loop (α := Unit) 10 60 (fun i _ => [(0, .inr (.inr (5, 0, 0))), (1, .inl (nI (quietN S i).1)), (2, .inl (nI (quietN S i).2)), (3, .inl (nI i))]) (fun i _ τ => Fr P1 τ30 τ ∧ RepM (τ 5 0) (passS i S)) ?_ ?_ 60 0 () _ (by omega) ⟨fr_rfl, r30⟩
  · intro i _ τ hi hI hk
    obtain ⟨hF, hT⟩ := hI
    have hOT := SOK_pass i hO
    have hql := quietN_le (S := S) i
    have hu : quietN S (i + 1) = if sameW (passS (i + 1) S) (passS i S) = true then (Nat.max (quietN S i).1 ((quietN S i).2 + 1), (quietN S i).2 + 1) else (Nat.max (quietN S i).1 0, 0) := rfl
    rw [pass_succ] at hu
    refine AW.run 4 [false] (17, [(0, .inr (.inr (5, 0, 0))), (1, .inl (nI (quietN S i).1)), (2, .inl (nI (quietN S i).2)), (3, .inl (nI i))], [.inr (.inr (5, 0, 0))], τ) [¬ icP .ge (nI i) 60] rfl ?_ ?_
    · exact allP1 (nle_lit (a := 60) hi (by decide))
    refine AW.callVI (d' := 1) [] [] ⟨_, rfl⟩ f_6_whole v_6_whole l_6_197 ⟨rfl, by decide⟩ rfl (Nat.le_of_ble_eq_true rfl) rfl (Nat.le_of_ble_eq_true rfl) (c6_whole (passS i S) τ hT hOT) ?_
    rintro _ _ ⟨rfl, rfl⟩
    refine AW.run 2 [] (23, [(4, .inl (bI (Sw (passS i S)))), (0, .inr (.inr (5, 0, 0))), (1, .inl (nI (quietN S i).1)), (2, .inl (nI (quietN S i).2)), (3, .inl (nI i))], [.inr (.inr (5, 0, 0))], τ) [] rfl ?_ ?_
    · exact trivial
    refine AW.callVV (d' := 4) [] [] ⟨_, rfl⟩ f_6_goesDay v_6_goesDay l_6_188 ⟨rfl, by decide⟩ rfl (Nat.le_of_ble_eq_true rfl) rfl (Nat.le_of_ble_eq_true rfl) (c6_goesDay (passS i S) τ hT hOT ) ?_
    rintro τ31 ⟨f31, r31⟩
    refine AW.run 1 [] (27, [(4, .inl (bI (Sw (passS i S)))), (0, .inr (.inr (5, 0, 0))), (1, .inl (nI (quietN S i).1)), (2, .inl (nI (quietN S i).2)), (3, .inl (nI i))], [.inr (.inr (5, 0, 0))], τ31) [] rfl ?_ ?_
    · exact trivial
    refine AW.callVI (d' := 1) [] [] ⟨_, rfl⟩ f_6_whole v_6_whole l_6_197 ⟨rfl, by decide⟩ rfl (Nat.le_of_ble_eq_true rfl) rfl (Nat.le_of_ble_eq_true rfl) (c6_whole (dayS (passS i S)) τ31 r31 (SOK_day hOT)) ?_
    rintro _ _ ⟨rfl, rfl⟩
    by_cases h32_1 : (bI (Sw (dayS (passS i S))) : Int32) = (bI (Sw (passS i S)))
    · skip
      refine AW.run 6 [false] (42, [(4, .inl (bI (Sw (passS i S)))), (0, .inr (.inr (5, 0, 0))), (1, .inl (nI (quietN S i).1)), (2, .inl (nI (quietN S i).2)), (3, .inl (nI i))], [.inl ((nI (quietN S i).2) + 1)], τ31) [¬ icP .ne (bI (Sw (dayS (passS i S)))) (bI (Sw (passS i S)))] rfl ?_ ?_
      · exact allP1 ((fun q => q h32_1))
      rw [nI_1]
      by_cases h45_2 : (quietN S i).1 < (quietN S i).2 + 1
      · skip
        refine AW.run 9 [false] (10, [(3, .inl ((nI i) + 1)), (1, .inl (nI ((quietN S i).2 + 1))), (2, .inl (nI ((quietN S i).2 + 1))), (4, .inl (bI (Sw (passS i S)))), (0, .inr (.inr (5, 0, 0)))], [], τ31) [¬ icP .le (nI ((quietN S i).2 + 1)) (nI (quietN S i).1)] rfl ?_ ?_
        · exact allP1 (nI_ge h45_2 (by omega))
        rw [nI_1 i]
        refine AW.pick [4, 1, 2, 0] (ls' := [(0, .inr (.inr (5, 0, 0))), (1, .inl (nI ((quietN S i).2 + 1))), (2, .inl (nI ((quietN S i).2 + 1))), (3, .inl (nI (i + 1)))]) rfl ?_
        have hst : quietN S (i + 1) = (Nat.max (quietN S i).1 ((quietN S i).2 + 1), (quietN S i).2 + 1) := by rw [hu]; exact if_pos (decide_eq_true (bI_eq.mp (by assumption)))
        have hk2 := hk () τ31 ⟨(fr_trans hF f31), by rw [pass_succ]; exact r31⟩
        rw [hst] at hk2
        dsimp only at hk2
        rw [mx_l (by assumption)] at hk2
        exact hk2
      · skip
        refine AW.run 8 [true] (10, [(3, .inl ((nI i) + 1)), (1, .inl (nI (quietN S i).1)), (2, .inl (nI ((quietN S i).2 + 1))), (4, .inl (bI (Sw (passS i S)))), (0, .inr (.inr (5, 0, 0)))], [], τ31) [icP .le (nI ((quietN S i).2 + 1)) (nI (quietN S i).1)] rfl ?_ ?_
        · exact allP1 (nI_le (by omega) (by omega))
        rw [nI_1 i]
        refine AW.pick [4, 1, 2, 0] (ls' := [(0, .inr (.inr (5, 0, 0))), (1, .inl (nI (quietN S i).1)), (2, .inl (nI ((quietN S i).2 + 1))), (3, .inl (nI (i + 1)))]) rfl ?_
        have hst : quietN S (i + 1) = (Nat.max (quietN S i).1 ((quietN S i).2 + 1), (quietN S i).2 + 1) := by rw [hu]; exact if_pos (decide_eq_true (bI_eq.mp (by assumption)))
        have hk2 := hk () τ31 ⟨(fr_trans hF f31), by rw [pass_succ]; exact r31⟩
        rw [hst] at hk2
        dsimp only at hk2
        rw [mx_r (by assumption)] at hk2
        exact hk2
    · skip
      refine AW.run 3 [true] (42, [(4, .inl (bI (Sw (passS i S)))), (0, .inr (.inr (5, 0, 0))), (1, .inl (nI (quietN S i).1)), (2, .inl (nI (quietN S i).2)), (3, .inl (nI i))], [.inl 0], τ31) [icP .ne (bI (Sw (dayS (passS i S)))) (bI (Sw (passS i S)))] rfl ?_ ?_
      · exact allP1 (h32_1)
      refine AW.run 8 [true] (10, [(3, .inl ((nI i) + 1)), (1, .inl (nI (quietN S i).1)), (2, .inl 0), (4, .inl (bI (Sw (passS i S)))), (0, .inr (.inr (5, 0, 0)))], [], τ31) [icP .le 0 (nI (quietN S i).1)] rfl ?_ ?_
      · exact allP1 (nI_pos' (by omega))
      rw [nI_1 i]
      refine AW.pick [4, 1, 2, 0] (ls' := [(0, .inr (.inr (5, 0, 0))), (1, .inl (nI (quietN S i).1)), (2, .inl 0), (3, .inl (nI (i + 1)))]) rfl ?_
      have hst : quietN S (i + 1) = (Nat.max (quietN S i).1 0, 0) := by rw [hu]; exact if_neg (fun q => absurd (bI_eq.mpr (of_decide_eq_true q)) (by assumption))
      have hk2 := hk () τ31 ⟨(fr_trans hF f31), by rw [pass_succ]; exact r31⟩
      rw [hst] at hk2
      dsimp only at hk2
      rw [show Nat.max (quietN S i).1 0 = (quietN S i).1 from Nat.max_eq_left (Nat.zero_le _)] at hk2
      exact hk2
  · intro _ τ hI
    obtain ⟨hF, hT⟩ := hI
    refine AW.run 4 [true] (61, [(0, .inr (.inr (5, 0, 0))), (1, .inl (nI (quietN S 60).1)), (2, .inl (nI (quietN S 60).2)), (3, .inl (nI 60))], [.inr (.inr (5, 0, 0))], τ) [icP .ge (nI 60) 60] rfl ?_ ?_
    · exact allP1 (le_lit (a := 60) (b := 60) (by decide) (by decide))
    refine AW.callVV (d' := 2) [] [] ⟨_, rfl⟩ f_6_forgets v_6_forgets l_6_206 ⟨rfl, by decide⟩ rfl (Nat.le_of_ble_eq_true rfl) rfl (Nat.le_of_ble_eq_true rfl) (c6_forgets S τ (repK_fr hO.1 hF (fun k _ _ q => by unfold P1 at q; omega) k30) hO.1) ?_
    rintro τ32 ⟨f32, r32⟩
    refine AW.run 1 [] (65, [(0, .inr (.inr (5, 0, 0))), (1, .inl (nI (quietN S 60).1)), (2, .inl (nI (quietN S 60).2)), (3, .inl (nI 60))], [.inl (nI (quietN S 60).1)], τ32) [] rfl ?_ ?_
    · exact trivial
    refine AW.reti ⟨_, rfl⟩ rfl ?_
    exact ⟨rfl, (fr_trans (fr_trans (fr_trans fr_rfl f30) (fr_12 hF)) f32), r32⟩
set_option maxHeartbeats 4000000 in
set_option maxRecDepth 100000 in
theorem c6_tightestOne (S : Sv) (σ : St) (hR : RepM (σ 5 0) S) (hO : SOK S) : Ct M6_tightestOne 1 [.inr (.inr (5, 0, 0))] σ (PI fun r9 σ' => optI (tightN S 8) = r9 ∧ σ = σ') := by
  refine Ct.of f_6_tightestOne (Nat.le_of_ble_eq_true rfl) ?_
  show AW M6_tightestOne 1 _ (0, [(0, .inr (.inr (5, 0, 0)))], [], σ)
  have hn8 : Sn S ≤ 8 := hO.1
  have hout : tightN S 8 = tightN S (Sn S) := by
    have h : ∀ m, Sn S ≤ m → tightN S m = tightN S (Sn S) := by
      intro m
      induction m with
      | zero => intro h; rw [show Sn S = 0 by omega]
      | succ m ih =>
        intro h
        by_cases he : Sn S = m + 1
        · rw [he]
        · rw [← ih (by omega)]
          show (if Sw S m = true then _ else tightN S m) = _
          exact if_neg (by rw [w_out hO m (by omega)]; decide)
    exact h 8 hn8
  refine AW.run 4 [] (5, [(2, .inl 0), (1, .inl (-9)), (0, .inr (.inr (5, 0, 0)))], [], σ) [] rfl ?_ ?_
  · exact trivial
  refine AW.pick [2, 1, 0] (ls' := [(0, .inr (.inr (5, 0, 0))), (1, .inl (optI (tightN S 0))), (2, .inl (nI 0))]) rfl ?_
  refine AW.loop (α := Unit) 5 (Sn S) (fun i _ => [(0, .inr (.inr (5, 0, 0))), (1, .inl (optI (tightN S i))), (2, .inl (nI i))]) (fun i _ τ => σ = τ) ?_ ?_ (Sn S) 0 () _ (by omega) rfl
  · intro i _ τ hi hI hk
    subst hI
    have hi8 : i < 8 := by omega
    have e7 := hR.1.1
    have e5 : σ 5 0 5 (nI i).toNatClampNeg = nI (Sq S i) := by rw [cl8 hi8]; exact (hR.2 i hi).2.2.2.1
    have hb1 := bear_le hO i
    have hq1 := (hO.2.1 i).2.2.2
    have hu : tightN S (i + 1) = if Sw S i = true then match tightN S i with | none => some i | some t => if bearS S i + Sq S t < bearS S t + Sq S i then some i else some t else tightN S i := rfl
    cases ht : tightN S i with
    | none =>
      refine AW.run 3 [] (10, [(0, .inr (.inr (5, 0, 0))), (1, .inl (-9)), (2, .inl (nI i))], [.inl (σ 5 0 0 7), .inl (nI i)], σ) [] rfl ?_ ?_
      · exact trivial
      rw [e7]
      refine AW.run 3 [false] (15, [(0, .inr (.inr (5, 0, 0))), (1, .inl (-9)), (2, .inl (nI i))], [.inl (nI i), .inr (.inr (5, 0, 0))], σ) [¬ icP .ge (nI i) (nI (Sn S))] rfl ?_ ?_
      · exact allP1 (nI_ge hi (by omega))
      refine AW.callVI (d' := 0) [.inl (nI i)] [] ⟨_, rfl⟩ f_6_isWhole v_6_isWhole l_6_108 ⟨rfl, by decide⟩ rfl (Nat.le_of_ble_eq_true rfl) rfl (Nat.le_of_ble_eq_true rfl) (c6_isWhole S σ hR (by first | exact hO.1 | exact hn8) i hi) ?_
      rintro v _ ⟨rfl, hv⟩
      rcases hv with ⟨rfl, hp15⟩ | ⟨rfl, hp15⟩
      · skip
        refine AW.run 7 [false, true] (5, [(2, .inl ((nI i) + 1)), (1, .inl (nI i)), (0, .inr (.inr (5, 0, 0)))], [], σ) [¬ icP .eq (1 : Int32) 0, icP .lt ((-9) : Int32) 0] rfl ?_ ?_
        · exact ⟨(by decide : ¬ ((1 : Int32) = 0)), allP1 (by decide : (((-9) : Int32) < 0))⟩
        rw [nI_1 i]
        refine AW.pick [2, 1, 0] (ls' := [(0, .inr (.inr (5, 0, 0))), (1, .inl (nI i)), (2, .inl (nI (i + 1)))]) rfl ?_
        have hst : tightN S (i + 1) = some i := by rw [hu, if_pos hp15, ht]
        have hk2 := hk () _ rfl
        rw [hst] at hk2
        exact hk2
      · skip
        refine AW.run 3 [true] (5, [(2, .inl ((nI i) + 1)), (0, .inr (.inr (5, 0, 0))), (1, .inl (-9))], [], σ) [icP .eq (0 : Int32) 0] rfl ?_ ?_
        · exact allP1 (by decide : ((0 : Int32) = 0))
        rw [nI_1 i]
        refine AW.pick [1, 2, 0] (ls' := [(0, .inr (.inr (5, 0, 0))), (1, .inl (-9)), (2, .inl (nI (i + 1)))]) rfl ?_
        have hst : tightN S (i + 1) = none := by rw [hu]; first | (rw [if_neg (by rw [hp15]; decide)]; exact ht) | (rw [if_pos hp15, ht]; exact if_neg (by omega))
        have hk2 := hk () _ rfl
        rw [hst] at hk2
        exact hk2
    | some t =>
      obtain ⟨htl, htw⟩ := tightN_lt i ht
      have htn : t < Sn S := by omega
      have e5t : σ 5 0 5 (nI t).toNatClampNeg = nI (Sq S t) := by rw [cl8 (by omega)]; exact (hR.2 t htn).2.2.2.1
      have hb2 := bear_le hO t
      have hq2 := (hO.2.1 t).2.2.2
      refine AW.run 3 [] (10, [(0, .inr (.inr (5, 0, 0))), (1, .inl (nI t)), (2, .inl (nI i))], [.inl (σ 5 0 0 7), .inl (nI i)], σ) [] rfl ?_ ?_
      · exact trivial
      rw [e7]
      refine AW.run 3 [false] (15, [(0, .inr (.inr (5, 0, 0))), (1, .inl (nI t)), (2, .inl (nI i))], [.inl (nI i), .inr (.inr (5, 0, 0))], σ) [¬ icP .ge (nI i) (nI (Sn S))] rfl ?_ ?_
      · exact allP1 (nI_ge hi (by omega))
      refine AW.callVI (d' := 0) [.inl (nI i)] [] ⟨_, rfl⟩ f_6_isWhole v_6_isWhole l_6_108 ⟨rfl, by decide⟩ rfl (Nat.le_of_ble_eq_true rfl) rfl (Nat.le_of_ble_eq_true rfl) (c6_isWhole S σ hR (by first | exact hO.1 | exact hn8) i hi) ?_
      rintro v _ ⟨rfl, hv⟩
      rcases hv with ⟨rfl, hp15⟩ | ⟨rfl, hp15⟩
      · skip
        refine AW.run 5 [false, false] (27, [(0, .inr (.inr (5, 0, 0))), (1, .inl (nI t)), (2, .inl (nI i))], [.inl (nI i), .inr (.inr (5, 0, 0))], σ) [¬ icP .eq (1 : Int32) 0, ¬ icP .lt (nI t) 0] rfl ?_ ?_
        · exact ⟨(by decide : ¬ ((1 : Int32) = 0)), allP1 (nlt0 (by omega))⟩
        refine AW.callVI (d' := 0) [.inl (nI i)] [] ⟨_, rfl⟩ f_6_bears v_6_bears l_6_173 ⟨rfl, by decide⟩ rfl (Nat.le_of_ble_eq_true rfl) rfl (Nat.le_of_ble_eq_true rfl) (c6_bears S σ hR hO i hi) ?_
        rintro _ _ ⟨rfl, rfl⟩
        refine AW.run 4 [] (36, [(0, .inr (.inr (5, 0, 0))), (1, .inl (nI t)), (2, .inl (nI i))], [.inl (σ 5 0 5 (nI i).toNatClampNeg), .inl (nI (bearS S i))], σ) [vp_in (nI i) 8] rfl ?_ ?_
        · exact allP1 (by exact in8 (by omega))
        rw [e5]
        refine AW.run 3 [] (39, [(0, .inr (.inr (5, 0, 0))), (1, .inl (nI t)), (2, .inl (nI i))], [.inl (nI t), .inr (.inr (5, 0, 0)), .inl ((nI (bearS S i)) - (nI (Sq S i)))], σ) [] rfl ?_ ?_
        · exact trivial
        refine AW.callVI (d' := 0) [.inl (nI t)] [.inl ((nI (bearS S i)) - (nI (Sq S i)))] ⟨_, rfl⟩ f_6_bears v_6_bears l_6_173 ⟨rfl, by decide⟩ rfl (Nat.le_of_ble_eq_true rfl) rfl (Nat.le_of_ble_eq_true rfl) (c6_bears S σ hR hO t htn) ?_
        rintro _ _ ⟨rfl, rfl⟩
        refine AW.run 4 [] (48, [(0, .inr (.inr (5, 0, 0))), (1, .inl (nI t)), (2, .inl (nI i))], [.inl (σ 5 0 5 (nI t).toNatClampNeg), .inl (nI (bearS S t)), .inl ((nI (bearS S i)) - (nI (Sq S i)))], σ) [vp_in (nI t) 8] rfl ?_ ?_
        · exact allP1 (by exact in8 (by omega))
        rw [e5t]
        by_cases h49_1 : bearS S i + Sq S t < bearS S t + Sq S i
        · skip
          refine AW.run 6 [false] (5, [(2, .inl ((nI i) + 1)), (1, .inl (nI i)), (0, .inr (.inr (5, 0, 0)))], [], σ) [¬ icP .ge ((nI (bearS S i)) - (nI (Sq S i))) ((nI (bearS S t)) - (nI (Sq S t)))] rfl ?_ ?_
          · exact allP1 ((fun q => absurd ((sub_le hb2 hq2 hb1 hq1).mp q) (by omega)))
          rw [nI_1 i]
          refine AW.pick [2, 1, 0] (ls' := [(0, .inr (.inr (5, 0, 0))), (1, .inl (nI i)), (2, .inl (nI (i + 1)))]) rfl ?_
          have hst : tightN S (i + 1) = some i := by rw [hu, if_pos hp15, ht]; exact if_pos (by omega)
          have hk2 := hk () _ rfl
          rw [hst] at hk2
          exact hk2
        · skip
          refine AW.run 4 [true] (5, [(2, .inl ((nI i) + 1)), (0, .inr (.inr (5, 0, 0))), (1, .inl (nI t))], [], σ) [icP .ge ((nI (bearS S i)) - (nI (Sq S i))) ((nI (bearS S t)) - (nI (Sq S t)))] rfl ?_ ?_
          · exact allP1 ((sub_le hb2 hq2 hb1 hq1).mpr (by omega))
          rw [nI_1 i]
          refine AW.pick [1, 2, 0] (ls' := [(0, .inr (.inr (5, 0, 0))), (1, .inl (nI t)), (2, .inl (nI (i + 1)))]) rfl ?_
          have hst : tightN S (i + 1) = some t := by rw [hu]; first | (rw [if_neg (by rw [hp15]; decide)]; exact ht) | (rw [if_pos hp15, ht]; exact if_neg (by omega))
          have hk2 := hk () _ rfl
          rw [hst] at hk2
          exact hk2
      · skip
        refine AW.run 3 [true] (5, [(2, .inl ((nI i) + 1)), (0, .inr (.inr (5, 0, 0))), (1, .inl (nI t))], [], σ) [icP .eq (0 : Int32) 0] rfl ?_ ?_
        · exact allP1 (by decide : ((0 : Int32) = 0))
        rw [nI_1 i]
        refine AW.pick [1, 2, 0] (ls' := [(0, .inr (.inr (5, 0, 0))), (1, .inl (nI t)), (2, .inl (nI (i + 1)))]) rfl ?_
        have hst : tightN S (i + 1) = some t := by rw [hu]; first | (rw [if_neg (by rw [hp15]; decide)]; exact ht) | (rw [if_pos hp15, ht]; exact if_neg (by omega))
        have hk2 := hk () _ rfl
        rw [hst] at hk2
        exact hk2
  · intro _ τ hI
    subst hI
    have e7 := hR.1.1
    refine AW.run 3 [] (10, [(0, .inr (.inr (5, 0, 0))), (1, .inl (optI (tightN S (Sn S)))), (2, .inl (nI (Sn S)))], [.inl (σ 5 0 0 7), .inl (nI (Sn S))], σ) [] rfl ?_ ?_
    · exact trivial
    rw [e7]
    refine AW.run 2 [true] (61, [(0, .inr (.inr (5, 0, 0))), (1, .inl (optI (tightN S (Sn S)))), (2, .inl (nI (Sn S)))], [.inl (optI (tightN S (Sn S)))], σ) [icP .ge (nI (Sn S)) (nI (Sn S))] rfl ?_ ?_
    · exact allP1 (nI_le (Nat.le_refl _) (by omega))
    refine AW.reti ⟨_, rfl⟩ rfl ?_
    exact ⟨by rw [hout], rfl⟩
set_option maxHeartbeats 4000000 in
set_option maxRecDepth 100000 in
theorem c6_longestGap (S : Sv) (σ : St) (hR : RepM (σ 5 0) S) (hO : SOK S) : Ct M6_longestGap 2 [.inr (.inr (5, 0, 0))] σ (PI fun r9 σ' => nI (gapN S 15).1 = r9 ∧ σ = σ') := by
  refine Ct.of f_6_longestGap (Nat.le_of_ble_eq_true rfl) ?_
  show AW M6_longestGap 2 _ (0, [(0, .inr (.inr (5, 0, 0)))], [], σ)
  have hn8 : Sn S ≤ 8 := hO.1
  refine AW.run 6 [] (6, [(3, .inl 0), (2, .inl 0), (1, .inl 0), (0, .inr (.inr (5, 0, 0)))], [], σ) [] rfl ?_ ?_
  · exact trivial
  refine AW.pick [3, 2, 1, 0] (ls' := [(0, .inr (.inr (5, 0, 0))), (1, .inl (nI (gapN S 0).1)), (2, .inl (nI (gapN S 0).2)), (3, .inl (nI 0))]) rfl ?_
  refine AW.loop (α := Unit) 6 15 (fun i _ => [(0, .inr (.inr (5, 0, 0))), (1, .inl (nI (gapN S i).1)), (2, .inl (nI (gapN S i).2)), (3, .inl (nI i))]) (fun i _ τ => σ = τ) ?_ ?_ 15 0 () _ (by omega) rfl
  · intro i _ τ hi hI hk
    subst hI
    have hgl := gapN_le (S := S) i
    have hu : gapN S (i + 1) = match atS S i with | none => (Nat.max (gapN S i).1 ((gapN S i).2 + 1), (gapN S i).2 + 1) | some _ => (Nat.max (gapN S i).1 0, 0) := rfl
    cases ha : atS S i with
    | none =>
      refine AW.run 5 [false] (14, [(0, .inr (.inr (5, 0, 0))), (1, .inl (nI (gapN S i).1)), (2, .inl (nI (gapN S i).2)), (3, .inl (nI i))], [.inl (nI i), .inr (.inr (5, 0, 0))], σ) [¬ icP .ge (nI i) 15] rfl ?_ ?_
      · exact allP1 (nle_lit (a := 15) hi (by decide))
      refine AW.callVI (d' := 1) [.inl (nI i)] [] ⟨_, rfl⟩ f_6_wholeAt v_6_wholeAt l_6_98 ⟨rfl, by decide⟩ rfl (Nat.le_of_ble_eq_true rfl) rfl (Nat.le_of_ble_eq_true rfl) (c6_wholeAt S σ hR hO (nI i) i rfl (by omega)) ?_
      rintro _ _ ⟨rfl, rfl⟩
      rw [ha]
      dsimp only [optI]
      refine AW.run 5 [false] (27, [(0, .inr (.inr (5, 0, 0))), (1, .inl (nI (gapN S i).1)), (2, .inl (nI (gapN S i).2)), (3, .inl (nI i))], [.inl ((nI (gapN S i).2) + 1)], σ) [¬ icP .ge ((-9) : Int32) 0] rfl ?_ ?_
      · exact allP1 (by decide : ¬ ((0 : Int32) ≤ (-9)))
      rw [nI_1]
      by_cases h30_1 : (gapN S i).1 < (gapN S i).2 + 1
      · skip
        refine AW.run 9 [false] (6, [(3, .inl ((nI i) + 1)), (1, .inl (nI ((gapN S i).2 + 1))), (2, .inl (nI ((gapN S i).2 + 1))), (0, .inr (.inr (5, 0, 0)))], [], σ) [¬ icP .le (nI ((gapN S i).2 + 1)) (nI (gapN S i).1)] rfl ?_ ?_
        · exact allP1 (nI_ge h30_1 (by omega))
        rw [nI_1 i]
        refine AW.pick [3, 1, 2, 0] (ls' := [(0, .inr (.inr (5, 0, 0))), (1, .inl (nI ((gapN S i).2 + 1))), (2, .inl (nI ((gapN S i).2 + 1))), (3, .inl (nI (i + 1)))]) rfl ?_
        have hst : gapN S (i + 1) = (Nat.max (gapN S i).1 ((gapN S i).2 + 1), (gapN S i).2 + 1) := by rw [hu, ha]
        have hk2 := hk () _ rfl
        rw [hst] at hk2
        dsimp only at hk2
        rw [mx_l (by assumption)] at hk2
        exact hk2
      · skip
        refine AW.run 8 [true] (6, [(3, .inl ((nI i) + 1)), (1, .inl (nI (gapN S i).1)), (2, .inl (nI ((gapN S i).2 + 1))), (0, .inr (.inr (5, 0, 0)))], [], σ) [icP .le (nI ((gapN S i).2 + 1)) (nI (gapN S i).1)] rfl ?_ ?_
        · exact allP1 (nI_le (by omega) (by omega))
        rw [nI_1 i]
        refine AW.pick [3, 1, 2, 0] (ls' := [(0, .inr (.inr (5, 0, 0))), (1, .inl (nI (gapN S i).1)), (2, .inl (nI ((gapN S i).2 + 1))), (3, .inl (nI (i + 1)))]) rfl ?_
        have hst : gapN S (i + 1) = (Nat.max (gapN S i).1 ((gapN S i).2 + 1), (gapN S i).2 + 1) := by rw [hu, ha]
        have hk2 := hk () _ rfl
        rw [hst] at hk2
        dsimp only at hk2
        rw [mx_r (by assumption)] at hk2
        exact hk2
    | some j =>
      have hj8 := (atS_lt ha).1
      refine AW.run 5 [false] (14, [(0, .inr (.inr (5, 0, 0))), (1, .inl (nI (gapN S i).1)), (2, .inl (nI (gapN S i).2)), (3, .inl (nI i))], [.inl (nI i), .inr (.inr (5, 0, 0))], σ) [¬ icP .ge (nI i) 15] rfl ?_ ?_
      · exact allP1 (nle_lit (a := 15) hi (by decide))
      refine AW.callVI (d' := 1) [.inl (nI i)] [] ⟨_, rfl⟩ f_6_wholeAt v_6_wholeAt l_6_98 ⟨rfl, by decide⟩ rfl (Nat.le_of_ble_eq_true rfl) rfl (Nat.le_of_ble_eq_true rfl) (c6_wholeAt S σ hR hO (nI i) i rfl (by omega)) ?_
      rintro _ _ ⟨rfl, rfl⟩
      rw [ha]
      dsimp only [optI]
      refine AW.run 2 [true] (27, [(0, .inr (.inr (5, 0, 0))), (1, .inl (nI (gapN S i).1)), (2, .inl (nI (gapN S i).2)), (3, .inl (nI i))], [.inl 0], σ) [icP .ge (nI j) 0] rfl ?_ ?_
      · exact allP1 (nI_pos' (by omega))
      refine AW.run 8 [true] (6, [(3, .inl ((nI i) + 1)), (1, .inl (nI (gapN S i).1)), (2, .inl 0), (0, .inr (.inr (5, 0, 0)))], [], σ) [icP .le 0 (nI (gapN S i).1)] rfl ?_ ?_
      · exact allP1 (nI_pos' (by omega))
      rw [nI_1 i]
      refine AW.pick [3, 1, 2, 0] (ls' := [(0, .inr (.inr (5, 0, 0))), (1, .inl (nI (gapN S i).1)), (2, .inl 0), (3, .inl (nI (i + 1)))]) rfl ?_
      have hst : gapN S (i + 1) = (Nat.max (gapN S i).1 0, 0) := by rw [hu, ha]
      have hk2 := hk () _ rfl
      rw [hst] at hk2
      dsimp only at hk2
      rw [show Nat.max (gapN S i).1 0 = (gapN S i).1 from Nat.max_eq_left (Nat.zero_le _)] at hk2
      exact hk2
  · intro _ τ hI
    subst hI
    refine AW.run 4 [true] (46, [(0, .inr (.inr (5, 0, 0))), (1, .inl (nI (gapN S 15).1)), (2, .inl (nI (gapN S 15).2)), (3, .inl (nI 15))], [.inl (nI (gapN S 15).1)], σ) [icP .ge (nI 15) 15] rfl ?_ ?_
    · exact allP1 (le_lit (a := 15) (b := 15) (by decide) (by decide))
    refine AW.reti ⟨_, rfl⟩ rfl ?_
    exact ⟨rfl, rfl⟩
