/-! HALVED; FED; LEFT SO; PRESSED SO -/
def hqM (T : Sv) (d i : Nat) : Nat → Nat := fun j => if j < i ∧ d % 7 = 0 then Sq T j / 2 else Sq T j
def hlvM (d : Nat) (T : Sv) : Sv := dayS (withQ T (hqM T d (Sn T)))
theorem SOK_hqM {T : Sv} (hO : SOK T) (d i : Nat) : SOK (withQ T (hqM T d i)) := by
  obtain ⟨h1, h2, h3, h4, h5⟩ := hO
  refine ⟨h1, fun k => ⟨(h2 k).1, (h2 k).2.1, (h2 k).2.2.1, ?_⟩, fun k hk => ?_, h4, h5⟩
  · show hqM T d i k ≤ 99
    have := (h2 k).2.2.2
    unfold hqM
    split <;> omega
  · obtain ⟨g1, g2, g3, g4⟩ := h3 k hk
    refine ⟨g1, g2, ?_, g4⟩
    show hqM T d i k = 0
    unfold hqM
    rw [g3]
    split <;> rfl
theorem hqM_hit {T : Sv} {d i : Nat} (h : d % 7 = 0) : hqM T d (i + 1) = fu (hqM T d i) i (Sq T i / 2) := by
  funext k
  unfold hqM fu
  by_cases hk : k = i
  · subst hk; rw [if_pos ⟨Nat.lt_succ_self _, h⟩, if_pos rfl]
  · have e : (k < i + 1) ↔ (k < i) := by omega
    simp only [e, hk, if_false]
theorem hqM_miss {T : Sv} {d i : Nat} (h : ¬ d % 7 = 0) : hqM T d i = Sq T := by
  funext k
  unfold hqM
  exact if_neg (fun q => h q.2)
theorem hqM_at {T : Sv} {d i : Nat} : hqM T d i i = Sq T i := by
  unfold hqM; exact if_neg (fun q => Nat.lt_irrefl _ q.1)
theorem hqM_0 {T : Sv} {d : Nat} : hqM T d 0 = Sq T := by
  funext k; unfold hqM; exact if_neg (fun q => Nat.not_lt_zero _ q.1)
theorem sim_hlv {T U : Sv} (hO : SOK T) (h : Sim T U) (d : Nat) : Sim (hlvM d T) (hlvD d U) := by
  unfold hlvM hlvD
  apply sim_day
  by_cases h7 : d % 7 = 0
  · rw [if_pos h7]
    refine ⟨h.1, h.2.1, h.2.2.1, h.2.2.2.1, h.2.2.2.2.1, fun i hi => ⟨?_, (h.2.2.2.2.2.1 i hi).2⟩, h.2.2.2.2.2.2⟩
    have hi : Sw T i = true := hi
    show hqM T d (Sn T) i = halfQ U 8 i
    have hin := SOK_lt hO hi
    unfold hqM halfQ
    rw [if_pos ⟨hin, h7⟩, if_pos ⟨by have := hO.1; omega, by rw [← h.2.2.2.2.1]; exact hi⟩, (h.2.2.2.2.2.1 i hi).1]
  · rw [if_neg h7, hqM_miss h7]
    exact h
theorem hlv_sim {S : Sv} : ∀ (k d : Nat) (T U : Sv), Sim T U → hlvN S k d T = hlvN S k d U
  | 0, _, _, _, _ => rfl
  | k + 1, d, T, U, h => by
    have hs : Sim (hlvD d T) (hlvD d U) := by
      unfold hlvD
      apply sim_day
      by_cases h7 : d % 7 = 0
      · rw [if_pos h7, if_pos h7]
        refine ⟨h.1, h.2.1, h.2.2.1, h.2.2.2.1, h.2.2.2.2.1, fun i hi => ⟨?_, (h.2.2.2.2.2.1 i hi).2⟩, h.2.2.2.2.2.2⟩
        have hi : Sw T i = true := hi
        show halfQ T 8 i = halfQ U 8 i
        unfold halfQ
        rw [← h.2.2.2.2.1, (h.2.2.2.2.2.1 i hi).1]
      · rw [if_neg h7, if_neg h7]; exact h
    unfold hlvN
    have hw : sameW (hlvD d T) S = sameW (hlvD d U) S := by unfold sameW; rw [hs.2.2.2.2.1]
    rw [hw, hlv_sim k (d + 1) _ _ hs]
theorem hlvM_step {S : Sv} {k d : Nat} {T : Sv} (hO : SOK T) : hlvN S (k + 1) d T = if sameW (hlvM d T) S = true then hlvN S k (d + 1) (hlvM d T) else some d := by
  have hs := sim_hlv hO (sim_rfl (S := T)) d
  have hw : sameW (hlvM d T) S = sameW (hlvD d T) S := by unfold sameW; rw [hs.2.2.2.2.1]
  rw [hw, hlv_sim k (d + 1) _ _ hs]
  rfl
theorem hlvM_n (d : Nat) (T : Sv) : Sn (hlvM d T) = Sn T := day_n _
set_option maxHeartbeats 4000000 in
set_option maxRecDepth 100000 in
theorem c6_halved (S : Sv) (σ : St) (hR : RepM (σ 5 0) S) (hO : SOK S) : Ct M6_halved 5 [.inr (.inr (5, 0, 0))] σ (PI fun r9 σ' => optI (hlvN S 60 1 S) = r9 ∧ Fr P2 σ σ' ∧ RepM (σ' 5 0) S) := by
  refine Ct.of f_6_halved (Nat.le_of_ble_eq_true rfl) ?_
  show AW M6_halved 5 _ (0, [(0, .inr (.inr (5, 0, 0)))], [], σ)
  have hn8 : Sn S ≤ 8 := hO.1
  refine AW.run 1 [] (1, [(0, .inr (.inr (5, 0, 0)))], [.inr (.inr (5, 0, 0))], σ) [] rfl ?_ ?_
  · exact trivial
  refine AW.callVV (d' := 2) [] [] ⟨_, rfl⟩ f_6_thinks v_6_thinks l_6_203 ⟨rfl, by decide⟩ rfl (Nat.le_of_ble_eq_true rfl) rfl (Nat.le_of_ble_eq_true rfl) (c6_thinks S σ hR hO.1) ?_
  rintro τ40 ⟨f40, r40, k40⟩
  refine AW.run 1 [] (5, [(0, .inr (.inr (5, 0, 0)))], [.inr (.inr (5, 0, 0))], τ40) [] rfl ?_ ?_
  · exact trivial
  refine AW.callVI (d' := 1) [] [] ⟨_, rfl⟩ f_6_whole v_6_whole l_6_197 ⟨rfl, by decide⟩ rfl (Nat.le_of_ble_eq_true rfl) rfl (Nat.le_of_ble_eq_true rfl) (c6_whole S τ40 r40 hO) ?_
  rintro _ _ ⟨rfl, rfl⟩
  refine AW.run 5 [] (14, [(3, .inl 1), (2, .inl (-9)), (1, .inl (bI (Sw S))), (0, .inr (.inr (5, 0, 0)))], [], τ40) [] rfl ?_ ?_
  · exact trivial
  refine AW.pick [3, 2, 1, 0] (ls' := [(0, .inr (.inr (5, 0, 0))), (1, .inl (bI (Sw S))), (2, .inl (-9)), (3, .inl (nI 1))]) rfl ?_
  refine AW.loop (α := Sv) 14 61 (fun d T => [(0, .inr (.inr (5, 0, 0))), (1, .inl (bI (Sw S))), (2, .inl (-9)), (3, .inl (nI d))]) (fun d T τ => 1 ≤ d ∧ Fr P1 τ40 τ ∧ RepM (τ 5 0) T ∧ SOK T ∧ Sn T = Sn S ∧ hlvN S 60 1 S = hlvN S (61 - d) d T) ?_ ?_ 60 1 S _ (by omega) ⟨Nat.le_refl _, (fr_rfl (P := P1)), r40, hO, rfl, rfl⟩
  · intro d T τ hd hI hk
    obtain ⟨hd0, hF, hT, hOT, hTn, hg⟩ := hI
    have hu : hlvN S (61 - d) d T = if sameW (hlvM d T) S = true then hlvN S (61 - (d + 1)) (d + 1) (hlvM d T) else some d := by
      obtain ⟨m, hm⟩ : ∃ m, 61 - d = m + 1 := ⟨60 - d, by omega⟩
      rw [hm, show 61 - (d + 1) = m by omega]; exact hlvM_step hOT
    have hrm := rem7 d hd
    refine AW.run 7 [false, false] (27, [(4, .inl 0), (0, .inr (.inr (5, 0, 0))), (1, .inl (bI (Sw S))), (2, .inl (-9)), (3, .inl (nI d))], [], τ) [¬ icP .gt (nI d) 60, ¬ icP .ge ((-9) : Int32) 0] rfl ?_ ?_
    · exact ⟨(nI_nlt (a := 60) (b := d) (by omega) (by omega)), allP1 (by decide : ¬ ((0 : Int32) ≤ (-9)))⟩
    refine AW.pick [1, 2, 3, 4, 0] (ls' := [(0, .inr (.inr (5, 0, 0))), (1, .inl (bI (Sw S))), (2, .inl (-9)), (3, .inl (nI d)), (4, .inl (nI 0))]) rfl ?_
    refine AW.loop (α := Unit) 27 (Sn T) (fun i _ => [(0, .inr (.inr (5, 0, 0))), (1, .inl (bI (Sw S))), (2, .inl (-9)), (3, .inl (nI d)), (4, .inl (nI i))]) (fun i _ υ => Fr P1 τ υ ∧ RepM (υ 5 0) (withQ T (hqM T d i))) ?_ ?_ (Sn T) 0 () _ (by omega) ⟨fr_rfl, by rw [hqM_0]; exact hT⟩
    · intro i _ υ hi hI hk9
      obtain ⟨hF9, hR9⟩ := hI
      have hi8 : i < 8 := by omega
      have e7 := hR9.1.1
      have e5 : υ 5 0 5 (nI i).toNatClampNeg = nI (Sq T i) := by rw [cl8 hi8, ← hqM_at (T := T) (d := d) (i := i)]; exact (hR9.2 i hi).2.2.2.1
      have hq9 := (hOT.2.1 i).2.2.2
      by_cases h7 : d % 7 = 0
      · skip
        refine AW.run 3 [] (33, [(0, .inr (.inr (5, 0, 0))), (1, .inl (bI (Sw S))), (2, .inl (-9)), (3, .inl (nI d)), (4, .inl (nI i))], [.inl (υ 5 0 0 7), .inl (nI i)], υ) [] rfl ?_ ?_
        · exact trivial
        rw [e7]
        refine AW.run 12 [false, false] (56, [(0, .inr (.inr (5, 0, 0))), (1, .inl (bI (Sw S))), (2, .inl (-9)), (3, .inl (nI d)), (4, .inl (nI i))], [.inl (υ 5 0 5 (nI i).toNatClampNeg), .inl (nI i), .inr (.inr (5, 0, 5))], υ) [¬ icP .ge (nI i) (nI (Sn T)), ¬ (7 : Int32) = 0, ¬ icP .ne ((nI d) - (nI d) / 7 * 7) 0, vp_in (nI i) 8] rfl ?_ ?_
        · exact ⟨(nI_ge hi (by omega)), (by decide), (fun q => q (hrm.mpr h7)), allP1 (by first | exact in8 (by omega) | decide)⟩
        rw [e5]
        refine AW.run 2 [] (58, [(0, .inr (.inr (5, 0, 0))), (1, .inl (bI (Sw S))), (2, .inl (-9)), (3, .inl (nI d)), (4, .inl (nI i))], [.inl ((nI (Sq T i)) / 2), .inl (nI i), .inr (.inr (5, 0, 5))], υ) [¬ (2 : Int32) = 0] rfl ?_ ?_
        · exact allP1 (by decide)
        rw [half_n _ (by omega)]
        refine AW.run 1 [] (68, [(0, .inr (.inr (5, 0, 0))), (1, .inl (bI (Sw S))), (2, .inl (-9)), (3, .inl (nI d)), (4, .inl (nI i))], [.inl (nI (Sq T i / 2)), .inl (nI i), .inr (.inr (5, 0, 5))], υ) [] rfl ?_ ?_
        · exact trivial
        refine AW.run 3 [] (27, [(4, .inl ((nI i) + 1)), (0, .inr (.inr (5, 0, 0))), (1, .inl (bI (Sw S))), (2, .inl (-9)), (3, .inl (nI d))], [], (setM υ 5 0 5 (nI i).toNatClampNeg (nI (Sq T i / 2)))) [vp_in (nI i) 8] rfl ?_ ?_
        · exact allP1 (by first | exact in8 (by omega) | decide)
        rw [nI_1 i, cl8 hi8]
        refine AW.pick [1, 2, 3, 4, 0] (ls' := [(0, .inr (.inr (5, 0, 0))), (1, .inl (bI (Sw S))), (2, .inl (-9)), (3, .inl (nI d)), (4, .inl (nI (i + 1)))]) rfl ?_
        exact hk9 () _ ⟨fr_set hF9 (p1_q (by omega) (by omega)), by rw [hqM_hit h7]; exact repM_q hR9⟩
      · skip
        refine AW.run 3 [] (33, [(0, .inr (.inr (5, 0, 0))), (1, .inl (bI (Sw S))), (2, .inl (-9)), (3, .inl (nI d)), (4, .inl (nI i))], [.inl (υ 5 0 0 7), .inl (nI i)], υ) [] rfl ?_ ?_
        · exact trivial
        rw [e7]
        refine AW.run 12 [false, true] (68, [(0, .inr (.inr (5, 0, 0))), (1, .inl (bI (Sw S))), (2, .inl (-9)), (3, .inl (nI d)), (4, .inl (nI i))], [.inl (υ 5 0 5 (nI i).toNatClampNeg), .inl (nI i), .inr (.inr (5, 0, 5))], υ) [¬ icP .ge (nI i) (nI (Sn T)), ¬ (7 : Int32) = 0, icP .ne ((nI d) - (nI d) / 7 * 7) 0, vp_in (nI i) 8] rfl ?_ ?_
        · exact ⟨(nI_ge hi (by omega)), (by decide), (fun q => h7 (hrm.mp q)), allP1 (by first | exact in8 (by omega) | decide)⟩
        rw [e5]
        refine AW.run 3 [] (27, [(4, .inl ((nI i) + 1)), (0, .inr (.inr (5, 0, 0))), (1, .inl (bI (Sw S))), (2, .inl (-9)), (3, .inl (nI d))], [], (setM υ 5 0 5 (nI i).toNatClampNeg (nI (Sq T i)))) [vp_in (nI i) 8] rfl ?_ ?_
        · exact allP1 (by first | exact in8 (by omega) | decide)
        rw [nI_1 i, cl8 hi8]
        refine AW.pick [1, 2, 3, 4, 0] (ls' := [(0, .inr (.inr (5, 0, 0))), (1, .inl (bI (Sw S))), (2, .inl (-9)), (3, .inl (nI d)), (4, .inl (nI (i + 1)))]) rfl ?_
        have h9 := repM_q (k := i) (q := Sq T i) hR9
        rw [show fu (Sq (withQ T (hqM T d i))) i (Sq T i) = hqM T d (i + 1) from by show fu (hqM T d i) i (Sq T i) = _; rw [hqM_miss h7, hqM_miss h7]; exact fu_self _ _] at h9
        exact hk9 () _ ⟨fr_set hF9 (p1_q (by omega) (by omega)), h9⟩
    · intro _ υ hI
      obtain ⟨hF9, hR9⟩ := hI
      have e7 := hR9.1.1
      refine AW.run 3 [] (33, [(0, .inr (.inr (5, 0, 0))), (1, .inl (bI (Sw S))), (2, .inl (-9)), (3, .inl (nI d)), (4, .inl (nI (Sn T)))], [.inl (υ 5 0 0 7), .inl (nI (Sn T))], υ) [] rfl ?_ ?_
      · exact trivial
      rw [e7]
      refine AW.run 2 [true] (76, [(0, .inr (.inr (5, 0, 0))), (1, .inl (bI (Sw S))), (2, .inl (-9)), (3, .inl (nI d)), (4, .inl (nI (Sn T)))], [.inr (.inr (5, 0, 0))], υ) [icP .ge (nI (Sn T)) (nI (Sn T))] rfl ?_ ?_
      · exact allP1 (nI_le (Nat.le_refl _) (by omega))
      refine AW.callVV (d' := 4) [] [] ⟨_, rfl⟩ f_6_goesDay v_6_goesDay l_6_188 ⟨rfl, by decide⟩ rfl (Nat.le_of_ble_eq_true rfl) rfl (Nat.le_of_ble_eq_true rfl) (c6_goesDay (withQ T (hqM T d (Sn T))) υ hR9 (SOK_hqM hOT d (Sn T)) ) ?_
      rintro τ41 ⟨f41, r41⟩
      refine AW.run 1 [] (80, [(0, .inr (.inr (5, 0, 0))), (1, .inl (bI (Sw S))), (2, .inl (-9)), (3, .inl (nI d)), (4, .inl (nI (Sn T)))], [.inr (.inr (5, 0, 0))], τ41) [] rfl ?_ ?_
      · exact trivial
      refine AW.callVI (d' := 1) [] [] ⟨_, rfl⟩ f_6_whole v_6_whole l_6_197 ⟨rfl, by decide⟩ rfl (Nat.le_of_ble_eq_true rfl) rfl (Nat.le_of_ble_eq_true rfl) (c6_whole (dayS (withQ T (hqM T d (Sn T)))) τ41 r41 (SOK_day (SOK_hqM hOT d (Sn T)))) ?_
      rintro _ _ ⟨rfl, rfl⟩
      by_cases h84_1 : sameW (hlvM d T) S = true
      · skip
        refine AW.run 7 [false] (14, [(3, .inl ((nI d) + 1)), (2, .inl (-9)), (0, .inr (.inr (5, 0, 0))), (1, .inl (bI (Sw S))), (4, .inl (nI (Sn T)))], [], τ41) [¬ icP .ne (bI (Sw (dayS (withQ T (hqM T d (Sn T)))))) (bI (Sw S))] rfl ?_ ?_
        · exact allP1 (fun q => q (bI_eq.mpr (of_decide_eq_true h84_1)))
        rw [nI_1 d]
        refine AW.pick [2, 3, 1, 0] (ls' := [(0, .inr (.inr (5, 0, 0))), (1, .inl (bI (Sw S))), (2, .inl (-9)), (3, .inl (nI (d + 1)))]) rfl ?_
        exact hk (hlvM d T) _ ⟨by omega, (fr_trans (fr_trans hF hF9) f41), r41, (SOK_day (SOK_hqM hOT d (Sn T))), by rw [hlvM_n]; exact hTn, by rw [hg, hu]; rw [if_pos (by assumption)]⟩
      · skip
        refine AW.run 6 [true] (14, [(3, .inl ((nI d) + 1)), (2, .inl (nI d)), (0, .inr (.inr (5, 0, 0))), (1, .inl (bI (Sw S))), (4, .inl (nI (Sn T)))], [], τ41) [icP .ne (bI (Sw (dayS (withQ T (hqM T d (Sn T)))))) (bI (Sw S))] rfl ?_ ?_
        · exact allP1 (fun q => h84_1 (decide_eq_true (bI_eq.mp q)))
        rw [nI_1 d]
        refine AW.pick [2, 3, 1, 0] (ls' := [(0, .inr (.inr (5, 0, 0))), (1, .inl (bI (Sw S))), (2, .inl (nI d)), (3, .inl (nI (d + 1)))]) rfl ?_
        by_cases h17_1 : (60 : Int32) < (nI (d + 1))
        · skip
          refine AW.run 4 [true] (101, [(0, .inr (.inr (5, 0, 0))), (1, .inl (bI (Sw S))), (2, .inl (nI d)), (3, .inl (nI (d + 1)))], [.inr (.inr (5, 0, 0))], τ41) [icP .gt (nI (d + 1)) 60] rfl ?_ ?_
          · exact allP1 (h17_1)
          refine AW.callVV (d' := 2) [] [] ⟨_, rfl⟩ f_6_forgets v_6_forgets l_6_206 ⟨rfl, by decide⟩ rfl (Nat.le_of_ble_eq_true rfl) rfl (Nat.le_of_ble_eq_true rfl) (c6_forgets S τ41 (repK_fr hO.1 (fr_trans (fr_trans hF hF9) f41) (fun k _ _ q => by unfold P1 at q; omega) k40) hO.1) ?_
          rintro τ42 ⟨f42, r42⟩
          refine AW.run 1 [] (105, [(0, .inr (.inr (5, 0, 0))), (1, .inl (bI (Sw S))), (2, .inl (nI d)), (3, .inl (nI (d + 1)))], [.inl (nI d)], τ42) [] rfl ?_ ?_
          · exact trivial
          refine AW.reti ⟨_, rfl⟩ rfl ?_
          exact ⟨by rw [hg, hu]; rw [if_neg (by assumption)]; rfl, (fr_trans (fr_trans (fr_trans (fr_trans (fr_trans fr_rfl f40) (fr_12 hF)) (fr_12 hF9)) (fr_12 f41)) f42), r42⟩
        · skip
          refine AW.run 6 [false, true] (101, [(0, .inr (.inr (5, 0, 0))), (1, .inl (bI (Sw S))), (2, .inl (nI d)), (3, .inl (nI (d + 1)))], [.inr (.inr (5, 0, 0))], τ41) [¬ icP .gt (nI (d + 1)) 60, icP .ge (nI d) 0] rfl ?_ ?_
          · exact ⟨(h17_1), allP1 (nI_pos' (by omega))⟩
          refine AW.callVV (d' := 2) [] [] ⟨_, rfl⟩ f_6_forgets v_6_forgets l_6_206 ⟨rfl, by decide⟩ rfl (Nat.le_of_ble_eq_true rfl) rfl (Nat.le_of_ble_eq_true rfl) (c6_forgets S τ41 (repK_fr hO.1 (fr_trans (fr_trans hF hF9) f41) (fun k _ _ q => by unfold P1 at q; omega) k40) hO.1) ?_
          rintro τ43 ⟨f43, r43⟩
          refine AW.run 1 [] (105, [(0, .inr (.inr (5, 0, 0))), (1, .inl (bI (Sw S))), (2, .inl (nI d)), (3, .inl (nI (d + 1)))], [.inl (nI d)], τ43) [] rfl ?_ ?_
          · exact trivial
          refine AW.reti ⟨_, rfl⟩ rfl ?_
          exact ⟨by rw [hg, hu]; rw [if_neg (by assumption)]; rfl, (fr_trans (fr_trans (fr_trans (fr_trans (fr_trans fr_rfl f40) (fr_12 hF)) (fr_12 hF9)) (fr_12 f41)) f43), r43⟩
  · intro T τ hI
    obtain ⟨hd0, hF, hT, hOT, hTn, hg⟩ := hI
    refine AW.run 4 [true] (101, [(0, .inr (.inr (5, 0, 0))), (1, .inl (bI (Sw S))), (2, .inl (-9)), (3, .inl (nI 61))], [.inr (.inr (5, 0, 0))], τ) [icP .gt (nI 61) 60] rfl ?_ ?_
    · exact allP1 (nI_lt (a := 60) (b := 61) (by decide) (by decide))
    refine AW.callVV (d' := 2) [] [] ⟨_, rfl⟩ f_6_forgets v_6_forgets l_6_206 ⟨rfl, by decide⟩ rfl (Nat.le_of_ble_eq_true rfl) rfl (Nat.le_of_ble_eq_true rfl) (c6_forgets S τ (repK_fr hO.1 hF (fun k _ _ q => by unfold P1 at q; omega) k40) hO.1) ?_
    rintro τ44 ⟨f44, r44⟩
    refine AW.run 1 [] (105, [(0, .inr (.inr (5, 0, 0))), (1, .inl (bI (Sw S))), (2, .inl (-9)), (3, .inl (nI 61))], [.inl (-9)], τ44) [] rfl ?_ ?_
    · exact trivial
    refine AW.reti ⟨_, rfl⟩ rfl ?_
    exact ⟨by rw [hg]; rfl, (fr_trans (fr_trans (fr_trans fr_rfl f40) (fr_12 hF)) f44), r44⟩
set_option maxHeartbeats 4000000 in
set_option maxRecDepth 100000 in
theorem c6_divisor (x y : Nat) (hx : x < 2 ^ 62) (hy : y < 2 ^ 62) (σ : St) : Ct M6_divisor 0 [.inr (.inl (lN x)), .inr (.inl (lN y))] σ (PL fun r9 σ' => lN (Nat.gcd x y) = r9 ∧ σ = σ') := by
  refine Ct.of f_6_divisor (Nat.le_of_ble_eq_true rfl) ?_
  show AW M6_divisor 0 _ (0, [(0, .inr (.inl (lN x))), (2, .inr (.inl (lN y)))], [], σ)
  refine AW.run 4 [] (6, [(6, .inr (.inl (lN y))), (4, .inr (.inl (lN x))), (0, .inr (.inl (lN x))), (2, .inr (.inl (lN y)))], [], σ) [] rfl ?_ ?_
  · exact trivial
  refine AW.pick [1, 0] (ls' := [(4, .inr (.inl (lN x))), (6, .inr (.inl (lN y)))]) rfl ?_
  refine AW.wloop (α := Nat × Nat) 6 (fun q => [(4, .inr (.inl (lN q.1))), (6, .inr (.inl (lN q.2)))]) (fun q τ => σ = τ ∧ q.1 < 2 ^ 62 ∧ q.2 < 2 ^ 62 ∧ Nat.gcd q.1 q.2 = Nat.gcd x y) (fun q => q.2) ?_ (x, y) σ ⟨rfl, hx, hy, rfl⟩
  intro q τ hI hk
  obtain ⟨rfl, hg, hl, hc⟩ := hI
  by_cases h0 : q.2 = 0
  · have hz := (lcm_0 hl).mpr h0
    refine AW.run 5 [true] (33, [(4, .inr (.inl (lN q.1))), (6, .inr (.inl (lN q.2)))], [.inr (.inl (lN q.1))], σ) [icP .eq (lg_cmp (lN q.2) (Int64.ofNat 0)) 0] rfl ?_ ?_
    · exact allP1 (hz)
    refine AW.retl ⟨_, rfl⟩ rfl ?_
    exact ⟨by rw [← hc, h0, Nat.gcd_zero_right], rfl⟩
  · have hz := fun h => h0 ((lcm_0 hl).mp h)
    have hnz : ¬ lN q.2 = 0 := fun h => h0 ((lW_0 hl).mp h)
    refine AW.run 7 [false] (18, [(4, .inr (.inl (lN q.1))), (6, .inr (.inl (lN q.2)))], [.inr (.inl ((lN q.1) - (lN q.1) / (lN q.2) * (lN q.2)))], σ) [¬ icP .eq (lg_cmp (lN q.2) (Int64.ofNat 0)) 0, ¬ ((lN q.2) : Int64) = 0] rfl ?_ ?_
    · exact ⟨(hz), allP1 (by assumption)⟩
    rw [lW_mod hg hl (Nat.pos_of_ne_zero h0)]
    refine AW.run 6 [] (6, [(6, .inr (.inl (lN (q.1 % q.2)))), (4, .inr (.inl (lN q.2))), (8, .inr (.inl (lN (q.1 % q.2))))], [], σ) [] rfl ?_ ?_
    · exact trivial
    refine AW.pick [1, 0] (ls' := [(4, .inr (.inl (lN q.2))), (6, .inr (.inl (lN (q.1 % q.2))))]) rfl ?_
    exact hk (q.2, q.1 % q.2) _ (Nat.mod_lt _ (Nat.pos_of_ne_zero h0)) ⟨rfl, hl, Nat.lt_of_le_of_lt (Nat.mod_le _ _) hg, by show Nat.gcd q.2 (q.1 % q.2) = _; rw [Nat.gcd_comm, ← Nat.gcd_rec, Nat.gcd_comm]; exact hc⟩
set_option maxHeartbeats 4000000 in
set_option maxRecDepth 100000 in
theorem c6_partOf (x y p : Nat) (hx : x < 2 ^ 62) (hy : y < 2 ^ 62) (hp : p ≤ 1) (h0 : 0 < y) (σ : St) : Ct M6_partOf 1 [.inr (.inl (lN x)), .inr (.inl (lN y)), .inl (nI p)] σ (PL fun r9 σ' => paT x y p = r9 ∧ σ = σ') := by
  refine Ct.of f_6_partOf (Nat.le_of_ble_eq_true rfl) ?_
  show AW M6_partOf 1 _ (0, [(0, .inr (.inl (lN x))), (2, .inr (.inl (lN y))), (4, .inl (nI p))], [], σ)
  have hgp : 0 < Nat.gcd x y := Nat.gcd_pos_of_pos_right x h0
  have hg : Nat.gcd x y < 2 ^ 62 := Nat.lt_of_le_of_lt (Nat.gcd_le_right x h0) hy
  have hnz : ¬ lN (Nat.gcd x y) = 0 := fun h => absurd ((lW_0 hg).mp h) (Nat.ne_of_gt hgp)
  have hpa : ∀ p, p ≤ 1 → paT x y p = lN ((if p = 0 then x else y) / Nat.gcd x y) := by
    intro p hp
    unfold paT
    split
    · rename_i hx0
      subst hx0
      rw [Nat.gcd_zero_left]
      rcases (show p = 0 ∨ p = 1 by omega) with rfl | rfl
      · rw [if_pos rfl, Nat.zero_div]
      · rw [if_neg (by decide), Nat.div_self h0]
    · rfl
  rcases (show p = 0 ∨ p = 1 by omega) with rfl | rfl
  · skip
    refine AW.run 6 [false] (12, [(0, .inr (.inl (lN x))), (2, .inr (.inl (lN y))), (4, .inl (nI 0))], [.inr (.inl (lN y)), .inr (.inl (lN x)), .inr (.inl (lN x))], σ) [¬ icP .ne (nI 0) 0] rfl ?_ ?_
    · exact allP1 (fun q => q rfl)
    refine AW.callSL (d' := 0) [.inr (.inl (lN x)), .inr (.inl (lN y))] [.inr (.inl (lN x))] ⟨_, rfl⟩ f_6_divisor s_6_divisor l_6_263 rfl (Nat.le_of_ble_eq_true rfl) rfl (Nat.le_of_ble_eq_true rfl) (c6_divisor x y hx hy σ) ?_
    rintro _ _ ⟨rfl, rfl⟩
    refine AW.run 1 [] (16, [(0, .inr (.inl (lN x))), (2, .inr (.inl (lN y))), (4, .inl (nI 0))], [.inr (.inl ((lN x) / (lN (Nat.gcd x y))))], σ) [¬ ((lN (Nat.gcd x y)) : Int64) = 0] rfl ?_ ?_
    · exact allP1 (by assumption)
    refine AW.retl ⟨_, rfl⟩ rfl ?_
    exact ⟨by rw [hpa _ (by decide), lW_div hx hg hgp]; rfl, rfl⟩
  · skip
    refine AW.run 5 [true] (12, [(0, .inr (.inl (lN x))), (2, .inr (.inl (lN y))), (4, .inl (nI 1))], [.inr (.inl (lN y)), .inr (.inl (lN x)), .inr (.inl (lN y))], σ) [icP .ne (nI 1) 0] rfl ?_ ?_
    · exact allP1 ((by decide : ¬ nI 1 = 0))
    refine AW.callSL (d' := 0) [.inr (.inl (lN x)), .inr (.inl (lN y))] [.inr (.inl (lN y))] ⟨_, rfl⟩ f_6_divisor s_6_divisor l_6_263 rfl (Nat.le_of_ble_eq_true rfl) rfl (Nat.le_of_ble_eq_true rfl) (c6_divisor x y hx hy σ) ?_
    rintro _ _ ⟨rfl, rfl⟩
    refine AW.run 1 [] (16, [(0, .inr (.inl (lN x))), (2, .inr (.inl (lN y))), (4, .inl (nI 1))], [.inr (.inl ((lN y) / (lN (Nat.gcd x y))))], σ) [¬ ((lN (Nat.gcd x y)) : Int64) = 0] rfl ?_ ?_
    · exact allP1 (by assumption)
    refine AW.retl ⟨_, rfl⟩ rfl ?_
    exact ⟨by rw [hpa _ (by decide), lW_div hy hg hgp]; rfl, rfl⟩
set_option maxHeartbeats 4000000 in
set_option maxRecDepth 100000 in
theorem c6_draw (z : Int32) (σ : St) (e26 : σ 5 0 0 26 = z) : Ct M6_draw 0 [.inr (.inr (5, 0, 0)), .inl 10] σ (PI fun r9 σ' => nI (drw (lotZ z)) = r9 ∧ setM σ 5 0 0 26 (lotZ z) = σ') := by
  refine Ct.of f_6_draw (Nat.le_of_ble_eq_true rfl) ?_
  show AW M6_draw 0 _ (0, [(0, .inr (.inr (5, 0, 0))), (1, .inl 10)], [], σ)
  refine AW.run 3 [] (5, [(0, .inr (.inr (5, 0, 0))), (1, .inl 10)], [.inl (σ 5 0 0 26), .inr (.inr (5, 0, 0))], σ) [] rfl ?_ ?_
  · exact trivial
  rw [e26]
  refine AW.run 4 [] (13, [(0, .inr (.inr (5, 0, 0))), (1, .inl 10)], [.inl ((z * 1103515245) + 12345), .inr (.inr (5, 0, 0))], σ) [] rfl ?_ ?_
  · exact trivial
  rw [show z * 1103515245 + 12345 = lotZ z from rfl]
  refine AW.run 3 [] (20, [(0, .inr (.inr (5, 0, 0))), (1, .inl 10)], [.inl ((setM σ 5 0 0 26 (lotZ z)) 5 0 0 26)], (setM σ 5 0 0 26 (lotZ z))) [] rfl ?_ ?_
  · exact trivial
  rw [show (setM σ 5 0 0 26 (lotZ z)) 5 0 0 26 = lotZ z from by rw [setM_at, if_pos ⟨rfl, rfl⟩]]
  refine AW.run 6 [] (30, [(0, .inr (.inr (5, 0, 0))), (1, .inl 10)], [.inl ((((lotZ z) &&& 2147483647) / 65536) - (((lotZ z) &&& 2147483647) / 65536) / 10 * 10)], (setM σ 5 0 0 26 (lotZ z))) [¬ (65536 : Int32) = 0, ¬ (10 : Int32) = 0] rfl ?_ ?_
  · exact ⟨(by decide), allP1 (by decide)⟩
  rw [drw_eq]
  refine AW.reti ⟨_, rfl⟩ rfl ?_
  exact ⟨rfl, rfl⟩
