/-! SAFE, SPOON, READY, FED FOR, MOVE -/
theorem upA_n {st : Option Nat × Option Nat} {c : Nat} : upA st c none = st := rfl
theorem upA_y {st : Option Nat × Option Nat} {c v : Nat} (h : above st.2 v = true) : upA st c (some v) = (some c, some v) := if_pos h
theorem upA_s {st : Option Nat × Option Nat} {c v : Nat} (h : ¬ above st.2 v = true) : upA st c (some v) = st := if_neg h
theorem chgJ_out {S : Sv} (hO : SOK S) {n a : Nat} {st : Option Nat × Option Nat} : ∀ m, Sn S - (a + 1) ≤ m → chgJ S n a st m = chgJ S n a st (Sn S - (a + 1))
  | 0, h => by rw [show Sn S - (a + 1) = 0 by omega]
  | m + 1, h => by
    by_cases he : Sn S - (a + 1) = m + 1
    · rw [he]
    · rw [← chgJ_out hO m (by omega)]
      show upA (chgJ S n a st m) _ (chgF S n a (a + 1 + m)) = _
      rw [show chgF S n a (a + 1 + m) = none from if_neg (fun q => by rw [w_out hO (a + 1 + m) (by omega)] at q; cases q.2)]
      rfl
theorem chgJ_0 {S : Sv} (hO : SOK S) {n a : Nat} (ha : Sn S ≤ a) {st : Option Nat × Option Nat} : ∀ m, chgJ S n a st m = st
  | 0 => rfl
  | m + 1 => by
    show upA (chgJ S n a st m) _ (chgF S n a (a + 1 + m)) = st
    rw [show chgF S n a (a + 1 + m) = none from if_neg (fun q => by rw [w_out hO a ha] at q; cases q.1), upA_n, chgJ_0 hO ha m]
theorem chgO_out {S : Sv} (hO : SOK S) {n : Nat} : ∀ m, Sn S ≤ m → chgO S n m = chgO S n (Sn S)
  | 0, h => by rw [show Sn S = 0 by omega]
  | m + 1, h => by
    by_cases he : Sn S = m + 1
    · rw [he]
    · rw [← chgO_out hO m (by omega)]
      exact chgJ_0 hO (by omega) _
/-- two places changed twice -/
def mvS (S : Sv) (a b : Nat) : Sv := withP S (fu (fu (Sp S) a (Sp S b)) b (Sp S a))
theorem mv_back {S : Sv} {a b : Nat} (h : a ≠ b) : mvS (mvS S a b) a b = S := by
  unfold mvS
  have e : fu (fu (fu (fu (Sp S) a (Sp S b)) b (Sp S a)) a (fu (fu (Sp S) a (Sp S b)) b (Sp S a) b)) b (fu (fu (Sp S) a (Sp S b)) b (Sp S a) a) = Sp S := by
    funext j
    unfold fu
    by_cases hb : j = b
    · subst hb
      rw [if_pos rfl, if_neg h, if_pos rfl]
    · rw [if_neg hb]
      by_cases ha : j = a
      · subst ha
        rw [if_pos rfl, if_pos rfl]
      · rw [if_neg ha, if_neg hb, if_neg ha]
  show withP S (fu (fu (fu (fu (Sp S) a (Sp S b)) b (Sp S a)) a (fu (fu (Sp S) a (Sp S b)) b (Sp S a) b)) b (fu (fu (Sp S) a (Sp S b)) b (Sp S a) a)) = S
  rw [e]; rfl
theorem SOK_mv {S : Sv} (hO : SOK S) {a b : Nat} (ha : a < Sn S) (hb : b < Sn S) : SOK (mvS S a b) := SOK_p (S := withP S (fu (Sp S) a (Sp S b))) (SOK_p hO ha (hO.2.1 b).2.2.1) hb (hO.2.1 a).2.2.1
theorem chg_some {S : Sv} {n a b : Nat} (h1 : Sw S a = true) (h2 : Sw S b = true) : chgF S n a b = some (leftS (mvS S a b) n) := if_pos ⟨h1, h2⟩

set_option maxHeartbeats 4000000 in
set_option maxRecDepth 100000 in
theorem d6_safe (F : Gv) (σ : St) (hD : RepD σ F) (hG : GOK F) (b : Int32) (n : Int32) : Ct M6_safe 7 [.inr (.inr (5, 0, 0)), .inl b, .inl n] σ (QD σ (safeP F b n)) := by
  refine Ct.of f_6_safe (Nat.le_of_ble_eq_true rfl) ?_
  show AW M6_safe 7 _ (0, [(0, .inr (.inr (5, 0, 0))), (1, .inl b), (2, .inl n)], [], σ)
  have hF : FOK F := hG.1
  have hR : RepM (σ 5 0) F.1 := hD.1
  have hO : SOK F.1 := hF.1.1
  have hn8 : Sn F.1 ≤ 8 := hO.1
  have e7 := hR.1.1
  rcases bot_or (Sn F.1) b with ⟨k, hk, rfl⟩ | hnok
  · skip
    have h8k : k < 8 := by omega
    rcases fMax_or 60 (by decide) n with ⟨h4n1, en1⟩ | ⟨h4n1, h6n1, en1⟩ | ⟨n1, hn1, rfl, en1⟩
    · skip
      refine AW.run 2 [] (2, [(0, .inr (.inr (5, 0, 0))), (1, .inl (nI k)), (2, .inl n)], [.inl (nI k), .inr (.inr (5, 0, 0))], σ) [] rfl ?_ ?_
      · exact trivial
      refine AW.callVI (d' := 0) [.inl (nI k)] [] ⟨_, rfl⟩ f_6_isBottle v_6_isBottle l_6_105 ⟨rfl, by decide⟩ rfl (Nat.le_of_ble_eq_true rfl) rfl (Nat.le_of_ble_eq_true rfl) (c6_isBottle1 (Sn F.1) σ e7 hn8 k hk) ?_
      rintro _ _ ⟨rfl, rfl⟩
      refine AW.run 2 [true] (13, [(0, .inr (.inr (5, 0, 0))), (1, .inl (nI k)), (2, .inl n)], [.inl n], σ) [icP .ne (1 : Int32) 0] rfl ?_ ?_
      · exact allP1 (by decide : (¬ (1 : Int32) = 0))
      refine AW.callSI (d' := 1) [.inl n] [] ⟨_, rfl⟩ f_6_notDays s_6_notDays l_6_209 rfl (Nat.le_of_ble_eq_true rfl) rfl (Nat.le_of_ble_eq_true rfl) (c6_notDays4 n h4n1 σ) ?_
      rintro _ _ ⟨rfl, rfl⟩
      refine AW.run 7 [true, false] (38, [(3, .inl (-4)), (0, .inr (.inr (5, 0, 0))), (1, .inl (nI k)), (2, .inl n)], [.inl (-4), .inr (.inr (5, 0, 0))], σ) [icP .ne ((-4) : Int32) 0, ¬ icP .eq ((-4) : Int32) 0] rfl ?_ ?_
      · exact ⟨(by decide : (¬ ((-4) : Int32) = 0)), allP1 (by decide : ¬ (((-4) : Int32) = 0))⟩
      refine AW.callVI (d' := 0) [.inl (-4)] [] ⟨_, rfl⟩ f_6_no v_6_no l_6_69 ⟨rfl, by decide⟩ rfl (Nat.le_of_ble_eq_true rfl) rfl (Nat.le_of_ble_eq_true rfl) (c6_no4 σ) ?_
      rintro _ _ ⟨rfl, rfl⟩
      refine AW.reti ⟨_, rfl⟩ rfl ?_
      exact ⟨rfuF F 4, (by unfold safeP; rw [botP_some hk hn8, maxP_e4 en1]; try rfl), RepD_ref hF hD (by decide) (by decide)⟩
    · skip
      refine AW.run 2 [] (2, [(0, .inr (.inr (5, 0, 0))), (1, .inl (nI k)), (2, .inl n)], [.inl (nI k), .inr (.inr (5, 0, 0))], σ) [] rfl ?_ ?_
      · exact trivial
      refine AW.callVI (d' := 0) [.inl (nI k)] [] ⟨_, rfl⟩ f_6_isBottle v_6_isBottle l_6_105 ⟨rfl, by decide⟩ rfl (Nat.le_of_ble_eq_true rfl) rfl (Nat.le_of_ble_eq_true rfl) (c6_isBottle1 (Sn F.1) σ e7 hn8 k hk) ?_
      rintro _ _ ⟨rfl, rfl⟩
      refine AW.run 2 [true] (13, [(0, .inr (.inr (5, 0, 0))), (1, .inl (nI k)), (2, .inl n)], [.inl n], σ) [icP .ne (1 : Int32) 0] rfl ?_ ?_
      · exact allP1 (by decide : (¬ (1 : Int32) = 0))
      refine AW.callSI (d' := 1) [.inl n] [] ⟨_, rfl⟩ f_6_notDays s_6_notDays l_6_209 rfl (Nat.le_of_ble_eq_true rfl) rfl (Nat.le_of_ble_eq_true rfl) (c6_notDays6 n h4n1 h6n1 σ) ?_
      rintro _ _ ⟨rfl, rfl⟩
      refine AW.run 7 [true, false] (38, [(3, .inl (-6)), (0, .inr (.inr (5, 0, 0))), (1, .inl (nI k)), (2, .inl n)], [.inl (-6), .inr (.inr (5, 0, 0))], σ) [icP .ne ((-6) : Int32) 0, ¬ icP .eq ((-6) : Int32) 0] rfl ?_ ?_
      · exact ⟨(by decide : (¬ ((-6) : Int32) = 0)), allP1 (by decide : ¬ (((-6) : Int32) = 0))⟩
      refine AW.callVI (d' := 0) [.inl (-6)] [] ⟨_, rfl⟩ f_6_no v_6_no l_6_69 ⟨rfl, by decide⟩ rfl (Nat.le_of_ble_eq_true rfl) rfl (Nat.le_of_ble_eq_true rfl) (c6_no6 σ) ?_
      rintro _ _ ⟨rfl, rfl⟩
      refine AW.reti ⟨_, rfl⟩ rfl ?_
      exact ⟨rfuF F 6, (by unfold safeP; rw [botP_some hk hn8, maxP_e6 en1]; try rfl), RepD_ref hF hD (by decide) (by decide)⟩
    · skip
      have nln1 : ¬ nI n1 < 0 := nlt0 (by omega)
      have nmn1 : ¬ nI 60 < nI n1 := nI_nlt hn1 (by decide)
      cases hw : Sw F.1 k
      · skip
        refine AW.run 2 [] (2, [(0, .inr (.inr (5, 0, 0))), (1, .inl (nI k)), (2, .inl (nI n1))], [.inl (nI k), .inr (.inr (5, 0, 0))], σ) [] rfl ?_ ?_
        · exact trivial
        refine AW.callVI (d' := 0) [.inl (nI k)] [] ⟨_, rfl⟩ f_6_isBottle v_6_isBottle l_6_105 ⟨rfl, by decide⟩ rfl (Nat.le_of_ble_eq_true rfl) rfl (Nat.le_of_ble_eq_true rfl) (c6_isBottle1 (Sn F.1) σ e7 hn8 k hk) ?_
        rintro _ _ ⟨rfl, rfl⟩
        refine AW.run 2 [true] (13, [(0, .inr (.inr (5, 0, 0))), (1, .inl (nI k)), (2, .inl (nI n1))], [.inl (nI n1)], σ) [icP .ne (1 : Int32) 0] rfl ?_ ?_
        · exact allP1 (by decide : (¬ (1 : Int32) = 0))
        refine AW.callSI (d' := 1) [.inl (nI n1)] [] ⟨_, rfl⟩ f_6_notDays s_6_notDays l_6_209 rfl (Nat.le_of_ble_eq_true rfl) rfl (Nat.le_of_ble_eq_true rfl) (c6_notDays0 (nI n1) nln1 nmn1 σ) ?_
        rintro _ _ ⟨rfl, rfl⟩
        refine AW.run 5 [false] (23, [(3, .inl 0), (0, .inr (.inr (5, 0, 0))), (1, .inl (nI k)), (2, .inl (nI n1))], [.inl (nI k), .inr (.inr (5, 0, 0))], σ) [¬ icP .ne (0 : Int32) 0] rfl ?_ ?_
        · exact allP1 (by decide : ¬ (¬ (0 : Int32) = 0))
        refine AW.callVI (d' := 0) [.inl (nI k)] [] ⟨_, rfl⟩ f_6_isWhole v_6_isWhole l_6_108 ⟨rfl, by decide⟩ rfl (Nat.le_of_ble_eq_true rfl) rfl (Nat.le_of_ble_eq_true rfl) (c6_isWhole F.1 σ hR hO.1 k hk) ?_
        rintro v _ ⟨rfl, hv⟩
        obtain rfl : v = 0 := by
          rcases hv with h | h
          · exact absurd (hw.symm.trans h.2) (by decide)
          · exact h.1
        refine AW.run 7 [false, false] (38, [(3, .inl (-3)), (0, .inr (.inr (5, 0, 0))), (1, .inl (nI k)), (2, .inl (nI n1))], [.inl (-3), .inr (.inr (5, 0, 0))], σ) [¬ icP .ne (0 : Int32) 0, ¬ icP .eq ((-3) : Int32) 0] rfl ?_ ?_
        · exact ⟨(by decide : ¬ (¬ (0 : Int32) = 0)), allP1 (by decide : ¬ (((-3) : Int32) = 0))⟩
        refine AW.callVI (d' := 0) [.inl (-3)] [] ⟨_, rfl⟩ f_6_no v_6_no l_6_69 ⟨rfl, by decide⟩ rfl (Nat.le_of_ble_eq_true rfl) rfl (Nat.le_of_ble_eq_true rfl) (c6_no3 σ) ?_
        rintro _ _ ⟨rfl, rfl⟩
        refine AW.reti ⟨_, rfl⟩ rfl ?_
        exact ⟨rfuF F 3, (by unfold safeP; rw [botP_some hk hn8, maxP_e0 en1 (by omega), whP_f hw]; try rfl), RepD_ref hF hD (by decide) (by decide)⟩
      · skip
        refine AW.run 2 [] (2, [(0, .inr (.inr (5, 0, 0))), (1, .inl (nI k)), (2, .inl (nI n1))], [.inl (nI k), .inr (.inr (5, 0, 0))], σ) [] rfl ?_ ?_
        · exact trivial
        refine AW.callVI (d' := 0) [.inl (nI k)] [] ⟨_, rfl⟩ f_6_isBottle v_6_isBottle l_6_105 ⟨rfl, by decide⟩ rfl (Nat.le_of_ble_eq_true rfl) rfl (Nat.le_of_ble_eq_true rfl) (c6_isBottle1 (Sn F.1) σ e7 hn8 k hk) ?_
        rintro _ _ ⟨rfl, rfl⟩
        refine AW.run 2 [true] (13, [(0, .inr (.inr (5, 0, 0))), (1, .inl (nI k)), (2, .inl (nI n1))], [.inl (nI n1)], σ) [icP .ne (1 : Int32) 0] rfl ?_ ?_
        · exact allP1 (by decide : (¬ (1 : Int32) = 0))
        refine AW.callSI (d' := 1) [.inl (nI n1)] [] ⟨_, rfl⟩ f_6_notDays s_6_notDays l_6_209 rfl (Nat.le_of_ble_eq_true rfl) rfl (Nat.le_of_ble_eq_true rfl) (c6_notDays0 (nI n1) nln1 nmn1 σ) ?_
        rintro _ _ ⟨rfl, rfl⟩
        refine AW.run 5 [false] (23, [(3, .inl 0), (0, .inr (.inr (5, 0, 0))), (1, .inl (nI k)), (2, .inl (nI n1))], [.inl (nI k), .inr (.inr (5, 0, 0))], σ) [¬ icP .ne (0 : Int32) 0] rfl ?_ ?_
        · exact allP1 (by decide : ¬ (¬ (0 : Int32) = 0))
        refine AW.callVI (d' := 0) [.inl (nI k)] [] ⟨_, rfl⟩ f_6_isWhole v_6_isWhole l_6_108 ⟨rfl, by decide⟩ rfl (Nat.le_of_ble_eq_true rfl) rfl (Nat.le_of_ble_eq_true rfl) (c6_isWhole F.1 σ hR hO.1 k hk) ?_
        rintro v _ ⟨rfl, hv⟩
        obtain rfl : v = 1 := by
          rcases hv with h | h
          · exact h.1
          · exact absurd (hw.symm.trans h.2) (by decide)
        refine AW.run 7 [true, true] (48, [(3, .inl 0), (0, .inr (.inr (5, 0, 0))), (1, .inl (nI k)), (2, .inl (nI n1))], [.inl (σ 5 0 4 (nI k).toNatClampNeg)], σ) [icP .ne (1 : Int32) 0, icP .eq (0 : Int32) 0, vp_in (nI k) 8] rfl ?_ ?_
        · exact ⟨(by decide : (¬ (1 : Int32) = 0)), (by decide : ((0 : Int32) = 0)), allP1 (by first | assumption | exact in8 (by omega))⟩
        rw [cl8 (k := k) h8k, (hR.2 k hk).2.2.1]
        refine AW.run 7 [] (61, [(7, .inl 0), (6, .inl (-9)), (5, .inl (-9)), (4, .inl (nI (Sp F.1 k))), (3, .inl 0), (0, .inr (.inr (5, 0, 0))), (1, .inl (nI k)), (2, .inl (nI n1))], [], σ) [] rfl ?_ ?_
        · exact trivial
        have hD9 := hG.2.1
        refine AW.pick [5, 6, 7, 3, 2, 1, 0] (ls' := [(0, .inr (.inr (5, 0, 0))), (1, .inl (nI k)), (2, .inl (nI n1)), (4, .inl (nI (Sp F.1 k))), (5, .inl (optI (amax (safeF F.1 k n1) none 0).1)), (6, .inl (optI (amax (safeF F.1 k n1) none 0).2)), (7, .inl (nI 0))]) rfl ?_
        refine AW.loop (α := Nat) 61 15 (fun i _ => [(0, .inr (.inr (5, 0, 0))), (1, .inl (nI k)), (2, .inl (nI n1)), (4, .inl (nI (Sp F.1 k))), (5, .inl (optI (amax (safeF F.1 k n1) none i).1)), (6, .inl (optI (amax (safeF F.1 k n1) none i).2)), (7, .inl (nI i))]) (fun i p τ => p ≤ 14 ∧ Fr P2 σ τ ∧ RepM (τ 5 0) (withP F.1 (fu (Sp F.1) k p))) ?_ ?_ 15 0 (Sp F.1 k) _ (by omega) ⟨(hO.2.1 k).2.2.1, fr_rfl, by rw [fu_self]; exact hR⟩
        · intro i p τ hi hI hk9
          obtain ⟨hp14, hS1, hR1⟩ := hI
          have ho8 := amax_le (f := safeF F.1 k n1) (m0 := none) safeF_le none_le i
          have hv8 := leftS_le (withP F.1 (fu (Sp F.1) k i)) n1
          cases ha : atS F.1 i with
          | none =>
            have hfi : safeF F.1 k n1 i = some (leftS (withP F.1 (fu (Sp F.1) k i)) n1) := by rw [dst_safe hD9 hw, if_pos (Or.inl ha)]
            by_cases hc : above (amax (safeF F.1 k n1) none i).2 (leftS (withP F.1 (fu (Sp F.1) k i)) n1) = true
            · have hst : (amax (safeF F.1 k n1) none (i + 1)) = (some i, some (leftS (withP F.1 (fu (Sp F.1) k i)) n1)) := amax_up hfi hc
              refine AW.run 8 [false] (76, [(0, .inr (.inr (5, 0, 0))), (1, .inl (nI k)), (2, .inl (nI n1)), (4, .inl (nI (Sp F.1 k))), (5, .inl (optI (amax (safeF F.1 k n1) none i).1)), (6, .inl (optI (amax (safeF F.1 k n1) none i).2)), (7, .inl (nI i))], [], (setM τ 5 0 4 (nI k).toNatClampNeg (nI (Sp F.1 k)))) [¬ icP .ge (nI i) 15, vp_in (nI k) 8] rfl ?_ ?_
              · exact ⟨(nle_lit (a := 15) hi (by decide)), allP1 (by first | assumption | exact in8 (by omega))⟩
              rw [cl8 (k := k) h8k]
              obtain ⟨τ102, e102⟩ : ∃ x, x = setM τ 5 0 4 k (nI (Sp F.1 k)) := ⟨_, rfl⟩
              rw [← e102]
              have r102 : RepM (τ102 5 0) F.1 := by rw [e102]; exact (repM_pb hR1)
              have f102 : Fr P1 τ τ102 := by rw [e102]; exact fr_set fr_rfl (by unfold P1; omega)
              refine AW.run 2 [] (79, [(0, .inr (.inr (5, 0, 0))), (1, .inl (nI k)), (2, .inl (nI n1)), (4, .inl (nI (Sp F.1 k))), (5, .inl (optI (amax (safeF F.1 k n1) none i).1)), (6, .inl (optI (amax (safeF F.1 k n1) none i).2)), (7, .inl (nI i))], [.inl (nI i), .inr (.inr (5, 0, 0))], τ102) [] rfl ?_ ?_
              · exact trivial
              refine AW.callVI (d' := 1) [.inl (nI i)] [] ⟨_, rfl⟩ f_6_wholeAt v_6_wholeAt l_6_98 ⟨rfl, by decide⟩ rfl (Nat.le_of_ble_eq_true rfl) rfl (Nat.le_of_ble_eq_true rfl) (c6_wholeAt F.1 τ102 r102 hO (nI i) i rfl (by omega)) ?_
              rintro _ _ ⟨rfl, rfl⟩
              rw [ha]
              dsimp only [optI]
              refine AW.run 6 [true] (103, [(0, .inr (.inr (5, 0, 0))), (1, .inl (nI k)), (2, .inl (nI n1)), (4, .inl (nI (Sp F.1 k))), (5, .inl (optI (amax (safeF F.1 k n1) none i).1)), (6, .inl (optI (amax (safeF F.1 k n1) none i).2)), (7, .inl (nI i))], [], (setM τ102 5 0 4 (nI k).toNatClampNeg (nI i))) [icP .lt ((-9) : Int32) 0, vp_in (nI k) 8] rfl ?_ ?_
              · exact ⟨(by decide : (((-9) : Int32) < 0)), allP1 (by first | assumption | exact in8 (by omega))⟩
              rw [cl8 (k := k) h8k]
              obtain ⟨τ103, e103⟩ : ∃ x, x = setM τ102 5 0 4 k (nI i) := ⟨_, rfl⟩
              rw [← e103]
              have r103 : RepM (τ103 5 0) (withP F.1 (fu (Sp F.1) k i)) := by rw [e103]; exact (repM_p r102)
              have f103 : Fr P1 τ102 τ103 := by rw [e103]; exact fr_set fr_rfl (by unfold P1; omega)
              refine AW.run 2 [] (105, [(0, .inr (.inr (5, 0, 0))), (1, .inl (nI k)), (2, .inl (nI n1)), (4, .inl (nI (Sp F.1 k))), (5, .inl (optI (amax (safeF F.1 k n1) none i).1)), (6, .inl (optI (amax (safeF F.1 k n1) none i).2)), (7, .inl (nI i))], [.inl (nI n1), .inr (.inr (5, 0, 0))], τ103) [] rfl ?_ ?_
              · exact trivial
              refine AW.callVI (d' := 6) [.inl (nI n1)] [] ⟨_, rfl⟩ f_6_leftIn v_6_leftIn l_6_228 ⟨rfl, by decide⟩ rfl (Nat.le_of_ble_eq_true rfl) rfl (Nat.le_of_ble_eq_true rfl) (c6_leftIn (withP F.1 (fu (Sp F.1) k i)) τ103 r103 (SOK_p hO hk (by omega)) n1 (by omega)) ?_
              rintro _ τ104 ⟨rfl, f104, r104⟩
              refine AW.run 10 [true] (61, [(7, .inl ((nI i) + 1)), (6, .inl (nI (leftS (withP F.1 (fu (Sp F.1) k i)) n1))), (5, .inl (nI i)), (8, .inl (nI (leftS (withP F.1 (fu (Sp F.1) k i)) n1))), (0, .inr (.inr (5, 0, 0))), (1, .inl (nI k)), (2, .inl (nI n1)), (4, .inl (nI (Sp F.1 k)))], [], τ104) [icP .gt (nI (leftS (withP F.1 (fu (Sp F.1) k i)) n1)) (optI (amax (safeF F.1 k n1) none i).2)] rfl ?_ ?_
              · exact allP1 (gt_yes hv8 ho8 hc)
              rw [nI_1 i]
              refine AW.pick [4, 5, 6, 7, 2, 1, 0] (ls' := [(0, .inr (.inr (5, 0, 0))), (1, .inl (nI k)), (2, .inl (nI n1)), (4, .inl (nI (Sp F.1 k))), (5, .inl (nI i)), (6, .inl (nI (leftS (withP F.1 (fu (Sp F.1) k i)) n1))), (7, .inl (nI (i + 1)))]) rfl ?_
              have hk2 := hk9 (i) τ104 ⟨by omega, (fr_trans (fr_trans (fr_trans hS1 (fr_12 f102)) (fr_12 f103)) f104), r104⟩
              rw [hst] at hk2
              exact hk2
            · have hst : (amax (safeF F.1 k n1) none (i + 1)) = (amax (safeF F.1 k n1) none i) := stay_some hfi hc
              refine AW.run 8 [false] (76, [(0, .inr (.inr (5, 0, 0))), (1, .inl (nI k)), (2, .inl (nI n1)), (4, .inl (nI (Sp F.1 k))), (5, .inl (optI (amax (safeF F.1 k n1) none i).1)), (6, .inl (optI (amax (safeF F.1 k n1) none i).2)), (7, .inl (nI i))], [], (setM τ 5 0 4 (nI k).toNatClampNeg (nI (Sp F.1 k)))) [¬ icP .ge (nI i) 15, vp_in (nI k) 8] rfl ?_ ?_
              · exact ⟨(nle_lit (a := 15) hi (by decide)), allP1 (by first | assumption | exact in8 (by omega))⟩
              rw [cl8 (k := k) h8k]
              obtain ⟨τ105, e105⟩ : ∃ x, x = setM τ 5 0 4 k (nI (Sp F.1 k)) := ⟨_, rfl⟩
              rw [← e105]
              have r105 : RepM (τ105 5 0) F.1 := by rw [e105]; exact (repM_pb hR1)
              have f105 : Fr P1 τ τ105 := by rw [e105]; exact fr_set fr_rfl (by unfold P1; omega)
              refine AW.run 2 [] (79, [(0, .inr (.inr (5, 0, 0))), (1, .inl (nI k)), (2, .inl (nI n1)), (4, .inl (nI (Sp F.1 k))), (5, .inl (optI (amax (safeF F.1 k n1) none i).1)), (6, .inl (optI (amax (safeF F.1 k n1) none i).2)), (7, .inl (nI i))], [.inl (nI i), .inr (.inr (5, 0, 0))], τ105) [] rfl ?_ ?_
              · exact trivial
              refine AW.callVI (d' := 1) [.inl (nI i)] [] ⟨_, rfl⟩ f_6_wholeAt v_6_wholeAt l_6_98 ⟨rfl, by decide⟩ rfl (Nat.le_of_ble_eq_true rfl) rfl (Nat.le_of_ble_eq_true rfl) (c6_wholeAt F.1 τ105 r105 hO (nI i) i rfl (by omega)) ?_
              rintro _ _ ⟨rfl, rfl⟩
              rw [ha]
              dsimp only [optI]
              refine AW.run 6 [true] (103, [(0, .inr (.inr (5, 0, 0))), (1, .inl (nI k)), (2, .inl (nI n1)), (4, .inl (nI (Sp F.1 k))), (5, .inl (optI (amax (safeF F.1 k n1) none i).1)), (6, .inl (optI (amax (safeF F.1 k n1) none i).2)), (7, .inl (nI i))], [], (setM τ105 5 0 4 (nI k).toNatClampNeg (nI i))) [icP .lt ((-9) : Int32) 0, vp_in (nI k) 8] rfl ?_ ?_
              · exact ⟨(by decide : (((-9) : Int32) < 0)), allP1 (by first | assumption | exact in8 (by omega))⟩
              rw [cl8 (k := k) h8k]
              obtain ⟨τ106, e106⟩ : ∃ x, x = setM τ105 5 0 4 k (nI i) := ⟨_, rfl⟩
              rw [← e106]
              have r106 : RepM (τ106 5 0) (withP F.1 (fu (Sp F.1) k i)) := by rw [e106]; exact (repM_p r105)
              have f106 : Fr P1 τ105 τ106 := by rw [e106]; exact fr_set fr_rfl (by unfold P1; omega)
              refine AW.run 2 [] (105, [(0, .inr (.inr (5, 0, 0))), (1, .inl (nI k)), (2, .inl (nI n1)), (4, .inl (nI (Sp F.1 k))), (5, .inl (optI (amax (safeF F.1 k n1) none i).1)), (6, .inl (optI (amax (safeF F.1 k n1) none i).2)), (7, .inl (nI i))], [.inl (nI n1), .inr (.inr (5, 0, 0))], τ106) [] rfl ?_ ?_
              · exact trivial
              refine AW.callVI (d' := 6) [.inl (nI n1)] [] ⟨_, rfl⟩ f_6_leftIn v_6_leftIn l_6_228 ⟨rfl, by decide⟩ rfl (Nat.le_of_ble_eq_true rfl) rfl (Nat.le_of_ble_eq_true rfl) (c6_leftIn (withP F.1 (fu (Sp F.1) k i)) τ106 r106 (SOK_p hO hk (by omega)) n1 (by omega)) ?_
              rintro _ τ107 ⟨rfl, f107, r107⟩
              refine AW.run 7 [false] (61, [(7, .inl ((nI i) + 1)), (8, .inl (nI (leftS (withP F.1 (fu (Sp F.1) k i)) n1))), (0, .inr (.inr (5, 0, 0))), (1, .inl (nI k)), (2, .inl (nI n1)), (4, .inl (nI (Sp F.1 k))), (5, .inl (optI (amax (safeF F.1 k n1) none i).1)), (6, .inl (optI (amax (safeF F.1 k n1) none i).2))], [], τ107) [¬ icP .gt (nI (leftS (withP F.1 (fu (Sp F.1) k i)) n1)) (optI (amax (safeF F.1 k n1) none i).2)] rfl ?_ ?_
              · exact allP1 (gt_no hv8 ho8 hc)
              rw [nI_1 i]
              refine AW.pick [2, 3, 4, 5, 6, 7, 0] (ls' := [(0, .inr (.inr (5, 0, 0))), (1, .inl (nI k)), (2, .inl (nI n1)), (4, .inl (nI (Sp F.1 k))), (5, .inl (optI (amax (safeF F.1 k n1) none i).1)), (6, .inl (optI (amax (safeF F.1 k n1) none i).2)), (7, .inl (nI (i + 1)))]) rfl ?_
              have hk2 := hk9 (i) τ107 ⟨by omega, (fr_trans (fr_trans (fr_trans hS1 (fr_12 f105)) (fr_12 f106)) f107), r107⟩
              rw [hst] at hk2
              exact hk2
          | some h =>
            have hh8 := (atS_lt ha).1
            by_cases hpp : i = Sp F.1 k
            · have hfi : safeF F.1 k n1 i = some (leftS (withP F.1 (fu (Sp F.1) k i)) n1) := by rw [dst_safe hD9 hw, if_pos (Or.inr hpp)]
              by_cases hc : above (amax (safeF F.1 k n1) none i).2 (leftS (withP F.1 (fu (Sp F.1) k i)) n1) = true
              · have hst : (amax (safeF F.1 k n1) none (i + 1)) = (some i, some (leftS (withP F.1 (fu (Sp F.1) k i)) n1)) := amax_up hfi hc
                refine AW.run 8 [false] (76, [(0, .inr (.inr (5, 0, 0))), (1, .inl (nI k)), (2, .inl (nI n1)), (4, .inl (nI (Sp F.1 k))), (5, .inl (optI (amax (safeF F.1 k n1) none i).1)), (6, .inl (optI (amax (safeF F.1 k n1) none i).2)), (7, .inl (nI i))], [], (setM τ 5 0 4 (nI k).toNatClampNeg (nI (Sp F.1 k)))) [¬ icP .ge (nI i) 15, vp_in (nI k) 8] rfl ?_ ?_
                · exact ⟨(nle_lit (a := 15) hi (by decide)), allP1 (by first | assumption | exact in8 (by omega))⟩
                rw [cl8 (k := k) h8k]
                obtain ⟨τ108, e108⟩ : ∃ x, x = setM τ 5 0 4 k (nI (Sp F.1 k)) := ⟨_, rfl⟩
                rw [← e108]
                have r108 : RepM (τ108 5 0) F.1 := by rw [e108]; exact (repM_pb hR1)
                have f108 : Fr P1 τ τ108 := by rw [e108]; exact fr_set fr_rfl (by unfold P1; omega)
                refine AW.run 2 [] (79, [(0, .inr (.inr (5, 0, 0))), (1, .inl (nI k)), (2, .inl (nI n1)), (4, .inl (nI (Sp F.1 k))), (5, .inl (optI (amax (safeF F.1 k n1) none i).1)), (6, .inl (optI (amax (safeF F.1 k n1) none i).2)), (7, .inl (nI i))], [.inl (nI i), .inr (.inr (5, 0, 0))], τ108) [] rfl ?_ ?_
                · exact trivial
                refine AW.callVI (d' := 1) [.inl (nI i)] [] ⟨_, rfl⟩ f_6_wholeAt v_6_wholeAt l_6_98 ⟨rfl, by decide⟩ rfl (Nat.le_of_ble_eq_true rfl) rfl (Nat.le_of_ble_eq_true rfl) (c6_wholeAt F.1 τ108 r108 hO (nI i) i rfl (by omega)) ?_
                rintro _ _ ⟨rfl, rfl⟩
                rw [ha]
                dsimp only [optI]
                refine AW.run 9 [false, true] (103, [(0, .inr (.inr (5, 0, 0))), (1, .inl (nI k)), (2, .inl (nI n1)), (4, .inl (nI (Sp F.1 k))), (5, .inl (optI (amax (safeF F.1 k n1) none i).1)), (6, .inl (optI (amax (safeF F.1 k n1) none i).2)), (7, .inl (nI i))], [], (setM τ108 5 0 4 (nI k).toNatClampNeg (nI i))) [¬ icP .lt (nI h) 0, icP .eq (nI i) (nI (Sp F.1 k)), vp_in (nI k) 8] rfl ?_ ?_
                · exact ⟨(nlt0 (by omega)), (congrArg nI hpp), allP1 (by first | assumption | exact in8 (by omega))⟩
                rw [cl8 (k := k) h8k]
                obtain ⟨τ109, e109⟩ : ∃ x, x = setM τ108 5 0 4 k (nI i) := ⟨_, rfl⟩
                rw [← e109]
                have r109 : RepM (τ109 5 0) (withP F.1 (fu (Sp F.1) k i)) := by rw [e109]; exact (repM_p r108)
                have f109 : Fr P1 τ108 τ109 := by rw [e109]; exact fr_set fr_rfl (by unfold P1; omega)
                refine AW.run 2 [] (105, [(0, .inr (.inr (5, 0, 0))), (1, .inl (nI k)), (2, .inl (nI n1)), (4, .inl (nI (Sp F.1 k))), (5, .inl (optI (amax (safeF F.1 k n1) none i).1)), (6, .inl (optI (amax (safeF F.1 k n1) none i).2)), (7, .inl (nI i))], [.inl (nI n1), .inr (.inr (5, 0, 0))], τ109) [] rfl ?_ ?_
                · exact trivial
                refine AW.callVI (d' := 6) [.inl (nI n1)] [] ⟨_, rfl⟩ f_6_leftIn v_6_leftIn l_6_228 ⟨rfl, by decide⟩ rfl (Nat.le_of_ble_eq_true rfl) rfl (Nat.le_of_ble_eq_true rfl) (c6_leftIn (withP F.1 (fu (Sp F.1) k i)) τ109 r109 (SOK_p hO hk (by omega)) n1 (by omega)) ?_
                rintro _ τ110 ⟨rfl, f110, r110⟩
                refine AW.run 10 [true] (61, [(7, .inl ((nI i) + 1)), (6, .inl (nI (leftS (withP F.1 (fu (Sp F.1) k i)) n1))), (5, .inl (nI i)), (8, .inl (nI (leftS (withP F.1 (fu (Sp F.1) k i)) n1))), (0, .inr (.inr (5, 0, 0))), (1, .inl (nI k)), (2, .inl (nI n1)), (4, .inl (nI (Sp F.1 k)))], [], τ110) [icP .gt (nI (leftS (withP F.1 (fu (Sp F.1) k i)) n1)) (optI (amax (safeF F.1 k n1) none i).2)] rfl ?_ ?_
                · exact allP1 (gt_yes hv8 ho8 hc)
                rw [nI_1 i]
                refine AW.pick [4, 5, 6, 7, 2, 1, 0] (ls' := [(0, .inr (.inr (5, 0, 0))), (1, .inl (nI k)), (2, .inl (nI n1)), (4, .inl (nI (Sp F.1 k))), (5, .inl (nI i)), (6, .inl (nI (leftS (withP F.1 (fu (Sp F.1) k i)) n1))), (7, .inl (nI (i + 1)))]) rfl ?_
                have hk2 := hk9 (i) τ110 ⟨by omega, (fr_trans (fr_trans (fr_trans hS1 (fr_12 f108)) (fr_12 f109)) f110), r110⟩
                rw [hst] at hk2
                exact hk2
              · have hst : (amax (safeF F.1 k n1) none (i + 1)) = (amax (safeF F.1 k n1) none i) := stay_some hfi hc
                refine AW.run 8 [false] (76, [(0, .inr (.inr (5, 0, 0))), (1, .inl (nI k)), (2, .inl (nI n1)), (4, .inl (nI (Sp F.1 k))), (5, .inl (optI (amax (safeF F.1 k n1) none i).1)), (6, .inl (optI (amax (safeF F.1 k n1) none i).2)), (7, .inl (nI i))], [], (setM τ 5 0 4 (nI k).toNatClampNeg (nI (Sp F.1 k)))) [¬ icP .ge (nI i) 15, vp_in (nI k) 8] rfl ?_ ?_
                · exact ⟨(nle_lit (a := 15) hi (by decide)), allP1 (by first | assumption | exact in8 (by omega))⟩
                rw [cl8 (k := k) h8k]
                obtain ⟨τ111, e111⟩ : ∃ x, x = setM τ 5 0 4 k (nI (Sp F.1 k)) := ⟨_, rfl⟩
                rw [← e111]
                have r111 : RepM (τ111 5 0) F.1 := by rw [e111]; exact (repM_pb hR1)
                have f111 : Fr P1 τ τ111 := by rw [e111]; exact fr_set fr_rfl (by unfold P1; omega)
                refine AW.run 2 [] (79, [(0, .inr (.inr (5, 0, 0))), (1, .inl (nI k)), (2, .inl (nI n1)), (4, .inl (nI (Sp F.1 k))), (5, .inl (optI (amax (safeF F.1 k n1) none i).1)), (6, .inl (optI (amax (safeF F.1 k n1) none i).2)), (7, .inl (nI i))], [.inl (nI i), .inr (.inr (5, 0, 0))], τ111) [] rfl ?_ ?_
                · exact trivial
                refine AW.callVI (d' := 1) [.inl (nI i)] [] ⟨_, rfl⟩ f_6_wholeAt v_6_wholeAt l_6_98 ⟨rfl, by decide⟩ rfl (Nat.le_of_ble_eq_true rfl) rfl (Nat.le_of_ble_eq_true rfl) (c6_wholeAt F.1 τ111 r111 hO (nI i) i rfl (by omega)) ?_
                rintro _ _ ⟨rfl, rfl⟩
                rw [ha]
                dsimp only [optI]
                refine AW.run 9 [false, true] (103, [(0, .inr (.inr (5, 0, 0))), (1, .inl (nI k)), (2, .inl (nI n1)), (4, .inl (nI (Sp F.1 k))), (5, .inl (optI (amax (safeF F.1 k n1) none i).1)), (6, .inl (optI (amax (safeF F.1 k n1) none i).2)), (7, .inl (nI i))], [], (setM τ111 5 0 4 (nI k).toNatClampNeg (nI i))) [¬ icP .lt (nI h) 0, icP .eq (nI i) (nI (Sp F.1 k)), vp_in (nI k) 8] rfl ?_ ?_
                · exact ⟨(nlt0 (by omega)), (congrArg nI hpp), allP1 (by first | assumption | exact in8 (by omega))⟩
                rw [cl8 (k := k) h8k]
                obtain ⟨τ112, e112⟩ : ∃ x, x = setM τ111 5 0 4 k (nI i) := ⟨_, rfl⟩
                rw [← e112]
                have r112 : RepM (τ112 5 0) (withP F.1 (fu (Sp F.1) k i)) := by rw [e112]; exact (repM_p r111)
                have f112 : Fr P1 τ111 τ112 := by rw [e112]; exact fr_set fr_rfl (by unfold P1; omega)
                refine AW.run 2 [] (105, [(0, .inr (.inr (5, 0, 0))), (1, .inl (nI k)), (2, .inl (nI n1)), (4, .inl (nI (Sp F.1 k))), (5, .inl (optI (amax (safeF F.1 k n1) none i).1)), (6, .inl (optI (amax (safeF F.1 k n1) none i).2)), (7, .inl (nI i))], [.inl (nI n1), .inr (.inr (5, 0, 0))], τ112) [] rfl ?_ ?_
                · exact trivial
                refine AW.callVI (d' := 6) [.inl (nI n1)] [] ⟨_, rfl⟩ f_6_leftIn v_6_leftIn l_6_228 ⟨rfl, by decide⟩ rfl (Nat.le_of_ble_eq_true rfl) rfl (Nat.le_of_ble_eq_true rfl) (c6_leftIn (withP F.1 (fu (Sp F.1) k i)) τ112 r112 (SOK_p hO hk (by omega)) n1 (by omega)) ?_
                rintro _ τ113 ⟨rfl, f113, r113⟩
                refine AW.run 7 [false] (61, [(7, .inl ((nI i) + 1)), (8, .inl (nI (leftS (withP F.1 (fu (Sp F.1) k i)) n1))), (0, .inr (.inr (5, 0, 0))), (1, .inl (nI k)), (2, .inl (nI n1)), (4, .inl (nI (Sp F.1 k))), (5, .inl (optI (amax (safeF F.1 k n1) none i).1)), (6, .inl (optI (amax (safeF F.1 k n1) none i).2))], [], τ113) [¬ icP .gt (nI (leftS (withP F.1 (fu (Sp F.1) k i)) n1)) (optI (amax (safeF F.1 k n1) none i).2)] rfl ?_ ?_
                · exact allP1 (gt_no hv8 ho8 hc)
                rw [nI_1 i]
                refine AW.pick [2, 3, 4, 5, 6, 7, 0] (ls' := [(0, .inr (.inr (5, 0, 0))), (1, .inl (nI k)), (2, .inl (nI n1)), (4, .inl (nI (Sp F.1 k))), (5, .inl (optI (amax (safeF F.1 k n1) none i).1)), (6, .inl (optI (amax (safeF F.1 k n1) none i).2)), (7, .inl (nI (i + 1)))]) rfl ?_
                have hk2 := hk9 (i) τ113 ⟨by omega, (fr_trans (fr_trans (fr_trans hS1 (fr_12 f111)) (fr_12 f112)) f113), r113⟩
                rw [hst] at hk2
                exact hk2
            · have hfi : safeF F.1 k n1 i = none := by rw [dst_safe hD9 hw, if_neg (fun q => q.elim (fun q => by rw [ha] at q; cases q) hpp)]
              have hst : (amax (safeF F.1 k n1) none (i + 1)) = (amax (safeF F.1 k n1) none i) := stay_none hfi
              have hp14k := (hO.2.1 k).2.2.1
              refine AW.run 8 [false] (76, [(0, .inr (.inr (5, 0, 0))), (1, .inl (nI k)), (2, .inl (nI n1)), (4, .inl (nI (Sp F.1 k))), (5, .inl (optI (amax (safeF F.1 k n1) none i).1)), (6, .inl (optI (amax (safeF F.1 k n1) none i).2)), (7, .inl (nI i))], [], (setM τ 5 0 4 (nI k).toNatClampNeg (nI (Sp F.1 k)))) [¬ icP .ge (nI i) 15, vp_in (nI k) 8] rfl ?_ ?_
              · exact ⟨(nle_lit (a := 15) hi (by decide)), allP1 (by first | assumption | exact in8 (by omega))⟩
              rw [cl8 (k := k) h8k]
              obtain ⟨τ114, e114⟩ : ∃ x, x = setM τ 5 0 4 k (nI (Sp F.1 k)) := ⟨_, rfl⟩
              rw [← e114]
              have r114 : RepM (τ114 5 0) F.1 := by rw [e114]; exact (repM_pb hR1)
              have f114 : Fr P1 τ τ114 := by rw [e114]; exact fr_set fr_rfl (by unfold P1; omega)
              refine AW.run 2 [] (79, [(0, .inr (.inr (5, 0, 0))), (1, .inl (nI k)), (2, .inl (nI n1)), (4, .inl (nI (Sp F.1 k))), (5, .inl (optI (amax (safeF F.1 k n1) none i).1)), (6, .inl (optI (amax (safeF F.1 k n1) none i).2)), (7, .inl (nI i))], [.inl (nI i), .inr (.inr (5, 0, 0))], τ114) [] rfl ?_ ?_
              · exact trivial
              refine AW.callVI (d' := 1) [.inl (nI i)] [] ⟨_, rfl⟩ f_6_wholeAt v_6_wholeAt l_6_98 ⟨rfl, by decide⟩ rfl (Nat.le_of_ble_eq_true rfl) rfl (Nat.le_of_ble_eq_true rfl) (c6_wholeAt F.1 τ114 r114 hO (nI i) i rfl (by omega)) ?_
              rintro _ _ ⟨rfl, rfl⟩
              rw [ha]
              dsimp only [optI]
              refine AW.run 7 [false, false] (61, [(7, .inl ((nI i) + 1)), (0, .inr (.inr (5, 0, 0))), (1, .inl (nI k)), (2, .inl (nI n1)), (4, .inl (nI (Sp F.1 k))), (5, .inl (optI (amax (safeF F.1 k n1) none i).1)), (6, .inl (optI (amax (safeF F.1 k n1) none i).2))], [], τ114) [¬ icP .lt (nI h) 0, ¬ icP .eq (nI i) (nI (Sp F.1 k))] rfl ?_ ?_
              · exact ⟨(nlt0 (by omega)), allP1 (fun q => hpp (nI_lit q (by omega) (by omega)))⟩
              rw [nI_1 i]
              refine AW.pick [1, 2, 3, 4, 5, 6, 0] (ls' := [(0, .inr (.inr (5, 0, 0))), (1, .inl (nI k)), (2, .inl (nI n1)), (4, .inl (nI (Sp F.1 k))), (5, .inl (optI (amax (safeF F.1 k n1) none i).1)), (6, .inl (optI (amax (safeF F.1 k n1) none i).2)), (7, .inl (nI (i + 1)))]) rfl ?_
              have hk2 := hk9 (Sp F.1 k) τ114 ⟨(hO.2.1 k).2.2.1, (fr_trans hS1 (fr_12 f114)), by rw [fu_self]; exact r114⟩
              rw [hst] at hk2
              exact hk2
        · intro p τ hI
          obtain ⟨hp14, hS1, hR1⟩ := hI
          refine AW.run 8 [true] (142, [(0, .inr (.inr (5, 0, 0))), (1, .inl (nI k)), (2, .inl (nI n1)), (4, .inl (nI (Sp F.1 k))), (5, .inl (optI (amax (safeF F.1 k n1) none 15).1)), (6, .inl (optI (amax (safeF F.1 k n1) none 15).2)), (7, .inl (nI 15))], [], (setM τ 5 0 4 (nI k).toNatClampNeg (nI (Sp F.1 k)))) [icP .ge (nI 15) 15, vp_in (nI k) 8] rfl ?_ ?_
          · exact ⟨(le_lit (a := 15) (b := 15) (by decide) (by decide)), allP1 (by first | assumption | exact in8 (by omega))⟩
          rw [cl8 (k := k) h8k]
          obtain ⟨τ115, e115⟩ : ∃ x, x = setM τ 5 0 4 k (nI (Sp F.1 k)) := ⟨_, rfl⟩
          rw [← e115]
          have r115 : RepM (τ115 5 0) F.1 := by rw [e115]; exact (repM_pb hR1)
          have f115 : Fr P1 τ τ115 := by rw [e115]; exact fr_set fr_rfl (by unfold P1; omega)
          refine AW.run 1 [] (144, [(0, .inr (.inr (5, 0, 0))), (1, .inl (nI k)), (2, .inl (nI n1)), (4, .inl (nI (Sp F.1 k))), (5, .inl (optI (amax (safeF F.1 k n1) none 15).1)), (6, .inl (optI (amax (safeF F.1 k n1) none 15).2)), (7, .inl (nI 15))], [.inl (optI (amax (safeF F.1 k n1) none 15).1)], τ115) [] rfl ?_ ?_
          · exact trivial
          refine AW.reti ⟨_, rfl⟩ rfl ?_
          exact ⟨F, (by unfold safeP; rw [botP_some hk hn8, maxP_e0 en1 (by omega), whP_t hw]; rfl), QD_fr hF (fr_trans hS1 (fr_12 f115)) hD r115⟩
  · skip
    refine AW.run 2 [] (2, [(0, .inr (.inr (5, 0, 0))), (1, .inl b), (2, .inl n)], [.inl b, .inr (.inr (5, 0, 0))], σ) [] rfl ?_ ?_
    · exact trivial
    refine AW.callVI (d' := 0) [.inl b] [] ⟨_, rfl⟩ f_6_isBottle v_6_isBottle l_6_105 ⟨rfl, by decide⟩ rfl (Nat.le_of_ble_eq_true rfl) rfl (Nat.le_of_ble_eq_true rfl) (c6_isBottle0 (Sn F.1) σ e7 hn8 b hnok) ?_
    rintro _ _ ⟨rfl, rfl⟩
    refine AW.run 10 [false, true, false] (38, [(3, .inl (-1)), (0, .inr (.inr (5, 0, 0))), (1, .inl b), (2, .inl n)], [.inl (-1), .inr (.inr (5, 0, 0))], σ) [¬ icP .ne (0 : Int32) 0, icP .ne ((-1) : Int32) 0, ¬ icP .eq ((-1) : Int32) 0] rfl ?_ ?_
    · exact ⟨(by decide : ¬ (¬ (0 : Int32) = 0)), (by decide : (¬ ((-1) : Int32) = 0)), allP1 (by decide : ¬ (((-1) : Int32) = 0))⟩
    refine AW.callVI (d' := 0) [.inl (-1)] [] ⟨_, rfl⟩ f_6_no v_6_no l_6_69 ⟨rfl, by decide⟩ rfl (Nat.le_of_ble_eq_true rfl) rfl (Nat.le_of_ble_eq_true rfl) (c6_no1 σ) ?_
    rintro _ _ ⟨rfl, rfl⟩
    refine AW.reti ⟨_, rfl⟩ rfl ?_
    exact ⟨rfuF F 1, (by unfold safeP; rw [botP_none hnok]; try rfl), RepD_ref hF hD (by decide) (by decide)⟩
set_option maxHeartbeats 4000000 in
set_option maxRecDepth 100000 in
theorem d6_spoon (F : Gv) (σ : St) (hD : RepD σ F) (hG : GOK F) (n : Int32) (w : Int32) : Ct M6_spoon 8 [.inr (.inr (5, 0, 0)), .inl n, .inl w] σ (QD σ (spoonP F n w)) := by
  refine Ct.of f_6_spoon (Nat.le_of_ble_eq_true rfl) ?_
  show AW M6_spoon 8 _ (0, [(0, .inr (.inr (5, 0, 0))), (1, .inl n), (2, .inl w)], [], σ)
  have hF : FOK F := hG.1
  have hR : RepM (σ 5 0) F.1 := hD.1
  have hO : SOK F.1 := hF.1.1
  have hn8 : Sn F.1 ≤ 8 := hO.1
  have e7 := hR.1.1
  rcases fMax_or 60 (by decide) n with ⟨h4n1, en1⟩ | ⟨h4n1, h6n1, en1⟩ | ⟨n1, hn1, rfl, en1⟩
  · skip
    refine AW.run 1 [] (1, [(0, .inr (.inr (5, 0, 0))), (1, .inl n), (2, .inl w)], [.inl n], σ) [] rfl ?_ ?_
    · exact trivial
    refine AW.callSI (d' := 1) [.inl n] [] ⟨_, rfl⟩ f_6_notDays s_6_notDays l_6_209 rfl (Nat.le_of_ble_eq_true rfl) rfl (Nat.le_of_ble_eq_true rfl) (c6_notDays4 n h4n1 σ) ?_
    rintro _ _ ⟨rfl, rfl⟩
    refine AW.run 7 [true, false] (27, [(3, .inl (-4)), (0, .inr (.inr (5, 0, 0))), (1, .inl n), (2, .inl w)], [.inl (-4), .inr (.inr (5, 0, 0))], σ) [icP .ne ((-4) : Int32) 0, ¬ icP .eq ((-4) : Int32) 0] rfl ?_ ?_
    · exact ⟨(by decide : (¬ ((-4) : Int32) = 0)), allP1 (by decide : ¬ (((-4) : Int32) = 0))⟩
    refine AW.callVI (d' := 0) [.inl (-4)] [] ⟨_, rfl⟩ f_6_no v_6_no l_6_69 ⟨rfl, by decide⟩ rfl (Nat.le_of_ble_eq_true rfl) rfl (Nat.le_of_ble_eq_true rfl) (c6_no4 σ) ?_
    rintro _ _ ⟨rfl, rfl⟩
    refine AW.reti ⟨_, rfl⟩ rfl ?_
    exact ⟨rfuF F 4, (by unfold spoonP; rw [maxP_e4 en1]; try rfl), RepD_ref hF hD (by decide) (by decide)⟩
  · skip
    refine AW.run 1 [] (1, [(0, .inr (.inr (5, 0, 0))), (1, .inl n), (2, .inl w)], [.inl n], σ) [] rfl ?_ ?_
    · exact trivial
    refine AW.callSI (d' := 1) [.inl n] [] ⟨_, rfl⟩ f_6_notDays s_6_notDays l_6_209 rfl (Nat.le_of_ble_eq_true rfl) rfl (Nat.le_of_ble_eq_true rfl) (c6_notDays6 n h4n1 h6n1 σ) ?_
    rintro _ _ ⟨rfl, rfl⟩
    refine AW.run 7 [true, false] (27, [(3, .inl (-6)), (0, .inr (.inr (5, 0, 0))), (1, .inl n), (2, .inl w)], [.inl (-6), .inr (.inr (5, 0, 0))], σ) [icP .ne ((-6) : Int32) 0, ¬ icP .eq ((-6) : Int32) 0] rfl ?_ ?_
    · exact ⟨(by decide : (¬ ((-6) : Int32) = 0)), allP1 (by decide : ¬ (((-6) : Int32) = 0))⟩
    refine AW.callVI (d' := 0) [.inl (-6)] [] ⟨_, rfl⟩ f_6_no v_6_no l_6_69 ⟨rfl, by decide⟩ rfl (Nat.le_of_ble_eq_true rfl) rfl (Nat.le_of_ble_eq_true rfl) (c6_no6 σ) ?_
    rintro _ _ ⟨rfl, rfl⟩
    refine AW.reti ⟨_, rfl⟩ rfl ?_
    exact ⟨rfuF F 6, (by unfold spoonP; rw [maxP_e6 en1]; try rfl), RepD_ref hF hD (by decide) (by decide)⟩
  · skip
    have nln1 : ¬ nI n1 < 0 := nlt0 (by omega)
    have nmn1 : ¬ nI 60 < nI n1 := nI_nlt hn1 (by decide)
    by_cases h0w : w = 0
    · subst h0w
      refine AW.run 1 [] (1, [(0, .inr (.inr (5, 0, 0))), (1, .inl (nI n1)), (2, .inl 0)], [.inl (nI n1)], σ) [] rfl ?_ ?_
      · exact trivial
      refine AW.callSI (d' := 1) [.inl (nI n1)] [] ⟨_, rfl⟩ f_6_notDays s_6_notDays l_6_209 rfl (Nat.le_of_ble_eq_true rfl) rfl (Nat.le_of_ble_eq_true rfl) (c6_notDays0 (nI n1) nln1 nmn1 σ) ?_
      rintro _ _ ⟨rfl, rfl⟩
      refine AW.run 6 [false] (12, [(3, .inl 0), (0, .inr (.inr (5, 0, 0))), (1, .inl (nI n1)), (2, .inl 0)], [.inl 1, .inl 0, .inl 0], σ) [¬ icP .ne (0 : Int32) 0] rfl ?_ ?_
      · exact allP1 (by decide : ¬ (¬ (0 : Int32) = 0))
      refine AW.callSI (d' := 0) [.inl 0, .inl 0, .inl 1] [] ⟨_, rfl⟩ f_6_isIn s_6_isIn l_6_80 rfl (Nat.le_of_ble_eq_true rfl) rfl (Nat.le_of_ble_eq_true rfl) (c6_isIn1 0 0 1 (by decide) (by decide) σ) ?_
      rintro _ _ ⟨rfl, rfl⟩
      refine AW.run 7 [true, true] (37, [(5, .inl 1), (4, .inl 0), (3, .inl 0), (0, .inr (.inr (5, 0, 0))), (1, .inl (nI n1)), (2, .inl 0)], [], σ) [icP .ne (1 : Int32) 0, icP .eq (0 : Int32) 0] rfl ?_ ?_
      · exact ⟨(by decide : (¬ (1 : Int32) = 0)), allP1 (by decide : ((0 : Int32) = 0))⟩
      refine AW.pick [3, 4, 5, 1, 0] (ls' := [(0, .inr (.inr (5, 0, 0))), (1, .inl (nI n1)), (2, .inl 0), (4, .inl (nI (bsug F.1 n1 1).1)), (5, .inl (nI 1))]) rfl ?_
      refine AW.loop (α := Unit) 37 10 (fun i _ => [(0, .inr (.inr (5, 0, 0))), (1, .inl (nI n1)), (2, .inl 0), (4, .inl (nI (bsug F.1 n1 i).1)), (5, .inl (nI i))]) (fun i _ τ => 1 ≤ i ∧ Fr P2 σ τ ∧ RepM (τ 5 0) F.1) ?_ ?_ 9 1 () _ (by omega) ⟨Nat.le_refl _, fr_rfl, hR⟩
      · intro i _ τ hi hI hk
        obtain ⟨hi1, hS1, hR1⟩ := hI
        obtain ⟨j, rfl⟩ : ∃ j, i = j + 1 := ⟨i - 1, by omega⟩
        have hbv := bsug_val (S := F.1) (n := n1) j
        have hb1 := (bsug_le (S := F.1) (n := n1) (j + 1)).2
        have hv8 := leftS_le (withU F.1 (j + 1) (She F.1)) n1
        have hw8 := leftS_le (withU F.1 (bsug F.1 n1 (j + 1)).1 (She F.1)) n1
        have hu : (bsug F.1 n1 (j + 1 + 1)) = if above (bsug F.1 n1 (j + 1)).2 ((leftS (withU F.1 (j + 1) (She F.1)) n1) + 1) = true then (j + 1, some (leftS (withU F.1 (j + 1) (She F.1)) n1)) else (bsug F.1 n1 (j + 1)) := rfl
        by_cases hc : (leftS (withU F.1 (bsug F.1 n1 (j + 1)).1 (She F.1)) n1) ≤ (leftS (withU F.1 (j + 1) (She F.1)) n1)
        · have hst : (bsug F.1 n1 (j + 1 + 1)) = (j + 1, some (leftS (withU F.1 (j + 1) (She F.1)) n1)) := by rw [hu, hbv]; exact if_pos (decide_eq_true (Nat.lt_succ_of_le hc))
          refine AW.run 6 [false] (48, [(0, .inr (.inr (5, 0, 0))), (1, .inl (nI n1)), (2, .inl 0), (4, .inl (nI (bsug F.1 n1 (j + 1)).1)), (5, .inl (nI (j + 1)))], [.inl (nI n1), .inl (nI (j + 1)), .inr (.inr (5, 0, 0))], τ) [¬ icP .ge (nI (j + 1)) 10] rfl ?_ ?_
          · exact allP1 (nle_lit (a := 10) hi (by decide))
          refine AW.callVI (d' := 7) [.inl (nI (j + 1)), .inl (nI n1)] [] ⟨_, rfl⟩ f_6_leftFed v_6_leftFed l_6_231 ⟨rfl, by decide⟩ rfl (Nat.le_of_ble_eq_true rfl) rfl (Nat.le_of_ble_eq_true rfl) (c6_leftFed F.1 τ hR1 hO (j + 1) n1 (by omega) (by omega)) ?_
          rintro _ τ116 ⟨rfl, f116, r116⟩
          refine AW.run 3 [] (55, [(0, .inr (.inr (5, 0, 0))), (1, .inl (nI n1)), (2, .inl 0), (4, .inl (nI (bsug F.1 n1 (j + 1)).1)), (5, .inl (nI (j + 1)))], [.inl (nI n1), .inl (nI (bsug F.1 n1 (j + 1)).1), .inr (.inr (5, 0, 0)), .inl (nI (leftS (withU F.1 (j + 1) (She F.1)) n1))], τ116) [] rfl ?_ ?_
          · exact trivial
          refine AW.callVI (d' := 7) [.inl (nI (bsug F.1 n1 (j + 1)).1), .inl (nI n1)] [.inl (nI (leftS (withU F.1 (j + 1) (She F.1)) n1))] ⟨_, rfl⟩ f_6_leftFed v_6_leftFed l_6_231 ⟨rfl, by decide⟩ rfl (Nat.le_of_ble_eq_true rfl) rfl (Nat.le_of_ble_eq_true rfl) (c6_leftFed F.1 τ116 r116 hO ((bsug F.1 n1 (j + 1)).1) n1 (by omega) (by omega)) ?_
          rintro _ τ117 ⟨rfl, f117, r117⟩
          refine AW.run 6 [false] (37, [(5, .inl ((nI (j + 1)) + 1)), (4, .inl (nI (j + 1))), (0, .inr (.inr (5, 0, 0))), (1, .inl (nI n1)), (2, .inl 0)], [], τ117) [¬ icP .lt (nI (leftS (withU F.1 (j + 1) (She F.1)) n1)) (nI (leftS (withU F.1 ((bsug F.1 n1 (j + 1)).1) (She F.1)) n1))] rfl ?_ ?_
          · exact allP1 (nI_nlt hc (by omega))
          rw [nI_1 (j + 1)]
          refine AW.pick [2, 3, 4, 1, 0] (ls' := [(0, .inr (.inr (5, 0, 0))), (1, .inl (nI n1)), (2, .inl 0), (4, .inl (nI (j + 1))), (5, .inl (nI (j + 1 + 1)))]) rfl ?_
          have hk2 := hk () τ117 ⟨by omega, (fr_trans (fr_trans hS1 f116) f117), r117⟩
          rw [hst] at hk2
          exact hk2
        · have hst : (bsug F.1 n1 (j + 1 + 1)) = (bsug F.1 n1 (j + 1)) := by rw [hu, hbv]; exact if_neg (fun q => hc (Nat.le_of_lt_succ (of_decide_eq_true q)))
          refine AW.run 6 [false] (48, [(0, .inr (.inr (5, 0, 0))), (1, .inl (nI n1)), (2, .inl 0), (4, .inl (nI (bsug F.1 n1 (j + 1)).1)), (5, .inl (nI (j + 1)))], [.inl (nI n1), .inl (nI (j + 1)), .inr (.inr (5, 0, 0))], τ) [¬ icP .ge (nI (j + 1)) 10] rfl ?_ ?_
          · exact allP1 (nle_lit (a := 10) hi (by decide))
          refine AW.callVI (d' := 7) [.inl (nI (j + 1)), .inl (nI n1)] [] ⟨_, rfl⟩ f_6_leftFed v_6_leftFed l_6_231 ⟨rfl, by decide⟩ rfl (Nat.le_of_ble_eq_true rfl) rfl (Nat.le_of_ble_eq_true rfl) (c6_leftFed F.1 τ hR1 hO (j + 1) n1 (by omega) (by omega)) ?_
          rintro _ τ118 ⟨rfl, f118, r118⟩
          refine AW.run 3 [] (55, [(0, .inr (.inr (5, 0, 0))), (1, .inl (nI n1)), (2, .inl 0), (4, .inl (nI (bsug F.1 n1 (j + 1)).1)), (5, .inl (nI (j + 1)))], [.inl (nI n1), .inl (nI (bsug F.1 n1 (j + 1)).1), .inr (.inr (5, 0, 0)), .inl (nI (leftS (withU F.1 (j + 1) (She F.1)) n1))], τ118) [] rfl ?_ ?_
          · exact trivial
          refine AW.callVI (d' := 7) [.inl (nI (bsug F.1 n1 (j + 1)).1), .inl (nI n1)] [.inl (nI (leftS (withU F.1 (j + 1) (She F.1)) n1))] ⟨_, rfl⟩ f_6_leftFed v_6_leftFed l_6_231 ⟨rfl, by decide⟩ rfl (Nat.le_of_ble_eq_true rfl) rfl (Nat.le_of_ble_eq_true rfl) (c6_leftFed F.1 τ118 r118 hO ((bsug F.1 n1 (j + 1)).1) n1 (by omega) (by omega)) ?_
          rintro _ τ119 ⟨rfl, f119, r119⟩
          refine AW.run 5 [true] (37, [(5, .inl ((nI (j + 1)) + 1)), (4, .inl (nI (bsug F.1 n1 (j + 1)).1)), (0, .inr (.inr (5, 0, 0))), (1, .inl (nI n1)), (2, .inl 0)], [], τ119) [icP .lt (nI (leftS (withU F.1 (j + 1) (She F.1)) n1)) (nI (leftS (withU F.1 ((bsug F.1 n1 (j + 1)).1) (She F.1)) n1))] rfl ?_ ?_
          · exact allP1 (nI_lt (by omega) (by omega))
          rw [nI_1 (j + 1)]
          refine AW.pick [2, 3, 4, 1, 0] (ls' := [(0, .inr (.inr (5, 0, 0))), (1, .inl (nI n1)), (2, .inl 0), (4, .inl (nI (bsug F.1 n1 (j + 1)).1)), (5, .inl (nI (j + 1 + 1)))]) rfl ?_
          have hk2 := hk () τ119 ⟨by omega, (fr_trans (fr_trans hS1 f118) f119), r119⟩
          rw [hst] at hk2
          exact hk2
      · intro _ τ hI
        obtain ⟨hi1, hS1, hR1⟩ := hI
        have hb9 := bsug_9 F.1 n1
        refine AW.run 7 [true, false] (92, [(0, .inr (.inr (5, 0, 0))), (1, .inl (nI n1)), (2, .inl 0), (4, .inl (nI (bsug F.1 n1 10).1)), (5, .inl (nI 10))], [.inl (nI (bsug F.1 n1 10).1)], τ) [icP .ge (nI 10) 10, ¬ icP .ne (0 : Int32) 0] rfl ?_ ?_
        · exact ⟨(le_lit (a := 10) (b := 10) (by decide) (by decide)), allP1 (by decide : ¬ (¬ (0 : Int32) = 0))⟩
        refine AW.reti ⟨_, rfl⟩ rfl ?_
        exact ⟨F, (by unfold spoonP; rw [maxP_e0 en1 (by omega), twoP_0]; try rfl), QD_fr hF hS1 hD hR1⟩
    by_cases h1w : w = 1
    · subst h1w
      refine AW.run 1 [] (1, [(0, .inr (.inr (5, 0, 0))), (1, .inl (nI n1)), (2, .inl 1)], [.inl (nI n1)], σ) [] rfl ?_ ?_
      · exact trivial
      refine AW.callSI (d' := 1) [.inl (nI n1)] [] ⟨_, rfl⟩ f_6_notDays s_6_notDays l_6_209 rfl (Nat.le_of_ble_eq_true rfl) rfl (Nat.le_of_ble_eq_true rfl) (c6_notDays0 (nI n1) nln1 nmn1 σ) ?_
      rintro _ _ ⟨rfl, rfl⟩
      refine AW.run 6 [false] (12, [(3, .inl 0), (0, .inr (.inr (5, 0, 0))), (1, .inl (nI n1)), (2, .inl 1)], [.inl 1, .inl 0, .inl 1], σ) [¬ icP .ne (0 : Int32) 0] rfl ?_ ?_
      · exact allP1 (by decide : ¬ (¬ (0 : Int32) = 0))
      refine AW.callSI (d' := 0) [.inl 1, .inl 0, .inl 1] [] ⟨_, rfl⟩ f_6_isIn s_6_isIn l_6_80 rfl (Nat.le_of_ble_eq_true rfl) rfl (Nat.le_of_ble_eq_true rfl) (c6_isIn1 1 0 1 (by decide) (by decide) σ) ?_
      rintro _ _ ⟨rfl, rfl⟩
      refine AW.run 7 [true, true] (37, [(5, .inl 1), (4, .inl 0), (3, .inl 0), (0, .inr (.inr (5, 0, 0))), (1, .inl (nI n1)), (2, .inl 1)], [], σ) [icP .ne (1 : Int32) 0, icP .eq (0 : Int32) 0] rfl ?_ ?_
      · exact ⟨(by decide : (¬ (1 : Int32) = 0)), allP1 (by decide : ((0 : Int32) = 0))⟩
      refine AW.pick [3, 4, 5, 1, 0] (ls' := [(0, .inr (.inr (5, 0, 0))), (1, .inl (nI n1)), (2, .inl 1), (4, .inl (nI (bsug F.1 n1 1).1)), (5, .inl (nI 1))]) rfl ?_
      refine AW.loop (α := Unit) 37 10 (fun i _ => [(0, .inr (.inr (5, 0, 0))), (1, .inl (nI n1)), (2, .inl 1), (4, .inl (nI (bsug F.1 n1 i).1)), (5, .inl (nI i))]) (fun i _ τ => 1 ≤ i ∧ Fr P2 σ τ ∧ RepM (τ 5 0) F.1) ?_ ?_ 9 1 () _ (by omega) ⟨Nat.le_refl _, fr_rfl, hR⟩
      · intro i _ τ hi hI hk
        obtain ⟨hi1, hS1, hR1⟩ := hI
        obtain ⟨j, rfl⟩ : ∃ j, i = j + 1 := ⟨i - 1, by omega⟩
        have hbv := bsug_val (S := F.1) (n := n1) j
        have hb1 := (bsug_le (S := F.1) (n := n1) (j + 1)).2
        have hv8 := leftS_le (withU F.1 (j + 1) (She F.1)) n1
        have hw8 := leftS_le (withU F.1 (bsug F.1 n1 (j + 1)).1 (She F.1)) n1
        have hu : (bsug F.1 n1 (j + 1 + 1)) = if above (bsug F.1 n1 (j + 1)).2 ((leftS (withU F.1 (j + 1) (She F.1)) n1) + 1) = true then (j + 1, some (leftS (withU F.1 (j + 1) (She F.1)) n1)) else (bsug F.1 n1 (j + 1)) := rfl
        by_cases hc : (leftS (withU F.1 (bsug F.1 n1 (j + 1)).1 (She F.1)) n1) ≤ (leftS (withU F.1 (j + 1) (She F.1)) n1)
        · have hst : (bsug F.1 n1 (j + 1 + 1)) = (j + 1, some (leftS (withU F.1 (j + 1) (She F.1)) n1)) := by rw [hu, hbv]; exact if_pos (decide_eq_true (Nat.lt_succ_of_le hc))
          refine AW.run 6 [false] (48, [(0, .inr (.inr (5, 0, 0))), (1, .inl (nI n1)), (2, .inl 1), (4, .inl (nI (bsug F.1 n1 (j + 1)).1)), (5, .inl (nI (j + 1)))], [.inl (nI n1), .inl (nI (j + 1)), .inr (.inr (5, 0, 0))], τ) [¬ icP .ge (nI (j + 1)) 10] rfl ?_ ?_
          · exact allP1 (nle_lit (a := 10) hi (by decide))
          refine AW.callVI (d' := 7) [.inl (nI (j + 1)), .inl (nI n1)] [] ⟨_, rfl⟩ f_6_leftFed v_6_leftFed l_6_231 ⟨rfl, by decide⟩ rfl (Nat.le_of_ble_eq_true rfl) rfl (Nat.le_of_ble_eq_true rfl) (c6_leftFed F.1 τ hR1 hO (j + 1) n1 (by omega) (by omega)) ?_
          rintro _ τ120 ⟨rfl, f120, r120⟩
          refine AW.run 3 [] (55, [(0, .inr (.inr (5, 0, 0))), (1, .inl (nI n1)), (2, .inl 1), (4, .inl (nI (bsug F.1 n1 (j + 1)).1)), (5, .inl (nI (j + 1)))], [.inl (nI n1), .inl (nI (bsug F.1 n1 (j + 1)).1), .inr (.inr (5, 0, 0)), .inl (nI (leftS (withU F.1 (j + 1) (She F.1)) n1))], τ120) [] rfl ?_ ?_
          · exact trivial
          refine AW.callVI (d' := 7) [.inl (nI (bsug F.1 n1 (j + 1)).1), .inl (nI n1)] [.inl (nI (leftS (withU F.1 (j + 1) (She F.1)) n1))] ⟨_, rfl⟩ f_6_leftFed v_6_leftFed l_6_231 ⟨rfl, by decide⟩ rfl (Nat.le_of_ble_eq_true rfl) rfl (Nat.le_of_ble_eq_true rfl) (c6_leftFed F.1 τ120 r120 hO ((bsug F.1 n1 (j + 1)).1) n1 (by omega) (by omega)) ?_
          rintro _ τ121 ⟨rfl, f121, r121⟩
          refine AW.run 6 [false] (37, [(5, .inl ((nI (j + 1)) + 1)), (4, .inl (nI (j + 1))), (0, .inr (.inr (5, 0, 0))), (1, .inl (nI n1)), (2, .inl 1)], [], τ121) [¬ icP .lt (nI (leftS (withU F.1 (j + 1) (She F.1)) n1)) (nI (leftS (withU F.1 ((bsug F.1 n1 (j + 1)).1) (She F.1)) n1))] rfl ?_ ?_
          · exact allP1 (nI_nlt hc (by omega))
          rw [nI_1 (j + 1)]
          refine AW.pick [2, 3, 4, 1, 0] (ls' := [(0, .inr (.inr (5, 0, 0))), (1, .inl (nI n1)), (2, .inl 1), (4, .inl (nI (j + 1))), (5, .inl (nI (j + 1 + 1)))]) rfl ?_
          have hk2 := hk () τ121 ⟨by omega, (fr_trans (fr_trans hS1 f120) f121), r121⟩
          rw [hst] at hk2
          exact hk2
        · have hst : (bsug F.1 n1 (j + 1 + 1)) = (bsug F.1 n1 (j + 1)) := by rw [hu, hbv]; exact if_neg (fun q => hc (Nat.le_of_lt_succ (of_decide_eq_true q)))
          refine AW.run 6 [false] (48, [(0, .inr (.inr (5, 0, 0))), (1, .inl (nI n1)), (2, .inl 1), (4, .inl (nI (bsug F.1 n1 (j + 1)).1)), (5, .inl (nI (j + 1)))], [.inl (nI n1), .inl (nI (j + 1)), .inr (.inr (5, 0, 0))], τ) [¬ icP .ge (nI (j + 1)) 10] rfl ?_ ?_
          · exact allP1 (nle_lit (a := 10) hi (by decide))
          refine AW.callVI (d' := 7) [.inl (nI (j + 1)), .inl (nI n1)] [] ⟨_, rfl⟩ f_6_leftFed v_6_leftFed l_6_231 ⟨rfl, by decide⟩ rfl (Nat.le_of_ble_eq_true rfl) rfl (Nat.le_of_ble_eq_true rfl) (c6_leftFed F.1 τ hR1 hO (j + 1) n1 (by omega) (by omega)) ?_
          rintro _ τ122 ⟨rfl, f122, r122⟩
          refine AW.run 3 [] (55, [(0, .inr (.inr (5, 0, 0))), (1, .inl (nI n1)), (2, .inl 1), (4, .inl (nI (bsug F.1 n1 (j + 1)).1)), (5, .inl (nI (j + 1)))], [.inl (nI n1), .inl (nI (bsug F.1 n1 (j + 1)).1), .inr (.inr (5, 0, 0)), .inl (nI (leftS (withU F.1 (j + 1) (She F.1)) n1))], τ122) [] rfl ?_ ?_
          · exact trivial
          refine AW.callVI (d' := 7) [.inl (nI (bsug F.1 n1 (j + 1)).1), .inl (nI n1)] [.inl (nI (leftS (withU F.1 (j + 1) (She F.1)) n1))] ⟨_, rfl⟩ f_6_leftFed v_6_leftFed l_6_231 ⟨rfl, by decide⟩ rfl (Nat.le_of_ble_eq_true rfl) rfl (Nat.le_of_ble_eq_true rfl) (c6_leftFed F.1 τ122 r122 hO ((bsug F.1 n1 (j + 1)).1) n1 (by omega) (by omega)) ?_
          rintro _ τ123 ⟨rfl, f123, r123⟩
          refine AW.run 5 [true] (37, [(5, .inl ((nI (j + 1)) + 1)), (4, .inl (nI (bsug F.1 n1 (j + 1)).1)), (0, .inr (.inr (5, 0, 0))), (1, .inl (nI n1)), (2, .inl 1)], [], τ123) [icP .lt (nI (leftS (withU F.1 (j + 1) (She F.1)) n1)) (nI (leftS (withU F.1 ((bsug F.1 n1 (j + 1)).1) (She F.1)) n1))] rfl ?_ ?_
          · exact allP1 (nI_lt (by omega) (by omega))
          rw [nI_1 (j + 1)]
          refine AW.pick [2, 3, 4, 1, 0] (ls' := [(0, .inr (.inr (5, 0, 0))), (1, .inl (nI n1)), (2, .inl 1), (4, .inl (nI (bsug F.1 n1 (j + 1)).1)), (5, .inl (nI (j + 1 + 1)))]) rfl ?_
          have hk2 := hk () τ123 ⟨by omega, (fr_trans (fr_trans hS1 f122) f123), r123⟩
          rw [hst] at hk2
          exact hk2
      · intro _ τ hI
        obtain ⟨hi1, hS1, hR1⟩ := hI
        have hb9 := bsug_9 F.1 n1
        refine AW.run 8 [true, true] (89, [(0, .inr (.inr (5, 0, 0))), (1, .inl (nI n1)), (2, .inl 1), (4, .inl (nI (bsug F.1 n1 10).1)), (5, .inl (nI 10))], [.inl (nI n1), .inl (nI (bsug F.1 n1 10).1), .inr (.inr (5, 0, 0))], τ) [icP .ge (nI 10) 10, icP .ne (1 : Int32) 0] rfl ?_ ?_
        · exact ⟨(le_lit (a := 10) (b := 10) (by decide) (by decide)), allP1 (by decide : (¬ (1 : Int32) = 0))⟩
        refine AW.callVI (d' := 7) [.inl (nI (bsug F.1 n1 10).1), .inl (nI n1)] [] ⟨_, rfl⟩ f_6_leftFed v_6_leftFed l_6_231 ⟨rfl, by decide⟩ rfl (Nat.le_of_ble_eq_true rfl) rfl (Nat.le_of_ble_eq_true rfl) (c6_leftFed F.1 τ hR1 hO ((bsug F.1 n1 10).1) n1 (by omega) (by omega)) ?_
        rintro _ τ124 ⟨rfl, f124, r124⟩
        refine AW.reti ⟨_, rfl⟩ rfl ?_
        exact ⟨F, (by unfold spoonP; rw [maxP_e0 en1 (by omega), twoP_1]; try rfl), QD_fr hF (fr_trans hS1 f124) hD r124⟩
    · skip
      refine AW.run 1 [] (1, [(0, .inr (.inr (5, 0, 0))), (1, .inl (nI n1)), (2, .inl w)], [.inl (nI n1)], σ) [] rfl ?_ ?_
      · exact trivial
      refine AW.callSI (d' := 1) [.inl (nI n1)] [] ⟨_, rfl⟩ f_6_notDays s_6_notDays l_6_209 rfl (Nat.le_of_ble_eq_true rfl) rfl (Nat.le_of_ble_eq_true rfl) (c6_notDays0 (nI n1) nln1 nmn1 σ) ?_
      rintro _ _ ⟨rfl, rfl⟩
      refine AW.run 6 [false] (12, [(3, .inl 0), (0, .inr (.inr (5, 0, 0))), (1, .inl (nI n1)), (2, .inl w)], [.inl 1, .inl 0, .inl w], σ) [¬ icP .ne (0 : Int32) 0] rfl ?_ ?_
      · exact allP1 (by decide : ¬ (¬ (0 : Int32) = 0))
      refine AW.callSI (d' := 0) [.inl w, .inl 0, .inl 1] [] ⟨_, rfl⟩ f_6_isIn s_6_isIn l_6_80 rfl (Nat.le_of_ble_eq_true rfl) rfl (Nat.le_of_ble_eq_true rfl) (c6_isIn0 w 0 1 (in_01 h0w h1w) σ) ?_
      rintro _ _ ⟨rfl, rfl⟩
      refine AW.run 7 [false, false] (27, [(3, .inl (-2)), (0, .inr (.inr (5, 0, 0))), (1, .inl (nI n1)), (2, .inl w)], [.inl (-2), .inr (.inr (5, 0, 0))], σ) [¬ icP .ne (0 : Int32) 0, ¬ icP .eq ((-2) : Int32) 0] rfl ?_ ?_
      · exact ⟨(by decide : ¬ (¬ (0 : Int32) = 0)), allP1 (by decide : ¬ (((-2) : Int32) = 0))⟩
      refine AW.callVI (d' := 0) [.inl (-2)] [] ⟨_, rfl⟩ f_6_no v_6_no l_6_69 ⟨rfl, by decide⟩ rfl (Nat.le_of_ble_eq_true rfl) rfl (Nat.le_of_ble_eq_true rfl) (c6_no2 σ) ?_
      rintro _ _ ⟨rfl, rfl⟩
      refine AW.reti ⟨_, rfl⟩ rfl ?_
      exact ⟨rfuF F 2, (by unfold spoonP; rw [maxP_e0 en1 (by omega), twoP_N h0w h1w]; try rfl), RepD_ref hF hD (by decide) (by decide)⟩
set_option maxHeartbeats 4000000 in
set_option maxRecDepth 100000 in
theorem d6_ready (F : Gv) (σ : St) (hD : RepD σ F) (hG : GOK F) (b : Int32) (v : Int32) (n : Int32) : Ct M6_ready 7 [.inr (.inr (5, 0, 0)), .inl b, .inl v, .inl n] σ (QD σ (readyP F b v n)) := by
  refine Ct.of f_6_ready (Nat.le_of_ble_eq_true rfl) ?_
  show AW M6_ready 7 _ (0, [(0, .inr (.inr (5, 0, 0))), (1, .inl b), (2, .inl v), (3, .inl n)], [], σ)
  have hF : FOK F := hG.1
  have hR : RepM (σ 5 0) F.1 := hD.1
  have hO : SOK F.1 := hF.1.1
  have hn8 : Sn F.1 ≤ 8 := hO.1
  have e7 := hR.1.1
  rcases bot_or (Sn F.1) b with ⟨k, hk, rfl⟩ | hnok
  · skip
    have h8k : k < 8 := by omega
    by_cases hv0 : v < 0
    · skip
      refine AW.run 2 [] (2, [(0, .inr (.inr (5, 0, 0))), (1, .inl (nI k)), (2, .inl v), (3, .inl n)], [.inl (nI k), .inr (.inr (5, 0, 0))], σ) [] rfl ?_ ?_
      · exact trivial
      refine AW.callVI (d' := 0) [.inl (nI k)] [] ⟨_, rfl⟩ f_6_isBottle v_6_isBottle l_6_105 ⟨rfl, by decide⟩ rfl (Nat.le_of_ble_eq_true rfl) rfl (Nat.le_of_ble_eq_true rfl) (c6_isBottle1 (Sn F.1) σ e7 hn8 k hk) ?_
      rintro _ _ ⟨rfl, rfl⟩
      refine AW.run 10 [true, true, false] (53, [(4, .inl (-4)), (0, .inr (.inr (5, 0, 0))), (1, .inl (nI k)), (2, .inl v), (3, .inl n)], [.inl (-4), .inr (.inr (5, 0, 0))], σ) [icP .ne (1 : Int32) 0, icP .lt v 0, ¬ icP .eq ((-4) : Int32) 0] rfl ?_ ?_
      · exact ⟨(by decide : (¬ (1 : Int32) = 0)), (hv0), allP1 (by decide : ¬ (((-4) : Int32) = 0))⟩
      refine AW.callVI (d' := 0) [.inl (-4)] [] ⟨_, rfl⟩ f_6_no v_6_no l_6_69 ⟨rfl, by decide⟩ rfl (Nat.le_of_ble_eq_true rfl) rfl (Nat.le_of_ble_eq_true rfl) (c6_no4 σ) ?_
      rintro _ _ ⟨rfl, rfl⟩
      refine AW.reti ⟨_, rfl⟩ rfl ?_
      exact ⟨rfuF F 4, (by unfold readyP; rw [botP_some hk hn8, if_pos (Or.inl hv0)]; try rfl), RepD_ref hF hD (by decide) (by decide)⟩
    by_cases hn0 : n < 0
    · skip
      refine AW.run 2 [] (2, [(0, .inr (.inr (5, 0, 0))), (1, .inl (nI k)), (2, .inl v), (3, .inl n)], [.inl (nI k), .inr (.inr (5, 0, 0))], σ) [] rfl ?_ ?_
      · exact trivial
      refine AW.callVI (d' := 0) [.inl (nI k)] [] ⟨_, rfl⟩ f_6_isBottle v_6_isBottle l_6_105 ⟨rfl, by decide⟩ rfl (Nat.le_of_ble_eq_true rfl) rfl (Nat.le_of_ble_eq_true rfl) (c6_isBottle1 (Sn F.1) σ e7 hn8 k hk) ?_
      rintro _ _ ⟨rfl, rfl⟩
      refine AW.run 12 [true, false, false, false] (53, [(4, .inl (-4)), (0, .inr (.inr (5, 0, 0))), (1, .inl (nI k)), (2, .inl v), (3, .inl n)], [.inl (-4), .inr (.inr (5, 0, 0))], σ) [icP .ne (1 : Int32) 0, ¬ icP .lt v 0, ¬ icP .ge n 0, ¬ icP .eq ((-4) : Int32) 0] rfl ?_ ?_
      · exact ⟨(by decide : (¬ (1 : Int32) = 0)), (hv0), (nge_of hn0), allP1 (by decide : ¬ (((-4) : Int32) = 0))⟩
      refine AW.callVI (d' := 0) [.inl (-4)] [] ⟨_, rfl⟩ f_6_no v_6_no l_6_69 ⟨rfl, by decide⟩ rfl (Nat.le_of_ble_eq_true rfl) rfl (Nat.le_of_ble_eq_true rfl) (c6_no4 σ) ?_
      rintro _ _ ⟨rfl, rfl⟩
      refine AW.reti ⟨_, rfl⟩ rfl ?_
      exact ⟨rfuF F 4, (by unfold readyP; rw [botP_some hk hn8, if_pos (Or.inr hn0)]; try rfl), RepD_ref hF hD (by decide) (by decide)⟩
    by_cases hv1 : nI 99 < v
    · skip
      refine AW.run 2 [] (2, [(0, .inr (.inr (5, 0, 0))), (1, .inl (nI k)), (2, .inl v), (3, .inl n)], [.inl (nI k), .inr (.inr (5, 0, 0))], σ) [] rfl ?_ ?_
      · exact trivial
      refine AW.callVI (d' := 0) [.inl (nI k)] [] ⟨_, rfl⟩ f_6_isBottle v_6_isBottle l_6_105 ⟨rfl, by decide⟩ rfl (Nat.le_of_ble_eq_true rfl) rfl (Nat.le_of_ble_eq_true rfl) (c6_isBottle1 (Sn F.1) σ e7 hn8 k hk) ?_
      rintro _ _ ⟨rfl, rfl⟩
      refine AW.run 15 [true, false, true, true, false] (53, [(4, .inl (-6)), (0, .inr (.inr (5, 0, 0))), (1, .inl (nI k)), (2, .inl v), (3, .inl n)], [.inl (-6), .inr (.inr (5, 0, 0))], σ) [icP .ne (1 : Int32) 0, ¬ icP .lt v 0, icP .ge n 0, icP .gt v 99, ¬ icP .eq ((-6) : Int32) 0] rfl ?_ ?_
      · exact ⟨(by decide : (¬ (1 : Int32) = 0)), (hv0), (ge_of hn0), (hv1), allP1 (by decide : ¬ (((-6) : Int32) = 0))⟩
      refine AW.callVI (d' := 0) [.inl (-6)] [] ⟨_, rfl⟩ f_6_no v_6_no l_6_69 ⟨rfl, by decide⟩ rfl (Nat.le_of_ble_eq_true rfl) rfl (Nat.le_of_ble_eq_true rfl) (c6_no6 σ) ?_
      rintro _ _ ⟨rfl, rfl⟩
      refine AW.reti ⟨_, rfl⟩ rfl ?_
      exact ⟨rfuF F 6, (by unfold readyP; rw [botP_some hk hn8, if_neg (fun h => h.elim hv0 hn0), if_pos (Or.inl hv1)]; try rfl), RepD_ref hF hD (by decide) (by decide)⟩
    by_cases hn1 : nI 60 < n
    · skip
      refine AW.run 2 [] (2, [(0, .inr (.inr (5, 0, 0))), (1, .inl (nI k)), (2, .inl v), (3, .inl n)], [.inl (nI k), .inr (.inr (5, 0, 0))], σ) [] rfl ?_ ?_
      · exact trivial
      refine AW.callVI (d' := 0) [.inl (nI k)] [] ⟨_, rfl⟩ f_6_isBottle v_6_isBottle l_6_105 ⟨rfl, by decide⟩ rfl (Nat.le_of_ble_eq_true rfl) rfl (Nat.le_of_ble_eq_true rfl) (c6_isBottle1 (Sn F.1) σ e7 hn8 k hk) ?_
      rintro _ _ ⟨rfl, rfl⟩
      refine AW.run 18 [true, false, true, false, false, false] (53, [(4, .inl (-6)), (0, .inr (.inr (5, 0, 0))), (1, .inl (nI k)), (2, .inl v), (3, .inl n)], [.inl (-6), .inr (.inr (5, 0, 0))], σ) [icP .ne (1 : Int32) 0, ¬ icP .lt v 0, icP .ge n 0, ¬ icP .gt v 99, ¬ icP .le n 60, ¬ icP .eq ((-6) : Int32) 0] rfl ?_ ?_
      · exact ⟨(by decide : (¬ (1 : Int32) = 0)), (hv0), (ge_of hn0), (hv1), (nge_of hn1), allP1 (by decide : ¬ (((-6) : Int32) = 0))⟩
      refine AW.callVI (d' := 0) [.inl (-6)] [] ⟨_, rfl⟩ f_6_no v_6_no l_6_69 ⟨rfl, by decide⟩ rfl (Nat.le_of_ble_eq_true rfl) rfl (Nat.le_of_ble_eq_true rfl) (c6_no6 σ) ?_
      rintro _ _ ⟨rfl, rfl⟩
      refine AW.reti ⟨_, rfl⟩ rfl ?_
      exact ⟨rfuF F 6, (by unfold readyP; rw [botP_some hk hn8, if_neg (fun h => h.elim hv0 hn0), if_pos (Or.inr hn1)]; try rfl), RepD_ref hF hD (by decide) (by decide)⟩
    obtain ⟨v1, hv31, rfl⟩ := nI_of hv0
    obtain ⟨n1, hn31, rfl⟩ := nI_of hn0
    refine AW.run 2 [] (2, [(0, .inr (.inr (5, 0, 0))), (1, .inl (nI k)), (2, .inl (nI v1)), (3, .inl (nI n1))], [.inl (nI k), .inr (.inr (5, 0, 0))], σ) [] rfl ?_ ?_
    · exact trivial
    refine AW.callVI (d' := 0) [.inl (nI k)] [] ⟨_, rfl⟩ f_6_isBottle v_6_isBottle l_6_105 ⟨rfl, by decide⟩ rfl (Nat.le_of_ble_eq_true rfl) rfl (Nat.le_of_ble_eq_true rfl) (c6_isBottle1 (Sn F.1) σ e7 hn8 k hk) ?_
    rintro _ _ ⟨rfl, rfl⟩
    refine AW.run 17 [true, false, true, false, true, true] (60, [(5, .inl 0), (4, .inl 0), (0, .inr (.inr (5, 0, 0))), (1, .inl (nI k)), (2, .inl (nI v1)), (3, .inl (nI n1))], [], σ) [icP .ne (1 : Int32) 0, ¬ icP .lt (nI v1) 0, icP .ge (nI n1) 0, ¬ icP .gt (nI v1) 99, icP .le (nI n1) 60, icP .eq (0 : Int32) 0] rfl ?_ ?_
    · exact ⟨(by decide : (¬ (1 : Int32) = 0)), (hv0), (ge_of hn0), (hv1), (ge_of hn1), allP1 (by decide : ((0 : Int32) = 0))⟩
    refine AW.pick [2, 3, 4, 5, 0] (ls' := [(0, .inr (.inr (5, 0, 0))), (1, .inl (nI k)), (2, .inl (nI v1)), (3, .inl (nI n1)), (5, .inl (nI 0))]) rfl ?_
    refine AW.loop (α := Unit) 60 10 (fun i _ => [(0, .inr (.inr (5, 0, 0))), (1, .inl (nI k)), (2, .inl (nI v1)), (3, .inl (nI n1)), (5, .inl (nI i))]) (fun i _ τ => Fr P2 σ τ ∧ RepM (τ 5 0) F.1 ∧ rdyN F.1 k v1 n1 10 0 = rdyN F.1 k v1 n1 (10 - i) i) ?_ ?_ 10 0 () _ (by omega) ⟨fr_rfl, hR, rfl⟩
    · intro i _ τ hi hI hk9
      obtain ⟨hS1, hR1, hg⟩ := hI
      have hu : rdyN F.1 k v1 n1 (10 - i) i = if readyN (passS n1 (withU F.1 i (She F.1))) k v1 = true then some i else rdyN F.1 k v1 n1 (10 - (i + 1)) (i + 1) := by
        obtain ⟨m, hm⟩ : ∃ m, 10 - i = m + 1 := ⟨9 - i, by omega⟩
        rw [hm, show 10 - (i + 1) = m by omega]; rfl
      refine AW.run 4 [false] (68, [(0, .inr (.inr (5, 0, 0))), (1, .inl (nI k)), (2, .inl (nI v1)), (3, .inl (nI n1)), (5, .inl (nI i))], [.inr (.inr (5, 0, 0))], τ) [¬ icP .ge (nI i) 10] rfl ?_ ?_
      · exact allP1 (nle_lit (a := 10) hi (by decide))
      refine AW.callVV (d' := 2) [] [] ⟨_, rfl⟩ f_6_thinks v_6_thinks l_6_203 ⟨rfl, by decide⟩ rfl (Nat.le_of_ble_eq_true rfl) rfl (Nat.le_of_ble_eq_true rfl) (c6_thinks F.1 τ hR1 hO.1) ?_
      rintro τ125 ⟨f125, r125, k125⟩
      refine AW.run 3 [] (77, [(0, .inr (.inr (5, 0, 0))), (1, .inl (nI k)), (2, .inl (nI v1)), (3, .inl (nI n1)), (5, .inl (nI i))], [], (setM τ125 5 0 0 8 (nI i))) [] rfl ?_ ?_
      · exact trivial
      obtain ⟨τ126, e126⟩ : ∃ x, x = setM τ125 5 0 0 8 (nI i) := ⟨_, rfl⟩
      rw [← e126]
      have r126 : RepM (τ126 5 0) (withU F.1 i (She F.1)) := by rw [e126]; exact (repM_s (u := i) r125)
      have f126 : Fr P1 τ125 τ126 := by rw [e126]; exact fr_set fr_rfl (by unfold P1; omega)
      refine AW.run 2 [] (79, [(0, .inr (.inr (5, 0, 0))), (1, .inl (nI k)), (2, .inl (nI v1)), (3, .inl (nI n1)), (5, .inl (nI i))], [.inl (nI n1), .inr (.inr (5, 0, 0))], τ126) [] rfl ?_ ?_
      · exact trivial
      refine AW.callVV (d' := 5) [.inl (nI n1)] [] ⟨_, rfl⟩ f_6_goesAll v_6_goesAll l_6_114 ⟨rfl, by decide⟩ rfl (Nat.le_of_ble_eq_true rfl) rfl (Nat.le_of_ble_eq_true rfl) (c6_goesAll (withU F.1 i (She F.1)) τ126 r126 (SOK_U hO (by omega) hO.2.2.2.2) n1 (by omega)) ?_
      rintro τ127 ⟨f127, r127⟩
      refine AW.run 3 [] (85, [(0, .inr (.inr (5, 0, 0))), (1, .inl (nI k)), (2, .inl (nI v1)), (3, .inl (nI n1)), (5, .inl (nI i))], [.inl (nI v1), .inl (nI k), .inr (.inr (5, 0, 0))], τ127) [] rfl ?_ ?_
      · exact trivial
      refine AW.callVI (d' := 1) [.inl (nI k), .inl (nI v1)] [] ⟨_, rfl⟩ f_6_isReady v_6_isReady l_6_234 ⟨rfl, by decide⟩ rfl (Nat.le_of_ble_eq_true rfl) rfl (Nat.le_of_ble_eq_true rfl) (c6_isReady (passS n1 (withU F.1 i (She F.1))) τ127 r127 (SOK_pass n1 (SOK_U hO (by omega) hO.2.2.2.2)) k v1 (by rw [pass_n]; exact hk) hv31) ?_
      rintro v9 _ ⟨rfl, hv9⟩
      rcases hv9 with ⟨rfl, hpp⟩ | ⟨rfl, hpp⟩
      · skip
        refine AW.run 2 [] (91, [(6, .inl 1), (0, .inr (.inr (5, 0, 0))), (1, .inl (nI k)), (2, .inl (nI v1)), (3, .inl (nI n1)), (5, .inl (nI i))], [.inr (.inr (5, 0, 0))], τ127) [] rfl ?_ ?_
        · exact trivial
        refine AW.callVV (d' := 2) [] [] ⟨_, rfl⟩ f_6_forgets v_6_forgets l_6_206 ⟨rfl, by decide⟩ rfl (Nat.le_of_ble_eq_true rfl) rfl (Nat.le_of_ble_eq_true rfl) (c6_forgets F.1 τ127 (repK_fr hO.1 (fr_trans (fr_trans (fr_rfl (P := P1)) f126) f127) (fun k _ _ q => by unfold P1 at q; omega) k125) hO.1) ?_
        rintro τ128 ⟨f128, r128⟩
        refine AW.run 3 [false] (101, [(6, .inl 1), (0, .inr (.inr (5, 0, 0))), (1, .inl (nI k)), (2, .inl (nI v1)), (3, .inl (nI n1)), (5, .inl (nI i))], [.inl (nI i)], τ128) [¬ icP .eq (1 : Int32) 0] rfl ?_ ?_
        · exact allP1 (by decide : ¬ ((1 : Int32) = 0))
        refine AW.reti ⟨_, rfl⟩ rfl ?_
        exact ⟨F, (by unfold readyP; rw [botP_some hk hn8, if_neg (fun h => h.elim hv0 hn0), if_neg (fun h => h.elim hv1 hn1), nI_clamp hv31, nI_clamp hn31, hg, hu, if_pos hpp]; rfl), QD_fr hF (fr_trans (fr_trans (fr_trans (fr_trans hS1 f125) (fr_12 f126)) (fr_12 f127)) f128) hD r128⟩
      · skip
        refine AW.run 2 [] (91, [(6, .inl 0), (0, .inr (.inr (5, 0, 0))), (1, .inl (nI k)), (2, .inl (nI v1)), (3, .inl (nI n1)), (5, .inl (nI i))], [.inr (.inr (5, 0, 0))], τ127) [] rfl ?_ ?_
        · exact trivial
        refine AW.callVV (d' := 2) [] [] ⟨_, rfl⟩ f_6_forgets v_6_forgets l_6_206 ⟨rfl, by decide⟩ rfl (Nat.le_of_ble_eq_true rfl) rfl (Nat.le_of_ble_eq_true rfl) (c6_forgets F.1 τ127 (repK_fr hO.1 (fr_trans (fr_trans (fr_rfl (P := P1)) f126) f127) (fun k _ _ q => by unfold P1 at q; omega) k125) hO.1) ?_
        rintro τ129 ⟨f129, r129⟩
        refine AW.run 4 [true] (60, [(5, .inl ((nI i) + 1)), (6, .inl 0), (0, .inr (.inr (5, 0, 0))), (1, .inl (nI k)), (2, .inl (nI v1)), (3, .inl (nI n1))], [], τ129) [icP .eq (0 : Int32) 0] rfl ?_ ?_
        · exact allP1 (by decide : ((0 : Int32) = 0))
        rw [nI_1 i]
        refine AW.pick [2, 3, 4, 5, 0] (ls' := [(0, .inr (.inr (5, 0, 0))), (1, .inl (nI k)), (2, .inl (nI v1)), (3, .inl (nI n1)), (5, .inl (nI (i + 1)))]) rfl ?_
        exact hk9 () τ129 ⟨(fr_trans (fr_trans (fr_trans (fr_trans hS1 f125) (fr_12 f126)) (fr_12 f127)) f129), r129, by rw [hg, hu, if_neg (by rw [hpp]; decide)]⟩
    · intro _ τ hI
      obtain ⟨hS1, hR1, hg⟩ := hI
      refine AW.run 4 [true] (110, [(0, .inr (.inr (5, 0, 0))), (1, .inl (nI k)), (2, .inl (nI v1)), (3, .inl (nI n1)), (5, .inl (nI 10))], [.inl (-9)], τ) [icP .ge (nI 10) 10] rfl ?_ ?_
      · exact allP1 (le_lit (a := 10) (b := 10) (by decide) (by decide))
      refine AW.reti ⟨_, rfl⟩ rfl ?_
      exact ⟨F, (by unfold readyP; rw [botP_some hk hn8, if_neg (fun h => h.elim hv0 hn0), if_neg (fun h => h.elim hv1 hn1), nI_clamp hv31, nI_clamp hn31, hg]; rfl), QD_fr hF hS1 hD hR1⟩
  · skip
    refine AW.run 2 [] (2, [(0, .inr (.inr (5, 0, 0))), (1, .inl b), (2, .inl v), (3, .inl n)], [.inl b, .inr (.inr (5, 0, 0))], σ) [] rfl ?_ ?_
    · exact trivial
    refine AW.callVI (d' := 0) [.inl b] [] ⟨_, rfl⟩ f_6_isBottle v_6_isBottle l_6_105 ⟨rfl, by decide⟩ rfl (Nat.le_of_ble_eq_true rfl) rfl (Nat.le_of_ble_eq_true rfl) (c6_isBottle0 (Sn F.1) σ e7 hn8 b hnok) ?_
    rintro _ _ ⟨rfl, rfl⟩
    refine AW.run 8 [false, false] (53, [(4, .inl (-1)), (0, .inr (.inr (5, 0, 0))), (1, .inl b), (2, .inl v), (3, .inl n)], [.inl (-1), .inr (.inr (5, 0, 0))], σ) [¬ icP .ne (0 : Int32) 0, ¬ icP .eq ((-1) : Int32) 0] rfl ?_ ?_
    · exact ⟨(by decide : ¬ (¬ (0 : Int32) = 0)), allP1 (by decide : ¬ (((-1) : Int32) = 0))⟩
    refine AW.callVI (d' := 0) [.inl (-1)] [] ⟨_, rfl⟩ f_6_no v_6_no l_6_69 ⟨rfl, by decide⟩ rfl (Nat.le_of_ble_eq_true rfl) rfl (Nat.le_of_ble_eq_true rfl) (c6_no1 σ) ?_
    rintro _ _ ⟨rfl, rfl⟩
    refine AW.reti ⟨_, rfl⟩ rfl ?_
    exact ⟨rfuF F 1, (by unfold readyP; rw [botP_none hnok]; try rfl), RepD_ref hF hD (by decide) (by decide)⟩
set_option maxHeartbeats 4000000 in
set_option maxRecDepth 100000 in
theorem d6_feedFor (F : Gv) (σ : St) (hD : RepD σ F) (hG : GOK F) (b : Int32) (v : Int32) : Ct M6_feedFor 6 [.inr (.inr (5, 0, 0)), .inl b, .inl v] σ (QD σ (feedForP F b v)) := by
  refine Ct.of f_6_feedFor (Nat.le_of_ble_eq_true rfl) ?_
  show AW M6_feedFor 6 _ (0, [(0, .inr (.inr (5, 0, 0))), (1, .inl b), (2, .inl v)], [], σ)
  have hF : FOK F := hG.1
  have hR : RepM (σ 5 0) F.1 := hD.1
  have hO : SOK F.1 := hF.1.1
  have hn8 : Sn F.1 ≤ 8 := hO.1
  have e7 := hR.1.1
  rcases bot_or (Sn F.1) b with ⟨k, hk, rfl⟩ | hnok
  · skip
    have h8k : k < 8 := by omega
    rcases fMax_or 99 (by decide) v with ⟨h4v1, ev1⟩ | ⟨h4v1, h6v1, ev1⟩ | ⟨v1, hv1, rfl, ev1⟩
    · skip
      refine AW.run 2 [] (2, [(0, .inr (.inr (5, 0, 0))), (1, .inl (nI k)), (2, .inl v)], [.inl (nI k), .inr (.inr (5, 0, 0))], σ) [] rfl ?_ ?_
      · exact trivial
      refine AW.callVI (d' := 0) [.inl (nI k)] [] ⟨_, rfl⟩ f_6_isBottle v_6_isBottle l_6_105 ⟨rfl, by decide⟩ rfl (Nat.le_of_ble_eq_true rfl) rfl (Nat.le_of_ble_eq_true rfl) (c6_isBottle1 (Sn F.1) σ e7 hn8 k hk) ?_
      rintro _ _ ⟨rfl, rfl⟩
      refine AW.run 4 [true] (16, [(0, .inr (.inr (5, 0, 0))), (1, .inl (nI k)), (2, .inl v)], [.inl 99, .inl 0, .inl v], σ) [icP .ne (1 : Int32) 0] rfl ?_ ?_
      · exact allP1 (by decide : (¬ (1 : Int32) = 0))
      refine AW.callSI (d' := 0) [.inl v, .inl 0, .inl 99] [] ⟨_, rfl⟩ f_6_bound s_6_bound l_6_62 rfl (Nat.le_of_ble_eq_true rfl) rfl (Nat.le_of_ble_eq_true rfl) (c6_bound4 v 0 99 h4v1 σ) ?_
      rintro _ _ ⟨rfl, rfl⟩
      refine AW.run 5 [false] (26, [(3, .inl (-4)), (0, .inr (.inr (5, 0, 0))), (1, .inl (nI k)), (2, .inl v)], [.inl (-4), .inr (.inr (5, 0, 0))], σ) [¬ icP .eq ((-4) : Int32) 0] rfl ?_ ?_
      · exact allP1 (by decide : ¬ (((-4) : Int32) = 0))
      refine AW.callVI (d' := 0) [.inl (-4)] [] ⟨_, rfl⟩ f_6_no v_6_no l_6_69 ⟨rfl, by decide⟩ rfl (Nat.le_of_ble_eq_true rfl) rfl (Nat.le_of_ble_eq_true rfl) (c6_no4 σ) ?_
      rintro _ _ ⟨rfl, rfl⟩
      refine AW.reti ⟨_, rfl⟩ rfl ?_
      exact ⟨rfuF F 4, (by unfold feedForP; rw [botP_some hk hn8, maxP_e4 ev1]; try rfl), RepD_ref hF hD (by decide) (by decide)⟩
    · skip
      refine AW.run 2 [] (2, [(0, .inr (.inr (5, 0, 0))), (1, .inl (nI k)), (2, .inl v)], [.inl (nI k), .inr (.inr (5, 0, 0))], σ) [] rfl ?_ ?_
      · exact trivial
      refine AW.callVI (d' := 0) [.inl (nI k)] [] ⟨_, rfl⟩ f_6_isBottle v_6_isBottle l_6_105 ⟨rfl, by decide⟩ rfl (Nat.le_of_ble_eq_true rfl) rfl (Nat.le_of_ble_eq_true rfl) (c6_isBottle1 (Sn F.1) σ e7 hn8 k hk) ?_
      rintro _ _ ⟨rfl, rfl⟩
      refine AW.run 4 [true] (16, [(0, .inr (.inr (5, 0, 0))), (1, .inl (nI k)), (2, .inl v)], [.inl 99, .inl 0, .inl v], σ) [icP .ne (1 : Int32) 0] rfl ?_ ?_
      · exact allP1 (by decide : (¬ (1 : Int32) = 0))
      refine AW.callSI (d' := 0) [.inl v, .inl 0, .inl 99] [] ⟨_, rfl⟩ f_6_bound s_6_bound l_6_62 rfl (Nat.le_of_ble_eq_true rfl) rfl (Nat.le_of_ble_eq_true rfl) (c6_bound6 v 0 99 h4v1 h6v1 σ) ?_
      rintro _ _ ⟨rfl, rfl⟩
      refine AW.run 5 [false] (26, [(3, .inl (-6)), (0, .inr (.inr (5, 0, 0))), (1, .inl (nI k)), (2, .inl v)], [.inl (-6), .inr (.inr (5, 0, 0))], σ) [¬ icP .eq ((-6) : Int32) 0] rfl ?_ ?_
      · exact allP1 (by decide : ¬ (((-6) : Int32) = 0))
      refine AW.callVI (d' := 0) [.inl (-6)] [] ⟨_, rfl⟩ f_6_no v_6_no l_6_69 ⟨rfl, by decide⟩ rfl (Nat.le_of_ble_eq_true rfl) rfl (Nat.le_of_ble_eq_true rfl) (c6_no6 σ) ?_
      rintro _ _ ⟨rfl, rfl⟩
      refine AW.reti ⟨_, rfl⟩ rfl ?_
      exact ⟨rfuF F 6, (by unfold feedForP; rw [botP_some hk hn8, maxP_e6 ev1]; try rfl), RepD_ref hF hD (by decide) (by decide)⟩
    · skip
      have nlv1 : ¬ nI v1 < 0 := nlt0 (by omega)
      have nmv1 : ¬ nI 99 < nI v1 := nI_nlt hv1 (by decide)
      refine AW.run 2 [] (2, [(0, .inr (.inr (5, 0, 0))), (1, .inl (nI k)), (2, .inl (nI v1))], [.inl (nI k), .inr (.inr (5, 0, 0))], σ) [] rfl ?_ ?_
      · exact trivial
      refine AW.callVI (d' := 0) [.inl (nI k)] [] ⟨_, rfl⟩ f_6_isBottle v_6_isBottle l_6_105 ⟨rfl, by decide⟩ rfl (Nat.le_of_ble_eq_true rfl) rfl (Nat.le_of_ble_eq_true rfl) (c6_isBottle1 (Sn F.1) σ e7 hn8 k hk) ?_
      rintro _ _ ⟨rfl, rfl⟩
      refine AW.run 4 [true] (16, [(0, .inr (.inr (5, 0, 0))), (1, .inl (nI k)), (2, .inl (nI v1))], [.inl 99, .inl 0, .inl (nI v1)], σ) [icP .ne (1 : Int32) 0] rfl ?_ ?_
      · exact allP1 (by decide : (¬ (1 : Int32) = 0))
      refine AW.callSI (d' := 0) [.inl (nI v1), .inl 0, .inl 99] [] ⟨_, rfl⟩ f_6_bound s_6_bound l_6_62 rfl (Nat.le_of_ble_eq_true rfl) rfl (Nat.le_of_ble_eq_true rfl) (c6_bound0 (nI v1) 0 99 nlv1 nmv1 σ) ?_
      rintro _ _ ⟨rfl, rfl⟩
      refine AW.run 5 [true] (33, [(4, .inl 0), (3, .inl 0), (0, .inr (.inr (5, 0, 0))), (1, .inl (nI k)), (2, .inl (nI v1))], [], σ) [icP .eq (0 : Int32) 0] rfl ?_ ?_
      · exact allP1 (by decide : ((0 : Int32) = 0))
      refine AW.pick [2, 3, 4, 0] (ls' := [(0, .inr (.inr (5, 0, 0))), (1, .inl (nI k)), (2, .inl (nI v1)), (4, .inl (nI 0))]) rfl ?_
      refine AW.loop (α := Unit) 33 31 (fun i _ => [(0, .inr (.inr (5, 0, 0))), (1, .inl (nI k)), (2, .inl (nI v1)), (4, .inl (nI i))]) (fun i _ τ => Fr P2 σ τ ∧ RepM (τ 5 0) F.1 ∧ fedN F.1 k v1 31 0 = fedN F.1 k v1 (31 - i) i) ?_ ?_ 31 0 () _ (by omega) ⟨fr_rfl, hR, rfl⟩
      · intro i _ τ hi hI hk9
        obtain ⟨hS1, hR1, hg⟩ := hI
        have hu : fedN F.1 k v1 (31 - i) i = if swtN k v1 i 31 0 F.1 = true then some i else fedN F.1 k v1 (31 - (i + 1)) (i + 1) := by
          obtain ⟨m, hm⟩ : ∃ m, 31 - i = m + 1 := ⟨30 - i, by omega⟩
          rw [hm, show 31 - (i + 1) = m by omega]; rfl
        refine AW.run 7 [false] (45, [(0, .inr (.inr (5, 0, 0))), (1, .inl (nI k)), (2, .inl (nI v1)), (4, .inl (nI i))], [.inl (nI i), .inl (nI v1), .inl (nI k), .inr (.inr (5, 0, 0))], τ) [¬ icP .gt (nI i) 30] rfl ?_ ?_
        · exact allP1 (nI_nlt (a := 30) (b := i) (by omega) (by omega))
        refine AW.callVI (d' := 5) [.inl (nI k), .inl (nI v1), .inl (nI i)] [] ⟨_, rfl⟩ f_6_isReadyFed v_6_isReadyFed l_6_237 ⟨rfl, by decide⟩ rfl (Nat.le_of_ble_eq_true rfl) rfl (Nat.le_of_ble_eq_true rfl) (c6_isReadyFed F.1 τ hR1 hO k v1 i hk (by omega) (by omega)) ?_
        rintro v9 τ130 ⟨f130, r130, hv9⟩
        rcases hv9 with ⟨rfl, hpp⟩ | ⟨rfl, hpp⟩
        · skip
          refine AW.run 2 [false] (53, [(0, .inr (.inr (5, 0, 0))), (1, .inl (nI k)), (2, .inl (nI v1)), (4, .inl (nI i))], [.inl (nI i)], τ130) [¬ icP .eq (1 : Int32) 0] rfl ?_ ?_
          · exact allP1 (by decide : ¬ ((1 : Int32) = 0))
          refine AW.reti ⟨_, rfl⟩ rfl ?_
          exact ⟨F, (by unfold feedForP; rw [botP_some hk hn8, maxP_e0 ev1 (by omega), hg, hu, if_pos hpp]; rfl), QD_fr hF (fr_trans hS1 f130) hD r130⟩
        · skip
          refine AW.run 3 [true] (33, [(4, .inl ((nI i) + 1)), (0, .inr (.inr (5, 0, 0))), (1, .inl (nI k)), (2, .inl (nI v1))], [], τ130) [icP .eq (0 : Int32) 0] rfl ?_ ?_
          · exact allP1 (by decide : ((0 : Int32) = 0))
          rw [nI_1 i]
          refine AW.pick [1, 2, 3, 0] (ls' := [(0, .inr (.inr (5, 0, 0))), (1, .inl (nI k)), (2, .inl (nI v1)), (4, .inl (nI (i + 1)))]) rfl ?_
          exact hk9 () τ130 ⟨(fr_trans hS1 f130), r130, by rw [hg, hu, if_neg (by rw [hpp]; decide)]⟩
      · intro _ τ hI
        obtain ⟨hS1, hR1, hg⟩ := hI
        refine AW.run 4 [true] (62, [(0, .inr (.inr (5, 0, 0))), (1, .inl (nI k)), (2, .inl (nI v1)), (4, .inl (nI 31))], [.inl (-9)], τ) [icP .gt (nI 31) 30] rfl ?_ ?_
        · exact allP1 (nI_lt (a := 30) (b := 31) (by decide) (by decide))
        refine AW.reti ⟨_, rfl⟩ rfl ?_
        exact ⟨F, (by unfold feedForP; rw [botP_some hk hn8, maxP_e0 ev1 (by omega), hg]; rfl), QD_fr hF hS1 hD hR1⟩
  · skip
    refine AW.run 2 [] (2, [(0, .inr (.inr (5, 0, 0))), (1, .inl b), (2, .inl v)], [.inl b, .inr (.inr (5, 0, 0))], σ) [] rfl ?_ ?_
    · exact trivial
    refine AW.callVI (d' := 0) [.inl b] [] ⟨_, rfl⟩ f_6_isBottle v_6_isBottle l_6_105 ⟨rfl, by decide⟩ rfl (Nat.le_of_ble_eq_true rfl) rfl (Nat.le_of_ble_eq_true rfl) (c6_isBottle0 (Sn F.1) σ e7 hn8 b hnok) ?_
    rintro _ _ ⟨rfl, rfl⟩
    refine AW.run 8 [false, false] (26, [(3, .inl (-1)), (0, .inr (.inr (5, 0, 0))), (1, .inl b), (2, .inl v)], [.inl (-1), .inr (.inr (5, 0, 0))], σ) [¬ icP .ne (0 : Int32) 0, ¬ icP .eq ((-1) : Int32) 0] rfl ?_ ?_
    · exact ⟨(by decide : ¬ (¬ (0 : Int32) = 0)), allP1 (by decide : ¬ (((-1) : Int32) = 0))⟩
    refine AW.callVI (d' := 0) [.inl (-1)] [] ⟨_, rfl⟩ f_6_no v_6_no l_6_69 ⟨rfl, by decide⟩ rfl (Nat.le_of_ble_eq_true rfl) rfl (Nat.le_of_ble_eq_true rfl) (c6_no1 σ) ?_
    rintro _ _ ⟨rfl, rfl⟩
    refine AW.reti ⟨_, rfl⟩ rfl ?_
    exact ⟨rfuF F 1, (by unfold feedForP; rw [botP_none hnok]; try rfl), RepD_ref hF hD (by decide) (by decide)⟩
set_option maxHeartbeats 4000000 in
set_option maxRecDepth 100000 in
theorem d6_move (F : Gv) (σ : St) (hD : RepD σ F) (hG : GOK F) (n : Int32) : Ct M6_move 7 [.inr (.inr (5, 0, 0)), .inl n] σ (QD σ (moveP F n)) := by
  refine Ct.of f_6_move (Nat.le_of_ble_eq_true rfl) ?_
  show AW M6_move 7 _ (0, [(0, .inr (.inr (5, 0, 0))), (1, .inl n)], [], σ)
  have hF : FOK F := hG.1
  have hR : RepM (σ 5 0) F.1 := hD.1
  have hO : SOK F.1 := hF.1.1
  have hn8 : Sn F.1 ≤ 8 := hO.1
  have e7 := hR.1.1
  rcases fMax_or 60 (by decide) n with ⟨h4n1, en1⟩ | ⟨h4n1, h6n1, en1⟩ | ⟨n1, hn1, rfl, en1⟩
  · skip
    refine AW.run 1 [] (1, [(0, .inr (.inr (5, 0, 0))), (1, .inl n)], [.inl n], σ) [] rfl ?_ ?_
    · exact trivial
    refine AW.callSI (d' := 1) [.inl n] [] ⟨_, rfl⟩ f_6_notDays s_6_notDays l_6_209 rfl (Nat.le_of_ble_eq_true rfl) rfl (Nat.le_of_ble_eq_true rfl) (c6_notDays4 n h4n1 σ) ?_
    rintro _ _ ⟨rfl, rfl⟩
    refine AW.run 5 [false] (11, [(2, .inl (-4)), (0, .inr (.inr (5, 0, 0))), (1, .inl n)], [.inl (-4), .inr (.inr (5, 0, 0))], σ) [¬ icP .eq ((-4) : Int32) 0] rfl ?_ ?_
    · exact allP1 (by decide : ¬ (((-4) : Int32) = 0))
    refine AW.callVI (d' := 0) [.inl (-4)] [] ⟨_, rfl⟩ f_6_no v_6_no l_6_69 ⟨rfl, by decide⟩ rfl (Nat.le_of_ble_eq_true rfl) rfl (Nat.le_of_ble_eq_true rfl) (c6_no4 σ) ?_
    rintro _ _ ⟨rfl, rfl⟩
    refine AW.reti ⟨_, rfl⟩ rfl ?_
    exact ⟨rfuF F 4, (by unfold moveP; rw [maxP_e4 en1]; try rfl), RepD_ref hF hD (by decide) (by decide)⟩
  · skip
    refine AW.run 1 [] (1, [(0, .inr (.inr (5, 0, 0))), (1, .inl n)], [.inl n], σ) [] rfl ?_ ?_
    · exact trivial
    refine AW.callSI (d' := 1) [.inl n] [] ⟨_, rfl⟩ f_6_notDays s_6_notDays l_6_209 rfl (Nat.le_of_ble_eq_true rfl) rfl (Nat.le_of_ble_eq_true rfl) (c6_notDays6 n h4n1 h6n1 σ) ?_
    rintro _ _ ⟨rfl, rfl⟩
    refine AW.run 5 [false] (11, [(2, .inl (-6)), (0, .inr (.inr (5, 0, 0))), (1, .inl n)], [.inl (-6), .inr (.inr (5, 0, 0))], σ) [¬ icP .eq ((-6) : Int32) 0] rfl ?_ ?_
    · exact allP1 (by decide : ¬ (((-6) : Int32) = 0))
    refine AW.callVI (d' := 0) [.inl (-6)] [] ⟨_, rfl⟩ f_6_no v_6_no l_6_69 ⟨rfl, by decide⟩ rfl (Nat.le_of_ble_eq_true rfl) rfl (Nat.le_of_ble_eq_true rfl) (c6_no6 σ) ?_
    rintro _ _ ⟨rfl, rfl⟩
    refine AW.reti ⟨_, rfl⟩ rfl ?_
    exact ⟨rfuF F 6, (by unfold moveP; rw [maxP_e6 en1]; try rfl), RepD_ref hF hD (by decide) (by decide)⟩
  · skip
    have nln1 : ¬ nI n1 < 0 := nlt0 (by omega)
    have nmn1 : ¬ nI 60 < nI n1 := nI_nlt hn1 (by decide)
    refine AW.run 1 [] (1, [(0, .inr (.inr (5, 0, 0))), (1, .inl (nI n1))], [.inl (nI n1)], σ) [] rfl ?_ ?_
    · exact trivial
    refine AW.callSI (d' := 1) [.inl (nI n1)] [] ⟨_, rfl⟩ f_6_notDays s_6_notDays l_6_209 rfl (Nat.le_of_ble_eq_true rfl) rfl (Nat.le_of_ble_eq_true rfl) (c6_notDays0 (nI n1) nln1 nmn1 σ) ?_
    rintro _ _ ⟨rfl, rfl⟩
    refine AW.run 7 [true] (20, [(3, .inl (-9)), (2, .inl 0), (0, .inr (.inr (5, 0, 0))), (1, .inl (nI n1))], [.inl (nI n1), .inr (.inr (5, 0, 0))], σ) [icP .eq (0 : Int32) 0] rfl ?_ ?_
    · exact allP1 (by decide : ((0 : Int32) = 0))
    refine AW.callVI (d' := 6) [.inl (nI n1)] [] ⟨_, rfl⟩ f_6_leftIn v_6_leftIn l_6_228 ⟨rfl, by decide⟩ rfl (Nat.le_of_ble_eq_true rfl) rfl (Nat.le_of_ble_eq_true rfl) (c6_leftIn F.1 σ hR hO n1 (by omega)) ?_
    rintro _ τ131 ⟨rfl, f131, r131⟩
    refine AW.run 3 [] (28, [(5, .inl 0), (4, .inl (nI (leftS F.1 n1))), (3, .inl (-9)), (2, .inl 0), (0, .inr (.inr (5, 0, 0))), (1, .inl (nI n1))], [], τ131) [] rfl ?_ ?_
    · exact trivial
    refine AW.pick [4, 5, 2, 1, 0] (ls' := [(0, .inr (.inr (5, 0, 0))), (1, .inl (nI n1)), (3, .inl (optI (chgO F.1 n1 0).1)), (4, .inl (optI (chgO F.1 n1 0).2)), (5, .inl (nI 0))]) rfl ?_
    refine AW.loop (α := Unit) 28 (Sn F.1) (fun a _ => [(0, .inr (.inr (5, 0, 0))), (1, .inl (nI n1)), (3, .inl (optI (chgO F.1 n1 a).1)), (4, .inl (optI (chgO F.1 n1 a).2)), (5, .inl (nI a))]) (fun a _ τ => Fr P2 σ τ ∧ RepM (τ 5 0) F.1) ?_ ?_ (Sn F.1) 0 () _ (by omega) ⟨(fr_trans fr_rfl f131), r131⟩
    · intro a _ τ ha hI hk
      obtain ⟨hS1, hR1⟩ := hI
      have ha8 : a < 8 := by omega
      have e7t := hR1.1.1
      refine AW.run 3 [] (34, [(0, .inr (.inr (5, 0, 0))), (1, .inl (nI n1)), (3, .inl (optI (chgO F.1 n1 a).1)), (4, .inl (optI (chgO F.1 n1 a).2)), (5, .inl (nI a))], [.inl (τ 5 0 0 7), .inl (nI a)], τ) [] rfl ?_ ?_
      · exact trivial
      rw [e7t]
      refine AW.run 4 [false] (41, [(0, .inr (.inr (5, 0, 0))), (1, .inl (nI n1)), (3, .inl (optI (chgO F.1 n1 a).1)), (4, .inl (optI (chgO F.1 n1 a).2)), (5, .inl (nI a))], [.inl ((nI a) + 1)], τ) [¬ icP .ge (nI a) (nI (Sn F.1))] rfl ?_ ?_
      · exact allP1 (nI_ge ha (by omega))
      rw [nI_1 a]
      refine AW.run 1 [] (43, [(6, .inl (nI (a + 1))), (0, .inr (.inr (5, 0, 0))), (1, .inl (nI n1)), (3, .inl (optI (chgO F.1 n1 a).1)), (4, .inl (optI (chgO F.1 n1 a).2)), (5, .inl (nI a))], [], τ) [] rfl ?_ ?_
      · exact trivial
      refine AW.pick [1, 2, 3, 4, 5, 0] (ls' := [(0, .inr (.inr (5, 0, 0))), (1, .inl (nI n1)), (3, .inl (optI (chgJ F.1 n1 a (chgO F.1 n1 a) 0).1)), (4, .inl (optI (chgJ F.1 n1 a (chgO F.1 n1 a) 0).2)), (5, .inl (nI a)), (6, .inl (nI (a + 1 + 0)))]) rfl ?_
      refine AW.loop (α := Unit) 43 (Sn F.1 - (a + 1)) (fun k _ => [(0, .inr (.inr (5, 0, 0))), (1, .inl (nI n1)), (3, .inl (optI (chgJ F.1 n1 a (chgO F.1 n1 a) k).1)), (4, .inl (optI (chgJ F.1 n1 a (chgO F.1 n1 a) k).2)), (5, .inl (nI a)), (6, .inl (nI (a + 1 + k)))]) (fun k _ υ => Fr P2 σ υ ∧ RepM (υ 5 0) F.1) ?_ ?_ (Sn F.1 - (a + 1)) 0 () _ (by omega) ⟨hS1, hR1⟩
      · intro k _ υ hk9 hI hkk
        obtain ⟨hS2, hR2⟩ := hI
        have hbn : a + 1 + k < Sn F.1 := by omega
        have e7u := hR2.1.1
        have ho8 := chgJ_le (S := F.1) (n := n1) (i := a) (st := chgO F.1 n1 a) (chgO_le a) k
        have hv8 := leftS_le (mvS F.1 a (a + 1 + k)) n1
        have hu : (chgJ F.1 n1 a (chgO F.1 n1 a) (k + 1)) = upA (chgJ F.1 n1 a (chgO F.1 n1 a) k) (10 * a + (a + 1 + k)) (chgF F.1 n1 a (a + 1 + k)) := rfl
        cases hw1 : Sw F.1 a
        · have hst : (chgJ F.1 n1 a (chgO F.1 n1 a) (k + 1)) = (chgJ F.1 n1 a (chgO F.1 n1 a) k) := by rw [hu, show chgF F.1 n1 a (a + 1 + k) = none from if_neg (fun q => by rw [hw1] at q; cases q.1)]; rfl
          refine AW.run 3 [] (49, [(0, .inr (.inr (5, 0, 0))), (1, .inl (nI n1)), (3, .inl (optI (chgJ F.1 n1 a (chgO F.1 n1 a) k).1)), (4, .inl (optI (chgJ F.1 n1 a (chgO F.1 n1 a) k).2)), (5, .inl (nI a)), (6, .inl (nI (a + 1 + k)))], [.inl (υ 5 0 0 7), .inl (nI (a + 1 + k))], υ) [] rfl ?_ ?_
          · exact trivial
          rw [e7u]
          refine AW.run 3 [false] (55, [(0, .inr (.inr (5, 0, 0))), (1, .inl (nI n1)), (3, .inl (optI (chgJ F.1 n1 a (chgO F.1 n1 a) k).1)), (4, .inl (optI (chgJ F.1 n1 a (chgO F.1 n1 a) k).2)), (5, .inl (nI a)), (6, .inl (nI (a + 1 + k)))], [.inl (nI a), .inr (.inr (5, 0, 0))], υ) [¬ icP .ge (nI (a + 1 + k)) (nI (Sn F.1))] rfl ?_ ?_
          · exact allP1 (nI_ge (by omega) (by omega))
          refine AW.callVI (d' := 0) [.inl (nI a)] [] ⟨_, rfl⟩ f_6_isWhole v_6_isWhole l_6_108 ⟨rfl, by decide⟩ rfl (Nat.le_of_ble_eq_true rfl) rfl (Nat.le_of_ble_eq_true rfl) (c6_isWhole F.1 υ hR2 hO.1 a ha) ?_
          rintro v _ ⟨rfl, hv⟩
          obtain rfl : v = 0 := by
            rcases hv with h | h
            · exact absurd (hw1.symm.trans h.2) (by decide)
            · exact h.1
          refine AW.run 3 [true] (43, [(6, .inl ((nI (a + 1 + k)) + 1)), (0, .inr (.inr (5, 0, 0))), (1, .inl (nI n1)), (3, .inl (optI (chgJ F.1 n1 a (chgO F.1 n1 a) k).1)), (4, .inl (optI (chgJ F.1 n1 a (chgO F.1 n1 a) k).2)), (5, .inl (nI a))], [], υ) [icP .eq (0 : Int32) 0] rfl ?_ ?_
          · exact allP1 (by decide : ((0 : Int32) = 0))
          rw [nI_1 (a + 1 + k)]
          refine AW.pick [1, 2, 3, 4, 5, 0] (ls' := [(0, .inr (.inr (5, 0, 0))), (1, .inl (nI n1)), (3, .inl (optI (chgJ F.1 n1 a (chgO F.1 n1 a) k).1)), (4, .inl (optI (chgJ F.1 n1 a (chgO F.1 n1 a) k).2)), (5, .inl (nI a)), (6, .inl (nI (a + 1 + (k + 1))))]) rfl ?_
          have hk2 := hkk () υ ⟨hS2, hR2⟩
          rw [hst] at hk2
          exact hk2
        cases hw2 : Sw F.1 (a + 1 + k)
        · have hst : (chgJ F.1 n1 a (chgO F.1 n1 a) (k + 1)) = (chgJ F.1 n1 a (chgO F.1 n1 a) k) := by rw [hu, show chgF F.1 n1 a (a + 1 + k) = none from if_neg (fun q => by rw [hw2] at q; cases q.2)]; rfl
          refine AW.run 3 [] (49, [(0, .inr (.inr (5, 0, 0))), (1, .inl (nI n1)), (3, .inl (optI (chgJ F.1 n1 a (chgO F.1 n1 a) k).1)), (4, .inl (optI (chgJ F.1 n1 a (chgO F.1 n1 a) k).2)), (5, .inl (nI a)), (6, .inl (nI (a + 1 + k)))], [.inl (υ 5 0 0 7), .inl (nI (a + 1 + k))], υ) [] rfl ?_ ?_
          · exact trivial
          rw [e7u]
          refine AW.run 3 [false] (55, [(0, .inr (.inr (5, 0, 0))), (1, .inl (nI n1)), (3, .inl (optI (chgJ F.1 n1 a (chgO F.1 n1 a) k).1)), (4, .inl (optI (chgJ F.1 n1 a (chgO F.1 n1 a) k).2)), (5, .inl (nI a)), (6, .inl (nI (a + 1 + k)))], [.inl (nI a), .inr (.inr (5, 0, 0))], υ) [¬ icP .ge (nI (a + 1 + k)) (nI (Sn F.1))] rfl ?_ ?_
          · exact allP1 (nI_ge (by omega) (by omega))
          refine AW.callVI (d' := 0) [.inl (nI a)] [] ⟨_, rfl⟩ f_6_isWhole v_6_isWhole l_6_108 ⟨rfl, by decide⟩ rfl (Nat.le_of_ble_eq_true rfl) rfl (Nat.le_of_ble_eq_true rfl) (c6_isWhole F.1 υ hR2 hO.1 a ha) ?_
          rintro v _ ⟨rfl, hv⟩
          obtain rfl : v = 1 := by
            rcases hv with h | h
            · exact h.1
            · exact absurd (hw1.symm.trans h.2) (by decide)
          refine AW.run 3 [false] (64, [(0, .inr (.inr (5, 0, 0))), (1, .inl (nI n1)), (3, .inl (optI (chgJ F.1 n1 a (chgO F.1 n1 a) k).1)), (4, .inl (optI (chgJ F.1 n1 a (chgO F.1 n1 a) k).2)), (5, .inl (nI a)), (6, .inl (nI (a + 1 + k)))], [.inl (nI (a + 1 + k)), .inr (.inr (5, 0, 0))], υ) [¬ icP .eq (1 : Int32) 0] rfl ?_ ?_
          · exact allP1 (by decide : ¬ ((1 : Int32) = 0))
          refine AW.callVI (d' := 0) [.inl (nI (a + 1 + k))] [] ⟨_, rfl⟩ f_6_isWhole v_6_isWhole l_6_108 ⟨rfl, by decide⟩ rfl (Nat.le_of_ble_eq_true rfl) rfl (Nat.le_of_ble_eq_true rfl) (c6_isWhole F.1 υ hR2 hO.1 (a + 1 + k) hbn) ?_
          rintro v _ ⟨rfl, hv⟩
          obtain rfl : v = 0 := by
            rcases hv with h | h
            · exact absurd (hw2.symm.trans h.2) (by decide)
            · exact h.1
          refine AW.run 4 [false] (43, [(6, .inl ((nI (a + 1 + k)) + 1)), (0, .inr (.inr (5, 0, 0))), (1, .inl (nI n1)), (3, .inl (optI (chgJ F.1 n1 a (chgO F.1 n1 a) k).1)), (4, .inl (optI (chgJ F.1 n1 a (chgO F.1 n1 a) k).2)), (5, .inl (nI a))], [], υ) [¬ icP .ne (0 : Int32) 0] rfl ?_ ?_
          · exact allP1 (by decide : ¬ (¬ (0 : Int32) = 0))
          rw [nI_1 (a + 1 + k)]
          refine AW.pick [1, 2, 3, 4, 5, 0] (ls' := [(0, .inr (.inr (5, 0, 0))), (1, .inl (nI n1)), (3, .inl (optI (chgJ F.1 n1 a (chgO F.1 n1 a) k).1)), (4, .inl (optI (chgJ F.1 n1 a (chgO F.1 n1 a) k).2)), (5, .inl (nI a)), (6, .inl (nI (a + 1 + (k + 1))))]) rfl ?_
          have hk2 := hkk () υ ⟨hS2, hR2⟩
          rw [hst] at hk2
          exact hk2
        by_cases hc : above (chgJ F.1 n1 a (chgO F.1 n1 a) k).2 (leftS (mvS F.1 a (a + 1 + k)) n1) = true
        · have hst : (chgJ F.1 n1 a (chgO F.1 n1 a) (k + 1)) = (some (10 * a + (a + 1 + k)), some (leftS (mvS F.1 a (a + 1 + k)) n1)) := by rw [hu, chg_some hw1 hw2]; exact upA_y hc
          refine AW.run 3 [] (49, [(0, .inr (.inr (5, 0, 0))), (1, .inl (nI n1)), (3, .inl (optI (chgJ F.1 n1 a (chgO F.1 n1 a) k).1)), (4, .inl (optI (chgJ F.1 n1 a (chgO F.1 n1 a) k).2)), (5, .inl (nI a)), (6, .inl (nI (a + 1 + k)))], [.inl (υ 5 0 0 7), .inl (nI (a + 1 + k))], υ) [] rfl ?_ ?_
          · exact trivial
          rw [e7u]
          refine AW.run 3 [false] (55, [(0, .inr (.inr (5, 0, 0))), (1, .inl (nI n1)), (3, .inl (optI (chgJ F.1 n1 a (chgO F.1 n1 a) k).1)), (4, .inl (optI (chgJ F.1 n1 a (chgO F.1 n1 a) k).2)), (5, .inl (nI a)), (6, .inl (nI (a + 1 + k)))], [.inl (nI a), .inr (.inr (5, 0, 0))], υ) [¬ icP .ge (nI (a + 1 + k)) (nI (Sn F.1))] rfl ?_ ?_
          · exact allP1 (nI_ge (by omega) (by omega))
          refine AW.callVI (d' := 0) [.inl (nI a)] [] ⟨_, rfl⟩ f_6_isWhole v_6_isWhole l_6_108 ⟨rfl, by decide⟩ rfl (Nat.le_of_ble_eq_true rfl) rfl (Nat.le_of_ble_eq_true rfl) (c6_isWhole F.1 υ hR2 hO.1 a ha) ?_
          rintro v _ ⟨rfl, hv⟩
          obtain rfl : v = 1 := by
            rcases hv with h | h
            · exact h.1
            · exact absurd (hw1.symm.trans h.2) (by decide)
          refine AW.run 3 [false] (64, [(0, .inr (.inr (5, 0, 0))), (1, .inl (nI n1)), (3, .inl (optI (chgJ F.1 n1 a (chgO F.1 n1 a) k).1)), (4, .inl (optI (chgJ F.1 n1 a (chgO F.1 n1 a) k).2)), (5, .inl (nI a)), (6, .inl (nI (a + 1 + k)))], [.inl (nI (a + 1 + k)), .inr (.inr (5, 0, 0))], υ) [¬ icP .eq (1 : Int32) 0] rfl ?_ ?_
          · exact allP1 (by decide : ¬ ((1 : Int32) = 0))
          refine AW.callVI (d' := 0) [.inl (nI (a + 1 + k))] [] ⟨_, rfl⟩ f_6_isWhole v_6_isWhole l_6_108 ⟨rfl, by decide⟩ rfl (Nat.le_of_ble_eq_true rfl) rfl (Nat.le_of_ble_eq_true rfl) (c6_isWhole F.1 υ hR2 hO.1 (a + 1 + k) hbn) ?_
          rintro v _ ⟨rfl, hv⟩
          obtain rfl : v = 1 := by
            rcases hv with h | h
            · exact h.1
            · exact absurd (hw2.symm.trans h.2) (by decide)
          refine AW.run 4 [true] (78, [(0, .inr (.inr (5, 0, 0))), (1, .inl (nI n1)), (3, .inl (optI (chgJ F.1 n1 a (chgO F.1 n1 a) k).1)), (4, .inl (optI (chgJ F.1 n1 a (chgO F.1 n1 a) k).2)), (5, .inl (nI a)), (6, .inl (nI (a + 1 + k)))], [.inl (nI (a + 1 + k)), .inl (nI a), .inr (.inr (5, 0, 0))], υ) [icP .ne (1 : Int32) 0] rfl ?_ ?_
          · exact allP1 (by decide : (¬ (1 : Int32) = 0))
          refine AW.callVV (d' := 0) [.inl (nI a), .inl (nI (a + 1 + k))] [] ⟨_, rfl⟩ f_6_movesTwo v_6_movesTwo l_6_240 ⟨rfl, by decide⟩ rfl (Nat.le_of_ble_eq_true rfl) rfl (Nat.le_of_ble_eq_true rfl) (c6_movesTwo F.1 υ hR2 hO a (a + 1 + k) ha hbn) ?_
          rintro τ132 ⟨f132, r132⟩
          refine AW.run 2 [] (83, [(0, .inr (.inr (5, 0, 0))), (1, .inl (nI n1)), (3, .inl (optI (chgJ F.1 n1 a (chgO F.1 n1 a) k).1)), (4, .inl (optI (chgJ F.1 n1 a (chgO F.1 n1 a) k).2)), (5, .inl (nI a)), (6, .inl (nI (a + 1 + k)))], [.inl (nI n1), .inr (.inr (5, 0, 0))], τ132) [] rfl ?_ ?_
          · exact trivial
          refine AW.callVI (d' := 6) [.inl (nI n1)] [] ⟨_, rfl⟩ f_6_leftIn v_6_leftIn l_6_228 ⟨rfl, by decide⟩ rfl (Nat.le_of_ble_eq_true rfl) rfl (Nat.le_of_ble_eq_true rfl) (c6_leftIn (mvS F.1 a (a + 1 + k)) τ132 r132 (SOK_mv hO ha hbn) n1 (by omega)) ?_
          rintro _ τ133 ⟨rfl, f133, r133⟩
          refine AW.run 4 [] (93, [(7, .inl (nI (leftS (mvS F.1 a (a + 1 + k)) n1))), (0, .inr (.inr (5, 0, 0))), (1, .inl (nI n1)), (3, .inl (optI (chgJ F.1 n1 a (chgO F.1 n1 a) k).1)), (4, .inl (optI (chgJ F.1 n1 a (chgO F.1 n1 a) k).2)), (5, .inl (nI a)), (6, .inl (nI (a + 1 + k)))], [.inl (nI (a + 1 + k)), .inl (nI a), .inr (.inr (5, 0, 0))], τ133) [] rfl ?_ ?_
          · exact trivial
          refine AW.callVV (d' := 0) [.inl (nI a), .inl (nI (a + 1 + k))] [] ⟨_, rfl⟩ f_6_movesTwo v_6_movesTwo l_6_240 ⟨rfl, by decide⟩ rfl (Nat.le_of_ble_eq_true rfl) rfl (Nat.le_of_ble_eq_true rfl) (c6_movesTwo (mvS F.1 a (a + 1 + k)) τ133 r133 (SOK_mv hO ha hbn) a (a + 1 + k) ha hbn) ?_
          rintro τ134 ⟨f134, q134⟩
          have r134 : RepM (τ134 5 0) F.1 := by
            have q9 : RepM (τ134 5 0) (mvS (mvS F.1 a (a + 1 + k)) a (a + 1 + k)) := q134
            rw [mv_back (by omega)] at q9; exact q9
          refine AW.run 6 [true] (111, [(7, .inl (nI (leftS (mvS F.1 a (a + 1 + k)) n1))), (0, .inr (.inr (5, 0, 0))), (1, .inl (nI n1)), (3, .inl (optI (chgJ F.1 n1 a (chgO F.1 n1 a) k).1)), (4, .inl (optI (chgJ F.1 n1 a (chgO F.1 n1 a) k).2)), (5, .inl (nI a)), (6, .inl (nI (a + 1 + k)))], [.inl (10 * (nI a))], τ134) [icP .gt (nI (leftS (mvS F.1 a (a + 1 + k)) n1)) (optI (chgJ F.1 n1 a (chgO F.1 n1 a) k).2)] rfl ?_ ?_
          · exact allP1 (gt_yes hv8 ho8 hc)
          rw [show (10 : Int32) * nI a = nI (10 * a) from (Int32.ofNat_mul 10 a).symm]
          refine AW.run 2 [] (114, [(7, .inl (nI (leftS (mvS F.1 a (a + 1 + k)) n1))), (0, .inr (.inr (5, 0, 0))), (1, .inl (nI n1)), (3, .inl (optI (chgJ F.1 n1 a (chgO F.1 n1 a) k).1)), (4, .inl (optI (chgJ F.1 n1 a (chgO F.1 n1 a) k).2)), (5, .inl (nI a)), (6, .inl (nI (a + 1 + k)))], [.inl ((nI (10 * a)) + (nI (a + 1 + k)))], τ134) [] rfl ?_ ?_
          · exact trivial
          rw [nI_add]
          refine AW.run 5 [] (43, [(6, .inl ((nI (a + 1 + k)) + 1)), (4, .inl (nI (leftS (mvS F.1 a (a + 1 + k)) n1))), (3, .inl (nI (10 * a + (a + 1 + k)))), (7, .inl (nI (leftS (mvS F.1 a (a + 1 + k)) n1))), (0, .inr (.inr (5, 0, 0))), (1, .inl (nI n1)), (5, .inl (nI a))], [], τ134) [] rfl ?_ ?_
          · exact trivial
          rw [nI_1 (a + 1 + k)]
          refine AW.pick [4, 5, 2, 1, 6, 0] (ls' := [(0, .inr (.inr (5, 0, 0))), (1, .inl (nI n1)), (3, .inl (nI (10 * a + (a + 1 + k)))), (4, .inl (nI (leftS (mvS F.1 a (a + 1 + k)) n1))), (5, .inl (nI a)), (6, .inl (nI (a + 1 + (k + 1))))]) rfl ?_
          have hk2 := hkk () τ134 ⟨(fr_trans (fr_trans (fr_trans hS2 (fr_12 f132)) f133) (fr_12 f134)), r134⟩
          rw [hst] at hk2
          exact hk2
        · have hst : (chgJ F.1 n1 a (chgO F.1 n1 a) (k + 1)) = (chgJ F.1 n1 a (chgO F.1 n1 a) k) := by rw [hu, chg_some hw1 hw2]; exact upA_s hc
          refine AW.run 3 [] (49, [(0, .inr (.inr (5, 0, 0))), (1, .inl (nI n1)), (3, .inl (optI (chgJ F.1 n1 a (chgO F.1 n1 a) k).1)), (4, .inl (optI (chgJ F.1 n1 a (chgO F.1 n1 a) k).2)), (5, .inl (nI a)), (6, .inl (nI (a + 1 + k)))], [.inl (υ 5 0 0 7), .inl (nI (a + 1 + k))], υ) [] rfl ?_ ?_
          · exact trivial
          rw [e7u]
          refine AW.run 3 [false] (55, [(0, .inr (.inr (5, 0, 0))), (1, .inl (nI n1)), (3, .inl (optI (chgJ F.1 n1 a (chgO F.1 n1 a) k).1)), (4, .inl (optI (chgJ F.1 n1 a (chgO F.1 n1 a) k).2)), (5, .inl (nI a)), (6, .inl (nI (a + 1 + k)))], [.inl (nI a), .inr (.inr (5, 0, 0))], υ) [¬ icP .ge (nI (a + 1 + k)) (nI (Sn F.1))] rfl ?_ ?_
          · exact allP1 (nI_ge (by omega) (by omega))
          refine AW.callVI (d' := 0) [.inl (nI a)] [] ⟨_, rfl⟩ f_6_isWhole v_6_isWhole l_6_108 ⟨rfl, by decide⟩ rfl (Nat.le_of_ble_eq_true rfl) rfl (Nat.le_of_ble_eq_true rfl) (c6_isWhole F.1 υ hR2 hO.1 a ha) ?_
          rintro v _ ⟨rfl, hv⟩
          obtain rfl : v = 1 := by
            rcases hv with h | h
            · exact h.1
            · exact absurd (hw1.symm.trans h.2) (by decide)
          refine AW.run 3 [false] (64, [(0, .inr (.inr (5, 0, 0))), (1, .inl (nI n1)), (3, .inl (optI (chgJ F.1 n1 a (chgO F.1 n1 a) k).1)), (4, .inl (optI (chgJ F.1 n1 a (chgO F.1 n1 a) k).2)), (5, .inl (nI a)), (6, .inl (nI (a + 1 + k)))], [.inl (nI (a + 1 + k)), .inr (.inr (5, 0, 0))], υ) [¬ icP .eq (1 : Int32) 0] rfl ?_ ?_
          · exact allP1 (by decide : ¬ ((1 : Int32) = 0))
          refine AW.callVI (d' := 0) [.inl (nI (a + 1 + k))] [] ⟨_, rfl⟩ f_6_isWhole v_6_isWhole l_6_108 ⟨rfl, by decide⟩ rfl (Nat.le_of_ble_eq_true rfl) rfl (Nat.le_of_ble_eq_true rfl) (c6_isWhole F.1 υ hR2 hO.1 (a + 1 + k) hbn) ?_
          rintro v _ ⟨rfl, hv⟩
          obtain rfl : v = 1 := by
            rcases hv with h | h
            · exact h.1
            · exact absurd (hw2.symm.trans h.2) (by decide)
          refine AW.run 4 [true] (78, [(0, .inr (.inr (5, 0, 0))), (1, .inl (nI n1)), (3, .inl (optI (chgJ F.1 n1 a (chgO F.1 n1 a) k).1)), (4, .inl (optI (chgJ F.1 n1 a (chgO F.1 n1 a) k).2)), (5, .inl (nI a)), (6, .inl (nI (a + 1 + k)))], [.inl (nI (a + 1 + k)), .inl (nI a), .inr (.inr (5, 0, 0))], υ) [icP .ne (1 : Int32) 0] rfl ?_ ?_
          · exact allP1 (by decide : (¬ (1 : Int32) = 0))
          refine AW.callVV (d' := 0) [.inl (nI a), .inl (nI (a + 1 + k))] [] ⟨_, rfl⟩ f_6_movesTwo v_6_movesTwo l_6_240 ⟨rfl, by decide⟩ rfl (Nat.le_of_ble_eq_true rfl) rfl (Nat.le_of_ble_eq_true rfl) (c6_movesTwo F.1 υ hR2 hO a (a + 1 + k) ha hbn) ?_
          rintro τ135 ⟨f135, r135⟩
          refine AW.run 2 [] (83, [(0, .inr (.inr (5, 0, 0))), (1, .inl (nI n1)), (3, .inl (optI (chgJ F.1 n1 a (chgO F.1 n1 a) k).1)), (4, .inl (optI (chgJ F.1 n1 a (chgO F.1 n1 a) k).2)), (5, .inl (nI a)), (6, .inl (nI (a + 1 + k)))], [.inl (nI n1), .inr (.inr (5, 0, 0))], τ135) [] rfl ?_ ?_
          · exact trivial
          refine AW.callVI (d' := 6) [.inl (nI n1)] [] ⟨_, rfl⟩ f_6_leftIn v_6_leftIn l_6_228 ⟨rfl, by decide⟩ rfl (Nat.le_of_ble_eq_true rfl) rfl (Nat.le_of_ble_eq_true rfl) (c6_leftIn (mvS F.1 a (a + 1 + k)) τ135 r135 (SOK_mv hO ha hbn) n1 (by omega)) ?_
          rintro _ τ136 ⟨rfl, f136, r136⟩
          refine AW.run 4 [] (93, [(7, .inl (nI (leftS (mvS F.1 a (a + 1 + k)) n1))), (0, .inr (.inr (5, 0, 0))), (1, .inl (nI n1)), (3, .inl (optI (chgJ F.1 n1 a (chgO F.1 n1 a) k).1)), (4, .inl (optI (chgJ F.1 n1 a (chgO F.1 n1 a) k).2)), (5, .inl (nI a)), (6, .inl (nI (a + 1 + k)))], [.inl (nI (a + 1 + k)), .inl (nI a), .inr (.inr (5, 0, 0))], τ136) [] rfl ?_ ?_
          · exact trivial
          refine AW.callVV (d' := 0) [.inl (nI a), .inl (nI (a + 1 + k))] [] ⟨_, rfl⟩ f_6_movesTwo v_6_movesTwo l_6_240 ⟨rfl, by decide⟩ rfl (Nat.le_of_ble_eq_true rfl) rfl (Nat.le_of_ble_eq_true rfl) (c6_movesTwo (mvS F.1 a (a + 1 + k)) τ136 r136 (SOK_mv hO ha hbn) a (a + 1 + k) ha hbn) ?_
          rintro τ137 ⟨f137, q137⟩
          have r137 : RepM (τ137 5 0) F.1 := by
            have q9 : RepM (τ137 5 0) (mvS (mvS F.1 a (a + 1 + k)) a (a + 1 + k)) := q137
            rw [mv_back (by omega)] at q9; exact q9
          refine AW.run 6 [false] (43, [(6, .inl ((nI (a + 1 + k)) + 1)), (7, .inl (nI (leftS (mvS F.1 a (a + 1 + k)) n1))), (0, .inr (.inr (5, 0, 0))), (1, .inl (nI n1)), (3, .inl (optI (chgJ F.1 n1 a (chgO F.1 n1 a) k).1)), (4, .inl (optI (chgJ F.1 n1 a (chgO F.1 n1 a) k).2)), (5, .inl (nI a))], [], τ137) [¬ icP .gt (nI (leftS (mvS F.1 a (a + 1 + k)) n1)) (optI (chgJ F.1 n1 a (chgO F.1 n1 a) k).2)] rfl ?_ ?_
          · exact allP1 (gt_no hv8 ho8 hc)
          rw [nI_1 (a + 1 + k)]
          refine AW.pick [2, 3, 4, 5, 6, 0] (ls' := [(0, .inr (.inr (5, 0, 0))), (1, .inl (nI n1)), (3, .inl (optI (chgJ F.1 n1 a (chgO F.1 n1 a) k).1)), (4, .inl (optI (chgJ F.1 n1 a (chgO F.1 n1 a) k).2)), (5, .inl (nI a)), (6, .inl (nI (a + 1 + (k + 1))))]) rfl ?_
          have hk2 := hkk () τ137 ⟨(fr_trans (fr_trans (fr_trans hS2 (fr_12 f135)) f136) (fr_12 f137)), r137⟩
          rw [hst] at hk2
          exact hk2
      · intro _ υ hI
        obtain ⟨hS2, hR2⟩ := hI
        have e7u := hR2.1.1
        have hst : (chgO F.1 n1 (a + 1)) = (chgJ F.1 n1 a (chgO F.1 n1 a) (Sn F.1 - (a + 1))) := by show chgJ F.1 n1 a (chgO F.1 n1 a) (7 - a) = _; exact chgJ_out hO _ (by omega)
        refine AW.run 3 [] (49, [(0, .inr (.inr (5, 0, 0))), (1, .inl (nI n1)), (3, .inl (optI (chgJ F.1 n1 a (chgO F.1 n1 a) (Sn F.1 - (a + 1))).1)), (4, .inl (optI (chgJ F.1 n1 a (chgO F.1 n1 a) (Sn F.1 - (a + 1))).2)), (5, .inl (nI a)), (6, .inl (nI (a + 1 + (Sn F.1 - (a + 1)))))], [.inl (υ 5 0 0 7), .inl (nI (a + 1 + (Sn F.1 - (a + 1))))], υ) [] rfl ?_ ?_
        · exact trivial
        rw [e7u]
        refine AW.run 3 [true] (28, [(5, .inl ((nI a) + 1)), (0, .inr (.inr (5, 0, 0))), (1, .inl (nI n1)), (3, .inl (optI (chgJ F.1 n1 a (chgO F.1 n1 a) (Sn F.1 - (a + 1))).1)), (4, .inl (optI (chgJ F.1 n1 a (chgO F.1 n1 a) (Sn F.1 - (a + 1))).2)), (6, .inl (nI (a + 1 + (Sn F.1 - (a + 1)))))], [], υ) [icP .ge (nI (a + 1 + (Sn F.1 - (a + 1)))) (nI (Sn F.1))] rfl ?_ ?_
        · exact allP1 (nI_le (by omega) (by omega))
        rw [nI_1 a]
        refine AW.pick [1, 2, 3, 4, 0] (ls' := [(0, .inr (.inr (5, 0, 0))), (1, .inl (nI n1)), (3, .inl (optI (chgJ F.1 n1 a (chgO F.1 n1 a) (Sn F.1 - (a + 1))).1)), (4, .inl (optI (chgJ F.1 n1 a (chgO F.1 n1 a) (Sn F.1 - (a + 1))).2)), (5, .inl (nI (a + 1)))]) rfl ?_
        have hk2 := hk () υ ⟨hS2, hR2⟩
        rw [hst] at hk2
        exact hk2
    · intro _ τ hI
      obtain ⟨hS1, hR1⟩ := hI
      have e7t := hR1.1.1
      refine AW.run 3 [] (34, [(0, .inr (.inr (5, 0, 0))), (1, .inl (nI n1)), (3, .inl (optI (chgO F.1 n1 (Sn F.1)).1)), (4, .inl (optI (chgO F.1 n1 (Sn F.1)).2)), (5, .inl (nI (Sn F.1)))], [.inl (τ 5 0 0 7), .inl (nI (Sn F.1))], τ) [] rfl ?_ ?_
      · exact trivial
      rw [e7t]
      refine AW.run 2 [true] (132, [(0, .inr (.inr (5, 0, 0))), (1, .inl (nI n1)), (3, .inl (optI (chgO F.1 n1 (Sn F.1)).1)), (4, .inl (optI (chgO F.1 n1 (Sn F.1)).2)), (5, .inl (nI (Sn F.1)))], [.inl (optI (chgO F.1 n1 (Sn F.1)).1)], τ) [icP .ge (nI (Sn F.1)) (nI (Sn F.1))] rfl ?_ ?_
      · exact allP1 (nI_le (Nat.le_refl _) (by omega))
      refine AW.reti ⟨_, rfl⟩ rfl ?_
      exact ⟨F, (by unfold moveP; rw [maxP_e0 en1 (by omega), chgO_out hO 8 hn8]), QD_fr hF hS1 hD hR1⟩
