/-! THE MODEL'S CHOICES -/
theorem fu_back {α : Type} (f : Nat → α) (k : Nat) (x : α) : fu (fu f k x) k (f k) = f := by
  funext j; unfold fu; by_cases h : j = k
  · rw [if_pos h, h]
  · rw [if_neg h, if_neg h]
theorem repM_tb {S : Sv} {σ : St} {k : Nat} {t : Bool} (h : RepM (σ 5 0) (withT S (fu (Stw S) k t))) : RepM (setM σ 5 0 7 k (if Stw S k = true then 1 else 0) 5 0) S := by
  have h2 := repM_t (k := k) (b := Stw S k) h
  rw [show withT (withT S (fu (Stw S) k t)) (fu (Stw (withT S (fu (Stw S) k t))) k (Stw S k)) = S from by show withT S (fu (fu (Stw S) k t) k (Stw S k)) = S; rw [fu_back]; rfl] at h2
  exact h2
theorem repM_qb {S : Sv} {σ : St} {k t : Nat} (h : RepM (σ 5 0) (withQ S (fu (Sq S) k t))) : RepM (setM σ 5 0 5 k (nI (Sq S k)) 5 0) S := by
  have h2 := repM_q (k := k) (q := Sq S k) h
  rw [show withQ (withQ S (fu (Sq S) k t)) (fu (Sq (withQ S (fu (Sq S) k t))) k (Sq S k)) = S from by show withQ S (fu (fu (Sq S) k t) k (Sq S k)) = S; rw [fu_back]; rfl] at h2
  exact h2
theorem repM_pb {S : Sv} {σ : St} {k t : Nat} (h : RepM (σ 5 0) (withP S (fu (Sp S) k t))) : RepM (setM σ 5 0 4 k (nI (Sp S k)) 5 0) S := by
  have h2 := repM_p (k := k) (q := Sp S k) h
  rw [show withP (withP S (fu (Sp S) k t)) (fu (Sp (withP S (fu (Sp S) k t))) k (Sp S k)) = S from by show withP S (fu (fu (Sp S) k t) k (Sp S k)) = S; rw [fu_back]; rfl] at h2
  exact h2
theorem some_le {a : Nat} (h : a ≤ 8) : ∀ m, some a = some m → m ≤ 8 := fun m q => by cases q; exact h
theorem gt_yes {o : Option Nat} {v : Nat} (hv : v ≤ 8) (ho : ∀ m, o = some m → m ≤ 8) (h : above o v = true) : optI o < nI v := Int32.not_le.mp (fun q => by rw [(above_cmp9 hv ho).mp q] at h; cases h)
theorem gt_no {o : Option Nat} {v : Nat} (hv : v ≤ 8) (ho : ∀ m, o = some m → m ≤ 8) (h : ¬ above o v = true) : ¬ optI o < nI v := Int32.not_lt.mpr ((above_cmp9 hv ho).mpr (Bool.eq_false_iff.mpr h))
theorem stay_some {f : Nat → Option Nat} {m0 : Option Nat} {i w : Nat} (h : f i = some w) (hc : ¬ above (amax f m0 i).2 w = true) : amax f m0 (i + 1) = amax f m0 i := amax_stay (fun v q => by rw [h] at q; cases q; exact Bool.eq_false_iff.mpr hc)
theorem stay_none {f : Nat → Option Nat} {m0 : Option Nat} {i : Nat} (h : f i = none) : amax f m0 (i + 1) = amax f m0 i := amax_stay (fun v q => by rw [h] at q; cases q)
theorem worst_0 (F : Gv) : worstP F 0 = (optI (amax (worstF F.1) none 8).1, F) := by
  show (match worstS F.1 with | none => ((-9 : Int32), F) | some k => (if (0 : Nat) = 0 then nI k else nI (cN (takenS F.1 k)), F)) = (optI (worstS F.1), F)
  cases worstS F.1 <;> rfl
theorem worst_1 (F : Gv) : worstP F 1 = (optI (amax (worstF F.1) none 8).2, F) := by
  have h1 := amax_val (f := worstF F.1) (m0 := none) 8
  have h2 := amax_non (f := worstF F.1) (m0 := none) 8
  have h3 := amax_lt (f := worstF F.1) (m0 := none) 8
  show (match worstS F.1 with | none => ((-9 : Int32), F) | some k => (if (1 : Nat) = 0 then nI k else nI (cN (takenS F.1 k)), F)) = _
  cases h : worstS F.1 with
  | none => rw [h2 h]; rfl
  | some k =>
    obtain ⟨-, v, hv⟩ := h3 k h
    have hw : Sw F.1 k = true := by
      unfold worstF at hv; split at hv
      · assumption
      · cases hv
    rw [h1 k h, show worstF F.1 k = some (cN (takenS F.1 k)) from if_pos hw]; rfl
/-- a towel that changes nothing -/
theorem cover_no {S : Sv} {n i : Nat} (h : coverF S n i = none) : leftS (withT S (fu (Stw S) i true)) n = leftS S n := by
  by_cases hw : Sw S i = true
  · have ht : Stw S i = true := by
      cases hx : Stw S i with
      | true => rfl
      | false => unfold coverF at h; rw [if_pos ⟨hw, hx⟩] at h; cases h
    have e : fu (Stw S) i true = Stw S := by
      have := fu_self (Stw S) i
      rw [ht] at this; exact this
    rw [e]; rfl
  · exact sim_left (sim_tow (Bool.eq_false_iff.mpr hw)) n
theorem cover_some {S : Sv} {n i v : Nat} (h : coverF S n i = some v) : v = leftS (withT S (fu (Stw S) i true)) n := by
  unfold coverF at h; split at h
  · cases h; rfl
  · cases h

set_option maxHeartbeats 4000000 in
set_option maxRecDepth 100000 in
theorem d6_worst (F : Gv) (σ : St) (hD : RepD σ F) (hG : GOK F) (w : Int32) : Ct M6_worst 6 [.inr (.inr (5, 0, 0)), .inl w] σ (QD σ (worstP F w)) := by
  refine Ct.of f_6_worst (Nat.le_of_ble_eq_true rfl) ?_
  show AW M6_worst 6 _ (0, [(0, .inr (.inr (5, 0, 0))), (1, .inl w)], [], σ)
  have hF : FOK F := hG.1
  have hR : RepM (σ 5 0) F.1 := hD.1
  have hO : SOK F.1 := hF.1.1
  have hn8 : Sn F.1 ≤ 8 := hO.1
  have e7 := hR.1.1
  by_cases h0w : w = 0
  · subst h0w
    refine AW.run 3 [] (3, [(0, .inr (.inr (5, 0, 0))), (1, .inl 0)], [.inl 1, .inl 0, .inl 0], σ) [] rfl ?_ ?_
    · exact trivial
    refine AW.callSI (d' := 0) [.inl 0, .inl 0, .inl 1] [] ⟨_, rfl⟩ f_6_isIn s_6_isIn l_6_80 rfl (Nat.le_of_ble_eq_true rfl) rfl (Nat.le_of_ble_eq_true rfl) (c6_isIn1 0 0 1 (by decide) (by decide) σ) ?_
    rintro _ _ ⟨rfl, rfl⟩
    refine AW.run 7 [true] (25, [(4, .inl 0), (3, .inl (-9)), (2, .inl (-9)), (0, .inr (.inr (5, 0, 0))), (1, .inl 0)], [], σ) [icP .ne (1 : Int32) 0] rfl ?_ ?_
    · exact allP1 (by decide : (¬ (1 : Int32) = 0))
    refine AW.pick [3, 4, 2, 1, 0] (ls' := [(0, .inr (.inr (5, 0, 0))), (1, .inl 0), (2, .inl (optI (amax (worstF F.1) none 0).1)), (3, .inl (optI (amax (worstF F.1) none 0).2)), (4, .inl (nI 0))]) rfl ?_
    refine AW.loop (α := Unit) 25 (Sn F.1) (fun i _ => [(0, .inr (.inr (5, 0, 0))), (1, .inl 0), (2, .inl (optI (amax (worstF F.1) none i).1)), (3, .inl (optI (amax (worstF F.1) none i).2)), (4, .inl (nI i))]) (fun i _ τ => Fr P2 σ τ ∧ RepM (τ 5 0) F.1) ?_ ?_ (Sn F.1) 0 () _ (by omega) ⟨fr_rfl, hR⟩
    · intro i _ τ hi hI hk
      obtain ⟨hS1, hR1⟩ := hI
      have hi8 : i < 8 := by omega
      have e7t := hR1.1.1
      have ho8 := amax_le (f := (worstF F.1)) (m0 := none) worstF_le none_le i
      cases hw : Sw F.1 i
      · have hst : (amax (worstF F.1) none (i + 1)) = (amax (worstF F.1) none i) := stay_none (if_neg (by rw [hw]; decide))
        refine AW.run 3 [] (31, [(0, .inr (.inr (5, 0, 0))), (1, .inl 0), (2, .inl (optI (amax (worstF F.1) none i).1)), (3, .inl (optI (amax (worstF F.1) none i).2)), (4, .inl (nI i))], [.inl (τ 5 0 0 7), .inl (nI i)], τ) [] rfl ?_ ?_
        · exact trivial
        rw [e7t]
        refine AW.run 3 [false] (37, [(0, .inr (.inr (5, 0, 0))), (1, .inl 0), (2, .inl (optI (amax (worstF F.1) none i).1)), (3, .inl (optI (amax (worstF F.1) none i).2)), (4, .inl (nI i))], [.inl (nI i), .inr (.inr (5, 0, 0))], τ) [¬ icP .ge (nI i) (nI (Sn F.1))] rfl ?_ ?_
        · exact allP1 (nI_ge hi (by omega))
        refine AW.callVI (d' := 0) [.inl (nI i)] [] ⟨_, rfl⟩ f_6_isWhole v_6_isWhole l_6_108 ⟨rfl, by decide⟩ rfl (Nat.le_of_ble_eq_true rfl) rfl (Nat.le_of_ble_eq_true rfl) (c6_isWhole F.1 τ hR1 hO.1 i hi) ?_
        rintro v _ ⟨rfl, hv⟩
        obtain rfl : v = 0 := by
          rcases hv with h | h
          · exact absurd (hw.symm.trans h.2) (by decide)
          · exact h.1
        refine AW.run 9 [true, false] (25, [(4, .inl ((nI i) + 1)), (5, .inl (-9)), (0, .inr (.inr (5, 0, 0))), (1, .inl 0), (2, .inl (optI (amax (worstF F.1) none i).1)), (3, .inl (optI (amax (worstF F.1) none i).2))], [], τ) [icP .eq (0 : Int32) 0, ¬ icP .gt (-9) (optI (amax (worstF F.1) none i).2)] rfl ?_ ?_
        · exact ⟨(by decide : ((0 : Int32) = 0)), allP1 (Int32.not_lt.mpr (m9_le ho8))⟩
        rw [nI_1 i]
        refine AW.pick [2, 3, 4, 5, 0] (ls' := [(0, .inr (.inr (5, 0, 0))), (1, .inl 0), (2, .inl (optI (amax (worstF F.1) none i).1)), (3, .inl (optI (amax (worstF F.1) none i).2)), (4, .inl (nI (i + 1)))]) rfl ?_
        have hk2 := hk () τ ⟨hS1, hR1⟩
        rw [hst] at hk2
        exact hk2
      · have hfi : worstF F.1 i = some (cN (takenS F.1 i)) := if_pos hw
        have hv8 := cN_le (takenS F.1 i)
        by_cases hc : above (amax (worstF F.1) none i).2 (cN (takenS F.1 i)) = true
        · have hst : (amax (worstF F.1) none (i + 1)) = (some i, some (cN (takenS F.1 i))) := amax_up hfi hc
          refine AW.run 3 [] (31, [(0, .inr (.inr (5, 0, 0))), (1, .inl 0), (2, .inl (optI (amax (worstF F.1) none i).1)), (3, .inl (optI (amax (worstF F.1) none i).2)), (4, .inl (nI i))], [.inl (τ 5 0 0 7), .inl (nI i)], τ) [] rfl ?_ ?_
          · exact trivial
          rw [e7t]
          refine AW.run 3 [false] (37, [(0, .inr (.inr (5, 0, 0))), (1, .inl 0), (2, .inl (optI (amax (worstF F.1) none i).1)), (3, .inl (optI (amax (worstF F.1) none i).2)), (4, .inl (nI i))], [.inl (nI i), .inr (.inr (5, 0, 0))], τ) [¬ icP .ge (nI i) (nI (Sn F.1))] rfl ?_ ?_
          · exact allP1 (nI_ge hi (by omega))
          refine AW.callVI (d' := 0) [.inl (nI i)] [] ⟨_, rfl⟩ f_6_isWhole v_6_isWhole l_6_108 ⟨rfl, by decide⟩ rfl (Nat.le_of_ble_eq_true rfl) rfl (Nat.le_of_ble_eq_true rfl) (c6_isWhole F.1 τ hR1 hO.1 i hi) ?_
          rintro v _ ⟨rfl, hv⟩
          obtain rfl : v = 1 := by
            rcases hv with h | h
            · exact h.1
            · exact absurd (hw.symm.trans h.2) (by decide)
          refine AW.run 3 [false] (46, [(0, .inr (.inr (5, 0, 0))), (1, .inl 0), (2, .inl (optI (amax (worstF F.1) none i).1)), (3, .inl (optI (amax (worstF F.1) none i).2)), (4, .inl (nI i))], [.inl (nI i), .inr (.inr (5, 0, 0))], τ) [¬ icP .eq (1 : Int32) 0] rfl ?_ ?_
          · exact allP1 (by decide : ¬ ((1 : Int32) = 0))
          refine AW.callVI (d' := 4) [.inl (nI i)] [] ⟨_, rfl⟩ f_6_takenBy v_6_takenBy l_6_225 ⟨rfl, by decide⟩ rfl (Nat.le_of_ble_eq_true rfl) rfl (Nat.le_of_ble_eq_true rfl) (c6_takenBy F.1 τ hR1 hO i hi) ?_
          rintro _ τ84 ⟨rfl, f84, r84⟩
          refine AW.callSI (d' := 0) [.inl (bI (takenS F.1 i))] [] ⟨_, rfl⟩ f_6_bits s_6_bits l_6_200 rfl (Nat.le_of_ble_eq_true rfl) rfl (Nat.le_of_ble_eq_true rfl) (c6_bits (bI (takenS F.1 i)) τ84) ?_
          rintro _ _ ⟨rfl, rfl⟩
          rw [btV_bI]
          refine AW.run 11 [true] (25, [(4, .inl ((nI i) + 1)), (3, .inl (nI (cN (takenS F.1 i)))), (2, .inl (nI i)), (5, .inl (nI (cN (takenS F.1 i)))), (0, .inr (.inr (5, 0, 0))), (1, .inl 0)], [], τ84) [icP .gt (nI (cN (takenS F.1 i))) (optI (amax (worstF F.1) none i).2)] rfl ?_ ?_
          · exact allP1 (gt_yes hv8 ho8 hc)
          rw [nI_1 i]
          refine AW.pick [4, 5, 2, 1, 0] (ls' := [(0, .inr (.inr (5, 0, 0))), (1, .inl 0), (2, .inl (nI i)), (3, .inl (nI (cN (takenS F.1 i)))), (4, .inl (nI (i + 1)))]) rfl ?_
          have hk2 := hk () τ84 ⟨(fr_trans hS1 f84), r84⟩
          rw [hst] at hk2
          exact hk2
        · have hst : (amax (worstF F.1) none (i + 1)) = (amax (worstF F.1) none i) := stay_some hfi hc
          refine AW.run 3 [] (31, [(0, .inr (.inr (5, 0, 0))), (1, .inl 0), (2, .inl (optI (amax (worstF F.1) none i).1)), (3, .inl (optI (amax (worstF F.1) none i).2)), (4, .inl (nI i))], [.inl (τ 5 0 0 7), .inl (nI i)], τ) [] rfl ?_ ?_
          · exact trivial
          rw [e7t]
          refine AW.run 3 [false] (37, [(0, .inr (.inr (5, 0, 0))), (1, .inl 0), (2, .inl (optI (amax (worstF F.1) none i).1)), (3, .inl (optI (amax (worstF F.1) none i).2)), (4, .inl (nI i))], [.inl (nI i), .inr (.inr (5, 0, 0))], τ) [¬ icP .ge (nI i) (nI (Sn F.1))] rfl ?_ ?_
          · exact allP1 (nI_ge hi (by omega))
          refine AW.callVI (d' := 0) [.inl (nI i)] [] ⟨_, rfl⟩ f_6_isWhole v_6_isWhole l_6_108 ⟨rfl, by decide⟩ rfl (Nat.le_of_ble_eq_true rfl) rfl (Nat.le_of_ble_eq_true rfl) (c6_isWhole F.1 τ hR1 hO.1 i hi) ?_
          rintro v _ ⟨rfl, hv⟩
          obtain rfl : v = 1 := by
            rcases hv with h | h
            · exact h.1
            · exact absurd (hw.symm.trans h.2) (by decide)
          refine AW.run 3 [false] (46, [(0, .inr (.inr (5, 0, 0))), (1, .inl 0), (2, .inl (optI (amax (worstF F.1) none i).1)), (3, .inl (optI (amax (worstF F.1) none i).2)), (4, .inl (nI i))], [.inl (nI i), .inr (.inr (5, 0, 0))], τ) [¬ icP .eq (1 : Int32) 0] rfl ?_ ?_
          · exact allP1 (by decide : ¬ ((1 : Int32) = 0))
          refine AW.callVI (d' := 4) [.inl (nI i)] [] ⟨_, rfl⟩ f_6_takenBy v_6_takenBy l_6_225 ⟨rfl, by decide⟩ rfl (Nat.le_of_ble_eq_true rfl) rfl (Nat.le_of_ble_eq_true rfl) (c6_takenBy F.1 τ hR1 hO i hi) ?_
          rintro _ τ85 ⟨rfl, f85, r85⟩
          refine AW.callSI (d' := 0) [.inl (bI (takenS F.1 i))] [] ⟨_, rfl⟩ f_6_bits s_6_bits l_6_200 rfl (Nat.le_of_ble_eq_true rfl) rfl (Nat.le_of_ble_eq_true rfl) (c6_bits (bI (takenS F.1 i)) τ85) ?_
          rintro _ _ ⟨rfl, rfl⟩
          rw [btV_bI]
          refine AW.run 8 [false] (25, [(4, .inl ((nI i) + 1)), (5, .inl (nI (cN (takenS F.1 i)))), (0, .inr (.inr (5, 0, 0))), (1, .inl 0), (2, .inl (optI (amax (worstF F.1) none i).1)), (3, .inl (optI (amax (worstF F.1) none i).2))], [], τ85) [¬ icP .gt (nI (cN (takenS F.1 i))) (optI (amax (worstF F.1) none i).2)] rfl ?_ ?_
          · exact allP1 (gt_no hv8 ho8 hc)
          rw [nI_1 i]
          refine AW.pick [2, 3, 4, 5, 0] (ls' := [(0, .inr (.inr (5, 0, 0))), (1, .inl 0), (2, .inl (optI (amax (worstF F.1) none i).1)), (3, .inl (optI (amax (worstF F.1) none i).2)), (4, .inl (nI (i + 1)))]) rfl ?_
          have hk2 := hk () τ85 ⟨(fr_trans hS1 f85), r85⟩
          rw [hst] at hk2
          exact hk2
    · intro _ τ hI
      obtain ⟨hS1, hR1⟩ := hI
      have e7t := hR1.1.1
      have hA8 : (amax (worstF F.1) none (Sn F.1)) = (amax (worstF F.1) none 8) := (amax_out (fun i h => if_neg (by rw [w_out hO i h]; decide)) 8 hn8).symm
      refine AW.run 3 [] (31, [(0, .inr (.inr (5, 0, 0))), (1, .inl 0), (2, .inl (optI (amax (worstF F.1) none (Sn F.1)).1)), (3, .inl (optI (amax (worstF F.1) none (Sn F.1)).2)), (4, .inl (nI (Sn F.1)))], [.inl (τ 5 0 0 7), .inl (nI (Sn F.1))], τ) [] rfl ?_ ?_
      · exact trivial
      rw [e7t]
      refine AW.run 5 [true, false] (89, [(0, .inr (.inr (5, 0, 0))), (1, .inl 0), (2, .inl (optI (amax (worstF F.1) none (Sn F.1)).1)), (3, .inl (optI (amax (worstF F.1) none (Sn F.1)).2)), (4, .inl (nI (Sn F.1)))], [.inl (optI (amax (worstF F.1) none (Sn F.1)).1)], τ) [icP .ge (nI (Sn F.1)) (nI (Sn F.1)), ¬ icP .ne (0 : Int32) 0] rfl ?_ ?_
      · exact ⟨(nI_le (Nat.le_refl _) (by omega)), allP1 (by decide : ¬ (¬ (0 : Int32) = 0))⟩
      refine AW.reti ⟨_, rfl⟩ rfl ?_
      exact ⟨F, (by rw [worst_0, hA8]), QD_fr hF hS1 hD hR1⟩
  by_cases h1w : w = 1
  · subst h1w
    refine AW.run 3 [] (3, [(0, .inr (.inr (5, 0, 0))), (1, .inl 1)], [.inl 1, .inl 0, .inl 1], σ) [] rfl ?_ ?_
    · exact trivial
    refine AW.callSI (d' := 0) [.inl 1, .inl 0, .inl 1] [] ⟨_, rfl⟩ f_6_isIn s_6_isIn l_6_80 rfl (Nat.le_of_ble_eq_true rfl) rfl (Nat.le_of_ble_eq_true rfl) (c6_isIn1 1 0 1 (by decide) (by decide) σ) ?_
    rintro _ _ ⟨rfl, rfl⟩
    refine AW.run 7 [true] (25, [(4, .inl 0), (3, .inl (-9)), (2, .inl (-9)), (0, .inr (.inr (5, 0, 0))), (1, .inl 1)], [], σ) [icP .ne (1 : Int32) 0] rfl ?_ ?_
    · exact allP1 (by decide : (¬ (1 : Int32) = 0))
    refine AW.pick [3, 4, 2, 1, 0] (ls' := [(0, .inr (.inr (5, 0, 0))), (1, .inl 1), (2, .inl (optI (amax (worstF F.1) none 0).1)), (3, .inl (optI (amax (worstF F.1) none 0).2)), (4, .inl (nI 0))]) rfl ?_
    refine AW.loop (α := Unit) 25 (Sn F.1) (fun i _ => [(0, .inr (.inr (5, 0, 0))), (1, .inl 1), (2, .inl (optI (amax (worstF F.1) none i).1)), (3, .inl (optI (amax (worstF F.1) none i).2)), (4, .inl (nI i))]) (fun i _ τ => Fr P2 σ τ ∧ RepM (τ 5 0) F.1) ?_ ?_ (Sn F.1) 0 () _ (by omega) ⟨fr_rfl, hR⟩
    · intro i _ τ hi hI hk
      obtain ⟨hS1, hR1⟩ := hI
      have hi8 : i < 8 := by omega
      have e7t := hR1.1.1
      have ho8 := amax_le (f := (worstF F.1)) (m0 := none) worstF_le none_le i
      cases hw : Sw F.1 i
      · have hst : (amax (worstF F.1) none (i + 1)) = (amax (worstF F.1) none i) := stay_none (if_neg (by rw [hw]; decide))
        refine AW.run 3 [] (31, [(0, .inr (.inr (5, 0, 0))), (1, .inl 1), (2, .inl (optI (amax (worstF F.1) none i).1)), (3, .inl (optI (amax (worstF F.1) none i).2)), (4, .inl (nI i))], [.inl (τ 5 0 0 7), .inl (nI i)], τ) [] rfl ?_ ?_
        · exact trivial
        rw [e7t]
        refine AW.run 3 [false] (37, [(0, .inr (.inr (5, 0, 0))), (1, .inl 1), (2, .inl (optI (amax (worstF F.1) none i).1)), (3, .inl (optI (amax (worstF F.1) none i).2)), (4, .inl (nI i))], [.inl (nI i), .inr (.inr (5, 0, 0))], τ) [¬ icP .ge (nI i) (nI (Sn F.1))] rfl ?_ ?_
        · exact allP1 (nI_ge hi (by omega))
        refine AW.callVI (d' := 0) [.inl (nI i)] [] ⟨_, rfl⟩ f_6_isWhole v_6_isWhole l_6_108 ⟨rfl, by decide⟩ rfl (Nat.le_of_ble_eq_true rfl) rfl (Nat.le_of_ble_eq_true rfl) (c6_isWhole F.1 τ hR1 hO.1 i hi) ?_
        rintro v _ ⟨rfl, hv⟩
        obtain rfl : v = 0 := by
          rcases hv with h | h
          · exact absurd (hw.symm.trans h.2) (by decide)
          · exact h.1
        refine AW.run 9 [true, false] (25, [(4, .inl ((nI i) + 1)), (5, .inl (-9)), (0, .inr (.inr (5, 0, 0))), (1, .inl 1), (2, .inl (optI (amax (worstF F.1) none i).1)), (3, .inl (optI (amax (worstF F.1) none i).2))], [], τ) [icP .eq (0 : Int32) 0, ¬ icP .gt (-9) (optI (amax (worstF F.1) none i).2)] rfl ?_ ?_
        · exact ⟨(by decide : ((0 : Int32) = 0)), allP1 (Int32.not_lt.mpr (m9_le ho8))⟩
        rw [nI_1 i]
        refine AW.pick [2, 3, 4, 5, 0] (ls' := [(0, .inr (.inr (5, 0, 0))), (1, .inl 1), (2, .inl (optI (amax (worstF F.1) none i).1)), (3, .inl (optI (amax (worstF F.1) none i).2)), (4, .inl (nI (i + 1)))]) rfl ?_
        have hk2 := hk () τ ⟨hS1, hR1⟩
        rw [hst] at hk2
        exact hk2
      · have hfi : worstF F.1 i = some (cN (takenS F.1 i)) := if_pos hw
        have hv8 := cN_le (takenS F.1 i)
        by_cases hc : above (amax (worstF F.1) none i).2 (cN (takenS F.1 i)) = true
        · have hst : (amax (worstF F.1) none (i + 1)) = (some i, some (cN (takenS F.1 i))) := amax_up hfi hc
          refine AW.run 3 [] (31, [(0, .inr (.inr (5, 0, 0))), (1, .inl 1), (2, .inl (optI (amax (worstF F.1) none i).1)), (3, .inl (optI (amax (worstF F.1) none i).2)), (4, .inl (nI i))], [.inl (τ 5 0 0 7), .inl (nI i)], τ) [] rfl ?_ ?_
          · exact trivial
          rw [e7t]
          refine AW.run 3 [false] (37, [(0, .inr (.inr (5, 0, 0))), (1, .inl 1), (2, .inl (optI (amax (worstF F.1) none i).1)), (3, .inl (optI (amax (worstF F.1) none i).2)), (4, .inl (nI i))], [.inl (nI i), .inr (.inr (5, 0, 0))], τ) [¬ icP .ge (nI i) (nI (Sn F.1))] rfl ?_ ?_
          · exact allP1 (nI_ge hi (by omega))
          refine AW.callVI (d' := 0) [.inl (nI i)] [] ⟨_, rfl⟩ f_6_isWhole v_6_isWhole l_6_108 ⟨rfl, by decide⟩ rfl (Nat.le_of_ble_eq_true rfl) rfl (Nat.le_of_ble_eq_true rfl) (c6_isWhole F.1 τ hR1 hO.1 i hi) ?_
          rintro v _ ⟨rfl, hv⟩
          obtain rfl : v = 1 := by
            rcases hv with h | h
            · exact h.1
            · exact absurd (hw.symm.trans h.2) (by decide)
          refine AW.run 3 [false] (46, [(0, .inr (.inr (5, 0, 0))), (1, .inl 1), (2, .inl (optI (amax (worstF F.1) none i).1)), (3, .inl (optI (amax (worstF F.1) none i).2)), (4, .inl (nI i))], [.inl (nI i), .inr (.inr (5, 0, 0))], τ) [¬ icP .eq (1 : Int32) 0] rfl ?_ ?_
          · exact allP1 (by decide : ¬ ((1 : Int32) = 0))
          refine AW.callVI (d' := 4) [.inl (nI i)] [] ⟨_, rfl⟩ f_6_takenBy v_6_takenBy l_6_225 ⟨rfl, by decide⟩ rfl (Nat.le_of_ble_eq_true rfl) rfl (Nat.le_of_ble_eq_true rfl) (c6_takenBy F.1 τ hR1 hO i hi) ?_
          rintro _ τ86 ⟨rfl, f86, r86⟩
          refine AW.callSI (d' := 0) [.inl (bI (takenS F.1 i))] [] ⟨_, rfl⟩ f_6_bits s_6_bits l_6_200 rfl (Nat.le_of_ble_eq_true rfl) rfl (Nat.le_of_ble_eq_true rfl) (c6_bits (bI (takenS F.1 i)) τ86) ?_
          rintro _ _ ⟨rfl, rfl⟩
          rw [btV_bI]
          refine AW.run 11 [true] (25, [(4, .inl ((nI i) + 1)), (3, .inl (nI (cN (takenS F.1 i)))), (2, .inl (nI i)), (5, .inl (nI (cN (takenS F.1 i)))), (0, .inr (.inr (5, 0, 0))), (1, .inl 1)], [], τ86) [icP .gt (nI (cN (takenS F.1 i))) (optI (amax (worstF F.1) none i).2)] rfl ?_ ?_
          · exact allP1 (gt_yes hv8 ho8 hc)
          rw [nI_1 i]
          refine AW.pick [4, 5, 2, 1, 0] (ls' := [(0, .inr (.inr (5, 0, 0))), (1, .inl 1), (2, .inl (nI i)), (3, .inl (nI (cN (takenS F.1 i)))), (4, .inl (nI (i + 1)))]) rfl ?_
          have hk2 := hk () τ86 ⟨(fr_trans hS1 f86), r86⟩
          rw [hst] at hk2
          exact hk2
        · have hst : (amax (worstF F.1) none (i + 1)) = (amax (worstF F.1) none i) := stay_some hfi hc
          refine AW.run 3 [] (31, [(0, .inr (.inr (5, 0, 0))), (1, .inl 1), (2, .inl (optI (amax (worstF F.1) none i).1)), (3, .inl (optI (amax (worstF F.1) none i).2)), (4, .inl (nI i))], [.inl (τ 5 0 0 7), .inl (nI i)], τ) [] rfl ?_ ?_
          · exact trivial
          rw [e7t]
          refine AW.run 3 [false] (37, [(0, .inr (.inr (5, 0, 0))), (1, .inl 1), (2, .inl (optI (amax (worstF F.1) none i).1)), (3, .inl (optI (amax (worstF F.1) none i).2)), (4, .inl (nI i))], [.inl (nI i), .inr (.inr (5, 0, 0))], τ) [¬ icP .ge (nI i) (nI (Sn F.1))] rfl ?_ ?_
          · exact allP1 (nI_ge hi (by omega))
          refine AW.callVI (d' := 0) [.inl (nI i)] [] ⟨_, rfl⟩ f_6_isWhole v_6_isWhole l_6_108 ⟨rfl, by decide⟩ rfl (Nat.le_of_ble_eq_true rfl) rfl (Nat.le_of_ble_eq_true rfl) (c6_isWhole F.1 τ hR1 hO.1 i hi) ?_
          rintro v _ ⟨rfl, hv⟩
          obtain rfl : v = 1 := by
            rcases hv with h | h
            · exact h.1
            · exact absurd (hw.symm.trans h.2) (by decide)
          refine AW.run 3 [false] (46, [(0, .inr (.inr (5, 0, 0))), (1, .inl 1), (2, .inl (optI (amax (worstF F.1) none i).1)), (3, .inl (optI (amax (worstF F.1) none i).2)), (4, .inl (nI i))], [.inl (nI i), .inr (.inr (5, 0, 0))], τ) [¬ icP .eq (1 : Int32) 0] rfl ?_ ?_
          · exact allP1 (by decide : ¬ ((1 : Int32) = 0))
          refine AW.callVI (d' := 4) [.inl (nI i)] [] ⟨_, rfl⟩ f_6_takenBy v_6_takenBy l_6_225 ⟨rfl, by decide⟩ rfl (Nat.le_of_ble_eq_true rfl) rfl (Nat.le_of_ble_eq_true rfl) (c6_takenBy F.1 τ hR1 hO i hi) ?_
          rintro _ τ87 ⟨rfl, f87, r87⟩
          refine AW.callSI (d' := 0) [.inl (bI (takenS F.1 i))] [] ⟨_, rfl⟩ f_6_bits s_6_bits l_6_200 rfl (Nat.le_of_ble_eq_true rfl) rfl (Nat.le_of_ble_eq_true rfl) (c6_bits (bI (takenS F.1 i)) τ87) ?_
          rintro _ _ ⟨rfl, rfl⟩
          rw [btV_bI]
          refine AW.run 8 [false] (25, [(4, .inl ((nI i) + 1)), (5, .inl (nI (cN (takenS F.1 i)))), (0, .inr (.inr (5, 0, 0))), (1, .inl 1), (2, .inl (optI (amax (worstF F.1) none i).1)), (3, .inl (optI (amax (worstF F.1) none i).2))], [], τ87) [¬ icP .gt (nI (cN (takenS F.1 i))) (optI (amax (worstF F.1) none i).2)] rfl ?_ ?_
          · exact allP1 (gt_no hv8 ho8 hc)
          rw [nI_1 i]
          refine AW.pick [2, 3, 4, 5, 0] (ls' := [(0, .inr (.inr (5, 0, 0))), (1, .inl 1), (2, .inl (optI (amax (worstF F.1) none i).1)), (3, .inl (optI (amax (worstF F.1) none i).2)), (4, .inl (nI (i + 1)))]) rfl ?_
          have hk2 := hk () τ87 ⟨(fr_trans hS1 f87), r87⟩
          rw [hst] at hk2
          exact hk2
    · intro _ τ hI
      obtain ⟨hS1, hR1⟩ := hI
      have e7t := hR1.1.1
      have hA8 : (amax (worstF F.1) none (Sn F.1)) = (amax (worstF F.1) none 8) := (amax_out (fun i h => if_neg (by rw [w_out hO i h]; decide)) 8 hn8).symm
      refine AW.run 3 [] (31, [(0, .inr (.inr (5, 0, 0))), (1, .inl 1), (2, .inl (optI (amax (worstF F.1) none (Sn F.1)).1)), (3, .inl (optI (amax (worstF F.1) none (Sn F.1)).2)), (4, .inl (nI (Sn F.1)))], [.inl (τ 5 0 0 7), .inl (nI (Sn F.1))], τ) [] rfl ?_ ?_
      · exact trivial
      rw [e7t]
      refine AW.run 4 [true, true] (89, [(0, .inr (.inr (5, 0, 0))), (1, .inl 1), (2, .inl (optI (amax (worstF F.1) none (Sn F.1)).1)), (3, .inl (optI (amax (worstF F.1) none (Sn F.1)).2)), (4, .inl (nI (Sn F.1)))], [.inl (optI (amax (worstF F.1) none (Sn F.1)).2)], τ) [icP .ge (nI (Sn F.1)) (nI (Sn F.1)), icP .ne (1 : Int32) 0] rfl ?_ ?_
      · exact ⟨(nI_le (Nat.le_refl _) (by omega)), allP1 (by decide : (¬ (1 : Int32) = 0))⟩
      refine AW.reti ⟨_, rfl⟩ rfl ?_
      exact ⟨F, (by rw [worst_1, hA8]), QD_fr hF hS1 hD hR1⟩
  · skip
    refine AW.run 3 [] (3, [(0, .inr (.inr (5, 0, 0))), (1, .inl w)], [.inl 1, .inl 0, .inl w], σ) [] rfl ?_ ?_
    · exact trivial
    refine AW.callSI (d' := 0) [.inl w, .inl 0, .inl 1] [] ⟨_, rfl⟩ f_6_isIn s_6_isIn l_6_80 rfl (Nat.le_of_ble_eq_true rfl) rfl (Nat.le_of_ble_eq_true rfl) (c6_isIn0 w 0 1 (in_01 h0w h1w) σ) ?_
    rintro _ _ ⟨rfl, rfl⟩
    refine AW.run 3 [false] (12, [(0, .inr (.inr (5, 0, 0))), (1, .inl w)], [.inl (-2), .inr (.inr (5, 0, 0))], σ) [¬ icP .ne (0 : Int32) 0] rfl ?_ ?_
    · exact allP1 (by decide : ¬ (¬ (0 : Int32) = 0))
    refine AW.callVI (d' := 0) [.inl (-2)] [] ⟨_, rfl⟩ f_6_no v_6_no l_6_69 ⟨rfl, by decide⟩ rfl (Nat.le_of_ble_eq_true rfl) rfl (Nat.le_of_ble_eq_true rfl) (c6_no2 σ) ?_
    rintro _ _ ⟨rfl, rfl⟩
    refine AW.reti ⟨_, rfl⟩ rfl ?_
    exact ⟨rfuF F 2, (by unfold worstP; rw [twoP_N h0w h1w]; try rfl), RepD_ref hF hD (by decide) (by decide)⟩
set_option maxHeartbeats 4000000 in
set_option maxRecDepth 100000 in
theorem d6_towel (F : Gv) (σ : St) (hD : RepD σ F) (hG : GOK F) (n : Int32) : Ct M6_towel 7 [.inr (.inr (5, 0, 0)), .inl n] σ (QD σ (towelP F n)) := by
  refine Ct.of f_6_towel (Nat.le_of_ble_eq_true rfl) ?_
  show AW M6_towel 7 _ (0, [(0, .inr (.inr (5, 0, 0))), (1, .inl n)], [], σ)
  have hF : FOK F := hG.1
  have hR : RepM (σ 5 0) F.1 := hD.1
  have hO : SOK F.1 := hF.1.1
  have hn8 : Sn F.1 ≤ 8 := hO.1
  have e7 := hR.1.1
  rcases fMax_or 60 (by decide) n with ⟨h4n1, en1⟩ | ⟨h4n1, h6n1, en1⟩ | ⟨n1, hn1, rfl, en1⟩
  · skip
    refine AW.run 1 [] (1, [(0, .inr (.inr (5, 0, 0))), (1, .inl n)], [.inl n], σ) [] rfl ?_ ?_
    · exact trivial
    refine AW.callSI (d' := 1) [.inl n] [] ⟨_, rfl⟩ f_6_notDays s_6_notDays l_6_209 rfl (Nat.le_of_ble_eq_true rfl) rfl (Nat.le_of_ble_eq_true rfl) (c6_notDays4 n h4n1 σ) ?_
    rintro _ _ ⟨rfl, rfl⟩
    refine AW.run 5 [false] (11, [(2, .inl (-4)), (0, .inr (.inr (5, 0, 0))), (1, .inl n)], [.inl (-4), .inr (.inr (5, 0, 0))], σ) [¬ icP .eq ((-4) : Int32) 0] rfl ?_ ?_
    · exact allP1 (by decide : ¬ (((-4) : Int32) = 0))
    refine AW.callVI (d' := 0) [.inl (-4)] [] ⟨_, rfl⟩ f_6_no v_6_no l_6_69 ⟨rfl, by decide⟩ rfl (Nat.le_of_ble_eq_true rfl) rfl (Nat.le_of_ble_eq_true rfl) (c6_no4 σ) ?_
    rintro _ _ ⟨rfl, rfl⟩
    refine AW.reti ⟨_, rfl⟩ rfl ?_
    exact ⟨rfuF F 4, (by unfold towelP; rw [maxP_e4 en1]; try rfl), RepD_ref hF hD (by decide) (by decide)⟩
  · skip
    refine AW.run 1 [] (1, [(0, .inr (.inr (5, 0, 0))), (1, .inl n)], [.inl n], σ) [] rfl ?_ ?_
    · exact trivial
    refine AW.callSI (d' := 1) [.inl n] [] ⟨_, rfl⟩ f_6_notDays s_6_notDays l_6_209 rfl (Nat.le_of_ble_eq_true rfl) rfl (Nat.le_of_ble_eq_true rfl) (c6_notDays6 n h4n1 h6n1 σ) ?_
    rintro _ _ ⟨rfl, rfl⟩
    refine AW.run 5 [false] (11, [(2, .inl (-6)), (0, .inr (.inr (5, 0, 0))), (1, .inl n)], [.inl (-6), .inr (.inr (5, 0, 0))], σ) [¬ icP .eq ((-6) : Int32) 0] rfl ?_ ?_
    · exact allP1 (by decide : ¬ (((-6) : Int32) = 0))
    refine AW.callVI (d' := 0) [.inl (-6)] [] ⟨_, rfl⟩ f_6_no v_6_no l_6_69 ⟨rfl, by decide⟩ rfl (Nat.le_of_ble_eq_true rfl) rfl (Nat.le_of_ble_eq_true rfl) (c6_no6 σ) ?_
    rintro _ _ ⟨rfl, rfl⟩
    refine AW.reti ⟨_, rfl⟩ rfl ?_
    exact ⟨rfuF F 6, (by unfold towelP; rw [maxP_e6 en1]; try rfl), RepD_ref hF hD (by decide) (by decide)⟩
  · skip
    have nln1 : ¬ nI n1 < 0 := nlt0 (by omega)
    have nmn1 : ¬ nI 60 < nI n1 := nI_nlt hn1 (by decide)
    refine AW.run 1 [] (1, [(0, .inr (.inr (5, 0, 0))), (1, .inl (nI n1))], [.inl (nI n1)], σ) [] rfl ?_ ?_
    · exact trivial
    refine AW.callSI (d' := 1) [.inl (nI n1)] [] ⟨_, rfl⟩ f_6_notDays s_6_notDays l_6_209 rfl (Nat.le_of_ble_eq_true rfl) rfl (Nat.le_of_ble_eq_true rfl) (c6_notDays0 (nI n1) nln1 nmn1 σ) ?_
    rintro _ _ ⟨rfl, rfl⟩
    refine AW.run 7 [true] (20, [(3, .inl (-9)), (2, .inl 0), (0, .inr (.inr (5, 0, 0))), (1, .inl (nI n1))], [.inl (nI n1), .inr (.inr (5, 0, 0))], σ) [icP .eq (0 : Int32) 0] rfl ?_ ?_
    · exact allP1 (by decide : ((0 : Int32) = 0))
    refine AW.callVI (d' := 6) [.inl (nI n1)] [] ⟨_, rfl⟩ f_6_leftIn v_6_leftIn l_6_228 ⟨rfl, by decide⟩ rfl (Nat.le_of_ble_eq_true rfl) rfl (Nat.le_of_ble_eq_true rfl) (c6_leftIn F.1 σ hR hO n1 (by omega)) ?_
    rintro _ τ88 ⟨rfl, f88, r88⟩
    refine AW.run 3 [] (28, [(5, .inl 0), (4, .inl (nI (leftS F.1 n1))), (3, .inl (-9)), (2, .inl 0), (0, .inr (.inr (5, 0, 0))), (1, .inl (nI n1))], [], τ88) [] rfl ?_ ?_
    · exact trivial
    refine AW.pick [4, 5, 2, 1, 0] (ls' := [(0, .inr (.inr (5, 0, 0))), (1, .inl (nI n1)), (3, .inl (optI (amax (coverF F.1 n1) (some (leftS F.1 n1)) 0).1)), (4, .inl (optI (amax (coverF F.1 n1) (some (leftS F.1 n1)) 0).2)), (5, .inl (nI 0))]) rfl ?_
    refine AW.loop (α := Unit) 28 (Sn F.1) (fun i _ => [(0, .inr (.inr (5, 0, 0))), (1, .inl (nI n1)), (3, .inl (optI (amax (coverF F.1 n1) (some (leftS F.1 n1)) i).1)), (4, .inl (optI (amax (coverF F.1 n1) (some (leftS F.1 n1)) i).2)), (5, .inl (nI i))]) (fun i _ τ => Fr P2 σ τ ∧ RepM (τ 5 0) F.1) ?_ ?_ (Sn F.1) 0 () _ (by omega) ⟨(fr_trans fr_rfl f88), r88⟩
    · intro i _ τ hi hI hk
      obtain ⟨hS1, hR1⟩ := hI
      have hi8 : i < 8 := by omega
      have e7t := hR1.1.1
      have ho8 := amax_le (f := (coverF F.1 n1)) (m0 := (some (leftS F.1 n1))) coverF_le (some_le (leftS_le _ _)) i
      have hv8 := leftS_le (withT F.1 (fu (Stw F.1) i true)) n1
      by_cases hc : above (amax (coverF F.1 n1) (some (leftS F.1 n1)) i).2 (leftS (withT F.1 (fu (Stw F.1) i true)) n1) = true
      · skip
        have hfi : coverF F.1 n1 i = some (leftS (withT F.1 (fu (Stw F.1) i true)) n1) := by
          cases hx : coverF F.1 n1 i with
          | some v => rw [cover_some hx]
          | none =>
            obtain ⟨m, q1, q2⟩ := amax_base (f := coverF F.1 n1) (b0 := leftS F.1 n1) i
            rw [q1, cover_no hx] at hc
            have := of_decide_eq_true hc
            omega
        have hst : (amax (coverF F.1 n1) (some (leftS F.1 n1)) (i + 1)) = (some i, some (leftS (withT F.1 (fu (Stw F.1) i true)) n1)) := amax_up hfi hc
        refine AW.run 3 [] (34, [(0, .inr (.inr (5, 0, 0))), (1, .inl (nI n1)), (3, .inl (optI (amax (coverF F.1 n1) (some (leftS F.1 n1)) i).1)), (4, .inl (optI (amax (coverF F.1 n1) (some (leftS F.1 n1)) i).2)), (5, .inl (nI i))], [.inl (τ 5 0 0 7), .inl (nI i)], τ) [] rfl ?_ ?_
        · exact trivial
        rw [e7t]
        refine AW.run 5 [false] (44, [(0, .inr (.inr (5, 0, 0))), (1, .inl (nI n1)), (3, .inl (optI (amax (coverF F.1 n1) (some (leftS F.1 n1)) i).1)), (4, .inl (optI (amax (coverF F.1 n1) (some (leftS F.1 n1)) i).2)), (5, .inl (nI i))], [.inl (τ 5 0 7 (nI i).toNatClampNeg)], τ) [¬ icP .ge (nI i) (nI (Sn F.1)), vp_in (nI i) 8] rfl ?_ ?_
        · exact ⟨(nI_ge hi (by omega)), allP1 (by first | assumption | exact in8 (by omega))⟩
        rw [cl8 (k := i) hi8, (hR1.2 i hi).2.2.2.2.2]
        refine AW.run 6 [] (54, [(6, .inl (if Stw F.1 i = true then 1 else 0)), (0, .inr (.inr (5, 0, 0))), (1, .inl (nI n1)), (3, .inl (optI (amax (coverF F.1 n1) (some (leftS F.1 n1)) i).1)), (4, .inl (optI (amax (coverF F.1 n1) (some (leftS F.1 n1)) i).2)), (5, .inl (nI i))], [], (setM τ 5 0 7 (nI i).toNatClampNeg 1)) [vp_in (nI i) 8] rfl ?_ ?_
        · exact allP1 (by first | assumption | exact in8 (by omega))
        rw [cl8 (k := i) hi8]
        obtain ⟨τ89, e89⟩ : ∃ x, x = setM τ 5 0 7 i 1 := ⟨_, rfl⟩
        rw [← e89]
        have r89 : RepM (τ89 5 0) (withT F.1 (fu (Stw F.1) i true)) := by rw [e89]; exact (repM_t (b := true) hR1)
        have f89 : Fr P1 τ τ89 := by rw [e89]; exact fr_set fr_rfl (by unfold P1; omega)
        refine AW.run 2 [] (56, [(6, .inl (if Stw F.1 i = true then 1 else 0)), (0, .inr (.inr (5, 0, 0))), (1, .inl (nI n1)), (3, .inl (optI (amax (coverF F.1 n1) (some (leftS F.1 n1)) i).1)), (4, .inl (optI (amax (coverF F.1 n1) (some (leftS F.1 n1)) i).2)), (5, .inl (nI i))], [.inl (nI n1), .inr (.inr (5, 0, 0))], τ89) [] rfl ?_ ?_
        · exact trivial
        refine AW.callVI (d' := 6) [.inl (nI n1)] [] ⟨_, rfl⟩ f_6_leftIn v_6_leftIn l_6_228 ⟨rfl, by decide⟩ rfl (Nat.le_of_ble_eq_true rfl) rfl (Nat.le_of_ble_eq_true rfl) (c6_leftIn (withT F.1 (fu (Stw F.1) i true)) τ89 r89 (SOK_t hO hi) n1 (by omega)) ?_
        rintro _ τ90 ⟨rfl, f90, r90⟩
        refine AW.run 6 [] (70, [(7, .inl (nI (leftS (withT F.1 (fu (Stw F.1) i true)) n1))), (6, .inl (if Stw F.1 i = true then 1 else 0)), (0, .inr (.inr (5, 0, 0))), (1, .inl (nI n1)), (3, .inl (optI (amax (coverF F.1 n1) (some (leftS F.1 n1)) i).1)), (4, .inl (optI (amax (coverF F.1 n1) (some (leftS F.1 n1)) i).2)), (5, .inl (nI i))], [], (setM τ90 5 0 7 (nI i).toNatClampNeg (if Stw F.1 i = true then 1 else 0))) [vp_in (nI i) 8] rfl ?_ ?_
        · exact allP1 (by first | assumption | exact in8 (by omega))
        rw [cl8 (k := i) hi8]
        obtain ⟨τ91, e91⟩ : ∃ x, x = setM τ90 5 0 7 i (if Stw F.1 i = true then 1 else 0) := ⟨_, rfl⟩
        rw [← e91]
        have r91 : RepM (τ91 5 0) F.1 := by rw [e91]; exact (repM_tb r90)
        have f91 : Fr P1 τ90 τ91 := by rw [e91]; exact fr_set fr_rfl (by unfold P1; omega)
        refine AW.run 9 [true] (28, [(5, .inl ((nI i) + 1)), (4, .inl (nI (leftS (withT F.1 (fu (Stw F.1) i true)) n1))), (3, .inl (nI i)), (7, .inl (nI (leftS (withT F.1 (fu (Stw F.1) i true)) n1))), (6, .inl (if Stw F.1 i = true then 1 else 0)), (0, .inr (.inr (5, 0, 0))), (1, .inl (nI n1))], [], τ91) [icP .gt (nI (leftS (withT F.1 (fu (Stw F.1) i true)) n1)) (optI (amax (coverF F.1 n1) (some (leftS F.1 n1)) i).2)] rfl ?_ ?_
        · exact allP1 (gt_yes hv8 ho8 hc)
        rw [nI_1 i]
        refine AW.pick [5, 6, 2, 1, 0] (ls' := [(0, .inr (.inr (5, 0, 0))), (1, .inl (nI n1)), (3, .inl (nI i)), (4, .inl (nI (leftS (withT F.1 (fu (Stw F.1) i true)) n1))), (5, .inl (nI (i + 1)))]) rfl ?_
        have hk2 := hk () τ91 ⟨(fr_trans (fr_trans (fr_trans hS1 (fr_12 f89)) f90) (fr_12 f91)), r91⟩
        rw [hst] at hk2
        exact hk2
      · skip
        have hst : (amax (coverF F.1 n1) (some (leftS F.1 n1)) (i + 1)) = (amax (coverF F.1 n1) (some (leftS F.1 n1)) i) := amax_stay (fun v q => by rw [cover_some q]; exact Bool.eq_false_iff.mpr hc)
        refine AW.run 3 [] (34, [(0, .inr (.inr (5, 0, 0))), (1, .inl (nI n1)), (3, .inl (optI (amax (coverF F.1 n1) (some (leftS F.1 n1)) i).1)), (4, .inl (optI (amax (coverF F.1 n1) (some (leftS F.1 n1)) i).2)), (5, .inl (nI i))], [.inl (τ 5 0 0 7), .inl (nI i)], τ) [] rfl ?_ ?_
        · exact trivial
        rw [e7t]
        refine AW.run 5 [false] (44, [(0, .inr (.inr (5, 0, 0))), (1, .inl (nI n1)), (3, .inl (optI (amax (coverF F.1 n1) (some (leftS F.1 n1)) i).1)), (4, .inl (optI (amax (coverF F.1 n1) (some (leftS F.1 n1)) i).2)), (5, .inl (nI i))], [.inl (τ 5 0 7 (nI i).toNatClampNeg)], τ) [¬ icP .ge (nI i) (nI (Sn F.1)), vp_in (nI i) 8] rfl ?_ ?_
        · exact ⟨(nI_ge hi (by omega)), allP1 (by first | assumption | exact in8 (by omega))⟩
        rw [cl8 (k := i) hi8, (hR1.2 i hi).2.2.2.2.2]
        refine AW.run 6 [] (54, [(6, .inl (if Stw F.1 i = true then 1 else 0)), (0, .inr (.inr (5, 0, 0))), (1, .inl (nI n1)), (3, .inl (optI (amax (coverF F.1 n1) (some (leftS F.1 n1)) i).1)), (4, .inl (optI (amax (coverF F.1 n1) (some (leftS F.1 n1)) i).2)), (5, .inl (nI i))], [], (setM τ 5 0 7 (nI i).toNatClampNeg 1)) [vp_in (nI i) 8] rfl ?_ ?_
        · exact allP1 (by first | assumption | exact in8 (by omega))
        rw [cl8 (k := i) hi8]
        obtain ⟨τ92, e92⟩ : ∃ x, x = setM τ 5 0 7 i 1 := ⟨_, rfl⟩
        rw [← e92]
        have r92 : RepM (τ92 5 0) (withT F.1 (fu (Stw F.1) i true)) := by rw [e92]; exact (repM_t (b := true) hR1)
        have f92 : Fr P1 τ τ92 := by rw [e92]; exact fr_set fr_rfl (by unfold P1; omega)
        refine AW.run 2 [] (56, [(6, .inl (if Stw F.1 i = true then 1 else 0)), (0, .inr (.inr (5, 0, 0))), (1, .inl (nI n1)), (3, .inl (optI (amax (coverF F.1 n1) (some (leftS F.1 n1)) i).1)), (4, .inl (optI (amax (coverF F.1 n1) (some (leftS F.1 n1)) i).2)), (5, .inl (nI i))], [.inl (nI n1), .inr (.inr (5, 0, 0))], τ92) [] rfl ?_ ?_
        · exact trivial
        refine AW.callVI (d' := 6) [.inl (nI n1)] [] ⟨_, rfl⟩ f_6_leftIn v_6_leftIn l_6_228 ⟨rfl, by decide⟩ rfl (Nat.le_of_ble_eq_true rfl) rfl (Nat.le_of_ble_eq_true rfl) (c6_leftIn (withT F.1 (fu (Stw F.1) i true)) τ92 r92 (SOK_t hO hi) n1 (by omega)) ?_
        rintro _ τ93 ⟨rfl, f93, r93⟩
        refine AW.run 6 [] (70, [(7, .inl (nI (leftS (withT F.1 (fu (Stw F.1) i true)) n1))), (6, .inl (if Stw F.1 i = true then 1 else 0)), (0, .inr (.inr (5, 0, 0))), (1, .inl (nI n1)), (3, .inl (optI (amax (coverF F.1 n1) (some (leftS F.1 n1)) i).1)), (4, .inl (optI (amax (coverF F.1 n1) (some (leftS F.1 n1)) i).2)), (5, .inl (nI i))], [], (setM τ93 5 0 7 (nI i).toNatClampNeg (if Stw F.1 i = true then 1 else 0))) [vp_in (nI i) 8] rfl ?_ ?_
        · exact allP1 (by first | assumption | exact in8 (by omega))
        rw [cl8 (k := i) hi8]
        obtain ⟨τ94, e94⟩ : ∃ x, x = setM τ93 5 0 7 i (if Stw F.1 i = true then 1 else 0) := ⟨_, rfl⟩
        rw [← e94]
        have r94 : RepM (τ94 5 0) F.1 := by rw [e94]; exact (repM_tb r93)
        have f94 : Fr P1 τ93 τ94 := by rw [e94]; exact fr_set fr_rfl (by unfold P1; omega)
        refine AW.run 6 [false] (28, [(5, .inl ((nI i) + 1)), (7, .inl (nI (leftS (withT F.1 (fu (Stw F.1) i true)) n1))), (6, .inl (if Stw F.1 i = true then 1 else 0)), (0, .inr (.inr (5, 0, 0))), (1, .inl (nI n1)), (3, .inl (optI (amax (coverF F.1 n1) (some (leftS F.1 n1)) i).1)), (4, .inl (optI (amax (coverF F.1 n1) (some (leftS F.1 n1)) i).2))], [], τ94) [¬ icP .gt (nI (leftS (withT F.1 (fu (Stw F.1) i true)) n1)) (optI (amax (coverF F.1 n1) (some (leftS F.1 n1)) i).2)] rfl ?_ ?_
        · exact allP1 (gt_no hv8 ho8 hc)
        rw [nI_1 i]
        refine AW.pick [3, 4, 5, 6, 0] (ls' := [(0, .inr (.inr (5, 0, 0))), (1, .inl (nI n1)), (3, .inl (optI (amax (coverF F.1 n1) (some (leftS F.1 n1)) i).1)), (4, .inl (optI (amax (coverF F.1 n1) (some (leftS F.1 n1)) i).2)), (5, .inl (nI (i + 1)))]) rfl ?_
        have hk2 := hk () τ94 ⟨(fr_trans (fr_trans (fr_trans hS1 (fr_12 f92)) f93) (fr_12 f94)), r94⟩
        rw [hst] at hk2
        exact hk2
    · intro _ τ hI
      obtain ⟨hS1, hR1⟩ := hI
      have e7t := hR1.1.1
      have hA8 : (amax (coverF F.1 n1) (some (leftS F.1 n1)) (Sn F.1)) = (amax (coverF F.1 n1) (some (leftS F.1 n1)) 8) := (amax_out (fun i h => if_neg (by rw [w_out hO i h]; exact fun q => absurd q.1 (by decide))) 8 hn8).symm
      refine AW.run 3 [] (34, [(0, .inr (.inr (5, 0, 0))), (1, .inl (nI n1)), (3, .inl (optI (amax (coverF F.1 n1) (some (leftS F.1 n1)) (Sn F.1)).1)), (4, .inl (optI (amax (coverF F.1 n1) (some (leftS F.1 n1)) (Sn F.1)).2)), (5, .inl (nI (Sn F.1)))], [.inl (τ 5 0 0 7), .inl (nI (Sn F.1))], τ) [] rfl ?_ ?_
      · exact trivial
      rw [e7t]
      refine AW.run 2 [true] (94, [(0, .inr (.inr (5, 0, 0))), (1, .inl (nI n1)), (3, .inl (optI (amax (coverF F.1 n1) (some (leftS F.1 n1)) (Sn F.1)).1)), (4, .inl (optI (amax (coverF F.1 n1) (some (leftS F.1 n1)) (Sn F.1)).2)), (5, .inl (nI (Sn F.1)))], [.inl (optI (amax (coverF F.1 n1) (some (leftS F.1 n1)) (Sn F.1)).1)], τ) [icP .ge (nI (Sn F.1)) (nI (Sn F.1))] rfl ?_ ?_
      · exact allP1 (nI_le (Nat.le_refl _) (by omega))
      refine AW.reti ⟨_, rfl⟩ rfl ?_
      exact ⟨F, (by unfold towelP; rw [maxP_e0 en1 (by omega)]; rw [hA8]; rfl), QD_fr hF hS1 hD hR1⟩
set_option maxHeartbeats 4000000 in
set_option maxRecDepth 100000 in
theorem d6_out (F : Gv) (σ : St) (hD : RepD σ F) (hG : GOK F) (n : Int32) : Ct M6_out 7 [.inr (.inr (5, 0, 0)), .inl n] σ (QD σ (outP F n)) := by
  refine Ct.of f_6_out (Nat.le_of_ble_eq_true rfl) ?_
  show AW M6_out 7 _ (0, [(0, .inr (.inr (5, 0, 0))), (1, .inl n)], [], σ)
  have hF : FOK F := hG.1
  have hR : RepM (σ 5 0) F.1 := hD.1
  have hO : SOK F.1 := hF.1.1
  have hn8 : Sn F.1 ≤ 8 := hO.1
  have e7 := hR.1.1
  rcases fMax_or 60 (by decide) n with ⟨h4n1, en1⟩ | ⟨h4n1, h6n1, en1⟩ | ⟨n1, hn1, rfl, en1⟩
  · skip
    refine AW.run 1 [] (1, [(0, .inr (.inr (5, 0, 0))), (1, .inl n)], [.inl n], σ) [] rfl ?_ ?_
    · exact trivial
    refine AW.callSI (d' := 1) [.inl n] [] ⟨_, rfl⟩ f_6_notDays s_6_notDays l_6_209 rfl (Nat.le_of_ble_eq_true rfl) rfl (Nat.le_of_ble_eq_true rfl) (c6_notDays4 n h4n1 σ) ?_
    rintro _ _ ⟨rfl, rfl⟩
    refine AW.run 5 [false] (11, [(2, .inl (-4)), (0, .inr (.inr (5, 0, 0))), (1, .inl n)], [.inl (-4), .inr (.inr (5, 0, 0))], σ) [¬ icP .eq ((-4) : Int32) 0] rfl ?_ ?_
    · exact allP1 (by decide : ¬ (((-4) : Int32) = 0))
    refine AW.callVI (d' := 0) [.inl (-4)] [] ⟨_, rfl⟩ f_6_no v_6_no l_6_69 ⟨rfl, by decide⟩ rfl (Nat.le_of_ble_eq_true rfl) rfl (Nat.le_of_ble_eq_true rfl) (c6_no4 σ) ?_
    rintro _ _ ⟨rfl, rfl⟩
    refine AW.reti ⟨_, rfl⟩ rfl ?_
    exact ⟨rfuF F 4, (by unfold outP; rw [maxP_e4 en1]; try rfl), RepD_ref hF hD (by decide) (by decide)⟩
  · skip
    refine AW.run 1 [] (1, [(0, .inr (.inr (5, 0, 0))), (1, .inl n)], [.inl n], σ) [] rfl ?_ ?_
    · exact trivial
    refine AW.callSI (d' := 1) [.inl n] [] ⟨_, rfl⟩ f_6_notDays s_6_notDays l_6_209 rfl (Nat.le_of_ble_eq_true rfl) rfl (Nat.le_of_ble_eq_true rfl) (c6_notDays6 n h4n1 h6n1 σ) ?_
    rintro _ _ ⟨rfl, rfl⟩
    refine AW.run 5 [false] (11, [(2, .inl (-6)), (0, .inr (.inr (5, 0, 0))), (1, .inl n)], [.inl (-6), .inr (.inr (5, 0, 0))], σ) [¬ icP .eq ((-6) : Int32) 0] rfl ?_ ?_
    · exact allP1 (by decide : ¬ (((-6) : Int32) = 0))
    refine AW.callVI (d' := 0) [.inl (-6)] [] ⟨_, rfl⟩ f_6_no v_6_no l_6_69 ⟨rfl, by decide⟩ rfl (Nat.le_of_ble_eq_true rfl) rfl (Nat.le_of_ble_eq_true rfl) (c6_no6 σ) ?_
    rintro _ _ ⟨rfl, rfl⟩
    refine AW.reti ⟨_, rfl⟩ rfl ?_
    exact ⟨rfuF F 6, (by unfold outP; rw [maxP_e6 en1]; try rfl), RepD_ref hF hD (by decide) (by decide)⟩
  · skip
    have nln1 : ¬ nI n1 < 0 := nlt0 (by omega)
    have nmn1 : ¬ nI 60 < nI n1 := nI_nlt hn1 (by decide)
    refine AW.run 1 [] (1, [(0, .inr (.inr (5, 0, 0))), (1, .inl (nI n1))], [.inl (nI n1)], σ) [] rfl ?_ ?_
    · exact trivial
    refine AW.callSI (d' := 1) [.inl (nI n1)] [] ⟨_, rfl⟩ f_6_notDays s_6_notDays l_6_209 rfl (Nat.le_of_ble_eq_true rfl) rfl (Nat.le_of_ble_eq_true rfl) (c6_notDays0 (nI n1) nln1 nmn1 σ) ?_
    rintro _ _ ⟨rfl, rfl⟩
    refine AW.run 7 [true] (20, [(3, .inl (-9)), (2, .inl 0), (0, .inr (.inr (5, 0, 0))), (1, .inl (nI n1))], [.inl (nI n1), .inr (.inr (5, 0, 0))], σ) [icP .eq (0 : Int32) 0] rfl ?_ ?_
    · exact allP1 (by decide : ((0 : Int32) = 0))
    refine AW.callVI (d' := 6) [.inl (nI n1)] [] ⟨_, rfl⟩ f_6_leftIn v_6_leftIn l_6_228 ⟨rfl, by decide⟩ rfl (Nat.le_of_ble_eq_true rfl) rfl (Nat.le_of_ble_eq_true rfl) (c6_leftIn F.1 σ hR hO n1 (by omega)) ?_
    rintro _ τ95 ⟨rfl, f95, r95⟩
    refine AW.run 3 [] (28, [(5, .inl 0), (4, .inl (nI (leftS F.1 n1))), (3, .inl (-9)), (2, .inl 0), (0, .inr (.inr (5, 0, 0))), (1, .inl (nI n1))], [], τ95) [] rfl ?_ ?_
    · exact trivial
    refine AW.pick [4, 5, 2, 1, 0] (ls' := [(0, .inr (.inr (5, 0, 0))), (1, .inl (nI n1)), (3, .inl (optI (amax (outF F.1 n1) (some (leftS F.1 n1)) 0).1)), (4, .inl (optI (amax (outF F.1 n1) (some (leftS F.1 n1)) 0).2)), (5, .inl (nI 0))]) rfl ?_
    refine AW.loop (α := Unit) 28 (Sn F.1) (fun i _ => [(0, .inr (.inr (5, 0, 0))), (1, .inl (nI n1)), (3, .inl (optI (amax (outF F.1 n1) (some (leftS F.1 n1)) i).1)), (4, .inl (optI (amax (outF F.1 n1) (some (leftS F.1 n1)) i).2)), (5, .inl (nI i))]) (fun i _ τ => Fr P2 σ τ ∧ RepM (τ 5 0) F.1) ?_ ?_ (Sn F.1) 0 () _ (by omega) ⟨(fr_trans fr_rfl f95), r95⟩
    · intro i _ τ hi hI hk
      obtain ⟨hS1, hR1⟩ := hI
      have hi8 : i < 8 := by omega
      have e7t := hR1.1.1
      have ho8 := amax_le (f := (outF F.1 n1)) (m0 := (some (leftS F.1 n1))) outF_le (some_le (leftS_le _ _)) i
      cases hw : Sw F.1 i
      · have hst : (amax (outF F.1 n1) (some (leftS F.1 n1)) (i + 1)) = (amax (outF F.1 n1) (some (leftS F.1 n1)) i) := stay_none (if_neg (by rw [hw]; decide))
        refine AW.run 3 [] (34, [(0, .inr (.inr (5, 0, 0))), (1, .inl (nI n1)), (3, .inl (optI (amax (outF F.1 n1) (some (leftS F.1 n1)) i).1)), (4, .inl (optI (amax (outF F.1 n1) (some (leftS F.1 n1)) i).2)), (5, .inl (nI i))], [.inl (τ 5 0 0 7), .inl (nI i)], τ) [] rfl ?_ ?_
        · exact trivial
        rw [e7t]
        refine AW.run 3 [false] (40, [(0, .inr (.inr (5, 0, 0))), (1, .inl (nI n1)), (3, .inl (optI (amax (outF F.1 n1) (some (leftS F.1 n1)) i).1)), (4, .inl (optI (amax (outF F.1 n1) (some (leftS F.1 n1)) i).2)), (5, .inl (nI i))], [.inl (nI i), .inr (.inr (5, 0, 0))], τ) [¬ icP .ge (nI i) (nI (Sn F.1))] rfl ?_ ?_
        · exact allP1 (nI_ge hi (by omega))
        refine AW.callVI (d' := 0) [.inl (nI i)] [] ⟨_, rfl⟩ f_6_isWhole v_6_isWhole l_6_108 ⟨rfl, by decide⟩ rfl (Nat.le_of_ble_eq_true rfl) rfl (Nat.le_of_ble_eq_true rfl) (c6_isWhole F.1 τ hR1 hO.1 i hi) ?_
        rintro v _ ⟨rfl, hv⟩
        obtain rfl : v = 0 := by
          rcases hv with h | h
          · exact absurd (hw.symm.trans h.2) (by decide)
          · exact h.1
        refine AW.run 4 [false] (28, [(5, .inl ((nI i) + 1)), (0, .inr (.inr (5, 0, 0))), (1, .inl (nI n1)), (3, .inl (optI (amax (outF F.1 n1) (some (leftS F.1 n1)) i).1)), (4, .inl (optI (amax (outF F.1 n1) (some (leftS F.1 n1)) i).2))], [], τ) [¬ icP .ne (0 : Int32) 0] rfl ?_ ?_
        · exact allP1 (by decide : ¬ (¬ (0 : Int32) = 0))
        rw [nI_1 i]
        refine AW.pick [1, 2, 3, 4, 0] (ls' := [(0, .inr (.inr (5, 0, 0))), (1, .inl (nI n1)), (3, .inl (optI (amax (outF F.1 n1) (some (leftS F.1 n1)) i).1)), (4, .inl (optI (amax (outF F.1 n1) (some (leftS F.1 n1)) i).2)), (5, .inl (nI (i + 1)))]) rfl ?_
        have hk2 := hk () τ ⟨hS1, hR1⟩
        rw [hst] at hk2
        exact hk2
      · have hfi : outF F.1 n1 i = some (leftS (withQ F.1 (fu (Sq F.1) i 0)) n1) := if_pos hw
        have hv8 := leftS_le (withQ F.1 (fu (Sq F.1) i 0)) n1
        by_cases hc : above (amax (outF F.1 n1) (some (leftS F.1 n1)) i).2 (leftS (withQ F.1 (fu (Sq F.1) i 0)) n1) = true
        · have hst : (amax (outF F.1 n1) (some (leftS F.1 n1)) (i + 1)) = (some i, some (leftS (withQ F.1 (fu (Sq F.1) i 0)) n1)) := amax_up hfi hc
          refine AW.run 3 [] (34, [(0, .inr (.inr (5, 0, 0))), (1, .inl (nI n1)), (3, .inl (optI (amax (outF F.1 n1) (some (leftS F.1 n1)) i).1)), (4, .inl (optI (amax (outF F.1 n1) (some (leftS F.1 n1)) i).2)), (5, .inl (nI i))], [.inl (τ 5 0 0 7), .inl (nI i)], τ) [] rfl ?_ ?_
          · exact trivial
          rw [e7t]
          refine AW.run 3 [false] (40, [(0, .inr (.inr (5, 0, 0))), (1, .inl (nI n1)), (3, .inl (optI (amax (outF F.1 n1) (some (leftS F.1 n1)) i).1)), (4, .inl (optI (amax (outF F.1 n1) (some (leftS F.1 n1)) i).2)), (5, .inl (nI i))], [.inl (nI i), .inr (.inr (5, 0, 0))], τ) [¬ icP .ge (nI i) (nI (Sn F.1))] rfl ?_ ?_
          · exact allP1 (nI_ge hi (by omega))
          refine AW.callVI (d' := 0) [.inl (nI i)] [] ⟨_, rfl⟩ f_6_isWhole v_6_isWhole l_6_108 ⟨rfl, by decide⟩ rfl (Nat.le_of_ble_eq_true rfl) rfl (Nat.le_of_ble_eq_true rfl) (c6_isWhole F.1 τ hR1 hO.1 i hi) ?_
          rintro v _ ⟨rfl, hv⟩
          obtain rfl : v = 1 := by
            rcases hv with h | h
            · exact h.1
            · exact absurd (hw.symm.trans h.2) (by decide)
          refine AW.run 5 [true] (56, [(0, .inr (.inr (5, 0, 0))), (1, .inl (nI n1)), (3, .inl (optI (amax (outF F.1 n1) (some (leftS F.1 n1)) i).1)), (4, .inl (optI (amax (outF F.1 n1) (some (leftS F.1 n1)) i).2)), (5, .inl (nI i))], [.inl (τ 5 0 5 (nI i).toNatClampNeg)], τ) [icP .ne (1 : Int32) 0, vp_in (nI i) 8] rfl ?_ ?_
          · exact ⟨(by decide : (¬ (1 : Int32) = 0)), allP1 (by first | assumption | exact in8 (by omega))⟩
          rw [cl8 (k := i) hi8, (hR1.2 i hi).2.2.2.1]
          refine AW.run 6 [] (66, [(6, .inl (nI (Sq F.1 i))), (0, .inr (.inr (5, 0, 0))), (1, .inl (nI n1)), (3, .inl (optI (amax (outF F.1 n1) (some (leftS F.1 n1)) i).1)), (4, .inl (optI (amax (outF F.1 n1) (some (leftS F.1 n1)) i).2)), (5, .inl (nI i))], [], (setM τ 5 0 5 (nI i).toNatClampNeg 0)) [vp_in (nI i) 8] rfl ?_ ?_
          · exact allP1 (by first | assumption | exact in8 (by omega))
          rw [cl8 (k := i) hi8]
          obtain ⟨τ96, e96⟩ : ∃ x, x = setM τ 5 0 5 i 0 := ⟨_, rfl⟩
          rw [← e96]
          have r96 : RepM (τ96 5 0) (withQ F.1 (fu (Sq F.1) i 0)) := by rw [e96]; exact (repM_q (q := 0) hR1)
          have f96 : Fr P1 τ τ96 := by rw [e96]; exact fr_set fr_rfl (by unfold P1; omega)
          refine AW.run 2 [] (68, [(6, .inl (nI (Sq F.1 i))), (0, .inr (.inr (5, 0, 0))), (1, .inl (nI n1)), (3, .inl (optI (amax (outF F.1 n1) (some (leftS F.1 n1)) i).1)), (4, .inl (optI (amax (outF F.1 n1) (some (leftS F.1 n1)) i).2)), (5, .inl (nI i))], [.inl (nI n1), .inr (.inr (5, 0, 0))], τ96) [] rfl ?_ ?_
          · exact trivial
          refine AW.callVI (d' := 6) [.inl (nI n1)] [] ⟨_, rfl⟩ f_6_leftIn v_6_leftIn l_6_228 ⟨rfl, by decide⟩ rfl (Nat.le_of_ble_eq_true rfl) rfl (Nat.le_of_ble_eq_true rfl) (c6_leftIn (withQ F.1 (fu (Sq F.1) i 0)) τ96 r96 (SOK_q hO hi (by decide)) n1 (by omega)) ?_
          rintro _ τ97 ⟨rfl, f97, r97⟩
          refine AW.run 6 [] (82, [(7, .inl (nI (leftS (withQ F.1 (fu (Sq F.1) i 0)) n1))), (6, .inl (nI (Sq F.1 i))), (0, .inr (.inr (5, 0, 0))), (1, .inl (nI n1)), (3, .inl (optI (amax (outF F.1 n1) (some (leftS F.1 n1)) i).1)), (4, .inl (optI (amax (outF F.1 n1) (some (leftS F.1 n1)) i).2)), (5, .inl (nI i))], [], (setM τ97 5 0 5 (nI i).toNatClampNeg (nI (Sq F.1 i)))) [vp_in (nI i) 8] rfl ?_ ?_
          · exact allP1 (by first | assumption | exact in8 (by omega))
          rw [cl8 (k := i) hi8]
          obtain ⟨τ98, e98⟩ : ∃ x, x = setM τ97 5 0 5 i (nI (Sq F.1 i)) := ⟨_, rfl⟩
          rw [← e98]
          have r98 : RepM (τ98 5 0) F.1 := by rw [e98]; exact (repM_qb r97)
          have f98 : Fr P1 τ97 τ98 := by rw [e98]; exact fr_set fr_rfl (by unfold P1; omega)
          refine AW.run 9 [true] (28, [(5, .inl ((nI i) + 1)), (4, .inl (nI (leftS (withQ F.1 (fu (Sq F.1) i 0)) n1))), (3, .inl (nI i)), (7, .inl (nI (leftS (withQ F.1 (fu (Sq F.1) i 0)) n1))), (6, .inl (nI (Sq F.1 i))), (0, .inr (.inr (5, 0, 0))), (1, .inl (nI n1))], [], τ98) [icP .gt (nI (leftS (withQ F.1 (fu (Sq F.1) i 0)) n1)) (optI (amax (outF F.1 n1) (some (leftS F.1 n1)) i).2)] rfl ?_ ?_
          · exact allP1 (gt_yes hv8 ho8 hc)
          rw [nI_1 i]
          refine AW.pick [5, 6, 2, 1, 0] (ls' := [(0, .inr (.inr (5, 0, 0))), (1, .inl (nI n1)), (3, .inl (nI i)), (4, .inl (nI (leftS (withQ F.1 (fu (Sq F.1) i 0)) n1))), (5, .inl (nI (i + 1)))]) rfl ?_
          have hk2 := hk () τ98 ⟨(fr_trans (fr_trans (fr_trans hS1 (fr_12 f96)) f97) (fr_12 f98)), r98⟩
          rw [hst] at hk2
          exact hk2
        · have hst : (amax (outF F.1 n1) (some (leftS F.1 n1)) (i + 1)) = (amax (outF F.1 n1) (some (leftS F.1 n1)) i) := stay_some hfi hc
          refine AW.run 3 [] (34, [(0, .inr (.inr (5, 0, 0))), (1, .inl (nI n1)), (3, .inl (optI (amax (outF F.1 n1) (some (leftS F.1 n1)) i).1)), (4, .inl (optI (amax (outF F.1 n1) (some (leftS F.1 n1)) i).2)), (5, .inl (nI i))], [.inl (τ 5 0 0 7), .inl (nI i)], τ) [] rfl ?_ ?_
          · exact trivial
          rw [e7t]
          refine AW.run 3 [false] (40, [(0, .inr (.inr (5, 0, 0))), (1, .inl (nI n1)), (3, .inl (optI (amax (outF F.1 n1) (some (leftS F.1 n1)) i).1)), (4, .inl (optI (amax (outF F.1 n1) (some (leftS F.1 n1)) i).2)), (5, .inl (nI i))], [.inl (nI i), .inr (.inr (5, 0, 0))], τ) [¬ icP .ge (nI i) (nI (Sn F.1))] rfl ?_ ?_
          · exact allP1 (nI_ge hi (by omega))
          refine AW.callVI (d' := 0) [.inl (nI i)] [] ⟨_, rfl⟩ f_6_isWhole v_6_isWhole l_6_108 ⟨rfl, by decide⟩ rfl (Nat.le_of_ble_eq_true rfl) rfl (Nat.le_of_ble_eq_true rfl) (c6_isWhole F.1 τ hR1 hO.1 i hi) ?_
          rintro v _ ⟨rfl, hv⟩
          obtain rfl : v = 1 := by
            rcases hv with h | h
            · exact h.1
            · exact absurd (hw.symm.trans h.2) (by decide)
          refine AW.run 5 [true] (56, [(0, .inr (.inr (5, 0, 0))), (1, .inl (nI n1)), (3, .inl (optI (amax (outF F.1 n1) (some (leftS F.1 n1)) i).1)), (4, .inl (optI (amax (outF F.1 n1) (some (leftS F.1 n1)) i).2)), (5, .inl (nI i))], [.inl (τ 5 0 5 (nI i).toNatClampNeg)], τ) [icP .ne (1 : Int32) 0, vp_in (nI i) 8] rfl ?_ ?_
          · exact ⟨(by decide : (¬ (1 : Int32) = 0)), allP1 (by first | assumption | exact in8 (by omega))⟩
          rw [cl8 (k := i) hi8, (hR1.2 i hi).2.2.2.1]
          refine AW.run 6 [] (66, [(6, .inl (nI (Sq F.1 i))), (0, .inr (.inr (5, 0, 0))), (1, .inl (nI n1)), (3, .inl (optI (amax (outF F.1 n1) (some (leftS F.1 n1)) i).1)), (4, .inl (optI (amax (outF F.1 n1) (some (leftS F.1 n1)) i).2)), (5, .inl (nI i))], [], (setM τ 5 0 5 (nI i).toNatClampNeg 0)) [vp_in (nI i) 8] rfl ?_ ?_
          · exact allP1 (by first | assumption | exact in8 (by omega))
          rw [cl8 (k := i) hi8]
          obtain ⟨τ99, e99⟩ : ∃ x, x = setM τ 5 0 5 i 0 := ⟨_, rfl⟩
          rw [← e99]
          have r99 : RepM (τ99 5 0) (withQ F.1 (fu (Sq F.1) i 0)) := by rw [e99]; exact (repM_q (q := 0) hR1)
          have f99 : Fr P1 τ τ99 := by rw [e99]; exact fr_set fr_rfl (by unfold P1; omega)
          refine AW.run 2 [] (68, [(6, .inl (nI (Sq F.1 i))), (0, .inr (.inr (5, 0, 0))), (1, .inl (nI n1)), (3, .inl (optI (amax (outF F.1 n1) (some (leftS F.1 n1)) i).1)), (4, .inl (optI (amax (outF F.1 n1) (some (leftS F.1 n1)) i).2)), (5, .inl (nI i))], [.inl (nI n1), .inr (.inr (5, 0, 0))], τ99) [] rfl ?_ ?_
          · exact trivial
          refine AW.callVI (d' := 6) [.inl (nI n1)] [] ⟨_, rfl⟩ f_6_leftIn v_6_leftIn l_6_228 ⟨rfl, by decide⟩ rfl (Nat.le_of_ble_eq_true rfl) rfl (Nat.le_of_ble_eq_true rfl) (c6_leftIn (withQ F.1 (fu (Sq F.1) i 0)) τ99 r99 (SOK_q hO hi (by decide)) n1 (by omega)) ?_
          rintro _ τ100 ⟨rfl, f100, r100⟩
          refine AW.run 6 [] (82, [(7, .inl (nI (leftS (withQ F.1 (fu (Sq F.1) i 0)) n1))), (6, .inl (nI (Sq F.1 i))), (0, .inr (.inr (5, 0, 0))), (1, .inl (nI n1)), (3, .inl (optI (amax (outF F.1 n1) (some (leftS F.1 n1)) i).1)), (4, .inl (optI (amax (outF F.1 n1) (some (leftS F.1 n1)) i).2)), (5, .inl (nI i))], [], (setM τ100 5 0 5 (nI i).toNatClampNeg (nI (Sq F.1 i)))) [vp_in (nI i) 8] rfl ?_ ?_
          · exact allP1 (by first | assumption | exact in8 (by omega))
          rw [cl8 (k := i) hi8]
          obtain ⟨τ101, e101⟩ : ∃ x, x = setM τ100 5 0 5 i (nI (Sq F.1 i)) := ⟨_, rfl⟩
          rw [← e101]
          have r101 : RepM (τ101 5 0) F.1 := by rw [e101]; exact (repM_qb r100)
          have f101 : Fr P1 τ100 τ101 := by rw [e101]; exact fr_set fr_rfl (by unfold P1; omega)
          refine AW.run 6 [false] (28, [(5, .inl ((nI i) + 1)), (7, .inl (nI (leftS (withQ F.1 (fu (Sq F.1) i 0)) n1))), (6, .inl (nI (Sq F.1 i))), (0, .inr (.inr (5, 0, 0))), (1, .inl (nI n1)), (3, .inl (optI (amax (outF F.1 n1) (some (leftS F.1 n1)) i).1)), (4, .inl (optI (amax (outF F.1 n1) (some (leftS F.1 n1)) i).2))], [], τ101) [¬ icP .gt (nI (leftS (withQ F.1 (fu (Sq F.1) i 0)) n1)) (optI (amax (outF F.1 n1) (some (leftS F.1 n1)) i).2)] rfl ?_ ?_
          · exact allP1 (gt_no hv8 ho8 hc)
          rw [nI_1 i]
          refine AW.pick [3, 4, 5, 6, 0] (ls' := [(0, .inr (.inr (5, 0, 0))), (1, .inl (nI n1)), (3, .inl (optI (amax (outF F.1 n1) (some (leftS F.1 n1)) i).1)), (4, .inl (optI (amax (outF F.1 n1) (some (leftS F.1 n1)) i).2)), (5, .inl (nI (i + 1)))]) rfl ?_
          have hk2 := hk () τ101 ⟨(fr_trans (fr_trans (fr_trans hS1 (fr_12 f99)) f100) (fr_12 f101)), r101⟩
          rw [hst] at hk2
          exact hk2
    · intro _ τ hI
      obtain ⟨hS1, hR1⟩ := hI
      have e7t := hR1.1.1
      have hA8 : (amax (outF F.1 n1) (some (leftS F.1 n1)) (Sn F.1)) = (amax (outF F.1 n1) (some (leftS F.1 n1)) 8) := (amax_out (fun i h => if_neg (by rw [w_out hO i h]; decide)) 8 hn8).symm
      refine AW.run 3 [] (34, [(0, .inr (.inr (5, 0, 0))), (1, .inl (nI n1)), (3, .inl (optI (amax (outF F.1 n1) (some (leftS F.1 n1)) (Sn F.1)).1)), (4, .inl (optI (amax (outF F.1 n1) (some (leftS F.1 n1)) (Sn F.1)).2)), (5, .inl (nI (Sn F.1)))], [.inl (τ 5 0 0 7), .inl (nI (Sn F.1))], τ) [] rfl ?_ ?_
      · exact trivial
      rw [e7t]
      refine AW.run 2 [true] (106, [(0, .inr (.inr (5, 0, 0))), (1, .inl (nI n1)), (3, .inl (optI (amax (outF F.1 n1) (some (leftS F.1 n1)) (Sn F.1)).1)), (4, .inl (optI (amax (outF F.1 n1) (some (leftS F.1 n1)) (Sn F.1)).2)), (5, .inl (nI (Sn F.1)))], [.inl (optI (amax (outF F.1 n1) (some (leftS F.1 n1)) (Sn F.1)).1)], τ) [icP .ge (nI (Sn F.1)) (nI (Sn F.1))] rfl ?_ ?_
      · exact allP1 (nI_le (Nat.le_refl _) (by omega))
      refine AW.reti ⟨_, rfl⟩ rfl ?_
      exact ⟨F, (by unfold outP; rw [maxP_e0 en1 (by omega)]; rw [hA8]; rfl), QD_fr hF hS1 hD hR1⟩
