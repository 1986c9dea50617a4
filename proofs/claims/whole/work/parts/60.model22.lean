/-! THE MODEL READS A CELLAR -/
def lnI (tp : Nat → Nat) (len r : Nat) : Int32 := if r < len then nI (tp r) else -1
theorem ln_lt {tp : Nat → Nat} {len r : Nat} (h : r < len) : lnI tp len r = nI (ltN tp len r) := by
  unfold lnI ltN; rw [if_pos h, if_pos h]
theorem ln_ge {tp : Nat → Nat} {len r : Nat} (h : ¬ r < len) : lnI tp len r = -1 ∧ ltN tp len r = 0 := by
  unfold lnI ltN; rw [if_neg h, if_neg h]; exact ⟨rfl, rfl⟩
theorem ln_dg {tp : Nat → Nat} {len r : Nat} (h : isDg (ltN tp len r) = true) : r < len ∧ lnI tp len r = nI (ltN tp len r) ∧ (48 : Int32) ≤ nI (ltN tp len r) ∧ nI (ltN tp len r) ≤ 57 ∧ 48 ≤ ltN tp len r ∧ ltN tp len r ≤ 57 := by
  have h9 := of_decide_eq_true h
  have hr : r < len := by
    apply Classical.byContradiction
    intro q
    rw [(ln_ge q).2] at h9
    omega
  exact ⟨hr, ln_lt hr, nI_le (a := 48) h9.1 (by omega), nI_le (b := 57) h9.2 (by decide), h9.1, h9.2⟩
theorem ln_nd {tp : Nat → Nat} {len r : Nat} (htp : ∀ i, tp i ≤ 255) (h : isDg (ltN tp len r) = false) : lnI tp len r < 48 ∨ (57 : Int32) < lnI tp len r := by
  have h9 := of_decide_eq_false h
  by_cases hr : r < len
  · rw [ln_lt hr]
    have := ltN_le (tp := tp) (len := len) (k := r) htp
    rcases (show ltN tp len r < 48 ∨ 57 < ltN tp len r by omega) with q | q
    · exact Or.inl (nI_lt (b := 48) q (by decide))
    · exact Or.inr (nI_lt (a := 57) q (by omega))
  · rw [(ln_ge hr).1]; exact Or.inl (by decide)
theorem ln_is {tp : Nat → Nat} {len r c : Nat} (htp : ∀ i, tp i ≤ 255) (hc : 0 < c) (hc2 : c ≤ 255) : lnI tp len r = nI c ↔ ltN tp len r = c := by
  by_cases hr : r < len
  · rw [ln_lt hr]
    have := ltN_le (tp := tp) (len := len) (k := r) htp
    exact ⟨fun q => nI_lit q (by omega) (by omega), fun q => by rw [q]⟩
  · rw [(ln_ge hr).1, (ln_ge hr).2]
    refine ⟨fun q => ?_, fun q => by omega⟩
    have := congrArg (fun x : Int32 => decide (x < 0)) q
    simp [nlt0 (show c < 2 ^ 31 by omega)] at this
theorem dg_0 {l : Nat} (h : 48 ≤ l ∧ l ≤ 57) : 0 + nI l - 48 = nI (l - 48) := by
  have h9 : ∀ l < 58, 48 ≤ l → 0 + nI l - 48 = nI (l - 48) := by decide +kernel
  exact h9 l (by omega) h.1
theorem dg_1 {a l : Nat} (ha : a ≤ 9) (h : 48 ≤ l ∧ l ≤ 57) : 10 * nI a + nI l - 48 = nI (10 * a + (l - 48)) := by
  have h9 : ∀ a < 10, ∀ l < 58, 48 ≤ l → 10 * nI a + nI l - 48 = nI (10 * a + (l - 48)) := by decide +kernel
  exact h9 a (by omega) l (by omega) h.1
theorem TapeD_mv {σ τ : St} {tp : Nat → Nat} {len : Nat} (h : TapeD σ tp len) (h1 : τ 5 0 0 15 = σ 5 0 0 15) (h2 : ∀ i, τ 5 0 12 i = σ 5 0 12 i) : TapeD τ tp len := ⟨h1.trans h.1, fun i hi => (h2 i).trans (h.2 i hi)⟩
def P7 (p j k : Nat) : Prop := (j = 0 ∧ k = 16) ∨ (j = 15 ∧ k = p)
def P8 (p j k : Nat) : Prop := (j = 0 ∧ k = 16) ∨ (j = 15 ∧ p ≤ k ∧ k < p + 3)
def P9 (st j k : Nat) : Prop := (j = 0 ∧ k = 16) ∨ (j = 13 ∧ k = st) ∨ (j = 14 ∧ k = st) ∨ (j = 15 ∧ 3 * st ≤ k ∧ k < 3 * st + 3)
def ToldD (m : Nat → Nat → Int32) (p : Nat) (tp : Nat → Nat) (len r l : Nat) : Prop :=
  (l = 98 → m 15 p = nI (dig tp len (r + 1)) ∧ m 15 (p + 1) = nI (dig tp len (r + 2)) ∧ m 15 (p + 2) = nI (num tp len (r + 3))) ∧ (l = 112 → m 15 p = nI (dig tp len (r + 1)) ∧ m 15 (p + 1) = nI (num tp len (r + 2))) ∧ (l = 117 → m 15 p = nI (dig tp len (r + 1)) ∧ m 15 (p + 1) = nI (dig tp len (r + 2))) ∧ (l = 100 → m 15 p = nI (num tp len (r + 1))) ∧ (l = 116 → m 15 p = nI (dig tp len (r + 1))) ∧ (l = 111 → m 15 p = nI (dig tp len (r + 1)))
theorem ds_s {tp : Nat → Nat} {len k p : Nat} (h : isDg (ltN tp len p) = true) : dsN tp len (k + 1) p = dsN tp len k (p + 1) := if_pos h
theorem ds_f {tp : Nat → Nat} {len k p : Nat} (h : isDg (ltN tp len p) = false) : dsN tp len (k + 1) p = (false, p) := if_neg (by rw [h]; decide)
theorem ds_0 {tp : Nat → Nat} {len p : Nat} : dsN tp len 0 p = (true, p) := rfl

set_option maxHeartbeats 4000000 in
set_option maxRecDepth 100000 in
theorem c6_letterNow (tp : Nat → Nat) (len : Nat) (hl : len ≤ 96) (htp : ∀ i, tp i ≤ 255) (σ : St) (hT : TapeD σ tp len) (r : Nat) (hr : r ≤ 999) (e16 : σ 5 0 0 16 = nI r) : Ct M6_letterNow 0 [.inr (.inr (5, 0, 0))] σ (PI fun r9 σ' => lnI tp len r = r9 ∧ σ = σ') := by
  refine Ct.of f_6_letterNow (Nat.le_of_ble_eq_true rfl) ?_
  show AW M6_letterNow 0 _ (0, [(0, .inr (.inr (5, 0, 0)))], [], σ)
  refine AW.run 2 [] (4, [(0, .inr (.inr (5, 0, 0)))], [.inl (σ 5 0 0 16)], σ) [] rfl ?_ ?_
  · exact trivial
  rw [e16]
  refine AW.run 2 [] (8, [(0, .inr (.inr (5, 0, 0)))], [.inl (σ 5 0 0 15), .inl (nI r)], σ) [] rfl ?_ ?_
  · exact trivial
  rw [hT.1]
  by_cases h8_1 : r < len
  · skip
    refine AW.run 5 [false] (19, [(0, .inr (.inr (5, 0, 0)))], [.inl (σ 5 0 0 16), .inr (.inr (5, 0, 12))], σ) [¬ icP .ge (nI r) (nI len)] rfl ?_ ?_
    · exact allP1 (nI_ge h8_1 (by omega))
    rw [e16]
    refine AW.run 1 [] (20, [(0, .inr (.inr (5, 0, 0)))], [.inl (σ 5 0 12 (nI r).toNatClampNeg)], σ) [vp_in (nI r) 96] rfl ?_ ?_
    · exact allP1 (by exact vp_in_nI (by omega) (by decide))
    rw [nI_clamp (n := r) (by omega), hT.2 r (by assumption)]
    refine AW.run 1 [] (24, [(0, .inr (.inr (5, 0, 0)))], [.inl (nI (tp r))], σ) [] rfl ?_ ?_
    · exact trivial
    refine AW.reti ⟨_, rfl⟩ rfl ?_
    exact ⟨by unfold lnI; first | rw [if_pos (by assumption)] | rw [if_neg (by assumption)], rfl⟩
  · skip
    refine AW.run 2 [true] (24, [(0, .inr (.inr (5, 0, 0)))], [.inl (-1)], σ) [icP .ge (nI r) (nI len)] rfl ?_ ?_
    · exact allP1 (nI_le (by omega) (by omega))
    refine AW.reti ⟨_, rfl⟩ rfl ?_
    exact ⟨by unfold lnI; first | rw [if_pos (by assumption)] | rw [if_neg (by assumption)], rfl⟩
set_option maxHeartbeats 4000000 in
set_option maxRecDepth 100000 in
theorem c6_rd1 (tp : Nat → Nat) (len : Nat) (hl : len ≤ 96) (htp : ∀ i, tp i ≤ 255) (σ : St) (hT : TapeD σ tp len) (r : Nat) (hr : r ≤ 900) (e16 : σ 5 0 0 16 = nI r) (p : Nat) (hp : p < 144) : Ct M6_readsDigits 2 [.inr (.inr (5, 0, 0)), .inl (nI p), .inl 1] σ (PI fun v σ' => Fr (P7 p) σ σ' ∧ ((v = 1 ∧ (∀ j, j < 1 → isDg (ltN tp len (r + j)) = true) ∧ σ' 5 0 0 16 = nI (r + 1) ∧ σ' 5 0 15 p = nI (dig tp len r)) ∨ (v = 0 ∧ ∃ q, dsN tp len 1 r = (false, q) ∧ σ' 5 0 0 16 = nI q))) := by
  refine Ct.of f_6_readsDigits (Nat.le_of_ble_eq_true rfl) ?_
  show AW M6_readsDigits 2 _ (0, [(0, .inr (.inr (5, 0, 0))), (1, .inl (nI p)), (2, .inl 1)], [], σ)
  cases h0 : isDg (ltN tp len r)
  · skip
    refine AW.run 8 [false] (12, [(4, .inl 0), (3, .inl 0), (0, .inr (.inr (5, 0, 0))), (1, .inl (nI p)), (2, .inl 1)], [.inr (.inr (5, 0, 0))], σ) [¬ icP .ge (0 : Int32) 1] rfl ?_ ?_
    · exact allP1 (by decide : ¬ ((1 : Int32) ≤ 0))
    refine AW.callVI (d' := 0) [] [] ⟨_, rfl⟩ f_6_letterNow v_6_letterNow l_6_76 ⟨rfl, by decide⟩ rfl (Nat.le_of_ble_eq_true rfl) rfl (Nat.le_of_ble_eq_true rfl) (c6_letterNow tp len hl htp σ hT r (by omega) e16) ?_
    rintro _ _ ⟨rfl, rfl⟩
    refine AW.run 2 [] (19, [(4, .inl 0), (3, .inl 0), (0, .inr (.inr (5, 0, 0))), (1, .inl (nI p)), (2, .inl 1)], [.inl 57, .inl 48, .inl (lnI tp len r)], σ) [] rfl ?_ ?_
    · exact trivial
    refine AW.callSI (d' := 0) [.inl (lnI tp len r), .inl 48, .inl 57] [] ⟨_, rfl⟩ f_6_isIn s_6_isIn l_6_80 rfl (Nat.le_of_ble_eq_true rfl) rfl (Nat.le_of_ble_eq_true rfl) (c6_isIn0 (lnI tp len r) 48 57 (ln_nd htp h0) σ) ?_
    rintro _ _ ⟨rfl, rfl⟩
    refine AW.run 2 [false] (26, [(4, .inl 0), (3, .inl 0), (0, .inr (.inr (5, 0, 0))), (1, .inl (nI p)), (2, .inl 1)], [.inl 0], σ) [¬ icP .ne (0 : Int32) 0] rfl ?_ ?_
    · exact allP1 (by decide : ¬ (¬ (0 : Int32) = 0))
    refine AW.retz ⟨_, rfl⟩ rfl (by decide) ?_
    exact ⟨fr_rfl, Or.inr ⟨rfl, r, ds_f h0, e16⟩⟩
  · have d0 := ln_dg h0
    refine AW.run 8 [false] (12, [(4, .inl 0), (3, .inl 0), (0, .inr (.inr (5, 0, 0))), (1, .inl (nI p)), (2, .inl 1)], [.inr (.inr (5, 0, 0))], σ) [¬ icP .ge (0 : Int32) 1] rfl ?_ ?_
    · exact allP1 (by decide : ¬ ((1 : Int32) ≤ 0))
    refine AW.callVI (d' := 0) [] [] ⟨_, rfl⟩ f_6_letterNow v_6_letterNow l_6_76 ⟨rfl, by decide⟩ rfl (Nat.le_of_ble_eq_true rfl) rfl (Nat.le_of_ble_eq_true rfl) (c6_letterNow tp len hl htp σ hT r (by omega) e16) ?_
    rintro _ _ ⟨rfl, rfl⟩
    rw [d0.2.1]
    refine AW.run 2 [] (19, [(4, .inl 0), (3, .inl 0), (0, .inr (.inr (5, 0, 0))), (1, .inl (nI p)), (2, .inl 1)], [.inl 57, .inl 48, .inl (nI (ltN tp len r))], σ) [] rfl ?_ ?_
    · exact trivial
    refine AW.callSI (d' := 0) [.inl (nI (ltN tp len r)), .inl 48, .inl 57] [] ⟨_, rfl⟩ f_6_isIn s_6_isIn l_6_80 rfl (Nat.le_of_ble_eq_true rfl) rfl (Nat.le_of_ble_eq_true rfl) (c6_isIn1 (nI (ltN tp len r)) 48 57 d0.2.2.1 d0.2.2.2.1 σ) ?_
    rintro _ _ ⟨rfl, rfl⟩
    refine AW.run 5 [true] (32, [(4, .inl 0), (3, .inl 0), (0, .inr (.inr (5, 0, 0))), (1, .inl (nI p)), (2, .inl 1)], [.inr (.inr (5, 0, 0)), .inl 0], σ) [icP .ne (1 : Int32) 0] rfl ?_ ?_
    · exact allP1 (by decide : (¬ (1 : Int32) = 0))
    refine AW.callVI (d' := 0) [] [.inl 0] ⟨_, rfl⟩ f_6_letterNow v_6_letterNow l_6_76 ⟨rfl, by decide⟩ rfl (Nat.le_of_ble_eq_true rfl) rfl (Nat.le_of_ble_eq_true rfl) (c6_letterNow tp len hl htp σ hT r (by omega) e16) ?_
    rintro _ _ ⟨rfl, rfl⟩
    rw [d0.2.1]
    refine AW.run 3 [] (39, [(4, .inl 0), (3, .inl 0), (0, .inr (.inr (5, 0, 0))), (1, .inl (nI p)), (2, .inl 1)], [.inl ((0 + (nI (ltN tp len r))) - 48)], σ) [] rfl ?_ ?_
    · exact trivial
    rw [dg_0 ⟨d0.2.2.2.2.1, d0.2.2.2.2.2⟩]
    rw [show ltN tp len r - 48 = dig tp len r from rfl]
    refine AW.run 4 [] (45, [(3, .inl (nI (dig tp len r))), (4, .inl 0), (0, .inr (.inr (5, 0, 0))), (1, .inl (nI p)), (2, .inl 1)], [.inl (σ 5 0 0 16), .inr (.inr (5, 0, 0))], σ) [] rfl ?_ ?_
    · exact trivial
    rw [e16]
    refine AW.run 2 [] (47, [(3, .inl (nI (dig tp len r))), (4, .inl 0), (0, .inr (.inr (5, 0, 0))), (1, .inl (nI p)), (2, .inl 1)], [.inl ((nI r) + 1), .inr (.inr (5, 0, 0))], σ) [] rfl ?_ ?_
    · exact trivial
    rw [nI_1]
    refine AW.run 1 [] (50, [(3, .inl (nI (dig tp len r))), (4, .inl 0), (0, .inr (.inr (5, 0, 0))), (1, .inl (nI p)), (2, .inl 1)], [], (setM σ 5 0 0 16 (nI (r + 1)))) [] rfl ?_ ?_
    · exact trivial
    obtain ⟨υ1, eυ1⟩ : ∃ x, x = (setM σ 5 0 0 16 (nI (r + 1))) := ⟨_, rfl⟩
    rw [← eυ1]
    have qυ1 : υ1 5 0 0 16 = nI (r + 1) := by rw [eυ1]; rw [setM_at, if_pos ⟨rfl, rfl⟩]
    have tυ1 : TapeD υ1 tp len := TapeD_mv hT (by rw [eυ1, setM_at, if_neg (by omega)]) (fun i => by rw [eυ1, setM_at, if_neg (by omega)])
    have gυ1 : Fr (P7 p) σ υ1 := by rw [eυ1]; exact (fr_set fr_rfl (by unfold P7; omega))
    refine AW.run 11 [true] (64, [(4, .inl 1), (3, .inl (nI (dig tp len r))), (0, .inr (.inr (5, 0, 0))), (1, .inl (nI p)), (2, .inl 1)], [.inl 1], (setM υ1 5 0 15 (nI p).toNatClampNeg (nI (dig tp len r)))) [icP .ge (1 : Int32) 1, vp_in (nI p) 144] rfl ?_ ?_
    · exact ⟨(by decide : ((1 : Int32) ≤ 1)), allP1 (by exact vp_in_nI hp (by decide))⟩
    refine AW.retz ⟨_, rfl⟩ rfl (by decide) ?_
    rw [nI_clamp (n := p) (by omega)]
    exact ⟨(fr_set gυ1 (by unfold P7; omega)), Or.inl ⟨rfl, fun j hj => by
      obtain rfl : j = 0 := by omega
      exact h0, by rw [setM_at, if_neg (by omega)]; exact qυ1, by rw [setM_at, if_pos ⟨rfl, rfl⟩]⟩⟩
set_option maxHeartbeats 4000000 in
set_option maxRecDepth 100000 in
theorem c6_rd2 (tp : Nat → Nat) (len : Nat) (hl : len ≤ 96) (htp : ∀ i, tp i ≤ 255) (σ : St) (hT : TapeD σ tp len) (r : Nat) (hr : r ≤ 900) (e16 : σ 5 0 0 16 = nI r) (p : Nat) (hp : p < 144) : Ct M6_readsDigits 2 [.inr (.inr (5, 0, 0)), .inl (nI p), .inl 2] σ (PI fun v σ' => Fr (P7 p) σ σ' ∧ ((v = 1 ∧ (∀ j, j < 2 → isDg (ltN tp len (r + j)) = true) ∧ σ' 5 0 0 16 = nI (r + 2) ∧ σ' 5 0 15 p = nI (num tp len r)) ∨ (v = 0 ∧ ∃ q, dsN tp len 2 r = (false, q) ∧ σ' 5 0 0 16 = nI q))) := by
  refine Ct.of f_6_readsDigits (Nat.le_of_ble_eq_true rfl) ?_
  show AW M6_readsDigits 2 _ (0, [(0, .inr (.inr (5, 0, 0))), (1, .inl (nI p)), (2, .inl 2)], [], σ)
  cases h0 : isDg (ltN tp len r)
  · skip
    refine AW.run 8 [false] (12, [(4, .inl 0), (3, .inl 0), (0, .inr (.inr (5, 0, 0))), (1, .inl (nI p)), (2, .inl 2)], [.inr (.inr (5, 0, 0))], σ) [¬ icP .ge (0 : Int32) 2] rfl ?_ ?_
    · exact allP1 (by decide : ¬ ((2 : Int32) ≤ 0))
    refine AW.callVI (d' := 0) [] [] ⟨_, rfl⟩ f_6_letterNow v_6_letterNow l_6_76 ⟨rfl, by decide⟩ rfl (Nat.le_of_ble_eq_true rfl) rfl (Nat.le_of_ble_eq_true rfl) (c6_letterNow tp len hl htp σ hT r (by omega) e16) ?_
    rintro _ _ ⟨rfl, rfl⟩
    refine AW.run 2 [] (19, [(4, .inl 0), (3, .inl 0), (0, .inr (.inr (5, 0, 0))), (1, .inl (nI p)), (2, .inl 2)], [.inl 57, .inl 48, .inl (lnI tp len r)], σ) [] rfl ?_ ?_
    · exact trivial
    refine AW.callSI (d' := 0) [.inl (lnI tp len r), .inl 48, .inl 57] [] ⟨_, rfl⟩ f_6_isIn s_6_isIn l_6_80 rfl (Nat.le_of_ble_eq_true rfl) rfl (Nat.le_of_ble_eq_true rfl) (c6_isIn0 (lnI tp len r) 48 57 (ln_nd htp h0) σ) ?_
    rintro _ _ ⟨rfl, rfl⟩
    refine AW.run 2 [false] (26, [(4, .inl 0), (3, .inl 0), (0, .inr (.inr (5, 0, 0))), (1, .inl (nI p)), (2, .inl 2)], [.inl 0], σ) [¬ icP .ne (0 : Int32) 0] rfl ?_ ?_
    · exact allP1 (by decide : ¬ (¬ (0 : Int32) = 0))
    refine AW.retz ⟨_, rfl⟩ rfl (by decide) ?_
    exact ⟨fr_rfl, Or.inr ⟨rfl, r, ds_f h0, e16⟩⟩
  · have d0 := ln_dg h0
    cases h1 : isDg (ltN tp len (r + 1))
    · skip
      refine AW.run 8 [false] (12, [(4, .inl 0), (3, .inl 0), (0, .inr (.inr (5, 0, 0))), (1, .inl (nI p)), (2, .inl 2)], [.inr (.inr (5, 0, 0))], σ) [¬ icP .ge (0 : Int32) 2] rfl ?_ ?_
      · exact allP1 (by decide : ¬ ((2 : Int32) ≤ 0))
      refine AW.callVI (d' := 0) [] [] ⟨_, rfl⟩ f_6_letterNow v_6_letterNow l_6_76 ⟨rfl, by decide⟩ rfl (Nat.le_of_ble_eq_true rfl) rfl (Nat.le_of_ble_eq_true rfl) (c6_letterNow tp len hl htp σ hT r (by omega) e16) ?_
      rintro _ _ ⟨rfl, rfl⟩
      rw [d0.2.1]
      refine AW.run 2 [] (19, [(4, .inl 0), (3, .inl 0), (0, .inr (.inr (5, 0, 0))), (1, .inl (nI p)), (2, .inl 2)], [.inl 57, .inl 48, .inl (nI (ltN tp len r))], σ) [] rfl ?_ ?_
      · exact trivial
      refine AW.callSI (d' := 0) [.inl (nI (ltN tp len r)), .inl 48, .inl 57] [] ⟨_, rfl⟩ f_6_isIn s_6_isIn l_6_80 rfl (Nat.le_of_ble_eq_true rfl) rfl (Nat.le_of_ble_eq_true rfl) (c6_isIn1 (nI (ltN tp len r)) 48 57 d0.2.2.1 d0.2.2.2.1 σ) ?_
      rintro _ _ ⟨rfl, rfl⟩
      refine AW.run 5 [true] (32, [(4, .inl 0), (3, .inl 0), (0, .inr (.inr (5, 0, 0))), (1, .inl (nI p)), (2, .inl 2)], [.inr (.inr (5, 0, 0)), .inl 0], σ) [icP .ne (1 : Int32) 0] rfl ?_ ?_
      · exact allP1 (by decide : (¬ (1 : Int32) = 0))
      refine AW.callVI (d' := 0) [] [.inl 0] ⟨_, rfl⟩ f_6_letterNow v_6_letterNow l_6_76 ⟨rfl, by decide⟩ rfl (Nat.le_of_ble_eq_true rfl) rfl (Nat.le_of_ble_eq_true rfl) (c6_letterNow tp len hl htp σ hT r (by omega) e16) ?_
      rintro _ _ ⟨rfl, rfl⟩
      rw [d0.2.1]
      refine AW.run 3 [] (39, [(4, .inl 0), (3, .inl 0), (0, .inr (.inr (5, 0, 0))), (1, .inl (nI p)), (2, .inl 2)], [.inl ((0 + (nI (ltN tp len r))) - 48)], σ) [] rfl ?_ ?_
      · exact trivial
      rw [dg_0 ⟨d0.2.2.2.2.1, d0.2.2.2.2.2⟩]
      rw [show ltN tp len r - 48 = dig tp len r from rfl]
      refine AW.run 4 [] (45, [(3, .inl (nI (dig tp len r))), (4, .inl 0), (0, .inr (.inr (5, 0, 0))), (1, .inl (nI p)), (2, .inl 2)], [.inl (σ 5 0 0 16), .inr (.inr (5, 0, 0))], σ) [] rfl ?_ ?_
      · exact trivial
      rw [e16]
      refine AW.run 2 [] (47, [(3, .inl (nI (dig tp len r))), (4, .inl 0), (0, .inr (.inr (5, 0, 0))), (1, .inl (nI p)), (2, .inl 2)], [.inl ((nI r) + 1), .inr (.inr (5, 0, 0))], σ) [] rfl ?_ ?_
      · exact trivial
      rw [nI_1]
      refine AW.run 1 [] (50, [(3, .inl (nI (dig tp len r))), (4, .inl 0), (0, .inr (.inr (5, 0, 0))), (1, .inl (nI p)), (2, .inl 2)], [], (setM σ 5 0 0 16 (nI (r + 1)))) [] rfl ?_ ?_
      · exact trivial
      obtain ⟨υ1, eυ1⟩ : ∃ x, x = (setM σ 5 0 0 16 (nI (r + 1))) := ⟨_, rfl⟩
      rw [← eυ1]
      have qυ1 : υ1 5 0 0 16 = nI (r + 1) := by rw [eυ1]; rw [setM_at, if_pos ⟨rfl, rfl⟩]
      have tυ1 : TapeD υ1 tp len := TapeD_mv hT (by rw [eυ1, setM_at, if_neg (by omega)]) (fun i => by rw [eυ1, setM_at, if_neg (by omega)])
      have gυ1 : Fr (P7 p) σ υ1 := by rw [eυ1]; exact (fr_set fr_rfl (by unfold P7; omega))
      refine AW.run 6 [false] (12, [(4, .inl 1), (3, .inl (nI (dig tp len r))), (0, .inr (.inr (5, 0, 0))), (1, .inl (nI p)), (2, .inl 2)], [.inr (.inr (5, 0, 0))], υ1) [¬ icP .ge (1 : Int32) 2] rfl ?_ ?_
      · exact allP1 (by decide : ¬ ((2 : Int32) ≤ 1))
      refine AW.callVI (d' := 0) [] [] ⟨_, rfl⟩ f_6_letterNow v_6_letterNow l_6_76 ⟨rfl, by decide⟩ rfl (Nat.le_of_ble_eq_true rfl) rfl (Nat.le_of_ble_eq_true rfl) (c6_letterNow tp len hl htp υ1 tυ1 (r + 1) (by omega) qυ1) ?_
      rintro _ _ ⟨rfl, rfl⟩
      refine AW.run 2 [] (19, [(4, .inl 1), (3, .inl (nI (dig tp len r))), (0, .inr (.inr (5, 0, 0))), (1, .inl (nI p)), (2, .inl 2)], [.inl 57, .inl 48, .inl (lnI tp len (r + 1))], υ1) [] rfl ?_ ?_
      · exact trivial
      refine AW.callSI (d' := 0) [.inl (lnI tp len (r + 1)), .inl 48, .inl 57] [] ⟨_, rfl⟩ f_6_isIn s_6_isIn l_6_80 rfl (Nat.le_of_ble_eq_true rfl) rfl (Nat.le_of_ble_eq_true rfl) (c6_isIn0 (lnI tp len (r + 1)) 48 57 (ln_nd htp h1) υ1) ?_
      rintro _ _ ⟨rfl, rfl⟩
      refine AW.run 2 [false] (26, [(4, .inl 1), (3, .inl (nI (dig tp len r))), (0, .inr (.inr (5, 0, 0))), (1, .inl (nI p)), (2, .inl 2)], [.inl 0], υ1) [¬ icP .ne (0 : Int32) 0] rfl ?_ ?_
      · exact allP1 (by decide : ¬ (¬ (0 : Int32) = 0))
      refine AW.retz ⟨_, rfl⟩ rfl (by decide) ?_
      exact ⟨gυ1, Or.inr ⟨rfl, (r + 1), (ds_s h0).trans (ds_f h1), qυ1⟩⟩
    · have d1 := ln_dg h1
      refine AW.run 8 [false] (12, [(4, .inl 0), (3, .inl 0), (0, .inr (.inr (5, 0, 0))), (1, .inl (nI p)), (2, .inl 2)], [.inr (.inr (5, 0, 0))], σ) [¬ icP .ge (0 : Int32) 2] rfl ?_ ?_
      · exact allP1 (by decide : ¬ ((2 : Int32) ≤ 0))
      refine AW.callVI (d' := 0) [] [] ⟨_, rfl⟩ f_6_letterNow v_6_letterNow l_6_76 ⟨rfl, by decide⟩ rfl (Nat.le_of_ble_eq_true rfl) rfl (Nat.le_of_ble_eq_true rfl) (c6_letterNow tp len hl htp σ hT r (by omega) e16) ?_
      rintro _ _ ⟨rfl, rfl⟩
      rw [d0.2.1]
      refine AW.run 2 [] (19, [(4, .inl 0), (3, .inl 0), (0, .inr (.inr (5, 0, 0))), (1, .inl (nI p)), (2, .inl 2)], [.inl 57, .inl 48, .inl (nI (ltN tp len r))], σ) [] rfl ?_ ?_
      · exact trivial
      refine AW.callSI (d' := 0) [.inl (nI (ltN tp len r)), .inl 48, .inl 57] [] ⟨_, rfl⟩ f_6_isIn s_6_isIn l_6_80 rfl (Nat.le_of_ble_eq_true rfl) rfl (Nat.le_of_ble_eq_true rfl) (c6_isIn1 (nI (ltN tp len r)) 48 57 d0.2.2.1 d0.2.2.2.1 σ) ?_
      rintro _ _ ⟨rfl, rfl⟩
      refine AW.run 5 [true] (32, [(4, .inl 0), (3, .inl 0), (0, .inr (.inr (5, 0, 0))), (1, .inl (nI p)), (2, .inl 2)], [.inr (.inr (5, 0, 0)), .inl 0], σ) [icP .ne (1 : Int32) 0] rfl ?_ ?_
      · exact allP1 (by decide : (¬ (1 : Int32) = 0))
      refine AW.callVI (d' := 0) [] [.inl 0] ⟨_, rfl⟩ f_6_letterNow v_6_letterNow l_6_76 ⟨rfl, by decide⟩ rfl (Nat.le_of_ble_eq_true rfl) rfl (Nat.le_of_ble_eq_true rfl) (c6_letterNow tp len hl htp σ hT r (by omega) e16) ?_
      rintro _ _ ⟨rfl, rfl⟩
      rw [d0.2.1]
      refine AW.run 3 [] (39, [(4, .inl 0), (3, .inl 0), (0, .inr (.inr (5, 0, 0))), (1, .inl (nI p)), (2, .inl 2)], [.inl ((0 + (nI (ltN tp len r))) - 48)], σ) [] rfl ?_ ?_
      · exact trivial
      rw [dg_0 ⟨d0.2.2.2.2.1, d0.2.2.2.2.2⟩]
      rw [show ltN tp len r - 48 = dig tp len r from rfl]
      refine AW.run 4 [] (45, [(3, .inl (nI (dig tp len r))), (4, .inl 0), (0, .inr (.inr (5, 0, 0))), (1, .inl (nI p)), (2, .inl 2)], [.inl (σ 5 0 0 16), .inr (.inr (5, 0, 0))], σ) [] rfl ?_ ?_
      · exact trivial
      rw [e16]
      refine AW.run 2 [] (47, [(3, .inl (nI (dig tp len r))), (4, .inl 0), (0, .inr (.inr (5, 0, 0))), (1, .inl (nI p)), (2, .inl 2)], [.inl ((nI r) + 1), .inr (.inr (5, 0, 0))], σ) [] rfl ?_ ?_
      · exact trivial
      rw [nI_1]
      refine AW.run 1 [] (50, [(3, .inl (nI (dig tp len r))), (4, .inl 0), (0, .inr (.inr (5, 0, 0))), (1, .inl (nI p)), (2, .inl 2)], [], (setM σ 5 0 0 16 (nI (r + 1)))) [] rfl ?_ ?_
      · exact trivial
      obtain ⟨υ1, eυ1⟩ : ∃ x, x = (setM σ 5 0 0 16 (nI (r + 1))) := ⟨_, rfl⟩
      rw [← eυ1]
      have qυ1 : υ1 5 0 0 16 = nI (r + 1) := by rw [eυ1]; rw [setM_at, if_pos ⟨rfl, rfl⟩]
      have tυ1 : TapeD υ1 tp len := TapeD_mv hT (by rw [eυ1, setM_at, if_neg (by omega)]) (fun i => by rw [eυ1, setM_at, if_neg (by omega)])
      have gυ1 : Fr (P7 p) σ υ1 := by rw [eυ1]; exact (fr_set fr_rfl (by unfold P7; omega))
      refine AW.run 6 [false] (12, [(4, .inl 1), (3, .inl (nI (dig tp len r))), (0, .inr (.inr (5, 0, 0))), (1, .inl (nI p)), (2, .inl 2)], [.inr (.inr (5, 0, 0))], υ1) [¬ icP .ge (1 : Int32) 2] rfl ?_ ?_
      · exact allP1 (by decide : ¬ ((2 : Int32) ≤ 1))
      refine AW.callVI (d' := 0) [] [] ⟨_, rfl⟩ f_6_letterNow v_6_letterNow l_6_76 ⟨rfl, by decide⟩ rfl (Nat.le_of_ble_eq_true rfl) rfl (Nat.le_of_ble_eq_true rfl) (c6_letterNow tp len hl htp υ1 tυ1 (r + 1) (by omega) qυ1) ?_
      rintro _ _ ⟨rfl, rfl⟩
      rw [d1.2.1]
      refine AW.run 2 [] (19, [(4, .inl 1), (3, .inl (nI (dig tp len r))), (0, .inr (.inr (5, 0, 0))), (1, .inl (nI p)), (2, .inl 2)], [.inl 57, .inl 48, .inl (nI (ltN tp len (r + 1)))], υ1) [] rfl ?_ ?_
      · exact trivial
      refine AW.callSI (d' := 0) [.inl (nI (ltN tp len (r + 1))), .inl 48, .inl 57] [] ⟨_, rfl⟩ f_6_isIn s_6_isIn l_6_80 rfl (Nat.le_of_ble_eq_true rfl) rfl (Nat.le_of_ble_eq_true rfl) (c6_isIn1 (nI (ltN tp len (r + 1))) 48 57 d1.2.2.1 d1.2.2.2.1 υ1) ?_
      rintro _ _ ⟨rfl, rfl⟩
      refine AW.run 5 [true] (32, [(4, .inl 1), (3, .inl (nI (dig tp len r))), (0, .inr (.inr (5, 0, 0))), (1, .inl (nI p)), (2, .inl 2)], [.inr (.inr (5, 0, 0)), .inl (10 * (nI (dig tp len r)))], υ1) [icP .ne (1 : Int32) 0] rfl ?_ ?_
      · exact allP1 (by decide : (¬ (1 : Int32) = 0))
      refine AW.callVI (d' := 0) [] [.inl (10 * (nI (dig tp len r)))] ⟨_, rfl⟩ f_6_letterNow v_6_letterNow l_6_76 ⟨rfl, by decide⟩ rfl (Nat.le_of_ble_eq_true rfl) rfl (Nat.le_of_ble_eq_true rfl) (c6_letterNow tp len hl htp υ1 tυ1 (r + 1) (by omega) qυ1) ?_
      rintro _ _ ⟨rfl, rfl⟩
      rw [d1.2.1]
      refine AW.run 3 [] (39, [(4, .inl 1), (3, .inl (nI (dig tp len r))), (0, .inr (.inr (5, 0, 0))), (1, .inl (nI p)), (2, .inl 2)], [.inl (((10 * (nI (dig tp len r))) + (nI (ltN tp len (r + 1)))) - 48)], υ1) [] rfl ?_ ?_
      · exact trivial
      rw [dg_1 (dig_le h0) ⟨d1.2.2.2.2.1, d1.2.2.2.2.2⟩]
      rw [show 10 * dig tp len r + (ltN tp len (r + 1) - 48) = num tp len r from rfl]
      refine AW.run 4 [] (45, [(3, .inl (nI (num tp len r))), (4, .inl 1), (0, .inr (.inr (5, 0, 0))), (1, .inl (nI p)), (2, .inl 2)], [.inl (υ1 5 0 0 16), .inr (.inr (5, 0, 0))], υ1) [] rfl ?_ ?_
      · exact trivial
      rw [qυ1]
      refine AW.run 2 [] (47, [(3, .inl (nI (num tp len r))), (4, .inl 1), (0, .inr (.inr (5, 0, 0))), (1, .inl (nI p)), (2, .inl 2)], [.inl ((nI (r + 1)) + 1), .inr (.inr (5, 0, 0))], υ1) [] rfl ?_ ?_
      · exact trivial
      rw [nI_1]
      rw [show r + 1 + 1 = r + 2 from rfl]
      refine AW.run 1 [] (50, [(3, .inl (nI (num tp len r))), (4, .inl 1), (0, .inr (.inr (5, 0, 0))), (1, .inl (nI p)), (2, .inl 2)], [], (setM υ1 5 0 0 16 (nI (r + 2)))) [] rfl ?_ ?_
      · exact trivial
      obtain ⟨υ2, eυ2⟩ : ∃ x, x = (setM υ1 5 0 0 16 (nI (r + 2))) := ⟨_, rfl⟩
      rw [← eυ2]
      have qυ2 : υ2 5 0 0 16 = nI (r + 2) := by rw [eυ2]; rw [setM_at, if_pos ⟨rfl, rfl⟩]
      have tυ2 : TapeD υ2 tp len := TapeD_mv tυ1 (by rw [eυ2, setM_at, if_neg (by omega)]) (fun i => by rw [eυ2, setM_at, if_neg (by omega)])
      have gυ2 : Fr (P7 p) υ1 υ2 := by rw [eυ2]; exact (fr_set fr_rfl (by unfold P7; omega))
      refine AW.run 11 [true] (64, [(4, .inl 2), (3, .inl (nI (num tp len r))), (0, .inr (.inr (5, 0, 0))), (1, .inl (nI p)), (2, .inl 2)], [.inl 1], (setM υ2 5 0 15 (nI p).toNatClampNeg (nI (num tp len r)))) [icP .ge (2 : Int32) 2, vp_in (nI p) 144] rfl ?_ ?_
      · exact ⟨(by decide : ((2 : Int32) ≤ 2)), allP1 (by exact vp_in_nI hp (by decide))⟩
      refine AW.retz ⟨_, rfl⟩ rfl (by decide) ?_
      rw [nI_clamp (n := p) (by omega)]
      exact ⟨(fr_set (fr_trans gυ1 gυ2) (by unfold P7; omega)), Or.inl ⟨rfl, fun j hj => by
        rcases (show j = 0 ∨ j = 1 by omega) with rfl | rfl
        · exact h0
        · exact h1, by rw [setM_at, if_neg (by omega)]; exact qυ2, by rw [setM_at, if_pos ⟨rfl, rfl⟩]⟩⟩
theorem ds_pre {tp : Nat → Nat} {len q e : Nat} : ∀ {k p : Nat}, dsN tp len k p = (false, q) → dsN tp len (k + e) p = (false, q)
  | 0, _, h => by cases h
  | k + 1, p, h => by
    rw [show k + 1 + e = (k + e) + 1 by omega]
    unfold dsN at h ⊢
    split at h
    · rename_i hd; rw [if_pos hd]; exact ds_pre h
    · rename_i hd; rw [if_neg hd]; exact h
set_option maxHeartbeats 4000000 in
set_option maxRecDepth 100000 in
theorem c6_ra98 (tp : Nat → Nat) (len : Nat) (hl : len ≤ 96) (htp : ∀ i, tp i ≤ 255) (σ : St) (hT : TapeD σ tp len) (r : Nat) (hr : r ≤ 800) (e16 : σ 5 0 0 16 = nI (r + 1)) (p : Nat) (hp : p + 3 ≤ 144) : Ct M6_readsAll 4 [.inr (.inr (5, 0, 0)), .inl 98, .inl (nI p)] σ (PI fun v σ' => Fr (P8 p) σ σ' ∧ ((v = 1 ∧ dsN tp len 4 (r + 1) = (true, r + 5) ∧ σ' 5 0 0 16 = nI (r + 5) ∧ ToldD (σ' 5 0) p tp len r 98) ∨ (v = 0 ∧ ∃ q, dsN tp len 4 (r + 1) = (false, q) ∧ σ' 5 0 0 16 = nI q))) := by
  refine Ct.of f_6_readsAll (Nat.le_of_ble_eq_true rfl) ?_
  show AW M6_readsAll 4 _ (0, [(0, .inr (.inr (5, 0, 0))), (1, .inl 98), (2, .inl (nI p))], [], σ)
  refine AW.run 1 [] (1, [(0, .inr (.inr (5, 0, 0))), (1, .inl 98), (2, .inl (nI p))], [.inl 98], σ) [] rfl ?_ ?_
  · exact trivial
  refine AW.lsw (tgt := 44) (off := 43) ⟨_, rfl⟩ (by decide) (by rfl) (by decide) ?_
  refine AW.run 3 [] (47, [(0, .inr (.inr (5, 0, 0))), (1, .inl 98), (2, .inl (nI p))], [.inl 1, .inl (nI p), .inr (.inr (5, 0, 0))], σ) [] rfl ?_ ?_
  · exact trivial
  refine AW.callVI (d' := 2) [.inl (nI p), .inl 1] [] ⟨_, rfl⟩ f_6_readsDigits v_6_readsDigits l_6_84 ⟨rfl, by decide⟩ rfl (Nat.le_of_ble_eq_true rfl) rfl (Nat.le_of_ble_eq_true rfl) (c6_rd1 tp len hl htp σ hT (r + 1) (by omega) e16 p (by omega)) ?_
  rintro v9 τ0 ⟨f0, hv⟩
  have hT0 : TapeD τ0 tp len := TapeD_mv hT (fr_at f0 (by unfold P7; omega)) (fun i => fr_at f0 (by unfold P7; omega))
  rcases hv with ⟨rfl, g0, r0, w0⟩ | ⟨rfl, q9, g9, r9⟩
  · skip
    refine AW.run 5 [false] (57, [(0, .inr (.inr (5, 0, 0))), (1, .inl 98), (2, .inl (nI p))], [.inl ((nI p) + 1), .inr (.inr (5, 0, 0))], τ0) [¬ icP .eq (1 : Int32) 0] rfl ?_ ?_
    · exact allP1 (by decide : ¬ ((1 : Int32) = 0))
    rw [show nI p + 1 = nI (p + 1) from nI_add p 1]
    refine AW.run 1 [] (58, [(0, .inr (.inr (5, 0, 0))), (1, .inl 98), (2, .inl (nI p))], [.inl 1, .inl (nI (p + 1)), .inr (.inr (5, 0, 0))], τ0) [] rfl ?_ ?_
    · exact trivial
    refine AW.callVI (d' := 2) [.inl (nI (p + 1)), .inl 1] [] ⟨_, rfl⟩ f_6_readsDigits v_6_readsDigits l_6_84 ⟨rfl, by decide⟩ rfl (Nat.le_of_ble_eq_true rfl) rfl (Nat.le_of_ble_eq_true rfl) (c6_rd1 tp len hl htp τ0 hT0 (r + 2) (by omega) r0 (p + 1) (by omega)) ?_
    rintro v9 τ1 ⟨f1, hv⟩
    have hT1 : TapeD τ1 tp len := TapeD_mv hT0 (fr_at f1 (by unfold P7; omega)) (fun i => fr_at f1 (by unfold P7; omega))
    rcases hv with ⟨rfl, g1, r1, w1⟩ | ⟨rfl, q9, g9, r9⟩
    · skip
      refine AW.run 5 [false] (68, [(0, .inr (.inr (5, 0, 0))), (1, .inl 98), (2, .inl (nI p))], [.inl ((nI p) + 2), .inr (.inr (5, 0, 0))], τ1) [¬ icP .eq (1 : Int32) 0] rfl ?_ ?_
      · exact allP1 (by decide : ¬ ((1 : Int32) = 0))
      rw [show nI p + 2 = nI (p + 2) from nI_add p 2]
      refine AW.run 1 [] (69, [(0, .inr (.inr (5, 0, 0))), (1, .inl 98), (2, .inl (nI p))], [.inl 2, .inl (nI (p + 2)), .inr (.inr (5, 0, 0))], τ1) [] rfl ?_ ?_
      · exact trivial
      refine AW.callVI (d' := 2) [.inl (nI (p + 2)), .inl 2] [] ⟨_, rfl⟩ f_6_readsDigits v_6_readsDigits l_6_84 ⟨rfl, by decide⟩ rfl (Nat.le_of_ble_eq_true rfl) rfl (Nat.le_of_ble_eq_true rfl) (c6_rd2 tp len hl htp τ1 hT1 (r + 3) (by omega) r1 (p + 2) (by omega)) ?_
      rintro v9 τ2 ⟨f2, hv⟩
      have hT2 : TapeD τ2 tp len := TapeD_mv hT1 (fr_at f2 (by unfold P7; omega)) (fun i => fr_at f2 (by unfold P7; omega))
      rcases hv with ⟨rfl, g2, r2, w2⟩ | ⟨rfl, q9, g9, r9⟩
      · skip
        refine AW.run 3 [false] (80, [(0, .inr (.inr (5, 0, 0))), (1, .inl 98), (2, .inl (nI p))], [.inl 1], τ2) [¬ icP .eq (1 : Int32) 0] rfl ?_ ?_
        · exact allP1 (by decide : ¬ ((1 : Int32) = 0))
        refine AW.retz ⟨_, rfl⟩ rfl (by decide) ?_
        have hd : dsN tp len 4 (r + 1) = (true, r + 5) := by
          rw [ds_s (p := r + 1) (g0 0 (by decide)), ds_s (p := r + 2) (g1 0 (by decide)), ds_s (p := r + 3) (g2 0 (by decide)), ds_s (p := r + 4) (g2 1 (by decide))]; rfl
        have y0 : τ2 5 0 15 p = nI (dig tp len (r + 1)) := by rw [fr_at f2 (by unfold P7; omega), fr_at f1 (by unfold P7; omega)]; exact w0
        have y1 : τ2 5 0 15 (p + 1) = nI (dig tp len (r + 2)) := by rw [fr_at f2 (by unfold P7; omega)]; exact w1
        have y2 : τ2 5 0 15 (p + 2) = nI (num tp len (r + 3)) := by exact w2
        exact ⟨(fr_trans (fr_trans (fr_trans fr_rfl (fr_mono f0 (fun j k q => by unfold P7 at q; unfold P8; omega))) (fr_mono f1 (fun j k q => by unfold P7 at q; unfold P8; omega))) (fr_mono f2 (fun j k q => by unfold P7 at q; unfold P8; omega))), Or.inl ⟨rfl, hd, r2, fun _ => ⟨y0, y1, y2⟩, fun q => absurd q (by decide), fun q => absurd q (by decide), fun q => absurd q (by decide), fun q => absurd q (by decide), fun q => absurd q (by decide)⟩⟩
      · skip
        refine AW.run 2 [true] (80, [(0, .inr (.inr (5, 0, 0))), (1, .inl 98), (2, .inl (nI p))], [.inl 0], τ2) [icP .eq (0 : Int32) 0] rfl ?_ ?_
        · exact allP1 (by decide : ((0 : Int32) = 0))
        refine AW.retz ⟨_, rfl⟩ rfl (by decide) ?_
        have hd : dsN tp len 4 (r + 1) = (false, q9) := by
          rw [ds_s (p := r + 1) (g0 0 (by decide)), ds_s (p := r + 2) (g1 0 (by decide))]
          exact ds_pre (k := 2) (e := 0) g9
        exact ⟨(fr_trans (fr_trans (fr_trans fr_rfl (fr_mono f0 (fun j k q => by unfold P7 at q; unfold P8; omega))) (fr_mono f1 (fun j k q => by unfold P7 at q; unfold P8; omega))) (fr_mono f2 (fun j k q => by unfold P7 at q; unfold P8; omega))), Or.inr ⟨rfl, q9, hd, r9⟩⟩
    · skip
      refine AW.run 2 [true] (80, [(0, .inr (.inr (5, 0, 0))), (1, .inl 98), (2, .inl (nI p))], [.inl 0], τ1) [icP .eq (0 : Int32) 0] rfl ?_ ?_
      · exact allP1 (by decide : ((0 : Int32) = 0))
      refine AW.retz ⟨_, rfl⟩ rfl (by decide) ?_
      have hd : dsN tp len 4 (r + 1) = (false, q9) := by
        rw [ds_s (p := r + 1) (g0 0 (by decide))]
        exact ds_pre (k := 1) (e := 2) g9
      exact ⟨(fr_trans (fr_trans fr_rfl (fr_mono f0 (fun j k q => by unfold P7 at q; unfold P8; omega))) (fr_mono f1 (fun j k q => by unfold P7 at q; unfold P8; omega))), Or.inr ⟨rfl, q9, hd, r9⟩⟩
  · skip
    refine AW.run 2 [true] (80, [(0, .inr (.inr (5, 0, 0))), (1, .inl 98), (2, .inl (nI p))], [.inl 0], τ0) [icP .eq (0 : Int32) 0] rfl ?_ ?_
    · exact allP1 (by decide : ((0 : Int32) = 0))
    refine AW.retz ⟨_, rfl⟩ rfl (by decide) ?_
    have hd : dsN tp len 4 (r + 1) = (false, q9) := by
      exact ds_pre (k := 1) (e := 3) g9
    exact ⟨(fr_trans fr_rfl (fr_mono f0 (fun j k q => by unfold P7 at q; unfold P8; omega))), Or.inr ⟨rfl, q9, hd, r9⟩⟩
set_option maxHeartbeats 4000000 in
set_option maxRecDepth 100000 in
theorem c6_ra112 (tp : Nat → Nat) (len : Nat) (hl : len ≤ 96) (htp : ∀ i, tp i ≤ 255) (σ : St) (hT : TapeD σ tp len) (r : Nat) (hr : r ≤ 800) (e16 : σ 5 0 0 16 = nI (r + 1)) (p : Nat) (hp : p + 3 ≤ 144) : Ct M6_readsAll 4 [.inr (.inr (5, 0, 0)), .inl 112, .inl (nI p)] σ (PI fun v σ' => Fr (P8 p) σ σ' ∧ ((v = 1 ∧ dsN tp len 3 (r + 1) = (true, r + 4) ∧ σ' 5 0 0 16 = nI (r + 4) ∧ ToldD (σ' 5 0) p tp len r 112) ∨ (v = 0 ∧ ∃ q, dsN tp len 3 (r + 1) = (false, q) ∧ σ' 5 0 0 16 = nI q))) := by
  refine Ct.of f_6_readsAll (Nat.le_of_ble_eq_true rfl) ?_
  show AW M6_readsAll 4 _ (0, [(0, .inr (.inr (5, 0, 0))), (1, .inl 112), (2, .inl (nI p))], [], σ)
  refine AW.run 1 [] (1, [(0, .inr (.inr (5, 0, 0))), (1, .inl 112), (2, .inl (nI p))], [.inl 112], σ) [] rfl ?_ ?_
  · exact trivial
  refine AW.lsw (tgt := 81) (off := 80) ⟨_, rfl⟩ (by decide) (by rfl) (by decide) ?_
  refine AW.run 3 [] (84, [(0, .inr (.inr (5, 0, 0))), (1, .inl 112), (2, .inl (nI p))], [.inl 1, .inl (nI p), .inr (.inr (5, 0, 0))], σ) [] rfl ?_ ?_
  · exact trivial
  refine AW.callVI (d' := 2) [.inl (nI p), .inl 1] [] ⟨_, rfl⟩ f_6_readsDigits v_6_readsDigits l_6_84 ⟨rfl, by decide⟩ rfl (Nat.le_of_ble_eq_true rfl) rfl (Nat.le_of_ble_eq_true rfl) (c6_rd1 tp len hl htp σ hT (r + 1) (by omega) e16 p (by omega)) ?_
  rintro v9 τ0 ⟨f0, hv⟩
  have hT0 : TapeD τ0 tp len := TapeD_mv hT (fr_at f0 (by unfold P7; omega)) (fun i => fr_at f0 (by unfold P7; omega))
  rcases hv with ⟨rfl, g0, r0, w0⟩ | ⟨rfl, q9, g9, r9⟩
  · skip
    refine AW.run 5 [false] (94, [(0, .inr (.inr (5, 0, 0))), (1, .inl 112), (2, .inl (nI p))], [.inl ((nI p) + 1), .inr (.inr (5, 0, 0))], τ0) [¬ icP .eq (1 : Int32) 0] rfl ?_ ?_
    · exact allP1 (by decide : ¬ ((1 : Int32) = 0))
    rw [show nI p + 1 = nI (p + 1) from nI_add p 1]
    refine AW.run 1 [] (95, [(0, .inr (.inr (5, 0, 0))), (1, .inl 112), (2, .inl (nI p))], [.inl 2, .inl (nI (p + 1)), .inr (.inr (5, 0, 0))], τ0) [] rfl ?_ ?_
    · exact trivial
    refine AW.callVI (d' := 2) [.inl (nI (p + 1)), .inl 2] [] ⟨_, rfl⟩ f_6_readsDigits v_6_readsDigits l_6_84 ⟨rfl, by decide⟩ rfl (Nat.le_of_ble_eq_true rfl) rfl (Nat.le_of_ble_eq_true rfl) (c6_rd2 tp len hl htp τ0 hT0 (r + 2) (by omega) r0 (p + 1) (by omega)) ?_
    rintro v9 τ1 ⟨f1, hv⟩
    have hT1 : TapeD τ1 tp len := TapeD_mv hT0 (fr_at f1 (by unfold P7; omega)) (fun i => fr_at f1 (by unfold P7; omega))
    rcases hv with ⟨rfl, g1, r1, w1⟩ | ⟨rfl, q9, g9, r9⟩
    · skip
      refine AW.run 3 [false] (106, [(0, .inr (.inr (5, 0, 0))), (1, .inl 112), (2, .inl (nI p))], [.inl 1], τ1) [¬ icP .eq (1 : Int32) 0] rfl ?_ ?_
      · exact allP1 (by decide : ¬ ((1 : Int32) = 0))
      refine AW.retz ⟨_, rfl⟩ rfl (by decide) ?_
      have hd : dsN tp len 3 (r + 1) = (true, r + 4) := by
        rw [ds_s (p := r + 1) (g0 0 (by decide)), ds_s (p := r + 2) (g1 0 (by decide)), ds_s (p := r + 3) (g1 1 (by decide))]; rfl
      have y0 : τ1 5 0 15 p = nI (dig tp len (r + 1)) := by rw [fr_at f1 (by unfold P7; omega)]; exact w0
      have y1 : τ1 5 0 15 (p + 1) = nI (num tp len (r + 2)) := by exact w1
      exact ⟨(fr_trans (fr_trans fr_rfl (fr_mono f0 (fun j k q => by unfold P7 at q; unfold P8; omega))) (fr_mono f1 (fun j k q => by unfold P7 at q; unfold P8; omega))), Or.inl ⟨rfl, hd, r1, fun q => absurd q (by decide), fun _ => ⟨y0, y1⟩, fun q => absurd q (by decide), fun q => absurd q (by decide), fun q => absurd q (by decide), fun q => absurd q (by decide)⟩⟩
    · skip
      refine AW.run 2 [true] (106, [(0, .inr (.inr (5, 0, 0))), (1, .inl 112), (2, .inl (nI p))], [.inl 0], τ1) [icP .eq (0 : Int32) 0] rfl ?_ ?_
      · exact allP1 (by decide : ((0 : Int32) = 0))
      refine AW.retz ⟨_, rfl⟩ rfl (by decide) ?_
      have hd : dsN tp len 3 (r + 1) = (false, q9) := by
        rw [ds_s (p := r + 1) (g0 0 (by decide))]
        exact ds_pre (k := 2) (e := 0) g9
      exact ⟨(fr_trans (fr_trans fr_rfl (fr_mono f0 (fun j k q => by unfold P7 at q; unfold P8; omega))) (fr_mono f1 (fun j k q => by unfold P7 at q; unfold P8; omega))), Or.inr ⟨rfl, q9, hd, r9⟩⟩
  · skip
    refine AW.run 2 [true] (106, [(0, .inr (.inr (5, 0, 0))), (1, .inl 112), (2, .inl (nI p))], [.inl 0], τ0) [icP .eq (0 : Int32) 0] rfl ?_ ?_
    · exact allP1 (by decide : ((0 : Int32) = 0))
    refine AW.retz ⟨_, rfl⟩ rfl (by decide) ?_
    have hd : dsN tp len 3 (r + 1) = (false, q9) := by
      exact ds_pre (k := 1) (e := 2) g9
    exact ⟨(fr_trans fr_rfl (fr_mono f0 (fun j k q => by unfold P7 at q; unfold P8; omega))), Or.inr ⟨rfl, q9, hd, r9⟩⟩
set_option maxHeartbeats 4000000 in
set_option maxRecDepth 100000 in
theorem c6_ra117 (tp : Nat → Nat) (len : Nat) (hl : len ≤ 96) (htp : ∀ i, tp i ≤ 255) (σ : St) (hT : TapeD σ tp len) (r : Nat) (hr : r ≤ 800) (e16 : σ 5 0 0 16 = nI (r + 1)) (p : Nat) (hp : p + 3 ≤ 144) : Ct M6_readsAll 4 [.inr (.inr (5, 0, 0)), .inl 117, .inl (nI p)] σ (PI fun v σ' => Fr (P8 p) σ σ' ∧ ((v = 1 ∧ dsN tp len 2 (r + 1) = (true, r + 3) ∧ σ' 5 0 0 16 = nI (r + 3) ∧ ToldD (σ' 5 0) p tp len r 117) ∨ (v = 0 ∧ ∃ q, dsN tp len 2 (r + 1) = (false, q) ∧ σ' 5 0 0 16 = nI q))) := by
  refine Ct.of f_6_readsAll (Nat.le_of_ble_eq_true rfl) ?_
  show AW M6_readsAll 4 _ (0, [(0, .inr (.inr (5, 0, 0))), (1, .inl 117), (2, .inl (nI p))], [], σ)
  refine AW.run 1 [] (1, [(0, .inr (.inr (5, 0, 0))), (1, .inl 117), (2, .inl (nI p))], [.inl 117], σ) [] rfl ?_ ?_
  · exact trivial
  refine AW.lsw (tgt := 107) (off := 106) ⟨_, rfl⟩ (by decide) (by rfl) (by decide) ?_
  refine AW.run 3 [] (110, [(0, .inr (.inr (5, 0, 0))), (1, .inl 117), (2, .inl (nI p))], [.inl 1, .inl (nI p), .inr (.inr (5, 0, 0))], σ) [] rfl ?_ ?_
  · exact trivial
  refine AW.callVI (d' := 2) [.inl (nI p), .inl 1] [] ⟨_, rfl⟩ f_6_readsDigits v_6_readsDigits l_6_84 ⟨rfl, by decide⟩ rfl (Nat.le_of_ble_eq_true rfl) rfl (Nat.le_of_ble_eq_true rfl) (c6_rd1 tp len hl htp σ hT (r + 1) (by omega) e16 p (by omega)) ?_
  rintro v9 τ0 ⟨f0, hv⟩
  have hT0 : TapeD τ0 tp len := TapeD_mv hT (fr_at f0 (by unfold P7; omega)) (fun i => fr_at f0 (by unfold P7; omega))
  rcases hv with ⟨rfl, g0, r0, w0⟩ | ⟨rfl, q9, g9, r9⟩
  · skip
    refine AW.run 5 [false] (120, [(0, .inr (.inr (5, 0, 0))), (1, .inl 117), (2, .inl (nI p))], [.inl ((nI p) + 1), .inr (.inr (5, 0, 0))], τ0) [¬ icP .eq (1 : Int32) 0] rfl ?_ ?_
    · exact allP1 (by decide : ¬ ((1 : Int32) = 0))
    rw [show nI p + 1 = nI (p + 1) from nI_add p 1]
    refine AW.run 1 [] (121, [(0, .inr (.inr (5, 0, 0))), (1, .inl 117), (2, .inl (nI p))], [.inl 1, .inl (nI (p + 1)), .inr (.inr (5, 0, 0))], τ0) [] rfl ?_ ?_
    · exact trivial
    refine AW.callVI (d' := 2) [.inl (nI (p + 1)), .inl 1] [] ⟨_, rfl⟩ f_6_readsDigits v_6_readsDigits l_6_84 ⟨rfl, by decide⟩ rfl (Nat.le_of_ble_eq_true rfl) rfl (Nat.le_of_ble_eq_true rfl) (c6_rd1 tp len hl htp τ0 hT0 (r + 2) (by omega) r0 (p + 1) (by omega)) ?_
    rintro v9 τ1 ⟨f1, hv⟩
    have hT1 : TapeD τ1 tp len := TapeD_mv hT0 (fr_at f1 (by unfold P7; omega)) (fun i => fr_at f1 (by unfold P7; omega))
    rcases hv with ⟨rfl, g1, r1, w1⟩ | ⟨rfl, q9, g9, r9⟩
    · skip
      refine AW.run 3 [false] (132, [(0, .inr (.inr (5, 0, 0))), (1, .inl 117), (2, .inl (nI p))], [.inl 1], τ1) [¬ icP .eq (1 : Int32) 0] rfl ?_ ?_
      · exact allP1 (by decide : ¬ ((1 : Int32) = 0))
      refine AW.retz ⟨_, rfl⟩ rfl (by decide) ?_
      have hd : dsN tp len 2 (r + 1) = (true, r + 3) := by
        rw [ds_s (p := r + 1) (g0 0 (by decide)), ds_s (p := r + 2) (g1 0 (by decide))]; rfl
      have y0 : τ1 5 0 15 p = nI (dig tp len (r + 1)) := by rw [fr_at f1 (by unfold P7; omega)]; exact w0
      have y1 : τ1 5 0 15 (p + 1) = nI (dig tp len (r + 2)) := by exact w1
      exact ⟨(fr_trans (fr_trans fr_rfl (fr_mono f0 (fun j k q => by unfold P7 at q; unfold P8; omega))) (fr_mono f1 (fun j k q => by unfold P7 at q; unfold P8; omega))), Or.inl ⟨rfl, hd, r1, fun q => absurd q (by decide), fun q => absurd q (by decide), fun _ => ⟨y0, y1⟩, fun q => absurd q (by decide), fun q => absurd q (by decide), fun q => absurd q (by decide)⟩⟩
    · skip
      refine AW.run 2 [true] (132, [(0, .inr (.inr (5, 0, 0))), (1, .inl 117), (2, .inl (nI p))], [.inl 0], τ1) [icP .eq (0 : Int32) 0] rfl ?_ ?_
      · exact allP1 (by decide : ((0 : Int32) = 0))
      refine AW.retz ⟨_, rfl⟩ rfl (by decide) ?_
      have hd : dsN tp len 2 (r + 1) = (false, q9) := by
        rw [ds_s (p := r + 1) (g0 0 (by decide))]
        exact ds_pre (k := 1) (e := 0) g9
      exact ⟨(fr_trans (fr_trans fr_rfl (fr_mono f0 (fun j k q => by unfold P7 at q; unfold P8; omega))) (fr_mono f1 (fun j k q => by unfold P7 at q; unfold P8; omega))), Or.inr ⟨rfl, q9, hd, r9⟩⟩
  · skip
    refine AW.run 2 [true] (132, [(0, .inr (.inr (5, 0, 0))), (1, .inl 117), (2, .inl (nI p))], [.inl 0], τ0) [icP .eq (0 : Int32) 0] rfl ?_ ?_
    · exact allP1 (by decide : ((0 : Int32) = 0))
    refine AW.retz ⟨_, rfl⟩ rfl (by decide) ?_
    have hd : dsN tp len 2 (r + 1) = (false, q9) := by
      exact ds_pre (k := 1) (e := 1) g9
    exact ⟨(fr_trans fr_rfl (fr_mono f0 (fun j k q => by unfold P7 at q; unfold P8; omega))), Or.inr ⟨rfl, q9, hd, r9⟩⟩
set_option maxHeartbeats 4000000 in
set_option maxRecDepth 100000 in
theorem c6_ra100 (tp : Nat → Nat) (len : Nat) (hl : len ≤ 96) (htp : ∀ i, tp i ≤ 255) (σ : St) (hT : TapeD σ tp len) (r : Nat) (hr : r ≤ 800) (e16 : σ 5 0 0 16 = nI (r + 1)) (p : Nat) (hp : p + 3 ≤ 144) : Ct M6_readsAll 4 [.inr (.inr (5, 0, 0)), .inl 100, .inl (nI p)] σ (PI fun v σ' => Fr (P8 p) σ σ' ∧ ((v = 1 ∧ dsN tp len 2 (r + 1) = (true, r + 3) ∧ σ' 5 0 0 16 = nI (r + 3) ∧ ToldD (σ' 5 0) p tp len r 100) ∨ (v = 0 ∧ ∃ q, dsN tp len 2 (r + 1) = (false, q) ∧ σ' 5 0 0 16 = nI q))) := by
  refine Ct.of f_6_readsAll (Nat.le_of_ble_eq_true rfl) ?_
  show AW M6_readsAll 4 _ (0, [(0, .inr (.inr (5, 0, 0))), (1, .inl 100), (2, .inl (nI p))], [], σ)
  refine AW.run 1 [] (1, [(0, .inr (.inr (5, 0, 0))), (1, .inl 100), (2, .inl (nI p))], [.inl 100], σ) [] rfl ?_ ?_
  · exact trivial
  refine AW.lsw (tgt := 133) (off := 132) ⟨_, rfl⟩ (by decide) (by rfl) (by decide) ?_
  refine AW.run 3 [] (136, [(0, .inr (.inr (5, 0, 0))), (1, .inl 100), (2, .inl (nI p))], [.inl 2, .inl (nI p), .inr (.inr (5, 0, 0))], σ) [] rfl ?_ ?_
  · exact trivial
  refine AW.callVI (d' := 2) [.inl (nI p), .inl 2] [] ⟨_, rfl⟩ f_6_readsDigits v_6_readsDigits l_6_84 ⟨rfl, by decide⟩ rfl (Nat.le_of_ble_eq_true rfl) rfl (Nat.le_of_ble_eq_true rfl) (c6_rd2 tp len hl htp σ hT (r + 1) (by omega) e16 p (by omega)) ?_
  rintro v9 τ0 ⟨f0, hv⟩
  have hT0 : TapeD τ0 tp len := TapeD_mv hT (fr_at f0 (by unfold P7; omega)) (fun i => fr_at f0 (by unfold P7; omega))
  rcases hv with ⟨rfl, g0, r0, w0⟩ | ⟨rfl, q9, g9, r9⟩
  · skip
    refine AW.retz ⟨_, rfl⟩ rfl (by decide) ?_
    have hd : dsN tp len 2 (r + 1) = (true, r + 3) := by
      rw [ds_s (p := r + 1) (g0 0 (by decide)), ds_s (p := r + 2) (g0 1 (by decide))]; rfl
    have y0 : τ0 5 0 15 p = nI (num tp len (r + 1)) := by exact w0
    exact ⟨(fr_trans fr_rfl (fr_mono f0 (fun j k q => by unfold P7 at q; unfold P8; omega))), Or.inl ⟨rfl, hd, r0, fun q => absurd q (by decide), fun q => absurd q (by decide), fun q => absurd q (by decide), fun _ => y0, fun q => absurd q (by decide), fun q => absurd q (by decide)⟩⟩
  · skip
    refine AW.retz ⟨_, rfl⟩ rfl (by decide) ?_
    have hd : dsN tp len 2 (r + 1) = (false, q9) := by
      exact ds_pre (k := 2) (e := 0) g9
    exact ⟨(fr_trans fr_rfl (fr_mono f0 (fun j k q => by unfold P7 at q; unfold P8; omega))), Or.inr ⟨rfl, q9, hd, r9⟩⟩
set_option maxHeartbeats 4000000 in
set_option maxRecDepth 100000 in
theorem c6_ra116 (tp : Nat → Nat) (len : Nat) (hl : len ≤ 96) (htp : ∀ i, tp i ≤ 255) (σ : St) (hT : TapeD σ tp len) (r : Nat) (hr : r ≤ 800) (e16 : σ 5 0 0 16 = nI (r + 1)) (p : Nat) (hp : p + 3 ≤ 144) : Ct M6_readsAll 4 [.inr (.inr (5, 0, 0)), .inl 116, .inl (nI p)] σ (PI fun v σ' => Fr (P8 p) σ σ' ∧ ((v = 1 ∧ dsN tp len 1 (r + 1) = (true, r + 2) ∧ σ' 5 0 0 16 = nI (r + 2) ∧ ToldD (σ' 5 0) p tp len r 116) ∨ (v = 0 ∧ ∃ q, dsN tp len 1 (r + 1) = (false, q) ∧ σ' 5 0 0 16 = nI q))) := by
  refine Ct.of f_6_readsAll (Nat.le_of_ble_eq_true rfl) ?_
  show AW M6_readsAll 4 _ (0, [(0, .inr (.inr (5, 0, 0))), (1, .inl 116), (2, .inl (nI p))], [], σ)
  refine AW.run 1 [] (1, [(0, .inr (.inr (5, 0, 0))), (1, .inl 116), (2, .inl (nI p))], [.inl 116], σ) [] rfl ?_ ?_
  · exact trivial
  refine AW.lsw (tgt := 140) (off := 139) ⟨_, rfl⟩ (by decide) (by rfl) (by decide) ?_
  refine AW.run 3 [] (143, [(0, .inr (.inr (5, 0, 0))), (1, .inl 116), (2, .inl (nI p))], [.inl 1, .inl (nI p), .inr (.inr (5, 0, 0))], σ) [] rfl ?_ ?_
  · exact trivial
  refine AW.callVI (d' := 2) [.inl (nI p), .inl 1] [] ⟨_, rfl⟩ f_6_readsDigits v_6_readsDigits l_6_84 ⟨rfl, by decide⟩ rfl (Nat.le_of_ble_eq_true rfl) rfl (Nat.le_of_ble_eq_true rfl) (c6_rd1 tp len hl htp σ hT (r + 1) (by omega) e16 p (by omega)) ?_
  rintro v9 τ0 ⟨f0, hv⟩
  have hT0 : TapeD τ0 tp len := TapeD_mv hT (fr_at f0 (by unfold P7; omega)) (fun i => fr_at f0 (by unfold P7; omega))
  rcases hv with ⟨rfl, g0, r0, w0⟩ | ⟨rfl, q9, g9, r9⟩
  · skip
    refine AW.retz ⟨_, rfl⟩ rfl (by decide) ?_
    have hd : dsN tp len 1 (r + 1) = (true, r + 2) := by
      rw [ds_s (p := r + 1) (g0 0 (by decide))]; rfl
    have y0 : τ0 5 0 15 p = nI (dig tp len (r + 1)) := by exact w0
    exact ⟨(fr_trans fr_rfl (fr_mono f0 (fun j k q => by unfold P7 at q; unfold P8; omega))), Or.inl ⟨rfl, hd, r0, fun q => absurd q (by decide), fun q => absurd q (by decide), fun q => absurd q (by decide), fun q => absurd q (by decide), fun _ => y0, fun q => absurd q (by decide)⟩⟩
  · skip
    refine AW.retz ⟨_, rfl⟩ rfl (by decide) ?_
    have hd : dsN tp len 1 (r + 1) = (false, q9) := by
      exact ds_pre (k := 1) (e := 0) g9
    exact ⟨(fr_trans fr_rfl (fr_mono f0 (fun j k q => by unfold P7 at q; unfold P8; omega))), Or.inr ⟨rfl, q9, hd, r9⟩⟩
set_option maxHeartbeats 4000000 in
set_option maxRecDepth 100000 in
theorem c6_ra111 (tp : Nat → Nat) (len : Nat) (hl : len ≤ 96) (htp : ∀ i, tp i ≤ 255) (σ : St) (hT : TapeD σ tp len) (r : Nat) (hr : r ≤ 800) (e16 : σ 5 0 0 16 = nI (r + 1)) (p : Nat) (hp : p + 3 ≤ 144) : Ct M6_readsAll 4 [.inr (.inr (5, 0, 0)), .inl 111, .inl (nI p)] σ (PI fun v σ' => Fr (P8 p) σ σ' ∧ ((v = 1 ∧ dsN tp len 1 (r + 1) = (true, r + 2) ∧ σ' 5 0 0 16 = nI (r + 2) ∧ ToldD (σ' 5 0) p tp len r 111) ∨ (v = 0 ∧ ∃ q, dsN tp len 1 (r + 1) = (false, q) ∧ σ' 5 0 0 16 = nI q))) := by
  refine Ct.of f_6_readsAll (Nat.le_of_ble_eq_true rfl) ?_
  show AW M6_readsAll 4 _ (0, [(0, .inr (.inr (5, 0, 0))), (1, .inl 111), (2, .inl (nI p))], [], σ)
  refine AW.run 1 [] (1, [(0, .inr (.inr (5, 0, 0))), (1, .inl 111), (2, .inl (nI p))], [.inl 111], σ) [] rfl ?_ ?_
  · exact trivial
  refine AW.lsw (tgt := 140) (off := 139) ⟨_, rfl⟩ (by decide) (by rfl) (by decide) ?_
  refine AW.run 3 [] (143, [(0, .inr (.inr (5, 0, 0))), (1, .inl 111), (2, .inl (nI p))], [.inl 1, .inl (nI p), .inr (.inr (5, 0, 0))], σ) [] rfl ?_ ?_
  · exact trivial
  refine AW.callVI (d' := 2) [.inl (nI p), .inl 1] [] ⟨_, rfl⟩ f_6_readsDigits v_6_readsDigits l_6_84 ⟨rfl, by decide⟩ rfl (Nat.le_of_ble_eq_true rfl) rfl (Nat.le_of_ble_eq_true rfl) (c6_rd1 tp len hl htp σ hT (r + 1) (by omega) e16 p (by omega)) ?_
  rintro v9 τ0 ⟨f0, hv⟩
  have hT0 : TapeD τ0 tp len := TapeD_mv hT (fr_at f0 (by unfold P7; omega)) (fun i => fr_at f0 (by unfold P7; omega))
  rcases hv with ⟨rfl, g0, r0, w0⟩ | ⟨rfl, q9, g9, r9⟩
  · skip
    refine AW.retz ⟨_, rfl⟩ rfl (by decide) ?_
    have hd : dsN tp len 1 (r + 1) = (true, r + 2) := by
      rw [ds_s (p := r + 1) (g0 0 (by decide))]; rfl
    have y0 : τ0 5 0 15 p = nI (dig tp len (r + 1)) := by exact w0
    exact ⟨(fr_trans fr_rfl (fr_mono f0 (fun j k q => by unfold P7 at q; unfold P8; omega))), Or.inl ⟨rfl, hd, r0, fun q => absurd q (by decide), fun q => absurd q (by decide), fun q => absurd q (by decide), fun q => absurd q (by decide), fun q => absurd q (by decide), fun _ => y0⟩⟩
  · skip
    refine AW.retz ⟨_, rfl⟩ rfl (by decide) ?_
    have hd : dsN tp len 1 (r + 1) = (false, q9) := by
      exact ds_pre (k := 1) (e := 0) g9
    exact ⟨(fr_trans fr_rfl (fr_mono f0 (fun j k q => by unfold P7 at q; unfold P8; omega))), Or.inr ⟨rfl, q9, hd, r9⟩⟩
