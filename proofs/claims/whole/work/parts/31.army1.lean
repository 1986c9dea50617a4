/-! THE WHOLE AS NUMBERS: shelf; tape; row; refusals; what can be taken back; image -/
abbrev Gv : Type := Sv × (Nat × (Nat → Nat)) × (Nat × (Nat → Nat)) × (Nat → Int32) × (Nat × (Nat → Sv)) × Option Sv
def FOK (F : Gv) : Prop := (SOK F.1 ∧ Sd F.1 ≤ 999) ∧ (F.2.1.1 ≤ 96 ∧ ∀ i, F.2.1.2 i ≤ 255) ∧ (F.2.2.1.1 ≤ 12 ∧ ∀ i, F.2.2.1.2 i ≤ 99) ∧ (F.2.2.2.2.1.1 ≤ 8 ∧ ∀ j, j < F.2.2.2.2.1.1 → SOK (F.2.2.2.2.1.2 j) ∧ Sd (F.2.2.2.2.1.2 j) ≤ 999) ∧ ∀ I, F.2.2.2.2.2 = some I → SOK I ∧ Sd I ≤ 999
def RepA (σ : St) (F : Gv) : Prop := RepS (σ 2 0) F.1 ∧ TaleR σ F.2.1.2 F.2.1.1 ∧ (σ 4 0 0 8 = nI F.2.2.1.1 ∧ RowR σ F.2.2.1.2 F.2.2.1.1) ∧ (∀ k, 1 ≤ k → k ≤ 6 → σ 4 0 8 k = F.2.2.2.1 k) ∧ (∃ nx, nx < 8 ∧ σ 1 0 0 1 = nI nx ∧ σ 1 0 0 2 = nI F.2.2.2.2.1.1 ∧ ∀ j, j < F.2.2.2.2.1.1 → RepS (σ 2 (4 + (nx + 7 - j) % 8)) (F.2.2.2.2.1.2 j)) ∧ match F.2.2.2.2.2 with
  | none => σ 4 0 0 9 = 0
  | some I => σ 4 0 0 9 = 1 ∧ RepS (σ 2 2) I
/-- the model and the script stay -/
def Oth (σ σ' : St) : Prop := σ' 5 = σ 5 ∧ σ' 6 = σ 6
def rfuF (F : Gv) (k : Nat) : Gv := (F.1, F.2.1, F.2.2.1, fu F.2.2.2.1 k (F.2.2.2.1 k + 1), F.2.2.2.2)
theorem RepA_mind {σ τ : St} {F : Gv} (h : OnlyM σ τ) (hA : RepA σ F) : RepA τ F ∧ Oth σ τ := by
  obtain ⟨h1, ⟨t1, t2, t3, t4⟩, ⟨r1, r2, r3, r4⟩, h4, ⟨nx, n1, n2, n3, n4⟩, h6⟩ := hA
  have e3 := h 3 0 (by decide) (by decide)
  have e4 := h 4 0 (by decide) (by decide)
  have e1 := h 1 0 (by decide) (by decide)
  refine ⟨⟨by rw [h 2 0 (by decide) (by decide)]; exact h1, ⟨t1, t2, by rw [e3]; exact t3, fun i hi => by rw [e3]; exact t4 i hi⟩, ⟨by rw [e4]; exact r1, r2, r3, fun i hi => by rw [e4]; exact r4 i hi⟩, fun k hk hk2 => by rw [e4]; exact h4 k hk hk2, ⟨nx, n1, by rw [e1]; exact n2, by rw [e1]; exact n3, fun j hj => by rw [h 2 _ (by decide) (by omega)]; exact n4 j hj⟩, ?_⟩, ?_, ?_⟩
  · revert h6
    cases F.2.2.2.2.2 with
    | none => intro h6; show τ 4 0 0 9 = 0; rw [e4]; exact h6
    | some I => intro h6; show τ 4 0 0 9 = 1 ∧ RepS (τ 2 2) I; rw [e4, h 2 2 (by decide) (by decide)]; exact h6
  · funext i
    exact h 5 i (by decide) (by omega)
  · funext i
    exact h 6 i (by decide) (by omega)
theorem RepA_ref {σ : St} {F : Gv} {k : Nat} (hA : RepA σ F) (hk : 1 ≤ k) (hk2 : k ≤ 6) : RepA (setM σ 4 0 8 k (σ 4 0 8 k + 1)) (rfuF F k) ∧ Oth σ (setM σ 4 0 8 k (σ 4 0 8 k + 1)) := by
  obtain ⟨h1, ⟨t1, t2, t3, t4⟩, ⟨r1, r2, r3, r4⟩, h4, ⟨nx, n1, n2, n3, n4⟩, h6⟩ := hA
  have ne : ∀ c i, ¬ (c = 4 ∧ i = 0) → setM σ 4 0 8 k (σ 4 0 8 k + 1) c i = σ c i := fun c i hn => set_ne hn
  refine ⟨⟨by rw [ne 2 0 (by decide)]; exact h1, ⟨t1, t2, by rw [ne 3 0 (by decide)]; exact t3, fun i hi => by rw [ne 3 0 (by decide)]; exact t4 i hi⟩, ⟨by rw [setM_at, if_neg (by omega)]; exact r1, r2, r3, fun i hi => by rw [setM_at, if_neg (by omega)]; exact r4 i hi⟩, fun j hj hj2 => ?_, ⟨nx, n1, by rw [ne 1 0 (by decide)]; exact n2, by rw [ne 1 0 (by decide)]; exact n3, fun j hj => by rw [ne 2 _ (by omega)]; exact n4 j hj⟩, ?_⟩, ?_, ?_⟩
  · rw [setM_at]
    show _ = fu F.2.2.2.1 k (F.2.2.2.1 k + 1) j
    by_cases hjk : j = k
    · subst hjk
      simp [fu, h4 j hj hj2]
    · simp [fu, hjk, h4 j hj hj2]
  · revert h6
    show (match F.2.2.2.2.2 with | none => σ 4 0 0 9 = 0 | some I => σ 4 0 0 9 = 1 ∧ RepS (σ 2 2) I) → (match F.2.2.2.2.2 with | none => _ | some I => _)
    cases F.2.2.2.2.2 with
    | none => intro h6; show setM σ 4 0 8 k (σ 4 0 8 k + 1) 4 0 0 9 = 0; rw [setM_at, if_neg (by omega)]; exact h6
    | some I => intro h6; show setM σ 4 0 8 k (σ 4 0 8 k + 1) 4 0 0 9 = 1 ∧ RepS (setM σ 4 0 8 k (σ 4 0 8 k + 1) 2 2) I; rw [setM_at, if_neg (by omega), ne 2 2 (by decide)]; exact h6
  · funext i
    exact ne 5 i (by omega)
  · funext i
    exact ne 6 i (by omega)
/-! what an argument is -/
def botI (n : Nat) (x : Int32) : Option Nat := if x < 0 then none else if x.toNatClampNeg < n then some x.toNatClampNeg else none
theorem botI_some {n k : Nat} (hk : k < n) (hn : n ≤ 100) : botI n (nI k) = some k := by
  unfold botI
  rw [if_neg (nI_pos (by omega)), nI_clamp (by omega), if_pos hk]
theorem botI_none {n : Nat} {x : Int32} (h : ∀ k, k < n → x ≠ nI k) : botI n x = none := by
  unfold botI
  split
  · rfl
  · rename_i h0
    obtain ⟨j, hj, rfl⟩ := nI_of h0
    rw [nI_clamp hj, if_neg]
    intro q
    exact h j q rfl
/-- 4: below 0, 6: above M -/
def fMax (M : Nat) (x : Int32) : Nat := if x < 0 then 4 else if nI M < x then 6 else 0
theorem fMax_or (M : Nat) (hM : M < 2 ^ 31) (x : Int32) : (x < 0 ∧ fMax M x = 4) ∨ (¬ x < 0 ∧ nI M < x ∧ fMax M x = 6) ∨ (∃ n, n ≤ M ∧ x = nI n ∧ fMax M x = 0) := by
  by_cases h0 : x < 0
  · exact Or.inl ⟨h0, if_pos h0⟩
  · obtain ⟨j, hj, rfl⟩ := nI_of h0
    by_cases hlt : M < j
    · exact Or.inr (Or.inl ⟨h0, nI_lt hlt hj, by unfold fMax; rw [if_neg h0, if_pos (nI_lt hlt hj)]⟩)
    · exact Or.inr (Or.inr ⟨j, by omega, rfl, by unfold fMax; rw [if_neg h0, if_neg (nI_nlt (by omega) hM)]⟩)

set_option maxHeartbeats 4000000 in
set_option maxRecDepth 100000 in
theorem c5_refuse1 (σ : St) : Ct M5_refuse 0 [.inr (.inr (4, 0, 0)), .inl (-1)] σ (PI fun r9 σ' => (-1 : Int32) = r9 ∧ setM σ 4 0 8 1 (σ 4 0 8 1 + 1) = σ') := by
  refine Ct.of f_5_refuse (Nat.le_of_ble_eq_true rfl) ?_
  show AW M5_refuse 0 _ (0, [(0, .inr (.inr (4, 0, 0))), (1, .inl (-1))], [], σ)
  refine AW.run 20 [false, false] (28, [(2, .inl 1), (0, .inr (.inr (4, 0, 0))), (1, .inl (-1))], [.inl (-1)], (setM σ 4 0 8 (1 : Int32).toNatClampNeg ((σ 4 0 8 (1 : Int32).toNatClampNeg) + 1))) [¬ icP .lt (1 : Int32) 1, ¬ icP .ge 1 (Int32.ofNat 7), vp_in 1 7, vp_in 1 7] rfl ?_ ?_
  · exact ⟨(by decide : ¬ ((1 : Int32) < 1)), ((by decide : ¬ ((7 : Int32) ≤ 1))), (by unfold vp_in; decide), allP1 (by unfold vp_in; decide)⟩
  refine AW.reti ⟨_, rfl⟩ rfl ?_
  refine ⟨rfl, ?_⟩
  rw [show (1 : Int32).toNatClampNeg = 1 by decide]
set_option maxHeartbeats 4000000 in
set_option maxRecDepth 100000 in
theorem c5_refuse2 (σ : St) : Ct M5_refuse 0 [.inr (.inr (4, 0, 0)), .inl (-2)] σ (PI fun r9 σ' => (-2 : Int32) = r9 ∧ setM σ 4 0 8 2 (σ 4 0 8 2 + 1) = σ') := by
  refine Ct.of f_5_refuse (Nat.le_of_ble_eq_true rfl) ?_
  show AW M5_refuse 0 _ (0, [(0, .inr (.inr (4, 0, 0))), (1, .inl (-2))], [], σ)
  refine AW.run 20 [false, false] (28, [(2, .inl 2), (0, .inr (.inr (4, 0, 0))), (1, .inl (-2))], [.inl (-2)], (setM σ 4 0 8 (2 : Int32).toNatClampNeg ((σ 4 0 8 (2 : Int32).toNatClampNeg) + 1))) [¬ icP .lt (2 : Int32) 1, ¬ icP .ge 2 (Int32.ofNat 7), vp_in 2 7, vp_in 2 7] rfl ?_ ?_
  · exact ⟨(by decide : ¬ ((2 : Int32) < 1)), ((by decide : ¬ ((7 : Int32) ≤ 2))), (by unfold vp_in; decide), allP1 (by unfold vp_in; decide)⟩
  refine AW.reti ⟨_, rfl⟩ rfl ?_
  refine ⟨rfl, ?_⟩
  rw [show (2 : Int32).toNatClampNeg = 2 by decide]
set_option maxHeartbeats 4000000 in
set_option maxRecDepth 100000 in
theorem c5_refuse3 (σ : St) : Ct M5_refuse 0 [.inr (.inr (4, 0, 0)), .inl (-3)] σ (PI fun r9 σ' => (-3 : Int32) = r9 ∧ setM σ 4 0 8 3 (σ 4 0 8 3 + 1) = σ') := by
  refine Ct.of f_5_refuse (Nat.le_of_ble_eq_true rfl) ?_
  show AW M5_refuse 0 _ (0, [(0, .inr (.inr (4, 0, 0))), (1, .inl (-3))], [], σ)
  refine AW.run 20 [false, false] (28, [(2, .inl 3), (0, .inr (.inr (4, 0, 0))), (1, .inl (-3))], [.inl (-3)], (setM σ 4 0 8 (3 : Int32).toNatClampNeg ((σ 4 0 8 (3 : Int32).toNatClampNeg) + 1))) [¬ icP .lt (3 : Int32) 1, ¬ icP .ge 3 (Int32.ofNat 7), vp_in 3 7, vp_in 3 7] rfl ?_ ?_
  · exact ⟨(by decide : ¬ ((3 : Int32) < 1)), ((by decide : ¬ ((7 : Int32) ≤ 3))), (by unfold vp_in; decide), allP1 (by unfold vp_in; decide)⟩
  refine AW.reti ⟨_, rfl⟩ rfl ?_
  refine ⟨rfl, ?_⟩
  rw [show (3 : Int32).toNatClampNeg = 3 by decide]
set_option maxHeartbeats 4000000 in
set_option maxRecDepth 100000 in
theorem c5_refuse4 (σ : St) : Ct M5_refuse 0 [.inr (.inr (4, 0, 0)), .inl (-4)] σ (PI fun r9 σ' => (-4 : Int32) = r9 ∧ setM σ 4 0 8 4 (σ 4 0 8 4 + 1) = σ') := by
  refine Ct.of f_5_refuse (Nat.le_of_ble_eq_true rfl) ?_
  show AW M5_refuse 0 _ (0, [(0, .inr (.inr (4, 0, 0))), (1, .inl (-4))], [], σ)
  refine AW.run 20 [false, false] (28, [(2, .inl 4), (0, .inr (.inr (4, 0, 0))), (1, .inl (-4))], [.inl (-4)], (setM σ 4 0 8 (4 : Int32).toNatClampNeg ((σ 4 0 8 (4 : Int32).toNatClampNeg) + 1))) [¬ icP .lt (4 : Int32) 1, ¬ icP .ge 4 (Int32.ofNat 7), vp_in 4 7, vp_in 4 7] rfl ?_ ?_
  · exact ⟨(by decide : ¬ ((4 : Int32) < 1)), ((by decide : ¬ ((7 : Int32) ≤ 4))), (by unfold vp_in; decide), allP1 (by unfold vp_in; decide)⟩
  refine AW.reti ⟨_, rfl⟩ rfl ?_
  refine ⟨rfl, ?_⟩
  rw [show (4 : Int32).toNatClampNeg = 4 by decide]
set_option maxHeartbeats 4000000 in
set_option maxRecDepth 100000 in
theorem c5_refuse6 (σ : St) : Ct M5_refuse 0 [.inr (.inr (4, 0, 0)), .inl (-6)] σ (PI fun r9 σ' => (-6 : Int32) = r9 ∧ setM σ 4 0 8 6 (σ 4 0 8 6 + 1) = σ') := by
  refine Ct.of f_5_refuse (Nat.le_of_ble_eq_true rfl) ?_
  show AW M5_refuse 0 _ (0, [(0, .inr (.inr (4, 0, 0))), (1, .inl (-6))], [], σ)
  refine AW.run 20 [false, false] (28, [(2, .inl 6), (0, .inr (.inr (4, 0, 0))), (1, .inl (-6))], [.inl (-6)], (setM σ 4 0 8 (6 : Int32).toNatClampNeg ((σ 4 0 8 (6 : Int32).toNatClampNeg) + 1))) [¬ icP .lt (6 : Int32) 1, ¬ icP .ge 6 (Int32.ofNat 7), vp_in 6 7, vp_in 6 7] rfl ?_ ?_
  · exact ⟨(by decide : ¬ ((6 : Int32) < 1)), ((by decide : ¬ ((7 : Int32) ≤ 6))), (by unfold vp_in; decide), allP1 (by unfold vp_in; decide)⟩
  refine AW.reti ⟨_, rfl⟩ rfl ?_
  refine ⟨rfl, ?_⟩
  rw [show (6 : Int32).toNatClampNeg = 6 by decide]
set_option maxHeartbeats 4000000 in
set_option maxRecDepth 100000 in
theorem c5_isNoTwo0 (σ : St) : Ct M5_isNoTwo 0 [.inl 0] σ (PI fun r9 σ' => (0 : Int32) = r9 ∧ σ = σ') := by
  refine Ct.of f_5_isNoTwo (Nat.le_of_ble_eq_true rfl) ?_
  show AW M5_isNoTwo 0 _ (0, [(0, .inl 0)], [], σ)
  refine AW.run 3 [true] (14, [(0, .inl 0)], [.inl 0], σ) [icP .eq (0 : Int32) 0] rfl ?_ ?_
  · exact allP1 (by decide : ((0 : Int32) = 0))
  refine AW.retz ⟨_, rfl⟩ rfl (by decide) ?_
  exact ⟨rfl, rfl⟩
set_option maxHeartbeats 4000000 in
set_option maxRecDepth 100000 in
theorem c5_isNoTwo1 (σ : St) : Ct M5_isNoTwo 0 [.inl 1] σ (PI fun r9 σ' => (0 : Int32) = r9 ∧ σ = σ') := by
  refine Ct.of f_5_isNoTwo (Nat.le_of_ble_eq_true rfl) ?_
  show AW M5_isNoTwo 0 _ (0, [(0, .inl 1)], [], σ)
  refine AW.run 6 [false, true] (14, [(0, .inl 1)], [.inl 0], σ) [¬ icP .eq (1 : Int32) 0, icP .eq (1 : Int32) 1] rfl ?_ ?_
  · exact ⟨(by decide : ¬ ((1 : Int32) = 0)), allP1 (by decide : ((1 : Int32) = 1))⟩
  refine AW.retz ⟨_, rfl⟩ rfl (by decide) ?_
  exact ⟨rfl, rfl⟩
set_option maxHeartbeats 4000000 in
set_option maxRecDepth 100000 in
theorem c5_isNoTwoN (x : Int32) (h0 : ¬ x = 0) (h1 : ¬ x = 1) (σ : St) : Ct M5_isNoTwo 0 [.inl x] σ (PI fun r9 σ' => (1 : Int32) = r9 ∧ σ = σ') := by
  refine Ct.of f_5_isNoTwo (Nat.le_of_ble_eq_true rfl) ?_
  show AW M5_isNoTwo 0 _ (0, [(0, .inl x)], [], σ)
  refine AW.run 7 [false, false] (14, [(0, .inl x)], [.inl 1], σ) [¬ icP .eq x 0, ¬ icP .eq x 1] rfl ?_ ?_
  · exact ⟨(h0), allP1 (h1)⟩
  refine AW.retz ⟨_, rfl⟩ rfl (by decide) ?_
  exact ⟨rfl, rfl⟩
set_option maxHeartbeats 4000000 in
set_option maxRecDepth 100000 in
theorem c5_aheadFault4 (x : Int32) (h : x < 0) (σ : St) : Ct M5_aheadFault 0 [.inl x] σ (PI fun r9 σ' => (-4 : Int32) = r9 ∧ σ = σ') := by
  refine Ct.of f_5_aheadFault (Nat.le_of_ble_eq_true rfl) ?_
  show AW M5_aheadFault 0 _ (0, [(0, .inl x)], [], σ)
  refine AW.run 3 [false] (6, [(0, .inl x)], [.inl (-4)], σ) [¬ icP .ge x 0] rfl ?_ ?_
  · exact allP1 (Int32.not_le.mpr h)
  refine AW.reti ⟨_, rfl⟩ rfl ?_
  exact ⟨rfl, rfl⟩
set_option maxHeartbeats 4000000 in
set_option maxRecDepth 100000 in
theorem c5_aheadFault6 (x : Int32) (h0 : ¬ x < 0) (h : nI 60 < x) (σ : St) : Ct M5_aheadFault 0 [.inl x] σ (PI fun r9 σ' => (-6 : Int32) = r9 ∧ σ = σ') := by
  refine Ct.of f_5_aheadFault (Nat.le_of_ble_eq_true rfl) ?_
  show AW M5_aheadFault 0 _ (0, [(0, .inl x)], [], σ)
  refine AW.run 7 [true, false] (19, [(0, .inl x)], [.inl (-6)], σ) [icP .ge x 0, ¬ icP .le x 60] rfl ?_ ?_
  · exact ⟨(Int32.not_lt.mp h0), allP1 (Int32.not_le.mpr h)⟩
  refine AW.reti ⟨_, rfl⟩ rfl ?_
  exact ⟨rfl, rfl⟩
set_option maxHeartbeats 4000000 in
set_option maxRecDepth 100000 in
theorem c5_aheadFault0 (n : Nat) (hn : n ≤ 60) (σ : St) : Ct M5_aheadFault 0 [.inl (nI n)] σ (PI fun r9 σ' => (0 : Int32) = r9 ∧ σ = σ') := by
  refine Ct.of f_5_aheadFault (Nat.le_of_ble_eq_true rfl) ?_
  show AW M5_aheadFault 0 _ (0, [(0, .inl (nI n))], [], σ)
  refine AW.run 6 [true, true] (19, [(0, .inl (nI n))], [.inl 0], σ) [icP .ge (nI n) 0, icP .le (nI n) 60] rfl ?_ ?_
  · exact ⟨(nI_pos' (by omega)), allP1 (nI_le hn (by decide))⟩
  refine AW.reti ⟨_, rfl⟩ rfl ?_
  exact ⟨rfl, rfl⟩
def cod (k : Nat) : Int32 := match k with
  | 1 => -1 | 2 => -2 | 3 => -3 | 4 => -4 | 6 => -6 | _ => 0
def rfu (F : Gv) (k : Nat) : Int32 × Gv := (cod k, rfuF F k)
def botP (F : Gv) (x : Int32) (f : Nat → Int32 × Gv) : Int32 × Gv := match botI (Sn F.1) x with
  | none => rfu F 1
  | some k => f k
def maxP (F : Gv) (M : Nat) (x : Int32) (f : Nat → Int32 × Gv) : Int32 × Gv := match fMax M x with
  | 0 => f x.toNatClampNeg
  | k => rfu F k
def twoP (F : Gv) (x : Int32) (f : Nat → Int32 × Gv) : Int32 × Gv := if x = 0 then f 0 else if x = 1 then f 1 else rfu F 2
def whP (F : Gv) (k : Nat) (r : Int32 × Gv) : Int32 × Gv := if Sw F.1 k = true then r else rfu F 3
def pressInP (F : Gv) (b n : Int32) := botP F b fun k => maxP F 60 n fun n => (nI (Sq (passS n F.1) k), F)
def quietP (F : Gv) : Int32 × Gv := (nI (quietN F.1 60).1, F)
def goesP (F : Gv) (b : Int32) : Int32 × Gv := if b = -1 then (optI (firstN F.1 60 F.1), F) else botP F b fun k => (optI (goneN k 61 0 F.1), F)
def takesP (F : Gv) (b : Int32) := botP F b fun k => whP F k (bI (takenS F.1 k), F)
def safeP (F : Gv) (b n : Int32) := botP F b fun k => maxP F 60 n fun n => whP F k (optI (safeS F.1 k n), F)
def towelP (F : Gv) (n : Int32) := maxP F 60 n fun n => (optI (coverS F.1 n), F)
def outP (F : Gv) (n : Int32) := maxP F 60 n fun n => (optI (outS F.1 n), F)
def moveP (F : Gv) (n : Int32) := maxP F 60 n fun n => (optI (chgO F.1 n 8).1, F)
def spoonP (F : Gv) (n w : Int32) := maxP F 60 n fun n => twoP F w fun z => (if z = 0 then nI (bsug F.1 n 10).1 else nI (leftS (withU F.1 (bsug F.1 n 10).1 (She F.1)) n), F)
def feedForP (F : Gv) (b v : Int32) := botP F b fun k => maxP F 99 v fun v => (optI (fedN F.1 k v 31 0), F)
def halvedP (F : Gv) : Int32 × Gv := (optI (hlvN F.1 60 1 F.1), F)
def whoWentP (F : Gv) : Int32 × Gv := (orI (whoF F.1 F.2.2.1.2 F.2.2.1.1) 8, F)
def whatKindP (F : Gv) (b w : Int32) := botP F b fun k => twoP F w fun z => (if z = 0 then orI (knF F.1 k F.2.2.1.2 F.2.2.1.1) 6 else orI (fgF F.1 k F.2.2.1.2 F.2.2.1.1) 10, F)
def nearP (F : Gv) (b : Int32) := botP F b fun k => (bI (nearW F.1 k 8), F)
def spareP (F : Gv) (b : Int32) := botP F b fun k => (nI (bearS F.1 k - Sq F.1 k), F)
def worstP (F : Gv) (w : Int32) := twoP F w fun z => match worstS F.1 with
  | none => (-9, F)
  | some k => (if z = 0 then nI k else nI (cN (takenS F.1 k)), F)
def sharesP (F : Gv) (n w : Int32) : Int32 × Gv := if n < 1 then rfu F 4 else maxP F 9 n fun n => twoP F w fun z => (if z = 0 then nI (Su F.1 / n) else nI (Su F.1 % n), F)
def tightestP (F : Gv) (w : Int32) : Int32 × Gv := if w = 0 then (optI (tightN F.1 8), F) else if w = 1 then (nI (gapN F.1 15).1, F) else if w = 2 then (nI (Sn F.1) - nI (cN (Sw F.1)), F) else rfu F 2
def pairsP (F : Gv) (w : Int32) : Int32 × Gv := if w = 0 then (nI (esum F.1 8 / 2), F) else if w = 1 then (optI (clmN F.1 10), F) else if w = 2 then (nI (cN (Sw F.1)) - nI (leftS F.1 1), F) else if w = 3 then (optI (endN 61 0 F.1), F) else rfu F 2
def thenP (F : Gv) (n w : Int32) := maxP F 60 n fun n => if w = 0 then (bI (Sw (passS n F.1)), F) else if w = 1 then (nI (psum (passS n F.1) 8), F) else if w = 2 then (nI (leftS F.1 n), F) else rfu F 2
def officersP (F : Gv) (k : Int32) : Int32 × Gv := match botI 6 k with
  | none => rfu F 2
  | some k => (nI (ksum F.1 k 8), F)
def atP (F : Gv) (p : Int32) : Int32 × Gv := match botI 15 p with
  | none => rfu F 1
  | some p => (optI (atS F.1 p), F)
def lotsP (F : Gv) (n z w : Int32) : Int32 × Gv := if n < 1 then rfu F 4 else maxP F 20 n fun n => twoP F w fun y => (nI (lotN F.1 y n z 0), F)
def imageP (F : Gv) : Int32 × Gv := (nI (Sd F.1), (F.1, F.2.1, F.2.2.1, F.2.2.2.1, F.2.2.2.2.1, some F.1))
def restoreP (F : Gv) : Int32 × Gv := match F.2.2.2.2.2 with
  | none => rfu F 3
  | some I => (nI (Sd I), (I, F.2.1, F.2.2.1, F.2.2.2.1, (0, F.2.2.2.2.1.2), some I))
def clearP (F : Gv) : Int32 × Gv := (nI F.2.2.1.1, (F.1, F.2.1, (0, F.2.2.1.2), F.2.2.2))
/-- a change's shelf ahead of it is kept -/
def keepF (F : Gv) (S : Sv) : Gv := (S, F.2.1, F.2.2.1, F.2.2.2.1, (min 8 (F.2.2.2.2.1.1 + 1), fun j => match j with
  | 0 => F.1
  | j + 1 => F.2.2.2.2.1.2 j), F.2.2.2.2.2)
def feedsP (F : Gv) (w v : Int32) := twoP F w fun z => maxP F 9 v fun v => if z = 0 then (nI (Su F.1), keepF F (withU F.1 v (She F.1))) else (nI (She F.1), keepF F (withU F.1 (Su F.1) v))
def outsP (F : Gv) (b : Int32) := botP F b fun k => whP F k (nI (Sq F.1 k), keepF F (withQ F.1 (fu (Sq F.1) k 0)))
def towelsP (F : Gv) (b : Int32) := botP F b fun k => whP F k (if Stw F.1 k = true then 0 else 1, keepF F (withT F.1 (fu (Stw F.1) k (!(Stw F.1 k)))))
def daysP (F : Gv) (n : Int32) : Int32 × Gv := if n < 1 then rfu F 4 else maxP F 60 n fun n => if Sd F.1 + n ≤ 999 then (nI (leftS F.1 n), keepF F (passS n F.1)) else rfu F 6
def backP (F : Gv) : Int32 × Gv := match F.2.2.2.2.1.1 with
  | 0 => rfu F 3
  | b + 1 => (nI b, (F.2.2.2.2.1.2 0, F.2.1, F.2.2.1, F.2.2.2.1, (b, fun j => F.2.2.2.2.1.2 (j + 1)), F.2.2.2.2.2))
def bottleP (F : Gv) (k f p : Int32) : Int32 × Gv := match botI 6 k with
  | none => rfu F 2
  | some k => maxP F 9 f fun f => if Sn F.1 < 8 then match botI 15 p with
      | none => rfu F 1
      | some p => match atS F.1 p with
        | none => (nI (Sn F.1), (addS F.1 k f p, F.2.1, F.2.2.1, F.2.2.2.1, (0, F.2.2.2.2.1.2), F.2.2.2.2.2))
        | some _ => rfu F 3
    else rfu F 6
def bottleOfP (F : Gv) (b w : Int32) := botP F b fun k => if w = 0 then (nI (Sk F.1 k), F) else if w = 1 then (nI (Sf F.1 k), F) else if w = 2 then (nI (Sp F.1 k), F) else if w = 3 then (nI (Sq F.1 k), F) else if w = 4 then (if Sw F.1 k = true then 1 else 0, F) else if w = 5 then (if Stw F.1 k = true then 1 else 0, F) else if w = 6 then (nI (riseS F.1 k), F) else if w = 7 then (nI (bearS F.1 k), F) else if w = 8 then (nI (shockS F.1 k), F) else rfu F 2
def feedP (F : Gv) (x : Int32) : Int32 × Gv := maxP F 255 x fun l => if F.2.1.1 < 96 then (nI (F.2.1.1 + 1), (F.1, (F.2.1.1 + 1, fu F.2.1.2 F.2.1.1 l), F.2.2)) else rfu F 6
def rowP (F : Gv) (x : Int32) : Int32 × Gv := maxP F 99 x fun l => if F.2.2.1.1 < 12 then (nI (F.2.2.1.1 + 1), (F.1, F.2.1, (F.2.2.1.1 + 1, fu F.2.2.1.2 F.2.2.1.1 l), F.2.2.2)) else rfu F 6
/-- the first of the row that isn't so, from i on -/
def jdgN (F : Gv) : Nat → Nat → Option Nat
  | 0, _ => none
  | k + 1, i => if i < Sn F.1 ∧ Sq F.1 i = F.2.2.1.2 i then jdgN F k (i + 1) else some i
def judgeP (F : Gv) : Int32 × Gv := (optI (jdgN F F.2.2.1.1 0), (F.1, F.2.1, (0, F.2.2.1.2), F.2.2.2))
def cellarP (F : Gv) : Int32 × Gv := match telN F.2.1.2 F.2.1.1 F.1 with
  | (r, none) => (r, (F.1, (0, F.2.1.2), F.2.2))
  | (r, some S) => (r, (S, (0, F.2.1.2), F.2.2.1, F.2.2.2.1, (0, F.2.2.2.2.1.2), F.2.2.2.2.2))
def QA (σ : St) (r : Int32 × Gv) : Option AV → St → Prop := PI fun v σ' => ∃ F', r = (v, F') ∧ RepA σ' F' ∧ Oth σ σ'

