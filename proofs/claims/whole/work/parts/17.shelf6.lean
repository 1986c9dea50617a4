/-! COPY, HALVE, AND WHAT IS READ OFF A SHELF -/
theorem cpy_ne {σ : St} {c i j c2 i2 j2 n : Nat} {c' i' : Nat} (h : ¬ (c' = c2 ∧ i' = i2)) : cpyM σ c i j c2 i2 j2 n c' i' = σ c' i' := by
  funext j' k'
  simp only [cpyM]
  rw [if_neg]
  rintro ⟨h1, h2, -⟩
  exact h ⟨h1, h2⟩
theorem only_cpy {σ : St} {c i j c2 i2 j2 n : Nat} : Only c2 i2 σ (cpyM σ c i j c2 i2 j2 n) := fun _ _ h => cpy_ne h
theorem set_ne {σ : St} {c i j k : Nat} {v : Int32} {c' i' : Nat} (h : ¬ (c' = c ∧ i' = i)) : setM σ c i j k v c' i' = σ c' i' := only_set c' i' h
theorem cpyM_at (σ : St) (c i j c2 i2 j2 n j' k' : Nat) : cpyM σ c i j c2 i2 j2 n c2 i2 j' k' = if j' = j2 ∧ k' < n then σ c i j k' else σ c2 i2 j' k' := by simp [cpyM]
def halfQ (S : Sv) (i : Nat) : Nat → Nat := fun j => if j < i ∧ Sw S j = true then Sq S j / 2 else Sq S j
theorem halfQ_hit {S : Sv} {i : Nat} (h : Sw S i = true) : halfQ S (i + 1) = fu (halfQ S i) i (Sq S i / 2) := by
  funext k
  simp only [halfQ, fu]
  by_cases hk : k = i
  · subst hk
    simp [h]
  · have : (k < i + 1) ↔ (k < i) := by omega
    simp [hk, this]
theorem halfQ_miss {S : Sv} {i : Nat} (h : Sw S i = false) : halfQ S (i + 1) = halfQ S i := by
  funext k
  simp only [halfQ]
  by_cases hk : k = i
  · subst hk
    simp [h]
  · have : (k < i + 1) ↔ (k < i) := by omega
    simp [this]
theorem halfQ_at {S : Sv} {i : Nat} : halfQ S i i = Sq S i := by simp [halfQ]
def halfS (S : Sv) : Sv := withQ S (halfQ S 8)
theorem SOK_halfQ {S : Sv} (hO : SOK S) (m : Nat) : SOK (withQ S (halfQ S m)) := by
  obtain ⟨h1, h2, h3, h4, h5⟩ := hO
  refine ⟨h1, fun k => ⟨(h2 k).1, (h2 k).2.1, (h2 k).2.2.1, ?_⟩, fun k hk => ?_, h4, h5⟩
  · show halfQ S m k ≤ 99
    have := (h2 k).2.2.2
    unfold halfQ
    split
    · omega
    · exact this
  · obtain ⟨g1, g2, g3, g4⟩ := h3 k hk
    refine ⟨g1, g2, ?_, g4⟩
    show halfQ S m k = 0
    unfold halfQ
    rw [if_neg, g3]
    rintro ⟨-, h⟩
    rw [g1] at h
    cases h
theorem half_n : ∀ q < 100, nI q / 2 = nI (q / 2) := by decide +kernel
/-- the whole one at a place, from i on -/
def atN (S : Sv) (p : Nat) : Nat → Nat → Option Nat
  | 0, _ => none
  | k + 1, i => if Sw S i = true ∧ Sp S i = p then some i else atN S p k (i + 1)
def atS (S : Sv) (p : Nat) : Option Nat := atN S p 8 0
def optI (o : Option Nat) : Int32 := match o with
  | none => -9
  | some k => nI k
def psum (S : Sv) : Nat → Nat
  | 0 => 0
  | i + 1 => psum S i + if Sw S i = true then Sq S i else 0
theorem psum_le {S : Sv} (hO : SOK S) : ∀ i, psum S i ≤ 99 * i
  | 0 => Nat.le_refl _
  | i + 1 => by
    have := psum_le hO i
    have := (hO.2.1 i).2.2.2
    unfold psum
    split <;> omega
def ksum (S : Sv) (k : Nat) : Nat → Nat
  | 0 => 0
  | i + 1 => ksum S k i + if Sw S i = true ∧ Sk S i = k then 1 else 0
theorem ksum_le {S : Sv} {k : Nat} : ∀ i, ksum S k i ≤ i
  | 0 => Nat.le_refl _
  | i + 1 => by
    have := ksum_le (S := S) (k := k) i
    unfold ksum
    split <;> omega

set_option maxHeartbeats 4000000 in
set_option maxRecDepth 100000 in
theorem c3_copyFrom (a b : Nat) (hab : b ≠ a) (S : Sv) (σ : St) (hR : RepS (σ 2 b) S) (hO : SOK S) : Ct M3_copyFrom 1 [.inr (.inr (2, a, 0)), .inr (.inr (2, b, 0))] σ (PV fun σ' => Only 2 a σ σ' ∧ RepS (σ' 2 a) (S)) := by
  refine Ct.of f_3_copyFrom (Nat.le_of_ble_eq_true rfl) ?_
  show AW M3_copyFrom 1 _ (0, [(0, .inr (.inr (2, a, 0))), (1, .inr (.inr (2, b, 0)))], [], σ)
  have hb : ¬ ((2 : Nat) = 2 ∧ b = a) := fun h => hab h.2
  refine AW.run 7 [] (12, [(0, .inr (.inr (2, a, 0))), (1, .inr (.inr (2, b, 0)))], [.inl 8, .inl 0, .inr (.inr (2, a, 1)), .inl 0, .inr (.inr (2, b, 1))], σ) [] rfl ?_ ?_
  · exact trivial
  refine AW.copy (n := 8) ⟨_, rfl⟩ l_3_37 (Nat.le_of_ble_eq_true rfl) (Nat.le_of_ble_eq_true rfl) rfl rfl (by decide) ?_
  refine AW.run 7 [] (27, [(0, .inr (.inr (2, a, 0))), (1, .inr (.inr (2, b, 0)))], [.inl 8, .inl 0, .inr (.inr (2, a, 2)), .inl 0, .inr (.inr (2, b, 2))], (cpyM σ 2 b 1 2 a 1 8)) [] rfl ?_ ?_
  · exact trivial
  refine AW.copy (n := 8) ⟨_, rfl⟩ l_3_37 (Nat.le_of_ble_eq_true rfl) (Nat.le_of_ble_eq_true rfl) rfl rfl (by decide) ?_
  refine AW.run 7 [] (42, [(0, .inr (.inr (2, a, 0))), (1, .inr (.inr (2, b, 0)))], [.inl 8, .inl 0, .inr (.inr (2, a, 3)), .inl 0, .inr (.inr (2, b, 3))], (cpyM (cpyM σ 2 b 1 2 a 1 8) 2 b 2 2 a 2 8)) [] rfl ?_ ?_
  · exact trivial
  refine AW.copy (n := 8) ⟨_, rfl⟩ l_3_37 (Nat.le_of_ble_eq_true rfl) (Nat.le_of_ble_eq_true rfl) rfl rfl (by decide) ?_
  refine AW.run 7 [] (57, [(0, .inr (.inr (2, a, 0))), (1, .inr (.inr (2, b, 0)))], [.inl 8, .inl 0, .inr (.inr (2, a, 4)), .inl 0, .inr (.inr (2, b, 4))], (cpyM (cpyM (cpyM σ 2 b 1 2 a 1 8) 2 b 2 2 a 2 8) 2 b 3 2 a 3 8)) [] rfl ?_ ?_
  · exact trivial
  refine AW.copy (n := 8) ⟨_, rfl⟩ l_3_37 (Nat.le_of_ble_eq_true rfl) (Nat.le_of_ble_eq_true rfl) rfl rfl (by decide) ?_
  refine AW.run 7 [] (72, [(0, .inr (.inr (2, a, 0))), (1, .inr (.inr (2, b, 0)))], [.inl 8, .inl 0, .inr (.inr (2, a, 5)), .inl 0, .inr (.inr (2, b, 5))], (cpyM (cpyM (cpyM (cpyM σ 2 b 1 2 a 1 8) 2 b 2 2 a 2 8) 2 b 3 2 a 3 8) 2 b 4 2 a 4 8)) [] rfl ?_ ?_
  · exact trivial
  refine AW.copy (n := 8) ⟨_, rfl⟩ l_3_37 (Nat.le_of_ble_eq_true rfl) (Nat.le_of_ble_eq_true rfl) rfl rfl (by decide) ?_
  refine AW.run 7 [] (87, [(0, .inr (.inr (2, a, 0))), (1, .inr (.inr (2, b, 0)))], [.inl 8, .inl 0, .inr (.inr (2, a, 6)), .inl 0, .inr (.inr (2, b, 6))], (cpyM (cpyM (cpyM (cpyM (cpyM σ 2 b 1 2 a 1 8) 2 b 2 2 a 2 8) 2 b 3 2 a 3 8) 2 b 4 2 a 4 8) 2 b 5 2 a 5 8)) [] rfl ?_ ?_
  · exact trivial
  refine AW.copy (n := 8) ⟨_, rfl⟩ l_3_37 (Nat.le_of_ble_eq_true rfl) (Nat.le_of_ble_eq_true rfl) rfl rfl (by decide) ?_
  refine AW.run 7 [] (102, [(0, .inr (.inr (2, a, 0))), (1, .inr (.inr (2, b, 0)))], [.inl 8, .inl 0, .inr (.inr (2, a, 7)), .inl 0, .inr (.inr (2, b, 7))], (cpyM (cpyM (cpyM (cpyM (cpyM (cpyM σ 2 b 1 2 a 1 8) 2 b 2 2 a 2 8) 2 b 3 2 a 3 8) 2 b 4 2 a 4 8) 2 b 5 2 a 5 8) 2 b 6 2 a 6 8)) [] rfl ?_ ?_
  · exact trivial
  refine AW.copy (n := 8) ⟨_, rfl⟩ l_3_37 (Nat.le_of_ble_eq_true rfl) (Nat.le_of_ble_eq_true rfl) rfl rfl (by decide) ?_
  refine AW.run 24 [] (153, [(0, .inr (.inr (2, a, 0))), (1, .inr (.inr (2, b, 0)))], [], (setM (setM (setM (setM (setM (setM (cpyM (cpyM (cpyM (cpyM (cpyM (cpyM (cpyM σ 2 b 1 2 a 1 8) 2 b 2 2 a 2 8) 2 b 3 2 a 3 8) 2 b 4 2 a 4 8) 2 b 5 2 a 5 8) 2 b 6 2 a 6 8) 2 b 7 2 a 7 8) 2 a 0 7 ((cpyM (cpyM (cpyM (cpyM (cpyM (cpyM (cpyM σ 2 b 1 2 a 1 8) 2 b 2 2 a 2 8) 2 b 3 2 a 3 8) 2 b 4 2 a 4 8) 2 b 5 2 a 5 8) 2 b 6 2 a 6 8) 2 b 7 2 a 7 8) 2 b 0 7)) 2 a 0 8 ((setM (cpyM (cpyM (cpyM (cpyM (cpyM (cpyM (cpyM σ 2 b 1 2 a 1 8) 2 b 2 2 a 2 8) 2 b 3 2 a 3 8) 2 b 4 2 a 4 8) 2 b 5 2 a 5 8) 2 b 6 2 a 6 8) 2 b 7 2 a 7 8) 2 a 0 7 ((cpyM (cpyM (cpyM (cpyM (cpyM (cpyM (cpyM σ 2 b 1 2 a 1 8) 2 b 2 2 a 2 8) 2 b 3 2 a 3 8) 2 b 4 2 a 4 8) 2 b 5 2 a 5 8) 2 b 6 2 a 6 8) 2 b 7 2 a 7 8) 2 b 0 7)) 2 b 0 8)) 2 a 0 9 ((setM (setM (cpyM (cpyM (cpyM (cpyM (cpyM (cpyM (cpyM σ 2 b 1 2 a 1 8) 2 b 2 2 a 2 8) 2 b 3 2 a 3 8) 2 b 4 2 a 4 8) 2 b 5 2 a 5 8) 2 b 6 2 a 6 8) 2 b 7 2 a 7 8) 2 a 0 7 ((cpyM (cpyM (cpyM (cpyM (cpyM (cpyM (cpyM σ 2 b 1 2 a 1 8) 2 b 2 2 a 2 8) 2 b 3 2 a 3 8) 2 b 4 2 a 4 8) 2 b 5 2 a 5 8) 2 b 6 2 a 6 8) 2 b 7 2 a 7 8) 2 b 0 7)) 2 a 0 8 ((setM (cpyM (cpyM (cpyM (cpyM (cpyM (cpyM (cpyM σ 2 b 1 2 a 1 8) 2 b 2 2 a 2 8) 2 b 3 2 a 3 8) 2 b 4 2 a 4 8) 2 b 5 2 a 5 8) 2 b 6 2 a 6 8) 2 b 7 2 a 7 8) 2 a 0 7 ((cpyM (cpyM (cpyM (cpyM (cpyM (cpyM (cpyM σ 2 b 1 2 a 1 8) 2 b 2 2 a 2 8) 2 b 3 2 a 3 8) 2 b 4 2 a 4 8) 2 b 5 2 a 5 8) 2 b 6 2 a 6 8) 2 b 7 2 a 7 8) 2 b 0 7)) 2 b 0 8)) 2 b 0 9)) 2 a 0 10 ((setM (setM (setM (cpyM (cpyM (cpyM (cpyM (cpyM (cpyM (cpyM σ 2 b 1 2 a 1 8) 2 b 2 2 a 2 8) 2 b 3 2 a 3 8) 2 b 4 2 a 4 8) 2 b 5 2 a 5 8) 2 b 6 2 a 6 8) 2 b 7 2 a 7 8) 2 a 0 7 ((cpyM (cpyM (cpyM (cpyM (cpyM (cpyM (cpyM σ 2 b 1 2 a 1 8) 2 b 2 2 a 2 8) 2 b 3 2 a 3 8) 2 b 4 2 a 4 8) 2 b 5 2 a 5 8) 2 b 6 2 a 6 8) 2 b 7 2 a 7 8) 2 b 0 7)) 2 a 0 8 ((setM (cpyM (cpyM (cpyM (cpyM (cpyM (cpyM (cpyM σ 2 b 1 2 a 1 8) 2 b 2 2 a 2 8) 2 b 3 2 a 3 8) 2 b 4 2 a 4 8) 2 b 5 2 a 5 8) 2 b 6 2 a 6 8) 2 b 7 2 a 7 8) 2 a 0 7 ((cpyM (cpyM (cpyM (cpyM (cpyM (cpyM (cpyM σ 2 b 1 2 a 1 8) 2 b 2 2 a 2 8) 2 b 3 2 a 3 8) 2 b 4 2 a 4 8) 2 b 5 2 a 5 8) 2 b 6 2 a 6 8) 2 b 7 2 a 7 8) 2 b 0 7)) 2 b 0 8)) 2 a 0 9 ((setM (setM (cpyM (cpyM (cpyM (cpyM (cpyM (cpyM (cpyM σ 2 b 1 2 a 1 8) 2 b 2 2 a 2 8) 2 b 3 2 a 3 8) 2 b 4 2 a 4 8) 2 b 5 2 a 5 8) 2 b 6 2 a 6 8) 2 b 7 2 a 7 8) 2 a 0 7 ((cpyM (cpyM (cpyM (cpyM (cpyM (cpyM (cpyM σ 2 b 1 2 a 1 8) 2 b 2 2 a 2 8) 2 b 3 2 a 3 8) 2 b 4 2 a 4 8) 2 b 5 2 a 5 8) 2 b 6 2 a 6 8) 2 b 7 2 a 7 8) 2 b 0 7)) 2 a 0 8 ((setM (cpyM (cpyM (cpyM (cpyM (cpyM (cpyM (cpyM σ 2 b 1 2 a 1 8) 2 b 2 2 a 2 8) 2 b 3 2 a 3 8) 2 b 4 2 a 4 8) 2 b 5 2 a 5 8) 2 b 6 2 a 6 8) 2 b 7 2 a 7 8) 2 a 0 7 ((cpyM (cpyM (cpyM (cpyM (cpyM (cpyM (cpyM σ 2 b 1 2 a 1 8) 2 b 2 2 a 2 8) 2 b 3 2 a 3 8) 2 b 4 2 a 4 8) 2 b 5 2 a 5 8) 2 b 6 2 a 6 8) 2 b 7 2 a 7 8) 2 b 0 7)) 2 b 0 8)) 2 b 0 9)) 2 b 0 10)) 2 a 0 11 ((setM (setM (setM (setM (cpyM (cpyM (cpyM (cpyM (cpyM (cpyM (cpyM σ 2 b 1 2 a 1 8) 2 b 2 2 a 2 8) 2 b 3 2 a 3 8) 2 b 4 2 a 4 8) 2 b 5 2 a 5 8) 2 b 6 2 a 6 8) 2 b 7 2 a 7 8) 2 a 0 7 ((cpyM (cpyM (cpyM (cpyM (cpyM (cpyM (cpyM σ 2 b 1 2 a 1 8) 2 b 2 2 a 2 8) 2 b 3 2 a 3 8) 2 b 4 2 a 4 8) 2 b 5 2 a 5 8) 2 b 6 2 a 6 8) 2 b 7 2 a 7 8) 2 b 0 7)) 2 a 0 8 ((setM (cpyM (cpyM (cpyM (cpyM (cpyM (cpyM (cpyM σ 2 b 1 2 a 1 8) 2 b 2 2 a 2 8) 2 b 3 2 a 3 8) 2 b 4 2 a 4 8) 2 b 5 2 a 5 8) 2 b 6 2 a 6 8) 2 b 7 2 a 7 8) 2 a 0 7 ((cpyM (cpyM (cpyM (cpyM (cpyM (cpyM (cpyM σ 2 b 1 2 a 1 8) 2 b 2 2 a 2 8) 2 b 3 2 a 3 8) 2 b 4 2 a 4 8) 2 b 5 2 a 5 8) 2 b 6 2 a 6 8) 2 b 7 2 a 7 8) 2 b 0 7)) 2 b 0 8)) 2 a 0 9 ((setM (setM (cpyM (cpyM (cpyM (cpyM (cpyM (cpyM (cpyM σ 2 b 1 2 a 1 8) 2 b 2 2 a 2 8) 2 b 3 2 a 3 8) 2 b 4 2 a 4 8) 2 b 5 2 a 5 8) 2 b 6 2 a 6 8) 2 b 7 2 a 7 8) 2 a 0 7 ((cpyM (cpyM (cpyM (cpyM (cpyM (cpyM (cpyM σ 2 b 1 2 a 1 8) 2 b 2 2 a 2 8) 2 b 3 2 a 3 8) 2 b 4 2 a 4 8) 2 b 5 2 a 5 8) 2 b 6 2 a 6 8) 2 b 7 2 a 7 8) 2 b 0 7)) 2 a 0 8 ((setM (cpyM (cpyM (cpyM (cpyM (cpyM (cpyM (cpyM σ 2 b 1 2 a 1 8) 2 b 2 2 a 2 8) 2 b 3 2 a 3 8) 2 b 4 2 a 4 8) 2 b 5 2 a 5 8) 2 b 6 2 a 6 8) 2 b 7 2 a 7 8) 2 a 0 7 ((cpyM (cpyM (cpyM (cpyM (cpyM (cpyM (cpyM σ 2 b 1 2 a 1 8) 2 b 2 2 a 2 8) 2 b 3 2 a 3 8) 2 b 4 2 a 4 8) 2 b 5 2 a 5 8) 2 b 6 2 a 6 8) 2 b 7 2 a 7 8) 2 b 0 7)) 2 b 0 8)) 2 b 0 9)) 2 a 0 10 ((setM (setM (setM (cpyM (cpyM (cpyM (cpyM (cpyM (cpyM (cpyM σ 2 b 1 2 a 1 8) 2 b 2 2 a 2 8) 2 b 3 2 a 3 8) 2 b 4 2 a 4 8) 2 b 5 2 a 5 8) 2 b 6 2 a 6 8) 2 b 7 2 a 7 8) 2 a 0 7 ((cpyM (cpyM (cpyM (cpyM (cpyM (cpyM (cpyM σ 2 b 1 2 a 1 8) 2 b 2 2 a 2 8) 2 b 3 2 a 3 8) 2 b 4 2 a 4 8) 2 b 5 2 a 5 8) 2 b 6 2 a 6 8) 2 b 7 2 a 7 8) 2 b 0 7)) 2 a 0 8 ((setM (cpyM (cpyM (cpyM (cpyM (cpyM (cpyM (cpyM σ 2 b 1 2 a 1 8) 2 b 2 2 a 2 8) 2 b 3 2 a 3 8) 2 b 4 2 a 4 8) 2 b 5 2 a 5 8) 2 b 6 2 a 6 8) 2 b 7 2 a 7 8) 2 a 0 7 ((cpyM (cpyM (cpyM (cpyM (cpyM (cpyM (cpyM σ 2 b 1 2 a 1 8) 2 b 2 2 a 2 8) 2 b 3 2 a 3 8) 2 b 4 2 a 4 8) 2 b 5 2 a 5 8) 2 b 6 2 a 6 8) 2 b 7 2 a 7 8) 2 b 0 7)) 2 b 0 8)) 2 a 0 9 ((setM (setM (cpyM (cpyM (cpyM (cpyM (cpyM (cpyM (cpyM σ 2 b 1 2 a 1 8) 2 b 2 2 a 2 8) 2 b 3 2 a 3 8) 2 b 4 2 a 4 8) 2 b 5 2 a 5 8) 2 b 6 2 a 6 8) 2 b 7 2 a 7 8) 2 a 0 7 ((cpyM (cpyM (cpyM (cpyM (cpyM (cpyM (cpyM σ 2 b 1 2 a 1 8) 2 b 2 2 a 2 8) 2 b 3 2 a 3 8) 2 b 4 2 a 4 8) 2 b 5 2 a 5 8) 2 b 6 2 a 6 8) 2 b 7 2 a 7 8) 2 b 0 7)) 2 a 0 8 ((setM (cpyM (cpyM (cpyM (cpyM (cpyM (cpyM (cpyM σ 2 b 1 2 a 1 8) 2 b 2 2 a 2 8) 2 b 3 2 a 3 8) 2 b 4 2 a 4 8) 2 b 5 2 a 5 8) 2 b 6 2 a 6 8) 2 b 7 2 a 7 8) 2 a 0 7 ((cpyM (cpyM (cpyM (cpyM (cpyM (cpyM (cpyM σ 2 b 1 2 a 1 8) 2 b 2 2 a 2 8) 2 b 3 2 a 3 8) 2 b 4 2 a 4 8) 2 b 5 2 a 5 8) 2 b 6 2 a 6 8) 2 b 7 2 a 7 8) 2 b 0 7)) 2 b 0 8)) 2 b 0 9)) 2 b 0 10)) 2 b 0 11)) 2 a 0 12 ((setM (setM (setM (setM (setM (cpyM (cpyM (cpyM (cpyM (cpyM (cpyM (cpyM σ 2 b 1 2 a 1 8) 2 b 2 2 a 2 8) 2 b 3 2 a 3 8) 2 b 4 2 a 4 8) 2 b 5 2 a 5 8) 2 b 6 2 a 6 8) 2 b 7 2 a 7 8) 2 a 0 7 ((cpyM (cpyM (cpyM (cpyM (cpyM (cpyM (cpyM σ 2 b 1 2 a 1 8) 2 b 2 2 a 2 8) 2 b 3 2 a 3 8) 2 b 4 2 a 4 8) 2 b 5 2 a 5 8) 2 b 6 2 a 6 8) 2 b 7 2 a 7 8) 2 b 0 7)) 2 a 0 8 ((setM (cpyM (cpyM (cpyM (cpyM (cpyM (cpyM (cpyM σ 2 b 1 2 a 1 8) 2 b 2 2 a 2 8) 2 b 3 2 a 3 8) 2 b 4 2 a 4 8) 2 b 5 2 a 5 8) 2 b 6 2 a 6 8) 2 b 7 2 a 7 8) 2 a 0 7 ((cpyM (cpyM (cpyM (cpyM (cpyM (cpyM (cpyM σ 2 b 1 2 a 1 8) 2 b 2 2 a 2 8) 2 b 3 2 a 3 8) 2 b 4 2 a 4 8) 2 b 5 2 a 5 8) 2 b 6 2 a 6 8) 2 b 7 2 a 7 8) 2 b 0 7)) 2 b 0 8)) 2 a 0 9 ((setM (setM (cpyM (cpyM (cpyM (cpyM (cpyM (cpyM (cpyM σ 2 b 1 2 a 1 8) 2 b 2 2 a 2 8) 2 b 3 2 a 3 8) 2 b 4 2 a 4 8) 2 b 5 2 a 5 8) 2 b 6 2 a 6 8) 2 b 7 2 a 7 8) 2 a 0 7 ((cpyM (cpyM (cpyM (cpyM (cpyM (cpyM (cpyM σ 2 b 1 2 a 1 8) 2 b 2 2 a 2 8) 2 b 3 2 a 3 8) 2 b 4 2 a 4 8) 2 b 5 2 a 5 8) 2 b 6 2 a 6 8) 2 b 7 2 a 7 8) 2 b 0 7)) 2 a 0 8 ((setM (cpyM (cpyM (cpyM (cpyM (cpyM (cpyM (cpyM σ 2 b 1 2 a 1 8) 2 b 2 2 a 2 8) 2 b 3 2 a 3 8) 2 b 4 2 a 4 8) 2 b 5 2 a 5 8) 2 b 6 2 a 6 8) 2 b 7 2 a 7 8) 2 a 0 7 ((cpyM (cpyM (cpyM (cpyM (cpyM (cpyM (cpyM σ 2 b 1 2 a 1 8) 2 b 2 2 a 2 8) 2 b 3 2 a 3 8) 2 b 4 2 a 4 8) 2 b 5 2 a 5 8) 2 b 6 2 a 6 8) 2 b 7 2 a 7 8) 2 b 0 7)) 2 b 0 8)) 2 b 0 9)) 2 a 0 10 ((setM (setM (setM (cpyM (cpyM (cpyM (cpyM (cpyM (cpyM (cpyM σ 2 b 1 2 a 1 8) 2 b 2 2 a 2 8) 2 b 3 2 a 3 8) 2 b 4 2 a 4 8) 2 b 5 2 a 5 8) 2 b 6 2 a 6 8) 2 b 7 2 a 7 8) 2 a 0 7 ((cpyM (cpyM (cpyM (cpyM (cpyM (cpyM (cpyM σ 2 b 1 2 a 1 8) 2 b 2 2 a 2 8) 2 b 3 2 a 3 8) 2 b 4 2 a 4 8) 2 b 5 2 a 5 8) 2 b 6 2 a 6 8) 2 b 7 2 a 7 8) 2 b 0 7)) 2 a 0 8 ((setM (cpyM (cpyM (cpyM (cpyM (cpyM (cpyM (cpyM σ 2 b 1 2 a 1 8) 2 b 2 2 a 2 8) 2 b 3 2 a 3 8) 2 b 4 2 a 4 8) 2 b 5 2 a 5 8) 2 b 6 2 a 6 8) 2 b 7 2 a 7 8) 2 a 0 7 ((cpyM (cpyM (cpyM (cpyM (cpyM (cpyM (cpyM σ 2 b 1 2 a 1 8) 2 b 2 2 a 2 8) 2 b 3 2 a 3 8) 2 b 4 2 a 4 8) 2 b 5 2 a 5 8) 2 b 6 2 a 6 8) 2 b 7 2 a 7 8) 2 b 0 7)) 2 b 0 8)) 2 a 0 9 ((setM (setM (cpyM (cpyM (cpyM (cpyM (cpyM (cpyM (cpyM σ 2 b 1 2 a 1 8) 2 b 2 2 a 2 8) 2 b 3 2 a 3 8) 2 b 4 2 a 4 8) 2 b 5 2 a 5 8) 2 b 6 2 a 6 8) 2 b 7 2 a 7 8) 2 a 0 7 ((cpyM (cpyM (cpyM (cpyM (cpyM (cpyM (cpyM σ 2 b 1 2 a 1 8) 2 b 2 2 a 2 8) 2 b 3 2 a 3 8) 2 b 4 2 a 4 8) 2 b 5 2 a 5 8) 2 b 6 2 a 6 8) 2 b 7 2 a 7 8) 2 b 0 7)) 2 a 0 8 ((setM (cpyM (cpyM (cpyM (cpyM (cpyM (cpyM (cpyM σ 2 b 1 2 a 1 8) 2 b 2 2 a 2 8) 2 b 3 2 a 3 8) 2 b 4 2 a 4 8) 2 b 5 2 a 5 8) 2 b 6 2 a 6 8) 2 b 7 2 a 7 8) 2 a 0 7 ((cpyM (cpyM (cpyM (cpyM (cpyM (cpyM (cpyM σ 2 b 1 2 a 1 8) 2 b 2 2 a 2 8) 2 b 3 2 a 3 8) 2 b 4 2 a 4 8) 2 b 5 2 a 5 8) 2 b 6 2 a 6 8) 2 b 7 2 a 7 8) 2 b 0 7)) 2 b 0 8)) 2 b 0 9)) 2 b 0 10)) 2 a 0 11 ((setM (setM (setM (setM (cpyM (cpyM (cpyM (cpyM (cpyM (cpyM (cpyM σ 2 b 1 2 a 1 8) 2 b 2 2 a 2 8) 2 b 3 2 a 3 8) 2 b 4 2 a 4 8) 2 b 5 2 a 5 8) 2 b 6 2 a 6 8) 2 b 7 2 a 7 8) 2 a 0 7 ((cpyM (cpyM (cpyM (cpyM (cpyM (cpyM (cpyM σ 2 b 1 2 a 1 8) 2 b 2 2 a 2 8) 2 b 3 2 a 3 8) 2 b 4 2 a 4 8) 2 b 5 2 a 5 8) 2 b 6 2 a 6 8) 2 b 7 2 a 7 8) 2 b 0 7)) 2 a 0 8 ((setM (cpyM (cpyM (cpyM (cpyM (cpyM (cpyM (cpyM σ 2 b 1 2 a 1 8) 2 b 2 2 a 2 8) 2 b 3 2 a 3 8) 2 b 4 2 a 4 8) 2 b 5 2 a 5 8) 2 b 6 2 a 6 8) 2 b 7 2 a 7 8) 2 a 0 7 ((cpyM (cpyM (cpyM (cpyM (cpyM (cpyM (cpyM σ 2 b 1 2 a 1 8) 2 b 2 2 a 2 8) 2 b 3 2 a 3 8) 2 b 4 2 a 4 8) 2 b 5 2 a 5 8) 2 b 6 2 a 6 8) 2 b 7 2 a 7 8) 2 b 0 7)) 2 b 0 8)) 2 a 0 9 ((setM (setM (cpyM (cpyM (cpyM (cpyM (cpyM (cpyM (cpyM σ 2 b 1 2 a 1 8) 2 b 2 2 a 2 8) 2 b 3 2 a 3 8) 2 b 4 2 a 4 8) 2 b 5 2 a 5 8) 2 b 6 2 a 6 8) 2 b 7 2 a 7 8) 2 a 0 7 ((cpyM (cpyM (cpyM (cpyM (cpyM (cpyM (cpyM σ 2 b 1 2 a 1 8) 2 b 2 2 a 2 8) 2 b 3 2 a 3 8) 2 b 4 2 a 4 8) 2 b 5 2 a 5 8) 2 b 6 2 a 6 8) 2 b 7 2 a 7 8) 2 b 0 7)) 2 a 0 8 ((setM (cpyM (cpyM (cpyM (cpyM (cpyM (cpyM (cpyM σ 2 b 1 2 a 1 8) 2 b 2 2 a 2 8) 2 b 3 2 a 3 8) 2 b 4 2 a 4 8) 2 b 5 2 a 5 8) 2 b 6 2 a 6 8) 2 b 7 2 a 7 8) 2 a 0 7 ((cpyM (cpyM (cpyM (cpyM (cpyM (cpyM (cpyM σ 2 b 1 2 a 1 8) 2 b 2 2 a 2 8) 2 b 3 2 a 3 8) 2 b 4 2 a 4 8) 2 b 5 2 a 5 8) 2 b 6 2 a 6 8) 2 b 7 2 a 7 8) 2 b 0 7)) 2 b 0 8)) 2 b 0 9)) 2 a 0 10 ((setM (setM (setM (cpyM (cpyM (cpyM (cpyM (cpyM (cpyM (cpyM σ 2 b 1 2 a 1 8) 2 b 2 2 a 2 8) 2 b 3 2 a 3 8) 2 b 4 2 a 4 8) 2 b 5 2 a 5 8) 2 b 6 2 a 6 8) 2 b 7 2 a 7 8) 2 a 0 7 ((cpyM (cpyM (cpyM (cpyM (cpyM (cpyM (cpyM σ 2 b 1 2 a 1 8) 2 b 2 2 a 2 8) 2 b 3 2 a 3 8) 2 b 4 2 a 4 8) 2 b 5 2 a 5 8) 2 b 6 2 a 6 8) 2 b 7 2 a 7 8) 2 b 0 7)) 2 a 0 8 ((setM (cpyM (cpyM (cpyM (cpyM (cpyM (cpyM (cpyM σ 2 b 1 2 a 1 8) 2 b 2 2 a 2 8) 2 b 3 2 a 3 8) 2 b 4 2 a 4 8) 2 b 5 2 a 5 8) 2 b 6 2 a 6 8) 2 b 7 2 a 7 8) 2 a 0 7 ((cpyM (cpyM (cpyM (cpyM (cpyM (cpyM (cpyM σ 2 b 1 2 a 1 8) 2 b 2 2 a 2 8) 2 b 3 2 a 3 8) 2 b 4 2 a 4 8) 2 b 5 2 a 5 8) 2 b 6 2 a 6 8) 2 b 7 2 a 7 8) 2 b 0 7)) 2 b 0 8)) 2 a 0 9 ((setM (setM (cpyM (cpyM (cpyM (cpyM (cpyM (cpyM (cpyM σ 2 b 1 2 a 1 8) 2 b 2 2 a 2 8) 2 b 3 2 a 3 8) 2 b 4 2 a 4 8) 2 b 5 2 a 5 8) 2 b 6 2 a 6 8) 2 b 7 2 a 7 8) 2 a 0 7 ((cpyM (cpyM (cpyM (cpyM (cpyM (cpyM (cpyM σ 2 b 1 2 a 1 8) 2 b 2 2 a 2 8) 2 b 3 2 a 3 8) 2 b 4 2 a 4 8) 2 b 5 2 a 5 8) 2 b 6 2 a 6 8) 2 b 7 2 a 7 8) 2 b 0 7)) 2 a 0 8 ((setM (cpyM (cpyM (cpyM (cpyM (cpyM (cpyM (cpyM σ 2 b 1 2 a 1 8) 2 b 2 2 a 2 8) 2 b 3 2 a 3 8) 2 b 4 2 a 4 8) 2 b 5 2 a 5 8) 2 b 6 2 a 6 8) 2 b 7 2 a 7 8) 2 a 0 7 ((cpyM (cpyM (cpyM (cpyM (cpyM (cpyM (cpyM σ 2 b 1 2 a 1 8) 2 b 2 2 a 2 8) 2 b 3 2 a 3 8) 2 b 4 2 a 4 8) 2 b 5 2 a 5 8) 2 b 6 2 a 6 8) 2 b 7 2 a 7 8) 2 b 0 7)) 2 b 0 8)) 2 b 0 9)) 2 b 0 10)) 2 b 0 11)) 2 b 0 12))) [] rfl ?_ ?_
  · exact trivial
  refine AW.retv ⟨_, rfl⟩ rfl ?_
  refine ⟨?_, ?_⟩
  · intro c' i' hn
    simp only [set_ne hn, cpy_ne hn]
  · refine ⟨?_, fun i hi => ?_, fun i hi => ?_⟩
    · simp only [setM_at, cpyM_at, set_ne hb, cpy_ne hb]
      simpa using hR.1
    · have hg := hR.2.1 i hi
      simp only [setM_at, cpyM_at, set_ne hb, cpy_ne hb]
      simpa [hi] using hg
    · have hg := hR.2.2 i hi
      have hi8 : i < 8 ∨ 8 ≤ i := by omega
      rcases hi8 with hi8 | hi8
      · simp only [setM_at, cpyM_at, set_ne hb, cpy_ne hb]
        simpa [hi8] using hg
      · exact absurd hi8 (by have := hO.1; omega)
set_option maxHeartbeats 4000000 in
set_option maxRecDepth 100000 in
theorem c3_halvePress (a : Nat) (S : Sv) (σ : St) (hR : RepS (σ 2 a) S) (hO : SOK S) : Ct M3_halvePress 1 [.inr (.inr (2, a, 0))] σ (PV fun σ' => Only 2 a σ σ' ∧ RepS (σ' 2 a) (halfS S)) := by
  refine Ct.of f_3_halvePress (Nat.le_of_ble_eq_true rfl) ?_
  show AW M3_halvePress 1 _ (0, [(0, .inr (.inr (2, a, 0)))], [], σ)
  refine AW.run 2 [] (2, [(1, .inl 0), (0, .inr (.inr (2, a, 0)))], [], σ) [] rfl ?_ ?_
  · exact trivial
  refine AW.pick [1, 0] (ls' := [(0, .inr (.inr (2, a, 0))), (1, .inl (nI 0))]) rfl ?_
  refine AW.loop (α := Unit) 2 8 (fun i _ => [(0, .inr (.inr (2, a, 0))), (1, .inl (nI i))]) (fun i _ τ => Only 2 a σ τ ∧ RepS (τ 2 a) (withQ S (halfQ S i))) ?_ ?_ 8 0 () _ (by omega) ⟨only_rfl, hR⟩
  · intro i _ τ hi hI hk
    obtain ⟨hS1, hR1⟩ := hI
    have q1 : τ 2 a 4 (nI i).toNatClampNeg = nI (Sq S i) := by rw [cl8 hi, (hR1.2.1 i hi).2.2.2]; exact congrArg nI halfQ_at
    have hq : Sq S i < 100 := by have := (hO.2.1 i).2.2.2; omega
    skip
    refine AW.run 5 [false] (10, [(0, .inr (.inr (2, a, 0))), (1, .inl (nI i))], [.inl (nI i), .inr (.inr (2, a, 0))], τ) [¬ icP .ge (nI i) 8] rfl ?_ ?_
    · exact allP1 (nle_lit (a := 8) hi (by decide))
    refine AW.callVI (d' := 0) [.inl (nI i)] [] ⟨_, rfl⟩ f_3_isWhole v_3_isWhole l_3_79 ⟨rfl, by decide⟩ rfl (Nat.le_of_ble_eq_true rfl) rfl (Nat.le_of_ble_eq_true rfl) (c3_isWhole a (withQ S (halfQ S i)) τ hR1 (SOK_halfQ hO i) i (by omega)) ?_
    rintro v _ ⟨rfl, hv⟩
    rcases hv with ⟨rfl, hp10⟩ | ⟨rfl, hp10⟩
    · skip
      refine AW.run 6 [false] (23, [(0, .inr (.inr (2, a, 0))), (1, .inl (nI i))], [.inl (τ 2 a 4 (nI i).toNatClampNeg), .inl (nI i), .inr (.inr (2, a, 4))], τ) [¬ icP .eq (1 : Int32) 0, vp_in (nI i) 8] rfl ?_ ?_
      · exact ⟨(by decide : ¬ ((1 : Int32) = 0)), allP1 (by exact in8 hi)⟩
      rw [q1]
      refine AW.run 2 [] (25, [(0, .inr (.inr (2, a, 0))), (1, .inl (nI i))], [.inl ((nI (Sq S i)) / 2), .inl (nI i), .inr (.inr (2, a, 4))], τ) [¬ (2 : Int32) = 0] rfl ?_ ?_
      · exact allP1 (by decide)
      rw [half_n _ hq]
      refine AW.run 3 [] (2, [(1, .inl ((nI i) + 1)), (0, .inr (.inr (2, a, 0)))], [], (setM τ 2 a 4 (nI i).toNatClampNeg (nI (Sq S i / 2)))) [vp_in (nI i) 8] rfl ?_ ?_
      · exact allP1 (by exact in8 hi)
      rw [nI_1 i]
      refine AW.pick [1, 0] (ls' := [(0, .inr (.inr (2, a, 0))), (1, .inl (nI (i + 1)))]) rfl ?_
      exact hk () _ ⟨only_trans hS1 only_set, by rw [cl8 hi, halfQ_hit (S := S) hp10]; exact rep_q hR1⟩
    · skip
      refine AW.run 3 [true] (2, [(1, .inl ((nI i) + 1)), (0, .inr (.inr (2, a, 0)))], [], τ) [icP .eq (0 : Int32) 0] rfl ?_ ?_
      · exact allP1 (by decide : ((0 : Int32) = 0))
      rw [nI_1 i]
      refine AW.pick [1, 0] (ls' := [(0, .inr (.inr (2, a, 0))), (1, .inl (nI (i + 1)))]) rfl ?_
      exact hk () _ ⟨hS1, by rw [halfQ_miss (S := S) hp10]; exact hR1⟩
  · intro _ τ hI
    obtain ⟨hS1, hR1⟩ := hI
    refine AW.run 3 [true] (32, [(0, .inr (.inr (2, a, 0))), (1, .inl (nI 8))], [], τ) [icP .ge (nI 8) 8] rfl ?_ ?_
    · exact allP1 (le_lit (a := 8) (b := 8) (by decide) (by decide))
    refine AW.retv ⟨_, rfl⟩ rfl ?_
    exact ⟨hS1, hR1⟩
set_option maxHeartbeats 4000000 in
set_option maxRecDepth 100000 in
theorem c3_wholeAt (a : Nat) (S : Sv) (σ : St) (hR : RepS (σ 2 a) S) (hO : SOK S) (p : Nat) (hp : p < 2 ^ 31) : Ct M3_wholeAt 1 [.inr (.inr (2, a, 0)), .inl (nI p)] σ (PI fun v σ' => optI (atS S p) = v ∧ σ = σ') := by
  refine Ct.of f_3_wholeAt (Nat.le_of_ble_eq_true rfl) ?_
  show AW M3_wholeAt 1 _ (0, [(0, .inr (.inr (2, a, 0))), (1, .inl (nI p))], [], σ)
  refine AW.run 2 [] (2, [(2, .inl 0), (0, .inr (.inr (2, a, 0))), (1, .inl (nI p))], [], σ) [] rfl ?_ ?_
  · exact trivial
  refine AW.pick [1, 2, 0] (ls' := [(0, .inr (.inr (2, a, 0))), (1, .inl (nI p)), (2, .inl (nI 0))]) rfl ?_
  refine AW.loop (α := Unit) 2 8 (fun i _ => [(0, .inr (.inr (2, a, 0))), (1, .inl (nI p)), (2, .inl (nI i))]) (fun i _ τ => σ = τ ∧ atS S p = atN S p (8 - i) i) ?_ ?_ 8 0 () _ (by omega) ⟨rfl, rfl⟩
  · intro i _ τ hi hI hk
    obtain ⟨rfl, hI⟩ := hI
    have q1 : σ 2 a 3 (nI i).toNatClampNeg = nI (Sp S i) := by rw [cl8 hi]; exact (hR.2.1 i hi).2.2.1
    have hpl := (hO.2.1 i).2.2.1
    have hu : atN S p (8 - i) i = if Sw S i = true ∧ Sp S i = p then some i else atN S p (8 - (i + 1)) (i + 1) := by
      obtain ⟨m, hm⟩ : ∃ m, 8 - i = m + 1 := ⟨7 - i, by omega⟩
      rw [hm, show 8 - (i + 1) = m by omega]; rfl
    rw [hu] at hI
    skip
    refine AW.run 5 [false] (10, [(0, .inr (.inr (2, a, 0))), (1, .inl (nI p)), (2, .inl (nI i))], [.inl (nI i), .inr (.inr (2, a, 0))], σ) [¬ icP .ge (nI i) 8] rfl ?_ ?_
    · exact allP1 (nle_lit (a := 8) hi (by decide))
    refine AW.callVI (d' := 0) [.inl (nI i)] [] ⟨_, rfl⟩ f_3_isWhole v_3_isWhole l_3_79 ⟨rfl, by decide⟩ rfl (Nat.le_of_ble_eq_true rfl) rfl (Nat.le_of_ble_eq_true rfl) (c3_isWhole a S σ hR hO i (by omega)) ?_
    rintro v _ ⟨rfl, hv⟩
    rcases hv with ⟨rfl, hp10⟩ | ⟨rfl, hp10⟩
    · skip
      refine AW.run 5 [false] (22, [(0, .inr (.inr (2, a, 0))), (1, .inl (nI p)), (2, .inl (nI i))], [.inl (σ 2 a 3 (nI i).toNatClampNeg)], σ) [¬ icP .eq (1 : Int32) 0, vp_in (nI i) 8] rfl ?_ ?_
      · exact ⟨(by decide : ¬ ((1 : Int32) = 0)), allP1 (by exact in8 hi)⟩
      rw [q1]
      by_cases h23_1 : Sp S i = p
      · skip
        refine AW.run 3 [false] (27, [(0, .inr (.inr (2, a, 0))), (1, .inl (nI p)), (2, .inl (nI i))], [.inl (nI i)], σ) [¬ icP .ne (nI (Sp S i)) (nI p)] rfl ?_ ?_
        · exact allP1 (fun q => q (by rw [h23_1]))
        refine AW.reti ⟨_, rfl⟩ rfl ?_
        rw [hI, if_pos ⟨hp10, by assumption⟩]
        exact ⟨rfl, rfl⟩
      · skip
        refine AW.run 4 [true] (2, [(2, .inl ((nI i) + 1)), (0, .inr (.inr (2, a, 0))), (1, .inl (nI p))], [], σ) [icP .ne (nI (Sp S i)) (nI p)] rfl ?_ ?_
        · exact allP1 (fun q => h23_1 (nI_lit q (by omega) hp))
        rw [nI_1 i]
        refine AW.pick [1, 2, 0] (ls' := [(0, .inr (.inr (2, a, 0))), (1, .inl (nI p)), (2, .inl (nI (i + 1)))]) rfl ?_
        exact hk () _ ⟨rfl, by rw [hI, if_neg]; first | (rw [hp10]; exact fun h => absurd h.1 (by decide)) | exact fun h => absurd h.2 (by assumption)⟩
    · skip
      refine AW.run 3 [true] (2, [(2, .inl ((nI i) + 1)), (0, .inr (.inr (2, a, 0))), (1, .inl (nI p))], [], σ) [icP .eq (0 : Int32) 0] rfl ?_ ?_
      · exact allP1 (by decide : ((0 : Int32) = 0))
      rw [nI_1 i]
      refine AW.pick [1, 2, 0] (ls' := [(0, .inr (.inr (2, a, 0))), (1, .inl (nI p)), (2, .inl (nI (i + 1)))]) rfl ?_
      exact hk () _ ⟨rfl, by rw [hI, if_neg]; first | (rw [hp10]; exact fun h => absurd h.1 (by decide)) | exact fun h => absurd h.2 (by assumption)⟩
  · intro _ τ hI
    obtain ⟨rfl, hI⟩ := hI
    refine AW.run 4 [true] (36, [(0, .inr (.inr (2, a, 0))), (1, .inl (nI p)), (2, .inl (nI 8))], [.inl (-9)], σ) [icP .ge (nI 8) 8] rfl ?_ ?_
    · exact allP1 (le_lit (a := 8) (b := 8) (by decide) (by decide))
    refine AW.reti ⟨_, rfl⟩ rfl ?_
    rw [hI]
    exact ⟨rfl, rfl⟩
set_option maxHeartbeats 4000000 in
set_option maxRecDepth 100000 in
theorem c3_pressOfWhole (a : Nat) (S : Sv) (σ : St) (hR : RepS (σ 2 a) S) (hO : SOK S) : Ct M3_pressOfWhole 1 [.inr (.inr (2, a, 0))] σ (PI fun v σ' => nI (psum S 8) = v ∧ σ = σ') := by
  refine Ct.of f_3_pressOfWhole (Nat.le_of_ble_eq_true rfl) ?_
  show AW M3_pressOfWhole 1 _ (0, [(0, .inr (.inr (2, a, 0)))], [], σ)
  refine AW.run 4 [] (4, [(2, .inl 0), (1, .inl 0), (0, .inr (.inr (2, a, 0)))], [], σ) [] rfl ?_ ?_
  · exact trivial
  refine AW.pick [2, 1, 0] (ls' := [(0, .inr (.inr (2, a, 0))), (1, .inl (nI (psum S 0))), (2, .inl (nI 0))]) rfl ?_
  refine AW.loop (α := Unit) 4 8 (fun i _ => [(0, .inr (.inr (2, a, 0))), (1, .inl (nI (psum S i))), (2, .inl (nI i))]) (fun i _ τ => σ = τ) ?_ ?_ 8 0 () _ (by omega) rfl
  · intro i _ τ hi hI hk
    obtain rfl := hI
    have q1 : σ 2 a 4 (nI i).toNatClampNeg = nI (Sq S i) := by rw [cl8 hi]; exact (hR.2.1 i hi).2.2.2
    skip
    refine AW.run 5 [false] (12, [(0, .inr (.inr (2, a, 0))), (1, .inl (nI (psum S i))), (2, .inl (nI i))], [.inl (nI i), .inr (.inr (2, a, 0))], σ) [¬ icP .ge (nI i) 8] rfl ?_ ?_
    · exact allP1 (nle_lit (a := 8) hi (by decide))
    refine AW.callVI (d' := 0) [.inl (nI i)] [] ⟨_, rfl⟩ f_3_isWhole v_3_isWhole l_3_79 ⟨rfl, by decide⟩ rfl (Nat.le_of_ble_eq_true rfl) rfl (Nat.le_of_ble_eq_true rfl) (c3_isWhole a S σ hR hO i (by omega)) ?_
    rintro v _ ⟨rfl, hv⟩
    rcases hv with ⟨rfl, hp12⟩ | ⟨rfl, hp12⟩
    · skip
      refine AW.run 6 [false] (25, [(0, .inr (.inr (2, a, 0))), (1, .inl (nI (psum S i))), (2, .inl (nI i))], [.inl (σ 2 a 4 (nI i).toNatClampNeg), .inl (nI (psum S i))], σ) [¬ icP .eq (1 : Int32) 0, vp_in (nI i) 8] rfl ?_ ?_
      · exact ⟨(by decide : ¬ ((1 : Int32) = 0)), allP1 (by exact in8 hi)⟩
      rw [q1]
      refine AW.run 1 [] (26, [(0, .inr (.inr (2, a, 0))), (1, .inl (nI (psum S i))), (2, .inl (nI i))], [.inl ((nI (psum S i)) + (nI (Sq S i)))], σ) [] rfl ?_ ?_
      · exact trivial
      rw [nI_add]
      refine AW.run 3 [] (4, [(2, .inl ((nI i) + 1)), (1, .inl (nI (psum S i + Sq S i))), (0, .inr (.inr (2, a, 0)))], [], σ) [] rfl ?_ ?_
      · exact trivial
      have hs : psum S (i + 1) = psum S i + Sq S i := by simp [psum, hp12]
      rw [← hs, nI_1 i]
      refine AW.pick [2, 1, 0] (ls' := [(0, .inr (.inr (2, a, 0))), (1, .inl (nI (psum S (i + 1)))), (2, .inl (nI (i + 1)))]) rfl ?_
      exact hk () _ rfl
    · skip
      refine AW.run 3 [true] (4, [(2, .inl ((nI i) + 1)), (0, .inr (.inr (2, a, 0))), (1, .inl (nI (psum S i)))], [], σ) [icP .eq (0 : Int32) 0] rfl ?_ ?_
      · exact allP1 (by decide : ((0 : Int32) = 0))
      have hs : psum S (i + 1) = psum S i := by simp [psum, hp12]
      rw [← hs, nI_1 i]
      refine AW.pick [1, 2, 0] (ls' := [(0, .inr (.inr (2, a, 0))), (1, .inl (nI (psum S (i + 1)))), (2, .inl (nI (i + 1)))]) rfl ?_
      exact hk () _ rfl
  · intro _ τ hI
    obtain rfl := hI
    refine AW.run 4 [true] (34, [(0, .inr (.inr (2, a, 0))), (1, .inl (nI (psum S 8))), (2, .inl (nI 8))], [.inl (nI (psum S 8))], σ) [icP .ge (nI 8) 8] rfl ?_ ?_
    · exact allP1 (le_lit (a := 8) (b := 8) (by decide) (by decide))
    refine AW.reti ⟨_, rfl⟩ rfl ?_
    exact ⟨rfl, rfl⟩
set_option maxHeartbeats 4000000 in
set_option maxRecDepth 100000 in
theorem c3_wholeOfKind (a : Nat) (S : Sv) (σ : St) (hR : RepS (σ 2 a) S) (hO : SOK S) (k : Nat) (hkk : k < 2 ^ 31) : Ct M3_wholeOfKind 1 [.inr (.inr (2, a, 0)), .inl (nI k)] σ (PI fun v σ' => nI (ksum S k 8) = v ∧ σ = σ') := by
  refine Ct.of f_3_wholeOfKind (Nat.le_of_ble_eq_true rfl) ?_
  show AW M3_wholeOfKind 1 _ (0, [(0, .inr (.inr (2, a, 0))), (1, .inl (nI k))], [], σ)
  refine AW.run 4 [] (4, [(3, .inl 0), (2, .inl 0), (0, .inr (.inr (2, a, 0))), (1, .inl (nI k))], [], σ) [] rfl ?_ ?_
  · exact trivial
  refine AW.pick [2, 3, 1, 0] (ls' := [(0, .inr (.inr (2, a, 0))), (1, .inl (nI k)), (2, .inl (nI (ksum S k 0))), (3, .inl (nI 0))]) rfl ?_
  refine AW.loop (α := Unit) 4 8 (fun i _ => [(0, .inr (.inr (2, a, 0))), (1, .inl (nI k)), (2, .inl (nI (ksum S k i))), (3, .inl (nI i))]) (fun i _ τ => σ = τ) ?_ ?_ 8 0 () _ (by omega) rfl
  · intro i _ τ hi hI hk
    obtain rfl := hI
    have q1 : σ 2 a 1 (nI i).toNatClampNeg = nI (Sk S i) := by rw [cl8 hi]; exact (hR.2.1 i hi).1
    have hkl := (hO.2.1 i).1
    skip
    refine AW.run 5 [false] (12, [(0, .inr (.inr (2, a, 0))), (1, .inl (nI k)), (2, .inl (nI (ksum S k i))), (3, .inl (nI i))], [.inl (nI i), .inr (.inr (2, a, 0))], σ) [¬ icP .ge (nI i) 8] rfl ?_ ?_
    · exact allP1 (nle_lit (a := 8) hi (by decide))
    refine AW.callVI (d' := 0) [.inl (nI i)] [] ⟨_, rfl⟩ f_3_isWhole v_3_isWhole l_3_79 ⟨rfl, by decide⟩ rfl (Nat.le_of_ble_eq_true rfl) rfl (Nat.le_of_ble_eq_true rfl) (c3_isWhole a S σ hR hO i (by omega)) ?_
    rintro v _ ⟨rfl, hv⟩
    rcases hv with ⟨rfl, hp12⟩ | ⟨rfl, hp12⟩
    · skip
      refine AW.run 5 [false] (24, [(0, .inr (.inr (2, a, 0))), (1, .inl (nI k)), (2, .inl (nI (ksum S k i))), (3, .inl (nI i))], [.inl (σ 2 a 1 (nI i).toNatClampNeg)], σ) [¬ icP .eq (1 : Int32) 0, vp_in (nI i) 8] rfl ?_ ?_
      · exact ⟨(by decide : ¬ ((1 : Int32) = 0)), allP1 (by exact in8 hi)⟩
      rw [q1]
      by_cases h25_1 : Sk S i = k
      · skip
        refine AW.run 5 [false] (4, [(3, .inl ((nI i) + 1)), (2, .inl ((nI (ksum S k i)) + 1)), (0, .inr (.inr (2, a, 0))), (1, .inl (nI k))], [], σ) [¬ icP .ne (nI (Sk S i)) (nI k)] rfl ?_ ?_
        · exact allP1 (fun q => q (by rw [h25_1]))
        have hs : ksum S k (i + 1) = ksum S k i + 1 := by
          simp only [ksum]
          first | (rw [if_pos ⟨by assumption, by assumption⟩]; done) | (rw [if_neg (fun h => by first | exact absurd h.2 (by assumption) | exact absurd (h.1.symm.trans (by assumption)) (by decide))]; exact Nat.add_zero _)
        rw [nI_1 (ksum S k i), ← hs, nI_1 i]
        refine AW.pick [2, 3, 1, 0] (ls' := [(0, .inr (.inr (2, a, 0))), (1, .inl (nI k)), (2, .inl (nI (ksum S k (i + 1)))), (3, .inl (nI (i + 1)))]) rfl ?_
        exact hk () _ rfl
      · skip
        refine AW.run 4 [true] (4, [(3, .inl ((nI i) + 1)), (0, .inr (.inr (2, a, 0))), (1, .inl (nI k)), (2, .inl (nI (ksum S k i)))], [], σ) [icP .ne (nI (Sk S i)) (nI k)] rfl ?_ ?_
        · exact allP1 (fun q => h25_1 (nI_lit q (by omega) hkk))
        have hs : ksum S k (i + 1) = ksum S k i := by
          simp only [ksum]
          first | (rw [if_pos ⟨by assumption, by assumption⟩]; done) | (rw [if_neg (fun h => by first | exact absurd h.2 (by assumption) | exact absurd (h.1.symm.trans (by assumption)) (by decide))]; exact Nat.add_zero _)
        rw [← hs, nI_1 i]
        refine AW.pick [1, 2, 3, 0] (ls' := [(0, .inr (.inr (2, a, 0))), (1, .inl (nI k)), (2, .inl (nI (ksum S k (i + 1)))), (3, .inl (nI (i + 1)))]) rfl ?_
        exact hk () _ rfl
    · skip
      refine AW.run 3 [true] (4, [(3, .inl ((nI i) + 1)), (0, .inr (.inr (2, a, 0))), (1, .inl (nI k)), (2, .inl (nI (ksum S k i)))], [], σ) [icP .eq (0 : Int32) 0] rfl ?_ ?_
      · exact allP1 (by decide : ((0 : Int32) = 0))
      have hs : ksum S k (i + 1) = ksum S k i := by
        simp only [ksum]
        first | (rw [if_pos ⟨by assumption, by assumption⟩]; done) | (rw [if_neg (fun h => by first | exact absurd h.2 (by assumption) | exact absurd (h.1.symm.trans (by assumption)) (by decide))]; exact Nat.add_zero _)
      rw [← hs, nI_1 i]
      refine AW.pick [1, 2, 3, 0] (ls' := [(0, .inr (.inr (2, a, 0))), (1, .inl (nI k)), (2, .inl (nI (ksum S k (i + 1)))), (3, .inl (nI (i + 1)))]) rfl ?_
      exact hk () _ rfl
  · intro _ τ hI
    obtain rfl := hI
    refine AW.run 4 [true] (38, [(0, .inr (.inr (2, a, 0))), (1, .inl (nI k)), (2, .inl (nI (ksum S k 8))), (3, .inl (nI 8))], [.inl (nI (ksum S k 8))], σ) [icP .ge (nI 8) 8] rfl ?_ ?_
    · exact allP1 (le_lit (a := 8) (b := 8) (by decide) (by decide))
    refine AW.reti ⟨_, rfl⟩ rfl ?_
    exact ⟨rfl, rfl⟩
def nearW (S : Sv) (i m : Nat) : Nat → Bool := fun j => decide (j < m) && (decide (j ≠ i) && Sw S j && nearN (Sp S i) (Sp S j))
theorem nearW_hit {S : Sv} {i m : Nat} (h1 : m ≠ i) (h2 : Sw S m = true) (h3 : nearN (Sp S i) (Sp S m) = true) : nearW S i (m + 1) = fu (nearW S i m) m true := by
  funext j
  simp only [nearW, fu]
  by_cases hj : j = m
  · subst hj; simp [h1, h2, h3]
  · have : (j < m + 1) ↔ (j < m) := by omega
    simp [hj, this]
theorem nearW_miss {S : Sv} {i m : Nat} (h : ¬ (m ≠ i ∧ Sw S m = true ∧ nearN (Sp S i) (Sp S m) = true)) : nearW S i (m + 1) = nearW S i m := by
  funext j
  simp only [nearW]
  by_cases hj : j = m
  · subst hj
    cases hb : (decide (j ≠ i) && Sw S j && nearN (Sp S i) (Sp S j))
    · simp
    · simp only [Bool.and_eq_true, decide_eq_true_eq] at hb
      exact absurd ⟨hb.1.1, hb.1.2, hb.2⟩ h
  · have : (j < m + 1) ↔ (j < m) := by omega
    simp [this]
theorem abs_far : ∀ p < 15, ∀ q < 15, ((2 : Int32) < (if 0 ≤ nI p - nI q then nI p - nI q else 0 - (nI p - nI q))) ↔ nearN p q = false := by decide +kernel
theorem bI_0 : bI (fun _ => false) = 0 := by decide
set_option maxHeartbeats 4000000 in
set_option maxRecDepth 100000 in
theorem c3_nearTo (a : Nat) (S : Sv) (σ : St) (hR : RepS (σ 2 a) S) (hO : SOK S) (i : Nat) (hin : i < Sn S) : Ct M3_nearTo 1 [.inr (.inr (2, a, 0)), .inl (nI i)] σ (PI fun v σ' => bI (nearW S i 8) = v ∧ σ = σ') := by
  refine Ct.of f_3_nearTo (Nat.le_of_ble_eq_true rfl) ?_
  show AW M3_nearTo 1 _ (0, [(0, .inr (.inr (2, a, 0))), (1, .inl (nI i))], [], σ)
  have hn := hO.1
  have hi8 : i < 8 := by omega
  refine AW.run 4 [] (4, [(2, .inl 0), (0, .inr (.inr (2, a, 0))), (1, .inl (nI i))], [.inl (nI i), .inr (.inr (2, a, 0))], σ) [] rfl ?_ ?_
  · exact trivial
  refine AW.callVI (d' := 0) [.inl (nI i)] [] ⟨_, rfl⟩ f_3_has v_3_has l_3_58 ⟨rfl, by decide⟩ rfl (Nat.le_of_ble_eq_true rfl) rfl (Nat.le_of_ble_eq_true rfl) (c3_has a S σ hR hO (nI i)) ?_
  rintro v _ ⟨rfl, hv⟩
  rcases hv with ⟨rfl, hp4⟩ | ⟨rfl, hp4⟩
  · skip
    refine AW.run 3 [true] (14, [(3, .inl 0), (2, .inl 0), (0, .inr (.inr (2, a, 0))), (1, .inl (nI i))], [], σ) [icP .ne (1 : Int32) 0] rfl ?_ ?_
    · exact allP1 (by decide : (¬ (1 : Int32) = 0))
    rw [← bI_0, show (fun _ => false) = nearW S i 0 by funext j; simp [nearW]]
    refine AW.pick [2, 3, 1, 0] (ls' := [(0, .inr (.inr (2, a, 0))), (1, .inl (nI i)), (2, .inl (bI (nearW S i 0))), (3, .inl (nI 0))]) rfl ?_
    refine AW.loop (α := Unit) 14 8 (fun j _ => [(0, .inr (.inr (2, a, 0))), (1, .inl (nI i)), (2, .inl (bI (nearW S i j))), (3, .inl (nI j))]) (fun j _ τ => σ = τ) ?_ ?_ 8 0 () _ (by omega) rfl
    · intro j _ τ hj hI hk
      subst hI
      have hpi : Sp S i < 15 := by have := (hO.2.1 i).2.2.1; omega
      have hpj : Sp S j < 15 := by have := (hO.2.1 j).2.2.1; omega
      have q3 : σ 2 a 3 (nI i).toNatClampNeg - σ 2 a 3 (nI j).toNatClampNeg = nI (Sp S i) - nI (Sp S j) := by rw [cl8 hi8, cl8 hj, (hR.2.1 i hi8).2.2.1, (hR.2.1 j hj).2.2.1]
      by_cases hji : j = i
      · have hm : ¬ (j ≠ i ∧ Sw S j = true ∧ nearN (Sp S i) (Sp S j) = true) := fun h => h.1 hji
        refine AW.run 8 [false, true] (14, [(3, .inl ((nI j) + 1)), (0, .inr (.inr (2, a, 0))), (1, .inl (nI i)), (2, .inl (bI (nearW S i j)))], [], σ) [¬ icP .ge (nI j) 8, icP .eq (nI j) (nI i)] rfl ?_ ?_
        · exact ⟨(nle_lit (a := 8) hj (by decide)), allP1 (by rw [hji]; exact (rfl : nI i = nI i))⟩
        rw [← nearW_miss hm, nI_1 j]
        refine AW.pick [1, 2, 3, 0] (ls' := [(0, .inr (.inr (2, a, 0))), (1, .inl (nI i)), (2, .inl (bI (nearW S i (j + 1)))), (3, .inl (nI (j + 1)))]) rfl ?_
        exact hk () _ rfl
      · skip
        refine AW.run 8 [false, false] (27, [(0, .inr (.inr (2, a, 0))), (1, .inl (nI i)), (2, .inl (bI (nearW S i j))), (3, .inl (nI j))], [.inl (nI j), .inr (.inr (2, a, 0))], σ) [¬ icP .ge (nI j) 8, ¬ icP .eq (nI j) (nI i)] rfl ?_ ?_
        · exact ⟨(nle_lit (a := 8) hj (by decide)), allP1 (fun q => hji (nI_lit q (by omega) (by omega)))⟩
        refine AW.callVI (d' := 0) [.inl (nI j)] [] ⟨_, rfl⟩ f_3_isWhole v_3_isWhole l_3_79 ⟨rfl, by decide⟩ rfl (Nat.le_of_ble_eq_true rfl) rfl (Nat.le_of_ble_eq_true rfl) (c3_isWhole a S σ hR hO j (by omega)) ?_
        rintro v _ ⟨rfl, hv⟩
        rcases hv with ⟨rfl, hp27⟩ | ⟨rfl, hp27⟩
        · skip
          refine AW.run 10 [false] (46, [(0, .inr (.inr (2, a, 0))), (1, .inl (nI i)), (2, .inl (bI (nearW S i j))), (3, .inl (nI j))], [.inl ((σ 2 a 3 (nI i).toNatClampNeg) - (σ 2 a 3 (nI j).toNatClampNeg))], σ) [¬ icP .eq (1 : Int32) 0, vp_in (nI i) 8, vp_in (nI j) 8] rfl ?_ ?_
          · exact ⟨(by decide : ¬ ((1 : Int32) = 0)), (by first | exact in8 hj | exact in8 hi8), allP1 (by first | exact in8 hj | exact in8 hi8)⟩
          rw [q3]
          refine AW.abs ⟨_, rfl⟩ l_3_92 (Nat.le_of_ble_eq_true rfl) (Nat.le_of_ble_eq_true rfl) ?_
          by_cases h50_1 : nearN (Sp S i) (Sp S j) = true
          · skip
            refine AW.run 10 [false] (14, [(3, .inl ((nI j) + 1)), (2, .inl ((bI (nearW S i j)) ||| (1 <<< ((nI j) &&& 31)))), (0, .inr (.inr (2, a, 0))), (1, .inl (nI i))], [], σ) [¬ icP .gt (if 0 ≤ (nI (Sp S i) - nI (Sp S j)) then (nI (Sp S i) - nI (Sp S j)) else 0 - (nI (Sp S i) - nI (Sp S j))) 2] rfl ?_ ?_
            · exact allP1 (fun q => by have := (abs_far _ hpi _ hpj).mp q; rw [h50_1] at this; cases this)
            have hm : j ≠ i ∧ Sw S j = true ∧ nearN (Sp S i) (Sp S j) = true := ⟨hji, hp27, by assumption⟩
            rw [bI_set _ hj, ← nearW_hit hm.1 hm.2.1 hm.2.2, nI_1 j]
            refine AW.pick [2, 3, 1, 0] (ls' := [(0, .inr (.inr (2, a, 0))), (1, .inl (nI i)), (2, .inl (bI (nearW S i (j + 1)))), (3, .inl (nI (j + 1)))]) rfl ?_
            exact hk () _ rfl
          · skip
            refine AW.run 4 [true] (14, [(3, .inl ((nI j) + 1)), (0, .inr (.inr (2, a, 0))), (1, .inl (nI i)), (2, .inl (bI (nearW S i j)))], [], σ) [icP .gt (if 0 ≤ (nI (Sp S i) - nI (Sp S j)) then (nI (Sp S i) - nI (Sp S j)) else 0 - (nI (Sp S i) - nI (Sp S j))) 2] rfl ?_ ?_
            · exact allP1 ((abs_far _ hpi _ hpj).mpr (by cases hb : nearN (Sp S i) (Sp S j); rfl; exact absurd hb h50_1))
            have hm : ¬ (j ≠ i ∧ Sw S j = true ∧ nearN (Sp S i) (Sp S j) = true) := by
              rintro ⟨-, g1, g2⟩
              first | exact absurd g2 (by assumption) | (rw [hp27] at g1; cases g1)
            rw [← nearW_miss hm, nI_1 j]
            refine AW.pick [1, 2, 3, 0] (ls' := [(0, .inr (.inr (2, a, 0))), (1, .inl (nI i)), (2, .inl (bI (nearW S i (j + 1)))), (3, .inl (nI (j + 1)))]) rfl ?_
            exact hk () _ rfl
        · skip
          refine AW.run 3 [true] (14, [(3, .inl ((nI j) + 1)), (0, .inr (.inr (2, a, 0))), (1, .inl (nI i)), (2, .inl (bI (nearW S i j)))], [], σ) [icP .eq (0 : Int32) 0] rfl ?_ ?_
          · exact allP1 (by decide : ((0 : Int32) = 0))
          have hm : ¬ (j ≠ i ∧ Sw S j = true ∧ nearN (Sp S i) (Sp S j) = true) := by
            rintro ⟨-, g1, g2⟩
            first | exact absurd g2 (by assumption) | (rw [hp27] at g1; cases g1)
          rw [← nearW_miss hm, nI_1 j]
          refine AW.pick [1, 2, 3, 0] (ls' := [(0, .inr (.inr (2, a, 0))), (1, .inl (nI i)), (2, .inl (bI (nearW S i (j + 1)))), (3, .inl (nI (j + 1)))]) rfl ?_
          exact hk () _ rfl
    · intro _ τ hI
      subst hI
      refine AW.run 4 [true] (66, [(0, .inr (.inr (2, a, 0))), (1, .inl (nI i)), (2, .inl (bI (nearW S i 8))), (3, .inl (nI 8))], [.inl (bI (nearW S i 8))], σ) [icP .ge (nI 8) 8] rfl ?_ ?_
      · exact allP1 (le_lit (a := 8) (b := 8) (by decide) (by decide))
      refine AW.reti ⟨_, rfl⟩ rfl ?_
      exact ⟨rfl, rfl⟩
  · skip
    refine AW.run 2 [false] (11, [(2, .inl 0), (0, .inr (.inr (2, a, 0))), (1, .inl (nI i))], [.inl 0], σ) [¬ icP .ne (0 : Int32) 0] rfl ?_ ?_
    · exact allP1 (by decide : ¬ (¬ (0 : Int32) = 0))
    refine AW.reti ⟨_, rfl⟩ rfl ?_
    exact absurd rfl (hp4 i hin)
