/-! THE CLASS'S SHELF BY ITS NUMBERS -/
theorem nI_lit {k n : Nat} (h : nI k = nI n) (hk : k < 2 ^ 31) (hn : n < 2 ^ 31) : k = n := (nI_eq hk hn).mp h
def RepS (sh : Nat → Nat → Int32) (S : Sv) : Prop :=
  (sh 0 7 = nI (Sn S) ∧ sh 0 8 = bI (Sw S) ∧ sh 0 9 = bI (Stw S) ∧ sh 0 10 = nI (Su S) ∧ sh 0 11 = nI (She S) ∧ sh 0 12 = nI (Sd S)) ∧ (∀ i, i < 8 → sh 1 i = nI (Sk S i) ∧ sh 2 i = nI (Sf S i) ∧ sh 3 i = nI (Sp S i) ∧ sh 4 i = nI (Sq S i)) ∧ (∀ i, i < Sn S → sh 5 i = nI (riseS S i) ∧ sh 6 i = nI (bearS S i) ∧ sh 7 i = nI (shockS S i))
/-- nothing but the object (c, a) has changed -/
def Only (c a : Nat) (σ σ' : St) : Prop := ∀ c' i', ¬ (c' = c ∧ i' = a) → σ' c' i' = σ c' i'
theorem only_rfl {c a : Nat} {σ : St} : Only c a σ σ := fun _ _ _ => rfl
theorem only_trans {c a : Nat} {σ σ1 σ2 : St} (h : Only c a σ σ1) (h2 : Only c a σ1 σ2) : Only c a σ σ2 := fun c' i' hn => (h2 c' i' hn).trans (h c' i' hn)
theorem only_set {c a j k : Nat} {v : Int32} {σ : St} : Only c a σ (setM σ c a j k v) := by
  intro c' i' hn
  funext j' k'
  simp only [setM]
  rw [if_neg]
  rintro ⟨h1, h2, -⟩
  exact hn ⟨h1, h2⟩
theorem setM_at (σ : St) (c i j k : Nat) (v : Int32) (j' k' : Nat) : setM σ c i j k v c i j' k' = if j' = j ∧ k' = k then v else σ c i j' k' := by
  simp [setM]
theorem cl31 {k : Nat} (h : k < 2 ^ 31) : (nI k).toNatClampNeg = k := nI_clamp h
theorem cl8 {k : Nat} (h : k < 8) : (nI k).toNatClampNeg = k := nI_clamp (by omega)
theorem in8 {k : Nat} (h : k < 8) : vp_in (nI k) 8 := vp_in_nI h (by decide)
theorem nlt0 {k : Nat} (h : k < 2 ^ 31) : ¬ nI k < 0 := nI_pos h
theorem le_lit {a b : Nat} (h : a ≤ b) (hb : b < 2 ^ 31) : nI a ≤ nI b := nI_le h hb
theorem nle_lit {a b : Nat} (h : b < a) (hb : a < 2 ^ 31) : ¬ nI a ≤ nI b := nI_ge h hb
theorem bit_ne {b : Bool} : ((if b then 1 else 0 : Int32) = 0) ↔ b = false := by cases b <;> decide
/-- which bottle an int names -/
theorem bot_or (n : Nat) (x : Int32) : (∃ k, k < n ∧ x = nI k) ∨ ∀ k, k < n → x ≠ nI k := by
  by_cases h : ∃ k, k < n ∧ x = nI k
  · exact Or.inl h
  · exact Or.inr fun k hk he => h ⟨k, hk, he⟩
theorem bot_out {n : Nat} {x : Int32} (hn : n < 2 ^ 31) (h : ∀ k, k < n → x ≠ nI k) (h0 : ¬ x < 0) : nI n ≤ x := by
  obtain ⟨j, hj, rfl⟩ := nI_of h0
  by_cases hlt : j < n
  · exact absurd rfl (h j hlt)
  · exact nI_le (by omega) hj

set_option maxHeartbeats 4000000 in
set_option maxRecDepth 100000 in
theorem cJ_bitCount (x : Int32) (σ : St) : Ct MJ_bitCount 0 [.inl x] σ (PI fun v σ' => bcV x = v ∧ σ = σ') := by
  refine Ct.of f_J_bitCount (Nat.le_of_ble_eq_true rfl) ?_
  show AW MJ_bitCount 0 _ (0, [(0, .inl x)], [], σ)
  refine AW.run 41 [] (52, [(0, .inl (((((((x - (((Int32.toUInt32 x >>> (Int32.toUInt32 1 &&& Int32.toUInt32 31)).toInt32) &&& 1431655765)) &&& 858993459) + (((Int32.toUInt32 (x - (((Int32.toUInt32 x >>> (Int32.toUInt32 1 &&& Int32.toUInt32 31)).toInt32) &&& 1431655765)) >>> (Int32.toUInt32 2 &&& Int32.toUInt32 31)).toInt32) &&& 858993459)) + ((Int32.toUInt32 (((x - (((Int32.toUInt32 x >>> (Int32.toUInt32 1 &&& Int32.toUInt32 31)).toInt32) &&& 1431655765)) &&& 858993459) + (((Int32.toUInt32 (x - (((Int32.toUInt32 x >>> (Int32.toUInt32 1 &&& Int32.toUInt32 31)).toInt32) &&& 1431655765)) >>> (Int32.toUInt32 2 &&& Int32.toUInt32 31)).toInt32) &&& 858993459)) >>> (Int32.toUInt32 4 &&& Int32.toUInt32 31)).toInt32)) &&& 252645135) + ((Int32.toUInt32 (((((x - (((Int32.toUInt32 x >>> (Int32.toUInt32 1 &&& Int32.toUInt32 31)).toInt32) &&& 1431655765)) &&& 858993459) + (((Int32.toUInt32 (x - (((Int32.toUInt32 x >>> (Int32.toUInt32 1 &&& Int32.toUInt32 31)).toInt32) &&& 1431655765)) >>> (Int32.toUInt32 2 &&& Int32.toUInt32 31)).toInt32) &&& 858993459)) + ((Int32.toUInt32 (((x - (((Int32.toUInt32 x >>> (Int32.toUInt32 1 &&& Int32.toUInt32 31)).toInt32) &&& 1431655765)) &&& 858993459) + (((Int32.toUInt32 (x - (((Int32.toUInt32 x >>> (Int32.toUInt32 1 &&& Int32.toUInt32 31)).toInt32) &&& 1431655765)) >>> (Int32.toUInt32 2 &&& Int32.toUInt32 31)).toInt32) &&& 858993459)) >>> (Int32.toUInt32 4 &&& Int32.toUInt32 31)).toInt32)) &&& 252645135) >>> (Int32.toUInt32 8 &&& Int32.toUInt32 31)).toInt32)) + ((Int32.toUInt32 ((((((x - (((Int32.toUInt32 x >>> (Int32.toUInt32 1 &&& Int32.toUInt32 31)).toInt32) &&& 1431655765)) &&& 858993459) + (((Int32.toUInt32 (x - (((Int32.toUInt32 x >>> (Int32.toUInt32 1 &&& Int32.toUInt32 31)).toInt32) &&& 1431655765)) >>> (Int32.toUInt32 2 &&& Int32.toUInt32 31)).toInt32) &&& 858993459)) + ((Int32.toUInt32 (((x - (((Int32.toUInt32 x >>> (Int32.toUInt32 1 &&& Int32.toUInt32 31)).toInt32) &&& 1431655765)) &&& 858993459) + (((Int32.toUInt32 (x - (((Int32.toUInt32 x >>> (Int32.toUInt32 1 &&& Int32.toUInt32 31)).toInt32) &&& 1431655765)) >>> (Int32.toUInt32 2 &&& Int32.toUInt32 31)).toInt32) &&& 858993459)) >>> (Int32.toUInt32 4 &&& Int32.toUInt32 31)).toInt32)) &&& 252645135) + ((Int32.toUInt32 (((((x - (((Int32.toUInt32 x >>> (Int32.toUInt32 1 &&& Int32.toUInt32 31)).toInt32) &&& 1431655765)) &&& 858993459) + (((Int32.toUInt32 (x - (((Int32.toUInt32 x >>> (Int32.toUInt32 1 &&& Int32.toUInt32 31)).toInt32) &&& 1431655765)) >>> (Int32.toUInt32 2 &&& Int32.toUInt32 31)).toInt32) &&& 858993459)) + ((Int32.toUInt32 (((x - (((Int32.toUInt32 x >>> (Int32.toUInt32 1 &&& Int32.toUInt32 31)).toInt32) &&& 1431655765)) &&& 858993459) + (((Int32.toUInt32 (x - (((Int32.toUInt32 x >>> (Int32.toUInt32 1 &&& Int32.toUInt32 31)).toInt32) &&& 1431655765)) >>> (Int32.toUInt32 2 &&& Int32.toUInt32 31)).toInt32) &&& 858993459)) >>> (Int32.toUInt32 4 &&& Int32.toUInt32 31)).toInt32)) &&& 252645135) >>> (Int32.toUInt32 8 &&& Int32.toUInt32 31)).toInt32)) >>> (Int32.toUInt32 16 &&& Int32.toUInt32 31)).toInt32)))], [.inl ((((((((x - (((Int32.toUInt32 x >>> (Int32.toUInt32 1 &&& Int32.toUInt32 31)).toInt32) &&& 1431655765)) &&& 858993459) + (((Int32.toUInt32 (x - (((Int32.toUInt32 x >>> (Int32.toUInt32 1 &&& Int32.toUInt32 31)).toInt32) &&& 1431655765)) >>> (Int32.toUInt32 2 &&& Int32.toUInt32 31)).toInt32) &&& 858993459)) + ((Int32.toUInt32 (((x - (((Int32.toUInt32 x >>> (Int32.toUInt32 1 &&& Int32.toUInt32 31)).toInt32) &&& 1431655765)) &&& 858993459) + (((Int32.toUInt32 (x - (((Int32.toUInt32 x >>> (Int32.toUInt32 1 &&& Int32.toUInt32 31)).toInt32) &&& 1431655765)) >>> (Int32.toUInt32 2 &&& Int32.toUInt32 31)).toInt32) &&& 858993459)) >>> (Int32.toUInt32 4 &&& Int32.toUInt32 31)).toInt32)) &&& 252645135) + ((Int32.toUInt32 (((((x - (((Int32.toUInt32 x >>> (Int32.toUInt32 1 &&& Int32.toUInt32 31)).toInt32) &&& 1431655765)) &&& 858993459) + (((Int32.toUInt32 (x - (((Int32.toUInt32 x >>> (Int32.toUInt32 1 &&& Int32.toUInt32 31)).toInt32) &&& 1431655765)) >>> (Int32.toUInt32 2 &&& Int32.toUInt32 31)).toInt32) &&& 858993459)) + ((Int32.toUInt32 (((x - (((Int32.toUInt32 x >>> (Int32.toUInt32 1 &&& Int32.toUInt32 31)).toInt32) &&& 1431655765)) &&& 858993459) + (((Int32.toUInt32 (x - (((Int32.toUInt32 x >>> (Int32.toUInt32 1 &&& Int32.toUInt32 31)).toInt32) &&& 1431655765)) >>> (Int32.toUInt32 2 &&& Int32.toUInt32 31)).toInt32) &&& 858993459)) >>> (Int32.toUInt32 4 &&& Int32.toUInt32 31)).toInt32)) &&& 252645135) >>> (Int32.toUInt32 8 &&& Int32.toUInt32 31)).toInt32)) + ((Int32.toUInt32 ((((((x - (((Int32.toUInt32 x >>> (Int32.toUInt32 1 &&& Int32.toUInt32 31)).toInt32) &&& 1431655765)) &&& 858993459) + (((Int32.toUInt32 (x - (((Int32.toUInt32 x >>> (Int32.toUInt32 1 &&& Int32.toUInt32 31)).toInt32) &&& 1431655765)) >>> (Int32.toUInt32 2 &&& Int32.toUInt32 31)).toInt32) &&& 858993459)) + ((Int32.toUInt32 (((x - (((Int32.toUInt32 x >>> (Int32.toUInt32 1 &&& Int32.toUInt32 31)).toInt32) &&& 1431655765)) &&& 858993459) + (((Int32.toUInt32 (x - (((Int32.toUInt32 x >>> (Int32.toUInt32 1 &&& Int32.toUInt32 31)).toInt32) &&& 1431655765)) >>> (Int32.toUInt32 2 &&& Int32.toUInt32 31)).toInt32) &&& 858993459)) >>> (Int32.toUInt32 4 &&& Int32.toUInt32 31)).toInt32)) &&& 252645135) + ((Int32.toUInt32 (((((x - (((Int32.toUInt32 x >>> (Int32.toUInt32 1 &&& Int32.toUInt32 31)).toInt32) &&& 1431655765)) &&& 858993459) + (((Int32.toUInt32 (x - (((Int32.toUInt32 x >>> (Int32.toUInt32 1 &&& Int32.toUInt32 31)).toInt32) &&& 1431655765)) >>> (Int32.toUInt32 2 &&& Int32.toUInt32 31)).toInt32) &&& 858993459)) + ((Int32.toUInt32 (((x - (((Int32.toUInt32 x >>> (Int32.toUInt32 1 &&& Int32.toUInt32 31)).toInt32) &&& 1431655765)) &&& 858993459) + (((Int32.toUInt32 (x - (((Int32.toUInt32 x >>> (Int32.toUInt32 1 &&& Int32.toUInt32 31)).toInt32) &&& 1431655765)) >>> (Int32.toUInt32 2 &&& Int32.toUInt32 31)).toInt32) &&& 858993459)) >>> (Int32.toUInt32 4 &&& Int32.toUInt32 31)).toInt32)) &&& 252645135) >>> (Int32.toUInt32 8 &&& Int32.toUInt32 31)).toInt32)) >>> (Int32.toUInt32 16 &&& Int32.toUInt32 31)).toInt32)) &&& 63)], σ) [] rfl ?_ ?_
  · exact trivial
  refine AW.reti ⟨_, rfl⟩ rfl ?_
  exact ⟨rfl, rfl⟩
def PB (σ : St) (p q : Prop) : Option AV → St → Prop := PI fun v σ' => σ = σ' ∧ ((v = 1 ∧ p) ∨ (v = 0 ∧ q))
set_option maxHeartbeats 4000000 in
set_option maxRecDepth 100000 in
theorem c3_hasN (a n : Nat) (σ : St) (e7 : σ 2 a 0 7 = nI n) (hn : n ≤ 8) (x : Int32) : Ct M3_has 0 [.inr (.inr (2, a, 0)), .inl x] σ (PB σ (∃ k, k < n ∧ x = nI k) (∀ k, k < n → x ≠ nI k)) := by
  refine Ct.of f_3_has (Nat.le_of_ble_eq_true rfl) ?_
  show AW M3_has 0 _ (0, [(0, .inr (.inr (2, a, 0))), (1, .inl x)], [], σ)
  rcases bot_or n x with ⟨k, hk, rfl⟩ | hno
  · skip
    refine AW.run 11 [false, false, false] (23, [(0, .inr (.inr (2, a, 0))), (1, .inl (nI k))], [.inl 1], σ) [¬ icP .lt (nI k) 0, ¬ icP .ge (nI k) (σ 2 a 0 7), ¬ icP .ge (nI k) 8] rfl ?_ ?_
    · exact ⟨(nlt0 (by omega)), (by rw [e7]; exact nle_lit hk (by omega)), allP1 (nle_lit (a := 8) (by omega) (by decide))⟩
    refine AW.retz ⟨_, rfl⟩ rfl (by decide) ?_
    exact ⟨rfl, Or.inl ⟨rfl, k, hk, rfl⟩⟩
  · skip
    by_cases h1_1 : (x : Int32) < 0
    · skip
      refine AW.run 3 [true] (23, [(0, .inr (.inr (2, a, 0))), (1, .inl x)], [.inl 0], σ) [icP .lt x 0] rfl ?_ ?_
      · exact allP1 (h1_1)
      refine AW.retz ⟨_, rfl⟩ rfl (by decide) ?_
      exact ⟨rfl, Or.inr ⟨rfl, hno⟩⟩
    · skip
      refine AW.run 7 [false, true] (23, [(0, .inr (.inr (2, a, 0))), (1, .inl x)], [.inl 0], σ) [¬ icP .lt x 0, icP .ge x (σ 2 a 0 7)] rfl ?_ ?_
      · exact ⟨(h1_1), allP1 (by rw [e7]; exact bot_out (by omega) hno h1_1)⟩
      refine AW.retz ⟨_, rfl⟩ rfl (by decide) ?_
      exact ⟨rfl, Or.inr ⟨rfl, hno⟩⟩
theorem c3_has (a : Nat) (S : Sv) (σ : St) (hR : RepS (σ 2 a) S) (hO : SOK S) (x : Int32) : Ct M3_has 0 [.inr (.inr (2, a, 0)), .inl x] σ (PB σ (∃ k, k < Sn S ∧ x = nI k) (∀ k, k < Sn S → x ≠ nI k)) := c3_hasN a (Sn S) σ hR.1.1 hO.1 x
set_option maxHeartbeats 4000000 in
set_option maxRecDepth 100000 in
theorem c3_isWhole (a : Nat) (S : Sv) (σ : St) (hR : RepS (σ 2 a) S) (hO : SOK S) (k : Nat) (hk : k < 2 ^ 31) : Ct M3_isWhole 0 [.inr (.inr (2, a, 0)), .inl (nI k)] σ (PB σ (Sw S k = true) (Sw S k = false)) := by
  refine Ct.of f_3_isWhole (Nat.le_of_ble_eq_true rfl) ?_
  show AW M3_isWhole 0 _ (0, [(0, .inr (.inr (2, a, 0))), (1, .inl (nI k))], [], σ)
  have e8 : σ 2 a 0 8 = bI (Sw S) := hR.1.2.1
  have h8 : 8 ≤ k → Sw S k = false := fun h => (hO.2.2.1 k (Nat.le_trans hO.1 h)).1
  by_cases hk8 : k < 8
  · have hbit := bI_bit (Sw S) hk8
    rw [← e8] at hbit
    cases hw : Sw S k
    · rw [hw] at hbit
      refine AW.run 13 [false, false, true] (26, [(0, .inr (.inr (2, a, 0))), (1, .inl (nI k))], [.inl 0], σ) [¬ icP .lt (nI k) 0, ¬ icP .ge (nI k) 8, icP .eq (((σ 2 a 0 8) >>> ((nI k) &&& 31)) &&& 1) 0] rfl ?_ ?_
      · exact ⟨(nlt0 hk), (nle_lit (a := 8) (by omega) (by decide)), allP1 (hbit)⟩
      refine AW.retz ⟨_, rfl⟩ rfl (by decide) ?_
      exact ⟨rfl, Or.inr ⟨rfl, rfl⟩⟩
    · rw [hw] at hbit
      refine AW.run 14 [false, false, false] (26, [(0, .inr (.inr (2, a, 0))), (1, .inl (nI k))], [.inl 1], σ) [¬ icP .lt (nI k) 0, ¬ icP .ge (nI k) 8, ¬ icP .eq (((σ 2 a 0 8) >>> ((nI k) &&& 31)) &&& 1) 0] rfl ?_ ?_
      · exact ⟨(nlt0 hk), (nle_lit (a := 8) (by omega) (by decide)), allP1 (by rw [hbit]; exact (by decide : ¬ (1 : Int32) = 0))⟩
      refine AW.retz ⟨_, rfl⟩ rfl (by decide) ?_
      exact ⟨rfl, Or.inl ⟨rfl, rfl⟩⟩
  · skip
    refine AW.run 6 [false, true] (26, [(0, .inr (.inr (2, a, 0))), (1, .inl (nI k))], [.inl 0], σ) [¬ icP .lt (nI k) 0, icP .ge (nI k) 8] rfl ?_ ?_
    · exact ⟨(nlt0 hk), allP1 (le_lit (a := 8) (by omega) hk)⟩
    refine AW.retz ⟨_, rfl⟩ rfl (by decide) ?_
    exact ⟨rfl, Or.inr ⟨rfl, h8 (by omega)⟩⟩
set_option maxHeartbeats 4000000 in
set_option maxRecDepth 100000 in
theorem c3_isCovered (a : Nat) (S : Sv) (σ : St) (hR : RepS (σ 2 a) S) (hO : SOK S) (k : Nat) (hk : k < 2 ^ 31) : Ct M3_isCovered 0 [.inr (.inr (2, a, 0)), .inl (nI k)] σ (PB σ (Stw S k = true) (Stw S k = false)) := by
  refine Ct.of f_3_isCovered (Nat.le_of_ble_eq_true rfl) ?_
  show AW M3_isCovered 0 _ (0, [(0, .inr (.inr (2, a, 0))), (1, .inl (nI k))], [], σ)
  have e8 : σ 2 a 0 9 = bI (Stw S) := hR.1.2.2.1
  have h8 : 8 ≤ k → Stw S k = false := fun h => (hO.2.2.1 k (Nat.le_trans hO.1 h)).2.1
  by_cases hk8 : k < 8
  · have hbit := bI_bit (Stw S) hk8
    rw [← e8] at hbit
    cases hw : Stw S k
    · rw [hw] at hbit
      refine AW.run 13 [false, false, true] (26, [(0, .inr (.inr (2, a, 0))), (1, .inl (nI k))], [.inl 0], σ) [¬ icP .lt (nI k) 0, ¬ icP .ge (nI k) 8, icP .eq (((σ 2 a 0 9) >>> ((nI k) &&& 31)) &&& 1) 0] rfl ?_ ?_
      · exact ⟨(nlt0 hk), (nle_lit (a := 8) (by omega) (by decide)), allP1 (hbit)⟩
      refine AW.retz ⟨_, rfl⟩ rfl (by decide) ?_
      exact ⟨rfl, Or.inr ⟨rfl, rfl⟩⟩
    · rw [hw] at hbit
      refine AW.run 14 [false, false, false] (26, [(0, .inr (.inr (2, a, 0))), (1, .inl (nI k))], [.inl 1], σ) [¬ icP .lt (nI k) 0, ¬ icP .ge (nI k) 8, ¬ icP .eq (((σ 2 a 0 9) >>> ((nI k) &&& 31)) &&& 1) 0] rfl ?_ ?_
      · exact ⟨(nlt0 hk), (nle_lit (a := 8) (by omega) (by decide)), allP1 (by rw [hbit]; exact (by decide : ¬ (1 : Int32) = 0))⟩
      refine AW.retz ⟨_, rfl⟩ rfl (by decide) ?_
      exact ⟨rfl, Or.inl ⟨rfl, rfl⟩⟩
  · skip
    refine AW.run 6 [false, true] (26, [(0, .inr (.inr (2, a, 0))), (1, .inl (nI k))], [.inl 0], σ) [¬ icP .lt (nI k) 0, icP .ge (nI k) 8] rfl ?_ ?_
    · exact ⟨(nlt0 hk), allP1 (le_lit (a := 8) (by omega) hk)⟩
    refine AW.retz ⟨_, rfl⟩ rfl (by decide) ?_
    exact ⟨rfl, Or.inr ⟨rfl, h8 (by omega)⟩⟩
set_option maxHeartbeats 4000000 in
set_option maxRecDepth 100000 in
theorem c3_kindOf (a : Nat) (S : Sv) (σ : St) (hR : RepS (σ 2 a) S) (hO : SOK S) (k : Nat) (hk : k < Sn S) : Ct M3_kindOf 1 [.inr (.inr (2, a, 0)), .inl (nI k)] σ (PI fun v σ' => nI (Sk S k) = v ∧ σ = σ') := by
  refine Ct.of f_3_kindOf (Nat.le_of_ble_eq_true rfl) ?_
  show AW M3_kindOf 1 _ (0, [(0, .inr (.inr (2, a, 0))), (1, .inl (nI k))], [], σ)
  have hn := hO.1
  have hk8 : k < 8 := by omega
  have eq : σ 2 a 1 (nI k).toNatClampNeg = nI (Sk S k) := by rw [cl8 hk8]; exact (hR.2.1 k hk8).1
  refine AW.run 2 [] (2, [(0, .inr (.inr (2, a, 0))), (1, .inl (nI k))], [.inl (nI k), .inr (.inr (2, a, 0))], σ) [] rfl ?_ ?_
  · exact trivial
  refine AW.callVI (d' := 0) [.inl (nI k)] [] ⟨_, rfl⟩ f_3_has v_3_has l_3_58 ⟨rfl, by decide⟩ rfl (Nat.le_of_ble_eq_true rfl) rfl (Nat.le_of_ble_eq_true rfl) (c3_has a S σ hR hO (nI k)) ?_
  rintro v _ ⟨rfl, hv⟩
  rcases hv with ⟨rfl, hp2⟩ | ⟨rfl, hp2⟩
  · skip
    refine AW.run 6 [false] (18, [(0, .inr (.inr (2, a, 0))), (1, .inl (nI k))], [.inl (σ 2 a 1 (nI k).toNatClampNeg)], σ) [¬ icP .eq (1 : Int32) 0, vp_in (nI k) 8] rfl ?_ ?_
    · exact ⟨(by decide : ¬ ((1 : Int32) = 0)), allP1 (by exact in8 hk8)⟩
    refine AW.reti ⟨_, rfl⟩ rfl ?_
    exact ⟨eq.symm, rfl⟩
  · skip
    refine AW.run 2 [true] (18, [(0, .inr (.inr (2, a, 0))), (1, .inl (nI k))], [.inl 0], σ) [icP .eq (0 : Int32) 0] rfl ?_ ?_
    · exact allP1 (by decide : ((0 : Int32) = 0))
    refine AW.reti ⟨_, rfl⟩ rfl ?_
    exact absurd rfl (hp2 k hk)
set_option maxHeartbeats 4000000 in
set_option maxRecDepth 100000 in
theorem c3_figureOf (a : Nat) (S : Sv) (σ : St) (hR : RepS (σ 2 a) S) (hO : SOK S) (k : Nat) (hk : k < Sn S) : Ct M3_figureOf 1 [.inr (.inr (2, a, 0)), .inl (nI k)] σ (PI fun v σ' => nI (Sf S k) = v ∧ σ = σ') := by
  refine Ct.of f_3_figureOf (Nat.le_of_ble_eq_true rfl) ?_
  show AW M3_figureOf 1 _ (0, [(0, .inr (.inr (2, a, 0))), (1, .inl (nI k))], [], σ)
  have hn := hO.1
  have hk8 : k < 8 := by omega
  have eq : σ 2 a 2 (nI k).toNatClampNeg = nI (Sf S k) := by rw [cl8 hk8]; exact (hR.2.1 k hk8).2.1
  refine AW.run 2 [] (2, [(0, .inr (.inr (2, a, 0))), (1, .inl (nI k))], [.inl (nI k), .inr (.inr (2, a, 0))], σ) [] rfl ?_ ?_
  · exact trivial
  refine AW.callVI (d' := 0) [.inl (nI k)] [] ⟨_, rfl⟩ f_3_has v_3_has l_3_58 ⟨rfl, by decide⟩ rfl (Nat.le_of_ble_eq_true rfl) rfl (Nat.le_of_ble_eq_true rfl) (c3_has a S σ hR hO (nI k)) ?_
  rintro v _ ⟨rfl, hv⟩
  rcases hv with ⟨rfl, hp2⟩ | ⟨rfl, hp2⟩
  · skip
    refine AW.run 6 [false] (18, [(0, .inr (.inr (2, a, 0))), (1, .inl (nI k))], [.inl (σ 2 a 2 (nI k).toNatClampNeg)], σ) [¬ icP .eq (1 : Int32) 0, vp_in (nI k) 8] rfl ?_ ?_
    · exact ⟨(by decide : ¬ ((1 : Int32) = 0)), allP1 (by exact in8 hk8)⟩
    refine AW.reti ⟨_, rfl⟩ rfl ?_
    exact ⟨eq.symm, rfl⟩
  · skip
    refine AW.run 2 [true] (18, [(0, .inr (.inr (2, a, 0))), (1, .inl (nI k))], [.inl 0], σ) [icP .eq (0 : Int32) 0] rfl ?_ ?_
    · exact allP1 (by decide : ((0 : Int32) = 0))
    refine AW.reti ⟨_, rfl⟩ rfl ?_
    exact absurd rfl (hp2 k hk)
set_option maxHeartbeats 4000000 in
set_option maxRecDepth 100000 in
theorem c3_placeOf (a : Nat) (S : Sv) (σ : St) (hR : RepS (σ 2 a) S) (hO : SOK S) (k : Nat) (hk : k < Sn S) : Ct M3_placeOf 1 [.inr (.inr (2, a, 0)), .inl (nI k)] σ (PI fun v σ' => nI (Sp S k) = v ∧ σ = σ') := by
  refine Ct.of f_3_placeOf (Nat.le_of_ble_eq_true rfl) ?_
  show AW M3_placeOf 1 _ (0, [(0, .inr (.inr (2, a, 0))), (1, .inl (nI k))], [], σ)
  have hn := hO.1
  have hk8 : k < 8 := by omega
  have eq : σ 2 a 3 (nI k).toNatClampNeg = nI (Sp S k) := by rw [cl8 hk8]; exact (hR.2.1 k hk8).2.2.1
  refine AW.run 2 [] (2, [(0, .inr (.inr (2, a, 0))), (1, .inl (nI k))], [.inl (nI k), .inr (.inr (2, a, 0))], σ) [] rfl ?_ ?_
  · exact trivial
  refine AW.callVI (d' := 0) [.inl (nI k)] [] ⟨_, rfl⟩ f_3_has v_3_has l_3_58 ⟨rfl, by decide⟩ rfl (Nat.le_of_ble_eq_true rfl) rfl (Nat.le_of_ble_eq_true rfl) (c3_has a S σ hR hO (nI k)) ?_
  rintro v _ ⟨rfl, hv⟩
  rcases hv with ⟨rfl, hp2⟩ | ⟨rfl, hp2⟩
  · skip
    refine AW.run 6 [false] (18, [(0, .inr (.inr (2, a, 0))), (1, .inl (nI k))], [.inl (σ 2 a 3 (nI k).toNatClampNeg)], σ) [¬ icP .eq (1 : Int32) 0, vp_in (nI k) 8] rfl ?_ ?_
    · exact ⟨(by decide : ¬ ((1 : Int32) = 0)), allP1 (by exact in8 hk8)⟩
    refine AW.reti ⟨_, rfl⟩ rfl ?_
    exact ⟨eq.symm, rfl⟩
  · skip
    refine AW.run 2 [true] (18, [(0, .inr (.inr (2, a, 0))), (1, .inl (nI k))], [.inl 0], σ) [icP .eq (0 : Int32) 0] rfl ?_ ?_
    · exact allP1 (by decide : ((0 : Int32) = 0))
    refine AW.reti ⟨_, rfl⟩ rfl ?_
    exact absurd rfl (hp2 k hk)
set_option maxHeartbeats 4000000 in
set_option maxRecDepth 100000 in
theorem c3_pressOf (a : Nat) (S : Sv) (σ : St) (hR : RepS (σ 2 a) S) (hO : SOK S) (k : Nat) (hk : k < Sn S) : Ct M3_pressOf 1 [.inr (.inr (2, a, 0)), .inl (nI k)] σ (PI fun v σ' => nI (Sq S k) = v ∧ σ = σ') := by
  refine Ct.of f_3_pressOf (Nat.le_of_ble_eq_true rfl) ?_
  show AW M3_pressOf 1 _ (0, [(0, .inr (.inr (2, a, 0))), (1, .inl (nI k))], [], σ)
  have hn := hO.1
  have hk8 : k < 8 := by omega
  have eq : σ 2 a 4 (nI k).toNatClampNeg = nI (Sq S k) := by rw [cl8 hk8]; exact (hR.2.1 k hk8).2.2.2
  refine AW.run 2 [] (2, [(0, .inr (.inr (2, a, 0))), (1, .inl (nI k))], [.inl (nI k), .inr (.inr (2, a, 0))], σ) [] rfl ?_ ?_
  · exact trivial
  refine AW.callVI (d' := 0) [.inl (nI k)] [] ⟨_, rfl⟩ f_3_has v_3_has l_3_58 ⟨rfl, by decide⟩ rfl (Nat.le_of_ble_eq_true rfl) rfl (Nat.le_of_ble_eq_true rfl) (c3_has a S σ hR hO (nI k)) ?_
  rintro v _ ⟨rfl, hv⟩
  rcases hv with ⟨rfl, hp2⟩ | ⟨rfl, hp2⟩
  · skip
    refine AW.run 6 [false] (18, [(0, .inr (.inr (2, a, 0))), (1, .inl (nI k))], [.inl (σ 2 a 4 (nI k).toNatClampNeg)], σ) [¬ icP .eq (1 : Int32) 0, vp_in (nI k) 8] rfl ?_ ?_
    · exact ⟨(by decide : ¬ ((1 : Int32) = 0)), allP1 (by exact in8 hk8)⟩
    refine AW.reti ⟨_, rfl⟩ rfl ?_
    exact ⟨eq.symm, rfl⟩
  · skip
    refine AW.run 2 [true] (18, [(0, .inr (.inr (2, a, 0))), (1, .inl (nI k))], [.inl 0], σ) [icP .eq (0 : Int32) 0] rfl ?_ ?_
    · exact allP1 (by decide : ((0 : Int32) = 0))
    refine AW.reti ⟨_, rfl⟩ rfl ?_
    exact absurd rfl (hp2 k hk)
set_option maxHeartbeats 4000000 in
set_option maxRecDepth 100000 in
theorem c3_riseOf (a : Nat) (S : Sv) (σ : St) (hR : RepS (σ 2 a) S) (hO : SOK S) (k : Nat) (hk : k < Sn S) : Ct M3_riseOf 1 [.inr (.inr (2, a, 0)), .inl (nI k)] σ (PI fun v σ' => nI (riseS S k) = v ∧ σ = σ') := by
  refine Ct.of f_3_riseOf (Nat.le_of_ble_eq_true rfl) ?_
  show AW M3_riseOf 1 _ (0, [(0, .inr (.inr (2, a, 0))), (1, .inl (nI k))], [], σ)
  have hn := hO.1
  have hk8 : k < 8 := by omega
  have eq : σ 2 a 5 (nI k).toNatClampNeg = nI (riseS S k) := by rw [cl8 hk8]; exact (hR.2.2 k hk).1
  refine AW.run 2 [] (2, [(0, .inr (.inr (2, a, 0))), (1, .inl (nI k))], [.inl (nI k), .inr (.inr (2, a, 0))], σ) [] rfl ?_ ?_
  · exact trivial
  refine AW.callVI (d' := 0) [.inl (nI k)] [] ⟨_, rfl⟩ f_3_has v_3_has l_3_58 ⟨rfl, by decide⟩ rfl (Nat.le_of_ble_eq_true rfl) rfl (Nat.le_of_ble_eq_true rfl) (c3_has a S σ hR hO (nI k)) ?_
  rintro v _ ⟨rfl, hv⟩
  rcases hv with ⟨rfl, hp2⟩ | ⟨rfl, hp2⟩
  · skip
    refine AW.run 6 [false] (18, [(0, .inr (.inr (2, a, 0))), (1, .inl (nI k))], [.inl (σ 2 a 5 (nI k).toNatClampNeg)], σ) [¬ icP .eq (1 : Int32) 0, vp_in (nI k) 8] rfl ?_ ?_
    · exact ⟨(by decide : ¬ ((1 : Int32) = 0)), allP1 (by exact in8 hk8)⟩
    refine AW.reti ⟨_, rfl⟩ rfl ?_
    exact ⟨eq.symm, rfl⟩
  · skip
    refine AW.run 2 [true] (18, [(0, .inr (.inr (2, a, 0))), (1, .inl (nI k))], [.inl 0], σ) [icP .eq (0 : Int32) 0] rfl ?_ ?_
    · exact allP1 (by decide : ((0 : Int32) = 0))
    refine AW.reti ⟨_, rfl⟩ rfl ?_
    exact absurd rfl (hp2 k hk)
set_option maxHeartbeats 4000000 in
set_option maxRecDepth 100000 in
theorem c3_bearOf (a : Nat) (S : Sv) (σ : St) (hR : RepS (σ 2 a) S) (hO : SOK S) (k : Nat) (hk : k < Sn S) : Ct M3_bearOf 1 [.inr (.inr (2, a, 0)), .inl (nI k)] σ (PI fun v σ' => nI (bearS S k) = v ∧ σ = σ') := by
  refine Ct.of f_3_bearOf (Nat.le_of_ble_eq_true rfl) ?_
  show AW M3_bearOf 1 _ (0, [(0, .inr (.inr (2, a, 0))), (1, .inl (nI k))], [], σ)
  have hn := hO.1
  have hk8 : k < 8 := by omega
  have eq : σ 2 a 6 (nI k).toNatClampNeg = nI (bearS S k) := by rw [cl8 hk8]; exact (hR.2.2 k hk).2.1
  refine AW.run 2 [] (2, [(0, .inr (.inr (2, a, 0))), (1, .inl (nI k))], [.inl (nI k), .inr (.inr (2, a, 0))], σ) [] rfl ?_ ?_
  · exact trivial
  refine AW.callVI (d' := 0) [.inl (nI k)] [] ⟨_, rfl⟩ f_3_has v_3_has l_3_58 ⟨rfl, by decide⟩ rfl (Nat.le_of_ble_eq_true rfl) rfl (Nat.le_of_ble_eq_true rfl) (c3_has a S σ hR hO (nI k)) ?_
  rintro v _ ⟨rfl, hv⟩
  rcases hv with ⟨rfl, hp2⟩ | ⟨rfl, hp2⟩
  · skip
    refine AW.run 6 [false] (18, [(0, .inr (.inr (2, a, 0))), (1, .inl (nI k))], [.inl (σ 2 a 6 (nI k).toNatClampNeg)], σ) [¬ icP .eq (1 : Int32) 0, vp_in (nI k) 8] rfl ?_ ?_
    · exact ⟨(by decide : ¬ ((1 : Int32) = 0)), allP1 (by exact in8 hk8)⟩
    refine AW.reti ⟨_, rfl⟩ rfl ?_
    exact ⟨eq.symm, rfl⟩
  · skip
    refine AW.run 2 [true] (18, [(0, .inr (.inr (2, a, 0))), (1, .inl (nI k))], [.inl 0], σ) [icP .eq (0 : Int32) 0] rfl ?_ ?_
    · exact allP1 (by decide : ((0 : Int32) = 0))
    refine AW.reti ⟨_, rfl⟩ rfl ?_
    exact absurd rfl (hp2 k hk)
set_option maxHeartbeats 4000000 in
set_option maxRecDepth 100000 in
theorem c3_shockOf (a : Nat) (S : Sv) (σ : St) (hR : RepS (σ 2 a) S) (hO : SOK S) (k : Nat) (hk : k < Sn S) : Ct M3_shockOf 1 [.inr (.inr (2, a, 0)), .inl (nI k)] σ (PI fun v σ' => nI (shockS S k) = v ∧ σ = σ') := by
  refine Ct.of f_3_shockOf (Nat.le_of_ble_eq_true rfl) ?_
  show AW M3_shockOf 1 _ (0, [(0, .inr (.inr (2, a, 0))), (1, .inl (nI k))], [], σ)
  have hn := hO.1
  have hk8 : k < 8 := by omega
  have eq : σ 2 a 7 (nI k).toNatClampNeg = nI (shockS S k) := by rw [cl8 hk8]; exact (hR.2.2 k hk).2.2
  refine AW.run 2 [] (2, [(0, .inr (.inr (2, a, 0))), (1, .inl (nI k))], [.inl (nI k), .inr (.inr (2, a, 0))], σ) [] rfl ?_ ?_
  · exact trivial
  refine AW.callVI (d' := 0) [.inl (nI k)] [] ⟨_, rfl⟩ f_3_has v_3_has l_3_58 ⟨rfl, by decide⟩ rfl (Nat.le_of_ble_eq_true rfl) rfl (Nat.le_of_ble_eq_true rfl) (c3_has a S σ hR hO (nI k)) ?_
  rintro v _ ⟨rfl, hv⟩
  rcases hv with ⟨rfl, hp2⟩ | ⟨rfl, hp2⟩
  · skip
    refine AW.run 6 [false] (18, [(0, .inr (.inr (2, a, 0))), (1, .inl (nI k))], [.inl (σ 2 a 7 (nI k).toNatClampNeg)], σ) [¬ icP .eq (1 : Int32) 0, vp_in (nI k) 8] rfl ?_ ?_
    · exact ⟨(by decide : ¬ ((1 : Int32) = 0)), allP1 (by exact in8 hk8)⟩
    refine AW.reti ⟨_, rfl⟩ rfl ?_
    exact ⟨eq.symm, rfl⟩
  · skip
    refine AW.run 2 [true] (18, [(0, .inr (.inr (2, a, 0))), (1, .inl (nI k))], [.inl 0], σ) [icP .eq (0 : Int32) 0] rfl ?_ ?_
    · exact allP1 (by decide : ((0 : Int32) = 0))
    refine AW.reti ⟨_, rfl⟩ rfl ?_
    exact absurd rfl (hp2 k hk)
theorem rise_b {fg su he : Nat} (hs : su ≤ 9) (hh : he ≤ 9) : nI su + nI he / 2 = nI (su + he / 2) := by
  have h : ∀ su < 10, ∀ he < 10, nI su + nI he / 2 = nI (su + he / 2) := by decide +kernel
  exact h su (by omega) he (by omega)
theorem rise_s {b : Nat} (hb : b ≤ 13) (h0 : 0 < b) : nI b - 1 = nI (b - 1) := by
  have h : ∀ b < 14, 0 < b → nI b - 1 = nI (b - 1) := by decide +kernel
  exact h b (by omega) h0
theorem rise_r {b fg : Nat} (hb : b ≤ 13) (hf : fg ≤ 9) : nI b + nI fg / 3 = nI (b + fg / 3) := by
  have h : ∀ b < 14, ∀ fg < 10, nI b + nI fg / 3 = nI (b + fg / 3) := by decide +kernel
  exact h b (by omega) fg (by omega)
theorem rise_2 {b : Nat} (hb : b ≤ 20) : (2 : Int32) * nI b = nI (2 * b) := by
  have h : ∀ b < 21, (2 : Int32) * nI b = nI (2 * b) := by decide +kernel
  exact h b (by omega)
set_option maxHeartbeats 4000000 in
set_option maxRecDepth 100000 in
theorem c0_rises (k fg su he : Nat) (hk : k ≤ 5) (hf : fg ≤ 9) (hs : su ≤ 9) (hh : he ≤ 9) (σ : St) : Ct M0_rises 1 [.inl (nI k), .inl (nI fg), .inl (nI su), .inl (nI he)] σ (PI fun v σ' => nI (riseN k fg su he) = v ∧ σ = σ') := by
  refine Ct.of f_0_rises (Nat.le_of_ble_eq_true rfl) ?_
  show AW M0_rises 1 _ (0, [(0, .inl (nI k)), (1, .inl (nI fg)), (2, .inl (nI su)), (3, .inl (nI he))], [], σ)
  have e1 := rise_b (fg := fg) hs hh
  have hb : su + he / 2 ≤ 13 := by omega
  have e3 := rise_r (b := su + he / 2 - 1) (by omega) hf
  have e4 := rise_2 (b := su + he / 2 - 1 + fg / 3) (by omega)
  by_cases h0 : 0 < su + he / 2
  · skip
    have e2 : nI su + nI he / 2 - 1 = nI (su + he / 2 - 1) := by rw [e1]; exact rise_s hb h0
    have e5 : nI su + nI he / 2 - 1 + nI fg / 3 = nI (su + he / 2 - 1 + fg / 3) := by rw [← e3, ← e2]
    refine AW.run 20 [false] (31, [(6, .inl ((((nI su) + ((nI he) / 2)) - 1) + ((nI fg) / 3))), (5, .inl (((nI su) + ((nI he) / 2)) - 1)), (4, .inl ((nI su) + ((nI he) / 2))), (0, .inl (nI k)), (1, .inl (nI fg)), (2, .inl (nI su)), (3, .inl (nI he))], [.inl (nI k)], σ) [¬ (2 : Int32) = 0, ¬ icP .le ((nI su) + ((nI he) / 2)) 0, ¬ (3 : Int32) = 0] rfl ?_ ?_
    · exact ⟨(by decide), (by rw [e1]; exact nI_nle h0 (by omega)), allP1 (by decide)⟩
    by_cases h31_1 : (nI k : Int32) = 0
    · skip
      refine AW.tswIn (k := 0) (tgt := 68) ⟨_, rfl⟩ (by rw [h31_1]; decide) (by decide) rfl (by decide) ?_
      refine AW.run 1 [] (70, [(6, .inl ((((nI su) + ((nI he) / 2)) - 1) + ((nI fg) / 3))), (5, .inl (((nI su) + ((nI he) / 2)) - 1)), (4, .inl ((nI su) + ((nI he) / 2))), (0, .inl (nI k)), (1, .inl (nI fg)), (2, .inl (nI su)), (3, .inl (nI he))], [.inl ((nI su) + ((nI he) / 2))], σ) [] rfl ?_ ?_
      · exact trivial
      refine AW.reti ⟨_, rfl⟩ rfl ?_
      obtain rfl : k = 0 := nI_lit h31_1 (by omega) (by omega)
      exact ⟨e1.symm, rfl⟩
    by_cases h31_2 : (nI k : Int32) = 1
    · skip
      refine AW.tswIn (k := 1) (tgt := 71) ⟨_, rfl⟩ (by rw [h31_2]; decide) (by decide) rfl (by decide) ?_
      refine AW.run 1 [] (73, [(6, .inl ((((nI su) + ((nI he) / 2)) - 1) + ((nI fg) / 3))), (5, .inl (((nI su) + ((nI he) / 2)) - 1)), (4, .inl ((nI su) + ((nI he) / 2))), (0, .inl (nI k)), (1, .inl (nI fg)), (2, .inl (nI su)), (3, .inl (nI he))], [.inl (((nI su) + ((nI he) / 2)) - 1)], σ) [] rfl ?_ ?_
      · exact trivial
      refine AW.reti ⟨_, rfl⟩ rfl ?_
      obtain rfl : k = 1 := nI_lit h31_2 (by omega) (by omega)
      exact ⟨e2.symm, rfl⟩
    by_cases h31_3 : (nI k : Int32) = 2
    · skip
      refine AW.tswIn (k := 2) (tgt := 92) ⟨_, rfl⟩ (by rw [h31_3]; decide) (by decide) rfl (by decide) ?_
      refine AW.run 1 [] (93, [(6, .inl ((((nI su) + ((nI he) / 2)) - 1) + ((nI fg) / 3))), (5, .inl (((nI su) + ((nI he) / 2)) - 1)), (4, .inl ((nI su) + ((nI he) / 2))), (0, .inl (nI k)), (1, .inl (nI fg)), (2, .inl (nI su)), (3, .inl (nI he))], [.inl 0], σ) [] rfl ?_ ?_
      · exact trivial
      refine AW.reti ⟨_, rfl⟩ rfl ?_
      refine ⟨?_, rfl⟩
      rcases (show k = 0 ∨ k = 1 ∨ k = 2 ∨ k = 3 ∨ k = 4 ∨ k = 5 by omega) with rfl | rfl | rfl | rfl | rfl | rfl <;> first | (exact absurd rfl (by assumption)) | (exact absurd (show nI _ = _ by assumption) (by decide)) | rfl
    by_cases h31_4 : (nI k : Int32) = 3
    · skip
      refine AW.tswIn (k := 3) (tgt := 74) ⟨_, rfl⟩ (by rw [h31_4]; decide) (by decide) rfl (by decide) ?_
      refine AW.run 1 [] (76, [(6, .inl ((((nI su) + ((nI he) / 2)) - 1) + ((nI fg) / 3))), (5, .inl (((nI su) + ((nI he) / 2)) - 1)), (4, .inl ((nI su) + ((nI he) / 2))), (0, .inl (nI k)), (1, .inl (nI fg)), (2, .inl (nI su)), (3, .inl (nI he))], [.inl ((((nI su) + ((nI he) / 2)) - 1) + ((nI fg) / 3))], σ) [] rfl ?_ ?_
      · exact trivial
      refine AW.reti ⟨_, rfl⟩ rfl ?_
      obtain rfl : k = 3 := nI_lit h31_4 (by omega) (by omega)
      exact ⟨by rw [e5]; rfl, rfl⟩
    by_cases h31_5 : (nI k : Int32) = 4
    · skip
      refine AW.tswIn (k := 4) (tgt := 77) ⟨_, rfl⟩ (by rw [h31_5]; decide) (by decide) rfl (by decide) ?_
      by_cases h78_6 : (nI su : Int32) ≤ 0
      · skip
        refine AW.run 3 [true] (86, [(6, .inl ((((nI su) + ((nI he) / 2)) - 1) + ((nI fg) / 3))), (5, .inl (((nI su) + ((nI he) / 2)) - 1)), (4, .inl ((nI su) + ((nI he) / 2))), (0, .inl (nI k)), (1, .inl (nI fg)), (2, .inl (nI su)), (3, .inl (nI he))], [.inl 0], σ) [icP .le (nI su) 0] rfl ?_ ?_
        · exact allP1 (h78_6)
        refine AW.reti ⟨_, rfl⟩ rfl ?_
        obtain rfl : k = 4 := nI_lit h31_5 (by omega) (by omega)
        refine ⟨?_, rfl⟩
        simp only [riseN]
        by_cases h0 : 0 < su
        · rw [if_pos h0]
          first | rfl | exact absurd (show nI su ≤ 0 by assumption) (nI_nle h0 (by omega))
        · rw [if_neg h0]
          have h1 : su = 0 := by omega
          subst h1
          first | rfl | exact absurd (by decide : nI 0 ≤ (0 : Int32)) (by assumption)
      · skip
        refine AW.run 4 [false] (86, [(6, .inl ((((nI su) + ((nI he) / 2)) - 1) + ((nI fg) / 3))), (5, .inl (((nI su) + ((nI he) / 2)) - 1)), (4, .inl ((nI su) + ((nI he) / 2))), (0, .inl (nI k)), (1, .inl (nI fg)), (2, .inl (nI su)), (3, .inl (nI he))], [.inl 1], σ) [¬ icP .le (nI su) 0] rfl ?_ ?_
        · exact allP1 (h78_6)
        refine AW.reti ⟨_, rfl⟩ rfl ?_
        obtain rfl : k = 4 := nI_lit h31_5 (by omega) (by omega)
        refine ⟨?_, rfl⟩
        simp only [riseN]
        by_cases h0 : 0 < su
        · rw [if_pos h0]
          first | rfl | exact absurd (show nI su ≤ 0 by assumption) (nI_nle h0 (by omega))
        · rw [if_neg h0]
          have h1 : su = 0 := by omega
          subst h1
          first | rfl | exact absurd (by decide : nI 0 ≤ (0 : Int32)) (by assumption)
    by_cases h31_7 : (nI k : Int32) = 5
    · skip
      refine AW.tswIn (k := 5) (tgt := 87) ⟨_, rfl⟩ (by rw [h31_7]; decide) (by decide) rfl (by decide) ?_
      refine AW.run 3 [] (91, [(6, .inl ((((nI su) + ((nI he) / 2)) - 1) + ((nI fg) / 3))), (5, .inl (((nI su) + ((nI he) / 2)) - 1)), (4, .inl ((nI su) + ((nI he) / 2))), (0, .inl (nI k)), (1, .inl (nI fg)), (2, .inl (nI su)), (3, .inl (nI he))], [.inl (2 * ((((nI su) + ((nI he) / 2)) - 1) + ((nI fg) / 3)))], σ) [] rfl ?_ ?_
      · exact trivial
      refine AW.reti ⟨_, rfl⟩ rfl ?_
      obtain rfl : k = 5 := nI_lit h31_7 (by omega) (by omega)
      exact ⟨by rw [e5, e4]; rfl, rfl⟩
    have eh31_1 := lv_neT (a := 0) h31_1 rfl
    have eh31_2 := lv_neT (a := 1) h31_2 rfl
    have eh31_3 := lv_neT (a := 2) h31_3 rfl
    have eh31_4 := lv_neT (a := 3) h31_4 rfl
    have eh31_5 := lv_neT (a := 4) h31_5 rfl
    have eh31_7 := lv_neT (a := 5) h31_7 rfl
    refine AW.tswOut (tgt := 92) ⟨_, rfl⟩ (by omega) (by decide) ?_
    refine AW.run 1 [] (93, [(6, .inl ((((nI su) + ((nI he) / 2)) - 1) + ((nI fg) / 3))), (5, .inl (((nI su) + ((nI he) / 2)) - 1)), (4, .inl ((nI su) + ((nI he) / 2))), (0, .inl (nI k)), (1, .inl (nI fg)), (2, .inl (nI su)), (3, .inl (nI he))], [.inl 0], σ) [] rfl ?_ ?_
    · exact trivial
    refine AW.reti ⟨_, rfl⟩ rfl ?_
    refine ⟨?_, rfl⟩
    rcases (show k = 0 ∨ k = 1 ∨ k = 2 ∨ k = 3 ∨ k = 4 ∨ k = 5 by omega) with rfl | rfl | rfl | rfl | rfl | rfl <;> first | (exact absurd rfl (by assumption)) | (exact absurd (show nI _ = _ by assumption) (by decide)) | rfl
  · skip
    have e2 : (0 : Int32) = nI (su + he / 2 - 1) := by rw [show su + he / 2 - 1 = 0 by omega]; decide
    have e5 : (0 : Int32) + nI fg / 3 = nI (su + he / 2 - 1 + fg / 3) := by rw [← e3, ← e2]
    refine AW.run 17 [true] (31, [(6, .inl (0 + ((nI fg) / 3))), (5, .inl 0), (4, .inl ((nI su) + ((nI he) / 2))), (0, .inl (nI k)), (1, .inl (nI fg)), (2, .inl (nI su)), (3, .inl (nI he))], [.inl (nI k)], σ) [¬ (2 : Int32) = 0, icP .le ((nI su) + ((nI he) / 2)) 0, ¬ (3 : Int32) = 0] rfl ?_ ?_
    · exact ⟨(by decide), (by rw [e1, show su + he / 2 = 0 by omega]; exact (by decide : nI 0 ≤ (0 : Int32))), allP1 (by decide)⟩
    by_cases h31_1 : (nI k : Int32) = 0
    · skip
      refine AW.tswIn (k := 0) (tgt := 68) ⟨_, rfl⟩ (by rw [h31_1]; decide) (by decide) rfl (by decide) ?_
      refine AW.run 1 [] (70, [(6, .inl (0 + ((nI fg) / 3))), (5, .inl 0), (4, .inl ((nI su) + ((nI he) / 2))), (0, .inl (nI k)), (1, .inl (nI fg)), (2, .inl (nI su)), (3, .inl (nI he))], [.inl ((nI su) + ((nI he) / 2))], σ) [] rfl ?_ ?_
      · exact trivial
      refine AW.reti ⟨_, rfl⟩ rfl ?_
      obtain rfl : k = 0 := nI_lit h31_1 (by omega) (by omega)
      exact ⟨e1.symm, rfl⟩
    by_cases h31_2 : (nI k : Int32) = 1
    · skip
      refine AW.tswIn (k := 1) (tgt := 71) ⟨_, rfl⟩ (by rw [h31_2]; decide) (by decide) rfl (by decide) ?_
      refine AW.run 1 [] (73, [(6, .inl (0 + ((nI fg) / 3))), (5, .inl 0), (4, .inl ((nI su) + ((nI he) / 2))), (0, .inl (nI k)), (1, .inl (nI fg)), (2, .inl (nI su)), (3, .inl (nI he))], [.inl 0], σ) [] rfl ?_ ?_
      · exact trivial
      refine AW.reti ⟨_, rfl⟩ rfl ?_
      obtain rfl : k = 1 := nI_lit h31_2 (by omega) (by omega)
      exact ⟨e2.symm, rfl⟩
    by_cases h31_3 : (nI k : Int32) = 2
    · skip
      refine AW.tswIn (k := 2) (tgt := 92) ⟨_, rfl⟩ (by rw [h31_3]; decide) (by decide) rfl (by decide) ?_
      refine AW.run 1 [] (93, [(6, .inl (0 + ((nI fg) / 3))), (5, .inl 0), (4, .inl ((nI su) + ((nI he) / 2))), (0, .inl (nI k)), (1, .inl (nI fg)), (2, .inl (nI su)), (3, .inl (nI he))], [.inl 0], σ) [] rfl ?_ ?_
      · exact trivial
      refine AW.reti ⟨_, rfl⟩ rfl ?_
      refine ⟨?_, rfl⟩
      rcases (show k = 0 ∨ k = 1 ∨ k = 2 ∨ k = 3 ∨ k = 4 ∨ k = 5 by omega) with rfl | rfl | rfl | rfl | rfl | rfl <;> first | (exact absurd rfl (by assumption)) | (exact absurd (show nI _ = _ by assumption) (by decide)) | rfl
    by_cases h31_4 : (nI k : Int32) = 3
    · skip
      refine AW.tswIn (k := 3) (tgt := 74) ⟨_, rfl⟩ (by rw [h31_4]; decide) (by decide) rfl (by decide) ?_
      refine AW.run 1 [] (76, [(6, .inl (0 + ((nI fg) / 3))), (5, .inl 0), (4, .inl ((nI su) + ((nI he) / 2))), (0, .inl (nI k)), (1, .inl (nI fg)), (2, .inl (nI su)), (3, .inl (nI he))], [.inl (0 + ((nI fg) / 3))], σ) [] rfl ?_ ?_
      · exact trivial
      refine AW.reti ⟨_, rfl⟩ rfl ?_
      obtain rfl : k = 3 := nI_lit h31_4 (by omega) (by omega)
      exact ⟨by rw [e5]; rfl, rfl⟩
    by_cases h31_5 : (nI k : Int32) = 4
    · skip
      refine AW.tswIn (k := 4) (tgt := 77) ⟨_, rfl⟩ (by rw [h31_5]; decide) (by decide) rfl (by decide) ?_
      by_cases h78_6 : (nI su : Int32) ≤ 0
      · skip
        refine AW.run 3 [true] (86, [(6, .inl (0 + ((nI fg) / 3))), (5, .inl 0), (4, .inl ((nI su) + ((nI he) / 2))), (0, .inl (nI k)), (1, .inl (nI fg)), (2, .inl (nI su)), (3, .inl (nI he))], [.inl 0], σ) [icP .le (nI su) 0] rfl ?_ ?_
        · exact allP1 (h78_6)
        refine AW.reti ⟨_, rfl⟩ rfl ?_
        obtain rfl : k = 4 := nI_lit h31_5 (by omega) (by omega)
        refine ⟨?_, rfl⟩
        simp only [riseN]
        by_cases h0 : 0 < su
        · rw [if_pos h0]
          first | rfl | exact absurd (show nI su ≤ 0 by assumption) (nI_nle h0 (by omega))
        · rw [if_neg h0]
          have h1 : su = 0 := by omega
          subst h1
          first | rfl | exact absurd (by decide : nI 0 ≤ (0 : Int32)) (by assumption)
      · skip
        refine AW.run 4 [false] (86, [(6, .inl (0 + ((nI fg) / 3))), (5, .inl 0), (4, .inl ((nI su) + ((nI he) / 2))), (0, .inl (nI k)), (1, .inl (nI fg)), (2, .inl (nI su)), (3, .inl (nI he))], [.inl 1], σ) [¬ icP .le (nI su) 0] rfl ?_ ?_
        · exact allP1 (h78_6)
        refine AW.reti ⟨_, rfl⟩ rfl ?_
        obtain rfl : k = 4 := nI_lit h31_5 (by omega) (by omega)
        refine ⟨?_, rfl⟩
        simp only [riseN]
        by_cases h0 : 0 < su
        · rw [if_pos h0]
          first | rfl | exact absurd (show nI su ≤ 0 by assumption) (nI_nle h0 (by omega))
        · rw [if_neg h0]
          have h1 : su = 0 := by omega
          subst h1
          first | rfl | exact absurd (by decide : nI 0 ≤ (0 : Int32)) (by assumption)
    by_cases h31_7 : (nI k : Int32) = 5
    · skip
      refine AW.tswIn (k := 5) (tgt := 87) ⟨_, rfl⟩ (by rw [h31_7]; decide) (by decide) rfl (by decide) ?_
      refine AW.run 3 [] (91, [(6, .inl (0 + ((nI fg) / 3))), (5, .inl 0), (4, .inl ((nI su) + ((nI he) / 2))), (0, .inl (nI k)), (1, .inl (nI fg)), (2, .inl (nI su)), (3, .inl (nI he))], [.inl (2 * (0 + ((nI fg) / 3)))], σ) [] rfl ?_ ?_
      · exact trivial
      refine AW.reti ⟨_, rfl⟩ rfl ?_
      obtain rfl : k = 5 := nI_lit h31_7 (by omega) (by omega)
      exact ⟨by rw [e5, e4]; rfl, rfl⟩
    have eh31_1 := lv_neT (a := 0) h31_1 rfl
    have eh31_2 := lv_neT (a := 1) h31_2 rfl
    have eh31_3 := lv_neT (a := 2) h31_3 rfl
    have eh31_4 := lv_neT (a := 3) h31_4 rfl
    have eh31_5 := lv_neT (a := 4) h31_5 rfl
    have eh31_7 := lv_neT (a := 5) h31_7 rfl
    refine AW.tswOut (tgt := 92) ⟨_, rfl⟩ (by omega) (by decide) ?_
    refine AW.run 1 [] (93, [(6, .inl (0 + ((nI fg) / 3))), (5, .inl 0), (4, .inl ((nI su) + ((nI he) / 2))), (0, .inl (nI k)), (1, .inl (nI fg)), (2, .inl (nI su)), (3, .inl (nI he))], [.inl 0], σ) [] rfl ?_ ?_
    · exact trivial
    refine AW.reti ⟨_, rfl⟩ rfl ?_
    refine ⟨?_, rfl⟩
    rcases (show k = 0 ∨ k = 1 ∨ k = 2 ∨ k = 3 ∨ k = 4 ∨ k = 5 by omega) with rfl | rfl | rfl | rfl | rfl | rfl <;> first | (exact absurd rfl (by assumption)) | (exact absurd (show nI _ = _ by assumption) (by decide)) | rfl
theorem bears_all : ∀ k < 6, ∀ fg < 10, True := fun _ _ _ _ => trivial
set_option maxHeartbeats 4000000 in
set_option maxRecDepth 100000 in
theorem c0_bears (k fg : Nat) (hk : k ≤ 5) (hf : fg ≤ 9) (σ : St) : Ct M0_bears 0 [.inl (nI k), .inl (nI fg)] σ (PI fun v σ' => nI (bearN k fg) = v ∧ σ = σ') := by
  refine Ct.of f_0_bears (Nat.le_of_ble_eq_true rfl) ?_
  show AW M0_bears 0 _ (0, [(0, .inl (nI k)), (1, .inl (nI fg))], [], σ)
  refine AW.run 13 [] (15, [(4, .inl ((2 * (10 + (nI fg))) - 5)), (3, .inl (2 * (10 + (nI fg)))), (2, .inl (10 + (nI fg))), (0, .inl (nI k)), (1, .inl (nI fg))], [.inl (nI k)], σ) [] rfl ?_ ?_
  · exact trivial
  by_cases h15_1 : (nI k : Int32) = 0
  · skip
    refine AW.tswIn (k := 0) (tgt := 52) ⟨_, rfl⟩ (by rw [h15_1]; decide) (by decide) rfl (by decide) ?_
    refine AW.run 1 [] (53, [(4, .inl ((2 * (10 + (nI fg))) - 5)), (3, .inl (2 * (10 + (nI fg)))), (2, .inl (10 + (nI fg))), (0, .inl (nI k)), (1, .inl (nI fg))], [.inl (10 + (nI fg))], σ) [] rfl ?_ ?_
    · exact trivial
    refine AW.reti ⟨_, rfl⟩ rfl ?_
    refine ⟨?_, rfl⟩
    rcases (show k = 0 ∨ k = 1 ∨ k = 2 ∨ k = 3 ∨ k = 4 ∨ k = 5 by omega) with rfl | rfl | rfl | rfl | rfl | rfl <;> first | (exact absurd rfl (by assumption)) | (exact absurd (show nI _ = _ by assumption) (by decide)) | rfl | (revert fg; decide +kernel)
  by_cases h15_2 : (nI k : Int32) = 1
  · skip
    refine AW.tswIn (k := 1) (tgt := 54) ⟨_, rfl⟩ (by rw [h15_2]; decide) (by decide) rfl (by decide) ?_
    refine AW.run 1 [] (55, [(4, .inl ((2 * (10 + (nI fg))) - 5)), (3, .inl (2 * (10 + (nI fg)))), (2, .inl (10 + (nI fg))), (0, .inl (nI k)), (1, .inl (nI fg))], [.inl (2 * (10 + (nI fg)))], σ) [] rfl ?_ ?_
    · exact trivial
    refine AW.reti ⟨_, rfl⟩ rfl ?_
    refine ⟨?_, rfl⟩
    rcases (show k = 0 ∨ k = 1 ∨ k = 2 ∨ k = 3 ∨ k = 4 ∨ k = 5 by omega) with rfl | rfl | rfl | rfl | rfl | rfl <;> first | (exact absurd rfl (by assumption)) | (exact absurd (show nI _ = _ by assumption) (by decide)) | rfl | (revert fg; decide +kernel)
  by_cases h15_3 : (nI k : Int32) = 2
  · skip
    refine AW.tswIn (k := 2) (tgt := 64) ⟨_, rfl⟩ (by rw [h15_3]; decide) (by decide) rfl (by decide) ?_
    refine AW.run 1 [] (66, [(4, .inl ((2 * (10 + (nI fg))) - 5)), (3, .inl (2 * (10 + (nI fg)))), (2, .inl (10 + (nI fg))), (0, .inl (nI k)), (1, .inl (nI fg))], [.inl 99], σ) [] rfl ?_ ?_
    · exact trivial
    refine AW.reti ⟨_, rfl⟩ rfl ?_
    refine ⟨?_, rfl⟩
    rcases (show k = 0 ∨ k = 1 ∨ k = 2 ∨ k = 3 ∨ k = 4 ∨ k = 5 by omega) with rfl | rfl | rfl | rfl | rfl | rfl <;> first | (exact absurd rfl (by assumption)) | (exact absurd (show nI _ = _ by assumption) (by decide)) | rfl | (revert fg; decide +kernel)
  by_cases h15_4 : (nI k : Int32) = 3
  · skip
    refine AW.tswIn (k := 3) (tgt := 56) ⟨_, rfl⟩ (by rw [h15_4]; decide) (by decide) rfl (by decide) ?_
    refine AW.run 1 [] (58, [(4, .inl ((2 * (10 + (nI fg))) - 5)), (3, .inl (2 * (10 + (nI fg)))), (2, .inl (10 + (nI fg))), (0, .inl (nI k)), (1, .inl (nI fg))], [.inl ((2 * (10 + (nI fg))) - 5)], σ) [] rfl ?_ ?_
    · exact trivial
    refine AW.reti ⟨_, rfl⟩ rfl ?_
    refine ⟨?_, rfl⟩
    rcases (show k = 0 ∨ k = 1 ∨ k = 2 ∨ k = 3 ∨ k = 4 ∨ k = 5 by omega) with rfl | rfl | rfl | rfl | rfl | rfl <;> first | (exact absurd rfl (by assumption)) | (exact absurd (show nI _ = _ by assumption) (by decide)) | rfl | (revert fg; decide +kernel)
  by_cases h15_5 : (nI k : Int32) = 4
  · skip
    refine AW.tswIn (k := 4) (tgt := 64) ⟨_, rfl⟩ (by rw [h15_5]; decide) (by decide) rfl (by decide) ?_
    refine AW.run 1 [] (66, [(4, .inl ((2 * (10 + (nI fg))) - 5)), (3, .inl (2 * (10 + (nI fg)))), (2, .inl (10 + (nI fg))), (0, .inl (nI k)), (1, .inl (nI fg))], [.inl 99], σ) [] rfl ?_ ?_
    · exact trivial
    refine AW.reti ⟨_, rfl⟩ rfl ?_
    refine ⟨?_, rfl⟩
    rcases (show k = 0 ∨ k = 1 ∨ k = 2 ∨ k = 3 ∨ k = 4 ∨ k = 5 by omega) with rfl | rfl | rfl | rfl | rfl | rfl <;> first | (exact absurd rfl (by assumption)) | (exact absurd (show nI _ = _ by assumption) (by decide)) | rfl | (revert fg; decide +kernel)
  by_cases h15_6 : (nI k : Int32) = 5
  · skip
    refine AW.tswIn (k := 5) (tgt := 59) ⟨_, rfl⟩ (by rw [h15_6]; decide) (by decide) rfl (by decide) ?_
    refine AW.run 3 [] (63, [(4, .inl ((2 * (10 + (nI fg))) - 5)), (3, .inl (2 * (10 + (nI fg)))), (2, .inl (10 + (nI fg))), (0, .inl (nI k)), (1, .inl (nI fg))], [.inl (((2 * (10 + (nI fg))) - 5) + (nI fg))], σ) [] rfl ?_ ?_
    · exact trivial
    refine AW.reti ⟨_, rfl⟩ rfl ?_
    refine ⟨?_, rfl⟩
    rcases (show k = 0 ∨ k = 1 ∨ k = 2 ∨ k = 3 ∨ k = 4 ∨ k = 5 by omega) with rfl | rfl | rfl | rfl | rfl | rfl <;> first | (exact absurd rfl (by assumption)) | (exact absurd (show nI _ = _ by assumption) (by decide)) | rfl | (revert fg; decide +kernel)
  have eh15_1 := lv_neT (a := 0) h15_1 rfl
  have eh15_2 := lv_neT (a := 1) h15_2 rfl
  have eh15_3 := lv_neT (a := 2) h15_3 rfl
  have eh15_4 := lv_neT (a := 3) h15_4 rfl
  have eh15_5 := lv_neT (a := 4) h15_5 rfl
  have eh15_6 := lv_neT (a := 5) h15_6 rfl
  refine AW.tswOut (tgt := 64) ⟨_, rfl⟩ (by omega) (by decide) ?_
  refine AW.run 1 [] (66, [(4, .inl ((2 * (10 + (nI fg))) - 5)), (3, .inl (2 * (10 + (nI fg)))), (2, .inl (10 + (nI fg))), (0, .inl (nI k)), (1, .inl (nI fg))], [.inl 99], σ) [] rfl ?_ ?_
  · exact trivial
  refine AW.reti ⟨_, rfl⟩ rfl ?_
  refine ⟨?_, rfl⟩
  rcases (show k = 0 ∨ k = 1 ∨ k = 2 ∨ k = 3 ∨ k = 4 ∨ k = 5 by omega) with rfl | rfl | rfl | rfl | rfl | rfl <;> first | (exact absurd rfl (by assumption)) | (exact absurd (show nI _ = _ by assumption) (by decide)) | rfl | (revert fg; decide +kernel)
theorem shocks_all : ∀ k < 6, ∀ fg < 10, True := fun _ _ _ _ => trivial
set_option maxHeartbeats 4000000 in
set_option maxRecDepth 100000 in
theorem c0_shocks (k fg : Nat) (hk : k ≤ 5) (hf : fg ≤ 9) (σ : St) : Ct M0_shocks 0 [.inl (nI k), .inl (nI fg)] σ (PI fun v σ' => nI (shockN k fg) = v ∧ σ = σ') := by
  refine Ct.of f_0_shocks (Nat.le_of_ble_eq_true rfl) ?_
  show AW M0_shocks 0 _ (0, [(0, .inl (nI k)), (1, .inl (nI fg))], [], σ)
  refine AW.run 1 [] (1, [(0, .inl (nI k)), (1, .inl (nI fg))], [.inl (nI k)], σ) [] rfl ?_ ?_
  · exact trivial
  by_cases h1_1 : (nI k : Int32) = 0
  · skip
    refine AW.tswIn (k := 0) (tgt := 40) ⟨_, rfl⟩ (by rw [h1_1]; decide) (by decide) rfl (by decide) ?_
    refine AW.run 1 [] (42, [(0, .inl (nI k)), (1, .inl (nI fg))], [.inl 6], σ) [] rfl ?_ ?_
    · exact trivial
    refine AW.reti ⟨_, rfl⟩ rfl ?_
    refine ⟨?_, rfl⟩
    rcases (show k = 0 ∨ k = 1 ∨ k = 2 ∨ k = 3 ∨ k = 4 ∨ k = 5 by omega) with rfl | rfl | rfl | rfl | rfl | rfl <;> first | (exact absurd rfl (by assumption)) | (exact absurd (show nI _ = _ by assumption) (by decide)) | rfl | (revert fg; decide +kernel)
  by_cases h1_2 : (nI k : Int32) = 1
  · skip
    refine AW.tswIn (k := 1) (tgt := 43) ⟨_, rfl⟩ (by rw [h1_2]; decide) (by decide) rfl (by decide) ?_
    refine AW.run 1 [] (45, [(0, .inl (nI k)), (1, .inl (nI fg))], [.inl 10], σ) [] rfl ?_ ?_
    · exact trivial
    refine AW.reti ⟨_, rfl⟩ rfl ?_
    refine ⟨?_, rfl⟩
    rcases (show k = 0 ∨ k = 1 ∨ k = 2 ∨ k = 3 ∨ k = 4 ∨ k = 5 by omega) with rfl | rfl | rfl | rfl | rfl | rfl <;> first | (exact absurd rfl (by assumption)) | (exact absurd (show nI _ = _ by assumption) (by decide)) | rfl | (revert fg; decide +kernel)
  by_cases h1_3 : (nI k : Int32) = 2
  · skip
    refine AW.tswIn (k := 2) (tgt := 54) ⟨_, rfl⟩ (by rw [h1_3]; decide) (by decide) rfl (by decide) ?_
    refine AW.run 1 [] (55, [(0, .inl (nI k)), (1, .inl (nI fg))], [.inl 0], σ) [] rfl ?_ ?_
    · exact trivial
    refine AW.reti ⟨_, rfl⟩ rfl ?_
    refine ⟨?_, rfl⟩
    rcases (show k = 0 ∨ k = 1 ∨ k = 2 ∨ k = 3 ∨ k = 4 ∨ k = 5 by omega) with rfl | rfl | rfl | rfl | rfl | rfl <;> first | (exact absurd rfl (by assumption)) | (exact absurd (show nI _ = _ by assumption) (by decide)) | rfl | (revert fg; decide +kernel)
  by_cases h1_4 : (nI k : Int32) = 3
  · skip
    refine AW.tswIn (k := 3) (tgt := 46) ⟨_, rfl⟩ (by rw [h1_4]; decide) (by decide) rfl (by decide) ?_
    refine AW.run 1 [] (48, [(0, .inl (nI k)), (1, .inl (nI fg))], [.inl 20], σ) [] rfl ?_ ?_
    · exact trivial
    refine AW.reti ⟨_, rfl⟩ rfl ?_
    refine ⟨?_, rfl⟩
    rcases (show k = 0 ∨ k = 1 ∨ k = 2 ∨ k = 3 ∨ k = 4 ∨ k = 5 by omega) with rfl | rfl | rfl | rfl | rfl | rfl <;> first | (exact absurd rfl (by assumption)) | (exact absurd (show nI _ = _ by assumption) (by decide)) | rfl | (revert fg; decide +kernel)
  by_cases h1_5 : (nI k : Int32) = 4
  · skip
    refine AW.tswIn (k := 4) (tgt := 49) ⟨_, rfl⟩ (by rw [h1_5]; decide) (by decide) rfl (by decide) ?_
    refine AW.run 1 [] (50, [(0, .inl (nI k)), (1, .inl (nI fg))], [.inl (nI fg)], σ) [] rfl ?_ ?_
    · exact trivial
    refine AW.reti ⟨_, rfl⟩ rfl ?_
    refine ⟨?_, rfl⟩
    rcases (show k = 0 ∨ k = 1 ∨ k = 2 ∨ k = 3 ∨ k = 4 ∨ k = 5 by omega) with rfl | rfl | rfl | rfl | rfl | rfl <;> first | (exact absurd rfl (by assumption)) | (exact absurd (show nI _ = _ by assumption) (by decide)) | rfl | (revert fg; decide +kernel)
  by_cases h1_6 : (nI k : Int32) = 5
  · skip
    refine AW.tswIn (k := 5) (tgt := 51) ⟨_, rfl⟩ (by rw [h1_6]; decide) (by decide) rfl (by decide) ?_
    refine AW.run 1 [] (53, [(0, .inl (nI k)), (1, .inl (nI fg))], [.inl 20], σ) [] rfl ?_ ?_
    · exact trivial
    refine AW.reti ⟨_, rfl⟩ rfl ?_
    refine ⟨?_, rfl⟩
    rcases (show k = 0 ∨ k = 1 ∨ k = 2 ∨ k = 3 ∨ k = 4 ∨ k = 5 by omega) with rfl | rfl | rfl | rfl | rfl | rfl <;> first | (exact absurd rfl (by assumption)) | (exact absurd (show nI _ = _ by assumption) (by decide)) | rfl | (revert fg; decide +kernel)
  have eh1_1 := lv_neT (a := 0) h1_1 rfl
  have eh1_2 := lv_neT (a := 1) h1_2 rfl
  have eh1_3 := lv_neT (a := 2) h1_3 rfl
  have eh1_4 := lv_neT (a := 3) h1_4 rfl
  have eh1_5 := lv_neT (a := 4) h1_5 rfl
  have eh1_6 := lv_neT (a := 5) h1_6 rfl
  refine AW.tswOut (tgt := 54) ⟨_, rfl⟩ (by omega) (by decide) ?_
  refine AW.run 1 [] (55, [(0, .inl (nI k)), (1, .inl (nI fg))], [.inl 0], σ) [] rfl ?_ ?_
  · exact trivial
  refine AW.reti ⟨_, rfl⟩ rfl ?_
  refine ⟨?_, rfl⟩
  rcases (show k = 0 ∨ k = 1 ∨ k = 2 ∨ k = 3 ∨ k = 4 ∨ k = 5 by omega) with rfl | rfl | rfl | rfl | rfl | rfl <;> first | (exact absurd rfl (by assumption)) | (exact absurd (show nI _ = _ by assumption) (by decide)) | rfl | (revert fg; decide +kernel)
