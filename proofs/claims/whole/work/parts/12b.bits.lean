set_option maxRecDepth 100000 in
theorem n_and : ∀ x < 256, ∀ y < 256, nI x &&& (nI y ^^^ (-1)) = nI (x &&& (255 - y)) := by decide +kernel
theorem b8_neg : ∀ f0 f1 f2 f3 f4 f5 f6 f7 : Bool, 255 - b8 f0 f1 f2 f3 f4 f5 f6 f7 = b8 (!f0) (!f1) (!f2) (!f3) (!f4) (!f5) (!f6) (!f7) := by decide +kernel
theorem b8_test : ∀ f0 f1 f2 f3 f4 f5 f6 f7 : Bool, (b8 f0 f1 f2 f3 f4 f5 f6 f7).testBit 0 = f0 ∧ (b8 f0 f1 f2 f3 f4 f5 f6 f7).testBit 1 = f1 ∧ (b8 f0 f1 f2 f3 f4 f5 f6 f7).testBit 2 = f2 ∧ (b8 f0 f1 f2 f3 f4 f5 f6 f7).testBit 3 = f3 ∧ (b8 f0 f1 f2 f3 f4 f5 f6 f7).testBit 4 = f4 ∧ (b8 f0 f1 f2 f3 f4 f5 f6 f7).testBit 5 = f5 ∧ (b8 f0 f1 f2 f3 f4 f5 f6 f7).testBit 6 = f6 ∧ (b8 f0 f1 f2 f3 f4 f5 f6 f7).testBit 7 = f7 := by decide +kernel
theorem bN_test (f : Nat → Bool) {i : Nat} (h : i < 8) : (bN f).testBit i = f i := by
  obtain ⟨h0, h1, h2, h3, h4, h5, h6, h7⟩ := b8_test (f 0) (f 1) (f 2) (f 3) (f 4) (f 5) (f 6) (f 7)
  rcases lt8 h with rfl | rfl | rfl | rfl | rfl | rfl | rfl | rfl <;> assumption
theorem test_big {x i : Nat} (hx : x < 256) (h : 8 ≤ i) : x.testBit i = false := Nat.testBit_lt_two_pow (Nat.lt_of_lt_of_le hx (by have := Nat.pow_le_pow_right (n := 2) (by decide) h; simpa using this))
theorem bI_andn (f g : Nat → Bool) : bI f &&& (bI g ^^^ (-1)) = bI (fun j => f j && !(g j)) := by
  unfold bI
  rw [n_and _ (bN_lt f) _ (bN_lt g)]
  congr 1
  apply Nat.eq_of_testBit_eq
  intro i
  rw [Nat.testBit_and]
  have e : 255 - bN g = bN (fun j => !(g j)) := b8_neg _ _ _ _ _ _ _ _
  rw [e]
  by_cases h : i < 8
  · rw [bN_test f h, bN_test _ h, bN_test _ h]
  · rw [test_big (bN_lt f) (by omega), test_big (bN_lt _) (by omega), test_big (bN_lt _) (by omega)]
    rfl

