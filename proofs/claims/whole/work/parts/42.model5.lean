/-! WHAT THE MODEL KEEPS -/
def Pk (base n j k : Nat) : Prop := (j = 0 ∧ k = 21) ∨ (j = 19 ∧ base ≤ k ∧ k < base + n)
def Pj (q n j k : Nat) : Prop := (j = 0 ∧ k = 21) ∨ (j = q ∧ k < n)
theorem fr_mono {P Q : Nat → Nat → Prop} {σ τ : St} (h : Fr P σ τ) (hp : ∀ j k, P j k → Q j k) : Fr Q σ τ := fun c i j k hn => h c i j k (fun q => hn ⟨q.1, q.2.1, hp j k q.2.2⟩)
def RepK (m : Nat → Nat → Int32) (w : Nat) (S : Sv) : Prop :=
  (m 19 (52 * w + 48) = nI (Sn S) ∧ m 19 (52 * w + 49) = nI (Su S) ∧ m 19 (52 * w + 50) = nI (She S) ∧ m 19 (52 * w + 51) = nI (Sd S)) ∧ ∀ i, i < Sn S → m 19 (52 * w + 0 + i) = nI (Sk S i) ∧ m 19 (52 * w + 8 + i) = nI (Sf S i) ∧ m 19 (52 * w + 16 + i) = nI (Sp S i) ∧ m 19 (52 * w + 24 + i) = nI (Sq S i) ∧ m 19 (52 * w + 32 + i) = (if Sw S i = true then 0 else 1) ∧ m 19 (52 * w + 40 + i) = (if Stw S i = true then 1 else 0)
theorem repK_eq {m m' : Nat → Nat → Int32} {w w' : Nat} {S : Sv} (hn : Sn S ≤ 8) (h : ∀ t, t < 52 → m' 19 (52 * w' + t) = m 19 (52 * w + t)) (hK : RepK m w S) : RepK m' w' S := by
  refine ⟨⟨by rw [h 48 (by omega)]; exact hK.1.1, by rw [h 49 (by omega)]; exact hK.1.2.1, by rw [h 50 (by omega)]; exact hK.1.2.2.1, by rw [h 51 (by omega)]; exact hK.1.2.2.2⟩, fun i hi => ?_⟩
  obtain ⟨h1, h2, h3, h4, h5, h6⟩ := hK.2 i hi
  have a := fun t (ht : t < 52) => (h t ht)
  refine ⟨?_, ?_, ?_, ?_, ?_, ?_⟩
  · rw [Nat.add_assoc, h (0 + i) (by omega), ← Nat.add_assoc]; exact h1
  · rw [Nat.add_assoc, h (8 + i) (by omega), ← Nat.add_assoc]; exact h2
  · rw [Nat.add_assoc, h (16 + i) (by omega), ← Nat.add_assoc]; exact h3
  · rw [Nat.add_assoc, h (24 + i) (by omega), ← Nat.add_assoc]; exact h4
  · rw [Nat.add_assoc, h (32 + i) (by omega), ← Nat.add_assoc]; exact h5
  · rw [Nat.add_assoc, h (40 + i) (by omega), ← Nat.add_assoc]; exact h6
theorem repK_fr {P : Nat → Nat → Prop} {σ τ : St} {w : Nat} {S : Sv} (hn : Sn S ≤ 8) (h : Fr P σ τ) (hp : ∀ k, 52 * w ≤ k → k < 52 * w + 52 → ¬ P 19 k) (hK : RepK (σ 5 0) w S) : RepK (τ 5 0) w S := repK_eq hn (fun t ht => fr_at h (hp _ (by omega) (by omega))) hK

set_option maxHeartbeats 4000000 in
set_option maxRecDepth 100000 in
theorem c6_passesK2 (base : Nat) (σ : St) (hb : base + 8 ≤ 572) (e20 : σ 5 0 0 20 = 1) (e21 : σ 5 0 0 21 = nI base) : Ct M6_passes 0 [.inr (.inr (5, 0, 0)), .inr (.inr (5, 0, 2))] σ (PV fun σ' => Fr (Pk base 8) σ σ' ∧ σ' 5 0 0 21 = nI (base + 8) ∧ ∀ t, t < 8 → σ' 5 0 19 (base + t) = σ 5 0 2 t) := by
  refine Ct.of f_6_passes (Nat.le_of_ble_eq_true rfl) ?_
  show AW M6_passes 0 _ (0, [(0, .inr (.inr (5, 0, 0))), (1, .inr (.inr (5, 0, 2)))], [], σ)
  refine AW.run 2 [] (2, [(2, .inl 0), (0, .inr (.inr (5, 0, 0))), (1, .inr (.inr (5, 0, 2)))], [], σ) [] rfl ?_ ?_
  · exact trivial
  refine AW.pick [1, 2, 0] (ls' := [(0, .inr (.inr (5, 0, 0))), (1, .inr (.inr (5, 0, 2))), (2, .inl (nI 0))]) rfl ?_
  refine AW.loop (α := Unit) 2 8 (fun i _ => [(0, .inr (.inr (5, 0, 0))), (1, .inr (.inr (5, 0, 2))), (2, .inl (nI i))]) (fun i _ τ => Fr (Pk base i) σ τ ∧ τ 5 0 0 21 = nI (base + i) ∧ ∀ t, t < i → τ 5 0 19 (base + t) = σ 5 0 2 t) ?_ ?_ 8 0 () _ (by omega) ⟨fr_rfl, e21, fun t ht => absurd ht (Nat.not_lt_zero t)⟩
  · intro i _ τ hi hI hk
    obtain ⟨hS1, hB, hC⟩ := hI
    have e20t : τ 5 0 0 20 = 1 := by rw [fr_at hS1 (by unfold Pk; omega)]; exact e20
    have eoi : τ 5 0 2 (nI i).toNatClampNeg = σ 5 0 2 i := by rw [cl8 hi, fr_at hS1 (by unfold Pk; omega)]
    skip
    refine AW.run 6 [false] (12, [(0, .inr (.inr (5, 0, 0))), (1, .inr (.inr (5, 0, 2))), (2, .inl (nI i))], [.inl (τ 5 0 0 20)], τ) [¬ icP .ge (nI i) (Int32.ofNat 8)] rfl ?_ ?_
    · exact allP1 (nle_lit (a := 8) hi (by decide))
    rw [e20t]
    refine AW.run 5 [false] (23, [(0, .inr (.inr (5, 0, 0))), (1, .inr (.inr (5, 0, 2))), (2, .inl (nI i))], [.inl (τ 5 0 0 21), .inr (.inr (5, 0, 19))], τ) [¬ icP .eq (1 : Int32) 0] rfl ?_ ?_
    · exact allP1 (by decide : ¬ ((1 : Int32) = 0))
    rw [hB]
    refine AW.run 3 [] (26, [(0, .inr (.inr (5, 0, 0))), (1, .inr (.inr (5, 0, 2))), (2, .inl (nI i))], [.inl (τ 5 0 2 (nI i).toNatClampNeg), .inl (nI (base + i)), .inr (.inr (5, 0, 19))], τ) [vp_in (nI i) 8] rfl ?_ ?_
    · exact allP1 (by first | exact in8 (by omega) | exact vp_in_nI (by omega) (by decide))
    rw [eoi]
    refine AW.run 5 [] (47, [(0, .inr (.inr (5, 0, 0))), (1, .inr (.inr (5, 0, 2))), (2, .inl (nI i))], [.inl ((setM τ 5 0 19 (nI (base + i)).toNatClampNeg (σ 5 0 2 i)) 5 0 0 21), .inr (.inr (5, 0, 0))], (setM τ 5 0 19 (nI (base + i)).toNatClampNeg (σ 5 0 2 i))) [vp_in (nI (base + i)) 572] rfl ?_ ?_
    · exact allP1 (by first | exact in8 (by omega) | exact vp_in_nI (by omega) (by decide))
    rw [show (setM τ 5 0 19 (nI (base + i)).toNatClampNeg (σ 5 0 2 i)) 5 0 0 21 = nI (base + i) from by rw [setM_at, if_neg (by omega)]; exact hB]
    refine AW.run 2 [] (49, [(0, .inr (.inr (5, 0, 0))), (1, .inr (.inr (5, 0, 2))), (2, .inl (nI i))], [.inl ((nI (base + i)) + 1), .inr (.inr (5, 0, 0))], (setM τ 5 0 19 (nI (base + i)).toNatClampNeg (σ 5 0 2 i))) [] rfl ?_ ?_
    · exact trivial
    rw [nI_1 (base + i)]
    refine AW.run 3 [] (2, [(2, .inl ((nI i) + 1)), (0, .inr (.inr (5, 0, 0))), (1, .inr (.inr (5, 0, 2)))], [], (setM (setM τ 5 0 19 (nI (base + i)).toNatClampNeg (σ 5 0 2 i)) 5 0 0 21 (nI (base + i + 1)))) [] rfl ?_ ?_
    · exact trivial
    rw [nI_1 i, nI_clamp (n := base + i) (by omega)]
    refine AW.pick [1, 2, 0] (ls' := [(0, .inr (.inr (5, 0, 0))), (1, .inr (.inr (5, 0, 2))), (2, .inl (nI (i + 1)))]) rfl ?_
    exact hk () _ ⟨fr_set (fr_set (fr_mono hS1 (fun a b q => by unfold Pk at q ⊢; omega)) (by unfold Pk; omega)) (by unfold Pk; omega), by rw [setM_at, if_pos ⟨rfl, rfl⟩, Nat.add_assoc], fun t ht => by
      rw [setM_at, if_neg (by omega), setM_at]
      by_cases he : t = i
      · rw [if_pos ⟨rfl, by omega⟩, he]
      · rw [if_neg (by omega)]; exact hC t (by omega)⟩
  · intro _ τ hI
    obtain ⟨hS1, hB, hC⟩ := hI
    refine AW.run 4 [true] (58, [(0, .inr (.inr (5, 0, 0))), (1, .inr (.inr (5, 0, 2))), (2, .inl (nI 8))], [], τ) [icP .ge (nI 8) (Int32.ofNat 8)] rfl ?_ ?_
    · exact allP1 (le_lit (a := 8) (b := 8) (by decide) (by decide))
    refine AW.retv ⟨_, rfl⟩ rfl ?_
    exact ⟨hS1, hB, hC⟩
set_option maxHeartbeats 4000000 in
set_option maxRecDepth 100000 in
theorem c6_passesP2 (base : Nat) (σ : St) (hb : base + 8 ≤ 572) (e20 : σ 5 0 0 20 = 0) (e21 : σ 5 0 0 21 = nI base) : Ct M6_passes 0 [.inr (.inr (5, 0, 0)), .inr (.inr (5, 0, 2))] σ (PV fun σ' => Fr (Pj 2 8) σ σ' ∧ σ' 5 0 0 21 = nI (base + 8) ∧ ∀ t, t < 8 → σ' 5 0 2 t = σ 5 0 19 (base + t)) := by
  refine Ct.of f_6_passes (Nat.le_of_ble_eq_true rfl) ?_
  show AW M6_passes 0 _ (0, [(0, .inr (.inr (5, 0, 0))), (1, .inr (.inr (5, 0, 2)))], [], σ)
  refine AW.run 2 [] (2, [(2, .inl 0), (0, .inr (.inr (5, 0, 0))), (1, .inr (.inr (5, 0, 2)))], [], σ) [] rfl ?_ ?_
  · exact trivial
  refine AW.pick [1, 2, 0] (ls' := [(0, .inr (.inr (5, 0, 0))), (1, .inr (.inr (5, 0, 2))), (2, .inl (nI 0))]) rfl ?_
  refine AW.loop (α := Unit) 2 8 (fun i _ => [(0, .inr (.inr (5, 0, 0))), (1, .inr (.inr (5, 0, 2))), (2, .inl (nI i))]) (fun i _ τ => Fr (Pj 2 i) σ τ ∧ τ 5 0 0 21 = nI (base + i) ∧ ∀ t, t < i → τ 5 0 2 t = σ 5 0 19 (base + t)) ?_ ?_ 8 0 () _ (by omega) ⟨fr_rfl, e21, fun t ht => absurd ht (Nat.not_lt_zero t)⟩
  · intro i _ τ hi hI hk
    obtain ⟨hS1, hB, hC⟩ := hI
    have e20t : τ 5 0 0 20 = 0 := by rw [fr_at hS1 (by unfold Pj; omega)]; exact e20
    have eoi : τ 5 0 19 (nI (base + i)).toNatClampNeg = σ 5 0 19 (base + i) := by rw [nI_clamp (by omega), fr_at hS1 (by unfold Pj; omega)]
    skip
    refine AW.run 6 [false] (12, [(0, .inr (.inr (5, 0, 0))), (1, .inr (.inr (5, 0, 2))), (2, .inl (nI i))], [.inl (τ 5 0 0 20)], τ) [¬ icP .ge (nI i) (Int32.ofNat 8)] rfl ?_ ?_
    · exact allP1 (nle_lit (a := 8) hi (by decide))
    rw [e20t]
    refine AW.run 7 [true] (40, [(0, .inr (.inr (5, 0, 0))), (1, .inr (.inr (5, 0, 2))), (2, .inl (nI i))], [.inl (τ 5 0 0 21), .inr (.inr (5, 0, 19)), .inl (nI i), .inr (.inr (5, 0, 2))], τ) [icP .eq (0 : Int32) 0] rfl ?_ ?_
    · exact allP1 (by decide : ((0 : Int32) = 0))
    rw [hB]
    refine AW.run 1 [] (41, [(0, .inr (.inr (5, 0, 0))), (1, .inr (.inr (5, 0, 2))), (2, .inl (nI i))], [.inl (τ 5 0 19 (nI (base + i)).toNatClampNeg), .inl (nI i), .inr (.inr (5, 0, 2))], τ) [vp_in (nI (base + i)) 572] rfl ?_ ?_
    · exact allP1 (by first | exact in8 (by omega) | exact vp_in_nI (by omega) (by decide))
    rw [eoi]
    refine AW.run 4 [] (47, [(0, .inr (.inr (5, 0, 0))), (1, .inr (.inr (5, 0, 2))), (2, .inl (nI i))], [.inl ((setM τ 5 0 2 (nI i).toNatClampNeg (σ 5 0 19 (base + i))) 5 0 0 21), .inr (.inr (5, 0, 0))], (setM τ 5 0 2 (nI i).toNatClampNeg (σ 5 0 19 (base + i)))) [vp_in (nI i) 8] rfl ?_ ?_
    · exact allP1 (by first | exact in8 (by omega) | exact vp_in_nI (by omega) (by decide))
    rw [show (setM τ 5 0 2 (nI i).toNatClampNeg (σ 5 0 19 (base + i))) 5 0 0 21 = nI (base + i) from by rw [setM_at, if_neg (by omega)]; exact hB]
    refine AW.run 2 [] (49, [(0, .inr (.inr (5, 0, 0))), (1, .inr (.inr (5, 0, 2))), (2, .inl (nI i))], [.inl ((nI (base + i)) + 1), .inr (.inr (5, 0, 0))], (setM τ 5 0 2 (nI i).toNatClampNeg (σ 5 0 19 (base + i)))) [] rfl ?_ ?_
    · exact trivial
    rw [nI_1 (base + i)]
    refine AW.run 3 [] (2, [(2, .inl ((nI i) + 1)), (0, .inr (.inr (5, 0, 0))), (1, .inr (.inr (5, 0, 2)))], [], (setM (setM τ 5 0 2 (nI i).toNatClampNeg (σ 5 0 19 (base + i))) 5 0 0 21 (nI (base + i + 1)))) [] rfl ?_ ?_
    · exact trivial
    rw [nI_1 i, cl8 hi]
    refine AW.pick [1, 2, 0] (ls' := [(0, .inr (.inr (5, 0, 0))), (1, .inr (.inr (5, 0, 2))), (2, .inl (nI (i + 1)))]) rfl ?_
    exact hk () _ ⟨fr_set (fr_set (fr_mono hS1 (fun a b q => by unfold Pj at q ⊢; omega)) (by unfold Pj; omega)) (by unfold Pj; omega), by rw [setM_at, if_pos ⟨rfl, rfl⟩, Nat.add_assoc], fun t ht => by
      rw [setM_at, if_neg (by omega), setM_at]
      by_cases he : t = i
      · rw [if_pos ⟨rfl, he⟩, he]
      · rw [if_neg (by omega)]; exact hC t (by omega)⟩
  · intro _ τ hI
    obtain ⟨hS1, hB, hC⟩ := hI
    refine AW.run 4 [true] (58, [(0, .inr (.inr (5, 0, 0))), (1, .inr (.inr (5, 0, 2))), (2, .inl (nI 8))], [], τ) [icP .ge (nI 8) (Int32.ofNat 8)] rfl ?_ ?_
    · exact allP1 (le_lit (a := 8) (b := 8) (by decide) (by decide))
    refine AW.retv ⟨_, rfl⟩ rfl ?_
    exact ⟨hS1, hB, hC⟩
set_option maxHeartbeats 4000000 in
set_option maxRecDepth 100000 in
theorem c6_passesK3 (base : Nat) (σ : St) (hb : base + 8 ≤ 572) (e20 : σ 5 0 0 20 = 1) (e21 : σ 5 0 0 21 = nI base) : Ct M6_passes 0 [.inr (.inr (5, 0, 0)), .inr (.inr (5, 0, 3))] σ (PV fun σ' => Fr (Pk base 8) σ σ' ∧ σ' 5 0 0 21 = nI (base + 8) ∧ ∀ t, t < 8 → σ' 5 0 19 (base + t) = σ 5 0 3 t) := by
  refine Ct.of f_6_passes (Nat.le_of_ble_eq_true rfl) ?_
  show AW M6_passes 0 _ (0, [(0, .inr (.inr (5, 0, 0))), (1, .inr (.inr (5, 0, 3)))], [], σ)
  refine AW.run 2 [] (2, [(2, .inl 0), (0, .inr (.inr (5, 0, 0))), (1, .inr (.inr (5, 0, 3)))], [], σ) [] rfl ?_ ?_
  · exact trivial
  refine AW.pick [1, 2, 0] (ls' := [(0, .inr (.inr (5, 0, 0))), (1, .inr (.inr (5, 0, 3))), (2, .inl (nI 0))]) rfl ?_
  refine AW.loop (α := Unit) 2 8 (fun i _ => [(0, .inr (.inr (5, 0, 0))), (1, .inr (.inr (5, 0, 3))), (2, .inl (nI i))]) (fun i _ τ => Fr (Pk base i) σ τ ∧ τ 5 0 0 21 = nI (base + i) ∧ ∀ t, t < i → τ 5 0 19 (base + t) = σ 5 0 3 t) ?_ ?_ 8 0 () _ (by omega) ⟨fr_rfl, e21, fun t ht => absurd ht (Nat.not_lt_zero t)⟩
  · intro i _ τ hi hI hk
    obtain ⟨hS1, hB, hC⟩ := hI
    have e20t : τ 5 0 0 20 = 1 := by rw [fr_at hS1 (by unfold Pk; omega)]; exact e20
    have eoi : τ 5 0 3 (nI i).toNatClampNeg = σ 5 0 3 i := by rw [cl8 hi, fr_at hS1 (by unfold Pk; omega)]
    skip
    refine AW.run 6 [false] (12, [(0, .inr (.inr (5, 0, 0))), (1, .inr (.inr (5, 0, 3))), (2, .inl (nI i))], [.inl (τ 5 0 0 20)], τ) [¬ icP .ge (nI i) (Int32.ofNat 8)] rfl ?_ ?_
    · exact allP1 (nle_lit (a := 8) hi (by decide))
    rw [e20t]
    refine AW.run 5 [false] (23, [(0, .inr (.inr (5, 0, 0))), (1, .inr (.inr (5, 0, 3))), (2, .inl (nI i))], [.inl (τ 5 0 0 21), .inr (.inr (5, 0, 19))], τ) [¬ icP .eq (1 : Int32) 0] rfl ?_ ?_
    · exact allP1 (by decide : ¬ ((1 : Int32) = 0))
    rw [hB]
    refine AW.run 3 [] (26, [(0, .inr (.inr (5, 0, 0))), (1, .inr (.inr (5, 0, 3))), (2, .inl (nI i))], [.inl (τ 5 0 3 (nI i).toNatClampNeg), .inl (nI (base + i)), .inr (.inr (5, 0, 19))], τ) [vp_in (nI i) 8] rfl ?_ ?_
    · exact allP1 (by first | exact in8 (by omega) | exact vp_in_nI (by omega) (by decide))
    rw [eoi]
    refine AW.run 5 [] (47, [(0, .inr (.inr (5, 0, 0))), (1, .inr (.inr (5, 0, 3))), (2, .inl (nI i))], [.inl ((setM τ 5 0 19 (nI (base + i)).toNatClampNeg (σ 5 0 3 i)) 5 0 0 21), .inr (.inr (5, 0, 0))], (setM τ 5 0 19 (nI (base + i)).toNatClampNeg (σ 5 0 3 i))) [vp_in (nI (base + i)) 572] rfl ?_ ?_
    · exact allP1 (by first | exact in8 (by omega) | exact vp_in_nI (by omega) (by decide))
    rw [show (setM τ 5 0 19 (nI (base + i)).toNatClampNeg (σ 5 0 3 i)) 5 0 0 21 = nI (base + i) from by rw [setM_at, if_neg (by omega)]; exact hB]
    refine AW.run 2 [] (49, [(0, .inr (.inr (5, 0, 0))), (1, .inr (.inr (5, 0, 3))), (2, .inl (nI i))], [.inl ((nI (base + i)) + 1), .inr (.inr (5, 0, 0))], (setM τ 5 0 19 (nI (base + i)).toNatClampNeg (σ 5 0 3 i))) [] rfl ?_ ?_
    · exact trivial
    rw [nI_1 (base + i)]
    refine AW.run 3 [] (2, [(2, .inl ((nI i) + 1)), (0, .inr (.inr (5, 0, 0))), (1, .inr (.inr (5, 0, 3)))], [], (setM (setM τ 5 0 19 (nI (base + i)).toNatClampNeg (σ 5 0 3 i)) 5 0 0 21 (nI (base + i + 1)))) [] rfl ?_ ?_
    · exact trivial
    rw [nI_1 i, nI_clamp (n := base + i) (by omega)]
    refine AW.pick [1, 2, 0] (ls' := [(0, .inr (.inr (5, 0, 0))), (1, .inr (.inr (5, 0, 3))), (2, .inl (nI (i + 1)))]) rfl ?_
    exact hk () _ ⟨fr_set (fr_set (fr_mono hS1 (fun a b q => by unfold Pk at q ⊢; omega)) (by unfold Pk; omega)) (by unfold Pk; omega), by rw [setM_at, if_pos ⟨rfl, rfl⟩, Nat.add_assoc], fun t ht => by
      rw [setM_at, if_neg (by omega), setM_at]
      by_cases he : t = i
      · rw [if_pos ⟨rfl, by omega⟩, he]
      · rw [if_neg (by omega)]; exact hC t (by omega)⟩
  · intro _ τ hI
    obtain ⟨hS1, hB, hC⟩ := hI
    refine AW.run 4 [true] (58, [(0, .inr (.inr (5, 0, 0))), (1, .inr (.inr (5, 0, 3))), (2, .inl (nI 8))], [], τ) [icP .ge (nI 8) (Int32.ofNat 8)] rfl ?_ ?_
    · exact allP1 (le_lit (a := 8) (b := 8) (by decide) (by decide))
    refine AW.retv ⟨_, rfl⟩ rfl ?_
    exact ⟨hS1, hB, hC⟩
set_option maxHeartbeats 4000000 in
set_option maxRecDepth 100000 in
theorem c6_passesP3 (base : Nat) (σ : St) (hb : base + 8 ≤ 572) (e20 : σ 5 0 0 20 = 0) (e21 : σ 5 0 0 21 = nI base) : Ct M6_passes 0 [.inr (.inr (5, 0, 0)), .inr (.inr (5, 0, 3))] σ (PV fun σ' => Fr (Pj 3 8) σ σ' ∧ σ' 5 0 0 21 = nI (base + 8) ∧ ∀ t, t < 8 → σ' 5 0 3 t = σ 5 0 19 (base + t)) := by
  refine Ct.of f_6_passes (Nat.le_of_ble_eq_true rfl) ?_
  show AW M6_passes 0 _ (0, [(0, .inr (.inr (5, 0, 0))), (1, .inr (.inr (5, 0, 3)))], [], σ)
  refine AW.run 2 [] (2, [(2, .inl 0), (0, .inr (.inr (5, 0, 0))), (1, .inr (.inr (5, 0, 3)))], [], σ) [] rfl ?_ ?_
  · exact trivial
  refine AW.pick [1, 2, 0] (ls' := [(0, .inr (.inr (5, 0, 0))), (1, .inr (.inr (5, 0, 3))), (2, .inl (nI 0))]) rfl ?_
  refine AW.loop (α := Unit) 2 8 (fun i _ => [(0, .inr (.inr (5, 0, 0))), (1, .inr (.inr (5, 0, 3))), (2, .inl (nI i))]) (fun i _ τ => Fr (Pj 3 i) σ τ ∧ τ 5 0 0 21 = nI (base + i) ∧ ∀ t, t < i → τ 5 0 3 t = σ 5 0 19 (base + t)) ?_ ?_ 8 0 () _ (by omega) ⟨fr_rfl, e21, fun t ht => absurd ht (Nat.not_lt_zero t)⟩
  · intro i _ τ hi hI hk
    obtain ⟨hS1, hB, hC⟩ := hI
    have e20t : τ 5 0 0 20 = 0 := by rw [fr_at hS1 (by unfold Pj; omega)]; exact e20
    have eoi : τ 5 0 19 (nI (base + i)).toNatClampNeg = σ 5 0 19 (base + i) := by rw [nI_clamp (by omega), fr_at hS1 (by unfold Pj; omega)]
    skip
    refine AW.run 6 [false] (12, [(0, .inr (.inr (5, 0, 0))), (1, .inr (.inr (5, 0, 3))), (2, .inl (nI i))], [.inl (τ 5 0 0 20)], τ) [¬ icP .ge (nI i) (Int32.ofNat 8)] rfl ?_ ?_
    · exact allP1 (nle_lit (a := 8) hi (by decide))
    rw [e20t]
    refine AW.run 7 [true] (40, [(0, .inr (.inr (5, 0, 0))), (1, .inr (.inr (5, 0, 3))), (2, .inl (nI i))], [.inl (τ 5 0 0 21), .inr (.inr (5, 0, 19)), .inl (nI i), .inr (.inr (5, 0, 3))], τ) [icP .eq (0 : Int32) 0] rfl ?_ ?_
    · exact allP1 (by decide : ((0 : Int32) = 0))
    rw [hB]
    refine AW.run 1 [] (41, [(0, .inr (.inr (5, 0, 0))), (1, .inr (.inr (5, 0, 3))), (2, .inl (nI i))], [.inl (τ 5 0 19 (nI (base + i)).toNatClampNeg), .inl (nI i), .inr (.inr (5, 0, 3))], τ) [vp_in (nI (base + i)) 572] rfl ?_ ?_
    · exact allP1 (by first | exact in8 (by omega) | exact vp_in_nI (by omega) (by decide))
    rw [eoi]
    refine AW.run 4 [] (47, [(0, .inr (.inr (5, 0, 0))), (1, .inr (.inr (5, 0, 3))), (2, .inl (nI i))], [.inl ((setM τ 5 0 3 (nI i).toNatClampNeg (σ 5 0 19 (base + i))) 5 0 0 21), .inr (.inr (5, 0, 0))], (setM τ 5 0 3 (nI i).toNatClampNeg (σ 5 0 19 (base + i)))) [vp_in (nI i) 8] rfl ?_ ?_
    · exact allP1 (by first | exact in8 (by omega) | exact vp_in_nI (by omega) (by decide))
    rw [show (setM τ 5 0 3 (nI i).toNatClampNeg (σ 5 0 19 (base + i))) 5 0 0 21 = nI (base + i) from by rw [setM_at, if_neg (by omega)]; exact hB]
    refine AW.run 2 [] (49, [(0, .inr (.inr (5, 0, 0))), (1, .inr (.inr (5, 0, 3))), (2, .inl (nI i))], [.inl ((nI (base + i)) + 1), .inr (.inr (5, 0, 0))], (setM τ 5 0 3 (nI i).toNatClampNeg (σ 5 0 19 (base + i)))) [] rfl ?_ ?_
    · exact trivial
    rw [nI_1 (base + i)]
    refine AW.run 3 [] (2, [(2, .inl ((nI i) + 1)), (0, .inr (.inr (5, 0, 0))), (1, .inr (.inr (5, 0, 3)))], [], (setM (setM τ 5 0 3 (nI i).toNatClampNeg (σ 5 0 19 (base + i))) 5 0 0 21 (nI (base + i + 1)))) [] rfl ?_ ?_
    · exact trivial
    rw [nI_1 i, cl8 hi]
    refine AW.pick [1, 2, 0] (ls' := [(0, .inr (.inr (5, 0, 0))), (1, .inr (.inr (5, 0, 3))), (2, .inl (nI (i + 1)))]) rfl ?_
    exact hk () _ ⟨fr_set (fr_set (fr_mono hS1 (fun a b q => by unfold Pj at q ⊢; omega)) (by unfold Pj; omega)) (by unfold Pj; omega), by rw [setM_at, if_pos ⟨rfl, rfl⟩, Nat.add_assoc], fun t ht => by
      rw [setM_at, if_neg (by omega), setM_at]
      by_cases he : t = i
      · rw [if_pos ⟨rfl, he⟩, he]
      · rw [if_neg (by omega)]; exact hC t (by omega)⟩
  · intro _ τ hI
    obtain ⟨hS1, hB, hC⟩ := hI
    refine AW.run 4 [true] (58, [(0, .inr (.inr (5, 0, 0))), (1, .inr (.inr (5, 0, 3))), (2, .inl (nI 8))], [], τ) [icP .ge (nI 8) (Int32.ofNat 8)] rfl ?_ ?_
    · exact allP1 (le_lit (a := 8) (b := 8) (by decide) (by decide))
    refine AW.retv ⟨_, rfl⟩ rfl ?_
    exact ⟨hS1, hB, hC⟩
set_option maxHeartbeats 4000000 in
set_option maxRecDepth 100000 in
theorem c6_passesK4 (base : Nat) (σ : St) (hb : base + 8 ≤ 572) (e20 : σ 5 0 0 20 = 1) (e21 : σ 5 0 0 21 = nI base) : Ct M6_passes 0 [.inr (.inr (5, 0, 0)), .inr (.inr (5, 0, 4))] σ (PV fun σ' => Fr (Pk base 8) σ σ' ∧ σ' 5 0 0 21 = nI (base + 8) ∧ ∀ t, t < 8 → σ' 5 0 19 (base + t) = σ 5 0 4 t) := by
  refine Ct.of f_6_passes (Nat.le_of_ble_eq_true rfl) ?_
  show AW M6_passes 0 _ (0, [(0, .inr (.inr (5, 0, 0))), (1, .inr (.inr (5, 0, 4)))], [], σ)
  refine AW.run 2 [] (2, [(2, .inl 0), (0, .inr (.inr (5, 0, 0))), (1, .inr (.inr (5, 0, 4)))], [], σ) [] rfl ?_ ?_
  · exact trivial
  refine AW.pick [1, 2, 0] (ls' := [(0, .inr (.inr (5, 0, 0))), (1, .inr (.inr (5, 0, 4))), (2, .inl (nI 0))]) rfl ?_
  refine AW.loop (α := Unit) 2 8 (fun i _ => [(0, .inr (.inr (5, 0, 0))), (1, .inr (.inr (5, 0, 4))), (2, .inl (nI i))]) (fun i _ τ => Fr (Pk base i) σ τ ∧ τ 5 0 0 21 = nI (base + i) ∧ ∀ t, t < i → τ 5 0 19 (base + t) = σ 5 0 4 t) ?_ ?_ 8 0 () _ (by omega) ⟨fr_rfl, e21, fun t ht => absurd ht (Nat.not_lt_zero t)⟩
  · intro i _ τ hi hI hk
    obtain ⟨hS1, hB, hC⟩ := hI
    have e20t : τ 5 0 0 20 = 1 := by rw [fr_at hS1 (by unfold Pk; omega)]; exact e20
    have eoi : τ 5 0 4 (nI i).toNatClampNeg = σ 5 0 4 i := by rw [cl8 hi, fr_at hS1 (by unfold Pk; omega)]
    skip
    refine AW.run 6 [false] (12, [(0, .inr (.inr (5, 0, 0))), (1, .inr (.inr (5, 0, 4))), (2, .inl (nI i))], [.inl (τ 5 0 0 20)], τ) [¬ icP .ge (nI i) (Int32.ofNat 8)] rfl ?_ ?_
    · exact allP1 (nle_lit (a := 8) hi (by decide))
    rw [e20t]
    refine AW.run 5 [false] (23, [(0, .inr (.inr (5, 0, 0))), (1, .inr (.inr (5, 0, 4))), (2, .inl (nI i))], [.inl (τ 5 0 0 21), .inr (.inr (5, 0, 19))], τ) [¬ icP .eq (1 : Int32) 0] rfl ?_ ?_
    · exact allP1 (by decide : ¬ ((1 : Int32) = 0))
    rw [hB]
    refine AW.run 3 [] (26, [(0, .inr (.inr (5, 0, 0))), (1, .inr (.inr (5, 0, 4))), (2, .inl (nI i))], [.inl (τ 5 0 4 (nI i).toNatClampNeg), .inl (nI (base + i)), .inr (.inr (5, 0, 19))], τ) [vp_in (nI i) 8] rfl ?_ ?_
    · exact allP1 (by first | exact in8 (by omega) | exact vp_in_nI (by omega) (by decide))
    rw [eoi]
    refine AW.run 5 [] (47, [(0, .inr (.inr (5, 0, 0))), (1, .inr (.inr (5, 0, 4))), (2, .inl (nI i))], [.inl ((setM τ 5 0 19 (nI (base + i)).toNatClampNeg (σ 5 0 4 i)) 5 0 0 21), .inr (.inr (5, 0, 0))], (setM τ 5 0 19 (nI (base + i)).toNatClampNeg (σ 5 0 4 i))) [vp_in (nI (base + i)) 572] rfl ?_ ?_
    · exact allP1 (by first | exact in8 (by omega) | exact vp_in_nI (by omega) (by decide))
    rw [show (setM τ 5 0 19 (nI (base + i)).toNatClampNeg (σ 5 0 4 i)) 5 0 0 21 = nI (base + i) from by rw [setM_at, if_neg (by omega)]; exact hB]
    refine AW.run 2 [] (49, [(0, .inr (.inr (5, 0, 0))), (1, .inr (.inr (5, 0, 4))), (2, .inl (nI i))], [.inl ((nI (base + i)) + 1), .inr (.inr (5, 0, 0))], (setM τ 5 0 19 (nI (base + i)).toNatClampNeg (σ 5 0 4 i))) [] rfl ?_ ?_
    · exact trivial
    rw [nI_1 (base + i)]
    refine AW.run 3 [] (2, [(2, .inl ((nI i) + 1)), (0, .inr (.inr (5, 0, 0))), (1, .inr (.inr (5, 0, 4)))], [], (setM (setM τ 5 0 19 (nI (base + i)).toNatClampNeg (σ 5 0 4 i)) 5 0 0 21 (nI (base + i + 1)))) [] rfl ?_ ?_
    · exact trivial
    rw [nI_1 i, nI_clamp (n := base + i) (by omega)]
    refine AW.pick [1, 2, 0] (ls' := [(0, .inr (.inr (5, 0, 0))), (1, .inr (.inr (5, 0, 4))), (2, .inl (nI (i + 1)))]) rfl ?_
    exact hk () _ ⟨fr_set (fr_set (fr_mono hS1 (fun a b q => by unfold Pk at q ⊢; omega)) (by unfold Pk; omega)) (by unfold Pk; omega), by rw [setM_at, if_pos ⟨rfl, rfl⟩, Nat.add_assoc], fun t ht => by
      rw [setM_at, if_neg (by omega), setM_at]
      by_cases he : t = i
      · rw [if_pos ⟨rfl, by omega⟩, he]
      · rw [if_neg (by omega)]; exact hC t (by omega)⟩
  · intro _ τ hI
    obtain ⟨hS1, hB, hC⟩ := hI
    refine AW.run 4 [true] (58, [(0, .inr (.inr (5, 0, 0))), (1, .inr (.inr (5, 0, 4))), (2, .inl (nI 8))], [], τ) [icP .ge (nI 8) (Int32.ofNat 8)] rfl ?_ ?_
    · exact allP1 (le_lit (a := 8) (b := 8) (by decide) (by decide))
    refine AW.retv ⟨_, rfl⟩ rfl ?_
    exact ⟨hS1, hB, hC⟩
set_option maxHeartbeats 4000000 in
set_option maxRecDepth 100000 in
theorem c6_passesP4 (base : Nat) (σ : St) (hb : base + 8 ≤ 572) (e20 : σ 5 0 0 20 = 0) (e21 : σ 5 0 0 21 = nI base) : Ct M6_passes 0 [.inr (.inr (5, 0, 0)), .inr (.inr (5, 0, 4))] σ (PV fun σ' => Fr (Pj 4 8) σ σ' ∧ σ' 5 0 0 21 = nI (base + 8) ∧ ∀ t, t < 8 → σ' 5 0 4 t = σ 5 0 19 (base + t)) := by
  refine Ct.of f_6_passes (Nat.le_of_ble_eq_true rfl) ?_
  show AW M6_passes 0 _ (0, [(0, .inr (.inr (5, 0, 0))), (1, .inr (.inr (5, 0, 4)))], [], σ)
  refine AW.run 2 [] (2, [(2, .inl 0), (0, .inr (.inr (5, 0, 0))), (1, .inr (.inr (5, 0, 4)))], [], σ) [] rfl ?_ ?_
  · exact trivial
  refine AW.pick [1, 2, 0] (ls' := [(0, .inr (.inr (5, 0, 0))), (1, .inr (.inr (5, 0, 4))), (2, .inl (nI 0))]) rfl ?_
  refine AW.loop (α := Unit) 2 8 (fun i _ => [(0, .inr (.inr (5, 0, 0))), (1, .inr (.inr (5, 0, 4))), (2, .inl (nI i))]) (fun i _ τ => Fr (Pj 4 i) σ τ ∧ τ 5 0 0 21 = nI (base + i) ∧ ∀ t, t < i → τ 5 0 4 t = σ 5 0 19 (base + t)) ?_ ?_ 8 0 () _ (by omega) ⟨fr_rfl, e21, fun t ht => absurd ht (Nat.not_lt_zero t)⟩
  · intro i _ τ hi hI hk
    obtain ⟨hS1, hB, hC⟩ := hI
    have e20t : τ 5 0 0 20 = 0 := by rw [fr_at hS1 (by unfold Pj; omega)]; exact e20
    have eoi : τ 5 0 19 (nI (base + i)).toNatClampNeg = σ 5 0 19 (base + i) := by rw [nI_clamp (by omega), fr_at hS1 (by unfold Pj; omega)]
    skip
    refine AW.run 6 [false] (12, [(0, .inr (.inr (5, 0, 0))), (1, .inr (.inr (5, 0, 4))), (2, .inl (nI i))], [.inl (τ 5 0 0 20)], τ) [¬ icP .ge (nI i) (Int32.ofNat 8)] rfl ?_ ?_
    · exact allP1 (nle_lit (a := 8) hi (by decide))
    rw [e20t]
    refine AW.run 7 [true] (40, [(0, .inr (.inr (5, 0, 0))), (1, .inr (.inr (5, 0, 4))), (2, .inl (nI i))], [.inl (τ 5 0 0 21), .inr (.inr (5, 0, 19)), .inl (nI i), .inr (.inr (5, 0, 4))], τ) [icP .eq (0 : Int32) 0] rfl ?_ ?_
    · exact allP1 (by decide : ((0 : Int32) = 0))
    rw [hB]
    refine AW.run 1 [] (41, [(0, .inr (.inr (5, 0, 0))), (1, .inr (.inr (5, 0, 4))), (2, .inl (nI i))], [.inl (τ 5 0 19 (nI (base + i)).toNatClampNeg), .inl (nI i), .inr (.inr (5, 0, 4))], τ) [vp_in (nI (base + i)) 572] rfl ?_ ?_
    · exact allP1 (by first | exact in8 (by omega) | exact vp_in_nI (by omega) (by decide))
    rw [eoi]
    refine AW.run 4 [] (47, [(0, .inr (.inr (5, 0, 0))), (1, .inr (.inr (5, 0, 4))), (2, .inl (nI i))], [.inl ((setM τ 5 0 4 (nI i).toNatClampNeg (σ 5 0 19 (base + i))) 5 0 0 21), .inr (.inr (5, 0, 0))], (setM τ 5 0 4 (nI i).toNatClampNeg (σ 5 0 19 (base + i)))) [vp_in (nI i) 8] rfl ?_ ?_
    · exact allP1 (by first | exact in8 (by omega) | exact vp_in_nI (by omega) (by decide))
    rw [show (setM τ 5 0 4 (nI i).toNatClampNeg (σ 5 0 19 (base + i))) 5 0 0 21 = nI (base + i) from by rw [setM_at, if_neg (by omega)]; exact hB]
    refine AW.run 2 [] (49, [(0, .inr (.inr (5, 0, 0))), (1, .inr (.inr (5, 0, 4))), (2, .inl (nI i))], [.inl ((nI (base + i)) + 1), .inr (.inr (5, 0, 0))], (setM τ 5 0 4 (nI i).toNatClampNeg (σ 5 0 19 (base + i)))) [] rfl ?_ ?_
    · exact trivial
    rw [nI_1 (base + i)]
    refine AW.run 3 [] (2, [(2, .inl ((nI i) + 1)), (0, .inr (.inr (5, 0, 0))), (1, .inr (.inr (5, 0, 4)))], [], (setM (setM τ 5 0 4 (nI i).toNatClampNeg (σ 5 0 19 (base + i))) 5 0 0 21 (nI (base + i + 1)))) [] rfl ?_ ?_
    · exact trivial
    rw [nI_1 i, cl8 hi]
    refine AW.pick [1, 2, 0] (ls' := [(0, .inr (.inr (5, 0, 0))), (1, .inr (.inr (5, 0, 4))), (2, .inl (nI (i + 1)))]) rfl ?_
    exact hk () _ ⟨fr_set (fr_set (fr_mono hS1 (fun a b q => by unfold Pj at q ⊢; omega)) (by unfold Pj; omega)) (by unfold Pj; omega), by rw [setM_at, if_pos ⟨rfl, rfl⟩, Nat.add_assoc], fun t ht => by
      rw [setM_at, if_neg (by omega), setM_at]
      by_cases he : t = i
      · rw [if_pos ⟨rfl, he⟩, he]
      · rw [if_neg (by omega)]; exact hC t (by omega)⟩
  · intro _ τ hI
    obtain ⟨hS1, hB, hC⟩ := hI
    refine AW.run 4 [true] (58, [(0, .inr (.inr (5, 0, 0))), (1, .inr (.inr (5, 0, 4))), (2, .inl (nI 8))], [], τ) [icP .ge (nI 8) (Int32.ofNat 8)] rfl ?_ ?_
    · exact allP1 (le_lit (a := 8) (b := 8) (by decide) (by decide))
    refine AW.retv ⟨_, rfl⟩ rfl ?_
    exact ⟨hS1, hB, hC⟩
set_option maxHeartbeats 4000000 in
set_option maxRecDepth 100000 in
theorem c6_passesK5 (base : Nat) (σ : St) (hb : base + 8 ≤ 572) (e20 : σ 5 0 0 20 = 1) (e21 : σ 5 0 0 21 = nI base) : Ct M6_passes 0 [.inr (.inr (5, 0, 0)), .inr (.inr (5, 0, 5))] σ (PV fun σ' => Fr (Pk base 8) σ σ' ∧ σ' 5 0 0 21 = nI (base + 8) ∧ ∀ t, t < 8 → σ' 5 0 19 (base + t) = σ 5 0 5 t) := by
  refine Ct.of f_6_passes (Nat.le_of_ble_eq_true rfl) ?_
  show AW M6_passes 0 _ (0, [(0, .inr (.inr (5, 0, 0))), (1, .inr (.inr (5, 0, 5)))], [], σ)
  refine AW.run 2 [] (2, [(2, .inl 0), (0, .inr (.inr (5, 0, 0))), (1, .inr (.inr (5, 0, 5)))], [], σ) [] rfl ?_ ?_
  · exact trivial
  refine AW.pick [1, 2, 0] (ls' := [(0, .inr (.inr (5, 0, 0))), (1, .inr (.inr (5, 0, 5))), (2, .inl (nI 0))]) rfl ?_
  refine AW.loop (α := Unit) 2 8 (fun i _ => [(0, .inr (.inr (5, 0, 0))), (1, .inr (.inr (5, 0, 5))), (2, .inl (nI i))]) (fun i _ τ => Fr (Pk base i) σ τ ∧ τ 5 0 0 21 = nI (base + i) ∧ ∀ t, t < i → τ 5 0 19 (base + t) = σ 5 0 5 t) ?_ ?_ 8 0 () _ (by omega) ⟨fr_rfl, e21, fun t ht => absurd ht (Nat.not_lt_zero t)⟩
  · intro i _ τ hi hI hk
    obtain ⟨hS1, hB, hC⟩ := hI
    have e20t : τ 5 0 0 20 = 1 := by rw [fr_at hS1 (by unfold Pk; omega)]; exact e20
    have eoi : τ 5 0 5 (nI i).toNatClampNeg = σ 5 0 5 i := by rw [cl8 hi, fr_at hS1 (by unfold Pk; omega)]
    skip
    refine AW.run 6 [false] (12, [(0, .inr (.inr (5, 0, 0))), (1, .inr (.inr (5, 0, 5))), (2, .inl (nI i))], [.inl (τ 5 0 0 20)], τ) [¬ icP .ge (nI i) (Int32.ofNat 8)] rfl ?_ ?_
    · exact allP1 (nle_lit (a := 8) hi (by decide))
    rw [e20t]
    refine AW.run 5 [false] (23, [(0, .inr (.inr (5, 0, 0))), (1, .inr (.inr (5, 0, 5))), (2, .inl (nI i))], [.inl (τ 5 0 0 21), .inr (.inr (5, 0, 19))], τ) [¬ icP .eq (1 : Int32) 0] rfl ?_ ?_
    · exact allP1 (by decide : ¬ ((1 : Int32) = 0))
    rw [hB]
    refine AW.run 3 [] (26, [(0, .inr (.inr (5, 0, 0))), (1, .inr (.inr (5, 0, 5))), (2, .inl (nI i))], [.inl (τ 5 0 5 (nI i).toNatClampNeg), .inl (nI (base + i)), .inr (.inr (5, 0, 19))], τ) [vp_in (nI i) 8] rfl ?_ ?_
    · exact allP1 (by first | exact in8 (by omega) | exact vp_in_nI (by omega) (by decide))
    rw [eoi]
    refine AW.run 5 [] (47, [(0, .inr (.inr (5, 0, 0))), (1, .inr (.inr (5, 0, 5))), (2, .inl (nI i))], [.inl ((setM τ 5 0 19 (nI (base + i)).toNatClampNeg (σ 5 0 5 i)) 5 0 0 21), .inr (.inr (5, 0, 0))], (setM τ 5 0 19 (nI (base + i)).toNatClampNeg (σ 5 0 5 i))) [vp_in (nI (base + i)) 572] rfl ?_ ?_
    · exact allP1 (by first | exact in8 (by omega) | exact vp_in_nI (by omega) (by decide))
    rw [show (setM τ 5 0 19 (nI (base + i)).toNatClampNeg (σ 5 0 5 i)) 5 0 0 21 = nI (base + i) from by rw [setM_at, if_neg (by omega)]; exact hB]
    refine AW.run 2 [] (49, [(0, .inr (.inr (5, 0, 0))), (1, .inr (.inr (5, 0, 5))), (2, .inl (nI i))], [.inl ((nI (base + i)) + 1), .inr (.inr (5, 0, 0))], (setM τ 5 0 19 (nI (base + i)).toNatClampNeg (σ 5 0 5 i))) [] rfl ?_ ?_
    · exact trivial
    rw [nI_1 (base + i)]
    refine AW.run 3 [] (2, [(2, .inl ((nI i) + 1)), (0, .inr (.inr (5, 0, 0))), (1, .inr (.inr (5, 0, 5)))], [], (setM (setM τ 5 0 19 (nI (base + i)).toNatClampNeg (σ 5 0 5 i)) 5 0 0 21 (nI (base + i + 1)))) [] rfl ?_ ?_
    · exact trivial
    rw [nI_1 i, nI_clamp (n := base + i) (by omega)]
    refine AW.pick [1, 2, 0] (ls' := [(0, .inr (.inr (5, 0, 0))), (1, .inr (.inr (5, 0, 5))), (2, .inl (nI (i + 1)))]) rfl ?_
    exact hk () _ ⟨fr_set (fr_set (fr_mono hS1 (fun a b q => by unfold Pk at q ⊢; omega)) (by unfold Pk; omega)) (by unfold Pk; omega), by rw [setM_at, if_pos ⟨rfl, rfl⟩, Nat.add_assoc], fun t ht => by
      rw [setM_at, if_neg (by omega), setM_at]
      by_cases he : t = i
      · rw [if_pos ⟨rfl, by omega⟩, he]
      · rw [if_neg (by omega)]; exact hC t (by omega)⟩
  · intro _ τ hI
    obtain ⟨hS1, hB, hC⟩ := hI
    refine AW.run 4 [true] (58, [(0, .inr (.inr (5, 0, 0))), (1, .inr (.inr (5, 0, 5))), (2, .inl (nI 8))], [], τ) [icP .ge (nI 8) (Int32.ofNat 8)] rfl ?_ ?_
    · exact allP1 (le_lit (a := 8) (b := 8) (by decide) (by decide))
    refine AW.retv ⟨_, rfl⟩ rfl ?_
    exact ⟨hS1, hB, hC⟩
set_option maxHeartbeats 4000000 in
set_option maxRecDepth 100000 in
theorem c6_passesP5 (base : Nat) (σ : St) (hb : base + 8 ≤ 572) (e20 : σ 5 0 0 20 = 0) (e21 : σ 5 0 0 21 = nI base) : Ct M6_passes 0 [.inr (.inr (5, 0, 0)), .inr (.inr (5, 0, 5))] σ (PV fun σ' => Fr (Pj 5 8) σ σ' ∧ σ' 5 0 0 21 = nI (base + 8) ∧ ∀ t, t < 8 → σ' 5 0 5 t = σ 5 0 19 (base + t)) := by
  refine Ct.of f_6_passes (Nat.le_of_ble_eq_true rfl) ?_
  show AW M6_passes 0 _ (0, [(0, .inr (.inr (5, 0, 0))), (1, .inr (.inr (5, 0, 5)))], [], σ)
  refine AW.run 2 [] (2, [(2, .inl 0), (0, .inr (.inr (5, 0, 0))), (1, .inr (.inr (5, 0, 5)))], [], σ) [] rfl ?_ ?_
  · exact trivial
  refine AW.pick [1, 2, 0] (ls' := [(0, .inr (.inr (5, 0, 0))), (1, .inr (.inr (5, 0, 5))), (2, .inl (nI 0))]) rfl ?_
  refine AW.loop (α := Unit) 2 8 (fun i _ => [(0, .inr (.inr (5, 0, 0))), (1, .inr (.inr (5, 0, 5))), (2, .inl (nI i))]) (fun i _ τ => Fr (Pj 5 i) σ τ ∧ τ 5 0 0 21 = nI (base + i) ∧ ∀ t, t < i → τ 5 0 5 t = σ 5 0 19 (base + t)) ?_ ?_ 8 0 () _ (by omega) ⟨fr_rfl, e21, fun t ht => absurd ht (Nat.not_lt_zero t)⟩
  · intro i _ τ hi hI hk
    obtain ⟨hS1, hB, hC⟩ := hI
    have e20t : τ 5 0 0 20 = 0 := by rw [fr_at hS1 (by unfold Pj; omega)]; exact e20
    have eoi : τ 5 0 19 (nI (base + i)).toNatClampNeg = σ 5 0 19 (base + i) := by rw [nI_clamp (by omega), fr_at hS1 (by unfold Pj; omega)]
    skip
    refine AW.run 6 [false] (12, [(0, .inr (.inr (5, 0, 0))), (1, .inr (.inr (5, 0, 5))), (2, .inl (nI i))], [.inl (τ 5 0 0 20)], τ) [¬ icP .ge (nI i) (Int32.ofNat 8)] rfl ?_ ?_
    · exact allP1 (nle_lit (a := 8) hi (by decide))
    rw [e20t]
    refine AW.run 7 [true] (40, [(0, .inr (.inr (5, 0, 0))), (1, .inr (.inr (5, 0, 5))), (2, .inl (nI i))], [.inl (τ 5 0 0 21), .inr (.inr (5, 0, 19)), .inl (nI i), .inr (.inr (5, 0, 5))], τ) [icP .eq (0 : Int32) 0] rfl ?_ ?_
    · exact allP1 (by decide : ((0 : Int32) = 0))
    rw [hB]
    refine AW.run 1 [] (41, [(0, .inr (.inr (5, 0, 0))), (1, .inr (.inr (5, 0, 5))), (2, .inl (nI i))], [.inl (τ 5 0 19 (nI (base + i)).toNatClampNeg), .inl (nI i), .inr (.inr (5, 0, 5))], τ) [vp_in (nI (base + i)) 572] rfl ?_ ?_
    · exact allP1 (by first | exact in8 (by omega) | exact vp_in_nI (by omega) (by decide))
    rw [eoi]
    refine AW.run 4 [] (47, [(0, .inr (.inr (5, 0, 0))), (1, .inr (.inr (5, 0, 5))), (2, .inl (nI i))], [.inl ((setM τ 5 0 5 (nI i).toNatClampNeg (σ 5 0 19 (base + i))) 5 0 0 21), .inr (.inr (5, 0, 0))], (setM τ 5 0 5 (nI i).toNatClampNeg (σ 5 0 19 (base + i)))) [vp_in (nI i) 8] rfl ?_ ?_
    · exact allP1 (by first | exact in8 (by omega) | exact vp_in_nI (by omega) (by decide))
    rw [show (setM τ 5 0 5 (nI i).toNatClampNeg (σ 5 0 19 (base + i))) 5 0 0 21 = nI (base + i) from by rw [setM_at, if_neg (by omega)]; exact hB]
    refine AW.run 2 [] (49, [(0, .inr (.inr (5, 0, 0))), (1, .inr (.inr (5, 0, 5))), (2, .inl (nI i))], [.inl ((nI (base + i)) + 1), .inr (.inr (5, 0, 0))], (setM τ 5 0 5 (nI i).toNatClampNeg (σ 5 0 19 (base + i)))) [] rfl ?_ ?_
    · exact trivial
    rw [nI_1 (base + i)]
    refine AW.run 3 [] (2, [(2, .inl ((nI i) + 1)), (0, .inr (.inr (5, 0, 0))), (1, .inr (.inr (5, 0, 5)))], [], (setM (setM τ 5 0 5 (nI i).toNatClampNeg (σ 5 0 19 (base + i))) 5 0 0 21 (nI (base + i + 1)))) [] rfl ?_ ?_
    · exact trivial
    rw [nI_1 i, cl8 hi]
    refine AW.pick [1, 2, 0] (ls' := [(0, .inr (.inr (5, 0, 0))), (1, .inr (.inr (5, 0, 5))), (2, .inl (nI (i + 1)))]) rfl ?_
    exact hk () _ ⟨fr_set (fr_set (fr_mono hS1 (fun a b q => by unfold Pj at q ⊢; omega)) (by unfold Pj; omega)) (by unfold Pj; omega), by rw [setM_at, if_pos ⟨rfl, rfl⟩, Nat.add_assoc], fun t ht => by
      rw [setM_at, if_neg (by omega), setM_at]
      by_cases he : t = i
      · rw [if_pos ⟨rfl, he⟩, he]
      · rw [if_neg (by omega)]; exact hC t (by omega)⟩
  · intro _ τ hI
    obtain ⟨hS1, hB, hC⟩ := hI
    refine AW.run 4 [true] (58, [(0, .inr (.inr (5, 0, 0))), (1, .inr (.inr (5, 0, 5))), (2, .inl (nI 8))], [], τ) [icP .ge (nI 8) (Int32.ofNat 8)] rfl ?_ ?_
    · exact allP1 (le_lit (a := 8) (b := 8) (by decide) (by decide))
    refine AW.retv ⟨_, rfl⟩ rfl ?_
    exact ⟨hS1, hB, hC⟩
set_option maxHeartbeats 4000000 in
set_option maxRecDepth 100000 in
theorem c6_passesK6 (base : Nat) (σ : St) (hb : base + 8 ≤ 572) (e20 : σ 5 0 0 20 = 1) (e21 : σ 5 0 0 21 = nI base) : Ct M6_passes 0 [.inr (.inr (5, 0, 0)), .inr (.inr (5, 0, 6))] σ (PV fun σ' => Fr (Pk base 8) σ σ' ∧ σ' 5 0 0 21 = nI (base + 8) ∧ ∀ t, t < 8 → σ' 5 0 19 (base + t) = σ 5 0 6 t) := by
  refine Ct.of f_6_passes (Nat.le_of_ble_eq_true rfl) ?_
  show AW M6_passes 0 _ (0, [(0, .inr (.inr (5, 0, 0))), (1, .inr (.inr (5, 0, 6)))], [], σ)
  refine AW.run 2 [] (2, [(2, .inl 0), (0, .inr (.inr (5, 0, 0))), (1, .inr (.inr (5, 0, 6)))], [], σ) [] rfl ?_ ?_
  · exact trivial
  refine AW.pick [1, 2, 0] (ls' := [(0, .inr (.inr (5, 0, 0))), (1, .inr (.inr (5, 0, 6))), (2, .inl (nI 0))]) rfl ?_
  refine AW.loop (α := Unit) 2 8 (fun i _ => [(0, .inr (.inr (5, 0, 0))), (1, .inr (.inr (5, 0, 6))), (2, .inl (nI i))]) (fun i _ τ => Fr (Pk base i) σ τ ∧ τ 5 0 0 21 = nI (base + i) ∧ ∀ t, t < i → τ 5 0 19 (base + t) = σ 5 0 6 t) ?_ ?_ 8 0 () _ (by omega) ⟨fr_rfl, e21, fun t ht => absurd ht (Nat.not_lt_zero t)⟩
  · intro i _ τ hi hI hk
    obtain ⟨hS1, hB, hC⟩ := hI
    have e20t : τ 5 0 0 20 = 1 := by rw [fr_at hS1 (by unfold Pk; omega)]; exact e20
    have eoi : τ 5 0 6 (nI i).toNatClampNeg = σ 5 0 6 i := by rw [cl8 hi, fr_at hS1 (by unfold Pk; omega)]
    skip
    refine AW.run 6 [false] (12, [(0, .inr (.inr (5, 0, 0))), (1, .inr (.inr (5, 0, 6))), (2, .inl (nI i))], [.inl (τ 5 0 0 20)], τ) [¬ icP .ge (nI i) (Int32.ofNat 8)] rfl ?_ ?_
    · exact allP1 (nle_lit (a := 8) hi (by decide))
    rw [e20t]
    refine AW.run 5 [false] (23, [(0, .inr (.inr (5, 0, 0))), (1, .inr (.inr (5, 0, 6))), (2, .inl (nI i))], [.inl (τ 5 0 0 21), .inr (.inr (5, 0, 19))], τ) [¬ icP .eq (1 : Int32) 0] rfl ?_ ?_
    · exact allP1 (by decide : ¬ ((1 : Int32) = 0))
    rw [hB]
    refine AW.run 3 [] (26, [(0, .inr (.inr (5, 0, 0))), (1, .inr (.inr (5, 0, 6))), (2, .inl (nI i))], [.inl (τ 5 0 6 (nI i).toNatClampNeg), .inl (nI (base + i)), .inr (.inr (5, 0, 19))], τ) [vp_in (nI i) 8] rfl ?_ ?_
    · exact allP1 (by first | exact in8 (by omega) | exact vp_in_nI (by omega) (by decide))
    rw [eoi]
    refine AW.run 5 [] (47, [(0, .inr (.inr (5, 0, 0))), (1, .inr (.inr (5, 0, 6))), (2, .inl (nI i))], [.inl ((setM τ 5 0 19 (nI (base + i)).toNatClampNeg (σ 5 0 6 i)) 5 0 0 21), .inr (.inr (5, 0, 0))], (setM τ 5 0 19 (nI (base + i)).toNatClampNeg (σ 5 0 6 i))) [vp_in (nI (base + i)) 572] rfl ?_ ?_
    · exact allP1 (by first | exact in8 (by omega) | exact vp_in_nI (by omega) (by decide))
    rw [show (setM τ 5 0 19 (nI (base + i)).toNatClampNeg (σ 5 0 6 i)) 5 0 0 21 = nI (base + i) from by rw [setM_at, if_neg (by omega)]; exact hB]
    refine AW.run 2 [] (49, [(0, .inr (.inr (5, 0, 0))), (1, .inr (.inr (5, 0, 6))), (2, .inl (nI i))], [.inl ((nI (base + i)) + 1), .inr (.inr (5, 0, 0))], (setM τ 5 0 19 (nI (base + i)).toNatClampNeg (σ 5 0 6 i))) [] rfl ?_ ?_
    · exact trivial
    rw [nI_1 (base + i)]
    refine AW.run 3 [] (2, [(2, .inl ((nI i) + 1)), (0, .inr (.inr (5, 0, 0))), (1, .inr (.inr (5, 0, 6)))], [], (setM (setM τ 5 0 19 (nI (base + i)).toNatClampNeg (σ 5 0 6 i)) 5 0 0 21 (nI (base + i + 1)))) [] rfl ?_ ?_
    · exact trivial
    rw [nI_1 i, nI_clamp (n := base + i) (by omega)]
    refine AW.pick [1, 2, 0] (ls' := [(0, .inr (.inr (5, 0, 0))), (1, .inr (.inr (5, 0, 6))), (2, .inl (nI (i + 1)))]) rfl ?_
    exact hk () _ ⟨fr_set (fr_set (fr_mono hS1 (fun a b q => by unfold Pk at q ⊢; omega)) (by unfold Pk; omega)) (by unfold Pk; omega), by rw [setM_at, if_pos ⟨rfl, rfl⟩, Nat.add_assoc], fun t ht => by
      rw [setM_at, if_neg (by omega), setM_at]
      by_cases he : t = i
      · rw [if_pos ⟨rfl, by omega⟩, he]
      · rw [if_neg (by omega)]; exact hC t (by omega)⟩
  · intro _ τ hI
    obtain ⟨hS1, hB, hC⟩ := hI
    refine AW.run 4 [true] (58, [(0, .inr (.inr (5, 0, 0))), (1, .inr (.inr (5, 0, 6))), (2, .inl (nI 8))], [], τ) [icP .ge (nI 8) (Int32.ofNat 8)] rfl ?_ ?_
    · exact allP1 (le_lit (a := 8) (b := 8) (by decide) (by decide))
    refine AW.retv ⟨_, rfl⟩ rfl ?_
    exact ⟨hS1, hB, hC⟩
set_option maxHeartbeats 4000000 in
set_option maxRecDepth 100000 in
theorem c6_passesP6 (base : Nat) (σ : St) (hb : base + 8 ≤ 572) (e20 : σ 5 0 0 20 = 0) (e21 : σ 5 0 0 21 = nI base) : Ct M6_passes 0 [.inr (.inr (5, 0, 0)), .inr (.inr (5, 0, 6))] σ (PV fun σ' => Fr (Pj 6 8) σ σ' ∧ σ' 5 0 0 21 = nI (base + 8) ∧ ∀ t, t < 8 → σ' 5 0 6 t = σ 5 0 19 (base + t)) := by
  refine Ct.of f_6_passes (Nat.le_of_ble_eq_true rfl) ?_
  show AW M6_passes 0 _ (0, [(0, .inr (.inr (5, 0, 0))), (1, .inr (.inr (5, 0, 6)))], [], σ)
  refine AW.run 2 [] (2, [(2, .inl 0), (0, .inr (.inr (5, 0, 0))), (1, .inr (.inr (5, 0, 6)))], [], σ) [] rfl ?_ ?_
  · exact trivial
  refine AW.pick [1, 2, 0] (ls' := [(0, .inr (.inr (5, 0, 0))), (1, .inr (.inr (5, 0, 6))), (2, .inl (nI 0))]) rfl ?_
  refine AW.loop (α := Unit) 2 8 (fun i _ => [(0, .inr (.inr (5, 0, 0))), (1, .inr (.inr (5, 0, 6))), (2, .inl (nI i))]) (fun i _ τ => Fr (Pj 6 i) σ τ ∧ τ 5 0 0 21 = nI (base + i) ∧ ∀ t, t < i → τ 5 0 6 t = σ 5 0 19 (base + t)) ?_ ?_ 8 0 () _ (by omega) ⟨fr_rfl, e21, fun t ht => absurd ht (Nat.not_lt_zero t)⟩
  · intro i _ τ hi hI hk
    obtain ⟨hS1, hB, hC⟩ := hI
    have e20t : τ 5 0 0 20 = 0 := by rw [fr_at hS1 (by unfold Pj; omega)]; exact e20
    have eoi : τ 5 0 19 (nI (base + i)).toNatClampNeg = σ 5 0 19 (base + i) := by rw [nI_clamp (by omega), fr_at hS1 (by unfold Pj; omega)]
    skip
    refine AW.run 6 [false] (12, [(0, .inr (.inr (5, 0, 0))), (1, .inr (.inr (5, 0, 6))), (2, .inl (nI i))], [.inl (τ 5 0 0 20)], τ) [¬ icP .ge (nI i) (Int32.ofNat 8)] rfl ?_ ?_
    · exact allP1 (nle_lit (a := 8) hi (by decide))
    rw [e20t]
    refine AW.run 7 [true] (40, [(0, .inr (.inr (5, 0, 0))), (1, .inr (.inr (5, 0, 6))), (2, .inl (nI i))], [.inl (τ 5 0 0 21), .inr (.inr (5, 0, 19)), .inl (nI i), .inr (.inr (5, 0, 6))], τ) [icP .eq (0 : Int32) 0] rfl ?_ ?_
    · exact allP1 (by decide : ((0 : Int32) = 0))
    rw [hB]
    refine AW.run 1 [] (41, [(0, .inr (.inr (5, 0, 0))), (1, .inr (.inr (5, 0, 6))), (2, .inl (nI i))], [.inl (τ 5 0 19 (nI (base + i)).toNatClampNeg), .inl (nI i), .inr (.inr (5, 0, 6))], τ) [vp_in (nI (base + i)) 572] rfl ?_ ?_
    · exact allP1 (by first | exact in8 (by omega) | exact vp_in_nI (by omega) (by decide))
    rw [eoi]
    refine AW.run 4 [] (47, [(0, .inr (.inr (5, 0, 0))), (1, .inr (.inr (5, 0, 6))), (2, .inl (nI i))], [.inl ((setM τ 5 0 6 (nI i).toNatClampNeg (σ 5 0 19 (base + i))) 5 0 0 21), .inr (.inr (5, 0, 0))], (setM τ 5 0 6 (nI i).toNatClampNeg (σ 5 0 19 (base + i)))) [vp_in (nI i) 8] rfl ?_ ?_
    · exact allP1 (by first | exact in8 (by omega) | exact vp_in_nI (by omega) (by decide))
    rw [show (setM τ 5 0 6 (nI i).toNatClampNeg (σ 5 0 19 (base + i))) 5 0 0 21 = nI (base + i) from by rw [setM_at, if_neg (by omega)]; exact hB]
    refine AW.run 2 [] (49, [(0, .inr (.inr (5, 0, 0))), (1, .inr (.inr (5, 0, 6))), (2, .inl (nI i))], [.inl ((nI (base + i)) + 1), .inr (.inr (5, 0, 0))], (setM τ 5 0 6 (nI i).toNatClampNeg (σ 5 0 19 (base + i)))) [] rfl ?_ ?_
    · exact trivial
    rw [nI_1 (base + i)]
    refine AW.run 3 [] (2, [(2, .inl ((nI i) + 1)), (0, .inr (.inr (5, 0, 0))), (1, .inr (.inr (5, 0, 6)))], [], (setM (setM τ 5 0 6 (nI i).toNatClampNeg (σ 5 0 19 (base + i))) 5 0 0 21 (nI (base + i + 1)))) [] rfl ?_ ?_
    · exact trivial
    rw [nI_1 i, cl8 hi]
    refine AW.pick [1, 2, 0] (ls' := [(0, .inr (.inr (5, 0, 0))), (1, .inr (.inr (5, 0, 6))), (2, .inl (nI (i + 1)))]) rfl ?_
    exact hk () _ ⟨fr_set (fr_set (fr_mono hS1 (fun a b q => by unfold Pj at q ⊢; omega)) (by unfold Pj; omega)) (by unfold Pj; omega), by rw [setM_at, if_pos ⟨rfl, rfl⟩, Nat.add_assoc], fun t ht => by
      rw [setM_at, if_neg (by omega), setM_at]
      by_cases he : t = i
      · rw [if_pos ⟨rfl, he⟩, he]
      · rw [if_neg (by omega)]; exact hC t (by omega)⟩
  · intro _ τ hI
    obtain ⟨hS1, hB, hC⟩ := hI
    refine AW.run 4 [true] (58, [(0, .inr (.inr (5, 0, 0))), (1, .inr (.inr (5, 0, 6))), (2, .inl (nI 8))], [], τ) [icP .ge (nI 8) (Int32.ofNat 8)] rfl ?_ ?_
    · exact allP1 (le_lit (a := 8) (b := 8) (by decide) (by decide))
    refine AW.retv ⟨_, rfl⟩ rfl ?_
    exact ⟨hS1, hB, hC⟩
set_option maxHeartbeats 4000000 in
set_option maxRecDepth 100000 in
theorem c6_passesK7 (base : Nat) (σ : St) (hb : base + 8 ≤ 572) (e20 : σ 5 0 0 20 = 1) (e21 : σ 5 0 0 21 = nI base) : Ct M6_passes 0 [.inr (.inr (5, 0, 0)), .inr (.inr (5, 0, 7))] σ (PV fun σ' => Fr (Pk base 8) σ σ' ∧ σ' 5 0 0 21 = nI (base + 8) ∧ ∀ t, t < 8 → σ' 5 0 19 (base + t) = σ 5 0 7 t) := by
  refine Ct.of f_6_passes (Nat.le_of_ble_eq_true rfl) ?_
  show AW M6_passes 0 _ (0, [(0, .inr (.inr (5, 0, 0))), (1, .inr (.inr (5, 0, 7)))], [], σ)
  refine AW.run 2 [] (2, [(2, .inl 0), (0, .inr (.inr (5, 0, 0))), (1, .inr (.inr (5, 0, 7)))], [], σ) [] rfl ?_ ?_
  · exact trivial
  refine AW.pick [1, 2, 0] (ls' := [(0, .inr (.inr (5, 0, 0))), (1, .inr (.inr (5, 0, 7))), (2, .inl (nI 0))]) rfl ?_
  refine AW.loop (α := Unit) 2 8 (fun i _ => [(0, .inr (.inr (5, 0, 0))), (1, .inr (.inr (5, 0, 7))), (2, .inl (nI i))]) (fun i _ τ => Fr (Pk base i) σ τ ∧ τ 5 0 0 21 = nI (base + i) ∧ ∀ t, t < i → τ 5 0 19 (base + t) = σ 5 0 7 t) ?_ ?_ 8 0 () _ (by omega) ⟨fr_rfl, e21, fun t ht => absurd ht (Nat.not_lt_zero t)⟩
  · intro i _ τ hi hI hk
    obtain ⟨hS1, hB, hC⟩ := hI
    have e20t : τ 5 0 0 20 = 1 := by rw [fr_at hS1 (by unfold Pk; omega)]; exact e20
    have eoi : τ 5 0 7 (nI i).toNatClampNeg = σ 5 0 7 i := by rw [cl8 hi, fr_at hS1 (by unfold Pk; omega)]
    skip
    refine AW.run 6 [false] (12, [(0, .inr (.inr (5, 0, 0))), (1, .inr (.inr (5, 0, 7))), (2, .inl (nI i))], [.inl (τ 5 0 0 20)], τ) [¬ icP .ge (nI i) (Int32.ofNat 8)] rfl ?_ ?_
    · exact allP1 (nle_lit (a := 8) hi (by decide))
    rw [e20t]
    refine AW.run 5 [false] (23, [(0, .inr (.inr (5, 0, 0))), (1, .inr (.inr (5, 0, 7))), (2, .inl (nI i))], [.inl (τ 5 0 0 21), .inr (.inr (5, 0, 19))], τ) [¬ icP .eq (1 : Int32) 0] rfl ?_ ?_
    · exact allP1 (by decide : ¬ ((1 : Int32) = 0))
    rw [hB]
    refine AW.run 3 [] (26, [(0, .inr (.inr (5, 0, 0))), (1, .inr (.inr (5, 0, 7))), (2, .inl (nI i))], [.inl (τ 5 0 7 (nI i).toNatClampNeg), .inl (nI (base + i)), .inr (.inr (5, 0, 19))], τ) [vp_in (nI i) 8] rfl ?_ ?_
    · exact allP1 (by first | exact in8 (by omega) | exact vp_in_nI (by omega) (by decide))
    rw [eoi]
    refine AW.run 5 [] (47, [(0, .inr (.inr (5, 0, 0))), (1, .inr (.inr (5, 0, 7))), (2, .inl (nI i))], [.inl ((setM τ 5 0 19 (nI (base + i)).toNatClampNeg (σ 5 0 7 i)) 5 0 0 21), .inr (.inr (5, 0, 0))], (setM τ 5 0 19 (nI (base + i)).toNatClampNeg (σ 5 0 7 i))) [vp_in (nI (base + i)) 572] rfl ?_ ?_
    · exact allP1 (by first | exact in8 (by omega) | exact vp_in_nI (by omega) (by decide))
    rw [show (setM τ 5 0 19 (nI (base + i)).toNatClampNeg (σ 5 0 7 i)) 5 0 0 21 = nI (base + i) from by rw [setM_at, if_neg (by omega)]; exact hB]
    refine AW.run 2 [] (49, [(0, .inr (.inr (5, 0, 0))), (1, .inr (.inr (5, 0, 7))), (2, .inl (nI i))], [.inl ((nI (base + i)) + 1), .inr (.inr (5, 0, 0))], (setM τ 5 0 19 (nI (base + i)).toNatClampNeg (σ 5 0 7 i))) [] rfl ?_ ?_
    · exact trivial
    rw [nI_1 (base + i)]
    refine AW.run 3 [] (2, [(2, .inl ((nI i) + 1)), (0, .inr (.inr (5, 0, 0))), (1, .inr (.inr (5, 0, 7)))], [], (setM (setM τ 5 0 19 (nI (base + i)).toNatClampNeg (σ 5 0 7 i)) 5 0 0 21 (nI (base + i + 1)))) [] rfl ?_ ?_
    · exact trivial
    rw [nI_1 i, nI_clamp (n := base + i) (by omega)]
    refine AW.pick [1, 2, 0] (ls' := [(0, .inr (.inr (5, 0, 0))), (1, .inr (.inr (5, 0, 7))), (2, .inl (nI (i + 1)))]) rfl ?_
    exact hk () _ ⟨fr_set (fr_set (fr_mono hS1 (fun a b q => by unfold Pk at q ⊢; omega)) (by unfold Pk; omega)) (by unfold Pk; omega), by rw [setM_at, if_pos ⟨rfl, rfl⟩, Nat.add_assoc], fun t ht => by
      rw [setM_at, if_neg (by omega), setM_at]
      by_cases he : t = i
      · rw [if_pos ⟨rfl, by omega⟩, he]
      · rw [if_neg (by omega)]; exact hC t (by omega)⟩
  · intro _ τ hI
    obtain ⟨hS1, hB, hC⟩ := hI
    refine AW.run 4 [true] (58, [(0, .inr (.inr (5, 0, 0))), (1, .inr (.inr (5, 0, 7))), (2, .inl (nI 8))], [], τ) [icP .ge (nI 8) (Int32.ofNat 8)] rfl ?_ ?_
    · exact allP1 (le_lit (a := 8) (b := 8) (by decide) (by decide))
    refine AW.retv ⟨_, rfl⟩ rfl ?_
    exact ⟨hS1, hB, hC⟩
set_option maxHeartbeats 4000000 in
set_option maxRecDepth 100000 in
theorem c6_passesP7 (base : Nat) (σ : St) (hb : base + 8 ≤ 572) (e20 : σ 5 0 0 20 = 0) (e21 : σ 5 0 0 21 = nI base) : Ct M6_passes 0 [.inr (.inr (5, 0, 0)), .inr (.inr (5, 0, 7))] σ (PV fun σ' => Fr (Pj 7 8) σ σ' ∧ σ' 5 0 0 21 = nI (base + 8) ∧ ∀ t, t < 8 → σ' 5 0 7 t = σ 5 0 19 (base + t)) := by
  refine Ct.of f_6_passes (Nat.le_of_ble_eq_true rfl) ?_
  show AW M6_passes 0 _ (0, [(0, .inr (.inr (5, 0, 0))), (1, .inr (.inr (5, 0, 7)))], [], σ)
  refine AW.run 2 [] (2, [(2, .inl 0), (0, .inr (.inr (5, 0, 0))), (1, .inr (.inr (5, 0, 7)))], [], σ) [] rfl ?_ ?_
  · exact trivial
  refine AW.pick [1, 2, 0] (ls' := [(0, .inr (.inr (5, 0, 0))), (1, .inr (.inr (5, 0, 7))), (2, .inl (nI 0))]) rfl ?_
  refine AW.loop (α := Unit) 2 8 (fun i _ => [(0, .inr (.inr (5, 0, 0))), (1, .inr (.inr (5, 0, 7))), (2, .inl (nI i))]) (fun i _ τ => Fr (Pj 7 i) σ τ ∧ τ 5 0 0 21 = nI (base + i) ∧ ∀ t, t < i → τ 5 0 7 t = σ 5 0 19 (base + t)) ?_ ?_ 8 0 () _ (by omega) ⟨fr_rfl, e21, fun t ht => absurd ht (Nat.not_lt_zero t)⟩
  · intro i _ τ hi hI hk
    obtain ⟨hS1, hB, hC⟩ := hI
    have e20t : τ 5 0 0 20 = 0 := by rw [fr_at hS1 (by unfold Pj; omega)]; exact e20
    have eoi : τ 5 0 19 (nI (base + i)).toNatClampNeg = σ 5 0 19 (base + i) := by rw [nI_clamp (by omega), fr_at hS1 (by unfold Pj; omega)]
    skip
    refine AW.run 6 [false] (12, [(0, .inr (.inr (5, 0, 0))), (1, .inr (.inr (5, 0, 7))), (2, .inl (nI i))], [.inl (τ 5 0 0 20)], τ) [¬ icP .ge (nI i) (Int32.ofNat 8)] rfl ?_ ?_
    · exact allP1 (nle_lit (a := 8) hi (by decide))
    rw [e20t]
    refine AW.run 7 [true] (40, [(0, .inr (.inr (5, 0, 0))), (1, .inr (.inr (5, 0, 7))), (2, .inl (nI i))], [.inl (τ 5 0 0 21), .inr (.inr (5, 0, 19)), .inl (nI i), .inr (.inr (5, 0, 7))], τ) [icP .eq (0 : Int32) 0] rfl ?_ ?_
    · exact allP1 (by decide : ((0 : Int32) = 0))
    rw [hB]
    refine AW.run 1 [] (41, [(0, .inr (.inr (5, 0, 0))), (1, .inr (.inr (5, 0, 7))), (2, .inl (nI i))], [.inl (τ 5 0 19 (nI (base + i)).toNatClampNeg), .inl (nI i), .inr (.inr (5, 0, 7))], τ) [vp_in (nI (base + i)) 572] rfl ?_ ?_
    · exact allP1 (by first | exact in8 (by omega) | exact vp_in_nI (by omega) (by decide))
    rw [eoi]
    refine AW.run 4 [] (47, [(0, .inr (.inr (5, 0, 0))), (1, .inr (.inr (5, 0, 7))), (2, .inl (nI i))], [.inl ((setM τ 5 0 7 (nI i).toNatClampNeg (σ 5 0 19 (base + i))) 5 0 0 21), .inr (.inr (5, 0, 0))], (setM τ 5 0 7 (nI i).toNatClampNeg (σ 5 0 19 (base + i)))) [vp_in (nI i) 8] rfl ?_ ?_
    · exact allP1 (by first | exact in8 (by omega) | exact vp_in_nI (by omega) (by decide))
    rw [show (setM τ 5 0 7 (nI i).toNatClampNeg (σ 5 0 19 (base + i))) 5 0 0 21 = nI (base + i) from by rw [setM_at, if_neg (by omega)]; exact hB]
    refine AW.run 2 [] (49, [(0, .inr (.inr (5, 0, 0))), (1, .inr (.inr (5, 0, 7))), (2, .inl (nI i))], [.inl ((nI (base + i)) + 1), .inr (.inr (5, 0, 0))], (setM τ 5 0 7 (nI i).toNatClampNeg (σ 5 0 19 (base + i)))) [] rfl ?_ ?_
    · exact trivial
    rw [nI_1 (base + i)]
    refine AW.run 3 [] (2, [(2, .inl ((nI i) + 1)), (0, .inr (.inr (5, 0, 0))), (1, .inr (.inr (5, 0, 7)))], [], (setM (setM τ 5 0 7 (nI i).toNatClampNeg (σ 5 0 19 (base + i))) 5 0 0 21 (nI (base + i + 1)))) [] rfl ?_ ?_
    · exact trivial
    rw [nI_1 i, cl8 hi]
    refine AW.pick [1, 2, 0] (ls' := [(0, .inr (.inr (5, 0, 0))), (1, .inr (.inr (5, 0, 7))), (2, .inl (nI (i + 1)))]) rfl ?_
    exact hk () _ ⟨fr_set (fr_set (fr_mono hS1 (fun a b q => by unfold Pj at q ⊢; omega)) (by unfold Pj; omega)) (by unfold Pj; omega), by rw [setM_at, if_pos ⟨rfl, rfl⟩, Nat.add_assoc], fun t ht => by
      rw [setM_at, if_neg (by omega), setM_at]
      by_cases he : t = i
      · rw [if_pos ⟨rfl, he⟩, he]
      · rw [if_neg (by omega)]; exact hC t (by omega)⟩
  · intro _ τ hI
    obtain ⟨hS1, hB, hC⟩ := hI
    refine AW.run 4 [true] (58, [(0, .inr (.inr (5, 0, 0))), (1, .inr (.inr (5, 0, 7))), (2, .inl (nI 8))], [], τ) [icP .ge (nI 8) (Int32.ofNat 8)] rfl ?_ ?_
    · exact allP1 (le_lit (a := 8) (b := 8) (by decide) (by decide))
    refine AW.retv ⟨_, rfl⟩ rfl ?_
    exact ⟨hS1, hB, hC⟩
set_option maxHeartbeats 4000000 in
set_option maxRecDepth 100000 in
theorem c6_passOneK (base : Nat) (v : Int32) (σ : St) (hb : base < 572) (e20 : σ 5 0 0 20 = 1) (e21 : σ 5 0 0 21 = nI base) : Ct M6_passOne 0 [.inr (.inr (5, 0, 0)), .inl v] σ (PI fun r9 σ' => v = r9 ∧ Fr (Pk base 1) σ σ' ∧ σ' 5 0 0 21 = nI (base + 1) ∧ σ' 5 0 19 base = v) := by
  refine Ct.of f_6_passOne (Nat.le_of_ble_eq_true rfl) ?_
  show AW M6_passOne 0 _ (0, [(0, .inr (.inr (5, 0, 0))), (1, .inl v)], [], σ)
  refine AW.run 2 [] (4, [(0, .inr (.inr (5, 0, 0))), (1, .inl v)], [.inl (σ 5 0 0 20)], σ) [] rfl ?_ ?_
  · exact trivial
  rw [e20]
  refine AW.run 3 [false] (20, [(0, .inr (.inr (5, 0, 0))), (1, .inl v)], [.inl v], σ) [¬ icP .eq (1 : Int32) 0] rfl ?_ ?_
  · exact allP1 (by decide : ¬ ((1 : Int32) = 0))
  refine AW.run 3 [] (25, [(2, .inl v), (0, .inr (.inr (5, 0, 0))), (1, .inl v)], [.inl (σ 5 0 0 20)], σ) [] rfl ?_ ?_
  · exact trivial
  rw [e20]
  refine AW.run 5 [false] (36, [(2, .inl v), (0, .inr (.inr (5, 0, 0))), (1, .inl v)], [.inl (σ 5 0 0 21), .inr (.inr (5, 0, 19))], σ) [¬ icP .eq (1 : Int32) 0] rfl ?_ ?_
  · exact allP1 (by decide : ¬ ((1 : Int32) = 0))
  rw [e21]
  refine AW.run 5 [] (43, [(2, .inl v), (0, .inr (.inr (5, 0, 0))), (1, .inl v)], [.inl ((setM σ 5 0 19 (nI base).toNatClampNeg v) 5 0 0 21), .inr (.inr (5, 0, 0))], (setM σ 5 0 19 (nI base).toNatClampNeg v)) [vp_in (nI base) 572] rfl ?_ ?_
  · exact allP1 (by first | exact in8 (by omega) | exact vp_in_nI (by omega) (by decide))
  rw [show (setM σ 5 0 19 (nI base).toNatClampNeg v) 5 0 0 21 = nI base from by first | exact e21 | (rw [setM_at, if_neg (by omega)]; exact e21)]
  refine AW.run 2 [] (45, [(2, .inl v), (0, .inr (.inr (5, 0, 0))), (1, .inl v)], [.inl ((nI base) + 1), .inr (.inr (5, 0, 0))], (setM σ 5 0 19 (nI base).toNatClampNeg v)) [] rfl ?_ ?_
  · exact trivial
  rw [nI_1 base]
  refine AW.run 2 [] (49, [(2, .inl v), (0, .inr (.inr (5, 0, 0))), (1, .inl v)], [.inl v], (setM (setM σ 5 0 19 (nI base).toNatClampNeg v) 5 0 0 21 (nI (base + 1)))) [] rfl ?_ ?_
  · exact trivial
  refine AW.reti ⟨_, rfl⟩ rfl ?_
  rw [nI_clamp (n := base) (by omega)]
  exact ⟨rfl, fr_set (fr_set fr_rfl (by unfold Pk; omega)) (by unfold Pk; omega), by rw [setM_at, if_pos ⟨rfl, rfl⟩], by rw [setM_at, if_neg (by omega), setM_at, if_pos ⟨rfl, rfl⟩]⟩
set_option maxHeartbeats 4000000 in
set_option maxRecDepth 100000 in
theorem c6_passOneP (base : Nat) (v : Int32) (σ : St) (hb : base < 572) (e20 : σ 5 0 0 20 = 0) (e21 : σ 5 0 0 21 = nI base) : Ct M6_passOne 0 [.inr (.inr (5, 0, 0)), .inl v] σ (PI fun r9 σ' => σ 5 0 19 base = r9 ∧ Fr (Pk base 0) σ σ' ∧ σ' 5 0 0 21 = nI (base + 1)) := by
  refine Ct.of f_6_passOne (Nat.le_of_ble_eq_true rfl) ?_
  show AW M6_passOne 0 _ (0, [(0, .inr (.inr (5, 0, 0))), (1, .inl v)], [], σ)
  refine AW.run 2 [] (4, [(0, .inr (.inr (5, 0, 0))), (1, .inl v)], [.inl (σ 5 0 0 20)], σ) [] rfl ?_ ?_
  · exact trivial
  rw [e20]
  refine AW.run 5 [true] (19, [(0, .inr (.inr (5, 0, 0))), (1, .inl v)], [.inl (σ 5 0 0 21), .inr (.inr (5, 0, 19))], σ) [icP .eq (0 : Int32) 0] rfl ?_ ?_
  · exact allP1 (by decide : ((0 : Int32) = 0))
  rw [e21]
  refine AW.run 1 [] (20, [(0, .inr (.inr (5, 0, 0))), (1, .inl v)], [.inl (σ 5 0 19 (nI base).toNatClampNeg)], σ) [vp_in (nI base) 572] rfl ?_ ?_
  · exact allP1 (by first | exact in8 (by omega) | exact vp_in_nI (by omega) (by decide))
  rw [nI_clamp (n := base) (by omega)]
  refine AW.run 3 [] (25, [(2, .inl (σ 5 0 19 base)), (0, .inr (.inr (5, 0, 0))), (1, .inl v)], [.inl (σ 5 0 0 20)], σ) [] rfl ?_ ?_
  · exact trivial
  rw [e20]
  refine AW.run 4 [true] (43, [(2, .inl (σ 5 0 19 base)), (0, .inr (.inr (5, 0, 0))), (1, .inl v)], [.inl (σ 5 0 0 21), .inr (.inr (5, 0, 0))], σ) [icP .eq (0 : Int32) 0] rfl ?_ ?_
  · exact allP1 (by decide : ((0 : Int32) = 0))
  rw [show σ 5 0 0 21 = nI base from by first | exact e21 | (rw [setM_at, if_neg (by omega)]; exact e21)]
  refine AW.run 2 [] (45, [(2, .inl (σ 5 0 19 base)), (0, .inr (.inr (5, 0, 0))), (1, .inl v)], [.inl ((nI base) + 1), .inr (.inr (5, 0, 0))], σ) [] rfl ?_ ?_
  · exact trivial
  rw [nI_1 base]
  refine AW.run 2 [] (49, [(2, .inl (σ 5 0 19 base)), (0, .inr (.inr (5, 0, 0))), (1, .inl v)], [.inl (σ 5 0 19 base)], (setM σ 5 0 0 21 (nI (base + 1)))) [] rfl ?_ ?_
  · exact trivial
  refine AW.reti ⟨_, rfl⟩ rfl ?_
  exact ⟨rfl, fr_set fr_rfl (by unfold Pk; omega), by rw [setM_at, if_pos ⟨rfl, rfl⟩]⟩
def Pw (w j k : Nat) : Prop := (j = 0 ∧ (k = 20 ∨ k = 21 ∨ (7 ≤ k ∧ k ≤ 10))) ∨ (j = 19 ∧ 52 * w ≤ k ∧ k < 52 * w + 52)
def Pp (j k : Nat) : Prop := (j = 0 ∧ (k = 20 ∨ k = 21 ∨ (7 ≤ k ∧ k ≤ 10))) ∨ (2 ≤ j ∧ j ≤ 7)
set_option maxHeartbeats 4000000 in
set_option maxRecDepth 100000 in
theorem c6_passesAllK (w : Nat) (hw : w ≤ 10) (S : Sv) (σ : St) (hR : RepM (σ 5 0) S) (hn8 : Sn S ≤ 8) : Ct M6_passesAll 1 [.inr (.inr (5, 0, 0)), .inl (nI w), .inl 1] σ (PV fun σ' => Fr (Pw w) σ σ' ∧ RepM (σ' 5 0) S ∧ RepK (σ' 5 0) w S) := by
  refine Ct.of f_6_passesAll (Nat.le_of_ble_eq_true rfl) ?_
  show AW M6_passesAll 1 _ (0, [(0, .inr (.inr (5, 0, 0))), (1, .inl (nI w)), (2, .inl 1)], [], σ)
  refine AW.run 4 [] (5, [(0, .inr (.inr (5, 0, 0))), (1, .inl (nI w)), (2, .inl 1)], [.inl (52 * (nI w)), .inr (.inr (5, 0, 0))], σ) [] rfl ?_ ?_
  · exact trivial
  rw [show (52 : Int32) * nI w = nI (52 * w) from (Int32.ofNat_mul 52 w).symm]
  refine AW.run 7 [] (18, [(0, .inr (.inr (5, 0, 0))), (1, .inl (nI w)), (2, .inl 1)], [.inr (.inr (5, 0, 2)), .inr (.inr (5, 0, 0))], (setM (setM σ 5 0 0 21 (nI (52 * w))) 5 0 0 20 1)) [(1 : Int32) = 0 ∨ (1 : Int32) = 1] rfl ?_ ?_
  · exact allP1 (by decide)
  refine AW.callVV (d' := 0) [.inr (.inr (5, 0, 2))] [] ⟨_, rfl⟩ f_6_passes v_6_passes l_6_151 ⟨rfl, by decide⟩ rfl (Nat.le_of_ble_eq_true rfl) rfl (Nat.le_of_ble_eq_true rfl) (c6_passesK2 (52 * w + 0) (setM (setM σ 5 0 0 21 (nI (52 * w))) 5 0 0 20 1) (by omega) (by rw [setM_at, if_pos ⟨rfl, rfl⟩]) (by rw [setM_at, if_neg (by omega), setM_at, if_pos ⟨rfl, rfl⟩]; rfl)) ?_
  rintro τ0 ⟨a0, b0, d0⟩
  refine AW.run 3 [] (26, [(0, .inr (.inr (5, 0, 0))), (1, .inl (nI w)), (2, .inl 1)], [.inr (.inr (5, 0, 3)), .inr (.inr (5, 0, 0))], τ0) [] rfl ?_ ?_
  · exact trivial
  refine AW.callVV (d' := 0) [.inr (.inr (5, 0, 3))] [] ⟨_, rfl⟩ f_6_passes v_6_passes l_6_151 ⟨rfl, by decide⟩ rfl (Nat.le_of_ble_eq_true rfl) rfl (Nat.le_of_ble_eq_true rfl) (c6_passesK3 (52 * w + 8) τ0 (by omega) (by rw [fr_at a0 (by unfold Pk; omega), setM_at, if_pos ⟨rfl, rfl⟩]) b0) ?_
  rintro τ1 ⟨a1, b1, d1⟩
  refine AW.run 3 [] (34, [(0, .inr (.inr (5, 0, 0))), (1, .inl (nI w)), (2, .inl 1)], [.inr (.inr (5, 0, 4)), .inr (.inr (5, 0, 0))], τ1) [] rfl ?_ ?_
  · exact trivial
  refine AW.callVV (d' := 0) [.inr (.inr (5, 0, 4))] [] ⟨_, rfl⟩ f_6_passes v_6_passes l_6_151 ⟨rfl, by decide⟩ rfl (Nat.le_of_ble_eq_true rfl) rfl (Nat.le_of_ble_eq_true rfl) (c6_passesK4 (52 * w + 16) τ1 (by omega) (by rw [fr_at a1 (by unfold Pk; omega), fr_at a0 (by unfold Pk; omega), setM_at, if_pos ⟨rfl, rfl⟩]) b1) ?_
  rintro τ2 ⟨a2, b2, d2⟩
  refine AW.run 3 [] (42, [(0, .inr (.inr (5, 0, 0))), (1, .inl (nI w)), (2, .inl 1)], [.inr (.inr (5, 0, 5)), .inr (.inr (5, 0, 0))], τ2) [] rfl ?_ ?_
  · exact trivial
  refine AW.callVV (d' := 0) [.inr (.inr (5, 0, 5))] [] ⟨_, rfl⟩ f_6_passes v_6_passes l_6_151 ⟨rfl, by decide⟩ rfl (Nat.le_of_ble_eq_true rfl) rfl (Nat.le_of_ble_eq_true rfl) (c6_passesK5 (52 * w + 24) τ2 (by omega) (by rw [fr_at a2 (by unfold Pk; omega), fr_at a1 (by unfold Pk; omega), fr_at a0 (by unfold Pk; omega), setM_at, if_pos ⟨rfl, rfl⟩]) b2) ?_
  rintro τ3 ⟨a3, b3, d3⟩
  refine AW.run 3 [] (50, [(0, .inr (.inr (5, 0, 0))), (1, .inl (nI w)), (2, .inl 1)], [.inr (.inr (5, 0, 6)), .inr (.inr (5, 0, 0))], τ3) [] rfl ?_ ?_
  · exact trivial
  refine AW.callVV (d' := 0) [.inr (.inr (5, 0, 6))] [] ⟨_, rfl⟩ f_6_passes v_6_passes l_6_151 ⟨rfl, by decide⟩ rfl (Nat.le_of_ble_eq_true rfl) rfl (Nat.le_of_ble_eq_true rfl) (c6_passesK6 (52 * w + 32) τ3 (by omega) (by rw [fr_at a3 (by unfold Pk; omega), fr_at a2 (by unfold Pk; omega), fr_at a1 (by unfold Pk; omega), fr_at a0 (by unfold Pk; omega), setM_at, if_pos ⟨rfl, rfl⟩]) b3) ?_
  rintro τ4 ⟨a4, b4, d4⟩
  refine AW.run 3 [] (58, [(0, .inr (.inr (5, 0, 0))), (1, .inl (nI w)), (2, .inl 1)], [.inr (.inr (5, 0, 7)), .inr (.inr (5, 0, 0))], τ4) [] rfl ?_ ?_
  · exact trivial
  refine AW.callVV (d' := 0) [.inr (.inr (5, 0, 7))] [] ⟨_, rfl⟩ f_6_passes v_6_passes l_6_151 ⟨rfl, by decide⟩ rfl (Nat.le_of_ble_eq_true rfl) rfl (Nat.le_of_ble_eq_true rfl) (c6_passesK7 (52 * w + 40) τ4 (by omega) (by rw [fr_at a4 (by unfold Pk; omega), fr_at a3 (by unfold Pk; omega), fr_at a2 (by unfold Pk; omega), fr_at a1 (by unfold Pk; omega), fr_at a0 (by unfold Pk; omega), setM_at, if_pos ⟨rfl, rfl⟩]) b4) ?_
  rintro τ5 ⟨a5, b5, d5⟩
  refine AW.run 4 [] (67, [(0, .inr (.inr (5, 0, 0))), (1, .inl (nI w)), (2, .inl 1)], [.inl (τ5 5 0 0 7), .inr (.inr (5, 0, 0)), .inr (.inr (5, 0, 0))], τ5) [] rfl ?_ ?_
  · exact trivial
  rw [show τ5 5 0 0 7 = nI (Sn S) from by rw [fr_at a5 (by unfold Pk; omega), fr_at a4 (by unfold Pk; omega), fr_at a3 (by unfold Pk; omega), fr_at a2 (by unfold Pk; omega), fr_at a1 (by unfold Pk; omega), fr_at a0 (by unfold Pk; omega), setM_at, if_neg (by omega), setM_at, if_neg (by omega)]; exact hR.1.1]
  refine AW.callVI (d' := 0) [.inl (nI (Sn S))] [.inr (.inr (5, 0, 0))] ⟨_, rfl⟩ f_6_passOne v_6_passOne l_6_155 ⟨rfl, by decide⟩ rfl (Nat.le_of_ble_eq_true rfl) rfl (Nat.le_of_ble_eq_true rfl) (c6_passOneK (52 * w + 48) (nI (Sn S)) τ5 (by omega) (by rw [fr_at a5 (by unfold Pk; omega), fr_at a4 (by unfold Pk; omega), fr_at a3 (by unfold Pk; omega), fr_at a2 (by unfold Pk; omega), fr_at a1 (by unfold Pk; omega), fr_at a0 (by unfold Pk; omega), setM_at, if_pos ⟨rfl, rfl⟩]) b5) ?_
  rintro _ o0 ⟨rfl, p0a, p0b, p0c⟩
  refine AW.run 5 [] (79, [(0, .inr (.inr (5, 0, 0))), (1, .inl (nI w)), (2, .inl 1)], [.inl ((setM o0 5 0 0 7 (nI (Sn S))) 5 0 0 8), .inr (.inr (5, 0, 0)), .inr (.inr (5, 0, 0))], (setM o0 5 0 0 7 (nI (Sn S)))) [] rfl ?_ ?_
  · exact trivial
  rw [show (setM o0 5 0 0 7 (nI (Sn S))) 5 0 0 8 = nI (Su S) from by rw [setM_at, if_neg (by omega), fr_at p0a (by unfold Pk; omega), fr_at a5 (by unfold Pk; omega), fr_at a4 (by unfold Pk; omega), fr_at a3 (by unfold Pk; omega), fr_at a2 (by unfold Pk; omega), fr_at a1 (by unfold Pk; omega), fr_at a0 (by unfold Pk; omega), setM_at, if_neg (by omega), setM_at, if_neg (by omega)]; exact hR.1.2.1]
  refine AW.callVI (d' := 0) [.inl (nI (Su S))] [.inr (.inr (5, 0, 0))] ⟨_, rfl⟩ f_6_passOne v_6_passOne l_6_155 ⟨rfl, by decide⟩ rfl (Nat.le_of_ble_eq_true rfl) rfl (Nat.le_of_ble_eq_true rfl) (c6_passOneK (52 * w + 49) (nI (Su S)) (setM o0 5 0 0 7 (nI (Sn S))) (by omega) (by rw [setM_at, if_neg (by omega), fr_at p0a (by unfold Pk; omega), fr_at a5 (by unfold Pk; omega), fr_at a4 (by unfold Pk; omega), fr_at a3 (by unfold Pk; omega), fr_at a2 (by unfold Pk; omega), fr_at a1 (by unfold Pk; omega), fr_at a0 (by unfold Pk; omega), setM_at, if_pos ⟨rfl, rfl⟩]) (by rw [setM_at, if_neg (by omega)]; exact p0b)) ?_
  rintro _ o1 ⟨rfl, p1a, p1b, p1c⟩
  refine AW.run 5 [] (91, [(0, .inr (.inr (5, 0, 0))), (1, .inl (nI w)), (2, .inl 1)], [.inl ((setM o1 5 0 0 8 (nI (Su S))) 5 0 0 9), .inr (.inr (5, 0, 0)), .inr (.inr (5, 0, 0))], (setM o1 5 0 0 8 (nI (Su S)))) [] rfl ?_ ?_
  · exact trivial
  rw [show (setM o1 5 0 0 8 (nI (Su S))) 5 0 0 9 = nI (She S) from by rw [setM_at, if_neg (by omega), fr_at p1a (by unfold Pk; omega), setM_at, if_neg (by omega), fr_at p0a (by unfold Pk; omega), fr_at a5 (by unfold Pk; omega), fr_at a4 (by unfold Pk; omega), fr_at a3 (by unfold Pk; omega), fr_at a2 (by unfold Pk; omega), fr_at a1 (by unfold Pk; omega), fr_at a0 (by unfold Pk; omega), setM_at, if_neg (by omega), setM_at, if_neg (by omega)]; exact hR.1.2.2.1]
  refine AW.callVI (d' := 0) [.inl (nI (She S))] [.inr (.inr (5, 0, 0))] ⟨_, rfl⟩ f_6_passOne v_6_passOne l_6_155 ⟨rfl, by decide⟩ rfl (Nat.le_of_ble_eq_true rfl) rfl (Nat.le_of_ble_eq_true rfl) (c6_passOneK (52 * w + 50) (nI (She S)) (setM o1 5 0 0 8 (nI (Su S))) (by omega) (by rw [setM_at, if_neg (by omega), fr_at p1a (by unfold Pk; omega), setM_at, if_neg (by omega), fr_at p0a (by unfold Pk; omega), fr_at a5 (by unfold Pk; omega), fr_at a4 (by unfold Pk; omega), fr_at a3 (by unfold Pk; omega), fr_at a2 (by unfold Pk; omega), fr_at a1 (by unfold Pk; omega), fr_at a0 (by unfold Pk; omega), setM_at, if_pos ⟨rfl, rfl⟩]) (by rw [setM_at, if_neg (by omega)]; exact p1b)) ?_
  rintro _ o2 ⟨rfl, p2a, p2b, p2c⟩
  refine AW.run 5 [] (103, [(0, .inr (.inr (5, 0, 0))), (1, .inl (nI w)), (2, .inl 1)], [.inl ((setM o2 5 0 0 9 (nI (She S))) 5 0 0 10), .inr (.inr (5, 0, 0)), .inr (.inr (5, 0, 0))], (setM o2 5 0 0 9 (nI (She S)))) [] rfl ?_ ?_
  · exact trivial
  rw [show (setM o2 5 0 0 9 (nI (She S))) 5 0 0 10 = nI (Sd S) from by rw [setM_at, if_neg (by omega), fr_at p2a (by unfold Pk; omega), setM_at, if_neg (by omega), fr_at p1a (by unfold Pk; omega), setM_at, if_neg (by omega), fr_at p0a (by unfold Pk; omega), fr_at a5 (by unfold Pk; omega), fr_at a4 (by unfold Pk; omega), fr_at a3 (by unfold Pk; omega), fr_at a2 (by unfold Pk; omega), fr_at a1 (by unfold Pk; omega), fr_at a0 (by unfold Pk; omega), setM_at, if_neg (by omega), setM_at, if_neg (by omega)]; exact hR.1.2.2.2]
  refine AW.callVI (d' := 0) [.inl (nI (Sd S))] [.inr (.inr (5, 0, 0))] ⟨_, rfl⟩ f_6_passOne v_6_passOne l_6_155 ⟨rfl, by decide⟩ rfl (Nat.le_of_ble_eq_true rfl) rfl (Nat.le_of_ble_eq_true rfl) (c6_passOneK (52 * w + 51) (nI (Sd S)) (setM o2 5 0 0 9 (nI (She S))) (by omega) (by rw [setM_at, if_neg (by omega), fr_at p2a (by unfold Pk; omega), setM_at, if_neg (by omega), fr_at p1a (by unfold Pk; omega), setM_at, if_neg (by omega), fr_at p0a (by unfold Pk; omega), fr_at a5 (by unfold Pk; omega), fr_at a4 (by unfold Pk; omega), fr_at a3 (by unfold Pk; omega), fr_at a2 (by unfold Pk; omega), fr_at a1 (by unfold Pk; omega), fr_at a0 (by unfold Pk; omega), setM_at, if_pos ⟨rfl, rfl⟩]) (by rw [setM_at, if_neg (by omega)]; exact p2b)) ?_
  rintro _ o3 ⟨rfl, p3a, p3b, p3c⟩
  refine AW.run 1 [] (109, [(0, .inr (.inr (5, 0, 0))), (1, .inl (nI w)), (2, .inl 1)], [], (setM o3 5 0 0 10 (nI (Sd S)))) [] rfl ?_ ?_
  · exact trivial
  refine AW.retv ⟨_, rfl⟩ rfl ?_
  have hfr : Fr (Pw w) σ (setM o3 5 0 0 10 (nI (Sd S))) := (fr_set (fr_trans (fr_set (fr_trans (fr_set (fr_trans (fr_set (fr_trans (fr_trans (fr_trans (fr_trans (fr_trans (fr_trans (fr_trans (fr_set (fr_set fr_rfl (by unfold Pw; omega)) (by unfold Pw; omega)) (fr_mono a0 (fun a b q => by unfold Pk at q; unfold Pw; omega))) (fr_mono a1 (fun a b q => by unfold Pk at q; unfold Pw; omega))) (fr_mono a2 (fun a b q => by unfold Pk at q; unfold Pw; omega))) (fr_mono a3 (fun a b q => by unfold Pk at q; unfold Pw; omega))) (fr_mono a4 (fun a b q => by unfold Pk at q; unfold Pw; omega))) (fr_mono a5 (fun a b q => by unfold Pk at q; unfold Pw; omega))) (fr_mono p0a (fun a b q => by unfold Pk at q; unfold Pw; omega))) (by unfold Pw; omega)) (fr_mono p1a (fun a b q => by unfold Pk at q; unfold Pw; omega))) (by unfold Pw; omega)) (fr_mono p2a (fun a b q => by unfold Pk at q; unfold Pw; omega))) (by unfold Pw; omega)) (fr_mono p3a (fun a b q => by unfold Pk at q; unfold Pw; omega))) (by unfold Pw; omega))
  refine ⟨hfr, ⟨⟨by rw [setM_at, if_neg (by omega), fr_at p3a (by unfold Pk; omega), setM_at, if_neg (by omega), fr_at p2a (by unfold Pk; omega), setM_at, if_neg (by omega), fr_at p1a (by unfold Pk; omega), setM_at, if_pos ⟨rfl, rfl⟩], by rw [setM_at, if_neg (by omega), fr_at p3a (by unfold Pk; omega), setM_at, if_neg (by omega), fr_at p2a (by unfold Pk; omega), setM_at, if_pos ⟨rfl, rfl⟩], by rw [setM_at, if_neg (by omega), fr_at p3a (by unfold Pk; omega), setM_at, if_pos ⟨rfl, rfl⟩], by rw [setM_at, if_pos ⟨rfl, rfl⟩]⟩, fun i hi => ?_⟩, ⟨⟨by rw [setM_at, if_neg (by omega), fr_at p3a (by unfold Pk; omega), setM_at, if_neg (by omega), fr_at p2a (by unfold Pk; omega), setM_at, if_neg (by omega), fr_at p1a (by unfold Pk; omega), setM_at, if_neg (by omega)]; exact p0c, by rw [setM_at, if_neg (by omega), fr_at p3a (by unfold Pk; omega), setM_at, if_neg (by omega), fr_at p2a (by unfold Pk; omega), setM_at, if_neg (by omega)]; exact p1c, by rw [setM_at, if_neg (by omega), fr_at p3a (by unfold Pk; omega), setM_at, if_neg (by omega)]; exact p2c, by rw [setM_at, if_neg (by omega)]; exact p3c⟩, fun i hi => ?_⟩⟩
  · obtain ⟨h1, h2, h3, h4, h5, h6⟩ := hR.2 i hi
    exact ⟨by rw [setM_at, if_neg (by omega), fr_at p3a (by unfold Pk; omega), setM_at, if_neg (by omega), fr_at p2a (by unfold Pk; omega), setM_at, if_neg (by omega), fr_at p1a (by unfold Pk; omega), setM_at, if_neg (by omega), fr_at p0a (by unfold Pk; omega), fr_at a5 (by unfold Pk; omega), fr_at a4 (by unfold Pk; omega), fr_at a3 (by unfold Pk; omega), fr_at a2 (by unfold Pk; omega), fr_at a1 (by unfold Pk; omega), fr_at a0 (by unfold Pk; omega), setM_at, if_neg (by omega), setM_at, if_neg (by omega)]; exact h1, by rw [setM_at, if_neg (by omega), fr_at p3a (by unfold Pk; omega), setM_at, if_neg (by omega), fr_at p2a (by unfold Pk; omega), setM_at, if_neg (by omega), fr_at p1a (by unfold Pk; omega), setM_at, if_neg (by omega), fr_at p0a (by unfold Pk; omega), fr_at a5 (by unfold Pk; omega), fr_at a4 (by unfold Pk; omega), fr_at a3 (by unfold Pk; omega), fr_at a2 (by unfold Pk; omega), fr_at a1 (by unfold Pk; omega), fr_at a0 (by unfold Pk; omega), setM_at, if_neg (by omega), setM_at, if_neg (by omega)]; exact h2, by rw [setM_at, if_neg (by omega), fr_at p3a (by unfold Pk; omega), setM_at, if_neg (by omega), fr_at p2a (by unfold Pk; omega), setM_at, if_neg (by omega), fr_at p1a (by unfold Pk; omega), setM_at, if_neg (by omega), fr_at p0a (by unfold Pk; omega), fr_at a5 (by unfold Pk; omega), fr_at a4 (by unfold Pk; omega), fr_at a3 (by unfold Pk; omega), fr_at a2 (by unfold Pk; omega), fr_at a1 (by unfold Pk; omega), fr_at a0 (by unfold Pk; omega), setM_at, if_neg (by omega), setM_at, if_neg (by omega)]; exact h3, by rw [setM_at, if_neg (by omega), fr_at p3a (by unfold Pk; omega), setM_at, if_neg (by omega), fr_at p2a (by unfold Pk; omega), setM_at, if_neg (by omega), fr_at p1a (by unfold Pk; omega), setM_at, if_neg (by omega), fr_at p0a (by unfold Pk; omega), fr_at a5 (by unfold Pk; omega), fr_at a4 (by unfold Pk; omega), fr_at a3 (by unfold Pk; omega), fr_at a2 (by unfold Pk; omega), fr_at a1 (by unfold Pk; omega), fr_at a0 (by unfold Pk; omega), setM_at, if_neg (by omega), setM_at, if_neg (by omega)]; exact h4, by rw [setM_at, if_neg (by omega), fr_at p3a (by unfold Pk; omega), setM_at, if_neg (by omega), fr_at p2a (by unfold Pk; omega), setM_at, if_neg (by omega), fr_at p1a (by unfold Pk; omega), setM_at, if_neg (by omega), fr_at p0a (by unfold Pk; omega), fr_at a5 (by unfold Pk; omega), fr_at a4 (by unfold Pk; omega), fr_at a3 (by unfold Pk; omega), fr_at a2 (by unfold Pk; omega), fr_at a1 (by unfold Pk; omega), fr_at a0 (by unfold Pk; omega), setM_at, if_neg (by omega), setM_at, if_neg (by omega)]; exact h5, by rw [setM_at, if_neg (by omega), fr_at p3a (by unfold Pk; omega), setM_at, if_neg (by omega), fr_at p2a (by unfold Pk; omega), setM_at, if_neg (by omega), fr_at p1a (by unfold Pk; omega), setM_at, if_neg (by omega), fr_at p0a (by unfold Pk; omega), fr_at a5 (by unfold Pk; omega), fr_at a4 (by unfold Pk; omega), fr_at a3 (by unfold Pk; omega), fr_at a2 (by unfold Pk; omega), fr_at a1 (by unfold Pk; omega), fr_at a0 (by unfold Pk; omega), setM_at, if_neg (by omega), setM_at, if_neg (by omega)]; exact h6⟩
  · obtain ⟨h1, h2, h3, h4, h5, h6⟩ := hR.2 i hi
    exact ⟨by rw [setM_at, if_neg (by omega), fr_at p3a (by unfold Pk; omega), setM_at, if_neg (by omega), fr_at p2a (by unfold Pk; omega), setM_at, if_neg (by omega), fr_at p1a (by unfold Pk; omega), setM_at, if_neg (by omega), fr_at p0a (by unfold Pk; omega), fr_at a5 (by unfold Pk; omega), fr_at a4 (by unfold Pk; omega), fr_at a3 (by unfold Pk; omega), fr_at a2 (by unfold Pk; omega), fr_at a1 (by unfold Pk; omega), d0 i (by omega), setM_at, if_neg (by omega), setM_at, if_neg (by omega)]; exact h1, by rw [setM_at, if_neg (by omega), fr_at p3a (by unfold Pk; omega), setM_at, if_neg (by omega), fr_at p2a (by unfold Pk; omega), setM_at, if_neg (by omega), fr_at p1a (by unfold Pk; omega), setM_at, if_neg (by omega), fr_at p0a (by unfold Pk; omega), fr_at a5 (by unfold Pk; omega), fr_at a4 (by unfold Pk; omega), fr_at a3 (by unfold Pk; omega), fr_at a2 (by unfold Pk; omega), d1 i (by omega), fr_at a0 (by unfold Pk; omega), setM_at, if_neg (by omega), setM_at, if_neg (by omega)]; exact h2, by rw [setM_at, if_neg (by omega), fr_at p3a (by unfold Pk; omega), setM_at, if_neg (by omega), fr_at p2a (by unfold Pk; omega), setM_at, if_neg (by omega), fr_at p1a (by unfold Pk; omega), setM_at, if_neg (by omega), fr_at p0a (by unfold Pk; omega), fr_at a5 (by unfold Pk; omega), fr_at a4 (by unfold Pk; omega), fr_at a3 (by unfold Pk; omega), d2 i (by omega), fr_at a1 (by unfold Pk; omega), fr_at a0 (by unfold Pk; omega), setM_at, if_neg (by omega), setM_at, if_neg (by omega)]; exact h3, by rw [setM_at, if_neg (by omega), fr_at p3a (by unfold Pk; omega), setM_at, if_neg (by omega), fr_at p2a (by unfold Pk; omega), setM_at, if_neg (by omega), fr_at p1a (by unfold Pk; omega), setM_at, if_neg (by omega), fr_at p0a (by unfold Pk; omega), fr_at a5 (by unfold Pk; omega), fr_at a4 (by unfold Pk; omega), d3 i (by omega), fr_at a2 (by unfold Pk; omega), fr_at a1 (by unfold Pk; omega), fr_at a0 (by unfold Pk; omega), setM_at, if_neg (by omega), setM_at, if_neg (by omega)]; exact h4, by rw [setM_at, if_neg (by omega), fr_at p3a (by unfold Pk; omega), setM_at, if_neg (by omega), fr_at p2a (by unfold Pk; omega), setM_at, if_neg (by omega), fr_at p1a (by unfold Pk; omega), setM_at, if_neg (by omega), fr_at p0a (by unfold Pk; omega), fr_at a5 (by unfold Pk; omega), d4 i (by omega), fr_at a3 (by unfold Pk; omega), fr_at a2 (by unfold Pk; omega), fr_at a1 (by unfold Pk; omega), fr_at a0 (by unfold Pk; omega), setM_at, if_neg (by omega), setM_at, if_neg (by omega)]; exact h5, by rw [setM_at, if_neg (by omega), fr_at p3a (by unfold Pk; omega), setM_at, if_neg (by omega), fr_at p2a (by unfold Pk; omega), setM_at, if_neg (by omega), fr_at p1a (by unfold Pk; omega), setM_at, if_neg (by omega), fr_at p0a (by unfold Pk; omega), d5 i (by omega), fr_at a4 (by unfold Pk; omega), fr_at a3 (by unfold Pk; omega), fr_at a2 (by unfold Pk; omega), fr_at a1 (by unfold Pk; omega), fr_at a0 (by unfold Pk; omega), setM_at, if_neg (by omega), setM_at, if_neg (by omega)]; exact h6⟩
set_option maxHeartbeats 4000000 in
set_option maxRecDepth 100000 in
theorem c6_passesAllP (w : Nat) (hw : w ≤ 10) (S : Sv) (σ : St) (hK : RepK (σ 5 0) w S) (hn8 : Sn S ≤ 8) : Ct M6_passesAll 1 [.inr (.inr (5, 0, 0)), .inl (nI w), .inl 0] σ (PV fun σ' => Fr Pp σ σ' ∧ RepM (σ' 5 0) S) := by
  refine Ct.of f_6_passesAll (Nat.le_of_ble_eq_true rfl) ?_
  show AW M6_passesAll 1 _ (0, [(0, .inr (.inr (5, 0, 0))), (1, .inl (nI w)), (2, .inl 0)], [], σ)
  refine AW.run 4 [] (5, [(0, .inr (.inr (5, 0, 0))), (1, .inl (nI w)), (2, .inl 0)], [.inl (52 * (nI w)), .inr (.inr (5, 0, 0))], σ) [] rfl ?_ ?_
  · exact trivial
  rw [show (52 : Int32) * nI w = nI (52 * w) from (Int32.ofNat_mul 52 w).symm]
  refine AW.run 7 [] (18, [(0, .inr (.inr (5, 0, 0))), (1, .inl (nI w)), (2, .inl 0)], [.inr (.inr (5, 0, 2)), .inr (.inr (5, 0, 0))], (setM (setM σ 5 0 0 21 (nI (52 * w))) 5 0 0 20 0)) [(0 : Int32) = 0 ∨ (0 : Int32) = 1] rfl ?_ ?_
  · exact allP1 (by decide)
  refine AW.callVV (d' := 0) [.inr (.inr (5, 0, 2))] [] ⟨_, rfl⟩ f_6_passes v_6_passes l_6_151 ⟨rfl, by decide⟩ rfl (Nat.le_of_ble_eq_true rfl) rfl (Nat.le_of_ble_eq_true rfl) (c6_passesP2 (52 * w + 0) (setM (setM σ 5 0 0 21 (nI (52 * w))) 5 0 0 20 0) (by omega) (by rw [setM_at, if_pos ⟨rfl, rfl⟩]) (by rw [setM_at, if_neg (by omega), setM_at, if_pos ⟨rfl, rfl⟩]; rfl)) ?_
  rintro τ0 ⟨a0, b0, d0⟩
  refine AW.run 3 [] (26, [(0, .inr (.inr (5, 0, 0))), (1, .inl (nI w)), (2, .inl 0)], [.inr (.inr (5, 0, 3)), .inr (.inr (5, 0, 0))], τ0) [] rfl ?_ ?_
  · exact trivial
  refine AW.callVV (d' := 0) [.inr (.inr (5, 0, 3))] [] ⟨_, rfl⟩ f_6_passes v_6_passes l_6_151 ⟨rfl, by decide⟩ rfl (Nat.le_of_ble_eq_true rfl) rfl (Nat.le_of_ble_eq_true rfl) (c6_passesP3 (52 * w + 8) τ0 (by omega) (by rw [fr_at a0 (by unfold Pj; omega), setM_at, if_pos ⟨rfl, rfl⟩]) b0) ?_
  rintro τ1 ⟨a1, b1, d1⟩
  refine AW.run 3 [] (34, [(0, .inr (.inr (5, 0, 0))), (1, .inl (nI w)), (2, .inl 0)], [.inr (.inr (5, 0, 4)), .inr (.inr (5, 0, 0))], τ1) [] rfl ?_ ?_
  · exact trivial
  refine AW.callVV (d' := 0) [.inr (.inr (5, 0, 4))] [] ⟨_, rfl⟩ f_6_passes v_6_passes l_6_151 ⟨rfl, by decide⟩ rfl (Nat.le_of_ble_eq_true rfl) rfl (Nat.le_of_ble_eq_true rfl) (c6_passesP4 (52 * w + 16) τ1 (by omega) (by rw [fr_at a1 (by unfold Pj; omega), fr_at a0 (by unfold Pj; omega), setM_at, if_pos ⟨rfl, rfl⟩]) b1) ?_
  rintro τ2 ⟨a2, b2, d2⟩
  refine AW.run 3 [] (42, [(0, .inr (.inr (5, 0, 0))), (1, .inl (nI w)), (2, .inl 0)], [.inr (.inr (5, 0, 5)), .inr (.inr (5, 0, 0))], τ2) [] rfl ?_ ?_
  · exact trivial
  refine AW.callVV (d' := 0) [.inr (.inr (5, 0, 5))] [] ⟨_, rfl⟩ f_6_passes v_6_passes l_6_151 ⟨rfl, by decide⟩ rfl (Nat.le_of_ble_eq_true rfl) rfl (Nat.le_of_ble_eq_true rfl) (c6_passesP5 (52 * w + 24) τ2 (by omega) (by rw [fr_at a2 (by unfold Pj; omega), fr_at a1 (by unfold Pj; omega), fr_at a0 (by unfold Pj; omega), setM_at, if_pos ⟨rfl, rfl⟩]) b2) ?_
  rintro τ3 ⟨a3, b3, d3⟩
  refine AW.run 3 [] (50, [(0, .inr (.inr (5, 0, 0))), (1, .inl (nI w)), (2, .inl 0)], [.inr (.inr (5, 0, 6)), .inr (.inr (5, 0, 0))], τ3) [] rfl ?_ ?_
  · exact trivial
  refine AW.callVV (d' := 0) [.inr (.inr (5, 0, 6))] [] ⟨_, rfl⟩ f_6_passes v_6_passes l_6_151 ⟨rfl, by decide⟩ rfl (Nat.le_of_ble_eq_true rfl) rfl (Nat.le_of_ble_eq_true rfl) (c6_passesP6 (52 * w + 32) τ3 (by omega) (by rw [fr_at a3 (by unfold Pj; omega), fr_at a2 (by unfold Pj; omega), fr_at a1 (by unfold Pj; omega), fr_at a0 (by unfold Pj; omega), setM_at, if_pos ⟨rfl, rfl⟩]) b3) ?_
  rintro τ4 ⟨a4, b4, d4⟩
  refine AW.run 3 [] (58, [(0, .inr (.inr (5, 0, 0))), (1, .inl (nI w)), (2, .inl 0)], [.inr (.inr (5, 0, 7)), .inr (.inr (5, 0, 0))], τ4) [] rfl ?_ ?_
  · exact trivial
  refine AW.callVV (d' := 0) [.inr (.inr (5, 0, 7))] [] ⟨_, rfl⟩ f_6_passes v_6_passes l_6_151 ⟨rfl, by decide⟩ rfl (Nat.le_of_ble_eq_true rfl) rfl (Nat.le_of_ble_eq_true rfl) (c6_passesP7 (52 * w + 40) τ4 (by omega) (by rw [fr_at a4 (by unfold Pj; omega), fr_at a3 (by unfold Pj; omega), fr_at a2 (by unfold Pj; omega), fr_at a1 (by unfold Pj; omega), fr_at a0 (by unfold Pj; omega), setM_at, if_pos ⟨rfl, rfl⟩]) b4) ?_
  rintro τ5 ⟨a5, b5, d5⟩
  refine AW.run 4 [] (67, [(0, .inr (.inr (5, 0, 0))), (1, .inl (nI w)), (2, .inl 0)], [.inl (τ5 5 0 0 7), .inr (.inr (5, 0, 0)), .inr (.inr (5, 0, 0))], τ5) [] rfl ?_ ?_
  · exact trivial
  refine AW.callVI (d' := 0) [.inl (τ5 5 0 0 7)] [.inr (.inr (5, 0, 0))] ⟨_, rfl⟩ f_6_passOne v_6_passOne l_6_155 ⟨rfl, by decide⟩ rfl (Nat.le_of_ble_eq_true rfl) rfl (Nat.le_of_ble_eq_true rfl) (c6_passOneP (52 * w + 48) (τ5 5 0 0 7) τ5 (by omega) (by rw [fr_at a5 (by unfold Pj; omega), fr_at a4 (by unfold Pj; omega), fr_at a3 (by unfold Pj; omega), fr_at a2 (by unfold Pj; omega), fr_at a1 (by unfold Pj; omega), fr_at a0 (by unfold Pj; omega), setM_at, if_pos ⟨rfl, rfl⟩]) b5) ?_
  rintro _ o0 ⟨rfl, p0a, p0b⟩
  rw [show τ5 5 0 19 (52 * w + 48) = nI (Sn S) from by rw [fr_at a5 (by unfold Pj; omega), fr_at a4 (by unfold Pj; omega), fr_at a3 (by unfold Pj; omega), fr_at a2 (by unfold Pj; omega), fr_at a1 (by unfold Pj; omega), fr_at a0 (by unfold Pj; omega), setM_at, if_neg (by omega), setM_at, if_neg (by omega)]; exact hK.1.1]
  refine AW.run 5 [] (79, [(0, .inr (.inr (5, 0, 0))), (1, .inl (nI w)), (2, .inl 0)], [.inl ((setM o0 5 0 0 7 (nI (Sn S))) 5 0 0 8), .inr (.inr (5, 0, 0)), .inr (.inr (5, 0, 0))], (setM o0 5 0 0 7 (nI (Sn S)))) [] rfl ?_ ?_
  · exact trivial
  refine AW.callVI (d' := 0) [.inl ((setM o0 5 0 0 7 (nI (Sn S))) 5 0 0 8)] [.inr (.inr (5, 0, 0))] ⟨_, rfl⟩ f_6_passOne v_6_passOne l_6_155 ⟨rfl, by decide⟩ rfl (Nat.le_of_ble_eq_true rfl) rfl (Nat.le_of_ble_eq_true rfl) (c6_passOneP (52 * w + 49) ((setM o0 5 0 0 7 (nI (Sn S))) 5 0 0 8) (setM o0 5 0 0 7 (nI (Sn S))) (by omega) (by rw [setM_at, if_neg (by omega), fr_at p0a (by unfold Pk; omega), fr_at a5 (by unfold Pj; omega), fr_at a4 (by unfold Pj; omega), fr_at a3 (by unfold Pj; omega), fr_at a2 (by unfold Pj; omega), fr_at a1 (by unfold Pj; omega), fr_at a0 (by unfold Pj; omega), setM_at, if_pos ⟨rfl, rfl⟩]) (by rw [setM_at, if_neg (by omega)]; exact p0b)) ?_
  rintro _ o1 ⟨rfl, p1a, p1b⟩
  rw [show (setM o0 5 0 0 7 (nI (Sn S))) 5 0 19 (52 * w + 49) = nI (Su S) from by rw [setM_at, if_neg (by omega), fr_at p0a (by unfold Pk; omega), fr_at a5 (by unfold Pj; omega), fr_at a4 (by unfold Pj; omega), fr_at a3 (by unfold Pj; omega), fr_at a2 (by unfold Pj; omega), fr_at a1 (by unfold Pj; omega), fr_at a0 (by unfold Pj; omega), setM_at, if_neg (by omega), setM_at, if_neg (by omega)]; exact hK.1.2.1]
  refine AW.run 5 [] (91, [(0, .inr (.inr (5, 0, 0))), (1, .inl (nI w)), (2, .inl 0)], [.inl ((setM o1 5 0 0 8 (nI (Su S))) 5 0 0 9), .inr (.inr (5, 0, 0)), .inr (.inr (5, 0, 0))], (setM o1 5 0 0 8 (nI (Su S)))) [] rfl ?_ ?_
  · exact trivial
  refine AW.callVI (d' := 0) [.inl ((setM o1 5 0 0 8 (nI (Su S))) 5 0 0 9)] [.inr (.inr (5, 0, 0))] ⟨_, rfl⟩ f_6_passOne v_6_passOne l_6_155 ⟨rfl, by decide⟩ rfl (Nat.le_of_ble_eq_true rfl) rfl (Nat.le_of_ble_eq_true rfl) (c6_passOneP (52 * w + 50) ((setM o1 5 0 0 8 (nI (Su S))) 5 0 0 9) (setM o1 5 0 0 8 (nI (Su S))) (by omega) (by rw [setM_at, if_neg (by omega), fr_at p1a (by unfold Pk; omega), setM_at, if_neg (by omega), fr_at p0a (by unfold Pk; omega), fr_at a5 (by unfold Pj; omega), fr_at a4 (by unfold Pj; omega), fr_at a3 (by unfold Pj; omega), fr_at a2 (by unfold Pj; omega), fr_at a1 (by unfold Pj; omega), fr_at a0 (by unfold Pj; omega), setM_at, if_pos ⟨rfl, rfl⟩]) (by rw [setM_at, if_neg (by omega)]; exact p1b)) ?_
  rintro _ o2 ⟨rfl, p2a, p2b⟩
  rw [show (setM o1 5 0 0 8 (nI (Su S))) 5 0 19 (52 * w + 50) = nI (She S) from by rw [setM_at, if_neg (by omega), fr_at p1a (by unfold Pk; omega), setM_at, if_neg (by omega), fr_at p0a (by unfold Pk; omega), fr_at a5 (by unfold Pj; omega), fr_at a4 (by unfold Pj; omega), fr_at a3 (by unfold Pj; omega), fr_at a2 (by unfold Pj; omega), fr_at a1 (by unfold Pj; omega), fr_at a0 (by unfold Pj; omega), setM_at, if_neg (by omega), setM_at, if_neg (by omega)]; exact hK.1.2.2.1]
  refine AW.run 5 [] (103, [(0, .inr (.inr (5, 0, 0))), (1, .inl (nI w)), (2, .inl 0)], [.inl ((setM o2 5 0 0 9 (nI (She S))) 5 0 0 10), .inr (.inr (5, 0, 0)), .inr (.inr (5, 0, 0))], (setM o2 5 0 0 9 (nI (She S)))) [] rfl ?_ ?_
  · exact trivial
  refine AW.callVI (d' := 0) [.inl ((setM o2 5 0 0 9 (nI (She S))) 5 0 0 10)] [.inr (.inr (5, 0, 0))] ⟨_, rfl⟩ f_6_passOne v_6_passOne l_6_155 ⟨rfl, by decide⟩ rfl (Nat.le_of_ble_eq_true rfl) rfl (Nat.le_of_ble_eq_true rfl) (c6_passOneP (52 * w + 51) ((setM o2 5 0 0 9 (nI (She S))) 5 0 0 10) (setM o2 5 0 0 9 (nI (She S))) (by omega) (by rw [setM_at, if_neg (by omega), fr_at p2a (by unfold Pk; omega), setM_at, if_neg (by omega), fr_at p1a (by unfold Pk; omega), setM_at, if_neg (by omega), fr_at p0a (by unfold Pk; omega), fr_at a5 (by unfold Pj; omega), fr_at a4 (by unfold Pj; omega), fr_at a3 (by unfold Pj; omega), fr_at a2 (by unfold Pj; omega), fr_at a1 (by unfold Pj; omega), fr_at a0 (by unfold Pj; omega), setM_at, if_pos ⟨rfl, rfl⟩]) (by rw [setM_at, if_neg (by omega)]; exact p2b)) ?_
  rintro _ o3 ⟨rfl, p3a, p3b⟩
  rw [show (setM o2 5 0 0 9 (nI (She S))) 5 0 19 (52 * w + 51) = nI (Sd S) from by rw [setM_at, if_neg (by omega), fr_at p2a (by unfold Pk; omega), setM_at, if_neg (by omega), fr_at p1a (by unfold Pk; omega), setM_at, if_neg (by omega), fr_at p0a (by unfold Pk; omega), fr_at a5 (by unfold Pj; omega), fr_at a4 (by unfold Pj; omega), fr_at a3 (by unfold Pj; omega), fr_at a2 (by unfold Pj; omega), fr_at a1 (by unfold Pj; omega), fr_at a0 (by unfold Pj; omega), setM_at, if_neg (by omega), setM_at, if_neg (by omega)]; exact hK.1.2.2.2]
  refine AW.run 1 [] (109, [(0, .inr (.inr (5, 0, 0))), (1, .inl (nI w)), (2, .inl 0)], [], (setM o3 5 0 0 10 (nI (Sd S)))) [] rfl ?_ ?_
  · exact trivial
  refine AW.retv ⟨_, rfl⟩ rfl ?_
  have hfr : Fr Pp σ (setM o3 5 0 0 10 (nI (Sd S))) := (fr_set (fr_trans (fr_set (fr_trans (fr_set (fr_trans (fr_set (fr_trans (fr_trans (fr_trans (fr_trans (fr_trans (fr_trans (fr_trans (fr_set (fr_set fr_rfl (by unfold Pp; omega)) (by unfold Pp; omega)) (fr_mono a0 (fun a b q => by unfold Pj at q; unfold Pp; omega))) (fr_mono a1 (fun a b q => by unfold Pj at q; unfold Pp; omega))) (fr_mono a2 (fun a b q => by unfold Pj at q; unfold Pp; omega))) (fr_mono a3 (fun a b q => by unfold Pj at q; unfold Pp; omega))) (fr_mono a4 (fun a b q => by unfold Pj at q; unfold Pp; omega))) (fr_mono a5 (fun a b q => by unfold Pj at q; unfold Pp; omega))) (fr_mono p0a (fun a b q => by unfold Pk at q; unfold Pp; omega))) (by unfold Pp; omega)) (fr_mono p1a (fun a b q => by unfold Pk at q; unfold Pp; omega))) (by unfold Pp; omega)) (fr_mono p2a (fun a b q => by unfold Pk at q; unfold Pp; omega))) (by unfold Pp; omega)) (fr_mono p3a (fun a b q => by unfold Pk at q; unfold Pp; omega))) (by unfold Pp; omega))
  refine ⟨hfr, ⟨by rw [setM_at, if_neg (by omega), fr_at p3a (by unfold Pk; omega), setM_at, if_neg (by omega), fr_at p2a (by unfold Pk; omega), setM_at, if_neg (by omega), fr_at p1a (by unfold Pk; omega), setM_at, if_pos ⟨rfl, rfl⟩], by rw [setM_at, if_neg (by omega), fr_at p3a (by unfold Pk; omega), setM_at, if_neg (by omega), fr_at p2a (by unfold Pk; omega), setM_at, if_pos ⟨rfl, rfl⟩], by rw [setM_at, if_neg (by omega), fr_at p3a (by unfold Pk; omega), setM_at, if_pos ⟨rfl, rfl⟩], by rw [setM_at, if_pos ⟨rfl, rfl⟩]⟩, fun i hi => ?_⟩
  obtain ⟨h1, h2, h3, h4, h5, h6⟩ := hK.2 i hi
  exact ⟨by rw [setM_at, if_neg (by omega), fr_at p3a (by unfold Pk; omega), setM_at, if_neg (by omega), fr_at p2a (by unfold Pk; omega), setM_at, if_neg (by omega), fr_at p1a (by unfold Pk; omega), setM_at, if_neg (by omega), fr_at p0a (by unfold Pk; omega), fr_at a5 (by unfold Pj; omega), fr_at a4 (by unfold Pj; omega), fr_at a3 (by unfold Pj; omega), fr_at a2 (by unfold Pj; omega), fr_at a1 (by unfold Pj; omega), d0 i (by omega), setM_at, if_neg (by omega), setM_at, if_neg (by omega)]; exact h1, by rw [setM_at, if_neg (by omega), fr_at p3a (by unfold Pk; omega), setM_at, if_neg (by omega), fr_at p2a (by unfold Pk; omega), setM_at, if_neg (by omega), fr_at p1a (by unfold Pk; omega), setM_at, if_neg (by omega), fr_at p0a (by unfold Pk; omega), fr_at a5 (by unfold Pj; omega), fr_at a4 (by unfold Pj; omega), fr_at a3 (by unfold Pj; omega), fr_at a2 (by unfold Pj; omega), d1 i (by omega), fr_at a0 (by unfold Pj; omega), setM_at, if_neg (by omega), setM_at, if_neg (by omega)]; exact h2, by rw [setM_at, if_neg (by omega), fr_at p3a (by unfold Pk; omega), setM_at, if_neg (by omega), fr_at p2a (by unfold Pk; omega), setM_at, if_neg (by omega), fr_at p1a (by unfold Pk; omega), setM_at, if_neg (by omega), fr_at p0a (by unfold Pk; omega), fr_at a5 (by unfold Pj; omega), fr_at a4 (by unfold Pj; omega), fr_at a3 (by unfold Pj; omega), d2 i (by omega), fr_at a1 (by unfold Pj; omega), fr_at a0 (by unfold Pj; omega), setM_at, if_neg (by omega), setM_at, if_neg (by omega)]; exact h3, by rw [setM_at, if_neg (by omega), fr_at p3a (by unfold Pk; omega), setM_at, if_neg (by omega), fr_at p2a (by unfold Pk; omega), setM_at, if_neg (by omega), fr_at p1a (by unfold Pk; omega), setM_at, if_neg (by omega), fr_at p0a (by unfold Pk; omega), fr_at a5 (by unfold Pj; omega), fr_at a4 (by unfold Pj; omega), d3 i (by omega), fr_at a2 (by unfold Pj; omega), fr_at a1 (by unfold Pj; omega), fr_at a0 (by unfold Pj; omega), setM_at, if_neg (by omega), setM_at, if_neg (by omega)]; exact h4, by rw [setM_at, if_neg (by omega), fr_at p3a (by unfold Pk; omega), setM_at, if_neg (by omega), fr_at p2a (by unfold Pk; omega), setM_at, if_neg (by omega), fr_at p1a (by unfold Pk; omega), setM_at, if_neg (by omega), fr_at p0a (by unfold Pk; omega), fr_at a5 (by unfold Pj; omega), d4 i (by omega), fr_at a3 (by unfold Pj; omega), fr_at a2 (by unfold Pj; omega), fr_at a1 (by unfold Pj; omega), fr_at a0 (by unfold Pj; omega), setM_at, if_neg (by omega), setM_at, if_neg (by omega)]; exact h5, by rw [setM_at, if_neg (by omega), fr_at p3a (by unfold Pk; omega), setM_at, if_neg (by omega), fr_at p2a (by unfold Pk; omega), setM_at, if_neg (by omega), fr_at p1a (by unfold Pk; omega), setM_at, if_neg (by omega), fr_at p0a (by unfold Pk; omega), d5 i (by omega), fr_at a4 (by unfold Pj; omega), fr_at a3 (by unfold Pj; omega), fr_at a2 (by unfold Pj; omega), fr_at a1 (by unfold Pj; omega), fr_at a0 (by unfold Pj; omega), setM_at, if_neg (by omega), setM_at, if_neg (by omega)]; exact h6⟩
