/-! NEAR TWOS, THE CALMEST, HALVED -/
def ebit (S : Sv) (i j : Nat) : Nat := if Sw S i = true ∧ Sw S j = true ∧ nearN (Sp S i) (Sp S j) = true then 1 else 0
def ebit0 (S : Sv) (i j : Nat) : Nat := if i = j then 0 else ebit S i j
theorem nearN_comm (a b : Nat) : nearN a b = nearN b a := by
  unfold nearN
  exact decide_eq_decide.mpr ⟨fun h => ⟨h.2, h.1⟩, fun h => ⟨h.2, h.1⟩⟩
theorem ebit_comm (S : Sv) (i j : Nat) : ebit0 S i j = ebit0 S j i := by
  unfold ebit0 ebit
  by_cases h : i = j
  · rw [h]
  · rw [if_neg h, if_neg (Ne.symm h), nearN_comm]
    by_cases h1 : Sw S j = true ∧ Sw S i = true ∧ nearN (Sp S j) (Sp S i) = true
    · rw [if_pos h1, if_pos ⟨h1.2.1, h1.1, h1.2.2⟩]
    · rw [if_neg h1, if_neg (fun q => h1 ⟨q.2.1, q.1, q.2.2⟩)]
theorem ebit_cell {S : Sv} {i j : Nat} (hw : Sw S i = true) (hj : j < 8) : (if nearW S i 8 j = true then 1 else 0) = ebit0 S i j := by
  unfold ebit0 ebit nearW
  by_cases h : i = j
  · rw [if_pos h, if_neg]
    intro q
    rw [h] at q
    simp at q
  · rw [if_neg h]
    cases h2 : Sw S j <;> cases h3 : nearN (Sp S i) (Sp S j) <;> simp [hj, hw, Ne.symm h]
theorem ebit_row (S : Sv) (i : Nat) : (if Sw S i = true then cN (nearW S i 8) else 0) = ebit0 S i 0 + ebit0 S i 1 + ebit0 S i 2 + ebit0 S i 3 + ebit0 S i 4 + ebit0 S i 5 + ebit0 S i 6 + ebit0 S i 7 := by
  cases hw : Sw S i with
  | false =>
    have h : ∀ j, ebit0 S i j = 0 := fun j => by unfold ebit0 ebit; rw [hw]; simp
    rw [h, h, h, h, h, h, h, h]; rfl
  | true =>
    rw [if_pos rfl]
    unfold cN c8
    rw [ebit_cell hw (by decide : 0 < 8), ebit_cell hw (by decide : 1 < 8), ebit_cell hw (by decide : 2 < 8), ebit_cell hw (by decide : 3 < 8), ebit_cell hw (by decide : 4 < 8), ebit_cell hw (by decide : 5 < 8), ebit_cell hw (by decide : 6 < 8), ebit_cell hw (by decide : 7 < 8)]
/-- the twos (a, b) with b from a + 1 on -/
def ntJ (S : Sv) (a : Nat) : Nat → Nat
  | 0 => 0
  | k + 1 => ntJ S a k + ebit S a (a + 1 + k)
def ntO (S : Sv) : Nat → Nat
  | 0 => 0
  | a + 1 => ntO S a + ntJ S a (Sn S - (a + 1))
theorem ntJ_out {S : Sv} (hO : SOK S) {a : Nat} : ∀ m, Sn S - (a + 1) ≤ m → ntJ S a m = ntJ S a (Sn S - (a + 1))
  | 0, h => by rw [show Sn S - (a + 1) = 0 by omega]
  | m + 1, h => by
    by_cases he : Sn S - (a + 1) = m + 1
    · rw [he]
    · rw [← ntJ_out hO m (by omega)]
      show ntJ S a m + ebit S a (a + 1 + m) = _
      rw [show ebit S a (a + 1 + m) = 0 from if_neg (fun q => by rw [w_out hO (a + 1 + m) (by omega)] at q; cases q.2.1)]
      rfl
theorem ntJ_0 {S : Sv} (hO : SOK S) {a : Nat} (ha : Sn S ≤ a) : ∀ m, ntJ S a m = 0
  | 0 => rfl
  | m + 1 => by
    show ntJ S a m + ebit S a (a + 1 + m) = 0
    rw [ntJ_0 hO ha m, show ebit S a (a + 1 + m) = 0 from if_neg (fun q => by rw [w_out hO _ ha] at q; cases q.1)]
theorem ntO_out {S : Sv} (hO : SOK S) : ∀ m, Sn S ≤ m → ntO S m = ntO S (Sn S)
  | 0, h => by rw [show Sn S = 0 by omega]
  | m + 1, h => by
    by_cases he : Sn S = m + 1
    · rw [he]
    · rw [← ntO_out hO m (by omega)]
      show ntO S m + ntJ S m (Sn S - (m + 1)) = _
      rw [ntJ_0 hO (by omega)]; rfl
theorem twos (g : Nat → Nat → Nat) (hz : ∀ i, g i i = 0) (hs : ∀ i j, g i j = g j i) :
    (0 + (g 0 0 + g 0 1 + g 0 2 + g 0 3 + g 0 4 + g 0 5 + g 0 6 + g 0 7) + (g 1 0 + g 1 1 + g 1 2 + g 1 3 + g 1 4 + g 1 5 + g 1 6 + g 1 7) + (g 2 0 + g 2 1 + g 2 2 + g 2 3 + g 2 4 + g 2 5 + g 2 6 + g 2 7) + (g 3 0 + g 3 1 + g 3 2 + g 3 3 + g 3 4 + g 3 5 + g 3 6 + g 3 7) + (g 4 0 + g 4 1 + g 4 2 + g 4 3 + g 4 4 + g 4 5 + g 4 6 + g 4 7) + (g 5 0 + g 5 1 + g 5 2 + g 5 3 + g 5 4 + g 5 5 + g 5 6 + g 5 7) + (g 6 0 + g 6 1 + g 6 2 + g 6 3 + g 6 4 + g 6 5 + g 6 6 + g 6 7) + (g 7 0 + g 7 1 + g 7 2 + g 7 3 + g 7 4 + g 7 5 + g 7 6 + g 7 7)) / 2 = (0 + (0 + g 0 1 + g 0 2 + g 0 3 + g 0 4 + g 0 5 + g 0 6 + g 0 7) + (0 + g 1 2 + g 1 3 + g 1 4 + g 1 5 + g 1 6 + g 1 7) + (0 + g 2 3 + g 2 4 + g 2 5 + g 2 6 + g 2 7) + (0 + g 3 4 + g 3 5 + g 3 6 + g 3 7) + (0 + g 4 5 + g 4 6 + g 4 7) + (0 + g 5 6 + g 5 7) + (0 + g 6 7) + 0) := by
  rw [hz 0, hz 1, hz 2, hz 3, hz 4, hz 5, hz 6, hz 7, hs 1 0, hs 2 0, hs 3 0, hs 4 0, hs 5 0, hs 6 0, hs 7 0, hs 2 1, hs 3 1, hs 4 1, hs 5 1, hs 6 1, hs 7 1, hs 3 2, hs 4 2, hs 5 2, hs 6 2, hs 7 2, hs 4 3, hs 5 3, hs 6 3, hs 7 3, hs 5 4, hs 6 4, hs 7 4, hs 6 5, hs 7 5, hs 7 6]
  omega
theorem nt_esum {S : Sv} (hO : SOK S) : ntO S (Sn S) = esum S 8 / 2 := by
  have hn8 := hO.1
  rw [← ntO_out hO 8 hn8]
  have e : ∀ a k, a < 8 → a + 1 + k < 8 → ebit S a (a + 1 + k) = ebit0 S a (a + 1 + k) := fun a k _ _ => by
    unfold ebit0; rw [if_neg (by omega)]
  have h8 : ∀ a, a < 8 → ntJ S a (Sn S - (a + 1)) = ntJ S a (7 - a) := fun a ha => (ntJ_out hO (7 - a) (by omega)).symm
  have hT := twos (ebit0 S) (fun i => if_pos rfl) (ebit_comm S)
  rw [← ebit_row S 0, ← ebit_row S 1, ← ebit_row S 2, ← ebit_row S 3, ← ebit_row S 4, ← ebit_row S 5, ← ebit_row S 6, ← ebit_row S 7] at hT
  have hE : esum S 8 = (0 + (if Sw S 0 = true then cN (nearW S 0 8) else 0) + (if Sw S 1 = true then cN (nearW S 1 8) else 0) + (if Sw S 2 = true then cN (nearW S 2 8) else 0) + (if Sw S 3 = true then cN (nearW S 3 8) else 0) + (if Sw S 4 = true then cN (nearW S 4 8) else 0) + (if Sw S 5 = true then cN (nearW S 5 8) else 0) + (if Sw S 6 = true then cN (nearW S 6 8) else 0) + (if Sw S 7 = true then cN (nearW S 7 8) else 0)) := rfl
  rw [hE, hT]
  show 0 + ntJ S 0 (Sn S - 1) + ntJ S 1 (Sn S - 2) + ntJ S 2 (Sn S - 3) + ntJ S 3 (Sn S - 4) + ntJ S 4 (Sn S - 5) + ntJ S 5 (Sn S - 6) + ntJ S 6 (Sn S - 7) + ntJ S 7 (Sn S - 8) = _
  rw [h8 0 (by omega), h8 1 (by omega), h8 2 (by omega), h8 3 (by omega), h8 4 (by omega), h8 5 (by omega), h8 6 (by omega), h8 7 (by omega)]
  simp only [ntJ]
  rw [e 0 0 (by omega) (by omega), e 0 1 (by omega) (by omega), e 0 2 (by omega) (by omega), e 0 3 (by omega) (by omega), e 0 4 (by omega) (by omega), e 0 5 (by omega) (by omega), e 0 6 (by omega) (by omega), e 1 0 (by omega) (by omega), e 1 1 (by omega) (by omega), e 1 2 (by omega) (by omega), e 1 3 (by omega) (by omega), e 1 4 (by omega) (by omega), e 1 5 (by omega) (by omega), e 2 0 (by omega) (by omega), e 2 1 (by omega) (by omega), e 2 2 (by omega) (by omega), e 2 3 (by omega) (by omega), e 2 4 (by omega) (by omega), e 3 0 (by omega) (by omega), e 3 1 (by omega) (by omega), e 3 2 (by omega) (by omega), e 3 3 (by omega) (by omega), e 4 0 (by omega) (by omega), e 4 1 (by omega) (by omega), e 4 2 (by omega) (by omega), e 5 0 (by omega) (by omega), e 5 1 (by omega) (by omega), e 6 0 (by omega) (by omega)]
  rfl
theorem nt_le {S : Sv} : ∀ a, ntO S a ≤ 8 * a ∨ 8 < Sn S
  | 0 => Or.inl (Nat.le_refl _)
  | a + 1 => by
    rcases nt_le (S := S) a with h | h
    · by_cases h8 : 8 < Sn S
      · exact Or.inr h8
      · have hJ : ∀ k, ntJ S a k ≤ k := by
          intro k
          induction k with
          | zero => exact Nat.le_refl _
          | succ k ih =>
            show ntJ S a k + ebit S a (a + 1 + k) ≤ k + 1
            have : ebit S a (a + 1 + k) ≤ 1 := by unfold ebit; split <;> omega
            omega
        have := hJ (Sn S - (a + 1))
        refine Or.inl ?_
        show ntO S a + ntJ S a (Sn S - (a + 1)) ≤ 8 * (a + 1)
        omega
    · exact Or.inr h

set_option maxHeartbeats 4000000 in
set_option maxRecDepth 100000 in
theorem c6_nearTwos (S : Sv) (σ : St) (hR : RepM (σ 5 0) S) (hO : SOK S) : Ct M6_nearTwos 2 [.inr (.inr (5, 0, 0))] σ (PI fun r9 σ' => nI (esum S 8 / 2) = r9 ∧ σ = σ') := by
  refine Ct.of f_6_nearTwos (Nat.le_of_ble_eq_true rfl) ?_
  show AW M6_nearTwos 2 _ (0, [(0, .inr (.inr (5, 0, 0)))], [], σ)
  have hn8 : Sn S ≤ 8 := hO.1
  have e7 := hR.1.1
  rw [← nt_esum hO]
  refine AW.run 4 [] (4, [(2, .inl 0), (1, .inl 0), (0, .inr (.inr (5, 0, 0)))], [], σ) [] rfl ?_ ?_
  · exact trivial
  refine AW.pick [2, 1, 0] (ls' := [(0, .inr (.inr (5, 0, 0))), (1, .inl (nI (ntO S 0))), (2, .inl (nI 0))]) rfl ?_
  refine AW.loop (α := Unit) 4 (Sn S) (fun i _ => [(0, .inr (.inr (5, 0, 0))), (1, .inl (nI (ntO S i))), (2, .inl (nI i))]) (fun i _ τ => σ = τ) ?_ ?_ (Sn S) 0 () _ (by omega) rfl
  · intro i _ τ hi hI hk
    subst hI
    refine AW.run 3 [] (9, [(0, .inr (.inr (5, 0, 0))), (1, .inl (nI (ntO S i))), (2, .inl (nI i))], [.inl (σ 5 0 0 7), .inl (nI i)], σ) [] rfl ?_ ?_
    · exact trivial
    rw [e7]
    refine AW.run 4 [false] (15, [(0, .inr (.inr (5, 0, 0))), (1, .inl (nI (ntO S i))), (2, .inl (nI i))], [.inl ((nI i) + 1)], σ) [¬ icP .ge (nI i) (nI (Sn S))] rfl ?_ ?_
    · exact allP1 (nI_ge hi (by omega))
    rw [nI_1 i]
    refine AW.run 1 [] (16, [(3, .inl (nI (i + 1))), (0, .inr (.inr (5, 0, 0))), (1, .inl (nI (ntO S i))), (2, .inl (nI i))], [], σ) [] rfl ?_ ?_
    · exact trivial
    refine AW.pick [1, 2, 3, 0] (ls' := [(0, .inr (.inr (5, 0, 0))), (1, .inl (nI (ntO S i + ntJ S i 0))), (2, .inl (nI i)), (3, .inl (nI (i + 1 + 0)))]) rfl ?_
    refine AW.loop (α := Unit) 16 (Sn S - (i + 1)) (fun k _ => [(0, .inr (.inr (5, 0, 0))), (1, .inl (nI (ntO S i + ntJ S i k))), (2, .inl (nI i)), (3, .inl (nI (i + 1 + k)))]) (fun k _ τ => σ = τ) ?_ ?_ (Sn S - (i + 1)) 0 () _ (by omega) rfl
    · intro k _ τ hk9 hI hkk
      subst hI
      have hu : ntJ S i (k + 1) = ntJ S i k + ebit S i (i + 1 + k) := rfl
      refine AW.run 3 [] (21, [(0, .inr (.inr (5, 0, 0))), (1, .inl (nI (ntO S i + ntJ S i k))), (2, .inl (nI i)), (3, .inl (nI (i + 1 + k)))], [.inl (σ 5 0 0 7), .inl (nI (i + 1 + k))], σ) [] rfl ?_ ?_
      · exact trivial
      rw [e7]
      refine AW.run 4 [false] (27, [(0, .inr (.inr (5, 0, 0))), (1, .inl (nI (ntO S i + ntJ S i k))), (2, .inl (nI i)), (3, .inl (nI (i + 1 + k)))], [.inl (nI i), .inr (.inr (5, 0, 0)), .inl (nI (ntO S i + ntJ S i k))], σ) [¬ icP .ge (nI (i + 1 + k)) (nI (Sn S))] rfl ?_ ?_
      · exact allP1 (nI_ge (by omega) (by omega))
      refine AW.callVI (d' := 0) [.inl (nI i)] [.inl (nI (ntO S i + ntJ S i k))] ⟨_, rfl⟩ f_6_isWhole v_6_isWhole l_6_108 ⟨rfl, by decide⟩ rfl (Nat.le_of_ble_eq_true rfl) rfl (Nat.le_of_ble_eq_true rfl) (c6_isWhole S σ hR (by first | exact hO.1 | exact hn8) i hi) ?_
      rintro v _ ⟨rfl, hv⟩
      rcases hv with ⟨rfl, hp27⟩ | ⟨rfl, hp27⟩
      · skip
        refine AW.run 3 [false] (35, [(0, .inr (.inr (5, 0, 0))), (1, .inl (nI (ntO S i + ntJ S i k))), (2, .inl (nI i)), (3, .inl (nI (i + 1 + k)))], [.inl (nI (i + 1 + k)), .inr (.inr (5, 0, 0)), .inl (nI (ntO S i + ntJ S i k))], σ) [¬ icP .eq (1 : Int32) 0] rfl ?_ ?_
        · exact allP1 (by decide : ¬ ((1 : Int32) = 0))
        refine AW.callVI (d' := 0) [.inl (nI (i + 1 + k))] [.inl (nI (ntO S i + ntJ S i k))] ⟨_, rfl⟩ f_6_isWhole v_6_isWhole l_6_108 ⟨rfl, by decide⟩ rfl (Nat.le_of_ble_eq_true rfl) rfl (Nat.le_of_ble_eq_true rfl) (c6_isWhole S σ hR (by first | exact hO.1 | exact hn8) (i + 1 + k) (by omega)) ?_
        rintro v _ ⟨rfl, hv⟩
        rcases hv with ⟨rfl, hp35⟩ | ⟨rfl, hp35⟩
        · skip
          refine AW.run 4 [false] (44, [(0, .inr (.inr (5, 0, 0))), (1, .inl (nI (ntO S i + ntJ S i k))), (2, .inl (nI i)), (3, .inl (nI (i + 1 + k)))], [.inl (nI (i + 1 + k)), .inl (nI i), .inr (.inr (5, 0, 0)), .inl (nI (ntO S i + ntJ S i k))], σ) [¬ icP .eq (1 : Int32) 0] rfl ?_ ?_
          · exact allP1 (by decide : ¬ ((1 : Int32) = 0))
          refine AW.callVI (d' := 1) [.inl (nI i), .inl (nI (i + 1 + k))] [.inl (nI (ntO S i + ntJ S i k))] ⟨_, rfl⟩ f_6_areNear v_6_areNear l_6_164 ⟨rfl, by decide⟩ rfl (Nat.le_of_ble_eq_true rfl) rfl (Nat.le_of_ble_eq_true rfl) (c6_areNear S σ hR hO i (i + 1 + k) hi (by omega)) ?_
          rintro v _ ⟨rfl, hv⟩
          rcases hv with ⟨rfl, hp44⟩ | ⟨rfl, hp44⟩
          · skip
            refine AW.run 4 [false] (56, [(0, .inr (.inr (5, 0, 0))), (1, .inl (nI (ntO S i + ntJ S i k))), (2, .inl (nI i)), (3, .inl (nI (i + 1 + k)))], [.inl ((nI (ntO S i + ntJ S i k)) + 1)], σ) [¬ icP .eq (1 : Int32) 0] rfl ?_ ?_
            · exact allP1 (by decide : ¬ ((1 : Int32) = 0))
            rw [show nI (ntO S i + ntJ S i k) + 1 = nI (ntO S i + ntJ S i (k + 1)) from by rw [nI_1, hu, show ebit S i (i + 1 + k) = 1 from if_pos ⟨hp27, hp35, hp44.2⟩]; rfl]
            refine AW.run 3 [] (16, [(3, .inl ((nI (i + 1 + k)) + 1)), (1, .inl (nI (ntO S i + ntJ S i (k + 1)))), (0, .inr (.inr (5, 0, 0))), (2, .inl (nI i))], [], σ) [] rfl ?_ ?_
            · exact trivial
            rw [nI_1 (i + 1 + k)]
            refine AW.pick [2, 1, 3, 0] (ls' := [(0, .inr (.inr (5, 0, 0))), (1, .inl (nI (ntO S i + ntJ S i (k + 1)))), (2, .inl (nI i)), (3, .inl (nI (i + 1 + (k + 1))))]) rfl ?_
            exact hkk () _ rfl
          · skip
            refine AW.run 3 [true] (56, [(0, .inr (.inr (5, 0, 0))), (1, .inl (nI (ntO S i + ntJ S i k))), (2, .inl (nI i)), (3, .inl (nI (i + 1 + k)))], [.inl ((nI (ntO S i + ntJ S i k)) + 0)], σ) [icP .eq (0 : Int32) 0] rfl ?_ ?_
            · exact allP1 (by decide : ((0 : Int32) = 0))
            rw [show nI (ntO S i + ntJ S i k) + 0 = nI (ntO S i + ntJ S i (k + 1)) from by rw [show nI (ntO S i + ntJ S i k) + 0 = nI (ntO S i + ntJ S i k + 0) from nI_add _ 0, hu, show ebit S i (i + 1 + k) = 0 from if_neg (fun q => by first | exact absurd (hp27.symm.trans q.1) (by decide) | exact absurd (hp35.symm.trans q.2.1) (by decide) | exact hp44 ⟨by omega, q.2.2⟩)]; rfl]
            refine AW.run 3 [] (16, [(3, .inl ((nI (i + 1 + k)) + 1)), (1, .inl (nI (ntO S i + ntJ S i (k + 1)))), (0, .inr (.inr (5, 0, 0))), (2, .inl (nI i))], [], σ) [] rfl ?_ ?_
            · exact trivial
            rw [nI_1 (i + 1 + k)]
            refine AW.pick [2, 1, 3, 0] (ls' := [(0, .inr (.inr (5, 0, 0))), (1, .inl (nI (ntO S i + ntJ S i (k + 1)))), (2, .inl (nI i)), (3, .inl (nI (i + 1 + (k + 1))))]) rfl ?_
            exact hkk () _ rfl
        · skip
          refine AW.run 3 [true] (56, [(0, .inr (.inr (5, 0, 0))), (1, .inl (nI (ntO S i + ntJ S i k))), (2, .inl (nI i)), (3, .inl (nI (i + 1 + k)))], [.inl ((nI (ntO S i + ntJ S i k)) + 0)], σ) [icP .eq (0 : Int32) 0] rfl ?_ ?_
          · exact allP1 (by decide : ((0 : Int32) = 0))
          rw [show nI (ntO S i + ntJ S i k) + 0 = nI (ntO S i + ntJ S i (k + 1)) from by rw [show nI (ntO S i + ntJ S i k) + 0 = nI (ntO S i + ntJ S i k + 0) from nI_add _ 0, hu, show ebit S i (i + 1 + k) = 0 from if_neg (fun q => by first | exact absurd (hp27.symm.trans q.1) (by decide) | exact absurd (hp35.symm.trans q.2.1) (by decide) | exact hp44 ⟨by omega, q.2.2⟩)]; rfl]
          refine AW.run 3 [] (16, [(3, .inl ((nI (i + 1 + k)) + 1)), (1, .inl (nI (ntO S i + ntJ S i (k + 1)))), (0, .inr (.inr (5, 0, 0))), (2, .inl (nI i))], [], σ) [] rfl ?_ ?_
          · exact trivial
          rw [nI_1 (i + 1 + k)]
          refine AW.pick [2, 1, 3, 0] (ls' := [(0, .inr (.inr (5, 0, 0))), (1, .inl (nI (ntO S i + ntJ S i (k + 1)))), (2, .inl (nI i)), (3, .inl (nI (i + 1 + (k + 1))))]) rfl ?_
          exact hkk () _ rfl
      · skip
        refine AW.run 3 [true] (56, [(0, .inr (.inr (5, 0, 0))), (1, .inl (nI (ntO S i + ntJ S i k))), (2, .inl (nI i)), (3, .inl (nI (i + 1 + k)))], [.inl ((nI (ntO S i + ntJ S i k)) + 0)], σ) [icP .eq (0 : Int32) 0] rfl ?_ ?_
        · exact allP1 (by decide : ((0 : Int32) = 0))
        rw [show nI (ntO S i + ntJ S i k) + 0 = nI (ntO S i + ntJ S i (k + 1)) from by rw [show nI (ntO S i + ntJ S i k) + 0 = nI (ntO S i + ntJ S i k + 0) from nI_add _ 0, hu, show ebit S i (i + 1 + k) = 0 from if_neg (fun q => by first | exact absurd (hp27.symm.trans q.1) (by decide) | exact absurd (hp35.symm.trans q.2.1) (by decide) | exact hp44 ⟨by omega, q.2.2⟩)]; rfl]
        refine AW.run 3 [] (16, [(3, .inl ((nI (i + 1 + k)) + 1)), (1, .inl (nI (ntO S i + ntJ S i (k + 1)))), (0, .inr (.inr (5, 0, 0))), (2, .inl (nI i))], [], σ) [] rfl ?_ ?_
        · exact trivial
        rw [nI_1 (i + 1 + k)]
        refine AW.pick [2, 1, 3, 0] (ls' := [(0, .inr (.inr (5, 0, 0))), (1, .inl (nI (ntO S i + ntJ S i (k + 1)))), (2, .inl (nI i)), (3, .inl (nI (i + 1 + (k + 1))))]) rfl ?_
        exact hkk () _ rfl
    · intro _ τ hI
      subst hI
      refine AW.run 3 [] (21, [(0, .inr (.inr (5, 0, 0))), (1, .inl (nI (ntO S i + ntJ S i (Sn S - (i + 1))))), (2, .inl (nI i)), (3, .inl (nI (i + 1 + (Sn S - (i + 1)))))], [.inl (σ 5 0 0 7), .inl (nI (i + 1 + (Sn S - (i + 1))))], σ) [] rfl ?_ ?_
      · exact trivial
      rw [e7]
      refine AW.run 3 [true] (4, [(2, .inl ((nI i) + 1)), (0, .inr (.inr (5, 0, 0))), (1, .inl (nI (ntO S i + ntJ S i (Sn S - (i + 1))))), (3, .inl (nI (i + 1 + (Sn S - (i + 1)))))], [], σ) [icP .ge (nI (i + 1 + (Sn S - (i + 1)))) (nI (Sn S))] rfl ?_ ?_
      · exact allP1 (nI_le (by omega) (by omega))
      rw [nI_1 i]
      refine AW.pick [1, 2, 0] (ls' := [(0, .inr (.inr (5, 0, 0))), (1, .inl (nI (ntO S (i + 1)))), (2, .inl (nI (i + 1)))]) rfl ?_
      exact hk () _ rfl
  · intro _ τ hI
    subst hI
    refine AW.run 3 [] (9, [(0, .inr (.inr (5, 0, 0))), (1, .inl (nI (ntO S (Sn S)))), (2, .inl (nI (Sn S)))], [.inl (σ 5 0 0 7), .inl (nI (Sn S))], σ) [] rfl ?_ ?_
    · exact trivial
    rw [e7]
    refine AW.run 2 [true] (70, [(0, .inr (.inr (5, 0, 0))), (1, .inl (nI (ntO S (Sn S)))), (2, .inl (nI (Sn S)))], [.inl (nI (ntO S (Sn S)))], σ) [icP .ge (nI (Sn S)) (nI (Sn S))] rfl ?_ ?_
    · exact allP1 (nI_le (Nat.le_refl _) (by omega))
    refine AW.reti ⟨_, rfl⟩ rfl ?_
    exact ⟨rfl, rfl⟩
set_option maxHeartbeats 4000000 in
set_option maxRecDepth 100000 in
theorem c6_calmest (S : Sv) (σ : St) (hR : RepM (σ 5 0) S) (hO : SOK S) : Ct M6_calmest 7 [.inr (.inr (5, 0, 0))] σ (PI fun r9 σ' => optI (clmN S 10) = r9 ∧ Fr P2 σ σ' ∧ RepM (σ' 5 0) S) := by
  refine Ct.of f_6_calmest (Nat.le_of_ble_eq_true rfl) ?_
  show AW M6_calmest 7 _ (0, [(0, .inr (.inr (5, 0, 0)))], [], σ)
  have hn8 : Sn S ≤ 8 := hO.1
  refine AW.run 2 [] (4, [(0, .inr (.inr (5, 0, 0)))], [.inl (σ 5 0 0 9)], σ) [] rfl ?_ ?_
  · exact trivial
  rw [hR.1.2.2.1]
  refine AW.run 5 [] (11, [(3, .inl 9), (2, .inl (-9)), (1, .inl (nI (She S))), (0, .inr (.inr (5, 0, 0)))], [], σ) [] rfl ?_ ?_
  · exact trivial
  refine AW.pick [3, 2, 1, 0] (ls' := [(0, .inr (.inr (5, 0, 0))), (1, .inl (nI (She S))), (2, .inl (-9)), (3, .inl (nI (10 - 0) - 1))]) rfl ?_
  refine AW.loop (α := Nat) 11 10 (fun i h => [(0, .inr (.inr (5, 0, 0))), (1, .inl (nI (She S))), (2, .inl (-9)), (3, .inl (nI (10 - i) - 1))]) (fun i h τ => h ≤ 9 ∧ Fr P2 σ τ ∧ RepM (τ 5 0) (withU S (Su S) h) ∧ clmN S 10 = clmN S (10 - i)) ?_ ?_ 10 0 (She S) _ (by omega) ⟨hO.2.2.2.2, fr_rfl, hR, rfl⟩
  · intro i h τ hi hI hk
    obtain ⟨hh, hF, hT, hg⟩ := hI
    have e9 : nI (10 - i) - 1 = nI (9 - i) := by rw [show 10 - i = (9 - i) + 1 by omega]; exact nI_prd _
    have hOv : SOK (withU S (Su S) (9 - i)) := SOK_U hO hO.2.2.2.1 (by omega)
    have hu : clmN S (10 - i) = if sameW (dayS (withU S (Su S) (9 - i))) S = true then some (9 - i) else clmN S (9 - i) := by
      rw [show 10 - i = (9 - i) + 1 by omega]; rfl
    have hcalm := calm_iff (S := S) (h := 9 - i)
    refine AW.eq (c' := (11, [(0, .inr (.inr (5, 0, 0))), (1, .inl (nI (She S))), (2, .inl (-9)), (3, .inl (nI (9 - i)))], [], τ)) (by rw [e9]) ?_
    by_cases heq : leftS (withU S (Su S) (9 - i)) 1 = cN (Sw S)
    · skip
      refine AW.run 7 [false, false] (24, [(0, .inr (.inr (5, 0, 0))), (1, .inl (nI (She S))), (2, .inl (-9)), (3, .inl (nI (9 - i)))], [], (setM τ 5 0 0 9 (nI (9 - i)))) [¬ icP .lt (nI (9 - i)) 0, ¬ icP .ge ((-9) : Int32) 0] rfl ?_ ?_
      · exact ⟨(nlt0 (by omega)), allP1 (by decide : ¬ ((0 : Int32) ≤ (-9)))⟩
      obtain ⟨τ33, e33⟩ : ∃ x, x = setM τ 5 0 0 9 (nI (9 - i)) := ⟨_, rfl⟩
      rw [← e33]
      have r33 : RepM (τ33 5 0) (withU S (Su S) (9 - i)) := by rw [e33]; exact (repM_h (S := withU S (Su S) h) hT)
      have f33 : Fr P1 τ τ33 := by rw [e33]; exact fr_set fr_rfl (by unfold P1; omega)
      refine AW.run 2 [] (26, [(0, .inr (.inr (5, 0, 0))), (1, .inl (nI (She S))), (2, .inl (-9)), (3, .inl (nI (9 - i)))], [.inl 1, .inr (.inr (5, 0, 0))], τ33) [] rfl ?_ ?_
      · exact trivial
      refine AW.callVI (d' := 6) [.inl 1] [] ⟨_, rfl⟩ f_6_leftIn v_6_leftIn l_6_228 ⟨rfl, by decide⟩ rfl (Nat.le_of_ble_eq_true rfl) rfl (Nat.le_of_ble_eq_true rfl) (c6_leftIn (withU S (Su S) (9 - i)) τ33 r33 hOv 1 (by omega)) ?_
      rintro _ τ34 ⟨rfl, f34, r34⟩
      refine AW.run 1 [] (30, [(0, .inr (.inr (5, 0, 0))), (1, .inl (nI (She S))), (2, .inl (-9)), (3, .inl (nI (9 - i)))], [.inr (.inr (5, 0, 0)), .inl (nI (leftS (withU S (Su S) (9 - i)) 1))], τ34) [] rfl ?_ ?_
      · exact trivial
      refine AW.callVI (d' := 1) [] [.inl (nI (leftS (withU S (Su S) (9 - i)) 1))] ⟨_, rfl⟩ f_6_whole v_6_whole l_6_197 ⟨rfl, by decide⟩ rfl (Nat.le_of_ble_eq_true rfl) rfl (Nat.le_of_ble_eq_true rfl) (c6_whole (withU S (Su S) (9 - i)) τ34 r34 hOv) ?_
      rintro _ _ ⟨rfl, rfl⟩
      refine AW.callSI (d' := 0) [.inl (bI (Sw (withU S (Su S) (9 - i))))] [.inl (nI (leftS (withU S (Su S) (9 - i)) 1))] ⟨_, rfl⟩ f_6_bits s_6_bits l_6_200 rfl (Nat.le_of_ble_eq_true rfl) rfl (Nat.le_of_ble_eq_true rfl) (c6_bits (bI (Sw (withU S (Su S) (9 - i)))) τ34) ?_
      rintro _ _ ⟨rfl, rfl⟩
      rw [btV_bI]
      refine AW.run 6 [false] (11, [(3, .inl ((nI (9 - i)) + (-1))), (2, .inl (nI (9 - i))), (0, .inr (.inr (5, 0, 0))), (1, .inl (nI (She S)))], [], τ34) [¬ icP .ne (nI (leftS (withU S (Su S) (9 - i)) 1)) (nI (cN (Sw (withU S (Su S) (9 - i)))))] rfl ?_ ?_
      · exact allP1 (fun q => q (congrArg nI heq))
      refine AW.pick [2, 3, 1, 0] (ls' := [(0, .inr (.inr (5, 0, 0))), (1, .inl (nI (She S))), (2, .inl (nI (9 - i))), (3, .inl (nI (9 - i) + (-1)))]) rfl ?_
      by_cases h12_1 : (nI (9 - i) + (-1) : Int32) < 0
      · skip
        refine AW.run 5 [true] (57, [(0, .inr (.inr (5, 0, 0))), (1, .inl (nI (She S))), (2, .inl (nI (9 - i))), (3, .inl (nI (9 - i) + (-1)))], [], (setM τ34 5 0 0 9 (nI (She S)))) [icP .lt (nI (9 - i) + (-1)) 0] rfl ?_ ?_
        · exact allP1 (h12_1)
        have r35 : RepM ((setM τ34 5 0 0 9 (nI (She S))) 5 0) S := (show RepM _ (withU (withU S (Su S) (9 - i)) (Su S) (She S)) from repM_h (S := withU S (Su S) (9 - i)) r34)
        refine AW.run 1 [] (58, [(0, .inr (.inr (5, 0, 0))), (1, .inl (nI (She S))), (2, .inl (nI (9 - i))), (3, .inl (nI (9 - i) + (-1)))], [.inl (nI (9 - i))], (setM τ34 5 0 0 9 (nI (She S)))) [] rfl ?_ ?_
        · exact trivial
        refine AW.reti ⟨_, rfl⟩ rfl ?_
        exact ⟨by rw [hg, hu, if_pos (hcalm.mp heq)]; rfl, (fr_set (fr_trans (fr_trans hF (fr_12 f33)) f34) (Or.inl (p1_f (by omega) (by omega)))), r35⟩
      · skip
        refine AW.run 7 [false, true] (57, [(0, .inr (.inr (5, 0, 0))), (1, .inl (nI (She S))), (2, .inl (nI (9 - i))), (3, .inl (nI (9 - i) + (-1)))], [], (setM τ34 5 0 0 9 (nI (She S)))) [¬ icP .lt (nI (9 - i) + (-1)) 0, icP .ge (nI (9 - i)) 0] rfl ?_ ?_
        · exact ⟨(h12_1), allP1 (nI_pos' (by omega))⟩
        have r36 : RepM ((setM τ34 5 0 0 9 (nI (She S))) 5 0) S := (show RepM _ (withU (withU S (Su S) (9 - i)) (Su S) (She S)) from repM_h (S := withU S (Su S) (9 - i)) r34)
        refine AW.run 1 [] (58, [(0, .inr (.inr (5, 0, 0))), (1, .inl (nI (She S))), (2, .inl (nI (9 - i))), (3, .inl (nI (9 - i) + (-1)))], [.inl (nI (9 - i))], (setM τ34 5 0 0 9 (nI (She S)))) [] rfl ?_ ?_
        · exact trivial
        refine AW.reti ⟨_, rfl⟩ rfl ?_
        exact ⟨by rw [hg, hu, if_pos (hcalm.mp heq)]; rfl, (fr_set (fr_trans (fr_trans hF (fr_12 f33)) f34) (Or.inl (p1_f (by omega) (by omega)))), r36⟩
    · skip
      have hne := heq
      refine AW.run 7 [false, false] (24, [(0, .inr (.inr (5, 0, 0))), (1, .inl (nI (She S))), (2, .inl (-9)), (3, .inl (nI (9 - i)))], [], (setM τ 5 0 0 9 (nI (9 - i)))) [¬ icP .lt (nI (9 - i)) 0, ¬ icP .ge ((-9) : Int32) 0] rfl ?_ ?_
      · exact ⟨(nlt0 (by omega)), allP1 (by decide : ¬ ((0 : Int32) ≤ (-9)))⟩
      obtain ⟨τ37, e37⟩ : ∃ x, x = setM τ 5 0 0 9 (nI (9 - i)) := ⟨_, rfl⟩
      rw [← e37]
      have r37 : RepM (τ37 5 0) (withU S (Su S) (9 - i)) := by rw [e37]; exact (repM_h (S := withU S (Su S) h) hT)
      have f37 : Fr P1 τ τ37 := by rw [e37]; exact fr_set fr_rfl (by unfold P1; omega)
      refine AW.run 2 [] (26, [(0, .inr (.inr (5, 0, 0))), (1, .inl (nI (She S))), (2, .inl (-9)), (3, .inl (nI (9 - i)))], [.inl 1, .inr (.inr (5, 0, 0))], τ37) [] rfl ?_ ?_
      · exact trivial
      refine AW.callVI (d' := 6) [.inl 1] [] ⟨_, rfl⟩ f_6_leftIn v_6_leftIn l_6_228 ⟨rfl, by decide⟩ rfl (Nat.le_of_ble_eq_true rfl) rfl (Nat.le_of_ble_eq_true rfl) (c6_leftIn (withU S (Su S) (9 - i)) τ37 r37 hOv 1 (by omega)) ?_
      rintro _ τ38 ⟨rfl, f38, r38⟩
      refine AW.run 1 [] (30, [(0, .inr (.inr (5, 0, 0))), (1, .inl (nI (She S))), (2, .inl (-9)), (3, .inl (nI (9 - i)))], [.inr (.inr (5, 0, 0)), .inl (nI (leftS (withU S (Su S) (9 - i)) 1))], τ38) [] rfl ?_ ?_
      · exact trivial
      refine AW.callVI (d' := 1) [] [.inl (nI (leftS (withU S (Su S) (9 - i)) 1))] ⟨_, rfl⟩ f_6_whole v_6_whole l_6_197 ⟨rfl, by decide⟩ rfl (Nat.le_of_ble_eq_true rfl) rfl (Nat.le_of_ble_eq_true rfl) (c6_whole (withU S (Su S) (9 - i)) τ38 r38 hOv) ?_
      rintro _ _ ⟨rfl, rfl⟩
      refine AW.callSI (d' := 0) [.inl (bI (Sw (withU S (Su S) (9 - i))))] [.inl (nI (leftS (withU S (Su S) (9 - i)) 1))] ⟨_, rfl⟩ f_6_bits s_6_bits l_6_200 rfl (Nat.le_of_ble_eq_true rfl) rfl (Nat.le_of_ble_eq_true rfl) (c6_bits (bI (Sw (withU S (Su S) (9 - i)))) τ38) ?_
      rintro _ _ ⟨rfl, rfl⟩
      rw [btV_bI]
      refine AW.run 5 [true] (11, [(3, .inl ((nI (9 - i)) + (-1))), (2, .inl (-9)), (0, .inr (.inr (5, 0, 0))), (1, .inl (nI (She S)))], [], τ38) [icP .ne (nI (leftS (withU S (Su S) (9 - i)) 1)) (nI (cN (Sw (withU S (Su S) (9 - i)))))] rfl ?_ ?_
      · exact allP1 (fun q => heq (nI_lit q (by have := leftS_le (withU S (Su S) (9 - i)) 1; omega) (by have := cN_le (Sw S); omega)))
      refine AW.eq (c' := (11, [(3, .inl (nI (10 - (i + 1)) - 1)), (2, .inl (-9)), (0, .inr (.inr (5, 0, 0))), (1, .inl (nI (She S)))], [], τ38)) (by rw [show nI (9 - i) + (-1) = nI (10 - (i + 1)) - 1 from by rw [show 10 - (i + 1) = 9 - i by omega]; exact (Int32.sub_eq_add_neg _ _).symm]) ?_
      refine AW.pick [2, 3, 1, 0] (ls' := [(0, .inr (.inr (5, 0, 0))), (1, .inl (nI (She S))), (2, .inl (-9)), (3, .inl (nI (10 - (i + 1)) - 1))]) rfl ?_
      exact hk (9 - i) _ ⟨by omega, (fr_trans (fr_trans hF (fr_12 f37)) f38), r38, by rw [hg, hu, if_neg (fun q => hne (hcalm.mpr q)), show 10 - (i + 1) = 9 - i by omega]⟩
  · intro h τ hI
    obtain ⟨hh, hF, hT, hg⟩ := hI
    refine AW.run 5 [true] (57, [(0, .inr (.inr (5, 0, 0))), (1, .inl (nI (She S))), (2, .inl (-9)), (3, .inl (nI (10 - 10) - 1))], [], (setM τ 5 0 0 9 (nI (She S)))) [icP .lt (nI (10 - 10) - 1) 0] rfl ?_ ?_
    · exact allP1 ((by decide : nI (10 - 10) - 1 < (0 : Int32)))
    have r39 : RepM ((setM τ 5 0 0 9 (nI (She S))) 5 0) S := (show RepM _ (withU (withU S (Su S) h) (Su S) (She S)) from repM_h (S := withU S (Su S) h) hT)
    refine AW.run 1 [] (58, [(0, .inr (.inr (5, 0, 0))), (1, .inl (nI (She S))), (2, .inl (-9)), (3, .inl (nI (10 - 10) - 1))], [.inl (-9)], (setM τ 5 0 0 9 (nI (She S)))) [] rfl ?_ ?_
    · exact trivial
    refine AW.reti ⟨_, rfl⟩ rfl ?_
    exact ⟨by rw [hg]; rfl, (fr_set hF (Or.inl (p1_f (by omega) (by omega)))), r39⟩
