/-! THINKS, FORGETS, KEEPS BACK -/
set_option maxHeartbeats 4000000 in
set_option maxRecDepth 100000 in
theorem c6_thinks (S : Sv) (σ : St) (hR : RepM (σ 5 0) S) (hn8 : Sn S ≤ 8) : Ct M6_thinks 2 [.inr (.inr (5, 0, 0))] σ (PV fun σ' => Fr P2 σ σ' ∧ RepM (σ' 5 0) S ∧ RepK (σ' 5 0) 2 S) := by
  refine Ct.of f_6_thinks (Nat.le_of_ble_eq_true rfl) ?_
  show AW M6_thinks 2 _ (0, [(0, .inr (.inr (5, 0, 0)))], [], σ)
  refine AW.run 3 [] (3, [(0, .inr (.inr (5, 0, 0)))], [.inl 1, .inl 2, .inr (.inr (5, 0, 0))], σ) [] rfl ?_ ?_
  · exact trivial
  refine AW.callVV (d' := 1) [.inl 2, .inl 1] [] ⟨_, rfl⟩ f_6_passesAll v_6_passesAll l_6_134 ⟨rfl, by decide⟩ rfl (Nat.le_of_ble_eq_true rfl) rfl (Nat.le_of_ble_eq_true rfl) (c6_passesAllK 2 (by decide) S σ hR hn8) ?_
  rintro τ ⟨h1, h2, h3⟩
  refine AW.retv ⟨_, rfl⟩ rfl ?_
  exact ⟨fr_mono h1 (fun a b q => by unfold Pw at q; unfold P2 P1; omega), h2, h3⟩
set_option maxHeartbeats 4000000 in
set_option maxRecDepth 100000 in
theorem c6_forgets (S : Sv) (σ : St) (hK : RepK (σ 5 0) 2 S) (hn8 : Sn S ≤ 8) : Ct M6_forgets 2 [.inr (.inr (5, 0, 0))] σ (PV fun σ' => Fr P2 σ σ' ∧ RepM (σ' 5 0) S) := by
  refine Ct.of f_6_forgets (Nat.le_of_ble_eq_true rfl) ?_
  show AW M6_forgets 2 _ (0, [(0, .inr (.inr (5, 0, 0)))], [], σ)
  refine AW.run 3 [] (3, [(0, .inr (.inr (5, 0, 0)))], [.inl 0, .inl 2, .inr (.inr (5, 0, 0))], σ) [] rfl ?_ ?_
  · exact trivial
  refine AW.callVV (d' := 1) [.inl 2, .inl 0] [] ⟨_, rfl⟩ f_6_passesAll v_6_passesAll l_6_134 ⟨rfl, by decide⟩ rfl (Nat.le_of_ble_eq_true rfl) rfl (Nat.le_of_ble_eq_true rfl) (c6_passesAllP 2 (by decide) S σ hK hn8) ?_
  rintro τ ⟨h1, h2⟩
  refine AW.retv ⟨_, rfl⟩ rfl ?_
  exact ⟨fr_mono h1 (fun a b q => by unfold Pp at q; unfold P2 P1; omega), h2⟩
/-- what a change may touch -/
def P3 (j k : Nat) : Prop := P2 j k ∨ (j = 0 ∧ k = 22) ∨ (j = 19 ∧ 156 ≤ k)
def RepB (m : Nat → Nat → Int32) (B : Nat) (ps : Nat → Sv) : Prop := m 0 22 = nI B ∧ ∀ j, j < B → RepK m (3 + (B - 1 - j)) (ps j)
def Psh (n j k : Nat) : Prop := j = 19 ∧ 156 ≤ k ∧ k < 156 + n
set_option maxHeartbeats 4000000 in
set_option maxRecDepth 100000 in
theorem c6_keepsBack (S : Sv) (σ : St) (hR : RepM (σ 5 0) S) (hn8 : Sn S ≤ 8) (B : Nat) (ps : Nat → Sv) (hB8 : B ≤ 8) (hps : ∀ j, j < B → Sn (ps j) ≤ 8) (hB : RepB (σ 5 0) B ps) : Ct M6_keepsBack 2 [.inr (.inr (5, 0, 0))] σ (PV fun σ' => Fr P3 σ σ' ∧ RepM (σ' 5 0) S ∧ RepB (σ' 5 0) (min 8 (B + 1)) (fun j => match j with | 0 => S | j + 1 => ps j)) := by
  refine Ct.of f_6_keepsBack (Nat.le_of_ble_eq_true rfl) ?_
  show AW M6_keepsBack 2 _ (0, [(0, .inr (.inr (5, 0, 0)))], [], σ)
  have e22 := hB.1
  by_cases h8 : B = 8
  · subst h8
    refine AW.run 2 [] (4, [(0, .inr (.inr (5, 0, 0)))], [.inl (σ 5 0 0 22)], σ) [] rfl ?_ ?_
    · exact trivial
    rw [e22]
    refine AW.run 4 [false] (13, [(1, .inl 156), (0, .inr (.inr (5, 0, 0)))], [], σ) [¬ icP .ne (nI 8) 8] rfl ?_ ?_
    · exact allP1 (fun q => q rfl)
    refine AW.pick [1, 0] (ls' := [(0, .inr (.inr (5, 0, 0))), (1, .inl (nI (156 + 0)))]) rfl ?_
    refine AW.loop (α := Unit) 13 364 (fun i _ => [(0, .inr (.inr (5, 0, 0))), (1, .inl (nI (156 + i)))]) (fun i _ τ => Fr (Psh i) σ τ ∧ ∀ t, t < i → τ 5 0 19 (156 + t) = σ 5 0 19 (156 + t + 52)) ?_ ?_ 364 0 () _ (by omega) ⟨fr_rfl, fun t ht => absurd ht (Nat.not_lt_zero t)⟩
    · intro i _ τ hi hI hk
      obtain ⟨hS1, hC⟩ := hI
      have eoi : τ 5 0 19 (nI (156 + i + 52)).toNatClampNeg = σ 5 0 19 (156 + i + 52) := by rw [nI_clamp (by omega), fr_at hS1 (by unfold Psh; omega)]
      refine AW.run 11 [false] (33, [(0, .inr (.inr (5, 0, 0))), (1, .inl (nI (156 + i)))], [.inl ((nI (156 + i)) + 52), .inr (.inr (5, 0, 19)), .inl (nI (156 + i)), .inr (.inr (5, 0, 19))], τ) [¬ icP .ge (nI (156 + i)) 520] rfl ?_ ?_
      · exact allP1 (nle_lit (a := 520) (b := 156 + i) (by omega) (by decide))
      rw [show nI (156 + i) + 52 = nI (156 + i + 52) from nI_add _ 52]
      refine AW.run 1 [] (34, [(0, .inr (.inr (5, 0, 0))), (1, .inl (nI (156 + i)))], [.inl (τ 5 0 19 (nI (156 + i + 52)).toNatClampNeg), .inl (nI (156 + i)), .inr (.inr (5, 0, 19))], τ) [vp_in (nI (156 + i + 52)) 572] rfl ?_ ?_
      · exact allP1 (by first | exact in8 (by omega) | exact vp_in_nI (by omega) (by decide))
      rw [eoi]
      refine AW.run 3 [] (13, [(1, .inl ((nI (156 + i)) + 1)), (0, .inr (.inr (5, 0, 0)))], [], (setM τ 5 0 19 (nI (156 + i)).toNatClampNeg (σ 5 0 19 (156 + i + 52)))) [vp_in (nI (156 + i)) 572] rfl ?_ ?_
      · exact allP1 (by first | exact in8 (by omega) | exact vp_in_nI (by omega) (by decide))
      rw [nI_1 (156 + i), nI_clamp (n := 156 + i) (by omega), Nat.add_assoc]
      refine AW.pick [1, 0] (ls' := [(0, .inr (.inr (5, 0, 0))), (1, .inl (nI (156 + (i + 1))))]) rfl ?_
      exact hk () _ ⟨fr_set (fr_mono hS1 (fun a b q => by unfold Psh at q ⊢; omega)) (by unfold Psh; omega), fun t ht => by
        rw [setM_at]
        by_cases he : t = i
        · rw [if_pos ⟨rfl, by omega⟩, he, Nat.add_assoc]
        · rw [if_neg (by omega)]; exact hC t (by omega)⟩
    · intro _ τ hI
      obtain ⟨hS1, hC⟩ := hI
      have e22t : τ 5 0 0 22 = nI 8 := by rw [fr_at hS1 (by unfold Psh; omega)]; exact e22
      have hRt : RepM (τ 5 0) S := repM_fr hS1 (fun j k q => by unfold Psh at q; omega) hR
      have hR9 : RepM (setM τ 5 0 0 22 (nI 7) 5 0) S := repM_fr (P := fun j k => j = 0 ∧ k = 22) (fr_set fr_rfl ⟨rfl, rfl⟩) (fun j k q => by omega) hRt
      have e22a : setM τ 5 0 0 22 (nI 7) 5 0 0 22 = nI 7 := by rw [setM_at, if_pos ⟨rfl, rfl⟩]
      refine AW.run 6 [true] (46, [(0, .inr (.inr (5, 0, 0))), (1, .inl (nI (156 + 364)))], [.inl (τ 5 0 0 22), .inr (.inr (5, 0, 0))], τ) [icP .ge (nI (156 + 364)) 520] rfl ?_ ?_
      · exact allP1 (le_lit (a := 520) (b := 156 + 364) (by decide) (by decide))
      rw [e22t]
      refine AW.run 2 [] (48, [(0, .inr (.inr (5, 0, 0))), (1, .inl (nI (156 + 364)))], [.inl ((nI 8) - 1), .inr (.inr (5, 0, 0))], τ) [] rfl ?_ ?_
      · exact trivial
      rw [show nI 8 - 1 = nI 7 from by decide]
      refine AW.run 5 [] (57, [(0, .inr (.inr (5, 0, 0))), (1, .inl (nI (156 + 364)))], [.inl ((setM τ 5 0 0 22 (nI 7)) 5 0 0 22), .inl 3, .inr (.inr (5, 0, 0))], (setM τ 5 0 0 22 (nI 7))) [] rfl ?_ ?_
      · exact trivial
      rw [e22a]
      refine AW.run 1 [] (58, [(0, .inr (.inr (5, 0, 0))), (1, .inl (nI (156 + 364)))], [.inl (3 + (nI 7)), .inr (.inr (5, 0, 0))], (setM τ 5 0 0 22 (nI 7))) [] rfl ?_ ?_
      · exact trivial
      rw [show (3 : Int32) + nI 7 = nI 10 from by decide]
      refine AW.run 1 [] (59, [(0, .inr (.inr (5, 0, 0))), (1, .inl (nI (156 + 364)))], [.inl 1, .inl (nI 10), .inr (.inr (5, 0, 0))], (setM τ 5 0 0 22 (nI 7))) [] rfl ?_ ?_
      · exact trivial
      refine AW.callVV (d' := 1) [.inl (nI 10), .inl 1] [] ⟨_, rfl⟩ f_6_passesAll v_6_passesAll l_6_134 ⟨rfl, by decide⟩ rfl (Nat.le_of_ble_eq_true rfl) rfl (Nat.le_of_ble_eq_true rfl) (c6_passesAllK 10 (by omega) S (setM τ 5 0 0 22 (nI 7)) hR9 hn8) ?_
      rintro τ2 ⟨h1, h2, h3⟩
      have e22b : τ2 5 0 0 22 = nI 7 := by rw [fr_at h1 (by unfold Pw; omega)]; exact e22a
      refine AW.run 3 [] (67, [(0, .inr (.inr (5, 0, 0))), (1, .inl (nI (156 + 364)))], [.inl (τ2 5 0 0 22), .inr (.inr (5, 0, 0))], τ2) [] rfl ?_ ?_
      · exact trivial
      rw [e22b]
      refine AW.run 2 [] (69, [(0, .inr (.inr (5, 0, 0))), (1, .inl (nI (156 + 364)))], [.inl ((nI 7) + 1), .inr (.inr (5, 0, 0))], τ2) [] rfl ?_ ?_
      · exact trivial
      rw [show nI 7 + 1 = nI 8 from by decide]
      refine AW.run 1 [] (72, [(0, .inr (.inr (5, 0, 0))), (1, .inl (nI (156 + 364)))], [], (setM τ2 5 0 0 22 (nI 8))) [] rfl ?_ ?_
      · exact trivial
      refine AW.retv ⟨_, rfl⟩ rfl ?_
      refine ⟨fr_set (fr_trans (fr_set (fr_mono hS1 (fun a b q => by unfold Psh at q; unfold P3; omega)) (by unfold P3; omega)) (fr_mono h1 (fun a b q => by unfold Pw at q; unfold P3 P2 P1; omega))) (by unfold P3; omega), repM_fr (P := fun j k => j = 0 ∧ k = 22) (fr_set fr_rfl ⟨rfl, rfl⟩) (fun j k q => by omega) h2, ?_, ?_⟩
      · rw [setM_at, if_pos ⟨rfl, rfl⟩]; rfl
      · intro j hj
        have hj : j < 8 := hj
        show RepK _ (3 + (8 - 1 - j)) _
        cases j with
        | zero => exact repK_fr (P := fun j k => j = 0 ∧ k = 22) hn8 (fr_set fr_rfl ⟨rfl, rfl⟩) (fun k _ _ q => by omega) h3
        | succ j =>
          show RepK _ (3 + (8 - 1 - (j + 1))) (ps j)
          refine repK_eq (w := 3 + (8 - 1 - j)) (hps j (by omega)) (fun t ht => ?_) (hB.2 j (by omega))
          rw [setM_at, if_neg (by omega), fr_at h1 (by unfold Pw; omega), setM_at, if_neg (by omega)]
          have := hC (52 * (3 + (8 - 1 - (j + 1))) + t - 156) (by omega)
          rw [show 156 + (52 * (3 + (8 - 1 - (j + 1))) + t - 156) = 52 * (3 + (8 - 1 - (j + 1))) + t by omega] at this
          rw [this]
          congr 1
          omega
  · have e22a : σ 5 0 0 22 = nI B := e22
    refine AW.run 2 [] (4, [(0, .inr (.inr (5, 0, 0)))], [.inl (σ 5 0 0 22)], σ) [] rfl ?_ ?_
    · exact trivial
    rw [e22]
    refine AW.run 6 [true] (57, [(0, .inr (.inr (5, 0, 0)))], [.inl (σ 5 0 0 22), .inl 3, .inr (.inr (5, 0, 0))], σ) [icP .ne (nI B) 8] rfl ?_ ?_
    · exact allP1 (fun q => h8 (nI_lit q (by omega) (by decide)))
    rw [e22]
    refine AW.run 1 [] (58, [(0, .inr (.inr (5, 0, 0)))], [.inl (3 + (nI B)), .inr (.inr (5, 0, 0))], σ) [] rfl ?_ ?_
    · exact trivial
    rw [show (3 : Int32) + nI B = nI (3 + B) from nI_add 3 B]
    refine AW.run 1 [] (59, [(0, .inr (.inr (5, 0, 0)))], [.inl 1, .inl (nI (3 + B)), .inr (.inr (5, 0, 0))], σ) [] rfl ?_ ?_
    · exact trivial
    refine AW.callVV (d' := 1) [.inl (nI (3 + B)), .inl 1] [] ⟨_, rfl⟩ f_6_passesAll v_6_passesAll l_6_134 ⟨rfl, by decide⟩ rfl (Nat.le_of_ble_eq_true rfl) rfl (Nat.le_of_ble_eq_true rfl) (c6_passesAllK (3 + B) (by omega) S σ hR hn8) ?_
    rintro τ2 ⟨h1, h2, h3⟩
    have e22b : τ2 5 0 0 22 = nI B := by rw [fr_at h1 (by unfold Pw; omega)]; exact e22a
    refine AW.run 3 [] (67, [(0, .inr (.inr (5, 0, 0)))], [.inl (τ2 5 0 0 22), .inr (.inr (5, 0, 0))], τ2) [] rfl ?_ ?_
    · exact trivial
    rw [e22b]
    refine AW.run 2 [] (69, [(0, .inr (.inr (5, 0, 0)))], [.inl ((nI B) + 1), .inr (.inr (5, 0, 0))], τ2) [] rfl ?_ ?_
    · exact trivial
    rw [nI_1 B]
    refine AW.run 1 [] (72, [(0, .inr (.inr (5, 0, 0)))], [], (setM τ2 5 0 0 22 (nI (B + 1)))) [] rfl ?_ ?_
    · exact trivial
    refine AW.retv ⟨_, rfl⟩ rfl ?_
    refine ⟨fr_set (fr_mono h1 (fun a b q => by unfold Pw at q; unfold P3 P2 P1; omega)) (by unfold P3; omega), repM_fr (P := fun j k => j = 0 ∧ k = 22) (fr_set fr_rfl ⟨rfl, rfl⟩) (fun j k q => by omega) h2, ?_, ?_⟩
    · rw [setM_at, if_pos ⟨rfl, rfl⟩, Nat.min_eq_right (by omega)]
    · rw [Nat.min_eq_right (by omega)]
      intro j hj
      cases j with
      | zero =>
        rw [show 3 + (B + 1 - 1 - 0) = 3 + B by omega]
        exact repK_fr (P := fun j k => j = 0 ∧ k = 22) hn8 (fr_set fr_rfl ⟨rfl, rfl⟩) (fun k _ _ q => by omega) h3
      | succ j =>
        show RepK _ (3 + (B + 1 - 1 - (j + 1))) (ps j)
        rw [show 3 + (B + 1 - 1 - (j + 1)) = 3 + (B - 1 - j) by omega]
        exact repK_fr (P := fun j k => j = 0 ∧ k = 22) (hps j (by omega)) (fr_set fr_rfl ⟨rfl, rfl⟩) (fun k _ _ q => by omega) (repK_fr (hps j (by omega)) h1 (fun k _ _ q => by unfold Pw at q; omega) (hB.2 j (by omega)))
