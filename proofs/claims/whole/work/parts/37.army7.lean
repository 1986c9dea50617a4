/-! TWO, EASED, THUNDERS -/
def pairO (F : Gv) (x y : Int32) : Option (Nat × Nat) := match botI (Sn F.1) x with
  | none => none
  | some a => match botI (Sn F.1) y with
    | none => none
    | some b => if a = b then none else some (a, b)
theorem pairO_some {F : Gv} {a b : Nat} (ha : a < Sn F.1) (hb : b < Sn F.1) (hn : Sn F.1 ≤ 8) (h : a ≠ b) : pairO F (nI a) (nI b) = some (a, b) := by
  unfold pairO; rw [botI_some ha (by omega)]; dsimp only; rw [botI_some hb (by omega)]; dsimp only; rw [if_neg h]
theorem pairO_1 {F : Gv} {x y : Int32} (h : ∀ k, k < Sn F.1 → x ≠ nI k) : pairO F x y = none := by
  unfold pairO; rw [botI_none h]
theorem pairO_2 {F : Gv} {x y : Int32} (h : ∀ k, k < Sn F.1 → y ≠ nI k) : pairO F x y = none := by
  unfold pairO; rw [botI_none h]; cases botI (Sn F.1) x <;> rfl
theorem pairO_3 {F : Gv} {x : Int32} : pairO F x x = none := by
  unfold pairO; cases botI (Sn F.1) x with
  | none => rfl
  | some a => exact if_pos rfl
theorem pair_or (F : Gv) (hn : Sn F.1 ≤ 8) (x y : Int32) : (∃ a b, a < Sn F.1 ∧ b < Sn F.1 ∧ a ≠ b ∧ x = nI a ∧ y = nI b ∧ pairO F x y = some (a, b)) ∨ (pairO F x y = none ∧ ((∀ k, k < Sn F.1 → x ≠ nI k) ∨ ((∃ k, k < Sn F.1 ∧ x = nI k) ∧ ∀ k, k < Sn F.1 → y ≠ nI k) ∨ ((∃ k, k < Sn F.1 ∧ x = nI k) ∧ (∃ k, k < Sn F.1 ∧ y = nI k) ∧ x = y))) := by
  rcases bot_or (Sn F.1) x with ⟨a, ha, rfl⟩ | hx
  · rcases bot_or (Sn F.1) y with ⟨b, hb, rfl⟩ | hy
    · by_cases h : a = b
      · subst h; exact Or.inr ⟨pairO_3, Or.inr (Or.inr ⟨⟨a, ha, rfl⟩, ⟨a, ha, rfl⟩, rfl⟩)⟩
      · exact Or.inl ⟨a, b, ha, hb, h, rfl, rfl, pairO_some ha hb hn h⟩
    · exact Or.inr ⟨pairO_2 hy, Or.inr (Or.inl ⟨⟨a, ha, rfl⟩, hy⟩)⟩
  · exact Or.inr ⟨pairO_1 hx, Or.inl hx⟩
def twoRP (F : Gv) (x y n : Int32) : Int32 × Gv := match pairO F x y with
  | none => rfu F 1
  | some q => maxP F 60 n fun n => if Sw F.1 q.1 = true ∧ Sw F.1 q.2 = true then (restO F.1 q.1 q.2 n, F) else rfu F 3
def rfuE (F : Gv) (k : Nat) : Int32 × Gv := (1000000000 - cod k, rfuF F k)
def easedP (F : Gv) (x y n : Int32) : Int32 × Gv := match pairO F x y with
  | none => rfuE F 1
  | some q => match fMax 60 n with
    | 0 => (nI (Sq (passS n.toNatClampNeg F.1) q.1) - nI (Sq (passS n.toNatClampNeg (withW F.1 (fu (Sw F.1) q.2 false))) q.1), F)
    | k => rfuE F k

set_option maxHeartbeats 4000000 in
set_option maxRecDepth 100000 in
theorem c5_areNoTwo0 (F : Gv) (σ : St) (hA : RepA σ F) (hF : FOK F) (a b : Nat) (ha : a < Sn F.1) (hb : b < Sn F.1) (hne : a ≠ b) : Ct M5_areNoTwo 1 [.inr (.inr (4, 0, 0)), .inl (nI a), .inl (nI b)] σ (PI fun r9 σ' => (0 : Int32) = r9 ∧ σ = σ') := by
  refine Ct.of f_5_areNoTwo (Nat.le_of_ble_eq_true rfl) ?_
  show AW M5_areNoTwo 1 _ (0, [(0, .inr (.inr (4, 0, 0))), (1, .inl (nI a)), (2, .inl (nI b))], [], σ)
  have hS : RepS (σ 2 0) F.1 := hA.1
  have hO : SOK F.1 := hF.1.1
  have hn8 : Sn F.1 ≤ 8 := hO.1
  refine AW.run 3 [] (5, [(0, .inr (.inr (4, 0, 0))), (1, .inl (nI a)), (2, .inl (nI b))], [.inl (nI a), .inr (.inr (2, 0, 0))], σ) [] rfl ?_ ?_
  · exact trivial
  refine AW.callVI (d' := 0) [.inl (nI a)] [] ⟨_, rfl⟩ f_3_has v_3_has l_5_74 ⟨rfl, by decide⟩ rfl (Nat.le_of_ble_eq_true rfl) rfl (Nat.le_of_ble_eq_true rfl) (c3_has 0 F.1 σ hS hO (nI a)) ?_
  rintro v _ ⟨rfl, hv⟩
  obtain rfl : v = 1 := by
    rcases hv with h | h
    · exact h.1
    · exact absurd rfl (h.2 a ha)
  refine AW.run 4 [false] (16, [(0, .inr (.inr (4, 0, 0))), (1, .inl (nI a)), (2, .inl (nI b))], [.inl (nI b), .inr (.inr (2, 0, 0))], σ) [¬ icP .eq (1 : Int32) 0] rfl ?_ ?_
  · exact allP1 (by decide : ¬ ((1 : Int32) = 0))
  refine AW.callVI (d' := 0) [.inl (nI b)] [] ⟨_, rfl⟩ f_3_has v_3_has l_5_74 ⟨rfl, by decide⟩ rfl (Nat.le_of_ble_eq_true rfl) rfl (Nat.le_of_ble_eq_true rfl) (c3_has 0 F.1 σ hS hO (nI b)) ?_
  rintro v _ ⟨rfl, hv⟩
  obtain rfl : v = 1 := by
    rcases hv with h | h
    · exact h.1
    · exact absurd rfl (h.2 b hb)
  refine AW.run 5 [false, true] (32, [(0, .inr (.inr (4, 0, 0))), (1, .inl (nI a)), (2, .inl (nI b))], [.inl 0], σ) [¬ icP .eq (1 : Int32) 0, icP .ne (nI a) (nI b)] rfl ?_ ?_
  · exact ⟨(by decide : ¬ ((1 : Int32) = 0)), allP1 (fun q => hne (nI_lit q (by omega) (by omega)))⟩
  refine AW.retz ⟨_, rfl⟩ rfl (by decide) ?_
  exact ⟨rfl, rfl⟩
set_option maxHeartbeats 4000000 in
set_option maxRecDepth 100000 in
theorem c5_areNoTwo1 (F : Gv) (σ : St) (hA : RepA σ F) (hF : FOK F) (x y : Int32) (h : ((∀ k, k < Sn F.1 → x ≠ nI k) ∨ ((∃ k, k < Sn F.1 ∧ x = nI k) ∧ ∀ k, k < Sn F.1 → y ≠ nI k) ∨ ((∃ k, k < Sn F.1 ∧ x = nI k) ∧ (∃ k, k < Sn F.1 ∧ y = nI k) ∧ x = y))) : Ct M5_areNoTwo 1 [.inr (.inr (4, 0, 0)), .inl x, .inl y] σ (PI fun r9 σ' => (1 : Int32) = r9 ∧ σ = σ') := by
  refine Ct.of f_5_areNoTwo (Nat.le_of_ble_eq_true rfl) ?_
  show AW M5_areNoTwo 1 _ (0, [(0, .inr (.inr (4, 0, 0))), (1, .inl x), (2, .inl y)], [], σ)
  have hS : RepS (σ 2 0) F.1 := hA.1
  have hO : SOK F.1 := hF.1.1
  have hn8 : Sn F.1 ≤ 8 := hO.1
  rcases h with hx | ⟨⟨k, hk, rfl⟩, hy⟩ | ⟨⟨k, hk, rfl⟩, -, rfl⟩
  · skip
    refine AW.run 3 [] (5, [(0, .inr (.inr (4, 0, 0))), (1, .inl x), (2, .inl y)], [.inl x, .inr (.inr (2, 0, 0))], σ) [] rfl ?_ ?_
    · exact trivial
    refine AW.callVI (d' := 0) [.inl x] [] ⟨_, rfl⟩ f_3_has v_3_has l_5_74 ⟨rfl, by decide⟩ rfl (Nat.le_of_ble_eq_true rfl) rfl (Nat.le_of_ble_eq_true rfl) (c3_has 0 F.1 σ hS hO x) ?_
    rintro v _ ⟨rfl, hv⟩
    obtain rfl : v = 0 := by
      rcases hv with h | h
      · exact absurd h.2.choose_spec.2 (hx _ h.2.choose_spec.1)
      · exact h.1
    refine AW.run 3 [true] (32, [(0, .inr (.inr (4, 0, 0))), (1, .inl x), (2, .inl y)], [.inl 1], σ) [icP .eq (0 : Int32) 0] rfl ?_ ?_
    · exact allP1 (by decide : ((0 : Int32) = 0))
    refine AW.retz ⟨_, rfl⟩ rfl (by decide) ?_
    exact ⟨rfl, rfl⟩
  · skip
    refine AW.run 3 [] (5, [(0, .inr (.inr (4, 0, 0))), (1, .inl (nI k)), (2, .inl y)], [.inl (nI k), .inr (.inr (2, 0, 0))], σ) [] rfl ?_ ?_
    · exact trivial
    refine AW.callVI (d' := 0) [.inl (nI k)] [] ⟨_, rfl⟩ f_3_has v_3_has l_5_74 ⟨rfl, by decide⟩ rfl (Nat.le_of_ble_eq_true rfl) rfl (Nat.le_of_ble_eq_true rfl) (c3_has 0 F.1 σ hS hO (nI k)) ?_
    rintro v _ ⟨rfl, hv⟩
    obtain rfl : v = 1 := by
      rcases hv with h | h
      · exact h.1
      · exact absurd rfl (h.2 k hk)
    refine AW.run 4 [false] (16, [(0, .inr (.inr (4, 0, 0))), (1, .inl (nI k)), (2, .inl y)], [.inl y, .inr (.inr (2, 0, 0))], σ) [¬ icP .eq (1 : Int32) 0] rfl ?_ ?_
    · exact allP1 (by decide : ¬ ((1 : Int32) = 0))
    refine AW.callVI (d' := 0) [.inl y] [] ⟨_, rfl⟩ f_3_has v_3_has l_5_74 ⟨rfl, by decide⟩ rfl (Nat.le_of_ble_eq_true rfl) rfl (Nat.le_of_ble_eq_true rfl) (c3_has 0 F.1 σ hS hO y) ?_
    rintro v _ ⟨rfl, hv⟩
    obtain rfl : v = 0 := by
      rcases hv with h | h
      · exact absurd h.2.choose_spec.2 (hy _ h.2.choose_spec.1)
      · exact h.1
    refine AW.run 3 [true] (32, [(0, .inr (.inr (4, 0, 0))), (1, .inl (nI k)), (2, .inl y)], [.inl 1], σ) [icP .eq (0 : Int32) 0] rfl ?_ ?_
    · exact allP1 (by decide : ((0 : Int32) = 0))
    refine AW.retz ⟨_, rfl⟩ rfl (by decide) ?_
    exact ⟨rfl, rfl⟩
  · skip
    refine AW.run 3 [] (5, [(0, .inr (.inr (4, 0, 0))), (1, .inl (nI k)), (2, .inl (nI k))], [.inl (nI k), .inr (.inr (2, 0, 0))], σ) [] rfl ?_ ?_
    · exact trivial
    refine AW.callVI (d' := 0) [.inl (nI k)] [] ⟨_, rfl⟩ f_3_has v_3_has l_5_74 ⟨rfl, by decide⟩ rfl (Nat.le_of_ble_eq_true rfl) rfl (Nat.le_of_ble_eq_true rfl) (c3_has 0 F.1 σ hS hO (nI k)) ?_
    rintro v _ ⟨rfl, hv⟩
    obtain rfl : v = 1 := by
      rcases hv with h | h
      · exact h.1
      · exact absurd rfl (h.2 k hk)
    refine AW.run 4 [false] (16, [(0, .inr (.inr (4, 0, 0))), (1, .inl (nI k)), (2, .inl (nI k))], [.inl (nI k), .inr (.inr (2, 0, 0))], σ) [¬ icP .eq (1 : Int32) 0] rfl ?_ ?_
    · exact allP1 (by decide : ¬ ((1 : Int32) = 0))
    refine AW.callVI (d' := 0) [.inl (nI k)] [] ⟨_, rfl⟩ f_3_has v_3_has l_5_74 ⟨rfl, by decide⟩ rfl (Nat.le_of_ble_eq_true rfl) rfl (Nat.le_of_ble_eq_true rfl) (c3_has 0 F.1 σ hS hO (nI k)) ?_
    rintro v _ ⟨rfl, hv⟩
    obtain rfl : v = 1 := by
      rcases hv with h | h
      · exact h.1
      · exact absurd rfl (h.2 k hk)
    refine AW.run 6 [false, false] (32, [(0, .inr (.inr (4, 0, 0))), (1, .inl (nI k)), (2, .inl (nI k))], [.inl 1], σ) [¬ icP .eq (1 : Int32) 0, ¬ icP .ne (nI k) (nI k)] rfl ?_ ?_
    · exact ⟨(by decide : ¬ ((1 : Int32) = 0)), allP1 (fun q => q rfl)⟩
    refine AW.retz ⟨_, rfl⟩ rfl (by decide) ?_
    exact ⟨rfl, rfl⟩
set_option maxHeartbeats 4000000 in
set_option maxRecDepth 100000 in
theorem c5_two (F : Gv) (σ : St) (hA : RepA σ F) (hF : FOK F) (x : Int32) (y : Int32) (n : Int32) : Ct M5_two 5 [.inr (.inr (4, 0, 0)), .inl x, .inl y, .inl n] σ (QA σ (twoRP F x y n)) := by
  refine Ct.of f_5_two (Nat.le_of_ble_eq_true rfl) ?_
  show AW M5_two 5 _ (0, [(0, .inr (.inr (4, 0, 0))), (1, .inl x), (2, .inl y), (3, .inl n)], [], σ)
  have hS : RepS (σ 2 0) F.1 := hA.1
  have hO : SOK F.1 := hF.1.1
  have hn8 : Sn F.1 ≤ 8 := hO.1
  rcases pair_or F hn8 x y with ⟨a, b, ha, hb, hne, rfl, rfl, hpr⟩ | ⟨hpr, hno⟩
  · skip
    rcases fMax_or 60 (by decide) n with ⟨h4n1, en1⟩ | ⟨h4n1, h6n1, en1⟩ | ⟨n1, hn1, rfl, en1⟩
    · skip
      refine AW.run 3 [] (3, [(0, .inr (.inr (4, 0, 0))), (1, .inl (nI a)), (2, .inl (nI b)), (3, .inl n)], [.inl (nI b), .inl (nI a), .inr (.inr (4, 0, 0))], σ) [] rfl ?_ ?_
      · exact trivial
      refine AW.callVI (d' := 1) [.inl (nI a), .inl (nI b)] [] ⟨_, rfl⟩ f_5_areNoTwo v_5_areNoTwo l_5_226 ⟨rfl, by decide⟩ rfl (Nat.le_of_ble_eq_true rfl) rfl (Nat.le_of_ble_eq_true rfl) (c5_areNoTwo0 F σ hA hF a b ha hb hne) ?_
      rintro _ _ ⟨rfl, rfl⟩
      refine AW.run 2 [true] (16, [(0, .inr (.inr (4, 0, 0))), (1, .inl (nI a)), (2, .inl (nI b)), (3, .inl n)], [.inl n], σ) [icP .eq (0 : Int32) 0] rfl ?_ ?_
      · exact allP1 (by decide : ((0 : Int32) = 0))
      refine AW.callSI (d' := 0) [.inl n] [] ⟨_, rfl⟩ f_5_aheadFault s_5_aheadFault l_5_156 rfl (Nat.le_of_ble_eq_true rfl) rfl (Nat.le_of_ble_eq_true rfl) (c5_aheadFault4 n h4n1 σ) ?_
      rintro _ _ ⟨rfl, rfl⟩
      refine AW.run 5 [false] (29, [(4, .inl (-4)), (0, .inr (.inr (4, 0, 0))), (1, .inl (nI a)), (2, .inl (nI b)), (3, .inl n)], [.inl (-4), .inr (.inr (4, 0, 0))], σ) [¬ icP .eq ((-4) : Int32) 0] rfl ?_ ?_
      · exact allP1 (by decide : ¬ (((-4) : Int32) = 0))
      refine AW.callVI (d' := 0) [.inl (-4)] [] ⟨_, rfl⟩ f_5_refuse v_5_refuse l_5_50 ⟨rfl, by decide⟩ rfl (Nat.le_of_ble_eq_true rfl) rfl (Nat.le_of_ble_eq_true rfl) (c5_refuse4 σ) ?_
      rintro _ _ ⟨rfl, rfl⟩
      refine AW.reti ⟨_, rfl⟩ rfl ?_
      exact ⟨rfuF F 4, (by unfold twoRP; rw [hpr]; (try dsimp only); rw [maxP_e4 en1]; try rfl), RepA_ref hA (by decide) (by decide)⟩
    · skip
      refine AW.run 3 [] (3, [(0, .inr (.inr (4, 0, 0))), (1, .inl (nI a)), (2, .inl (nI b)), (3, .inl n)], [.inl (nI b), .inl (nI a), .inr (.inr (4, 0, 0))], σ) [] rfl ?_ ?_
      · exact trivial
      refine AW.callVI (d' := 1) [.inl (nI a), .inl (nI b)] [] ⟨_, rfl⟩ f_5_areNoTwo v_5_areNoTwo l_5_226 ⟨rfl, by decide⟩ rfl (Nat.le_of_ble_eq_true rfl) rfl (Nat.le_of_ble_eq_true rfl) (c5_areNoTwo0 F σ hA hF a b ha hb hne) ?_
      rintro _ _ ⟨rfl, rfl⟩
      refine AW.run 2 [true] (16, [(0, .inr (.inr (4, 0, 0))), (1, .inl (nI a)), (2, .inl (nI b)), (3, .inl n)], [.inl n], σ) [icP .eq (0 : Int32) 0] rfl ?_ ?_
      · exact allP1 (by decide : ((0 : Int32) = 0))
      refine AW.callSI (d' := 0) [.inl n] [] ⟨_, rfl⟩ f_5_aheadFault s_5_aheadFault l_5_156 rfl (Nat.le_of_ble_eq_true rfl) rfl (Nat.le_of_ble_eq_true rfl) (c5_aheadFault6 n h4n1 h6n1 σ) ?_
      rintro _ _ ⟨rfl, rfl⟩
      refine AW.run 5 [false] (29, [(4, .inl (-6)), (0, .inr (.inr (4, 0, 0))), (1, .inl (nI a)), (2, .inl (nI b)), (3, .inl n)], [.inl (-6), .inr (.inr (4, 0, 0))], σ) [¬ icP .eq ((-6) : Int32) 0] rfl ?_ ?_
      · exact allP1 (by decide : ¬ (((-6) : Int32) = 0))
      refine AW.callVI (d' := 0) [.inl (-6)] [] ⟨_, rfl⟩ f_5_refuse v_5_refuse l_5_50 ⟨rfl, by decide⟩ rfl (Nat.le_of_ble_eq_true rfl) rfl (Nat.le_of_ble_eq_true rfl) (c5_refuse6 σ) ?_
      rintro _ _ ⟨rfl, rfl⟩
      refine AW.reti ⟨_, rfl⟩ rfl ?_
      exact ⟨rfuF F 6, (by unfold twoRP; rw [hpr]; (try dsimp only); rw [maxP_e6 en1]; try rfl), RepA_ref hA (by decide) (by decide)⟩
    · skip
      cases hw1 : Sw F.1 a
      · skip
        refine AW.run 3 [] (3, [(0, .inr (.inr (4, 0, 0))), (1, .inl (nI a)), (2, .inl (nI b)), (3, .inl (nI n1))], [.inl (nI b), .inl (nI a), .inr (.inr (4, 0, 0))], σ) [] rfl ?_ ?_
        · exact trivial
        refine AW.callVI (d' := 1) [.inl (nI a), .inl (nI b)] [] ⟨_, rfl⟩ f_5_areNoTwo v_5_areNoTwo l_5_226 ⟨rfl, by decide⟩ rfl (Nat.le_of_ble_eq_true rfl) rfl (Nat.le_of_ble_eq_true rfl) (c5_areNoTwo0 F σ hA hF a b ha hb hne) ?_
        rintro _ _ ⟨rfl, rfl⟩
        refine AW.run 2 [true] (16, [(0, .inr (.inr (4, 0, 0))), (1, .inl (nI a)), (2, .inl (nI b)), (3, .inl (nI n1))], [.inl (nI n1)], σ) [icP .eq (0 : Int32) 0] rfl ?_ ?_
        · exact allP1 (by decide : ((0 : Int32) = 0))
        refine AW.callSI (d' := 0) [.inl (nI n1)] [] ⟨_, rfl⟩ f_5_aheadFault s_5_aheadFault l_5_156 rfl (Nat.le_of_ble_eq_true rfl) rfl (Nat.le_of_ble_eq_true rfl) (c5_aheadFault0 n1 hn1 σ) ?_
        rintro _ _ ⟨rfl, rfl⟩
        refine AW.run 6 [true] (38, [(4, .inl 0), (0, .inr (.inr (4, 0, 0))), (1, .inl (nI a)), (2, .inl (nI b)), (3, .inl (nI n1))], [.inl (nI a), .inr (.inr (2, 0, 0))], σ) [icP .eq (0 : Int32) 0] rfl ?_ ?_
        · exact allP1 (by decide : ((0 : Int32) = 0))
        refine AW.callVI (d' := 0) [.inl (nI a)] [] ⟨_, rfl⟩ f_3_isWhole v_3_isWhole l_5_90 ⟨rfl, by decide⟩ rfl (Nat.le_of_ble_eq_true rfl) rfl (Nat.le_of_ble_eq_true rfl) (c3_isWhole 0 F.1 σ hS hO a (by omega)) ?_
        rintro v _ ⟨rfl, hv⟩
        obtain rfl : v = 0 := by
          rcases hv with h | h
          · exact absurd (hw1.symm.trans h.2) (by decide)
          · exact h.1
        refine AW.run 3 [true] (58, [(4, .inl 0), (0, .inr (.inr (4, 0, 0))), (1, .inl (nI a)), (2, .inl (nI b)), (3, .inl (nI n1))], [.inl (-3), .inr (.inr (4, 0, 0))], σ) [icP .eq (0 : Int32) 0] rfl ?_ ?_
        · exact allP1 (by decide : ((0 : Int32) = 0))
        refine AW.callVI (d' := 0) [.inl (-3)] [] ⟨_, rfl⟩ f_5_refuse v_5_refuse l_5_50 ⟨rfl, by decide⟩ rfl (Nat.le_of_ble_eq_true rfl) rfl (Nat.le_of_ble_eq_true rfl) (c5_refuse3 σ) ?_
        rintro _ _ ⟨rfl, rfl⟩
        refine AW.reti ⟨_, rfl⟩ rfl ?_
        exact ⟨rfuF F 3, (by unfold twoRP; rw [hpr]; (try dsimp only); rw [maxP_e0 en1 (by omega)]; (try dsimp only); rw [if_neg (fun h => by rw [hw1] at h; exact absurd h.1 (by decide))]; try rfl), RepA_ref hA (by decide) (by decide)⟩
      cases hw2 : Sw F.1 b
      · skip
        refine AW.run 3 [] (3, [(0, .inr (.inr (4, 0, 0))), (1, .inl (nI a)), (2, .inl (nI b)), (3, .inl (nI n1))], [.inl (nI b), .inl (nI a), .inr (.inr (4, 0, 0))], σ) [] rfl ?_ ?_
        · exact trivial
        refine AW.callVI (d' := 1) [.inl (nI a), .inl (nI b)] [] ⟨_, rfl⟩ f_5_areNoTwo v_5_areNoTwo l_5_226 ⟨rfl, by decide⟩ rfl (Nat.le_of_ble_eq_true rfl) rfl (Nat.le_of_ble_eq_true rfl) (c5_areNoTwo0 F σ hA hF a b ha hb hne) ?_
        rintro _ _ ⟨rfl, rfl⟩
        refine AW.run 2 [true] (16, [(0, .inr (.inr (4, 0, 0))), (1, .inl (nI a)), (2, .inl (nI b)), (3, .inl (nI n1))], [.inl (nI n1)], σ) [icP .eq (0 : Int32) 0] rfl ?_ ?_
        · exact allP1 (by decide : ((0 : Int32) = 0))
        refine AW.callSI (d' := 0) [.inl (nI n1)] [] ⟨_, rfl⟩ f_5_aheadFault s_5_aheadFault l_5_156 rfl (Nat.le_of_ble_eq_true rfl) rfl (Nat.le_of_ble_eq_true rfl) (c5_aheadFault0 n1 hn1 σ) ?_
        rintro _ _ ⟨rfl, rfl⟩
        refine AW.run 6 [true] (38, [(4, .inl 0), (0, .inr (.inr (4, 0, 0))), (1, .inl (nI a)), (2, .inl (nI b)), (3, .inl (nI n1))], [.inl (nI a), .inr (.inr (2, 0, 0))], σ) [icP .eq (0 : Int32) 0] rfl ?_ ?_
        · exact allP1 (by decide : ((0 : Int32) = 0))
        refine AW.callVI (d' := 0) [.inl (nI a)] [] ⟨_, rfl⟩ f_3_isWhole v_3_isWhole l_5_90 ⟨rfl, by decide⟩ rfl (Nat.le_of_ble_eq_true rfl) rfl (Nat.le_of_ble_eq_true rfl) (c3_isWhole 0 F.1 σ hS hO a (by omega)) ?_
        rintro v _ ⟨rfl, hv⟩
        obtain rfl : v = 1 := by
          rcases hv with h | h
          · exact h.1
          · exact absurd (hw1.symm.trans h.2) (by decide)
        refine AW.run 4 [false] (49, [(4, .inl 0), (0, .inr (.inr (4, 0, 0))), (1, .inl (nI a)), (2, .inl (nI b)), (3, .inl (nI n1))], [.inl (nI b), .inr (.inr (2, 0, 0))], σ) [¬ icP .eq (1 : Int32) 0] rfl ?_ ?_
        · exact allP1 (by decide : ¬ ((1 : Int32) = 0))
        refine AW.callVI (d' := 0) [.inl (nI b)] [] ⟨_, rfl⟩ f_3_isWhole v_3_isWhole l_5_90 ⟨rfl, by decide⟩ rfl (Nat.le_of_ble_eq_true rfl) rfl (Nat.le_of_ble_eq_true rfl) (c3_isWhole 0 F.1 σ hS hO b (by omega)) ?_
        rintro v _ ⟨rfl, hv⟩
        obtain rfl : v = 0 := by
          rcases hv with h | h
          · exact absurd (hw2.symm.trans h.2) (by decide)
          · exact h.1
        refine AW.run 3 [false] (58, [(4, .inl 0), (0, .inr (.inr (4, 0, 0))), (1, .inl (nI a)), (2, .inl (nI b)), (3, .inl (nI n1))], [.inl (-3), .inr (.inr (4, 0, 0))], σ) [¬ icP .ne (0 : Int32) 0] rfl ?_ ?_
        · exact allP1 (by decide : ¬ (¬ (0 : Int32) = 0))
        refine AW.callVI (d' := 0) [.inl (-3)] [] ⟨_, rfl⟩ f_5_refuse v_5_refuse l_5_50 ⟨rfl, by decide⟩ rfl (Nat.le_of_ble_eq_true rfl) rfl (Nat.le_of_ble_eq_true rfl) (c5_refuse3 σ) ?_
        rintro _ _ ⟨rfl, rfl⟩
        refine AW.reti ⟨_, rfl⟩ rfl ?_
        exact ⟨rfuF F 3, (by unfold twoRP; rw [hpr]; (try dsimp only); rw [maxP_e0 en1 (by omega)]; (try dsimp only); rw [if_neg (fun h => by rw [hw2] at h; exact absurd h.2 (by decide))]; try rfl), RepA_ref hA (by decide) (by decide)⟩
      · skip
        refine AW.run 3 [] (3, [(0, .inr (.inr (4, 0, 0))), (1, .inl (nI a)), (2, .inl (nI b)), (3, .inl (nI n1))], [.inl (nI b), .inl (nI a), .inr (.inr (4, 0, 0))], σ) [] rfl ?_ ?_
        · exact trivial
        refine AW.callVI (d' := 1) [.inl (nI a), .inl (nI b)] [] ⟨_, rfl⟩ f_5_areNoTwo v_5_areNoTwo l_5_226 ⟨rfl, by decide⟩ rfl (Nat.le_of_ble_eq_true rfl) rfl (Nat.le_of_ble_eq_true rfl) (c5_areNoTwo0 F σ hA hF a b ha hb hne) ?_
        rintro _ _ ⟨rfl, rfl⟩
        refine AW.run 2 [true] (16, [(0, .inr (.inr (4, 0, 0))), (1, .inl (nI a)), (2, .inl (nI b)), (3, .inl (nI n1))], [.inl (nI n1)], σ) [icP .eq (0 : Int32) 0] rfl ?_ ?_
        · exact allP1 (by decide : ((0 : Int32) = 0))
        refine AW.callSI (d' := 0) [.inl (nI n1)] [] ⟨_, rfl⟩ f_5_aheadFault s_5_aheadFault l_5_156 rfl (Nat.le_of_ble_eq_true rfl) rfl (Nat.le_of_ble_eq_true rfl) (c5_aheadFault0 n1 hn1 σ) ?_
        rintro _ _ ⟨rfl, rfl⟩
        refine AW.run 6 [true] (38, [(4, .inl 0), (0, .inr (.inr (4, 0, 0))), (1, .inl (nI a)), (2, .inl (nI b)), (3, .inl (nI n1))], [.inl (nI a), .inr (.inr (2, 0, 0))], σ) [icP .eq (0 : Int32) 0] rfl ?_ ?_
        · exact allP1 (by decide : ((0 : Int32) = 0))
        refine AW.callVI (d' := 0) [.inl (nI a)] [] ⟨_, rfl⟩ f_3_isWhole v_3_isWhole l_5_90 ⟨rfl, by decide⟩ rfl (Nat.le_of_ble_eq_true rfl) rfl (Nat.le_of_ble_eq_true rfl) (c3_isWhole 0 F.1 σ hS hO a (by omega)) ?_
        rintro v _ ⟨rfl, hv⟩
        obtain rfl : v = 1 := by
          rcases hv with h | h
          · exact h.1
          · exact absurd (hw1.symm.trans h.2) (by decide)
        refine AW.run 4 [false] (49, [(4, .inl 0), (0, .inr (.inr (4, 0, 0))), (1, .inl (nI a)), (2, .inl (nI b)), (3, .inl (nI n1))], [.inl (nI b), .inr (.inr (2, 0, 0))], σ) [¬ icP .eq (1 : Int32) 0] rfl ?_ ?_
        · exact allP1 (by decide : ¬ ((1 : Int32) = 0))
        refine AW.callVI (d' := 0) [.inl (nI b)] [] ⟨_, rfl⟩ f_3_isWhole v_3_isWhole l_5_90 ⟨rfl, by decide⟩ rfl (Nat.le_of_ble_eq_true rfl) rfl (Nat.le_of_ble_eq_true rfl) (c3_isWhole 0 F.1 σ hS hO b (by omega)) ?_
        rintro v _ ⟨rfl, hv⟩
        obtain rfl : v = 1 := by
          rcases hv with h | h
          · exact h.1
          · exact absurd (hw2.symm.trans h.2) (by decide)
        refine AW.run 8 [true] (73, [(4, .inl 0), (0, .inr (.inr (4, 0, 0))), (1, .inl (nI a)), (2, .inl (nI b)), (3, .inl (nI n1))], [.inl (nI n1), .inl (nI b), .inl (nI a), .inr (.inr (2, 0, 0)), .inr (.inr (0, 0, 0))], σ) [icP .ne (1 : Int32) 0] rfl ?_ ?_
        · exact allP1 (by decide : (¬ (1 : Int32) = 0))
        refine AW.callVI (d' := 4) [.inr (.inr (2, 0, 0)), .inl (nI a), .inl (nI b), .inl (nI n1)] [] ⟨_, rfl⟩ f_1_restingPair v_1_restingPair l_5_230 ⟨rfl, by decide⟩ rfl (Nat.le_of_ble_eq_true rfl) rfl (Nat.le_of_ble_eq_true rfl) (c1_restingPair F.1 σ hS hO a b n1 ha hb (by omega)) ?_
        rintro _ τ ⟨rfl, hM⟩
        refine AW.reti ⟨_, rfl⟩ rfl ?_
        exact ⟨F, (by unfold twoRP; rw [hpr]; (try dsimp only); rw [maxP_e0 en1 (by omega)]; (try dsimp only); rw [if_pos ⟨hw1, hw2⟩]; try rfl), RepA_mind hM hA⟩
  · skip
    refine AW.run 3 [] (3, [(0, .inr (.inr (4, 0, 0))), (1, .inl x), (2, .inl y), (3, .inl n)], [.inl y, .inl x, .inr (.inr (4, 0, 0))], σ) [] rfl ?_ ?_
    · exact trivial
    refine AW.callVI (d' := 1) [.inl x, .inl y] [] ⟨_, rfl⟩ f_5_areNoTwo v_5_areNoTwo l_5_226 ⟨rfl, by decide⟩ rfl (Nat.le_of_ble_eq_true rfl) rfl (Nat.le_of_ble_eq_true rfl) (c5_areNoTwo1 F σ hA hF x y hno) ?_
    rintro _ _ ⟨rfl, rfl⟩
    refine AW.run 3 [false] (11, [(0, .inr (.inr (4, 0, 0))), (1, .inl x), (2, .inl y), (3, .inl n)], [.inl (-1), .inr (.inr (4, 0, 0))], σ) [¬ icP .eq (1 : Int32) 0] rfl ?_ ?_
    · exact allP1 (by decide : ¬ ((1 : Int32) = 0))
    refine AW.callVI (d' := 0) [.inl (-1)] [] ⟨_, rfl⟩ f_5_refuse v_5_refuse l_5_50 ⟨rfl, by decide⟩ rfl (Nat.le_of_ble_eq_true rfl) rfl (Nat.le_of_ble_eq_true rfl) (c5_refuse1 σ) ?_
    rintro _ _ ⟨rfl, rfl⟩
    refine AW.reti ⟨_, rfl⟩ rfl ?_
    exact ⟨rfuF F 1, (by unfold twoRP; rw [hpr]; try rfl), RepA_ref hA (by decide) (by decide)⟩
set_option maxHeartbeats 4000000 in
set_option maxRecDepth 100000 in
theorem c5_eased (F : Gv) (σ : St) (hA : RepA σ F) (hF : FOK F) (x : Int32) (y : Int32) (n : Int32) : Ct M5_eased 6 [.inr (.inr (4, 0, 0)), .inl x, .inl y, .inl n] σ (QA σ (easedP F x y n)) := by
  refine Ct.of f_5_eased (Nat.le_of_ble_eq_true rfl) ?_
  show AW M5_eased 6 _ (0, [(0, .inr (.inr (4, 0, 0))), (1, .inl x), (2, .inl y), (3, .inl n)], [], σ)
  have hS : RepS (σ 2 0) F.1 := hA.1
  have hO : SOK F.1 := hF.1.1
  have hn8 : Sn F.1 ≤ 8 := hO.1
  rcases pair_or F hn8 x y with ⟨a, b, ha, hb, hne, rfl, rfl, hpr⟩ | ⟨hpr, hno⟩
  · skip
    rcases fMax_or 60 (by decide) n with ⟨h4n1, en1⟩ | ⟨h4n1, h6n1, en1⟩ | ⟨n1, hn1, rfl, en1⟩
    · skip
      refine AW.run 3 [] (3, [(0, .inr (.inr (4, 0, 0))), (1, .inl (nI a)), (2, .inl (nI b)), (3, .inl n)], [.inl (nI b), .inl (nI a), .inr (.inr (4, 0, 0))], σ) [] rfl ?_ ?_
      · exact trivial
      refine AW.callVI (d' := 1) [.inl (nI a), .inl (nI b)] [] ⟨_, rfl⟩ f_5_areNoTwo v_5_areNoTwo l_5_226 ⟨rfl, by decide⟩ rfl (Nat.le_of_ble_eq_true rfl) rfl (Nat.le_of_ble_eq_true rfl) (c5_areNoTwo0 F σ hA hF a b ha hb hne) ?_
      rintro _ _ ⟨rfl, rfl⟩
      refine AW.run 2 [true] (14, [(0, .inr (.inr (4, 0, 0))), (1, .inl (nI a)), (2, .inl (nI b)), (3, .inl n)], [.inl n], σ) [icP .eq (0 : Int32) 0] rfl ?_ ?_
      · exact allP1 (by decide : ((0 : Int32) = 0))
      refine AW.callSI (d' := 0) [.inl n] [] ⟨_, rfl⟩ f_5_aheadFault s_5_aheadFault l_5_156 rfl (Nat.le_of_ble_eq_true rfl) rfl (Nat.le_of_ble_eq_true rfl) (c5_aheadFault4 n h4n1 σ) ?_
      rintro _ _ ⟨rfl, rfl⟩
      refine AW.run 6 [false] (30, [(4, .inl (-4)), (0, .inr (.inr (4, 0, 0))), (1, .inl (nI a)), (2, .inl (nI b)), (3, .inl n)], [.inl (-4), .inr (.inr (4, 0, 0)), .inl 1000000000], σ) [¬ icP .eq ((-4) : Int32) 0] rfl ?_ ?_
      · exact allP1 (by decide : ¬ (((-4) : Int32) = 0))
      refine AW.callVI (d' := 0) [.inl (-4)] [.inl 1000000000] ⟨_, rfl⟩ f_5_refuse v_5_refuse l_5_50 ⟨rfl, by decide⟩ rfl (Nat.le_of_ble_eq_true rfl) rfl (Nat.le_of_ble_eq_true rfl) (c5_refuse4 σ) ?_
      rintro _ _ ⟨rfl, rfl⟩
      refine AW.run 1 [] (34, [(4, .inl (-4)), (0, .inr (.inr (4, 0, 0))), (1, .inl (nI a)), (2, .inl (nI b)), (3, .inl n)], [.inl (1000000000 - (-4))], (setM σ 4 0 8 4 (σ 4 0 8 4 + 1))) [] rfl ?_ ?_
      · exact trivial
      refine AW.reti ⟨_, rfl⟩ rfl ?_
      exact ⟨rfuF F 4, (by unfold easedP; rw [hpr]; dsimp only; rw [en1]; rfl), RepA_ref hA (by decide) (by decide)⟩
    · skip
      refine AW.run 3 [] (3, [(0, .inr (.inr (4, 0, 0))), (1, .inl (nI a)), (2, .inl (nI b)), (3, .inl n)], [.inl (nI b), .inl (nI a), .inr (.inr (4, 0, 0))], σ) [] rfl ?_ ?_
      · exact trivial
      refine AW.callVI (d' := 1) [.inl (nI a), .inl (nI b)] [] ⟨_, rfl⟩ f_5_areNoTwo v_5_areNoTwo l_5_226 ⟨rfl, by decide⟩ rfl (Nat.le_of_ble_eq_true rfl) rfl (Nat.le_of_ble_eq_true rfl) (c5_areNoTwo0 F σ hA hF a b ha hb hne) ?_
      rintro _ _ ⟨rfl, rfl⟩
      refine AW.run 2 [true] (14, [(0, .inr (.inr (4, 0, 0))), (1, .inl (nI a)), (2, .inl (nI b)), (3, .inl n)], [.inl n], σ) [icP .eq (0 : Int32) 0] rfl ?_ ?_
      · exact allP1 (by decide : ((0 : Int32) = 0))
      refine AW.callSI (d' := 0) [.inl n] [] ⟨_, rfl⟩ f_5_aheadFault s_5_aheadFault l_5_156 rfl (Nat.le_of_ble_eq_true rfl) rfl (Nat.le_of_ble_eq_true rfl) (c5_aheadFault6 n h4n1 h6n1 σ) ?_
      rintro _ _ ⟨rfl, rfl⟩
      refine AW.run 6 [false] (30, [(4, .inl (-6)), (0, .inr (.inr (4, 0, 0))), (1, .inl (nI a)), (2, .inl (nI b)), (3, .inl n)], [.inl (-6), .inr (.inr (4, 0, 0)), .inl 1000000000], σ) [¬ icP .eq ((-6) : Int32) 0] rfl ?_ ?_
      · exact allP1 (by decide : ¬ (((-6) : Int32) = 0))
      refine AW.callVI (d' := 0) [.inl (-6)] [.inl 1000000000] ⟨_, rfl⟩ f_5_refuse v_5_refuse l_5_50 ⟨rfl, by decide⟩ rfl (Nat.le_of_ble_eq_true rfl) rfl (Nat.le_of_ble_eq_true rfl) (c5_refuse6 σ) ?_
      rintro _ _ ⟨rfl, rfl⟩
      refine AW.run 1 [] (34, [(4, .inl (-6)), (0, .inr (.inr (4, 0, 0))), (1, .inl (nI a)), (2, .inl (nI b)), (3, .inl n)], [.inl (1000000000 - (-6))], (setM σ 4 0 8 6 (σ 4 0 8 6 + 1))) [] rfl ?_ ?_
      · exact trivial
      refine AW.reti ⟨_, rfl⟩ rfl ?_
      exact ⟨rfuF F 6, (by unfold easedP; rw [hpr]; dsimp only; rw [en1]; rfl), RepA_ref hA (by decide) (by decide)⟩
    · skip
      refine AW.run 3 [] (3, [(0, .inr (.inr (4, 0, 0))), (1, .inl (nI a)), (2, .inl (nI b)), (3, .inl (nI n1))], [.inl (nI b), .inl (nI a), .inr (.inr (4, 0, 0))], σ) [] rfl ?_ ?_
      · exact trivial
      refine AW.callVI (d' := 1) [.inl (nI a), .inl (nI b)] [] ⟨_, rfl⟩ f_5_areNoTwo v_5_areNoTwo l_5_226 ⟨rfl, by decide⟩ rfl (Nat.le_of_ble_eq_true rfl) rfl (Nat.le_of_ble_eq_true rfl) (c5_areNoTwo0 F σ hA hF a b ha hb hne) ?_
      rintro _ _ ⟨rfl, rfl⟩
      refine AW.run 2 [true] (14, [(0, .inr (.inr (4, 0, 0))), (1, .inl (nI a)), (2, .inl (nI b)), (3, .inl (nI n1))], [.inl (nI n1)], σ) [icP .eq (0 : Int32) 0] rfl ?_ ?_
      · exact allP1 (by decide : ((0 : Int32) = 0))
      refine AW.callSI (d' := 0) [.inl (nI n1)] [] ⟨_, rfl⟩ f_5_aheadFault s_5_aheadFault l_5_156 rfl (Nat.le_of_ble_eq_true rfl) rfl (Nat.le_of_ble_eq_true rfl) (c5_aheadFault0 n1 hn1 σ) ?_
      rintro _ _ ⟨rfl, rfl⟩
      refine AW.run 10 [true] (46, [(4, .inl 0), (0, .inr (.inr (4, 0, 0))), (1, .inl (nI a)), (2, .inl (nI b)), (3, .inl (nI n1))], [.inl (nI n1), .inl (nI b), .inl (nI a), .inr (.inr (2, 0, 0)), .inr (.inr (0, 0, 0))], σ) [icP .eq (0 : Int32) 0] rfl ?_ ?_
      · exact allP1 (by decide : ((0 : Int32) = 0))
      refine AW.callVI (d' := 5) [.inr (.inr (2, 0, 0)), .inl (nI a), .inl (nI b), .inl (nI n1)] [] ⟨_, rfl⟩ f_1_easedBy v_1_easedBy l_5_270 ⟨rfl, by decide⟩ rfl (Nat.le_of_ble_eq_true rfl) rfl (Nat.le_of_ble_eq_true rfl) (c1_easedBy F.1 σ hS hO a b n1 ha hb (by omega)) ?_
      rintro _ τ ⟨rfl, hM⟩
      refine AW.reti ⟨_, rfl⟩ rfl ?_
      exact ⟨F, (by unfold easedP; rw [hpr]; dsimp only; rw [en1]; show (nI (Sq (passS (nI n1).toNatClampNeg F.1) a) - nI (Sq (passS (nI n1).toNatClampNeg (withW F.1 (fu (Sw F.1) b false))) a), F) = _; rw [nI_clamp (by omega)]), RepA_mind (onlyM_of hM) hA⟩
  · skip
    refine AW.run 3 [] (3, [(0, .inr (.inr (4, 0, 0))), (1, .inl x), (2, .inl y), (3, .inl n)], [.inl y, .inl x, .inr (.inr (4, 0, 0))], σ) [] rfl ?_ ?_
    · exact trivial
    refine AW.callVI (d' := 1) [.inl x, .inl y] [] ⟨_, rfl⟩ f_5_areNoTwo v_5_areNoTwo l_5_226 ⟨rfl, by decide⟩ rfl (Nat.le_of_ble_eq_true rfl) rfl (Nat.le_of_ble_eq_true rfl) (c5_areNoTwo1 F σ hA hF x y hno) ?_
    rintro _ _ ⟨rfl, rfl⟩
    refine AW.run 9 [false, false] (30, [(4, .inl (-1)), (0, .inr (.inr (4, 0, 0))), (1, .inl x), (2, .inl y), (3, .inl n)], [.inl (-1), .inr (.inr (4, 0, 0)), .inl 1000000000], σ) [¬ icP .eq (1 : Int32) 0, ¬ icP .eq ((-1) : Int32) 0] rfl ?_ ?_
    · exact ⟨(by decide : ¬ ((1 : Int32) = 0)), allP1 (by decide : ¬ (((-1) : Int32) = 0))⟩
    refine AW.callVI (d' := 0) [.inl (-1)] [.inl 1000000000] ⟨_, rfl⟩ f_5_refuse v_5_refuse l_5_50 ⟨rfl, by decide⟩ rfl (Nat.le_of_ble_eq_true rfl) rfl (Nat.le_of_ble_eq_true rfl) (c5_refuse1 σ) ?_
    rintro _ _ ⟨rfl, rfl⟩
    refine AW.run 1 [] (34, [(4, .inl (-1)), (0, .inr (.inr (4, 0, 0))), (1, .inl x), (2, .inl y), (3, .inl n)], [.inl (1000000000 - (-1))], (setM σ 4 0 8 1 (σ 4 0 8 1 + 1))) [] rfl ?_ ?_
    · exact trivial
    refine AW.reti ⟨_, rfl⟩ rfl ?_
    exact ⟨rfuF F 1, (by unfold easedP; rw [hpr]; rfl), RepA_ref hA (by decide) (by decide)⟩
theorem lt2_or (t : Int32) : t < 2 ∨ ∃ k, 2 ≤ k ∧ k < 2 ^ 31 ∧ t = nI k ∧ ¬ t < 2 := by
  by_cases h : t < 2
  · exact Or.inl h
  · have h0 : ¬ t < 0 := by
      intro q
      rw [Int32.lt_iff_toInt_lt] at h q
      have e0 : (0 : Int32).toInt = 0 := by decide
      have e1 : (2 : Int32).toInt = 2 := by decide
      omega
    obtain ⟨k, hk, rfl⟩ := nI_of h0
    refine Or.inr ⟨k, ?_, hk, rfl, h⟩
    rcases Nat.lt_or_ge k 2 with q | q
    · exact absurd (nI_lt (b := 2) q (by decide)) h
    · exact q
theorem RepL_ref {σ : St} {F : Gv} {k : Nat} {r : Int64 × Gv} (hA : RepA σ F) (hk : 1 ≤ k) (hk2 : k ≤ 6) (h : r = rfuL F k) : ∃ F', r = (Int64.ofNat 4000000000000000000 - (cod k).toInt64, F') ∧ RepA (setM σ 4 0 8 k (σ 4 0 8 k + 1)) F' ∧ Oth σ (setM σ 4 0 8 k (σ 4 0 8 k + 1)) := ⟨rfuF F k, h, RepA_ref hA hk hk2⟩
theorem t_pow {t n : Nat} (ht : t ≤ 20) (hn : n ≤ 7) : t ^ n < 2 ^ 62 := by
  have h2 : t ^ n ≤ 20 ^ 7 := Nat.le_trans (Nat.pow_le_pow_left ht n) (Nat.pow_le_pow_right (by decide) hn)
  have h4 : (20 ^ 7 : Nat) < 2 ^ 62 := by decide
  omega
theorem p2_128 {n : Nat} (hn : n ≤ 7) : 2 ^ n ≤ 128 := Nat.pow_le_pow_right (by decide) hn
theorem nI_prd2 {t : Nat} (h : 2 ≤ t) : nI t - 1 = nI (t - 1) := by
  obtain ⟨k, rfl⟩ : ∃ k, t = k + 1 := ⟨t - 1, by omega⟩
  rw [nI_pred]; rfl
set_option maxHeartbeats 4000000 in
set_option maxRecDepth 100000 in
theorem c5_thunders (F : Gv) (σ : St) (hA : RepA σ F) (hF : FOK F) (b n t p : Int32) : Ct M5_thunders 4 [.inr (.inr (4, 0, 0)), .inl b, .inl n, .inl t, .inl p] σ (QL σ (thundersP F b n t p)) := by
  refine Ct.of f_5_thunders (Nat.le_of_ble_eq_true rfl) ?_
  show AW M5_thunders 4 _ (0, [(0, .inr (.inr (4, 0, 0))), (1, .inl b), (2, .inl n), (3, .inl t), (4, .inl p)], [], σ)
  have hS : RepS (σ 2 0) F.1 := hA.1
  have hO : SOK F.1 := hF.1.1
  have hn8 : Sn F.1 ≤ 8 := hO.1
  rcases bot_or (Sn F.1) b with ⟨k, hk, rfl⟩ | hno
  · have hbk : botI (Sn F.1) (nI k) = some k := botI_some hk (by omega)
    by_cases hn0 : n < 0
    · skip
      refine AW.run 3 [] (5, [(0, .inr (.inr (4, 0, 0))), (1, .inl (nI k)), (2, .inl n), (3, .inl t), (4, .inl p)], [.inl (nI k), .inr (.inr (2, 0, 0))], σ) [] rfl ?_ ?_
      · exact trivial
      refine AW.callVI (d' := 0) [.inl (nI k)] [] ⟨_, rfl⟩ f_3_has v_3_has l_5_74 ⟨rfl, by decide⟩ rfl (Nat.le_of_ble_eq_true rfl) rfl (Nat.le_of_ble_eq_true rfl) (c3_has 0 F.1 σ hS hO (nI k)) ?_
      rintro v _ ⟨rfl, hv⟩
      obtain rfl : v = 1 := by
        rcases hv with h | h
        · exact h.1
        · exact absurd rfl (h.2 k hk)
      refine AW.run 5 [true, true] (29, [(0, .inr (.inr (4, 0, 0))), (1, .inl (nI k)), (2, .inl n), (3, .inl t), (4, .inl p)], [.inl (-4), .inr (.inr (4, 0, 0))], σ) [icP .ne (1 : Int32) 0, icP .lt n 0] rfl ?_ ?_
      · exact ⟨(by decide : (¬ (1 : Int32) = 0)), allP1 (hn0)⟩
      refine AW.callVL (d' := 1) [.inl (-4)] [] ⟨_, rfl⟩ f_5_refuseLong v_5_refuseLong l_5_233 ⟨rfl, by decide⟩ rfl (Nat.le_of_ble_eq_true rfl) rfl (Nat.le_of_ble_eq_true rfl) (c5_refuseLong4 σ) ?_
      rintro _ _ ⟨rfl, rfl⟩
      refine AW.retl ⟨_, rfl⟩ rfl ?_
      exact RepL_ref (k := 4) hA (by decide) (by decide) (by unfold thundersP; rw [hbk]; dsimp only; rw [if_pos (Or.inl hn0)])
    rcases lt2_or t with ht2 | ⟨t1, ht2, ht31, rfl, htn⟩
    · skip
      refine AW.run 3 [] (5, [(0, .inr (.inr (4, 0, 0))), (1, .inl (nI k)), (2, .inl n), (3, .inl t), (4, .inl p)], [.inl (nI k), .inr (.inr (2, 0, 0))], σ) [] rfl ?_ ?_
      · exact trivial
      refine AW.callVI (d' := 0) [.inl (nI k)] [] ⟨_, rfl⟩ f_3_has v_3_has l_5_74 ⟨rfl, by decide⟩ rfl (Nat.le_of_ble_eq_true rfl) rfl (Nat.le_of_ble_eq_true rfl) (c3_has 0 F.1 σ hS hO (nI k)) ?_
      rintro v _ ⟨rfl, hv⟩
      obtain rfl : v = 1 := by
        rcases hv with h | h
        · exact h.1
        · exact absurd rfl (h.2 k hk)
      refine AW.run 8 [true, false, false] (29, [(0, .inr (.inr (4, 0, 0))), (1, .inl (nI k)), (2, .inl n), (3, .inl t), (4, .inl p)], [.inl (-4), .inr (.inr (4, 0, 0))], σ) [icP .ne (1 : Int32) 0, ¬ icP .lt n 0, ¬ icP .ge t 2] rfl ?_ ?_
      · exact ⟨(by decide : (¬ (1 : Int32) = 0)), (hn0), allP1 (nge_of ht2)⟩
      refine AW.callVL (d' := 1) [.inl (-4)] [] ⟨_, rfl⟩ f_5_refuseLong v_5_refuseLong l_5_233 ⟨rfl, by decide⟩ rfl (Nat.le_of_ble_eq_true rfl) rfl (Nat.le_of_ble_eq_true rfl) (c5_refuseLong4 σ) ?_
      rintro _ _ ⟨rfl, rfl⟩
      refine AW.retl ⟨_, rfl⟩ rfl ?_
      exact RepL_ref (k := 4) hA (by decide) (by decide) (by unfold thundersP; rw [hbk]; dsimp only; rw [if_pos (Or.inr ht2)])
    obtain ⟨n1, hn31, rfl⟩ := nI_of hn0
    have hneg : ¬ (nI n1 < 0 ∨ nI t1 < 2) := fun h => h.elim hn0 htn
    by_cases hn7 : n1 ≤ 7
    · by_cases ht20 : t1 ≤ 20
      · have hneg2 : ¬ (nI 7 < nI n1 ∨ nI 20 < nI t1) := fun h => h.elim (nI_nlt hn7 (by decide)) (nI_nlt ht20 (by decide))
        by_cases hp0 : p = 0
        · subst hp0
          refine AW.run 3 [] (5, [(0, .inr (.inr (4, 0, 0))), (1, .inl (nI k)), (2, .inl (nI n1)), (3, .inl (nI t1)), (4, .inl 0)], [.inl (nI k), .inr (.inr (2, 0, 0))], σ) [] rfl ?_ ?_
          · exact trivial
          refine AW.callVI (d' := 0) [.inl (nI k)] [] ⟨_, rfl⟩ f_3_has v_3_has l_5_74 ⟨rfl, by decide⟩ rfl (Nat.le_of_ble_eq_true rfl) rfl (Nat.le_of_ble_eq_true rfl) (c3_has 0 F.1 σ hS hO (nI k)) ?_
          rintro v _ ⟨rfl, hv⟩
          obtain rfl : v = 1 := by
            rcases hv with h | h
            · exact h.1
            · exact absurd rfl (h.2 k hk)
          refine AW.run 13 [true, false, true, false, true] (54, [(0, .inr (.inr (4, 0, 0))), (1, .inl (nI k)), (2, .inl (nI n1)), (3, .inl (nI t1)), (4, .inl 0)], [.inl 0], σ) [icP .ne (1 : Int32) 0, ¬ icP .lt (nI n1) 0, icP .ge (nI t1) 2, ¬ icP .gt (nI n1) 7, icP .le (nI t1) 20] rfl ?_ ?_
          · exact ⟨(by decide : (¬ (1 : Int32) = 0)), (hn0), (ge_of htn), (nI_nlt (a := 7) hn7 (by decide)), allP1 (nI_le (b := 20) ht20 (by decide))⟩
          refine AW.callSI (d' := 0) [.inl 0] [] ⟨_, rfl⟩ f_5_isNoTwo s_5_isNoTwo l_5_114 rfl (Nat.le_of_ble_eq_true rfl) rfl (Nat.le_of_ble_eq_true rfl) (c5_isNoTwo0 σ) ?_
          rintro _ _ ⟨rfl, rfl⟩
          refine AW.run 5 [true] (73, [(7, .inl 0), (5, .inr (.inl (Int64.ofNat 1))), (0, .inr (.inr (4, 0, 0))), (1, .inl (nI k)), (2, .inl (nI n1)), (3, .inl (nI t1)), (4, .inl 0)], [], σ) [icP .eq (0 : Int32) 0] rfl ?_ ?_
          · exact allP1 (by decide : ((0 : Int32) = 0))
          refine AW.pick [2, 3, 4, 5, 6, 1, 0] (ls' := [(0, .inr (.inr (4, 0, 0))), (1, .inl (nI k)), (2, .inl (nI n1)), (3, .inl (nI t1)), (4, .inl 0), (5, .inr (.inl (lN (t1 ^ 0)))), (7, .inl (nI 0))]) rfl ?_
          refine AW.loop (α := Unit) 73 n1 (fun i _ => [(0, .inr (.inr (4, 0, 0))), (1, .inl (nI k)), (2, .inl (nI n1)), (3, .inl (nI t1)), (4, .inl 0), (5, .inr (.inl (lN (t1 ^ i)))), (7, .inl (nI i))]) (fun i _ τ => σ = τ) ?_ ?_ n1 0 () _ (by omega) rfl
          · intro i _ τ hi hI hk9
            subst hI
            refine AW.run 7 [false] (84, [(0, .inr (.inr (4, 0, 0))), (1, .inl (nI k)), (2, .inl (nI n1)), (3, .inl (nI t1)), (4, .inl 0), (5, .inr (.inl (lN (t1 ^ i)))), (7, .inl (nI i))], [.inr (.inl ((lN (t1 ^ i)) * ((nI t1).toInt64)))], σ) [¬ icP .ge (nI i) (nI n1)] rfl ?_ ?_
            · exact allP1 (nI_ge hi (by omega))
            rw [nI_l (by omega), lN_mul, ← Nat.pow_succ]
            refine AW.run 3 [] (73, [(7, .inl ((nI i) + 1)), (5, .inr (.inl (lN (t1 ^ (i + 1))))), (0, .inr (.inr (4, 0, 0))), (1, .inl (nI k)), (2, .inl (nI n1)), (3, .inl (nI t1)), (4, .inl 0)], [], σ) [] rfl ?_ ?_
            · exact trivial
            rw [nI_1 i]
            refine AW.pick [2, 3, 4, 5, 6, 1, 0] (ls' := [(0, .inr (.inr (4, 0, 0))), (1, .inl (nI k)), (2, .inl (nI n1)), (3, .inl (nI t1)), (4, .inl 0), (5, .inr (.inl (lN (t1 ^ (i + 1))))), (7, .inl (nI (i + 1)))]) rfl ?_
            exact hk9 () _ rfl
          · intro _ τ hI
            subst hI
            refine AW.run 10 [true] (103, [(0, .inr (.inr (4, 0, 0))), (1, .inl (nI k)), (2, .inl (nI n1)), (3, .inl (nI t1)), (4, .inl 0), (5, .inr (.inl (lN (t1 ^ n1)))), (7, .inl (nI n1))], [.inl (nI t1), .inl (nI n1), .inl (nI k), .inr (.inr (2, 0, 0)), .inr (.inr (0, 0, 0))], σ) [icP .ge (nI n1) (nI n1)] rfl ?_ ?_
            · exact allP1 (nI_le (Nat.le_refl _) (by omega))
            refine AW.callVL (d' := 3) [.inr (.inr (2, 0, 0)), .inl (nI k), .inl (nI n1), .inl (nI t1)] [] ⟨_, rfl⟩ f_1_waysToStay v_1_waysToStay l_5_237 ⟨rfl, by decide⟩ rfl (Nat.le_of_ble_eq_true rfl) rfl (Nat.le_of_ble_eq_true rfl) (c1_waysToStay F.1 σ hS hO k n1 t1 hk hn7) ?_
            rintro _ τ ⟨rfl, hM⟩
            rw [nI_prd2 ht2, nI_l (by omega), way_T]
            refine AW.run 2 [] (110, [(0, .inr (.inr (4, 0, 0))), (1, .inl (nI k)), (2, .inl (nI n1)), (3, .inl (nI t1)), (4, .inl 0), (5, .inr (.inl (lN (t1 ^ n1)))), (7, .inl (nI n1))], [.inl 0, .inr (.inl (lN (t1 ^ n1))), .inr (.inl (lN (wayT F.1 k (t1 - 1) n1 (2 ^ n1))))], τ) [] rfl ?_ ?_
            · exact trivial
            refine AW.callSL (d' := 1) [.inr (.inl (lN (wayT F.1 k (t1 - 1) n1 (2 ^ n1)))), .inr (.inl (lN (t1 ^ n1))), .inl 0] [] ⟨_, rfl⟩ f_5_partOf s_5_partOf l_5_241 rfl (Nat.le_of_ble_eq_true rfl) rfl (Nat.le_of_ble_eq_true rfl) (c5_partOf (wayT F.1 k (t1 - 1) n1 (2 ^ n1)) (t1 ^ n1) 0 (way_lt (by omega) (by omega) hn7 (p2_128 hn7)) (t_pow ht20 hn7) (by decide) τ) ?_
            rintro _ _ ⟨rfl, rfl⟩
            refine AW.retl ⟨_, rfl⟩ rfl ?_
            refine ⟨F, ?_, RepA_mind (onlyM_of hM) hA⟩
            unfold thundersP; rw [hbk]; dsimp only; rw [if_neg hneg, if_neg hneg2, if_pos (by decide), nI_clamp ht31, nI_clamp hn31]; rfl
        by_cases hp1 : p = 1
        · subst hp1
          refine AW.run 3 [] (5, [(0, .inr (.inr (4, 0, 0))), (1, .inl (nI k)), (2, .inl (nI n1)), (3, .inl (nI t1)), (4, .inl 1)], [.inl (nI k), .inr (.inr (2, 0, 0))], σ) [] rfl ?_ ?_
          · exact trivial
          refine AW.callVI (d' := 0) [.inl (nI k)] [] ⟨_, rfl⟩ f_3_has v_3_has l_5_74 ⟨rfl, by decide⟩ rfl (Nat.le_of_ble_eq_true rfl) rfl (Nat.le_of_ble_eq_true rfl) (c3_has 0 F.1 σ hS hO (nI k)) ?_
          rintro v _ ⟨rfl, hv⟩
          obtain rfl : v = 1 := by
            rcases hv with h | h
            · exact h.1
            · exact absurd rfl (h.2 k hk)
          refine AW.run 13 [true, false, true, false, true] (54, [(0, .inr (.inr (4, 0, 0))), (1, .inl (nI k)), (2, .inl (nI n1)), (3, .inl (nI t1)), (4, .inl 1)], [.inl 1], σ) [icP .ne (1 : Int32) 0, ¬ icP .lt (nI n1) 0, icP .ge (nI t1) 2, ¬ icP .gt (nI n1) 7, icP .le (nI t1) 20] rfl ?_ ?_
          · exact ⟨(by decide : (¬ (1 : Int32) = 0)), (hn0), (ge_of htn), (nI_nlt (a := 7) hn7 (by decide)), allP1 (nI_le (b := 20) ht20 (by decide))⟩
          refine AW.callSI (d' := 0) [.inl 1] [] ⟨_, rfl⟩ f_5_isNoTwo s_5_isNoTwo l_5_114 rfl (Nat.le_of_ble_eq_true rfl) rfl (Nat.le_of_ble_eq_true rfl) (c5_isNoTwo1 σ) ?_
          rintro _ _ ⟨rfl, rfl⟩
          refine AW.run 5 [true] (73, [(7, .inl 0), (5, .inr (.inl (Int64.ofNat 1))), (0, .inr (.inr (4, 0, 0))), (1, .inl (nI k)), (2, .inl (nI n1)), (3, .inl (nI t1)), (4, .inl 1)], [], σ) [icP .eq (0 : Int32) 0] rfl ?_ ?_
          · exact allP1 (by decide : ((0 : Int32) = 0))
          refine AW.pick [2, 3, 4, 5, 6, 1, 0] (ls' := [(0, .inr (.inr (4, 0, 0))), (1, .inl (nI k)), (2, .inl (nI n1)), (3, .inl (nI t1)), (4, .inl 1), (5, .inr (.inl (lN (t1 ^ 0)))), (7, .inl (nI 0))]) rfl ?_
          refine AW.loop (α := Unit) 73 n1 (fun i _ => [(0, .inr (.inr (4, 0, 0))), (1, .inl (nI k)), (2, .inl (nI n1)), (3, .inl (nI t1)), (4, .inl 1), (5, .inr (.inl (lN (t1 ^ i)))), (7, .inl (nI i))]) (fun i _ τ => σ = τ) ?_ ?_ n1 0 () _ (by omega) rfl
          · intro i _ τ hi hI hk9
            subst hI
            refine AW.run 7 [false] (84, [(0, .inr (.inr (4, 0, 0))), (1, .inl (nI k)), (2, .inl (nI n1)), (3, .inl (nI t1)), (4, .inl 1), (5, .inr (.inl (lN (t1 ^ i)))), (7, .inl (nI i))], [.inr (.inl ((lN (t1 ^ i)) * ((nI t1).toInt64)))], σ) [¬ icP .ge (nI i) (nI n1)] rfl ?_ ?_
            · exact allP1 (nI_ge hi (by omega))
            rw [nI_l (by omega), lN_mul, ← Nat.pow_succ]
            refine AW.run 3 [] (73, [(7, .inl ((nI i) + 1)), (5, .inr (.inl (lN (t1 ^ (i + 1))))), (0, .inr (.inr (4, 0, 0))), (1, .inl (nI k)), (2, .inl (nI n1)), (3, .inl (nI t1)), (4, .inl 1)], [], σ) [] rfl ?_ ?_
            · exact trivial
            rw [nI_1 i]
            refine AW.pick [2, 3, 4, 5, 6, 1, 0] (ls' := [(0, .inr (.inr (4, 0, 0))), (1, .inl (nI k)), (2, .inl (nI n1)), (3, .inl (nI t1)), (4, .inl 1), (5, .inr (.inl (lN (t1 ^ (i + 1))))), (7, .inl (nI (i + 1)))]) rfl ?_
            exact hk9 () _ rfl
          · intro _ τ hI
            subst hI
            refine AW.run 10 [true] (103, [(0, .inr (.inr (4, 0, 0))), (1, .inl (nI k)), (2, .inl (nI n1)), (3, .inl (nI t1)), (4, .inl 1), (5, .inr (.inl (lN (t1 ^ n1)))), (7, .inl (nI n1))], [.inl (nI t1), .inl (nI n1), .inl (nI k), .inr (.inr (2, 0, 0)), .inr (.inr (0, 0, 0))], σ) [icP .ge (nI n1) (nI n1)] rfl ?_ ?_
            · exact allP1 (nI_le (Nat.le_refl _) (by omega))
            refine AW.callVL (d' := 3) [.inr (.inr (2, 0, 0)), .inl (nI k), .inl (nI n1), .inl (nI t1)] [] ⟨_, rfl⟩ f_1_waysToStay v_1_waysToStay l_5_237 ⟨rfl, by decide⟩ rfl (Nat.le_of_ble_eq_true rfl) rfl (Nat.le_of_ble_eq_true rfl) (c1_waysToStay F.1 σ hS hO k n1 t1 hk hn7) ?_
            rintro _ τ ⟨rfl, hM⟩
            rw [nI_prd2 ht2, nI_l (by omega), way_T]
            refine AW.run 2 [] (110, [(0, .inr (.inr (4, 0, 0))), (1, .inl (nI k)), (2, .inl (nI n1)), (3, .inl (nI t1)), (4, .inl 1), (5, .inr (.inl (lN (t1 ^ n1)))), (7, .inl (nI n1))], [.inl 1, .inr (.inl (lN (t1 ^ n1))), .inr (.inl (lN (wayT F.1 k (t1 - 1) n1 (2 ^ n1))))], τ) [] rfl ?_ ?_
            · exact trivial
            refine AW.callSL (d' := 1) [.inr (.inl (lN (wayT F.1 k (t1 - 1) n1 (2 ^ n1)))), .inr (.inl (lN (t1 ^ n1))), .inl 1] [] ⟨_, rfl⟩ f_5_partOf s_5_partOf l_5_241 rfl (Nat.le_of_ble_eq_true rfl) rfl (Nat.le_of_ble_eq_true rfl) (c5_partOf (wayT F.1 k (t1 - 1) n1 (2 ^ n1)) (t1 ^ n1) 1 (way_lt (by omega) (by omega) hn7 (p2_128 hn7)) (t_pow ht20 hn7) (by decide) τ) ?_
            rintro _ _ ⟨rfl, rfl⟩
            refine AW.retl ⟨_, rfl⟩ rfl ?_
            refine ⟨F, ?_, RepA_mind (onlyM_of hM) hA⟩
            unfold thundersP; rw [hbk]; dsimp only; rw [if_neg hneg, if_neg hneg2, if_pos (by decide), nI_clamp ht31, nI_clamp hn31]; rfl
        · skip
          refine AW.run 3 [] (5, [(0, .inr (.inr (4, 0, 0))), (1, .inl (nI k)), (2, .inl (nI n1)), (3, .inl (nI t1)), (4, .inl p)], [.inl (nI k), .inr (.inr (2, 0, 0))], σ) [] rfl ?_ ?_
          · exact trivial
          refine AW.callVI (d' := 0) [.inl (nI k)] [] ⟨_, rfl⟩ f_3_has v_3_has l_5_74 ⟨rfl, by decide⟩ rfl (Nat.le_of_ble_eq_true rfl) rfl (Nat.le_of_ble_eq_true rfl) (c3_has 0 F.1 σ hS hO (nI k)) ?_
          rintro v _ ⟨rfl, hv⟩
          obtain rfl : v = 1 := by
            rcases hv with h | h
            · exact h.1
            · exact absurd rfl (h.2 k hk)
          refine AW.run 13 [true, false, true, false, true] (54, [(0, .inr (.inr (4, 0, 0))), (1, .inl (nI k)), (2, .inl (nI n1)), (3, .inl (nI t1)), (4, .inl p)], [.inl p], σ) [icP .ne (1 : Int32) 0, ¬ icP .lt (nI n1) 0, icP .ge (nI t1) 2, ¬ icP .gt (nI n1) 7, icP .le (nI t1) 20] rfl ?_ ?_
          · exact ⟨(by decide : (¬ (1 : Int32) = 0)), (hn0), (ge_of htn), (nI_nlt (a := 7) hn7 (by decide)), allP1 (nI_le (b := 20) ht20 (by decide))⟩
          refine AW.callSI (d' := 0) [.inl p] [] ⟨_, rfl⟩ f_5_isNoTwo s_5_isNoTwo l_5_114 rfl (Nat.le_of_ble_eq_true rfl) rfl (Nat.le_of_ble_eq_true rfl) (c5_isNoTwoN p hp0 hp1 σ) ?_
          rintro _ _ ⟨rfl, rfl⟩
          refine AW.run 3 [false] (63, [(0, .inr (.inr (4, 0, 0))), (1, .inl (nI k)), (2, .inl (nI n1)), (3, .inl (nI t1)), (4, .inl p)], [.inl (-2), .inr (.inr (4, 0, 0))], σ) [¬ icP .eq (1 : Int32) 0] rfl ?_ ?_
          · exact allP1 (by decide : ¬ ((1 : Int32) = 0))
          refine AW.callVL (d' := 1) [.inl (-2)] [] ⟨_, rfl⟩ f_5_refuseLong v_5_refuseLong l_5_233 ⟨rfl, by decide⟩ rfl (Nat.le_of_ble_eq_true rfl) rfl (Nat.le_of_ble_eq_true rfl) (c5_refuseLong2 σ) ?_
          rintro _ _ ⟨rfl, rfl⟩
          refine AW.retl ⟨_, rfl⟩ rfl ?_
          exact RepL_ref (k := 2) hA (by decide) (by decide) (by unfold thundersP; rw [hbk]; dsimp only; rw [if_neg hneg, if_neg hneg2, if_neg (fun h => h.elim hp0 hp1)])
      · skip
        refine AW.run 3 [] (5, [(0, .inr (.inr (4, 0, 0))), (1, .inl (nI k)), (2, .inl (nI n1)), (3, .inl (nI t1)), (4, .inl p)], [.inl (nI k), .inr (.inr (2, 0, 0))], σ) [] rfl ?_ ?_
        · exact trivial
        refine AW.callVI (d' := 0) [.inl (nI k)] [] ⟨_, rfl⟩ f_3_has v_3_has l_5_74 ⟨rfl, by decide⟩ rfl (Nat.le_of_ble_eq_true rfl) rfl (Nat.le_of_ble_eq_true rfl) (c3_has 0 F.1 σ hS hO (nI k)) ?_
        rintro v _ ⟨rfl, hv⟩
        obtain rfl : v = 1 := by
          rcases hv with h | h
          · exact h.1
          · exact absurd rfl (h.2 k hk)
        refine AW.run 14 [true, false, true, false, false] (48, [(0, .inr (.inr (4, 0, 0))), (1, .inl (nI k)), (2, .inl (nI n1)), (3, .inl (nI t1)), (4, .inl p)], [.inl (-6), .inr (.inr (4, 0, 0))], σ) [icP .ne (1 : Int32) 0, ¬ icP .lt (nI n1) 0, icP .ge (nI t1) 2, ¬ icP .gt (nI n1) 7, ¬ icP .le (nI t1) 20] rfl ?_ ?_
        · exact ⟨(by decide : (¬ (1 : Int32) = 0)), (hn0), (ge_of htn), (nI_nlt (a := 7) hn7 (by decide)), allP1 (nle_lit (b := 20) (by omega) ht31)⟩
        refine AW.callVL (d' := 1) [.inl (-6)] [] ⟨_, rfl⟩ f_5_refuseLong v_5_refuseLong l_5_233 ⟨rfl, by decide⟩ rfl (Nat.le_of_ble_eq_true rfl) rfl (Nat.le_of_ble_eq_true rfl) (c5_refuseLong6 σ) ?_
        rintro _ _ ⟨rfl, rfl⟩
        refine AW.retl ⟨_, rfl⟩ rfl ?_
        exact RepL_ref (k := 6) hA (by decide) (by decide) (by unfold thundersP; rw [hbk]; dsimp only; rw [if_neg hneg, if_pos (Or.inr (nI_lt (by omega) ht31))])
    · skip
      refine AW.run 3 [] (5, [(0, .inr (.inr (4, 0, 0))), (1, .inl (nI k)), (2, .inl (nI n1)), (3, .inl (nI t1)), (4, .inl p)], [.inl (nI k), .inr (.inr (2, 0, 0))], σ) [] rfl ?_ ?_
      · exact trivial
      refine AW.callVI (d' := 0) [.inl (nI k)] [] ⟨_, rfl⟩ f_3_has v_3_has l_5_74 ⟨rfl, by decide⟩ rfl (Nat.le_of_ble_eq_true rfl) rfl (Nat.le_of_ble_eq_true rfl) (c3_has 0 F.1 σ hS hO (nI k)) ?_
      rintro v _ ⟨rfl, hv⟩
      obtain rfl : v = 1 := by
        rcases hv with h | h
        · exact h.1
        · exact absurd rfl (h.2 k hk)
      refine AW.run 11 [true, false, true, true] (48, [(0, .inr (.inr (4, 0, 0))), (1, .inl (nI k)), (2, .inl (nI n1)), (3, .inl (nI t1)), (4, .inl p)], [.inl (-6), .inr (.inr (4, 0, 0))], σ) [icP .ne (1 : Int32) 0, ¬ icP .lt (nI n1) 0, icP .ge (nI t1) 2, icP .gt (nI n1) 7] rfl ?_ ?_
      · exact ⟨(by decide : (¬ (1 : Int32) = 0)), (hn0), (ge_of htn), allP1 (nI_lt (a := 7) (by omega) hn31)⟩
      refine AW.callVL (d' := 1) [.inl (-6)] [] ⟨_, rfl⟩ f_5_refuseLong v_5_refuseLong l_5_233 ⟨rfl, by decide⟩ rfl (Nat.le_of_ble_eq_true rfl) rfl (Nat.le_of_ble_eq_true rfl) (c5_refuseLong6 σ) ?_
      rintro _ _ ⟨rfl, rfl⟩
      refine AW.retl ⟨_, rfl⟩ rfl ?_
      exact RepL_ref (k := 6) hA (by decide) (by decide) (by unfold thundersP; rw [hbk]; dsimp only; rw [if_neg hneg, if_pos (Or.inl (nI_lt (by omega) hn31))])
  · skip
    refine AW.run 3 [] (5, [(0, .inr (.inr (4, 0, 0))), (1, .inl b), (2, .inl n), (3, .inl t), (4, .inl p)], [.inl b, .inr (.inr (2, 0, 0))], σ) [] rfl ?_ ?_
    · exact trivial
    refine AW.callVI (d' := 0) [.inl b] [] ⟨_, rfl⟩ f_3_has v_3_has l_5_74 ⟨rfl, by decide⟩ rfl (Nat.le_of_ble_eq_true rfl) rfl (Nat.le_of_ble_eq_true rfl) (c3_has 0 F.1 σ hS hO b) ?_
    rintro v _ ⟨rfl, hv⟩
    obtain rfl : v = 0 := by
      rcases hv with h | h
      · exact absurd h.2.choose_spec.2 (hno _ h.2.choose_spec.1)
      · exact h.1
    refine AW.run 3 [false] (13, [(0, .inr (.inr (4, 0, 0))), (1, .inl b), (2, .inl n), (3, .inl t), (4, .inl p)], [.inl (-1), .inr (.inr (4, 0, 0))], σ) [¬ icP .ne (0 : Int32) 0] rfl ?_ ?_
    · exact allP1 (by decide : ¬ (¬ (0 : Int32) = 0))
    refine AW.callVL (d' := 1) [.inl (-1)] [] ⟨_, rfl⟩ f_5_refuseLong v_5_refuseLong l_5_233 ⟨rfl, by decide⟩ rfl (Nat.le_of_ble_eq_true rfl) rfl (Nat.le_of_ble_eq_true rfl) (c5_refuseLong1 σ) ?_
    rintro _ _ ⟨rfl, rfl⟩
    refine AW.retl ⟨_, rfl⟩ rfl ?_
    exact RepL_ref (k := 1) hA (by decide) (by decide) (by unfold thundersP; rw [botI_none hno])
