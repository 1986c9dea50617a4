/-! THE LAW'S LOOP -/
theorem RepD_oth {σ τ : St} {F : Gv} (h : τ 5 = σ 5) (hD : RepD σ F) : RepD τ F := by
  unfold RepD TapeD RowM at hD ⊢
  rw [h]; exact hD
theorem RepA_fr {σ τ : St} {F : Gv} (h : Fr TT σ τ) (hA : RepA σ F) : RepA τ F := by
  have e : ∀ c i, c ≠ 5 → τ c i = σ c i := fun c i hc => by funext j k; exact h c i j k (fun q => hc q.1)
  obtain ⟨h1, ⟨t1, t2, t3, t4⟩, ⟨r1, r2, r3, r4⟩, h4, ⟨nx, n1, n2, n3, n4⟩, h6⟩ := hA
  refine ⟨by rw [e 2 0 (by decide)]; exact h1, ⟨t1, t2, by rw [e 3 0 (by decide)]; exact t3, fun i hi => by rw [e 3 0 (by decide)]; exact t4 i hi⟩, ⟨by rw [e 4 0 (by decide)]; exact r1, r2, r3, fun i hi => by rw [e 4 0 (by decide)]; exact r4 i hi⟩, fun k hk hk2 => by rw [e 4 0 (by decide)]; exact h4 k hk hk2, ⟨nx, n1, by rw [e 1 0 (by decide)]; exact n2, by rw [e 1 0 (by decide)]; exact n3, fun j hj => by rw [e 2 _ (by decide)]; exact n4 j hj⟩, ?_⟩
  revert h6
  cases F.2.2.2.2.2 with
  | none => intro h6; show τ 4 0 0 9 = 0; rw [e 4 0 (by decide)]; exact h6
  | some I => intro h6; show τ 4 0 0 9 = 1 ∧ RepS (τ 2 2) I; rw [e 4 0 (by decide), e 2 2 (by decide)]; exact h6
theorem scr_fr {σ τ : St} (h : Fr TT σ τ) : τ 6 = σ 6 := by funext i j k; exact h 6 i j k (fun q => by cases q.1)
def LQ : Option AV → St → Prop := PI fun r9 _ => (1 : Int32) = r9
def LLS (i : Nat) : List (Nat × AV) := [(0, .inr (.inr (6, 0, 1))), (1, .inr (.inr (4, 0, 0))), (2, .inr (.inr (5, 0, 0))), (3, .inl (nI i))]
/-- what holds ahead of each call -/
def LInv (σ τ : St) (F : Gv) : Prop := RepA τ F ∧ RepD τ F ∧ GOK F ∧ τ 6 = σ 6
theorem LInv_step {σ τ σ1 σ2 : St} {F1 : Gv} (h6 : τ 6 = σ 6) (hG : GOK F1) (hA1 : RepA σ1 F1) (hX1 : Oth τ σ1) (hD2 : RepD σ2 F1) (hT2 : Fr TT σ1 σ2) : LInv σ σ2 F1 := ⟨RepA_fr hT2 hA1, hD2, hG, (scr_fr hT2).trans (hX1.2.trans h6)⟩
theorem pair_i {α : Type} {a b : α} {F1 F2 : Gv} {r : α × Gv} (h1 : r = (a, F1)) (h2 : r = (b, F2)) : a = b ∧ F1 = F2 ∧ r.2 = F1 := by
  have h := h1.symm.trans h2
  exact ⟨congrArg Prod.fst h, congrArg Prod.snd h, by rw [h1]⟩

set_option maxHeartbeats 4000000 in
set_option maxRecDepth 100000 in
theorem law_feed {σ τ : St} {F : Gv} {L i : Nat} (hL : L ≤ 2560) (hi : i + 5 ≤ L) (h0 : (τ 6 0 0 0).toNatClampNeg = L) (hV : LInv σ τ F) (hk : ∀ F1 σ2, LInv σ σ2 F1 → AW ML_law 10 LQ (1341, LLS i, [], σ2)) : AW ML_law 10 LQ (220, LLS i, [], τ) := by
  obtain ⟨hA, hD, hG, h6⟩ := hV
  have vin : ∀ x, x < L → vp_in (nI x) (τ 6 0 0 0).toNatClampNeg := fun x hx => by rw [h0]; exact vp_in_nI hx (by omega)
  show AW ML_law 10 LQ (220, [(0, .inr (.inr (6, 0, 1))), (1, .inr (.inr (4, 0, 0))), (2, .inr (.inr (5, 0, 0))), (3, .inl (nI i))], [], τ)
  refine AW.run 5 [] (225, [(0, .inr (.inr (6, 0, 1))), (1, .inr (.inr (4, 0, 0))), (2, .inr (.inr (5, 0, 0))), (3, .inl (nI i))], [.inl ((nI i) + 1), .inr (.inr (6, 0, 1)), .inr (.inr (4, 0, 0))], τ) [] rfl ?_ ?_
  · exact trivial
  rw [show nI i + 1 = nI (i + 1) from nI_add i 1]
  refine AW.run 1 [] (226, [(0, .inr (.inr (6, 0, 1))), (1, .inr (.inr (4, 0, 0))), (2, .inr (.inr (5, 0, 0))), (3, .inl (nI i))], [.inl (τ 6 0 1 (nI (i + 1)).toNatClampNeg), .inr (.inr (4, 0, 0))], τ) [vp_in (nI (i + 1)) ((τ 6 0 0 0).toNatClampNeg)] rfl ?_ ?_
  · exact allP1 (by first | exact vin _ (by omega) | exact vin1 _ (by omega))
  refine AW.callVI (d' := 2) [.inl (τ 6 0 1 (nI (i + 1)).toNatClampNeg)] [] ⟨_, rfl⟩ f_5_feed v_5_feed l_9_13 ⟨rfl, by decide⟩ rfl (Nat.le_of_ble_eq_true rfl) rfl (Nat.le_of_ble_eq_true rfl) (c5_feed F τ hA hG.1 (τ 6 0 1 (nI (i + 1)).toNatClampNeg)) ?_
  rintro v1 σ1 ⟨F1, hr1, hA1, hX1⟩
  have vin1 : ∀ x, x < L → vp_in (nI x) (σ1 6 0 0 0).toNatClampNeg := fun x hx => by rw [hX1.2]; exact vin x hx
  refine AW.run 5 [] (234, [(0, .inr (.inr (6, 0, 1))), (1, .inr (.inr (4, 0, 0))), (2, .inr (.inr (5, 0, 0))), (3, .inl (nI i))], [.inl ((nI i) + 1), .inr (.inr (6, 0, 1)), .inr (.inr (5, 0, 0)), .inl v1], σ1) [] rfl ?_ ?_
  · exact trivial
  rw [show nI i + 1 = nI (i + 1) from nI_add i 1]
  refine AW.run 1 [] (235, [(0, .inr (.inr (6, 0, 1))), (1, .inr (.inr (4, 0, 0))), (2, .inr (.inr (5, 0, 0))), (3, .inl (nI i))], [.inl (σ1 6 0 1 (nI (i + 1)).toNatClampNeg), .inr (.inr (5, 0, 0)), .inl v1], σ1) [vp_in (nI (i + 1)) ((σ1 6 0 0 0).toNatClampNeg)] rfl ?_ ?_
  · exact allP1 (by first | exact vin _ (by omega) | exact vin1 _ (by omega))
  rw [hX1.2]
  refine AW.callVI (d' := 1) [.inl (τ 6 0 1 (nI (i + 1)).toNatClampNeg)] [.inl v1] ⟨_, rfl⟩ f_6_feed v_6_feed l_9_17 ⟨rfl, by decide⟩ rfl (Nat.le_of_ble_eq_true rfl) rfl (Nat.le_of_ble_eq_true rfl) (d6_feed F σ1 (RepD_oth hX1.1 hD) hG (τ 6 0 1 (nI (i + 1)).toNatClampNeg)) ?_
  rintro v2 σ2 ⟨F2, hr2, hD2, hT2⟩
  obtain ⟨rfl, rfl, hF1⟩ := pair_i hr1 hr2
  refine AW.run 1 [true] (1341, [(0, .inr (.inr (6, 0, 1))), (1, .inr (.inr (4, 0, 0))), (2, .inr (.inr (5, 0, 0))), (3, .inl (nI i))], [], σ2) [icP .eq v1 v1] rfl ?_ ?_
  · exact allP1 (rfl)
  exact hk _ _ (LInv_step h6 (by have hg9 := g_feed hG (τ 6 0 1 (nI (i + 1)).toNatClampNeg); rw [hF1] at hg9; exact hg9) hA1 hX1 hD2 hT2)
set_option maxHeartbeats 4000000 in
set_option maxRecDepth 100000 in
theorem law_cellar {σ τ : St} {F : Gv} {L i : Nat} (hL : L ≤ 2560) (hi : i + 5 ≤ L) (h0 : (τ 6 0 0 0).toNatClampNeg = L) (hV : LInv σ τ F) (hk : ∀ F1 σ2, LInv σ σ2 F1 → AW ML_law 10 LQ (1341, LLS i, [], σ2)) : AW ML_law 10 LQ (243, LLS i, [], τ) := by
  obtain ⟨hA, hD, hG, h6⟩ := hV
  have vin : ∀ x, x < L → vp_in (nI x) (τ 6 0 0 0).toNatClampNeg := fun x hx => by rw [h0]; exact vp_in_nI hx (by omega)
  show AW ML_law 10 LQ (243, [(0, .inr (.inr (6, 0, 1))), (1, .inr (.inr (4, 0, 0))), (2, .inr (.inr (5, 0, 0))), (3, .inl (nI i))], [], τ)
  refine AW.run 1 [] (244, [(0, .inr (.inr (6, 0, 1))), (1, .inr (.inr (4, 0, 0))), (2, .inr (.inr (5, 0, 0))), (3, .inl (nI i))], [.inr (.inr (4, 0, 0))], τ) [] rfl ?_ ?_
  · exact trivial
  refine AW.callVI (d' := 7) [] [] ⟨_, rfl⟩ f_5_cellar v_5_cellar l_9_18 ⟨rfl, by decide⟩ rfl (Nat.le_of_ble_eq_true rfl) rfl (Nat.le_of_ble_eq_true rfl) (c5_cellar F τ hA hG.1) ?_
  rintro v1 σ1 ⟨F1, hr1, hA1, hX1⟩
  have vin1 : ∀ x, x < L → vp_in (nI x) (σ1 6 0 0 0).toNatClampNeg := fun x hx => by rw [hX1.2]; exact vin x hx
  refine AW.run 1 [] (248, [(0, .inr (.inr (6, 0, 1))), (1, .inr (.inr (4, 0, 0))), (2, .inr (.inr (5, 0, 0))), (3, .inl (nI i))], [.inr (.inr (5, 0, 0)), .inl v1], σ1) [] rfl ?_ ?_
  · exact trivial
  refine AW.callVI (d' := 8) [] [.inl v1] ⟨_, rfl⟩ f_6_cellar v_6_cellar l_9_22 ⟨rfl, by decide⟩ rfl (Nat.le_of_ble_eq_true rfl) rfl (Nat.le_of_ble_eq_true rfl) (d6_cellar F σ1 (RepD_oth hX1.1 hD) hG) ?_
  rintro v2 σ2 ⟨F2, hr2, hD2, hT2⟩
  obtain ⟨rfl, rfl, hF1⟩ := pair_i hr1 hr2
  refine AW.run 1 [true] (1341, [(0, .inr (.inr (6, 0, 1))), (1, .inr (.inr (4, 0, 0))), (2, .inr (.inr (5, 0, 0))), (3, .inl (nI i))], [], σ2) [icP .eq v1 v1] rfl ?_ ?_
  · exact allP1 (rfl)
  exact hk _ _ (LInv_step h6 (by have hg9 := g_cellar hG; rw [hF1] at hg9; exact hg9) hA1 hX1 hD2 hT2)
set_option maxHeartbeats 4000000 in
set_option maxRecDepth 100000 in
theorem law_bottleOf {σ τ : St} {F : Gv} {L i : Nat} (hL : L ≤ 2560) (hi : i + 5 ≤ L) (h0 : (τ 6 0 0 0).toNatClampNeg = L) (hV : LInv σ τ F) (hk : ∀ F1 σ2, LInv σ σ2 F1 → AW ML_law 10 LQ (1341, LLS i, [], σ2)) : AW ML_law 10 LQ (256, LLS i, [], τ) := by
  obtain ⟨hA, hD, hG, h6⟩ := hV
  have vin : ∀ x, x < L → vp_in (nI x) (τ 6 0 0 0).toNatClampNeg := fun x hx => by rw [h0]; exact vp_in_nI hx (by omega)
  show AW ML_law 10 LQ (256, [(0, .inr (.inr (6, 0, 1))), (1, .inr (.inr (4, 0, 0))), (2, .inr (.inr (5, 0, 0))), (3, .inl (nI i))], [], τ)
  refine AW.run 5 [] (261, [(0, .inr (.inr (6, 0, 1))), (1, .inr (.inr (4, 0, 0))), (2, .inr (.inr (5, 0, 0))), (3, .inl (nI i))], [.inl ((nI i) + 1), .inr (.inr (6, 0, 1)), .inr (.inr (4, 0, 0))], τ) [] rfl ?_ ?_
  · exact trivial
  rw [show nI i + 1 = nI (i + 1) from nI_add i 1]
  refine AW.run 1 [] (262, [(0, .inr (.inr (6, 0, 1))), (1, .inr (.inr (4, 0, 0))), (2, .inr (.inr (5, 0, 0))), (3, .inl (nI i))], [.inl (τ 6 0 1 (nI (i + 1)).toNatClampNeg), .inr (.inr (4, 0, 0))], τ) [vp_in (nI (i + 1)) ((τ 6 0 0 0).toNatClampNeg)] rfl ?_ ?_
  · exact allP1 (by first | exact vin _ (by omega) | exact vin1 _ (by omega))
  refine AW.run 4 [] (266, [(0, .inr (.inr (6, 0, 1))), (1, .inr (.inr (4, 0, 0))), (2, .inr (.inr (5, 0, 0))), (3, .inl (nI i))], [.inl ((nI i) + 2), .inr (.inr (6, 0, 1)), .inl (τ 6 0 1 (nI (i + 1)).toNatClampNeg), .inr (.inr (4, 0, 0))], τ) [] rfl ?_ ?_
  · exact trivial
  rw [show nI i + 2 = nI (i + 2) from nI_add i 2]
  refine AW.run 1 [] (267, [(0, .inr (.inr (6, 0, 1))), (1, .inr (.inr (4, 0, 0))), (2, .inr (.inr (5, 0, 0))), (3, .inl (nI i))], [.inl (τ 6 0 1 (nI (i + 2)).toNatClampNeg), .inl (τ 6 0 1 (nI (i + 1)).toNatClampNeg), .inr (.inr (4, 0, 0))], τ) [vp_in (nI (i + 2)) ((τ 6 0 0 0).toNatClampNeg)] rfl ?_ ?_
  · exact allP1 (by first | exact vin _ (by omega) | exact vin1 _ (by omega))
  refine AW.callVI (d' := 3) [.inl (τ 6 0 1 (nI (i + 1)).toNatClampNeg), .inl (τ 6 0 1 (nI (i + 2)).toNatClampNeg)] [] ⟨_, rfl⟩ f_5_bottleOf v_5_bottleOf l_9_23 ⟨rfl, by decide⟩ rfl (Nat.le_of_ble_eq_true rfl) rfl (Nat.le_of_ble_eq_true rfl) (c5_bottleOf F τ hA hG.1 (τ 6 0 1 (nI (i + 1)).toNatClampNeg) (τ 6 0 1 (nI (i + 2)).toNatClampNeg)) ?_
  rintro v1 σ1 ⟨F1, hr1, hA1, hX1⟩
  have vin1 : ∀ x, x < L → vp_in (nI x) (σ1 6 0 0 0).toNatClampNeg := fun x hx => by rw [hX1.2]; exact vin x hx
  refine AW.run 5 [] (275, [(0, .inr (.inr (6, 0, 1))), (1, .inr (.inr (4, 0, 0))), (2, .inr (.inr (5, 0, 0))), (3, .inl (nI i))], [.inl ((nI i) + 1), .inr (.inr (6, 0, 1)), .inr (.inr (5, 0, 0)), .inl v1], σ1) [] rfl ?_ ?_
  · exact trivial
  rw [show nI i + 1 = nI (i + 1) from nI_add i 1]
  refine AW.run 1 [] (276, [(0, .inr (.inr (6, 0, 1))), (1, .inr (.inr (4, 0, 0))), (2, .inr (.inr (5, 0, 0))), (3, .inl (nI i))], [.inl (σ1 6 0 1 (nI (i + 1)).toNatClampNeg), .inr (.inr (5, 0, 0)), .inl v1], σ1) [vp_in (nI (i + 1)) ((σ1 6 0 0 0).toNatClampNeg)] rfl ?_ ?_
  · exact allP1 (by first | exact vin _ (by omega) | exact vin1 _ (by omega))
  rw [hX1.2]
  refine AW.run 4 [] (280, [(0, .inr (.inr (6, 0, 1))), (1, .inr (.inr (4, 0, 0))), (2, .inr (.inr (5, 0, 0))), (3, .inl (nI i))], [.inl ((nI i) + 2), .inr (.inr (6, 0, 1)), .inl (τ 6 0 1 (nI (i + 1)).toNatClampNeg), .inr (.inr (5, 0, 0)), .inl v1], σ1) [] rfl ?_ ?_
  · exact trivial
  rw [show nI i + 2 = nI (i + 2) from nI_add i 2]
  refine AW.run 1 [] (281, [(0, .inr (.inr (6, 0, 1))), (1, .inr (.inr (4, 0, 0))), (2, .inr (.inr (5, 0, 0))), (3, .inl (nI i))], [.inl (σ1 6 0 1 (nI (i + 2)).toNatClampNeg), .inl (τ 6 0 1 (nI (i + 1)).toNatClampNeg), .inr (.inr (5, 0, 0)), .inl v1], σ1) [vp_in (nI (i + 2)) ((σ1 6 0 0 0).toNatClampNeg)] rfl ?_ ?_
  · exact allP1 (by first | exact vin _ (by omega) | exact vin1 _ (by omega))
  rw [hX1.2]
  refine AW.callVI (d' := 2) [.inl (τ 6 0 1 (nI (i + 1)).toNatClampNeg), .inl (τ 6 0 1 (nI (i + 2)).toNatClampNeg)] [.inl v1] ⟨_, rfl⟩ f_6_bottleOf v_6_bottleOf l_9_27 ⟨rfl, by decide⟩ rfl (Nat.le_of_ble_eq_true rfl) rfl (Nat.le_of_ble_eq_true rfl) (d6_bottleOf F σ1 (RepD_oth hX1.1 hD) hG (τ 6 0 1 (nI (i + 1)).toNatClampNeg) (τ 6 0 1 (nI (i + 2)).toNatClampNeg)) ?_
  rintro v2 σ2 ⟨F2, hr2, hD2, hT2⟩
  obtain ⟨rfl, rfl, hF1⟩ := pair_i hr1 hr2
  refine AW.run 1 [true] (1341, [(0, .inr (.inr (6, 0, 1))), (1, .inr (.inr (4, 0, 0))), (2, .inr (.inr (5, 0, 0))), (3, .inl (nI i))], [], σ2) [icP .eq v1 v1] rfl ?_ ?_
  · exact allP1 (rfl)
  exact hk _ _ (LInv_step h6 (by have hg9 := g_bottleOf hG (τ 6 0 1 (nI (i + 1)).toNatClampNeg) (τ 6 0 1 (nI (i + 2)).toNatClampNeg); rw [hF1] at hg9; exact hg9) hA1 hX1 hD2 hT2)
set_option maxHeartbeats 4000000 in
set_option maxRecDepth 100000 in
theorem law_at {σ τ : St} {F : Gv} {L i : Nat} (hL : L ≤ 2560) (hi : i + 5 ≤ L) (h0 : (τ 6 0 0 0).toNatClampNeg = L) (hV : LInv σ τ F) (hk : ∀ F1 σ2, LInv σ σ2 F1 → AW ML_law 10 LQ (1341, LLS i, [], σ2)) : AW ML_law 10 LQ (289, LLS i, [], τ) := by
  obtain ⟨hA, hD, hG, h6⟩ := hV
  have vin : ∀ x, x < L → vp_in (nI x) (τ 6 0 0 0).toNatClampNeg := fun x hx => by rw [h0]; exact vp_in_nI hx (by omega)
  show AW ML_law 10 LQ (289, [(0, .inr (.inr (6, 0, 1))), (1, .inr (.inr (4, 0, 0))), (2, .inr (.inr (5, 0, 0))), (3, .inl (nI i))], [], τ)
  refine AW.run 5 [] (294, [(0, .inr (.inr (6, 0, 1))), (1, .inr (.inr (4, 0, 0))), (2, .inr (.inr (5, 0, 0))), (3, .inl (nI i))], [.inl ((nI i) + 1), .inr (.inr (6, 0, 1)), .inr (.inr (4, 0, 0))], τ) [] rfl ?_ ?_
  · exact trivial
  rw [show nI i + 1 = nI (i + 1) from nI_add i 1]
  refine AW.run 1 [] (295, [(0, .inr (.inr (6, 0, 1))), (1, .inr (.inr (4, 0, 0))), (2, .inr (.inr (5, 0, 0))), (3, .inl (nI i))], [.inl (τ 6 0 1 (nI (i + 1)).toNatClampNeg), .inr (.inr (4, 0, 0))], τ) [vp_in (nI (i + 1)) ((τ 6 0 0 0).toNatClampNeg)] rfl ?_ ?_
  · exact allP1 (by first | exact vin _ (by omega) | exact vin1 _ (by omega))
  refine AW.callVI (d' := 3) [.inl (τ 6 0 1 (nI (i + 1)).toNatClampNeg)] [] ⟨_, rfl⟩ f_5_at v_5_at l_9_28 ⟨rfl, by decide⟩ rfl (Nat.le_of_ble_eq_true rfl) rfl (Nat.le_of_ble_eq_true rfl) (c5_at F τ hA hG.1 (τ 6 0 1 (nI (i + 1)).toNatClampNeg)) ?_
  rintro v1 σ1 ⟨F1, hr1, hA1, hX1⟩
  have vin1 : ∀ x, x < L → vp_in (nI x) (σ1 6 0 0 0).toNatClampNeg := fun x hx => by rw [hX1.2]; exact vin x hx
  refine AW.run 5 [] (303, [(0, .inr (.inr (6, 0, 1))), (1, .inr (.inr (4, 0, 0))), (2, .inr (.inr (5, 0, 0))), (3, .inl (nI i))], [.inl ((nI i) + 1), .inr (.inr (6, 0, 1)), .inr (.inr (5, 0, 0)), .inl v1], σ1) [] rfl ?_ ?_
  · exact trivial
  rw [show nI i + 1 = nI (i + 1) from nI_add i 1]
  refine AW.run 1 [] (304, [(0, .inr (.inr (6, 0, 1))), (1, .inr (.inr (4, 0, 0))), (2, .inr (.inr (5, 0, 0))), (3, .inl (nI i))], [.inl (σ1 6 0 1 (nI (i + 1)).toNatClampNeg), .inr (.inr (5, 0, 0)), .inl v1], σ1) [vp_in (nI (i + 1)) ((σ1 6 0 0 0).toNatClampNeg)] rfl ?_ ?_
  · exact allP1 (by first | exact vin _ (by omega) | exact vin1 _ (by omega))
  rw [hX1.2]
  refine AW.callVI (d' := 3) [.inl (τ 6 0 1 (nI (i + 1)).toNatClampNeg)] [.inl v1] ⟨_, rfl⟩ f_6_at v_6_at l_9_31 ⟨rfl, by decide⟩ rfl (Nat.le_of_ble_eq_true rfl) rfl (Nat.le_of_ble_eq_true rfl) (d6_at F σ1 (RepD_oth hX1.1 hD) hG (τ 6 0 1 (nI (i + 1)).toNatClampNeg)) ?_
  rintro v2 σ2 ⟨F2, hr2, hD2, hT2⟩
  obtain ⟨rfl, rfl, hF1⟩ := pair_i hr1 hr2
  refine AW.run 1 [true] (1341, [(0, .inr (.inr (6, 0, 1))), (1, .inr (.inr (4, 0, 0))), (2, .inr (.inr (5, 0, 0))), (3, .inl (nI i))], [], σ2) [icP .eq v1 v1] rfl ?_ ?_
  · exact allP1 (rfl)
  exact hk _ _ (LInv_step h6 (by have hg9 := g_at hG (τ 6 0 1 (nI (i + 1)).toNatClampNeg); rw [hF1] at hg9; exact hg9) hA1 hX1 hD2 hT2)
set_option maxHeartbeats 4000000 in
set_option maxRecDepth 100000 in
theorem law_bottle {σ τ : St} {F : Gv} {L i : Nat} (hL : L ≤ 2560) (hi : i + 5 ≤ L) (h0 : (τ 6 0 0 0).toNatClampNeg = L) (hV : LInv σ τ F) (hk : ∀ F1 σ2, LInv σ σ2 F1 → AW ML_law 10 LQ (1341, LLS i, [], σ2)) : AW ML_law 10 LQ (312, LLS i, [], τ) := by
  obtain ⟨hA, hD, hG, h6⟩ := hV
  have vin : ∀ x, x < L → vp_in (nI x) (τ 6 0 0 0).toNatClampNeg := fun x hx => by rw [h0]; exact vp_in_nI hx (by omega)
  show AW ML_law 10 LQ (312, [(0, .inr (.inr (6, 0, 1))), (1, .inr (.inr (4, 0, 0))), (2, .inr (.inr (5, 0, 0))), (3, .inl (nI i))], [], τ)
  refine AW.run 5 [] (317, [(0, .inr (.inr (6, 0, 1))), (1, .inr (.inr (4, 0, 0))), (2, .inr (.inr (5, 0, 0))), (3, .inl (nI i))], [.inl ((nI i) + 1), .inr (.inr (6, 0, 1)), .inr (.inr (4, 0, 0))], τ) [] rfl ?_ ?_
  · exact trivial
  rw [show nI i + 1 = nI (i + 1) from nI_add i 1]
  refine AW.run 1 [] (318, [(0, .inr (.inr (6, 0, 1))), (1, .inr (.inr (4, 0, 0))), (2, .inr (.inr (5, 0, 0))), (3, .inl (nI i))], [.inl (τ 6 0 1 (nI (i + 1)).toNatClampNeg), .inr (.inr (4, 0, 0))], τ) [vp_in (nI (i + 1)) ((τ 6 0 0 0).toNatClampNeg)] rfl ?_ ?_
  · exact allP1 (by first | exact vin _ (by omega) | exact vin1 _ (by omega))
  refine AW.run 4 [] (322, [(0, .inr (.inr (6, 0, 1))), (1, .inr (.inr (4, 0, 0))), (2, .inr (.inr (5, 0, 0))), (3, .inl (nI i))], [.inl ((nI i) + 2), .inr (.inr (6, 0, 1)), .inl (τ 6 0 1 (nI (i + 1)).toNatClampNeg), .inr (.inr (4, 0, 0))], τ) [] rfl ?_ ?_
  · exact trivial
  rw [show nI i + 2 = nI (i + 2) from nI_add i 2]
  refine AW.run 1 [] (323, [(0, .inr (.inr (6, 0, 1))), (1, .inr (.inr (4, 0, 0))), (2, .inr (.inr (5, 0, 0))), (3, .inl (nI i))], [.inl (τ 6 0 1 (nI (i + 2)).toNatClampNeg), .inl (τ 6 0 1 (nI (i + 1)).toNatClampNeg), .inr (.inr (4, 0, 0))], τ) [vp_in (nI (i + 2)) ((τ 6 0 0 0).toNatClampNeg)] rfl ?_ ?_
  · exact allP1 (by first | exact vin _ (by omega) | exact vin1 _ (by omega))
  refine AW.run 4 [] (327, [(0, .inr (.inr (6, 0, 1))), (1, .inr (.inr (4, 0, 0))), (2, .inr (.inr (5, 0, 0))), (3, .inl (nI i))], [.inl ((nI i) + 3), .inr (.inr (6, 0, 1)), .inl (τ 6 0 1 (nI (i + 2)).toNatClampNeg), .inl (τ 6 0 1 (nI (i + 1)).toNatClampNeg), .inr (.inr (4, 0, 0))], τ) [] rfl ?_ ?_
  · exact trivial
  rw [show nI i + 3 = nI (i + 3) from nI_add i 3]
  refine AW.run 1 [] (328, [(0, .inr (.inr (6, 0, 1))), (1, .inr (.inr (4, 0, 0))), (2, .inr (.inr (5, 0, 0))), (3, .inl (nI i))], [.inl (τ 6 0 1 (nI (i + 3)).toNatClampNeg), .inl (τ 6 0 1 (nI (i + 2)).toNatClampNeg), .inl (τ 6 0 1 (nI (i + 1)).toNatClampNeg), .inr (.inr (4, 0, 0))], τ) [vp_in (nI (i + 3)) ((τ 6 0 0 0).toNatClampNeg)] rfl ?_ ?_
  · exact allP1 (by first | exact vin _ (by omega) | exact vin1 _ (by omega))
  refine AW.callVI (d' := 4) [.inl (τ 6 0 1 (nI (i + 1)).toNatClampNeg), .inl (τ 6 0 1 (nI (i + 2)).toNatClampNeg), .inl (τ 6 0 1 (nI (i + 3)).toNatClampNeg)] [] ⟨_, rfl⟩ f_5_bottle v_5_bottle l_9_32 ⟨rfl, by decide⟩ rfl (Nat.le_of_ble_eq_true rfl) rfl (Nat.le_of_ble_eq_true rfl) (c5_bottle F τ hA hG.1 (τ 6 0 1 (nI (i + 1)).toNatClampNeg) (τ 6 0 1 (nI (i + 2)).toNatClampNeg) (τ 6 0 1 (nI (i + 3)).toNatClampNeg)) ?_
  rintro v1 σ1 ⟨F1, hr1, hA1, hX1⟩
  have vin1 : ∀ x, x < L → vp_in (nI x) (σ1 6 0 0 0).toNatClampNeg := fun x hx => by rw [hX1.2]; exact vin x hx
  refine AW.run 5 [] (336, [(0, .inr (.inr (6, 0, 1))), (1, .inr (.inr (4, 0, 0))), (2, .inr (.inr (5, 0, 0))), (3, .inl (nI i))], [.inl ((nI i) + 1), .inr (.inr (6, 0, 1)), .inr (.inr (5, 0, 0)), .inl v1], σ1) [] rfl ?_ ?_
  · exact trivial
  rw [show nI i + 1 = nI (i + 1) from nI_add i 1]
  refine AW.run 1 [] (337, [(0, .inr (.inr (6, 0, 1))), (1, .inr (.inr (4, 0, 0))), (2, .inr (.inr (5, 0, 0))), (3, .inl (nI i))], [.inl (σ1 6 0 1 (nI (i + 1)).toNatClampNeg), .inr (.inr (5, 0, 0)), .inl v1], σ1) [vp_in (nI (i + 1)) ((σ1 6 0 0 0).toNatClampNeg)] rfl ?_ ?_
  · exact allP1 (by first | exact vin _ (by omega) | exact vin1 _ (by omega))
  rw [hX1.2]
  refine AW.run 4 [] (341, [(0, .inr (.inr (6, 0, 1))), (1, .inr (.inr (4, 0, 0))), (2, .inr (.inr (5, 0, 0))), (3, .inl (nI i))], [.inl ((nI i) + 2), .inr (.inr (6, 0, 1)), .inl (τ 6 0 1 (nI (i + 1)).toNatClampNeg), .inr (.inr (5, 0, 0)), .inl v1], σ1) [] rfl ?_ ?_
  · exact trivial
  rw [show nI i + 2 = nI (i + 2) from nI_add i 2]
  refine AW.run 1 [] (342, [(0, .inr (.inr (6, 0, 1))), (1, .inr (.inr (4, 0, 0))), (2, .inr (.inr (5, 0, 0))), (3, .inl (nI i))], [.inl (σ1 6 0 1 (nI (i + 2)).toNatClampNeg), .inl (τ 6 0 1 (nI (i + 1)).toNatClampNeg), .inr (.inr (5, 0, 0)), .inl v1], σ1) [vp_in (nI (i + 2)) ((σ1 6 0 0 0).toNatClampNeg)] rfl ?_ ?_
  · exact allP1 (by first | exact vin _ (by omega) | exact vin1 _ (by omega))
  rw [hX1.2]
  refine AW.run 4 [] (346, [(0, .inr (.inr (6, 0, 1))), (1, .inr (.inr (4, 0, 0))), (2, .inr (.inr (5, 0, 0))), (3, .inl (nI i))], [.inl ((nI i) + 3), .inr (.inr (6, 0, 1)), .inl (τ 6 0 1 (nI (i + 2)).toNatClampNeg), .inl (τ 6 0 1 (nI (i + 1)).toNatClampNeg), .inr (.inr (5, 0, 0)), .inl v1], σ1) [] rfl ?_ ?_
  · exact trivial
  rw [show nI i + 3 = nI (i + 3) from nI_add i 3]
  refine AW.run 1 [] (347, [(0, .inr (.inr (6, 0, 1))), (1, .inr (.inr (4, 0, 0))), (2, .inr (.inr (5, 0, 0))), (3, .inl (nI i))], [.inl (σ1 6 0 1 (nI (i + 3)).toNatClampNeg), .inl (τ 6 0 1 (nI (i + 2)).toNatClampNeg), .inl (τ 6 0 1 (nI (i + 1)).toNatClampNeg), .inr (.inr (5, 0, 0)), .inl v1], σ1) [vp_in (nI (i + 3)) ((σ1 6 0 0 0).toNatClampNeg)] rfl ?_ ?_
  · exact allP1 (by first | exact vin _ (by omega) | exact vin1 _ (by omega))
  rw [hX1.2]
  refine AW.callVI (d' := 3) [.inl (τ 6 0 1 (nI (i + 1)).toNatClampNeg), .inl (τ 6 0 1 (nI (i + 2)).toNatClampNeg), .inl (τ 6 0 1 (nI (i + 3)).toNatClampNeg)] [.inl v1] ⟨_, rfl⟩ f_6_bottle v_6_bottle l_9_36 ⟨rfl, by decide⟩ rfl (Nat.le_of_ble_eq_true rfl) rfl (Nat.le_of_ble_eq_true rfl) (d6_bottle F σ1 (RepD_oth hX1.1 hD) hG (τ 6 0 1 (nI (i + 1)).toNatClampNeg) (τ 6 0 1 (nI (i + 2)).toNatClampNeg) (τ 6 0 1 (nI (i + 3)).toNatClampNeg)) ?_
  rintro v2 σ2 ⟨F2, hr2, hD2, hT2⟩
  obtain ⟨rfl, rfl, hF1⟩ := pair_i hr1 hr2
  refine AW.run 1 [true] (1341, [(0, .inr (.inr (6, 0, 1))), (1, .inr (.inr (4, 0, 0))), (2, .inr (.inr (5, 0, 0))), (3, .inl (nI i))], [], σ2) [icP .eq v1 v1] rfl ?_ ?_
  · exact allP1 (rfl)
  exact hk _ _ (LInv_step h6 (by have hg9 := g_bottle hG (τ 6 0 1 (nI (i + 1)).toNatClampNeg) (τ 6 0 1 (nI (i + 2)).toNatClampNeg) (τ 6 0 1 (nI (i + 3)).toNatClampNeg); rw [hF1] at hg9; exact hg9) hA1 hX1 hD2 hT2)
set_option maxHeartbeats 4000000 in
set_option maxRecDepth 100000 in
theorem law_feeds {σ τ : St} {F : Gv} {L i : Nat} (hL : L ≤ 2560) (hi : i + 5 ≤ L) (h0 : (τ 6 0 0 0).toNatClampNeg = L) (hV : LInv σ τ F) (hk : ∀ F1 σ2, LInv σ σ2 F1 → AW ML_law 10 LQ (1341, LLS i, [], σ2)) : AW ML_law 10 LQ (355, LLS i, [], τ) := by
  obtain ⟨hA, hD, hG, h6⟩ := hV
  have vin : ∀ x, x < L → vp_in (nI x) (τ 6 0 0 0).toNatClampNeg := fun x hx => by rw [h0]; exact vp_in_nI hx (by omega)
  show AW ML_law 10 LQ (355, [(0, .inr (.inr (6, 0, 1))), (1, .inr (.inr (4, 0, 0))), (2, .inr (.inr (5, 0, 0))), (3, .inl (nI i))], [], τ)
  refine AW.run 5 [] (360, [(0, .inr (.inr (6, 0, 1))), (1, .inr (.inr (4, 0, 0))), (2, .inr (.inr (5, 0, 0))), (3, .inl (nI i))], [.inl ((nI i) + 1), .inr (.inr (6, 0, 1)), .inr (.inr (4, 0, 0))], τ) [] rfl ?_ ?_
  · exact trivial
  rw [show nI i + 1 = nI (i + 1) from nI_add i 1]
  refine AW.run 1 [] (361, [(0, .inr (.inr (6, 0, 1))), (1, .inr (.inr (4, 0, 0))), (2, .inr (.inr (5, 0, 0))), (3, .inl (nI i))], [.inl (τ 6 0 1 (nI (i + 1)).toNatClampNeg), .inr (.inr (4, 0, 0))], τ) [vp_in (nI (i + 1)) ((τ 6 0 0 0).toNatClampNeg)] rfl ?_ ?_
  · exact allP1 (by first | exact vin _ (by omega) | exact vin1 _ (by omega))
  refine AW.run 4 [] (365, [(0, .inr (.inr (6, 0, 1))), (1, .inr (.inr (4, 0, 0))), (2, .inr (.inr (5, 0, 0))), (3, .inl (nI i))], [.inl ((nI i) + 2), .inr (.inr (6, 0, 1)), .inl (τ 6 0 1 (nI (i + 1)).toNatClampNeg), .inr (.inr (4, 0, 0))], τ) [] rfl ?_ ?_
  · exact trivial
  rw [show nI i + 2 = nI (i + 2) from nI_add i 2]
  refine AW.run 1 [] (366, [(0, .inr (.inr (6, 0, 1))), (1, .inr (.inr (4, 0, 0))), (2, .inr (.inr (5, 0, 0))), (3, .inl (nI i))], [.inl (τ 6 0 1 (nI (i + 2)).toNatClampNeg), .inl (τ 6 0 1 (nI (i + 1)).toNatClampNeg), .inr (.inr (4, 0, 0))], τ) [vp_in (nI (i + 2)) ((τ 6 0 0 0).toNatClampNeg)] rfl ?_ ?_
  · exact allP1 (by first | exact vin _ (by omega) | exact vin1 _ (by omega))
  refine AW.callVI (d' := 3) [.inl (τ 6 0 1 (nI (i + 1)).toNatClampNeg), .inl (τ 6 0 1 (nI (i + 2)).toNatClampNeg)] [] ⟨_, rfl⟩ f_5_feeds v_5_feeds l_9_37 ⟨rfl, by decide⟩ rfl (Nat.le_of_ble_eq_true rfl) rfl (Nat.le_of_ble_eq_true rfl) (c5_feeds F τ hA hG.1 (τ 6 0 1 (nI (i + 1)).toNatClampNeg) (τ 6 0 1 (nI (i + 2)).toNatClampNeg)) ?_
  rintro v1 σ1 ⟨F1, hr1, hA1, hX1⟩
  have vin1 : ∀ x, x < L → vp_in (nI x) (σ1 6 0 0 0).toNatClampNeg := fun x hx => by rw [hX1.2]; exact vin x hx
  refine AW.run 5 [] (374, [(0, .inr (.inr (6, 0, 1))), (1, .inr (.inr (4, 0, 0))), (2, .inr (.inr (5, 0, 0))), (3, .inl (nI i))], [.inl ((nI i) + 1), .inr (.inr (6, 0, 1)), .inr (.inr (5, 0, 0)), .inl v1], σ1) [] rfl ?_ ?_
  · exact trivial
  rw [show nI i + 1 = nI (i + 1) from nI_add i 1]
  refine AW.run 1 [] (375, [(0, .inr (.inr (6, 0, 1))), (1, .inr (.inr (4, 0, 0))), (2, .inr (.inr (5, 0, 0))), (3, .inl (nI i))], [.inl (σ1 6 0 1 (nI (i + 1)).toNatClampNeg), .inr (.inr (5, 0, 0)), .inl v1], σ1) [vp_in (nI (i + 1)) ((σ1 6 0 0 0).toNatClampNeg)] rfl ?_ ?_
  · exact allP1 (by first | exact vin _ (by omega) | exact vin1 _ (by omega))
  rw [hX1.2]
  refine AW.run 4 [] (379, [(0, .inr (.inr (6, 0, 1))), (1, .inr (.inr (4, 0, 0))), (2, .inr (.inr (5, 0, 0))), (3, .inl (nI i))], [.inl ((nI i) + 2), .inr (.inr (6, 0, 1)), .inl (τ 6 0 1 (nI (i + 1)).toNatClampNeg), .inr (.inr (5, 0, 0)), .inl v1], σ1) [] rfl ?_ ?_
  · exact trivial
  rw [show nI i + 2 = nI (i + 2) from nI_add i 2]
  refine AW.run 1 [] (380, [(0, .inr (.inr (6, 0, 1))), (1, .inr (.inr (4, 0, 0))), (2, .inr (.inr (5, 0, 0))), (3, .inl (nI i))], [.inl (σ1 6 0 1 (nI (i + 2)).toNatClampNeg), .inl (τ 6 0 1 (nI (i + 1)).toNatClampNeg), .inr (.inr (5, 0, 0)), .inl v1], σ1) [vp_in (nI (i + 2)) ((σ1 6 0 0 0).toNatClampNeg)] rfl ?_ ?_
  · exact allP1 (by first | exact vin _ (by omega) | exact vin1 _ (by omega))
  rw [hX1.2]
  refine AW.callVI (d' := 4) [.inl (τ 6 0 1 (nI (i + 1)).toNatClampNeg), .inl (τ 6 0 1 (nI (i + 2)).toNatClampNeg)] [.inl v1] ⟨_, rfl⟩ f_6_feeds v_6_feeds l_9_40 ⟨rfl, by decide⟩ rfl (Nat.le_of_ble_eq_true rfl) rfl (Nat.le_of_ble_eq_true rfl) (d6_feeds F σ1 (RepD_oth hX1.1 hD) hG (τ 6 0 1 (nI (i + 1)).toNatClampNeg) (τ 6 0 1 (nI (i + 2)).toNatClampNeg)) ?_
  rintro v2 σ2 ⟨F2, hr2, hD2, hT2⟩
  obtain ⟨rfl, rfl, hF1⟩ := pair_i hr1 hr2
  refine AW.run 1 [true] (1341, [(0, .inr (.inr (6, 0, 1))), (1, .inr (.inr (4, 0, 0))), (2, .inr (.inr (5, 0, 0))), (3, .inl (nI i))], [], σ2) [icP .eq v1 v1] rfl ?_ ?_
  · exact allP1 (rfl)
  exact hk _ _ (LInv_step h6 (by have hg9 := g_feeds hG (τ 6 0 1 (nI (i + 1)).toNatClampNeg) (τ 6 0 1 (nI (i + 2)).toNatClampNeg); rw [hF1] at hg9; exact hg9) hA1 hX1 hD2 hT2)
set_option maxHeartbeats 4000000 in
set_option maxRecDepth 100000 in
theorem law_outs {σ τ : St} {F : Gv} {L i : Nat} (hL : L ≤ 2560) (hi : i + 5 ≤ L) (h0 : (τ 6 0 0 0).toNatClampNeg = L) (hV : LInv σ τ F) (hk : ∀ F1 σ2, LInv σ σ2 F1 → AW ML_law 10 LQ (1341, LLS i, [], σ2)) : AW ML_law 10 LQ (388, LLS i, [], τ) := by
  obtain ⟨hA, hD, hG, h6⟩ := hV
  have vin : ∀ x, x < L → vp_in (nI x) (τ 6 0 0 0).toNatClampNeg := fun x hx => by rw [h0]; exact vp_in_nI hx (by omega)
  show AW ML_law 10 LQ (388, [(0, .inr (.inr (6, 0, 1))), (1, .inr (.inr (4, 0, 0))), (2, .inr (.inr (5, 0, 0))), (3, .inl (nI i))], [], τ)
  refine AW.run 5 [] (393, [(0, .inr (.inr (6, 0, 1))), (1, .inr (.inr (4, 0, 0))), (2, .inr (.inr (5, 0, 0))), (3, .inl (nI i))], [.inl ((nI i) + 1), .inr (.inr (6, 0, 1)), .inr (.inr (4, 0, 0))], τ) [] rfl ?_ ?_
  · exact trivial
  rw [show nI i + 1 = nI (i + 1) from nI_add i 1]
  refine AW.run 1 [] (394, [(0, .inr (.inr (6, 0, 1))), (1, .inr (.inr (4, 0, 0))), (2, .inr (.inr (5, 0, 0))), (3, .inl (nI i))], [.inl (τ 6 0 1 (nI (i + 1)).toNatClampNeg), .inr (.inr (4, 0, 0))], τ) [vp_in (nI (i + 1)) ((τ 6 0 0 0).toNatClampNeg)] rfl ?_ ?_
  · exact allP1 (by first | exact vin _ (by omega) | exact vin1 _ (by omega))
  refine AW.callVI (d' := 3) [.inl (τ 6 0 1 (nI (i + 1)).toNatClampNeg)] [] ⟨_, rfl⟩ f_5_outs v_5_outs l_9_41 ⟨rfl, by decide⟩ rfl (Nat.le_of_ble_eq_true rfl) rfl (Nat.le_of_ble_eq_true rfl) (c5_outs F τ hA hG.1 (τ 6 0 1 (nI (i + 1)).toNatClampNeg)) ?_
  rintro v1 σ1 ⟨F1, hr1, hA1, hX1⟩
  have vin1 : ∀ x, x < L → vp_in (nI x) (σ1 6 0 0 0).toNatClampNeg := fun x hx => by rw [hX1.2]; exact vin x hx
  refine AW.run 5 [] (402, [(0, .inr (.inr (6, 0, 1))), (1, .inr (.inr (4, 0, 0))), (2, .inr (.inr (5, 0, 0))), (3, .inl (nI i))], [.inl ((nI i) + 1), .inr (.inr (6, 0, 1)), .inr (.inr (5, 0, 0)), .inl v1], σ1) [] rfl ?_ ?_
  · exact trivial
  rw [show nI i + 1 = nI (i + 1) from nI_add i 1]
  refine AW.run 1 [] (403, [(0, .inr (.inr (6, 0, 1))), (1, .inr (.inr (4, 0, 0))), (2, .inr (.inr (5, 0, 0))), (3, .inl (nI i))], [.inl (σ1 6 0 1 (nI (i + 1)).toNatClampNeg), .inr (.inr (5, 0, 0)), .inl v1], σ1) [vp_in (nI (i + 1)) ((σ1 6 0 0 0).toNatClampNeg)] rfl ?_ ?_
  · exact allP1 (by first | exact vin _ (by omega) | exact vin1 _ (by omega))
  rw [hX1.2]
  refine AW.callVI (d' := 4) [.inl (τ 6 0 1 (nI (i + 1)).toNatClampNeg)] [.inl v1] ⟨_, rfl⟩ f_6_outs v_6_outs l_9_44 ⟨rfl, by decide⟩ rfl (Nat.le_of_ble_eq_true rfl) rfl (Nat.le_of_ble_eq_true rfl) (d6_outs F σ1 (RepD_oth hX1.1 hD) hG (τ 6 0 1 (nI (i + 1)).toNatClampNeg)) ?_
  rintro v2 σ2 ⟨F2, hr2, hD2, hT2⟩
  obtain ⟨rfl, rfl, hF1⟩ := pair_i hr1 hr2
  refine AW.run 1 [true] (1341, [(0, .inr (.inr (6, 0, 1))), (1, .inr (.inr (4, 0, 0))), (2, .inr (.inr (5, 0, 0))), (3, .inl (nI i))], [], σ2) [icP .eq v1 v1] rfl ?_ ?_
  · exact allP1 (rfl)
  exact hk _ _ (LInv_step h6 (by have hg9 := g_outs hG (τ 6 0 1 (nI (i + 1)).toNatClampNeg); rw [hF1] at hg9; exact hg9) hA1 hX1 hD2 hT2)
set_option maxHeartbeats 4000000 in
set_option maxRecDepth 100000 in
theorem law_towels {σ τ : St} {F : Gv} {L i : Nat} (hL : L ≤ 2560) (hi : i + 5 ≤ L) (h0 : (τ 6 0 0 0).toNatClampNeg = L) (hV : LInv σ τ F) (hk : ∀ F1 σ2, LInv σ σ2 F1 → AW ML_law 10 LQ (1341, LLS i, [], σ2)) : AW ML_law 10 LQ (411, LLS i, [], τ) := by
  obtain ⟨hA, hD, hG, h6⟩ := hV
  have vin : ∀ x, x < L → vp_in (nI x) (τ 6 0 0 0).toNatClampNeg := fun x hx => by rw [h0]; exact vp_in_nI hx (by omega)
  show AW ML_law 10 LQ (411, [(0, .inr (.inr (6, 0, 1))), (1, .inr (.inr (4, 0, 0))), (2, .inr (.inr (5, 0, 0))), (3, .inl (nI i))], [], τ)
  refine AW.run 5 [] (416, [(0, .inr (.inr (6, 0, 1))), (1, .inr (.inr (4, 0, 0))), (2, .inr (.inr (5, 0, 0))), (3, .inl (nI i))], [.inl ((nI i) + 1), .inr (.inr (6, 0, 1)), .inr (.inr (4, 0, 0))], τ) [] rfl ?_ ?_
  · exact trivial
  rw [show nI i + 1 = nI (i + 1) from nI_add i 1]
  refine AW.run 1 [] (417, [(0, .inr (.inr (6, 0, 1))), (1, .inr (.inr (4, 0, 0))), (2, .inr (.inr (5, 0, 0))), (3, .inl (nI i))], [.inl (τ 6 0 1 (nI (i + 1)).toNatClampNeg), .inr (.inr (4, 0, 0))], τ) [vp_in (nI (i + 1)) ((τ 6 0 0 0).toNatClampNeg)] rfl ?_ ?_
  · exact allP1 (by first | exact vin _ (by omega) | exact vin1 _ (by omega))
  refine AW.callVI (d' := 3) [.inl (τ 6 0 1 (nI (i + 1)).toNatClampNeg)] [] ⟨_, rfl⟩ f_5_towels v_5_towels l_9_45 ⟨rfl, by decide⟩ rfl (Nat.le_of_ble_eq_true rfl) rfl (Nat.le_of_ble_eq_true rfl) (c5_towels F τ hA hG.1 (τ 6 0 1 (nI (i + 1)).toNatClampNeg)) ?_
  rintro v1 σ1 ⟨F1, hr1, hA1, hX1⟩
  have vin1 : ∀ x, x < L → vp_in (nI x) (σ1 6 0 0 0).toNatClampNeg := fun x hx => by rw [hX1.2]; exact vin x hx
  refine AW.run 5 [] (425, [(0, .inr (.inr (6, 0, 1))), (1, .inr (.inr (4, 0, 0))), (2, .inr (.inr (5, 0, 0))), (3, .inl (nI i))], [.inl ((nI i) + 1), .inr (.inr (6, 0, 1)), .inr (.inr (5, 0, 0)), .inl v1], σ1) [] rfl ?_ ?_
  · exact trivial
  rw [show nI i + 1 = nI (i + 1) from nI_add i 1]
  refine AW.run 1 [] (426, [(0, .inr (.inr (6, 0, 1))), (1, .inr (.inr (4, 0, 0))), (2, .inr (.inr (5, 0, 0))), (3, .inl (nI i))], [.inl (σ1 6 0 1 (nI (i + 1)).toNatClampNeg), .inr (.inr (5, 0, 0)), .inl v1], σ1) [vp_in (nI (i + 1)) ((σ1 6 0 0 0).toNatClampNeg)] rfl ?_ ?_
  · exact allP1 (by first | exact vin _ (by omega) | exact vin1 _ (by omega))
  rw [hX1.2]
  refine AW.callVI (d' := 4) [.inl (τ 6 0 1 (nI (i + 1)).toNatClampNeg)] [.inl v1] ⟨_, rfl⟩ f_6_towels v_6_towels l_9_48 ⟨rfl, by decide⟩ rfl (Nat.le_of_ble_eq_true rfl) rfl (Nat.le_of_ble_eq_true rfl) (d6_towels F σ1 (RepD_oth hX1.1 hD) hG (τ 6 0 1 (nI (i + 1)).toNatClampNeg)) ?_
  rintro v2 σ2 ⟨F2, hr2, hD2, hT2⟩
  obtain ⟨rfl, rfl, hF1⟩ := pair_i hr1 hr2
  refine AW.run 1 [true] (1341, [(0, .inr (.inr (6, 0, 1))), (1, .inr (.inr (4, 0, 0))), (2, .inr (.inr (5, 0, 0))), (3, .inl (nI i))], [], σ2) [icP .eq v1 v1] rfl ?_ ?_
  · exact allP1 (rfl)
  exact hk _ _ (LInv_step h6 (by have hg9 := g_towels hG (τ 6 0 1 (nI (i + 1)).toNatClampNeg); rw [hF1] at hg9; exact hg9) hA1 hX1 hD2 hT2)
set_option maxHeartbeats 4000000 in
set_option maxRecDepth 100000 in
theorem law_days {σ τ : St} {F : Gv} {L i : Nat} (hL : L ≤ 2560) (hi : i + 5 ≤ L) (h0 : (τ 6 0 0 0).toNatClampNeg = L) (hV : LInv σ τ F) (hk : ∀ F1 σ2, LInv σ σ2 F1 → AW ML_law 10 LQ (1341, LLS i, [], σ2)) : AW ML_law 10 LQ (434, LLS i, [], τ) := by
  obtain ⟨hA, hD, hG, h6⟩ := hV
  have vin : ∀ x, x < L → vp_in (nI x) (τ 6 0 0 0).toNatClampNeg := fun x hx => by rw [h0]; exact vp_in_nI hx (by omega)
  show AW ML_law 10 LQ (434, [(0, .inr (.inr (6, 0, 1))), (1, .inr (.inr (4, 0, 0))), (2, .inr (.inr (5, 0, 0))), (3, .inl (nI i))], [], τ)
  refine AW.run 5 [] (439, [(0, .inr (.inr (6, 0, 1))), (1, .inr (.inr (4, 0, 0))), (2, .inr (.inr (5, 0, 0))), (3, .inl (nI i))], [.inl ((nI i) + 1), .inr (.inr (6, 0, 1)), .inr (.inr (4, 0, 0))], τ) [] rfl ?_ ?_
  · exact trivial
  rw [show nI i + 1 = nI (i + 1) from nI_add i 1]
  refine AW.run 1 [] (440, [(0, .inr (.inr (6, 0, 1))), (1, .inr (.inr (4, 0, 0))), (2, .inr (.inr (5, 0, 0))), (3, .inl (nI i))], [.inl (τ 6 0 1 (nI (i + 1)).toNatClampNeg), .inr (.inr (4, 0, 0))], τ) [vp_in (nI (i + 1)) ((τ 6 0 0 0).toNatClampNeg)] rfl ?_ ?_
  · exact allP1 (by first | exact vin _ (by omega) | exact vin1 _ (by omega))
  refine AW.callVI (d' := 4) [.inl (τ 6 0 1 (nI (i + 1)).toNatClampNeg)] [] ⟨_, rfl⟩ f_5_days v_5_days l_9_49 ⟨rfl, by decide⟩ rfl (Nat.le_of_ble_eq_true rfl) rfl (Nat.le_of_ble_eq_true rfl) (c5_days F τ hA hG.1 (τ 6 0 1 (nI (i + 1)).toNatClampNeg)) ?_
  rintro v1 σ1 ⟨F1, hr1, hA1, hX1⟩
  have vin1 : ∀ x, x < L → vp_in (nI x) (σ1 6 0 0 0).toNatClampNeg := fun x hx => by rw [hX1.2]; exact vin x hx
  refine AW.run 5 [] (448, [(0, .inr (.inr (6, 0, 1))), (1, .inr (.inr (4, 0, 0))), (2, .inr (.inr (5, 0, 0))), (3, .inl (nI i))], [.inl ((nI i) + 1), .inr (.inr (6, 0, 1)), .inr (.inr (5, 0, 0)), .inl v1], σ1) [] rfl ?_ ?_
  · exact trivial
  rw [show nI i + 1 = nI (i + 1) from nI_add i 1]
  refine AW.run 1 [] (449, [(0, .inr (.inr (6, 0, 1))), (1, .inr (.inr (4, 0, 0))), (2, .inr (.inr (5, 0, 0))), (3, .inl (nI i))], [.inl (σ1 6 0 1 (nI (i + 1)).toNatClampNeg), .inr (.inr (5, 0, 0)), .inl v1], σ1) [vp_in (nI (i + 1)) ((σ1 6 0 0 0).toNatClampNeg)] rfl ?_ ?_
  · exact allP1 (by first | exact vin _ (by omega) | exact vin1 _ (by omega))
  rw [hX1.2]
  refine AW.callVI (d' := 7) [.inl (τ 6 0 1 (nI (i + 1)).toNatClampNeg)] [.inl v1] ⟨_, rfl⟩ f_6_days v_6_days l_9_52 ⟨rfl, by decide⟩ rfl (Nat.le_of_ble_eq_true rfl) rfl (Nat.le_of_ble_eq_true rfl) (d6_days F σ1 (RepD_oth hX1.1 hD) hG (τ 6 0 1 (nI (i + 1)).toNatClampNeg)) ?_
  rintro v2 σ2 ⟨F2, hr2, hD2, hT2⟩
  obtain ⟨rfl, rfl, hF1⟩ := pair_i hr1 hr2
  refine AW.run 1 [true] (1341, [(0, .inr (.inr (6, 0, 1))), (1, .inr (.inr (4, 0, 0))), (2, .inr (.inr (5, 0, 0))), (3, .inl (nI i))], [], σ2) [icP .eq v1 v1] rfl ?_ ?_
  · exact allP1 (rfl)
  exact hk _ _ (LInv_step h6 (by have hg9 := g_days hG (τ 6 0 1 (nI (i + 1)).toNatClampNeg); rw [hF1] at hg9; exact hg9) hA1 hX1 hD2 hT2)
set_option maxHeartbeats 4000000 in
set_option maxRecDepth 100000 in
theorem law_back {σ τ : St} {F : Gv} {L i : Nat} (hL : L ≤ 2560) (hi : i + 5 ≤ L) (h0 : (τ 6 0 0 0).toNatClampNeg = L) (hV : LInv σ τ F) (hk : ∀ F1 σ2, LInv σ σ2 F1 → AW ML_law 10 LQ (1341, LLS i, [], σ2)) : AW ML_law 10 LQ (457, LLS i, [], τ) := by
  obtain ⟨hA, hD, hG, h6⟩ := hV
  have vin : ∀ x, x < L → vp_in (nI x) (τ 6 0 0 0).toNatClampNeg := fun x hx => by rw [h0]; exact vp_in_nI hx (by omega)
  show AW ML_law 10 LQ (457, [(0, .inr (.inr (6, 0, 1))), (1, .inr (.inr (4, 0, 0))), (2, .inr (.inr (5, 0, 0))), (3, .inl (nI i))], [], τ)
  refine AW.run 1 [] (458, [(0, .inr (.inr (6, 0, 1))), (1, .inr (.inr (4, 0, 0))), (2, .inr (.inr (5, 0, 0))), (3, .inl (nI i))], [.inr (.inr (4, 0, 0))], τ) [] rfl ?_ ?_
  · exact trivial
  refine AW.callVI (d' := 3) [] [] ⟨_, rfl⟩ f_5_back v_5_back l_9_53 ⟨rfl, by decide⟩ rfl (Nat.le_of_ble_eq_true rfl) rfl (Nat.le_of_ble_eq_true rfl) (c5_back F τ hA hG.1) ?_
  rintro v1 σ1 ⟨F1, hr1, hA1, hX1⟩
  have vin1 : ∀ x, x < L → vp_in (nI x) (σ1 6 0 0 0).toNatClampNeg := fun x hx => by rw [hX1.2]; exact vin x hx
  refine AW.run 1 [] (462, [(0, .inr (.inr (6, 0, 1))), (1, .inr (.inr (4, 0, 0))), (2, .inr (.inr (5, 0, 0))), (3, .inl (nI i))], [.inr (.inr (5, 0, 0)), .inl v1], σ1) [] rfl ?_ ?_
  · exact trivial
  refine AW.callVI (d' := 3) [] [.inl v1] ⟨_, rfl⟩ f_6_back v_6_back l_9_56 ⟨rfl, by decide⟩ rfl (Nat.le_of_ble_eq_true rfl) rfl (Nat.le_of_ble_eq_true rfl) (d6_back F σ1 (RepD_oth hX1.1 hD) hG) ?_
  rintro v2 σ2 ⟨F2, hr2, hD2, hT2⟩
  obtain ⟨rfl, rfl, hF1⟩ := pair_i hr1 hr2
  refine AW.run 1 [true] (1341, [(0, .inr (.inr (6, 0, 1))), (1, .inr (.inr (4, 0, 0))), (2, .inr (.inr (5, 0, 0))), (3, .inl (nI i))], [], σ2) [icP .eq v1 v1] rfl ?_ ?_
  · exact allP1 (rfl)
  exact hk _ _ (LInv_step h6 (by have hg9 := g_back hG; rw [hF1] at hg9; exact hg9) hA1 hX1 hD2 hT2)
set_option maxHeartbeats 4000000 in
set_option maxRecDepth 100000 in
theorem law_pressIn {σ τ : St} {F : Gv} {L i : Nat} (hL : L ≤ 2560) (hi : i + 5 ≤ L) (h0 : (τ 6 0 0 0).toNatClampNeg = L) (hV : LInv σ τ F) (hk : ∀ F1 σ2, LInv σ σ2 F1 → AW ML_law 10 LQ (1341, LLS i, [], σ2)) : AW ML_law 10 LQ (470, LLS i, [], τ) := by
  obtain ⟨hA, hD, hG, h6⟩ := hV
  have vin : ∀ x, x < L → vp_in (nI x) (τ 6 0 0 0).toNatClampNeg := fun x hx => by rw [h0]; exact vp_in_nI hx (by omega)
  show AW ML_law 10 LQ (470, [(0, .inr (.inr (6, 0, 1))), (1, .inr (.inr (4, 0, 0))), (2, .inr (.inr (5, 0, 0))), (3, .inl (nI i))], [], τ)
  refine AW.run 5 [] (475, [(0, .inr (.inr (6, 0, 1))), (1, .inr (.inr (4, 0, 0))), (2, .inr (.inr (5, 0, 0))), (3, .inl (nI i))], [.inl ((nI i) + 1), .inr (.inr (6, 0, 1)), .inr (.inr (4, 0, 0))], τ) [] rfl ?_ ?_
  · exact trivial
  rw [show nI i + 1 = nI (i + 1) from nI_add i 1]
  refine AW.run 1 [] (476, [(0, .inr (.inr (6, 0, 1))), (1, .inr (.inr (4, 0, 0))), (2, .inr (.inr (5, 0, 0))), (3, .inl (nI i))], [.inl (τ 6 0 1 (nI (i + 1)).toNatClampNeg), .inr (.inr (4, 0, 0))], τ) [vp_in (nI (i + 1)) ((τ 6 0 0 0).toNatClampNeg)] rfl ?_ ?_
  · exact allP1 (by first | exact vin _ (by omega) | exact vin1 _ (by omega))
  refine AW.run 4 [] (480, [(0, .inr (.inr (6, 0, 1))), (1, .inr (.inr (4, 0, 0))), (2, .inr (.inr (5, 0, 0))), (3, .inl (nI i))], [.inl ((nI i) + 2), .inr (.inr (6, 0, 1)), .inl (τ 6 0 1 (nI (i + 1)).toNatClampNeg), .inr (.inr (4, 0, 0))], τ) [] rfl ?_ ?_
  · exact trivial
  rw [show nI i + 2 = nI (i + 2) from nI_add i 2]
  refine AW.run 1 [] (481, [(0, .inr (.inr (6, 0, 1))), (1, .inr (.inr (4, 0, 0))), (2, .inr (.inr (5, 0, 0))), (3, .inl (nI i))], [.inl (τ 6 0 1 (nI (i + 2)).toNatClampNeg), .inl (τ 6 0 1 (nI (i + 1)).toNatClampNeg), .inr (.inr (4, 0, 0))], τ) [vp_in (nI (i + 2)) ((τ 6 0 0 0).toNatClampNeg)] rfl ?_ ?_
  · exact allP1 (by first | exact vin _ (by omega) | exact vin1 _ (by omega))
  refine AW.callVI (d' := 5) [.inl (τ 6 0 1 (nI (i + 1)).toNatClampNeg), .inl (τ 6 0 1 (nI (i + 2)).toNatClampNeg)] [] ⟨_, rfl⟩ f_5_pressIn v_5_pressIn l_9_57 ⟨rfl, by decide⟩ rfl (Nat.le_of_ble_eq_true rfl) rfl (Nat.le_of_ble_eq_true rfl) (c5_pressIn F τ hA hG.1 (τ 6 0 1 (nI (i + 1)).toNatClampNeg) (τ 6 0 1 (nI (i + 2)).toNatClampNeg)) ?_
  rintro v1 σ1 ⟨F1, hr1, hA1, hX1⟩
  have vin1 : ∀ x, x < L → vp_in (nI x) (σ1 6 0 0 0).toNatClampNeg := fun x hx => by rw [hX1.2]; exact vin x hx
  refine AW.run 5 [] (489, [(0, .inr (.inr (6, 0, 1))), (1, .inr (.inr (4, 0, 0))), (2, .inr (.inr (5, 0, 0))), (3, .inl (nI i))], [.inl ((nI i) + 1), .inr (.inr (6, 0, 1)), .inr (.inr (5, 0, 0)), .inl v1], σ1) [] rfl ?_ ?_
  · exact trivial
  rw [show nI i + 1 = nI (i + 1) from nI_add i 1]
  refine AW.run 1 [] (490, [(0, .inr (.inr (6, 0, 1))), (1, .inr (.inr (4, 0, 0))), (2, .inr (.inr (5, 0, 0))), (3, .inl (nI i))], [.inl (σ1 6 0 1 (nI (i + 1)).toNatClampNeg), .inr (.inr (5, 0, 0)), .inl v1], σ1) [vp_in (nI (i + 1)) ((σ1 6 0 0 0).toNatClampNeg)] rfl ?_ ?_
  · exact allP1 (by first | exact vin _ (by omega) | exact vin1 _ (by omega))
  rw [hX1.2]
  refine AW.run 4 [] (494, [(0, .inr (.inr (6, 0, 1))), (1, .inr (.inr (4, 0, 0))), (2, .inr (.inr (5, 0, 0))), (3, .inl (nI i))], [.inl ((nI i) + 2), .inr (.inr (6, 0, 1)), .inl (τ 6 0 1 (nI (i + 1)).toNatClampNeg), .inr (.inr (5, 0, 0)), .inl v1], σ1) [] rfl ?_ ?_
  · exact trivial
  rw [show nI i + 2 = nI (i + 2) from nI_add i 2]
  refine AW.run 1 [] (495, [(0, .inr (.inr (6, 0, 1))), (1, .inr (.inr (4, 0, 0))), (2, .inr (.inr (5, 0, 0))), (3, .inl (nI i))], [.inl (σ1 6 0 1 (nI (i + 2)).toNatClampNeg), .inl (τ 6 0 1 (nI (i + 1)).toNatClampNeg), .inr (.inr (5, 0, 0)), .inl v1], σ1) [vp_in (nI (i + 2)) ((σ1 6 0 0 0).toNatClampNeg)] rfl ?_ ?_
  · exact allP1 (by first | exact vin _ (by omega) | exact vin1 _ (by omega))
  rw [hX1.2]
  refine AW.callVI (d' := 7) [.inl (τ 6 0 1 (nI (i + 1)).toNatClampNeg), .inl (τ 6 0 1 (nI (i + 2)).toNatClampNeg)] [.inl v1] ⟨_, rfl⟩ f_6_pressIn v_6_pressIn l_9_60 ⟨rfl, by decide⟩ rfl (Nat.le_of_ble_eq_true rfl) rfl (Nat.le_of_ble_eq_true rfl) (d6_pressIn F σ1 (RepD_oth hX1.1 hD) hG (τ 6 0 1 (nI (i + 1)).toNatClampNeg) (τ 6 0 1 (nI (i + 2)).toNatClampNeg)) ?_
  rintro v2 σ2 ⟨F2, hr2, hD2, hT2⟩
  obtain ⟨rfl, rfl, hF1⟩ := pair_i hr1 hr2
  refine AW.run 1 [true] (1341, [(0, .inr (.inr (6, 0, 1))), (1, .inr (.inr (4, 0, 0))), (2, .inr (.inr (5, 0, 0))), (3, .inl (nI i))], [], σ2) [icP .eq v1 v1] rfl ?_ ?_
  · exact allP1 (rfl)
  exact hk _ _ (LInv_step h6 (by have hg9 := g_pressIn hG (τ 6 0 1 (nI (i + 1)).toNatClampNeg) (τ 6 0 1 (nI (i + 2)).toNatClampNeg); rw [hF1] at hg9; exact hg9) hA1 hX1 hD2 hT2)
set_option maxHeartbeats 4000000 in
set_option maxRecDepth 100000 in
theorem law_then {σ τ : St} {F : Gv} {L i : Nat} (hL : L ≤ 2560) (hi : i + 5 ≤ L) (h0 : (τ 6 0 0 0).toNatClampNeg = L) (hV : LInv σ τ F) (hk : ∀ F1 σ2, LInv σ σ2 F1 → AW ML_law 10 LQ (1341, LLS i, [], σ2)) : AW ML_law 10 LQ (503, LLS i, [], τ) := by
  obtain ⟨hA, hD, hG, h6⟩ := hV
  have vin : ∀ x, x < L → vp_in (nI x) (τ 6 0 0 0).toNatClampNeg := fun x hx => by rw [h0]; exact vp_in_nI hx (by omega)
  show AW ML_law 10 LQ (503, [(0, .inr (.inr (6, 0, 1))), (1, .inr (.inr (4, 0, 0))), (2, .inr (.inr (5, 0, 0))), (3, .inl (nI i))], [], τ)
  refine AW.run 5 [] (508, [(0, .inr (.inr (6, 0, 1))), (1, .inr (.inr (4, 0, 0))), (2, .inr (.inr (5, 0, 0))), (3, .inl (nI i))], [.inl ((nI i) + 1), .inr (.inr (6, 0, 1)), .inr (.inr (4, 0, 0))], τ) [] rfl ?_ ?_
  · exact trivial
  rw [show nI i + 1 = nI (i + 1) from nI_add i 1]
  refine AW.run 1 [] (509, [(0, .inr (.inr (6, 0, 1))), (1, .inr (.inr (4, 0, 0))), (2, .inr (.inr (5, 0, 0))), (3, .inl (nI i))], [.inl (τ 6 0 1 (nI (i + 1)).toNatClampNeg), .inr (.inr (4, 0, 0))], τ) [vp_in (nI (i + 1)) ((τ 6 0 0 0).toNatClampNeg)] rfl ?_ ?_
  · exact allP1 (by first | exact vin _ (by omega) | exact vin1 _ (by omega))
  refine AW.run 4 [] (513, [(0, .inr (.inr (6, 0, 1))), (1, .inr (.inr (4, 0, 0))), (2, .inr (.inr (5, 0, 0))), (3, .inl (nI i))], [.inl ((nI i) + 2), .inr (.inr (6, 0, 1)), .inl (τ 6 0 1 (nI (i + 1)).toNatClampNeg), .inr (.inr (4, 0, 0))], τ) [] rfl ?_ ?_
  · exact trivial
  rw [show nI i + 2 = nI (i + 2) from nI_add i 2]
  refine AW.run 1 [] (514, [(0, .inr (.inr (6, 0, 1))), (1, .inr (.inr (4, 0, 0))), (2, .inr (.inr (5, 0, 0))), (3, .inl (nI i))], [.inl (τ 6 0 1 (nI (i + 2)).toNatClampNeg), .inl (τ 6 0 1 (nI (i + 1)).toNatClampNeg), .inr (.inr (4, 0, 0))], τ) [vp_in (nI (i + 2)) ((τ 6 0 0 0).toNatClampNeg)] rfl ?_ ?_
  · exact allP1 (by first | exact vin _ (by omega) | exact vin1 _ (by omega))
  refine AW.callVI (d' := 5) [.inl (τ 6 0 1 (nI (i + 1)).toNatClampNeg), .inl (τ 6 0 1 (nI (i + 2)).toNatClampNeg)] [] ⟨_, rfl⟩ f_5_then v_5_then l_9_61 ⟨rfl, by decide⟩ rfl (Nat.le_of_ble_eq_true rfl) rfl (Nat.le_of_ble_eq_true rfl) (c5_then F τ hA hG.1 (τ 6 0 1 (nI (i + 1)).toNatClampNeg) (τ 6 0 1 (nI (i + 2)).toNatClampNeg)) ?_
  rintro v1 σ1 ⟨F1, hr1, hA1, hX1⟩
  have vin1 : ∀ x, x < L → vp_in (nI x) (σ1 6 0 0 0).toNatClampNeg := fun x hx => by rw [hX1.2]; exact vin x hx
  refine AW.run 5 [] (522, [(0, .inr (.inr (6, 0, 1))), (1, .inr (.inr (4, 0, 0))), (2, .inr (.inr (5, 0, 0))), (3, .inl (nI i))], [.inl ((nI i) + 1), .inr (.inr (6, 0, 1)), .inr (.inr (5, 0, 0)), .inl v1], σ1) [] rfl ?_ ?_
  · exact trivial
  rw [show nI i + 1 = nI (i + 1) from nI_add i 1]
  refine AW.run 1 [] (523, [(0, .inr (.inr (6, 0, 1))), (1, .inr (.inr (4, 0, 0))), (2, .inr (.inr (5, 0, 0))), (3, .inl (nI i))], [.inl (σ1 6 0 1 (nI (i + 1)).toNatClampNeg), .inr (.inr (5, 0, 0)), .inl v1], σ1) [vp_in (nI (i + 1)) ((σ1 6 0 0 0).toNatClampNeg)] rfl ?_ ?_
  · exact allP1 (by first | exact vin _ (by omega) | exact vin1 _ (by omega))
  rw [hX1.2]
  refine AW.run 4 [] (527, [(0, .inr (.inr (6, 0, 1))), (1, .inr (.inr (4, 0, 0))), (2, .inr (.inr (5, 0, 0))), (3, .inl (nI i))], [.inl ((nI i) + 2), .inr (.inr (6, 0, 1)), .inl (τ 6 0 1 (nI (i + 1)).toNatClampNeg), .inr (.inr (5, 0, 0)), .inl v1], σ1) [] rfl ?_ ?_
  · exact trivial
  rw [show nI i + 2 = nI (i + 2) from nI_add i 2]
  refine AW.run 1 [] (528, [(0, .inr (.inr (6, 0, 1))), (1, .inr (.inr (4, 0, 0))), (2, .inr (.inr (5, 0, 0))), (3, .inl (nI i))], [.inl (σ1 6 0 1 (nI (i + 2)).toNatClampNeg), .inl (τ 6 0 1 (nI (i + 1)).toNatClampNeg), .inr (.inr (5, 0, 0)), .inl v1], σ1) [vp_in (nI (i + 2)) ((σ1 6 0 0 0).toNatClampNeg)] rfl ?_ ?_
  · exact allP1 (by first | exact vin _ (by omega) | exact vin1 _ (by omega))
  rw [hX1.2]
  refine AW.callVI (d' := 7) [.inl (τ 6 0 1 (nI (i + 1)).toNatClampNeg), .inl (τ 6 0 1 (nI (i + 2)).toNatClampNeg)] [.inl v1] ⟨_, rfl⟩ f_6_then v_6_then l_9_64 ⟨rfl, by decide⟩ rfl (Nat.le_of_ble_eq_true rfl) rfl (Nat.le_of_ble_eq_true rfl) (d6_then F σ1 (RepD_oth hX1.1 hD) hG (τ 6 0 1 (nI (i + 1)).toNatClampNeg) (τ 6 0 1 (nI (i + 2)).toNatClampNeg)) ?_
  rintro v2 σ2 ⟨F2, hr2, hD2, hT2⟩
  obtain ⟨rfl, rfl, hF1⟩ := pair_i hr1 hr2
  refine AW.run 1 [true] (1341, [(0, .inr (.inr (6, 0, 1))), (1, .inr (.inr (4, 0, 0))), (2, .inr (.inr (5, 0, 0))), (3, .inl (nI i))], [], σ2) [icP .eq v1 v1] rfl ?_ ?_
  · exact allP1 (rfl)
  exact hk _ _ (LInv_step h6 (by have hg9 := g_then hG (τ 6 0 1 (nI (i + 1)).toNatClampNeg) (τ 6 0 1 (nI (i + 2)).toNatClampNeg); rw [hF1] at hg9; exact hg9) hA1 hX1 hD2 hT2)
set_option maxHeartbeats 4000000 in
set_option maxRecDepth 100000 in
theorem law_goes {σ τ : St} {F : Gv} {L i : Nat} (hL : L ≤ 2560) (hi : i + 5 ≤ L) (h0 : (τ 6 0 0 0).toNatClampNeg = L) (hV : LInv σ τ F) (hk : ∀ F1 σ2, LInv σ σ2 F1 → AW ML_law 10 LQ (1341, LLS i, [], σ2)) : AW ML_law 10 LQ (536, LLS i, [], τ) := by
  obtain ⟨hA, hD, hG, h6⟩ := hV
  have vin : ∀ x, x < L → vp_in (nI x) (τ 6 0 0 0).toNatClampNeg := fun x hx => by rw [h0]; exact vp_in_nI hx (by omega)
  show AW ML_law 10 LQ (536, [(0, .inr (.inr (6, 0, 1))), (1, .inr (.inr (4, 0, 0))), (2, .inr (.inr (5, 0, 0))), (3, .inl (nI i))], [], τ)
  refine AW.run 5 [] (541, [(0, .inr (.inr (6, 0, 1))), (1, .inr (.inr (4, 0, 0))), (2, .inr (.inr (5, 0, 0))), (3, .inl (nI i))], [.inl ((nI i) + 1), .inr (.inr (6, 0, 1)), .inr (.inr (4, 0, 0))], τ) [] rfl ?_ ?_
  · exact trivial
  rw [show nI i + 1 = nI (i + 1) from nI_add i 1]
  refine AW.run 1 [] (542, [(0, .inr (.inr (6, 0, 1))), (1, .inr (.inr (4, 0, 0))), (2, .inr (.inr (5, 0, 0))), (3, .inl (nI i))], [.inl (τ 6 0 1 (nI (i + 1)).toNatClampNeg), .inr (.inr (4, 0, 0))], τ) [vp_in (nI (i + 1)) ((τ 6 0 0 0).toNatClampNeg)] rfl ?_ ?_
  · exact allP1 (by first | exact vin _ (by omega) | exact vin1 _ (by omega))
  refine AW.callVI (d' := 4) [.inl (τ 6 0 1 (nI (i + 1)).toNatClampNeg)] [] ⟨_, rfl⟩ f_5_goes v_5_goes l_9_65 ⟨rfl, by decide⟩ rfl (Nat.le_of_ble_eq_true rfl) rfl (Nat.le_of_ble_eq_true rfl) (c5_goes F τ hA hG.1 (τ 6 0 1 (nI (i + 1)).toNatClampNeg)) ?_
  rintro v1 σ1 ⟨F1, hr1, hA1, hX1⟩
  have vin1 : ∀ x, x < L → vp_in (nI x) (σ1 6 0 0 0).toNatClampNeg := fun x hx => by rw [hX1.2]; exact vin x hx
  refine AW.run 5 [] (550, [(0, .inr (.inr (6, 0, 1))), (1, .inr (.inr (4, 0, 0))), (2, .inr (.inr (5, 0, 0))), (3, .inl (nI i))], [.inl ((nI i) + 1), .inr (.inr (6, 0, 1)), .inr (.inr (5, 0, 0)), .inl v1], σ1) [] rfl ?_ ?_
  · exact trivial
  rw [show nI i + 1 = nI (i + 1) from nI_add i 1]
  refine AW.run 1 [] (551, [(0, .inr (.inr (6, 0, 1))), (1, .inr (.inr (4, 0, 0))), (2, .inr (.inr (5, 0, 0))), (3, .inl (nI i))], [.inl (σ1 6 0 1 (nI (i + 1)).toNatClampNeg), .inr (.inr (5, 0, 0)), .inl v1], σ1) [vp_in (nI (i + 1)) ((σ1 6 0 0 0).toNatClampNeg)] rfl ?_ ?_
  · exact allP1 (by first | exact vin _ (by omega) | exact vin1 _ (by omega))
  rw [hX1.2]
  refine AW.callVI (d' := 7) [.inl (τ 6 0 1 (nI (i + 1)).toNatClampNeg)] [.inl v1] ⟨_, rfl⟩ f_6_goes v_6_goes l_9_68 ⟨rfl, by decide⟩ rfl (Nat.le_of_ble_eq_true rfl) rfl (Nat.le_of_ble_eq_true rfl) (d6_goes F σ1 (RepD_oth hX1.1 hD) hG (τ 6 0 1 (nI (i + 1)).toNatClampNeg)) ?_
  rintro v2 σ2 ⟨F2, hr2, hD2, hT2⟩
  obtain ⟨rfl, rfl, hF1⟩ := pair_i hr1 hr2
  refine AW.run 1 [true] (1341, [(0, .inr (.inr (6, 0, 1))), (1, .inr (.inr (4, 0, 0))), (2, .inr (.inr (5, 0, 0))), (3, .inl (nI i))], [], σ2) [icP .eq v1 v1] rfl ?_ ?_
  · exact allP1 (rfl)
  exact hk _ _ (LInv_step h6 (by have hg9 := g_goes hG (τ 6 0 1 (nI (i + 1)).toNatClampNeg); rw [hF1] at hg9; exact hg9) hA1 hX1 hD2 hT2)
set_option maxHeartbeats 4000000 in
set_option maxRecDepth 100000 in
theorem law_quiet {σ τ : St} {F : Gv} {L i : Nat} (hL : L ≤ 2560) (hi : i + 5 ≤ L) (h0 : (τ 6 0 0 0).toNatClampNeg = L) (hV : LInv σ τ F) (hk : ∀ F1 σ2, LInv σ σ2 F1 → AW ML_law 10 LQ (1341, LLS i, [], σ2)) : AW ML_law 10 LQ (559, LLS i, [], τ) := by
  obtain ⟨hA, hD, hG, h6⟩ := hV
  have vin : ∀ x, x < L → vp_in (nI x) (τ 6 0 0 0).toNatClampNeg := fun x hx => by rw [h0]; exact vp_in_nI hx (by omega)
  show AW ML_law 10 LQ (559, [(0, .inr (.inr (6, 0, 1))), (1, .inr (.inr (4, 0, 0))), (2, .inr (.inr (5, 0, 0))), (3, .inl (nI i))], [], τ)
  refine AW.run 1 [] (560, [(0, .inr (.inr (6, 0, 1))), (1, .inr (.inr (4, 0, 0))), (2, .inr (.inr (5, 0, 0))), (3, .inl (nI i))], [.inr (.inr (4, 0, 0))], τ) [] rfl ?_ ?_
  · exact trivial
  refine AW.callVI (d' := 4) [] [] ⟨_, rfl⟩ f_5_quiet v_5_quiet l_9_69 ⟨rfl, by decide⟩ rfl (Nat.le_of_ble_eq_true rfl) rfl (Nat.le_of_ble_eq_true rfl) (c5_quiet F τ hA hG.1) ?_
  rintro v1 σ1 ⟨F1, hr1, hA1, hX1⟩
  have vin1 : ∀ x, x < L → vp_in (nI x) (σ1 6 0 0 0).toNatClampNeg := fun x hx => by rw [hX1.2]; exact vin x hx
  refine AW.run 1 [] (564, [(0, .inr (.inr (6, 0, 1))), (1, .inr (.inr (4, 0, 0))), (2, .inr (.inr (5, 0, 0))), (3, .inl (nI i))], [.inr (.inr (5, 0, 0)), .inl v1], σ1) [] rfl ?_ ?_
  · exact trivial
  refine AW.callVI (d' := 5) [] [.inl v1] ⟨_, rfl⟩ f_6_quiet v_6_quiet l_9_72 ⟨rfl, by decide⟩ rfl (Nat.le_of_ble_eq_true rfl) rfl (Nat.le_of_ble_eq_true rfl) (d6_quiet F σ1 (RepD_oth hX1.1 hD) hG) ?_
  rintro v2 σ2 ⟨F2, hr2, hD2, hT2⟩
  obtain ⟨rfl, rfl, hF1⟩ := pair_i hr1 hr2
  refine AW.run 1 [true] (1341, [(0, .inr (.inr (6, 0, 1))), (1, .inr (.inr (4, 0, 0))), (2, .inr (.inr (5, 0, 0))), (3, .inl (nI i))], [], σ2) [icP .eq v1 v1] rfl ?_ ?_
  · exact allP1 (rfl)
  exact hk _ _ (LInv_step h6 (by have hg9 := g_quiet hG; rw [hF1] at hg9; exact hg9) hA1 hX1 hD2 hT2)
set_option maxHeartbeats 4000000 in
set_option maxRecDepth 100000 in
theorem law_takes {σ τ : St} {F : Gv} {L i : Nat} (hL : L ≤ 2560) (hi : i + 5 ≤ L) (h0 : (τ 6 0 0 0).toNatClampNeg = L) (hV : LInv σ τ F) (hk : ∀ F1 σ2, LInv σ σ2 F1 → AW ML_law 10 LQ (1341, LLS i, [], σ2)) : AW ML_law 10 LQ (572, LLS i, [], τ) := by
  obtain ⟨hA, hD, hG, h6⟩ := hV
  have vin : ∀ x, x < L → vp_in (nI x) (τ 6 0 0 0).toNatClampNeg := fun x hx => by rw [h0]; exact vp_in_nI hx (by omega)
  show AW ML_law 10 LQ (572, [(0, .inr (.inr (6, 0, 1))), (1, .inr (.inr (4, 0, 0))), (2, .inr (.inr (5, 0, 0))), (3, .inl (nI i))], [], τ)
  refine AW.run 5 [] (577, [(0, .inr (.inr (6, 0, 1))), (1, .inr (.inr (4, 0, 0))), (2, .inr (.inr (5, 0, 0))), (3, .inl (nI i))], [.inl ((nI i) + 1), .inr (.inr (6, 0, 1)), .inr (.inr (4, 0, 0))], τ) [] rfl ?_ ?_
  · exact trivial
  rw [show nI i + 1 = nI (i + 1) from nI_add i 1]
  refine AW.run 1 [] (578, [(0, .inr (.inr (6, 0, 1))), (1, .inr (.inr (4, 0, 0))), (2, .inr (.inr (5, 0, 0))), (3, .inl (nI i))], [.inl (τ 6 0 1 (nI (i + 1)).toNatClampNeg), .inr (.inr (4, 0, 0))], τ) [vp_in (nI (i + 1)) ((τ 6 0 0 0).toNatClampNeg)] rfl ?_ ?_
  · exact allP1 (by first | exact vin _ (by omega) | exact vin1 _ (by omega))
  refine AW.callVI (d' := 3) [.inl (τ 6 0 1 (nI (i + 1)).toNatClampNeg)] [] ⟨_, rfl⟩ f_5_takes v_5_takes l_9_73 ⟨rfl, by decide⟩ rfl (Nat.le_of_ble_eq_true rfl) rfl (Nat.le_of_ble_eq_true rfl) (c5_takes F τ hA hG.1 (τ 6 0 1 (nI (i + 1)).toNatClampNeg)) ?_
  rintro v1 σ1 ⟨F1, hr1, hA1, hX1⟩
  have vin1 : ∀ x, x < L → vp_in (nI x) (σ1 6 0 0 0).toNatClampNeg := fun x hx => by rw [hX1.2]; exact vin x hx
  refine AW.run 5 [] (586, [(0, .inr (.inr (6, 0, 1))), (1, .inr (.inr (4, 0, 0))), (2, .inr (.inr (5, 0, 0))), (3, .inl (nI i))], [.inl ((nI i) + 1), .inr (.inr (6, 0, 1)), .inr (.inr (5, 0, 0)), .inl v1], σ1) [] rfl ?_ ?_
  · exact trivial
  rw [show nI i + 1 = nI (i + 1) from nI_add i 1]
  refine AW.run 1 [] (587, [(0, .inr (.inr (6, 0, 1))), (1, .inr (.inr (4, 0, 0))), (2, .inr (.inr (5, 0, 0))), (3, .inl (nI i))], [.inl (σ1 6 0 1 (nI (i + 1)).toNatClampNeg), .inr (.inr (5, 0, 0)), .inl v1], σ1) [vp_in (nI (i + 1)) ((σ1 6 0 0 0).toNatClampNeg)] rfl ?_ ?_
  · exact allP1 (by first | exact vin _ (by omega) | exact vin1 _ (by omega))
  rw [hX1.2]
  refine AW.callVI (d' := 5) [.inl (τ 6 0 1 (nI (i + 1)).toNatClampNeg)] [.inl v1] ⟨_, rfl⟩ f_6_takes v_6_takes l_9_76 ⟨rfl, by decide⟩ rfl (Nat.le_of_ble_eq_true rfl) rfl (Nat.le_of_ble_eq_true rfl) (d6_takes F σ1 (RepD_oth hX1.1 hD) hG (τ 6 0 1 (nI (i + 1)).toNatClampNeg)) ?_
  rintro v2 σ2 ⟨F2, hr2, hD2, hT2⟩
  obtain ⟨rfl, rfl, hF1⟩ := pair_i hr1 hr2
  refine AW.run 1 [true] (1341, [(0, .inr (.inr (6, 0, 1))), (1, .inr (.inr (4, 0, 0))), (2, .inr (.inr (5, 0, 0))), (3, .inl (nI i))], [], σ2) [icP .eq v1 v1] rfl ?_ ?_
  · exact allP1 (rfl)
  exact hk _ _ (LInv_step h6 (by have hg9 := g_takes hG (τ 6 0 1 (nI (i + 1)).toNatClampNeg); rw [hF1] at hg9; exact hg9) hA1 hX1 hD2 hT2)
set_option maxHeartbeats 4000000 in
set_option maxRecDepth 100000 in
theorem law_worst {σ τ : St} {F : Gv} {L i : Nat} (hL : L ≤ 2560) (hi : i + 5 ≤ L) (h0 : (τ 6 0 0 0).toNatClampNeg = L) (hV : LInv σ τ F) (hk : ∀ F1 σ2, LInv σ σ2 F1 → AW ML_law 10 LQ (1341, LLS i, [], σ2)) : AW ML_law 10 LQ (595, LLS i, [], τ) := by
  obtain ⟨hA, hD, hG, h6⟩ := hV
  have vin : ∀ x, x < L → vp_in (nI x) (τ 6 0 0 0).toNatClampNeg := fun x hx => by rw [h0]; exact vp_in_nI hx (by omega)
  show AW ML_law 10 LQ (595, [(0, .inr (.inr (6, 0, 1))), (1, .inr (.inr (4, 0, 0))), (2, .inr (.inr (5, 0, 0))), (3, .inl (nI i))], [], τ)
  refine AW.run 5 [] (600, [(0, .inr (.inr (6, 0, 1))), (1, .inr (.inr (4, 0, 0))), (2, .inr (.inr (5, 0, 0))), (3, .inl (nI i))], [.inl ((nI i) + 1), .inr (.inr (6, 0, 1)), .inr (.inr (4, 0, 0))], τ) [] rfl ?_ ?_
  · exact trivial
  rw [show nI i + 1 = nI (i + 1) from nI_add i 1]
  refine AW.run 1 [] (601, [(0, .inr (.inr (6, 0, 1))), (1, .inr (.inr (4, 0, 0))), (2, .inr (.inr (5, 0, 0))), (3, .inl (nI i))], [.inl (τ 6 0 1 (nI (i + 1)).toNatClampNeg), .inr (.inr (4, 0, 0))], τ) [vp_in (nI (i + 1)) ((τ 6 0 0 0).toNatClampNeg)] rfl ?_ ?_
  · exact allP1 (by first | exact vin _ (by omega) | exact vin1 _ (by omega))
  refine AW.callVI (d' := 4) [.inl (τ 6 0 1 (nI (i + 1)).toNatClampNeg)] [] ⟨_, rfl⟩ f_5_worst v_5_worst l_9_77 ⟨rfl, by decide⟩ rfl (Nat.le_of_ble_eq_true rfl) rfl (Nat.le_of_ble_eq_true rfl) (c5_worst F τ hA hG.1 (τ 6 0 1 (nI (i + 1)).toNatClampNeg)) ?_
  rintro v1 σ1 ⟨F1, hr1, hA1, hX1⟩
  have vin1 : ∀ x, x < L → vp_in (nI x) (σ1 6 0 0 0).toNatClampNeg := fun x hx => by rw [hX1.2]; exact vin x hx
  refine AW.run 5 [] (609, [(0, .inr (.inr (6, 0, 1))), (1, .inr (.inr (4, 0, 0))), (2, .inr (.inr (5, 0, 0))), (3, .inl (nI i))], [.inl ((nI i) + 1), .inr (.inr (6, 0, 1)), .inr (.inr (5, 0, 0)), .inl v1], σ1) [] rfl ?_ ?_
  · exact trivial
  rw [show nI i + 1 = nI (i + 1) from nI_add i 1]
  refine AW.run 1 [] (610, [(0, .inr (.inr (6, 0, 1))), (1, .inr (.inr (4, 0, 0))), (2, .inr (.inr (5, 0, 0))), (3, .inl (nI i))], [.inl (σ1 6 0 1 (nI (i + 1)).toNatClampNeg), .inr (.inr (5, 0, 0)), .inl v1], σ1) [vp_in (nI (i + 1)) ((σ1 6 0 0 0).toNatClampNeg)] rfl ?_ ?_
  · exact allP1 (by first | exact vin _ (by omega) | exact vin1 _ (by omega))
  rw [hX1.2]
  refine AW.callVI (d' := 6) [.inl (τ 6 0 1 (nI (i + 1)).toNatClampNeg)] [.inl v1] ⟨_, rfl⟩ f_6_worst v_6_worst l_9_80 ⟨rfl, by decide⟩ rfl (Nat.le_of_ble_eq_true rfl) rfl (Nat.le_of_ble_eq_true rfl) (d6_worst F σ1 (RepD_oth hX1.1 hD) hG (τ 6 0 1 (nI (i + 1)).toNatClampNeg)) ?_
  rintro v2 σ2 ⟨F2, hr2, hD2, hT2⟩
  obtain ⟨rfl, rfl, hF1⟩ := pair_i hr1 hr2
  refine AW.run 1 [true] (1341, [(0, .inr (.inr (6, 0, 1))), (1, .inr (.inr (4, 0, 0))), (2, .inr (.inr (5, 0, 0))), (3, .inl (nI i))], [], σ2) [icP .eq v1 v1] rfl ?_ ?_
  · exact allP1 (rfl)
  exact hk _ _ (LInv_step h6 (by have hg9 := g_worst hG (τ 6 0 1 (nI (i + 1)).toNatClampNeg); rw [hF1] at hg9; exact hg9) hA1 hX1 hD2 hT2)
set_option maxHeartbeats 4000000 in
set_option maxRecDepth 100000 in
theorem law_safe {σ τ : St} {F : Gv} {L i : Nat} (hL : L ≤ 2560) (hi : i + 5 ≤ L) (h0 : (τ 6 0 0 0).toNatClampNeg = L) (hV : LInv σ τ F) (hk : ∀ F1 σ2, LInv σ σ2 F1 → AW ML_law 10 LQ (1341, LLS i, [], σ2)) : AW ML_law 10 LQ (618, LLS i, [], τ) := by
  obtain ⟨hA, hD, hG, h6⟩ := hV
  have vin : ∀ x, x < L → vp_in (nI x) (τ 6 0 0 0).toNatClampNeg := fun x hx => by rw [h0]; exact vp_in_nI hx (by omega)
  show AW ML_law 10 LQ (618, [(0, .inr (.inr (6, 0, 1))), (1, .inr (.inr (4, 0, 0))), (2, .inr (.inr (5, 0, 0))), (3, .inl (nI i))], [], τ)
  refine AW.run 5 [] (623, [(0, .inr (.inr (6, 0, 1))), (1, .inr (.inr (4, 0, 0))), (2, .inr (.inr (5, 0, 0))), (3, .inl (nI i))], [.inl ((nI i) + 1), .inr (.inr (6, 0, 1)), .inr (.inr (4, 0, 0))], τ) [] rfl ?_ ?_
  · exact trivial
  rw [show nI i + 1 = nI (i + 1) from nI_add i 1]
  refine AW.run 1 [] (624, [(0, .inr (.inr (6, 0, 1))), (1, .inr (.inr (4, 0, 0))), (2, .inr (.inr (5, 0, 0))), (3, .inl (nI i))], [.inl (τ 6 0 1 (nI (i + 1)).toNatClampNeg), .inr (.inr (4, 0, 0))], τ) [vp_in (nI (i + 1)) ((τ 6 0 0 0).toNatClampNeg)] rfl ?_ ?_
  · exact allP1 (by first | exact vin _ (by omega) | exact vin1 _ (by omega))
  refine AW.run 4 [] (628, [(0, .inr (.inr (6, 0, 1))), (1, .inr (.inr (4, 0, 0))), (2, .inr (.inr (5, 0, 0))), (3, .inl (nI i))], [.inl ((nI i) + 2), .inr (.inr (6, 0, 1)), .inl (τ 6 0 1 (nI (i + 1)).toNatClampNeg), .inr (.inr (4, 0, 0))], τ) [] rfl ?_ ?_
  · exact trivial
  rw [show nI i + 2 = nI (i + 2) from nI_add i 2]
  refine AW.run 1 [] (629, [(0, .inr (.inr (6, 0, 1))), (1, .inr (.inr (4, 0, 0))), (2, .inr (.inr (5, 0, 0))), (3, .inl (nI i))], [.inl (τ 6 0 1 (nI (i + 2)).toNatClampNeg), .inl (τ 6 0 1 (nI (i + 1)).toNatClampNeg), .inr (.inr (4, 0, 0))], τ) [vp_in (nI (i + 2)) ((τ 6 0 0 0).toNatClampNeg)] rfl ?_ ?_
  · exact allP1 (by first | exact vin _ (by omega) | exact vin1 _ (by omega))
  refine AW.callVI (d' := 6) [.inl (τ 6 0 1 (nI (i + 1)).toNatClampNeg), .inl (τ 6 0 1 (nI (i + 2)).toNatClampNeg)] [] ⟨_, rfl⟩ f_5_safe v_5_safe l_9_81 ⟨rfl, by decide⟩ rfl (Nat.le_of_ble_eq_true rfl) rfl (Nat.le_of_ble_eq_true rfl) (c5_safe F τ hA hG.1 (τ 6 0 1 (nI (i + 1)).toNatClampNeg) (τ 6 0 1 (nI (i + 2)).toNatClampNeg)) ?_
  rintro v1 σ1 ⟨F1, hr1, hA1, hX1⟩
  have vin1 : ∀ x, x < L → vp_in (nI x) (σ1 6 0 0 0).toNatClampNeg := fun x hx => by rw [hX1.2]; exact vin x hx
  refine AW.run 5 [] (637, [(0, .inr (.inr (6, 0, 1))), (1, .inr (.inr (4, 0, 0))), (2, .inr (.inr (5, 0, 0))), (3, .inl (nI i))], [.inl ((nI i) + 1), .inr (.inr (6, 0, 1)), .inr (.inr (5, 0, 0)), .inl v1], σ1) [] rfl ?_ ?_
  · exact trivial
  rw [show nI i + 1 = nI (i + 1) from nI_add i 1]
  refine AW.run 1 [] (638, [(0, .inr (.inr (6, 0, 1))), (1, .inr (.inr (4, 0, 0))), (2, .inr (.inr (5, 0, 0))), (3, .inl (nI i))], [.inl (σ1 6 0 1 (nI (i + 1)).toNatClampNeg), .inr (.inr (5, 0, 0)), .inl v1], σ1) [vp_in (nI (i + 1)) ((σ1 6 0 0 0).toNatClampNeg)] rfl ?_ ?_
  · exact allP1 (by first | exact vin _ (by omega) | exact vin1 _ (by omega))
  rw [hX1.2]
  refine AW.run 4 [] (642, [(0, .inr (.inr (6, 0, 1))), (1, .inr (.inr (4, 0, 0))), (2, .inr (.inr (5, 0, 0))), (3, .inl (nI i))], [.inl ((nI i) + 2), .inr (.inr (6, 0, 1)), .inl (τ 6 0 1 (nI (i + 1)).toNatClampNeg), .inr (.inr (5, 0, 0)), .inl v1], σ1) [] rfl ?_ ?_
  · exact trivial
  rw [show nI i + 2 = nI (i + 2) from nI_add i 2]
  refine AW.run 1 [] (643, [(0, .inr (.inr (6, 0, 1))), (1, .inr (.inr (4, 0, 0))), (2, .inr (.inr (5, 0, 0))), (3, .inl (nI i))], [.inl (σ1 6 0 1 (nI (i + 2)).toNatClampNeg), .inl (τ 6 0 1 (nI (i + 1)).toNatClampNeg), .inr (.inr (5, 0, 0)), .inl v1], σ1) [vp_in (nI (i + 2)) ((σ1 6 0 0 0).toNatClampNeg)] rfl ?_ ?_
  · exact allP1 (by first | exact vin _ (by omega) | exact vin1 _ (by omega))
  rw [hX1.2]
  refine AW.callVI (d' := 7) [.inl (τ 6 0 1 (nI (i + 1)).toNatClampNeg), .inl (τ 6 0 1 (nI (i + 2)).toNatClampNeg)] [.inl v1] ⟨_, rfl⟩ f_6_safe v_6_safe l_9_84 ⟨rfl, by decide⟩ rfl (Nat.le_of_ble_eq_true rfl) rfl (Nat.le_of_ble_eq_true rfl) (d6_safe F σ1 (RepD_oth hX1.1 hD) hG (τ 6 0 1 (nI (i + 1)).toNatClampNeg) (τ 6 0 1 (nI (i + 2)).toNatClampNeg)) ?_
  rintro v2 σ2 ⟨F2, hr2, hD2, hT2⟩
  obtain ⟨rfl, rfl, hF1⟩ := pair_i hr1 hr2
  refine AW.run 1 [true] (1341, [(0, .inr (.inr (6, 0, 1))), (1, .inr (.inr (4, 0, 0))), (2, .inr (.inr (5, 0, 0))), (3, .inl (nI i))], [], σ2) [icP .eq v1 v1] rfl ?_ ?_
  · exact allP1 (rfl)
  exact hk _ _ (LInv_step h6 (by have hg9 := g_safe hG (τ 6 0 1 (nI (i + 1)).toNatClampNeg) (τ 6 0 1 (nI (i + 2)).toNatClampNeg); rw [hF1] at hg9; exact hg9) hA1 hX1 hD2 hT2)
set_option maxHeartbeats 4000000 in
set_option maxRecDepth 100000 in
theorem law_towel {σ τ : St} {F : Gv} {L i : Nat} (hL : L ≤ 2560) (hi : i + 5 ≤ L) (h0 : (τ 6 0 0 0).toNatClampNeg = L) (hV : LInv σ τ F) (hk : ∀ F1 σ2, LInv σ σ2 F1 → AW ML_law 10 LQ (1341, LLS i, [], σ2)) : AW ML_law 10 LQ (651, LLS i, [], τ) := by
  obtain ⟨hA, hD, hG, h6⟩ := hV
  have vin : ∀ x, x < L → vp_in (nI x) (τ 6 0 0 0).toNatClampNeg := fun x hx => by rw [h0]; exact vp_in_nI hx (by omega)
  show AW ML_law 10 LQ (651, [(0, .inr (.inr (6, 0, 1))), (1, .inr (.inr (4, 0, 0))), (2, .inr (.inr (5, 0, 0))), (3, .inl (nI i))], [], τ)
  refine AW.run 5 [] (656, [(0, .inr (.inr (6, 0, 1))), (1, .inr (.inr (4, 0, 0))), (2, .inr (.inr (5, 0, 0))), (3, .inl (nI i))], [.inl ((nI i) + 1), .inr (.inr (6, 0, 1)), .inr (.inr (4, 0, 0))], τ) [] rfl ?_ ?_
  · exact trivial
  rw [show nI i + 1 = nI (i + 1) from nI_add i 1]
  refine AW.run 1 [] (657, [(0, .inr (.inr (6, 0, 1))), (1, .inr (.inr (4, 0, 0))), (2, .inr (.inr (5, 0, 0))), (3, .inl (nI i))], [.inl (τ 6 0 1 (nI (i + 1)).toNatClampNeg), .inr (.inr (4, 0, 0))], τ) [vp_in (nI (i + 1)) ((τ 6 0 0 0).toNatClampNeg)] rfl ?_ ?_
  · exact allP1 (by first | exact vin _ (by omega) | exact vin1 _ (by omega))
  refine AW.callVI (d' := 6) [.inl (τ 6 0 1 (nI (i + 1)).toNatClampNeg)] [] ⟨_, rfl⟩ f_5_towel v_5_towel l_9_85 ⟨rfl, by decide⟩ rfl (Nat.le_of_ble_eq_true rfl) rfl (Nat.le_of_ble_eq_true rfl) (c5_towel F τ hA hG.1 (τ 6 0 1 (nI (i + 1)).toNatClampNeg)) ?_
  rintro v1 σ1 ⟨F1, hr1, hA1, hX1⟩
  have vin1 : ∀ x, x < L → vp_in (nI x) (σ1 6 0 0 0).toNatClampNeg := fun x hx => by rw [hX1.2]; exact vin x hx
  refine AW.run 5 [] (665, [(0, .inr (.inr (6, 0, 1))), (1, .inr (.inr (4, 0, 0))), (2, .inr (.inr (5, 0, 0))), (3, .inl (nI i))], [.inl ((nI i) + 1), .inr (.inr (6, 0, 1)), .inr (.inr (5, 0, 0)), .inl v1], σ1) [] rfl ?_ ?_
  · exact trivial
  rw [show nI i + 1 = nI (i + 1) from nI_add i 1]
  refine AW.run 1 [] (666, [(0, .inr (.inr (6, 0, 1))), (1, .inr (.inr (4, 0, 0))), (2, .inr (.inr (5, 0, 0))), (3, .inl (nI i))], [.inl (σ1 6 0 1 (nI (i + 1)).toNatClampNeg), .inr (.inr (5, 0, 0)), .inl v1], σ1) [vp_in (nI (i + 1)) ((σ1 6 0 0 0).toNatClampNeg)] rfl ?_ ?_
  · exact allP1 (by first | exact vin _ (by omega) | exact vin1 _ (by omega))
  rw [hX1.2]
  refine AW.callVI (d' := 7) [.inl (τ 6 0 1 (nI (i + 1)).toNatClampNeg)] [.inl v1] ⟨_, rfl⟩ f_6_towel v_6_towel l_9_88 ⟨rfl, by decide⟩ rfl (Nat.le_of_ble_eq_true rfl) rfl (Nat.le_of_ble_eq_true rfl) (d6_towel F σ1 (RepD_oth hX1.1 hD) hG (τ 6 0 1 (nI (i + 1)).toNatClampNeg)) ?_
  rintro v2 σ2 ⟨F2, hr2, hD2, hT2⟩
  obtain ⟨rfl, rfl, hF1⟩ := pair_i hr1 hr2
  refine AW.run 1 [true] (1341, [(0, .inr (.inr (6, 0, 1))), (1, .inr (.inr (4, 0, 0))), (2, .inr (.inr (5, 0, 0))), (3, .inl (nI i))], [], σ2) [icP .eq v1 v1] rfl ?_ ?_
  · exact allP1 (rfl)
  exact hk _ _ (LInv_step h6 (by have hg9 := g_towel hG (τ 6 0 1 (nI (i + 1)).toNatClampNeg); rw [hF1] at hg9; exact hg9) hA1 hX1 hD2 hT2)
set_option maxHeartbeats 4000000 in
set_option maxRecDepth 100000 in
theorem law_spoon {σ τ : St} {F : Gv} {L i : Nat} (hL : L ≤ 2560) (hi : i + 5 ≤ L) (h0 : (τ 6 0 0 0).toNatClampNeg = L) (hV : LInv σ τ F) (hk : ∀ F1 σ2, LInv σ σ2 F1 → AW ML_law 10 LQ (1341, LLS i, [], σ2)) : AW ML_law 10 LQ (674, LLS i, [], τ) := by
  obtain ⟨hA, hD, hG, h6⟩ := hV
  have vin : ∀ x, x < L → vp_in (nI x) (τ 6 0 0 0).toNatClampNeg := fun x hx => by rw [h0]; exact vp_in_nI hx (by omega)
  show AW ML_law 10 LQ (674, [(0, .inr (.inr (6, 0, 1))), (1, .inr (.inr (4, 0, 0))), (2, .inr (.inr (5, 0, 0))), (3, .inl (nI i))], [], τ)
  refine AW.run 5 [] (679, [(0, .inr (.inr (6, 0, 1))), (1, .inr (.inr (4, 0, 0))), (2, .inr (.inr (5, 0, 0))), (3, .inl (nI i))], [.inl ((nI i) + 1), .inr (.inr (6, 0, 1)), .inr (.inr (4, 0, 0))], τ) [] rfl ?_ ?_
  · exact trivial
  rw [show nI i + 1 = nI (i + 1) from nI_add i 1]
  refine AW.run 1 [] (680, [(0, .inr (.inr (6, 0, 1))), (1, .inr (.inr (4, 0, 0))), (2, .inr (.inr (5, 0, 0))), (3, .inl (nI i))], [.inl (τ 6 0 1 (nI (i + 1)).toNatClampNeg), .inr (.inr (4, 0, 0))], τ) [vp_in (nI (i + 1)) ((τ 6 0 0 0).toNatClampNeg)] rfl ?_ ?_
  · exact allP1 (by first | exact vin _ (by omega) | exact vin1 _ (by omega))
  refine AW.run 4 [] (684, [(0, .inr (.inr (6, 0, 1))), (1, .inr (.inr (4, 0, 0))), (2, .inr (.inr (5, 0, 0))), (3, .inl (nI i))], [.inl ((nI i) + 2), .inr (.inr (6, 0, 1)), .inl (τ 6 0 1 (nI (i + 1)).toNatClampNeg), .inr (.inr (4, 0, 0))], τ) [] rfl ?_ ?_
  · exact trivial
  rw [show nI i + 2 = nI (i + 2) from nI_add i 2]
  refine AW.run 1 [] (685, [(0, .inr (.inr (6, 0, 1))), (1, .inr (.inr (4, 0, 0))), (2, .inr (.inr (5, 0, 0))), (3, .inl (nI i))], [.inl (τ 6 0 1 (nI (i + 2)).toNatClampNeg), .inl (τ 6 0 1 (nI (i + 1)).toNatClampNeg), .inr (.inr (4, 0, 0))], τ) [vp_in (nI (i + 2)) ((τ 6 0 0 0).toNatClampNeg)] rfl ?_ ?_
  · exact allP1 (by first | exact vin _ (by omega) | exact vin1 _ (by omega))
  refine AW.callVI (d' := 6) [.inl (τ 6 0 1 (nI (i + 1)).toNatClampNeg), .inl (τ 6 0 1 (nI (i + 2)).toNatClampNeg)] [] ⟨_, rfl⟩ f_5_spoon v_5_spoon l_9_89 ⟨rfl, by decide⟩ rfl (Nat.le_of_ble_eq_true rfl) rfl (Nat.le_of_ble_eq_true rfl) (c5_spoon F τ hA hG.1 (τ 6 0 1 (nI (i + 1)).toNatClampNeg) (τ 6 0 1 (nI (i + 2)).toNatClampNeg)) ?_
  rintro v1 σ1 ⟨F1, hr1, hA1, hX1⟩
  have vin1 : ∀ x, x < L → vp_in (nI x) (σ1 6 0 0 0).toNatClampNeg := fun x hx => by rw [hX1.2]; exact vin x hx
  refine AW.run 5 [] (693, [(0, .inr (.inr (6, 0, 1))), (1, .inr (.inr (4, 0, 0))), (2, .inr (.inr (5, 0, 0))), (3, .inl (nI i))], [.inl ((nI i) + 1), .inr (.inr (6, 0, 1)), .inr (.inr (5, 0, 0)), .inl v1], σ1) [] rfl ?_ ?_
  · exact trivial
  rw [show nI i + 1 = nI (i + 1) from nI_add i 1]
  refine AW.run 1 [] (694, [(0, .inr (.inr (6, 0, 1))), (1, .inr (.inr (4, 0, 0))), (2, .inr (.inr (5, 0, 0))), (3, .inl (nI i))], [.inl (σ1 6 0 1 (nI (i + 1)).toNatClampNeg), .inr (.inr (5, 0, 0)), .inl v1], σ1) [vp_in (nI (i + 1)) ((σ1 6 0 0 0).toNatClampNeg)] rfl ?_ ?_
  · exact allP1 (by first | exact vin _ (by omega) | exact vin1 _ (by omega))
  rw [hX1.2]
  refine AW.run 4 [] (698, [(0, .inr (.inr (6, 0, 1))), (1, .inr (.inr (4, 0, 0))), (2, .inr (.inr (5, 0, 0))), (3, .inl (nI i))], [.inl ((nI i) + 2), .inr (.inr (6, 0, 1)), .inl (τ 6 0 1 (nI (i + 1)).toNatClampNeg), .inr (.inr (5, 0, 0)), .inl v1], σ1) [] rfl ?_ ?_
  · exact trivial
  rw [show nI i + 2 = nI (i + 2) from nI_add i 2]
  refine AW.run 1 [] (699, [(0, .inr (.inr (6, 0, 1))), (1, .inr (.inr (4, 0, 0))), (2, .inr (.inr (5, 0, 0))), (3, .inl (nI i))], [.inl (σ1 6 0 1 (nI (i + 2)).toNatClampNeg), .inl (τ 6 0 1 (nI (i + 1)).toNatClampNeg), .inr (.inr (5, 0, 0)), .inl v1], σ1) [vp_in (nI (i + 2)) ((σ1 6 0 0 0).toNatClampNeg)] rfl ?_ ?_
  · exact allP1 (by first | exact vin _ (by omega) | exact vin1 _ (by omega))
  rw [hX1.2]
  refine AW.callVI (d' := 8) [.inl (τ 6 0 1 (nI (i + 1)).toNatClampNeg), .inl (τ 6 0 1 (nI (i + 2)).toNatClampNeg)] [.inl v1] ⟨_, rfl⟩ f_6_spoon v_6_spoon l_9_92 ⟨rfl, by decide⟩ rfl (Nat.le_of_ble_eq_true rfl) rfl (Nat.le_of_ble_eq_true rfl) (d6_spoon F σ1 (RepD_oth hX1.1 hD) hG (τ 6 0 1 (nI (i + 1)).toNatClampNeg) (τ 6 0 1 (nI (i + 2)).toNatClampNeg)) ?_
  rintro v2 σ2 ⟨F2, hr2, hD2, hT2⟩
  obtain ⟨rfl, rfl, hF1⟩ := pair_i hr1 hr2
  refine AW.run 1 [true] (1341, [(0, .inr (.inr (6, 0, 1))), (1, .inr (.inr (4, 0, 0))), (2, .inr (.inr (5, 0, 0))), (3, .inl (nI i))], [], σ2) [icP .eq v1 v1] rfl ?_ ?_
  · exact allP1 (rfl)
  exact hk _ _ (LInv_step h6 (by have hg9 := g_spoon hG (τ 6 0 1 (nI (i + 1)).toNatClampNeg) (τ 6 0 1 (nI (i + 2)).toNatClampNeg); rw [hF1] at hg9; exact hg9) hA1 hX1 hD2 hT2)
set_option maxHeartbeats 4000000 in
set_option maxRecDepth 100000 in
theorem law_out {σ τ : St} {F : Gv} {L i : Nat} (hL : L ≤ 2560) (hi : i + 5 ≤ L) (h0 : (τ 6 0 0 0).toNatClampNeg = L) (hV : LInv σ τ F) (hk : ∀ F1 σ2, LInv σ σ2 F1 → AW ML_law 10 LQ (1341, LLS i, [], σ2)) : AW ML_law 10 LQ (707, LLS i, [], τ) := by
  obtain ⟨hA, hD, hG, h6⟩ := hV
  have vin : ∀ x, x < L → vp_in (nI x) (τ 6 0 0 0).toNatClampNeg := fun x hx => by rw [h0]; exact vp_in_nI hx (by omega)
  show AW ML_law 10 LQ (707, [(0, .inr (.inr (6, 0, 1))), (1, .inr (.inr (4, 0, 0))), (2, .inr (.inr (5, 0, 0))), (3, .inl (nI i))], [], τ)
  refine AW.run 5 [] (712, [(0, .inr (.inr (6, 0, 1))), (1, .inr (.inr (4, 0, 0))), (2, .inr (.inr (5, 0, 0))), (3, .inl (nI i))], [.inl ((nI i) + 1), .inr (.inr (6, 0, 1)), .inr (.inr (4, 0, 0))], τ) [] rfl ?_ ?_
  · exact trivial
  rw [show nI i + 1 = nI (i + 1) from nI_add i 1]
  refine AW.run 1 [] (713, [(0, .inr (.inr (6, 0, 1))), (1, .inr (.inr (4, 0, 0))), (2, .inr (.inr (5, 0, 0))), (3, .inl (nI i))], [.inl (τ 6 0 1 (nI (i + 1)).toNatClampNeg), .inr (.inr (4, 0, 0))], τ) [vp_in (nI (i + 1)) ((τ 6 0 0 0).toNatClampNeg)] rfl ?_ ?_
  · exact allP1 (by first | exact vin _ (by omega) | exact vin1 _ (by omega))
  refine AW.callVI (d' := 6) [.inl (τ 6 0 1 (nI (i + 1)).toNatClampNeg)] [] ⟨_, rfl⟩ f_5_out v_5_out l_9_93 ⟨rfl, by decide⟩ rfl (Nat.le_of_ble_eq_true rfl) rfl (Nat.le_of_ble_eq_true rfl) (c5_out F τ hA hG.1 (τ 6 0 1 (nI (i + 1)).toNatClampNeg)) ?_
  rintro v1 σ1 ⟨F1, hr1, hA1, hX1⟩
  have vin1 : ∀ x, x < L → vp_in (nI x) (σ1 6 0 0 0).toNatClampNeg := fun x hx => by rw [hX1.2]; exact vin x hx
  refine AW.run 5 [] (721, [(0, .inr (.inr (6, 0, 1))), (1, .inr (.inr (4, 0, 0))), (2, .inr (.inr (5, 0, 0))), (3, .inl (nI i))], [.inl ((nI i) + 1), .inr (.inr (6, 0, 1)), .inr (.inr (5, 0, 0)), .inl v1], σ1) [] rfl ?_ ?_
  · exact trivial
  rw [show nI i + 1 = nI (i + 1) from nI_add i 1]
  refine AW.run 1 [] (722, [(0, .inr (.inr (6, 0, 1))), (1, .inr (.inr (4, 0, 0))), (2, .inr (.inr (5, 0, 0))), (3, .inl (nI i))], [.inl (σ1 6 0 1 (nI (i + 1)).toNatClampNeg), .inr (.inr (5, 0, 0)), .inl v1], σ1) [vp_in (nI (i + 1)) ((σ1 6 0 0 0).toNatClampNeg)] rfl ?_ ?_
  · exact allP1 (by first | exact vin _ (by omega) | exact vin1 _ (by omega))
  rw [hX1.2]
  refine AW.callVI (d' := 7) [.inl (τ 6 0 1 (nI (i + 1)).toNatClampNeg)] [.inl v1] ⟨_, rfl⟩ f_6_out v_6_out l_9_96 ⟨rfl, by decide⟩ rfl (Nat.le_of_ble_eq_true rfl) rfl (Nat.le_of_ble_eq_true rfl) (d6_out F σ1 (RepD_oth hX1.1 hD) hG (τ 6 0 1 (nI (i + 1)).toNatClampNeg)) ?_
  rintro v2 σ2 ⟨F2, hr2, hD2, hT2⟩
  obtain ⟨rfl, rfl, hF1⟩ := pair_i hr1 hr2
  refine AW.run 1 [true] (1341, [(0, .inr (.inr (6, 0, 1))), (1, .inr (.inr (4, 0, 0))), (2, .inr (.inr (5, 0, 0))), (3, .inl (nI i))], [], σ2) [icP .eq v1 v1] rfl ?_ ?_
  · exact allP1 (rfl)
  exact hk _ _ (LInv_step h6 (by have hg9 := g_out hG (τ 6 0 1 (nI (i + 1)).toNatClampNeg); rw [hF1] at hg9; exact hg9) hA1 hX1 hD2 hT2)
set_option maxHeartbeats 4000000 in
set_option maxRecDepth 100000 in
theorem law_ready {σ τ : St} {F : Gv} {L i : Nat} (hL : L ≤ 2560) (hi : i + 5 ≤ L) (h0 : (τ 6 0 0 0).toNatClampNeg = L) (hV : LInv σ τ F) (hk : ∀ F1 σ2, LInv σ σ2 F1 → AW ML_law 10 LQ (1341, LLS i, [], σ2)) : AW ML_law 10 LQ (730, LLS i, [], τ) := by
  obtain ⟨hA, hD, hG, h6⟩ := hV
  have vin : ∀ x, x < L → vp_in (nI x) (τ 6 0 0 0).toNatClampNeg := fun x hx => by rw [h0]; exact vp_in_nI hx (by omega)
  show AW ML_law 10 LQ (730, [(0, .inr (.inr (6, 0, 1))), (1, .inr (.inr (4, 0, 0))), (2, .inr (.inr (5, 0, 0))), (3, .inl (nI i))], [], τ)
  refine AW.run 5 [] (735, [(0, .inr (.inr (6, 0, 1))), (1, .inr (.inr (4, 0, 0))), (2, .inr (.inr (5, 0, 0))), (3, .inl (nI i))], [.inl ((nI i) + 1), .inr (.inr (6, 0, 1)), .inr (.inr (4, 0, 0))], τ) [] rfl ?_ ?_
  · exact trivial
  rw [show nI i + 1 = nI (i + 1) from nI_add i 1]
  refine AW.run 1 [] (736, [(0, .inr (.inr (6, 0, 1))), (1, .inr (.inr (4, 0, 0))), (2, .inr (.inr (5, 0, 0))), (3, .inl (nI i))], [.inl (τ 6 0 1 (nI (i + 1)).toNatClampNeg), .inr (.inr (4, 0, 0))], τ) [vp_in (nI (i + 1)) ((τ 6 0 0 0).toNatClampNeg)] rfl ?_ ?_
  · exact allP1 (by first | exact vin _ (by omega) | exact vin1 _ (by omega))
  refine AW.run 4 [] (740, [(0, .inr (.inr (6, 0, 1))), (1, .inr (.inr (4, 0, 0))), (2, .inr (.inr (5, 0, 0))), (3, .inl (nI i))], [.inl ((nI i) + 2), .inr (.inr (6, 0, 1)), .inl (τ 6 0 1 (nI (i + 1)).toNatClampNeg), .inr (.inr (4, 0, 0))], τ) [] rfl ?_ ?_
  · exact trivial
  rw [show nI i + 2 = nI (i + 2) from nI_add i 2]
  refine AW.run 1 [] (741, [(0, .inr (.inr (6, 0, 1))), (1, .inr (.inr (4, 0, 0))), (2, .inr (.inr (5, 0, 0))), (3, .inl (nI i))], [.inl (τ 6 0 1 (nI (i + 2)).toNatClampNeg), .inl (τ 6 0 1 (nI (i + 1)).toNatClampNeg), .inr (.inr (4, 0, 0))], τ) [vp_in (nI (i + 2)) ((τ 6 0 0 0).toNatClampNeg)] rfl ?_ ?_
  · exact allP1 (by first | exact vin _ (by omega) | exact vin1 _ (by omega))
  refine AW.run 4 [] (745, [(0, .inr (.inr (6, 0, 1))), (1, .inr (.inr (4, 0, 0))), (2, .inr (.inr (5, 0, 0))), (3, .inl (nI i))], [.inl ((nI i) + 3), .inr (.inr (6, 0, 1)), .inl (τ 6 0 1 (nI (i + 2)).toNatClampNeg), .inl (τ 6 0 1 (nI (i + 1)).toNatClampNeg), .inr (.inr (4, 0, 0))], τ) [] rfl ?_ ?_
  · exact trivial
  rw [show nI i + 3 = nI (i + 3) from nI_add i 3]
  refine AW.run 1 [] (746, [(0, .inr (.inr (6, 0, 1))), (1, .inr (.inr (4, 0, 0))), (2, .inr (.inr (5, 0, 0))), (3, .inl (nI i))], [.inl (τ 6 0 1 (nI (i + 3)).toNatClampNeg), .inl (τ 6 0 1 (nI (i + 2)).toNatClampNeg), .inl (τ 6 0 1 (nI (i + 1)).toNatClampNeg), .inr (.inr (4, 0, 0))], τ) [vp_in (nI (i + 3)) ((τ 6 0 0 0).toNatClampNeg)] rfl ?_ ?_
  · exact allP1 (by first | exact vin _ (by omega) | exact vin1 _ (by omega))
  refine AW.callVI (d' := 5) [.inl (τ 6 0 1 (nI (i + 1)).toNatClampNeg), .inl (τ 6 0 1 (nI (i + 2)).toNatClampNeg), .inl (τ 6 0 1 (nI (i + 3)).toNatClampNeg)] [] ⟨_, rfl⟩ f_5_ready v_5_ready l_9_97 ⟨rfl, by decide⟩ rfl (Nat.le_of_ble_eq_true rfl) rfl (Nat.le_of_ble_eq_true rfl) (c5_ready F τ hA hG.1 (τ 6 0 1 (nI (i + 1)).toNatClampNeg) (τ 6 0 1 (nI (i + 2)).toNatClampNeg) (τ 6 0 1 (nI (i + 3)).toNatClampNeg)) ?_
  rintro v1 σ1 ⟨F1, hr1, hA1, hX1⟩
  have vin1 : ∀ x, x < L → vp_in (nI x) (σ1 6 0 0 0).toNatClampNeg := fun x hx => by rw [hX1.2]; exact vin x hx
  refine AW.run 5 [] (754, [(0, .inr (.inr (6, 0, 1))), (1, .inr (.inr (4, 0, 0))), (2, .inr (.inr (5, 0, 0))), (3, .inl (nI i))], [.inl ((nI i) + 1), .inr (.inr (6, 0, 1)), .inr (.inr (5, 0, 0)), .inl v1], σ1) [] rfl ?_ ?_
  · exact trivial
  rw [show nI i + 1 = nI (i + 1) from nI_add i 1]
  refine AW.run 1 [] (755, [(0, .inr (.inr (6, 0, 1))), (1, .inr (.inr (4, 0, 0))), (2, .inr (.inr (5, 0, 0))), (3, .inl (nI i))], [.inl (σ1 6 0 1 (nI (i + 1)).toNatClampNeg), .inr (.inr (5, 0, 0)), .inl v1], σ1) [vp_in (nI (i + 1)) ((σ1 6 0 0 0).toNatClampNeg)] rfl ?_ ?_
  · exact allP1 (by first | exact vin _ (by omega) | exact vin1 _ (by omega))
  rw [hX1.2]
  refine AW.run 4 [] (759, [(0, .inr (.inr (6, 0, 1))), (1, .inr (.inr (4, 0, 0))), (2, .inr (.inr (5, 0, 0))), (3, .inl (nI i))], [.inl ((nI i) + 2), .inr (.inr (6, 0, 1)), .inl (τ 6 0 1 (nI (i + 1)).toNatClampNeg), .inr (.inr (5, 0, 0)), .inl v1], σ1) [] rfl ?_ ?_
  · exact trivial
  rw [show nI i + 2 = nI (i + 2) from nI_add i 2]
  refine AW.run 1 [] (760, [(0, .inr (.inr (6, 0, 1))), (1, .inr (.inr (4, 0, 0))), (2, .inr (.inr (5, 0, 0))), (3, .inl (nI i))], [.inl (σ1 6 0 1 (nI (i + 2)).toNatClampNeg), .inl (τ 6 0 1 (nI (i + 1)).toNatClampNeg), .inr (.inr (5, 0, 0)), .inl v1], σ1) [vp_in (nI (i + 2)) ((σ1 6 0 0 0).toNatClampNeg)] rfl ?_ ?_
  · exact allP1 (by first | exact vin _ (by omega) | exact vin1 _ (by omega))
  rw [hX1.2]
  refine AW.run 4 [] (764, [(0, .inr (.inr (6, 0, 1))), (1, .inr (.inr (4, 0, 0))), (2, .inr (.inr (5, 0, 0))), (3, .inl (nI i))], [.inl ((nI i) + 3), .inr (.inr (6, 0, 1)), .inl (τ 6 0 1 (nI (i + 2)).toNatClampNeg), .inl (τ 6 0 1 (nI (i + 1)).toNatClampNeg), .inr (.inr (5, 0, 0)), .inl v1], σ1) [] rfl ?_ ?_
  · exact trivial
  rw [show nI i + 3 = nI (i + 3) from nI_add i 3]
  refine AW.run 1 [] (765, [(0, .inr (.inr (6, 0, 1))), (1, .inr (.inr (4, 0, 0))), (2, .inr (.inr (5, 0, 0))), (3, .inl (nI i))], [.inl (σ1 6 0 1 (nI (i + 3)).toNatClampNeg), .inl (τ 6 0 1 (nI (i + 2)).toNatClampNeg), .inl (τ 6 0 1 (nI (i + 1)).toNatClampNeg), .inr (.inr (5, 0, 0)), .inl v1], σ1) [vp_in (nI (i + 3)) ((σ1 6 0 0 0).toNatClampNeg)] rfl ?_ ?_
  · exact allP1 (by first | exact vin _ (by omega) | exact vin1 _ (by omega))
  rw [hX1.2]
  refine AW.callVI (d' := 7) [.inl (τ 6 0 1 (nI (i + 1)).toNatClampNeg), .inl (τ 6 0 1 (nI (i + 2)).toNatClampNeg), .inl (τ 6 0 1 (nI (i + 3)).toNatClampNeg)] [.inl v1] ⟨_, rfl⟩ f_6_ready v_6_ready l_9_100 ⟨rfl, by decide⟩ rfl (Nat.le_of_ble_eq_true rfl) rfl (Nat.le_of_ble_eq_true rfl) (d6_ready F σ1 (RepD_oth hX1.1 hD) hG (τ 6 0 1 (nI (i + 1)).toNatClampNeg) (τ 6 0 1 (nI (i + 2)).toNatClampNeg) (τ 6 0 1 (nI (i + 3)).toNatClampNeg)) ?_
  rintro v2 σ2 ⟨F2, hr2, hD2, hT2⟩
  obtain ⟨rfl, rfl, hF1⟩ := pair_i hr1 hr2
  refine AW.run 1 [true] (1341, [(0, .inr (.inr (6, 0, 1))), (1, .inr (.inr (4, 0, 0))), (2, .inr (.inr (5, 0, 0))), (3, .inl (nI i))], [], σ2) [icP .eq v1 v1] rfl ?_ ?_
  · exact allP1 (rfl)
  exact hk _ _ (LInv_step h6 (by have hg9 := g_ready hG (τ 6 0 1 (nI (i + 1)).toNatClampNeg) (τ 6 0 1 (nI (i + 2)).toNatClampNeg) (τ 6 0 1 (nI (i + 3)).toNatClampNeg); rw [hF1] at hg9; exact hg9) hA1 hX1 hD2 hT2)
set_option maxHeartbeats 4000000 in
set_option maxRecDepth 100000 in
theorem law_feedFor {σ τ : St} {F : Gv} {L i : Nat} (hL : L ≤ 2560) (hi : i + 5 ≤ L) (h0 : (τ 6 0 0 0).toNatClampNeg = L) (hV : LInv σ τ F) (hk : ∀ F1 σ2, LInv σ σ2 F1 → AW ML_law 10 LQ (1341, LLS i, [], σ2)) : AW ML_law 10 LQ (773, LLS i, [], τ) := by
  obtain ⟨hA, hD, hG, h6⟩ := hV
  have vin : ∀ x, x < L → vp_in (nI x) (τ 6 0 0 0).toNatClampNeg := fun x hx => by rw [h0]; exact vp_in_nI hx (by omega)
  show AW ML_law 10 LQ (773, [(0, .inr (.inr (6, 0, 1))), (1, .inr (.inr (4, 0, 0))), (2, .inr (.inr (5, 0, 0))), (3, .inl (nI i))], [], τ)
  refine AW.run 5 [] (778, [(0, .inr (.inr (6, 0, 1))), (1, .inr (.inr (4, 0, 0))), (2, .inr (.inr (5, 0, 0))), (3, .inl (nI i))], [.inl ((nI i) + 1), .inr (.inr (6, 0, 1)), .inr (.inr (4, 0, 0))], τ) [] rfl ?_ ?_
  · exact trivial
  rw [show nI i + 1 = nI (i + 1) from nI_add i 1]
  refine AW.run 1 [] (779, [(0, .inr (.inr (6, 0, 1))), (1, .inr (.inr (4, 0, 0))), (2, .inr (.inr (5, 0, 0))), (3, .inl (nI i))], [.inl (τ 6 0 1 (nI (i + 1)).toNatClampNeg), .inr (.inr (4, 0, 0))], τ) [vp_in (nI (i + 1)) ((τ 6 0 0 0).toNatClampNeg)] rfl ?_ ?_
  · exact allP1 (by first | exact vin _ (by omega) | exact vin1 _ (by omega))
  refine AW.run 4 [] (783, [(0, .inr (.inr (6, 0, 1))), (1, .inr (.inr (4, 0, 0))), (2, .inr (.inr (5, 0, 0))), (3, .inl (nI i))], [.inl ((nI i) + 2), .inr (.inr (6, 0, 1)), .inl (τ 6 0 1 (nI (i + 1)).toNatClampNeg), .inr (.inr (4, 0, 0))], τ) [] rfl ?_ ?_
  · exact trivial
  rw [show nI i + 2 = nI (i + 2) from nI_add i 2]
  refine AW.run 1 [] (784, [(0, .inr (.inr (6, 0, 1))), (1, .inr (.inr (4, 0, 0))), (2, .inr (.inr (5, 0, 0))), (3, .inl (nI i))], [.inl (τ 6 0 1 (nI (i + 2)).toNatClampNeg), .inl (τ 6 0 1 (nI (i + 1)).toNatClampNeg), .inr (.inr (4, 0, 0))], τ) [vp_in (nI (i + 2)) ((τ 6 0 0 0).toNatClampNeg)] rfl ?_ ?_
  · exact allP1 (by first | exact vin _ (by omega) | exact vin1 _ (by omega))
  refine AW.callVI (d' := 4) [.inl (τ 6 0 1 (nI (i + 1)).toNatClampNeg), .inl (τ 6 0 1 (nI (i + 2)).toNatClampNeg)] [] ⟨_, rfl⟩ f_5_feedFor v_5_feedFor l_9_101 ⟨rfl, by decide⟩ rfl (Nat.le_of_ble_eq_true rfl) rfl (Nat.le_of_ble_eq_true rfl) (c5_feedFor F τ hA hG.1 (τ 6 0 1 (nI (i + 1)).toNatClampNeg) (τ 6 0 1 (nI (i + 2)).toNatClampNeg)) ?_
  rintro v1 σ1 ⟨F1, hr1, hA1, hX1⟩
  have vin1 : ∀ x, x < L → vp_in (nI x) (σ1 6 0 0 0).toNatClampNeg := fun x hx => by rw [hX1.2]; exact vin x hx
  refine AW.run 5 [] (792, [(0, .inr (.inr (6, 0, 1))), (1, .inr (.inr (4, 0, 0))), (2, .inr (.inr (5, 0, 0))), (3, .inl (nI i))], [.inl ((nI i) + 1), .inr (.inr (6, 0, 1)), .inr (.inr (5, 0, 0)), .inl v1], σ1) [] rfl ?_ ?_
  · exact trivial
  rw [show nI i + 1 = nI (i + 1) from nI_add i 1]
  refine AW.run 1 [] (793, [(0, .inr (.inr (6, 0, 1))), (1, .inr (.inr (4, 0, 0))), (2, .inr (.inr (5, 0, 0))), (3, .inl (nI i))], [.inl (σ1 6 0 1 (nI (i + 1)).toNatClampNeg), .inr (.inr (5, 0, 0)), .inl v1], σ1) [vp_in (nI (i + 1)) ((σ1 6 0 0 0).toNatClampNeg)] rfl ?_ ?_
  · exact allP1 (by first | exact vin _ (by omega) | exact vin1 _ (by omega))
  rw [hX1.2]
  refine AW.run 4 [] (797, [(0, .inr (.inr (6, 0, 1))), (1, .inr (.inr (4, 0, 0))), (2, .inr (.inr (5, 0, 0))), (3, .inl (nI i))], [.inl ((nI i) + 2), .inr (.inr (6, 0, 1)), .inl (τ 6 0 1 (nI (i + 1)).toNatClampNeg), .inr (.inr (5, 0, 0)), .inl v1], σ1) [] rfl ?_ ?_
  · exact trivial
  rw [show nI i + 2 = nI (i + 2) from nI_add i 2]
  refine AW.run 1 [] (798, [(0, .inr (.inr (6, 0, 1))), (1, .inr (.inr (4, 0, 0))), (2, .inr (.inr (5, 0, 0))), (3, .inl (nI i))], [.inl (σ1 6 0 1 (nI (i + 2)).toNatClampNeg), .inl (τ 6 0 1 (nI (i + 1)).toNatClampNeg), .inr (.inr (5, 0, 0)), .inl v1], σ1) [vp_in (nI (i + 2)) ((σ1 6 0 0 0).toNatClampNeg)] rfl ?_ ?_
  · exact allP1 (by first | exact vin _ (by omega) | exact vin1 _ (by omega))
  rw [hX1.2]
  refine AW.callVI (d' := 6) [.inl (τ 6 0 1 (nI (i + 1)).toNatClampNeg), .inl (τ 6 0 1 (nI (i + 2)).toNatClampNeg)] [.inl v1] ⟨_, rfl⟩ f_6_feedFor v_6_feedFor l_9_104 ⟨rfl, by decide⟩ rfl (Nat.le_of_ble_eq_true rfl) rfl (Nat.le_of_ble_eq_true rfl) (d6_feedFor F σ1 (RepD_oth hX1.1 hD) hG (τ 6 0 1 (nI (i + 1)).toNatClampNeg) (τ 6 0 1 (nI (i + 2)).toNatClampNeg)) ?_
  rintro v2 σ2 ⟨F2, hr2, hD2, hT2⟩
  obtain ⟨rfl, rfl, hF1⟩ := pair_i hr1 hr2
  refine AW.run 1 [true] (1341, [(0, .inr (.inr (6, 0, 1))), (1, .inr (.inr (4, 0, 0))), (2, .inr (.inr (5, 0, 0))), (3, .inl (nI i))], [], σ2) [icP .eq v1 v1] rfl ?_ ?_
  · exact allP1 (rfl)
  exact hk _ _ (LInv_step h6 (by have hg9 := g_feedFor hG (τ 6 0 1 (nI (i + 1)).toNatClampNeg) (τ 6 0 1 (nI (i + 2)).toNatClampNeg); rw [hF1] at hg9; exact hg9) hA1 hX1 hD2 hT2)
set_option maxHeartbeats 4000000 in
set_option maxRecDepth 100000 in
theorem law_move {σ τ : St} {F : Gv} {L i : Nat} (hL : L ≤ 2560) (hi : i + 5 ≤ L) (h0 : (τ 6 0 0 0).toNatClampNeg = L) (hV : LInv σ τ F) (hk : ∀ F1 σ2, LInv σ σ2 F1 → AW ML_law 10 LQ (1341, LLS i, [], σ2)) : AW ML_law 10 LQ (806, LLS i, [], τ) := by
  obtain ⟨hA, hD, hG, h6⟩ := hV
  have vin : ∀ x, x < L → vp_in (nI x) (τ 6 0 0 0).toNatClampNeg := fun x hx => by rw [h0]; exact vp_in_nI hx (by omega)
  show AW ML_law 10 LQ (806, [(0, .inr (.inr (6, 0, 1))), (1, .inr (.inr (4, 0, 0))), (2, .inr (.inr (5, 0, 0))), (3, .inl (nI i))], [], τ)
  refine AW.run 5 [] (811, [(0, .inr (.inr (6, 0, 1))), (1, .inr (.inr (4, 0, 0))), (2, .inr (.inr (5, 0, 0))), (3, .inl (nI i))], [.inl ((nI i) + 1), .inr (.inr (6, 0, 1)), .inr (.inr (4, 0, 0))], τ) [] rfl ?_ ?_
  · exact trivial
  rw [show nI i + 1 = nI (i + 1) from nI_add i 1]
  refine AW.run 1 [] (812, [(0, .inr (.inr (6, 0, 1))), (1, .inr (.inr (4, 0, 0))), (2, .inr (.inr (5, 0, 0))), (3, .inl (nI i))], [.inl (τ 6 0 1 (nI (i + 1)).toNatClampNeg), .inr (.inr (4, 0, 0))], τ) [vp_in (nI (i + 1)) ((τ 6 0 0 0).toNatClampNeg)] rfl ?_ ?_
  · exact allP1 (by first | exact vin _ (by omega) | exact vin1 _ (by omega))
  refine AW.callVI (d' := 6) [.inl (τ 6 0 1 (nI (i + 1)).toNatClampNeg)] [] ⟨_, rfl⟩ f_5_move v_5_move l_9_105 ⟨rfl, by decide⟩ rfl (Nat.le_of_ble_eq_true rfl) rfl (Nat.le_of_ble_eq_true rfl) (c5_move F τ hA hG.1 (τ 6 0 1 (nI (i + 1)).toNatClampNeg)) ?_
  rintro v1 σ1 ⟨F1, hr1, hA1, hX1⟩
  have vin1 : ∀ x, x < L → vp_in (nI x) (σ1 6 0 0 0).toNatClampNeg := fun x hx => by rw [hX1.2]; exact vin x hx
  refine AW.run 5 [] (820, [(0, .inr (.inr (6, 0, 1))), (1, .inr (.inr (4, 0, 0))), (2, .inr (.inr (5, 0, 0))), (3, .inl (nI i))], [.inl ((nI i) + 1), .inr (.inr (6, 0, 1)), .inr (.inr (5, 0, 0)), .inl v1], σ1) [] rfl ?_ ?_
  · exact trivial
  rw [show nI i + 1 = nI (i + 1) from nI_add i 1]
  refine AW.run 1 [] (821, [(0, .inr (.inr (6, 0, 1))), (1, .inr (.inr (4, 0, 0))), (2, .inr (.inr (5, 0, 0))), (3, .inl (nI i))], [.inl (σ1 6 0 1 (nI (i + 1)).toNatClampNeg), .inr (.inr (5, 0, 0)), .inl v1], σ1) [vp_in (nI (i + 1)) ((σ1 6 0 0 0).toNatClampNeg)] rfl ?_ ?_
  · exact allP1 (by first | exact vin _ (by omega) | exact vin1 _ (by omega))
  rw [hX1.2]
  refine AW.callVI (d' := 7) [.inl (τ 6 0 1 (nI (i + 1)).toNatClampNeg)] [.inl v1] ⟨_, rfl⟩ f_6_move v_6_move l_9_108 ⟨rfl, by decide⟩ rfl (Nat.le_of_ble_eq_true rfl) rfl (Nat.le_of_ble_eq_true rfl) (d6_move F σ1 (RepD_oth hX1.1 hD) hG (τ 6 0 1 (nI (i + 1)).toNatClampNeg)) ?_
  rintro v2 σ2 ⟨F2, hr2, hD2, hT2⟩
  obtain ⟨rfl, rfl, hF1⟩ := pair_i hr1 hr2
  refine AW.run 1 [true] (1341, [(0, .inr (.inr (6, 0, 1))), (1, .inr (.inr (4, 0, 0))), (2, .inr (.inr (5, 0, 0))), (3, .inl (nI i))], [], σ2) [icP .eq v1 v1] rfl ?_ ?_
  · exact allP1 (rfl)
  exact hk _ _ (LInv_step h6 (by have hg9 := g_move hG (τ 6 0 1 (nI (i + 1)).toNatClampNeg); rw [hF1] at hg9; exact hg9) hA1 hX1 hD2 hT2)
set_option maxHeartbeats 4000000 in
set_option maxRecDepth 100000 in
theorem law_halved {σ τ : St} {F : Gv} {L i : Nat} (hL : L ≤ 2560) (hi : i + 5 ≤ L) (h0 : (τ 6 0 0 0).toNatClampNeg = L) (hV : LInv σ τ F) (hk : ∀ F1 σ2, LInv σ σ2 F1 → AW ML_law 10 LQ (1341, LLS i, [], σ2)) : AW ML_law 10 LQ (829, LLS i, [], τ) := by
  obtain ⟨hA, hD, hG, h6⟩ := hV
  have vin : ∀ x, x < L → vp_in (nI x) (τ 6 0 0 0).toNatClampNeg := fun x hx => by rw [h0]; exact vp_in_nI hx (by omega)
  show AW ML_law 10 LQ (829, [(0, .inr (.inr (6, 0, 1))), (1, .inr (.inr (4, 0, 0))), (2, .inr (.inr (5, 0, 0))), (3, .inl (nI i))], [], τ)
  refine AW.run 1 [] (830, [(0, .inr (.inr (6, 0, 1))), (1, .inr (.inr (4, 0, 0))), (2, .inr (.inr (5, 0, 0))), (3, .inl (nI i))], [.inr (.inr (4, 0, 0))], τ) [] rfl ?_ ?_
  · exact trivial
  refine AW.callVI (d' := 4) [] [] ⟨_, rfl⟩ f_5_halved v_5_halved l_9_109 ⟨rfl, by decide⟩ rfl (Nat.le_of_ble_eq_true rfl) rfl (Nat.le_of_ble_eq_true rfl) (c5_halved F τ hA hG.1) ?_
  rintro v1 σ1 ⟨F1, hr1, hA1, hX1⟩
  have vin1 : ∀ x, x < L → vp_in (nI x) (σ1 6 0 0 0).toNatClampNeg := fun x hx => by rw [hX1.2]; exact vin x hx
  refine AW.run 1 [] (834, [(0, .inr (.inr (6, 0, 1))), (1, .inr (.inr (4, 0, 0))), (2, .inr (.inr (5, 0, 0))), (3, .inl (nI i))], [.inr (.inr (5, 0, 0)), .inl v1], σ1) [] rfl ?_ ?_
  · exact trivial
  refine AW.callVI (d' := 5) [] [.inl v1] ⟨_, rfl⟩ f_6_halved v_6_halved l_9_112 ⟨rfl, by decide⟩ rfl (Nat.le_of_ble_eq_true rfl) rfl (Nat.le_of_ble_eq_true rfl) (d6_halved F σ1 (RepD_oth hX1.1 hD) hG) ?_
  rintro v2 σ2 ⟨F2, hr2, hD2, hT2⟩
  obtain ⟨rfl, rfl, hF1⟩ := pair_i hr1 hr2
  refine AW.run 1 [true] (1341, [(0, .inr (.inr (6, 0, 1))), (1, .inr (.inr (4, 0, 0))), (2, .inr (.inr (5, 0, 0))), (3, .inl (nI i))], [], σ2) [icP .eq v1 v1] rfl ?_ ?_
  · exact allP1 (rfl)
  exact hk _ _ (LInv_step h6 (by have hg9 := g_halved hG; rw [hF1] at hg9; exact hg9) hA1 hX1 hD2 hT2)
set_option maxHeartbeats 4000000 in
set_option maxRecDepth 100000 in
theorem law_whoWent {σ τ : St} {F : Gv} {L i : Nat} (hL : L ≤ 2560) (hi : i + 5 ≤ L) (h0 : (τ 6 0 0 0).toNatClampNeg = L) (hV : LInv σ τ F) (hk : ∀ F1 σ2, LInv σ σ2 F1 → AW ML_law 10 LQ (1341, LLS i, [], σ2)) : AW ML_law 10 LQ (842, LLS i, [], τ) := by
  obtain ⟨hA, hD, hG, h6⟩ := hV
  have vin : ∀ x, x < L → vp_in (nI x) (τ 6 0 0 0).toNatClampNeg := fun x hx => by rw [h0]; exact vp_in_nI hx (by omega)
  show AW ML_law 10 LQ (842, [(0, .inr (.inr (6, 0, 1))), (1, .inr (.inr (4, 0, 0))), (2, .inr (.inr (5, 0, 0))), (3, .inl (nI i))], [], τ)
  refine AW.run 1 [] (843, [(0, .inr (.inr (6, 0, 1))), (1, .inr (.inr (4, 0, 0))), (2, .inr (.inr (5, 0, 0))), (3, .inl (nI i))], [.inr (.inr (4, 0, 0))], τ) [] rfl ?_ ?_
  · exact trivial
  refine AW.callVI (d' := 5) [] [] ⟨_, rfl⟩ f_5_whoWent v_5_whoWent l_9_113 ⟨rfl, by decide⟩ rfl (Nat.le_of_ble_eq_true rfl) rfl (Nat.le_of_ble_eq_true rfl) (c5_whoWent F τ hA hG.1) ?_
  rintro v1 σ1 ⟨F1, hr1, hA1, hX1⟩
  have vin1 : ∀ x, x < L → vp_in (nI x) (σ1 6 0 0 0).toNatClampNeg := fun x hx => by rw [hX1.2]; exact vin x hx
  refine AW.run 1 [] (847, [(0, .inr (.inr (6, 0, 1))), (1, .inr (.inr (4, 0, 0))), (2, .inr (.inr (5, 0, 0))), (3, .inl (nI i))], [.inr (.inr (5, 0, 0)), .inl v1], σ1) [] rfl ?_ ?_
  · exact trivial
  refine AW.callVI (d' := 6) [] [.inl v1] ⟨_, rfl⟩ f_6_whoWent v_6_whoWent l_9_116 ⟨rfl, by decide⟩ rfl (Nat.le_of_ble_eq_true rfl) rfl (Nat.le_of_ble_eq_true rfl) (d6_whoWent F σ1 (RepD_oth hX1.1 hD) hG) ?_
  rintro v2 σ2 ⟨F2, hr2, hD2, hT2⟩
  obtain ⟨rfl, rfl, hF1⟩ := pair_i hr1 hr2
  refine AW.run 1 [true] (1341, [(0, .inr (.inr (6, 0, 1))), (1, .inr (.inr (4, 0, 0))), (2, .inr (.inr (5, 0, 0))), (3, .inl (nI i))], [], σ2) [icP .eq v1 v1] rfl ?_ ?_
  · exact allP1 (rfl)
  exact hk _ _ (LInv_step h6 (by have hg9 := g_whoWent hG; rw [hF1] at hg9; exact hg9) hA1 hX1 hD2 hT2)
set_option maxHeartbeats 4000000 in
set_option maxRecDepth 100000 in
theorem law_whatKind {σ τ : St} {F : Gv} {L i : Nat} (hL : L ≤ 2560) (hi : i + 5 ≤ L) (h0 : (τ 6 0 0 0).toNatClampNeg = L) (hV : LInv σ τ F) (hk : ∀ F1 σ2, LInv σ σ2 F1 → AW ML_law 10 LQ (1341, LLS i, [], σ2)) : AW ML_law 10 LQ (855, LLS i, [], τ) := by
  obtain ⟨hA, hD, hG, h6⟩ := hV
  have vin : ∀ x, x < L → vp_in (nI x) (τ 6 0 0 0).toNatClampNeg := fun x hx => by rw [h0]; exact vp_in_nI hx (by omega)
  show AW ML_law 10 LQ (855, [(0, .inr (.inr (6, 0, 1))), (1, .inr (.inr (4, 0, 0))), (2, .inr (.inr (5, 0, 0))), (3, .inl (nI i))], [], τ)
  refine AW.run 5 [] (860, [(0, .inr (.inr (6, 0, 1))), (1, .inr (.inr (4, 0, 0))), (2, .inr (.inr (5, 0, 0))), (3, .inl (nI i))], [.inl ((nI i) + 1), .inr (.inr (6, 0, 1)), .inr (.inr (4, 0, 0))], τ) [] rfl ?_ ?_
  · exact trivial
  rw [show nI i + 1 = nI (i + 1) from nI_add i 1]
  refine AW.run 1 [] (861, [(0, .inr (.inr (6, 0, 1))), (1, .inr (.inr (4, 0, 0))), (2, .inr (.inr (5, 0, 0))), (3, .inl (nI i))], [.inl (τ 6 0 1 (nI (i + 1)).toNatClampNeg), .inr (.inr (4, 0, 0))], τ) [vp_in (nI (i + 1)) ((τ 6 0 0 0).toNatClampNeg)] rfl ?_ ?_
  · exact allP1 (by first | exact vin _ (by omega) | exact vin1 _ (by omega))
  refine AW.run 4 [] (865, [(0, .inr (.inr (6, 0, 1))), (1, .inr (.inr (4, 0, 0))), (2, .inr (.inr (5, 0, 0))), (3, .inl (nI i))], [.inl ((nI i) + 2), .inr (.inr (6, 0, 1)), .inl (τ 6 0 1 (nI (i + 1)).toNatClampNeg), .inr (.inr (4, 0, 0))], τ) [] rfl ?_ ?_
  · exact trivial
  rw [show nI i + 2 = nI (i + 2) from nI_add i 2]
  refine AW.run 1 [] (866, [(0, .inr (.inr (6, 0, 1))), (1, .inr (.inr (4, 0, 0))), (2, .inr (.inr (5, 0, 0))), (3, .inl (nI i))], [.inl (τ 6 0 1 (nI (i + 2)).toNatClampNeg), .inl (τ 6 0 1 (nI (i + 1)).toNatClampNeg), .inr (.inr (4, 0, 0))], τ) [vp_in (nI (i + 2)) ((τ 6 0 0 0).toNatClampNeg)] rfl ?_ ?_
  · exact allP1 (by first | exact vin _ (by omega) | exact vin1 _ (by omega))
  refine AW.callVI (d' := 5) [.inl (τ 6 0 1 (nI (i + 1)).toNatClampNeg), .inl (τ 6 0 1 (nI (i + 2)).toNatClampNeg)] [] ⟨_, rfl⟩ f_5_whatKind v_5_whatKind l_9_117 ⟨rfl, by decide⟩ rfl (Nat.le_of_ble_eq_true rfl) rfl (Nat.le_of_ble_eq_true rfl) (c5_whatKind F τ hA hG.1 (τ 6 0 1 (nI (i + 1)).toNatClampNeg) (τ 6 0 1 (nI (i + 2)).toNatClampNeg)) ?_
  rintro v1 σ1 ⟨F1, hr1, hA1, hX1⟩
  have vin1 : ∀ x, x < L → vp_in (nI x) (σ1 6 0 0 0).toNatClampNeg := fun x hx => by rw [hX1.2]; exact vin x hx
  refine AW.run 5 [] (874, [(0, .inr (.inr (6, 0, 1))), (1, .inr (.inr (4, 0, 0))), (2, .inr (.inr (5, 0, 0))), (3, .inl (nI i))], [.inl ((nI i) + 1), .inr (.inr (6, 0, 1)), .inr (.inr (5, 0, 0)), .inl v1], σ1) [] rfl ?_ ?_
  · exact trivial
  rw [show nI i + 1 = nI (i + 1) from nI_add i 1]
  refine AW.run 1 [] (875, [(0, .inr (.inr (6, 0, 1))), (1, .inr (.inr (4, 0, 0))), (2, .inr (.inr (5, 0, 0))), (3, .inl (nI i))], [.inl (σ1 6 0 1 (nI (i + 1)).toNatClampNeg), .inr (.inr (5, 0, 0)), .inl v1], σ1) [vp_in (nI (i + 1)) ((σ1 6 0 0 0).toNatClampNeg)] rfl ?_ ?_
  · exact allP1 (by first | exact vin _ (by omega) | exact vin1 _ (by omega))
  rw [hX1.2]
  refine AW.run 4 [] (879, [(0, .inr (.inr (6, 0, 1))), (1, .inr (.inr (4, 0, 0))), (2, .inr (.inr (5, 0, 0))), (3, .inl (nI i))], [.inl ((nI i) + 2), .inr (.inr (6, 0, 1)), .inl (τ 6 0 1 (nI (i + 1)).toNatClampNeg), .inr (.inr (5, 0, 0)), .inl v1], σ1) [] rfl ?_ ?_
  · exact trivial
  rw [show nI i + 2 = nI (i + 2) from nI_add i 2]
  refine AW.run 1 [] (880, [(0, .inr (.inr (6, 0, 1))), (1, .inr (.inr (4, 0, 0))), (2, .inr (.inr (5, 0, 0))), (3, .inl (nI i))], [.inl (σ1 6 0 1 (nI (i + 2)).toNatClampNeg), .inl (τ 6 0 1 (nI (i + 1)).toNatClampNeg), .inr (.inr (5, 0, 0)), .inl v1], σ1) [vp_in (nI (i + 2)) ((σ1 6 0 0 0).toNatClampNeg)] rfl ?_ ?_
  · exact allP1 (by first | exact vin _ (by omega) | exact vin1 _ (by omega))
  rw [hX1.2]
  refine AW.callVI (d' := 7) [.inl (τ 6 0 1 (nI (i + 1)).toNatClampNeg), .inl (τ 6 0 1 (nI (i + 2)).toNatClampNeg)] [.inl v1] ⟨_, rfl⟩ f_6_whatKind v_6_whatKind l_9_120 ⟨rfl, by decide⟩ rfl (Nat.le_of_ble_eq_true rfl) rfl (Nat.le_of_ble_eq_true rfl) (d6_whatKind F σ1 (RepD_oth hX1.1 hD) hG (τ 6 0 1 (nI (i + 1)).toNatClampNeg) (τ 6 0 1 (nI (i + 2)).toNatClampNeg)) ?_
  rintro v2 σ2 ⟨F2, hr2, hD2, hT2⟩
  obtain ⟨rfl, rfl, hF1⟩ := pair_i hr1 hr2
  refine AW.run 1 [true] (1341, [(0, .inr (.inr (6, 0, 1))), (1, .inr (.inr (4, 0, 0))), (2, .inr (.inr (5, 0, 0))), (3, .inl (nI i))], [], σ2) [icP .eq v1 v1] rfl ?_ ?_
  · exact allP1 (rfl)
  exact hk _ _ (LInv_step h6 (by have hg9 := g_whatKind hG (τ 6 0 1 (nI (i + 1)).toNatClampNeg) (τ 6 0 1 (nI (i + 2)).toNatClampNeg); rw [hF1] at hg9; exact hg9) hA1 hX1 hD2 hT2)
set_option maxHeartbeats 4000000 in
set_option maxRecDepth 100000 in
theorem law_two {σ τ : St} {F : Gv} {L i : Nat} (hL : L ≤ 2560) (hi : i + 5 ≤ L) (h0 : (τ 6 0 0 0).toNatClampNeg = L) (hV : LInv σ τ F) (hk : ∀ F1 σ2, LInv σ σ2 F1 → AW ML_law 10 LQ (1341, LLS i, [], σ2)) : AW ML_law 10 LQ (888, LLS i, [], τ) := by
  obtain ⟨hA, hD, hG, h6⟩ := hV
  have vin : ∀ x, x < L → vp_in (nI x) (τ 6 0 0 0).toNatClampNeg := fun x hx => by rw [h0]; exact vp_in_nI hx (by omega)
  show AW ML_law 10 LQ (888, [(0, .inr (.inr (6, 0, 1))), (1, .inr (.inr (4, 0, 0))), (2, .inr (.inr (5, 0, 0))), (3, .inl (nI i))], [], τ)
  refine AW.run 5 [] (893, [(0, .inr (.inr (6, 0, 1))), (1, .inr (.inr (4, 0, 0))), (2, .inr (.inr (5, 0, 0))), (3, .inl (nI i))], [.inl ((nI i) + 1), .inr (.inr (6, 0, 1)), .inr (.inr (4, 0, 0))], τ) [] rfl ?_ ?_
  · exact trivial
  rw [show nI i + 1 = nI (i + 1) from nI_add i 1]
  refine AW.run 1 [] (894, [(0, .inr (.inr (6, 0, 1))), (1, .inr (.inr (4, 0, 0))), (2, .inr (.inr (5, 0, 0))), (3, .inl (nI i))], [.inl (τ 6 0 1 (nI (i + 1)).toNatClampNeg), .inr (.inr (4, 0, 0))], τ) [vp_in (nI (i + 1)) ((τ 6 0 0 0).toNatClampNeg)] rfl ?_ ?_
  · exact allP1 (by first | exact vin _ (by omega) | exact vin1 _ (by omega))
  refine AW.run 4 [] (898, [(0, .inr (.inr (6, 0, 1))), (1, .inr (.inr (4, 0, 0))), (2, .inr (.inr (5, 0, 0))), (3, .inl (nI i))], [.inl ((nI i) + 2), .inr (.inr (6, 0, 1)), .inl (τ 6 0 1 (nI (i + 1)).toNatClampNeg), .inr (.inr (4, 0, 0))], τ) [] rfl ?_ ?_
  · exact trivial
  rw [show nI i + 2 = nI (i + 2) from nI_add i 2]
  refine AW.run 1 [] (899, [(0, .inr (.inr (6, 0, 1))), (1, .inr (.inr (4, 0, 0))), (2, .inr (.inr (5, 0, 0))), (3, .inl (nI i))], [.inl (τ 6 0 1 (nI (i + 2)).toNatClampNeg), .inl (τ 6 0 1 (nI (i + 1)).toNatClampNeg), .inr (.inr (4, 0, 0))], τ) [vp_in (nI (i + 2)) ((τ 6 0 0 0).toNatClampNeg)] rfl ?_ ?_
  · exact allP1 (by first | exact vin _ (by omega) | exact vin1 _ (by omega))
  refine AW.run 4 [] (903, [(0, .inr (.inr (6, 0, 1))), (1, .inr (.inr (4, 0, 0))), (2, .inr (.inr (5, 0, 0))), (3, .inl (nI i))], [.inl ((nI i) + 3), .inr (.inr (6, 0, 1)), .inl (τ 6 0 1 (nI (i + 2)).toNatClampNeg), .inl (τ 6 0 1 (nI (i + 1)).toNatClampNeg), .inr (.inr (4, 0, 0))], τ) [] rfl ?_ ?_
  · exact trivial
  rw [show nI i + 3 = nI (i + 3) from nI_add i 3]
  refine AW.run 1 [] (904, [(0, .inr (.inr (6, 0, 1))), (1, .inr (.inr (4, 0, 0))), (2, .inr (.inr (5, 0, 0))), (3, .inl (nI i))], [.inl (τ 6 0 1 (nI (i + 3)).toNatClampNeg), .inl (τ 6 0 1 (nI (i + 2)).toNatClampNeg), .inl (τ 6 0 1 (nI (i + 1)).toNatClampNeg), .inr (.inr (4, 0, 0))], τ) [vp_in (nI (i + 3)) ((τ 6 0 0 0).toNatClampNeg)] rfl ?_ ?_
  · exact allP1 (by first | exact vin _ (by omega) | exact vin1 _ (by omega))
  refine AW.callVI (d' := 5) [.inl (τ 6 0 1 (nI (i + 1)).toNatClampNeg), .inl (τ 6 0 1 (nI (i + 2)).toNatClampNeg), .inl (τ 6 0 1 (nI (i + 3)).toNatClampNeg)] [] ⟨_, rfl⟩ f_5_two v_5_two l_9_121 ⟨rfl, by decide⟩ rfl (Nat.le_of_ble_eq_true rfl) rfl (Nat.le_of_ble_eq_true rfl) (c5_two F τ hA hG.1 (τ 6 0 1 (nI (i + 1)).toNatClampNeg) (τ 6 0 1 (nI (i + 2)).toNatClampNeg) (τ 6 0 1 (nI (i + 3)).toNatClampNeg)) ?_
  rintro v1 σ1 ⟨F1, hr1, hA1, hX1⟩
  have vin1 : ∀ x, x < L → vp_in (nI x) (σ1 6 0 0 0).toNatClampNeg := fun x hx => by rw [hX1.2]; exact vin x hx
  refine AW.run 5 [] (912, [(0, .inr (.inr (6, 0, 1))), (1, .inr (.inr (4, 0, 0))), (2, .inr (.inr (5, 0, 0))), (3, .inl (nI i))], [.inl ((nI i) + 1), .inr (.inr (6, 0, 1)), .inr (.inr (5, 0, 0)), .inl v1], σ1) [] rfl ?_ ?_
  · exact trivial
  rw [show nI i + 1 = nI (i + 1) from nI_add i 1]
  refine AW.run 1 [] (913, [(0, .inr (.inr (6, 0, 1))), (1, .inr (.inr (4, 0, 0))), (2, .inr (.inr (5, 0, 0))), (3, .inl (nI i))], [.inl (σ1 6 0 1 (nI (i + 1)).toNatClampNeg), .inr (.inr (5, 0, 0)), .inl v1], σ1) [vp_in (nI (i + 1)) ((σ1 6 0 0 0).toNatClampNeg)] rfl ?_ ?_
  · exact allP1 (by first | exact vin _ (by omega) | exact vin1 _ (by omega))
  rw [hX1.2]
  refine AW.run 4 [] (917, [(0, .inr (.inr (6, 0, 1))), (1, .inr (.inr (4, 0, 0))), (2, .inr (.inr (5, 0, 0))), (3, .inl (nI i))], [.inl ((nI i) + 2), .inr (.inr (6, 0, 1)), .inl (τ 6 0 1 (nI (i + 1)).toNatClampNeg), .inr (.inr (5, 0, 0)), .inl v1], σ1) [] rfl ?_ ?_
  · exact trivial
  rw [show nI i + 2 = nI (i + 2) from nI_add i 2]
  refine AW.run 1 [] (918, [(0, .inr (.inr (6, 0, 1))), (1, .inr (.inr (4, 0, 0))), (2, .inr (.inr (5, 0, 0))), (3, .inl (nI i))], [.inl (σ1 6 0 1 (nI (i + 2)).toNatClampNeg), .inl (τ 6 0 1 (nI (i + 1)).toNatClampNeg), .inr (.inr (5, 0, 0)), .inl v1], σ1) [vp_in (nI (i + 2)) ((σ1 6 0 0 0).toNatClampNeg)] rfl ?_ ?_
  · exact allP1 (by first | exact vin _ (by omega) | exact vin1 _ (by omega))
  rw [hX1.2]
  refine AW.run 4 [] (922, [(0, .inr (.inr (6, 0, 1))), (1, .inr (.inr (4, 0, 0))), (2, .inr (.inr (5, 0, 0))), (3, .inl (nI i))], [.inl ((nI i) + 3), .inr (.inr (6, 0, 1)), .inl (τ 6 0 1 (nI (i + 2)).toNatClampNeg), .inl (τ 6 0 1 (nI (i + 1)).toNatClampNeg), .inr (.inr (5, 0, 0)), .inl v1], σ1) [] rfl ?_ ?_
  · exact trivial
  rw [show nI i + 3 = nI (i + 3) from nI_add i 3]
  refine AW.run 1 [] (923, [(0, .inr (.inr (6, 0, 1))), (1, .inr (.inr (4, 0, 0))), (2, .inr (.inr (5, 0, 0))), (3, .inl (nI i))], [.inl (σ1 6 0 1 (nI (i + 3)).toNatClampNeg), .inl (τ 6 0 1 (nI (i + 2)).toNatClampNeg), .inl (τ 6 0 1 (nI (i + 1)).toNatClampNeg), .inr (.inr (5, 0, 0)), .inl v1], σ1) [vp_in (nI (i + 3)) ((σ1 6 0 0 0).toNatClampNeg)] rfl ?_ ?_
  · exact allP1 (by first | exact vin _ (by omega) | exact vin1 _ (by omega))
  rw [hX1.2]
  refine AW.callVI (d' := 7) [.inl (τ 6 0 1 (nI (i + 1)).toNatClampNeg), .inl (τ 6 0 1 (nI (i + 2)).toNatClampNeg), .inl (τ 6 0 1 (nI (i + 3)).toNatClampNeg)] [.inl v1] ⟨_, rfl⟩ f_6_two v_6_two l_9_124 ⟨rfl, by decide⟩ rfl (Nat.le_of_ble_eq_true rfl) rfl (Nat.le_of_ble_eq_true rfl) (d6_two F σ1 (RepD_oth hX1.1 hD) hG (τ 6 0 1 (nI (i + 1)).toNatClampNeg) (τ 6 0 1 (nI (i + 2)).toNatClampNeg) (τ 6 0 1 (nI (i + 3)).toNatClampNeg)) ?_
  rintro v2 σ2 ⟨F2, hr2, hD2, hT2⟩
  obtain ⟨rfl, rfl, hF1⟩ := pair_i hr1 hr2
  refine AW.run 1 [true] (1341, [(0, .inr (.inr (6, 0, 1))), (1, .inr (.inr (4, 0, 0))), (2, .inr (.inr (5, 0, 0))), (3, .inl (nI i))], [], σ2) [icP .eq v1 v1] rfl ?_ ?_
  · exact allP1 (rfl)
  exact hk _ _ (LInv_step h6 (by have hg9 := g_two9 hG (τ 6 0 1 (nI (i + 1)).toNatClampNeg) (τ 6 0 1 (nI (i + 2)).toNatClampNeg) (τ 6 0 1 (nI (i + 3)).toNatClampNeg); rw [hF1] at hg9; exact hg9) hA1 hX1 hD2 hT2)
set_option maxHeartbeats 4000000 in
set_option maxRecDepth 100000 in
theorem law_thunders {σ τ : St} {F : Gv} {L i : Nat} (hL : L ≤ 2560) (hi : i + 5 ≤ L) (h0 : (τ 6 0 0 0).toNatClampNeg = L) (hV : LInv σ τ F) (hk : ∀ F1 σ2, LInv σ σ2 F1 → AW ML_law 10 LQ (1341, LLS i, [], σ2)) : AW ML_law 10 LQ (931, LLS i, [], τ) := by
  obtain ⟨hA, hD, hG, h6⟩ := hV
  have vin : ∀ x, x < L → vp_in (nI x) (τ 6 0 0 0).toNatClampNeg := fun x hx => by rw [h0]; exact vp_in_nI hx (by omega)
  show AW ML_law 10 LQ (931, [(0, .inr (.inr (6, 0, 1))), (1, .inr (.inr (4, 0, 0))), (2, .inr (.inr (5, 0, 0))), (3, .inl (nI i))], [], τ)
  refine AW.run 5 [] (936, [(0, .inr (.inr (6, 0, 1))), (1, .inr (.inr (4, 0, 0))), (2, .inr (.inr (5, 0, 0))), (3, .inl (nI i))], [.inl ((nI i) + 1), .inr (.inr (6, 0, 1)), .inr (.inr (4, 0, 0))], τ) [] rfl ?_ ?_
  · exact trivial
  rw [show nI i + 1 = nI (i + 1) from nI_add i 1]
  refine AW.run 1 [] (937, [(0, .inr (.inr (6, 0, 1))), (1, .inr (.inr (4, 0, 0))), (2, .inr (.inr (5, 0, 0))), (3, .inl (nI i))], [.inl (τ 6 0 1 (nI (i + 1)).toNatClampNeg), .inr (.inr (4, 0, 0))], τ) [vp_in (nI (i + 1)) ((τ 6 0 0 0).toNatClampNeg)] rfl ?_ ?_
  · exact allP1 (by first | exact vin _ (by omega) | exact vin1 _ (by omega))
  refine AW.run 4 [] (941, [(0, .inr (.inr (6, 0, 1))), (1, .inr (.inr (4, 0, 0))), (2, .inr (.inr (5, 0, 0))), (3, .inl (nI i))], [.inl ((nI i) + 2), .inr (.inr (6, 0, 1)), .inl (τ 6 0 1 (nI (i + 1)).toNatClampNeg), .inr (.inr (4, 0, 0))], τ) [] rfl ?_ ?_
  · exact trivial
  rw [show nI i + 2 = nI (i + 2) from nI_add i 2]
  refine AW.run 1 [] (942, [(0, .inr (.inr (6, 0, 1))), (1, .inr (.inr (4, 0, 0))), (2, .inr (.inr (5, 0, 0))), (3, .inl (nI i))], [.inl (τ 6 0 1 (nI (i + 2)).toNatClampNeg), .inl (τ 6 0 1 (nI (i + 1)).toNatClampNeg), .inr (.inr (4, 0, 0))], τ) [vp_in (nI (i + 2)) ((τ 6 0 0 0).toNatClampNeg)] rfl ?_ ?_
  · exact allP1 (by first | exact vin _ (by omega) | exact vin1 _ (by omega))
  refine AW.run 4 [] (946, [(0, .inr (.inr (6, 0, 1))), (1, .inr (.inr (4, 0, 0))), (2, .inr (.inr (5, 0, 0))), (3, .inl (nI i))], [.inl ((nI i) + 3), .inr (.inr (6, 0, 1)), .inl (τ 6 0 1 (nI (i + 2)).toNatClampNeg), .inl (τ 6 0 1 (nI (i + 1)).toNatClampNeg), .inr (.inr (4, 0, 0))], τ) [] rfl ?_ ?_
  · exact trivial
  rw [show nI i + 3 = nI (i + 3) from nI_add i 3]
  refine AW.run 1 [] (947, [(0, .inr (.inr (6, 0, 1))), (1, .inr (.inr (4, 0, 0))), (2, .inr (.inr (5, 0, 0))), (3, .inl (nI i))], [.inl (τ 6 0 1 (nI (i + 3)).toNatClampNeg), .inl (τ 6 0 1 (nI (i + 2)).toNatClampNeg), .inl (τ 6 0 1 (nI (i + 1)).toNatClampNeg), .inr (.inr (4, 0, 0))], τ) [vp_in (nI (i + 3)) ((τ 6 0 0 0).toNatClampNeg)] rfl ?_ ?_
  · exact allP1 (by first | exact vin _ (by omega) | exact vin1 _ (by omega))
  refine AW.run 4 [] (951, [(0, .inr (.inr (6, 0, 1))), (1, .inr (.inr (4, 0, 0))), (2, .inr (.inr (5, 0, 0))), (3, .inl (nI i))], [.inl ((nI i) + 4), .inr (.inr (6, 0, 1)), .inl (τ 6 0 1 (nI (i + 3)).toNatClampNeg), .inl (τ 6 0 1 (nI (i + 2)).toNatClampNeg), .inl (τ 6 0 1 (nI (i + 1)).toNatClampNeg), .inr (.inr (4, 0, 0))], τ) [] rfl ?_ ?_
  · exact trivial
  rw [show nI i + 4 = nI (i + 4) from nI_add i 4]
  refine AW.run 1 [] (952, [(0, .inr (.inr (6, 0, 1))), (1, .inr (.inr (4, 0, 0))), (2, .inr (.inr (5, 0, 0))), (3, .inl (nI i))], [.inl (τ 6 0 1 (nI (i + 4)).toNatClampNeg), .inl (τ 6 0 1 (nI (i + 3)).toNatClampNeg), .inl (τ 6 0 1 (nI (i + 2)).toNatClampNeg), .inl (τ 6 0 1 (nI (i + 1)).toNatClampNeg), .inr (.inr (4, 0, 0))], τ) [vp_in (nI (i + 4)) ((τ 6 0 0 0).toNatClampNeg)] rfl ?_ ?_
  · exact allP1 (by first | exact vin _ (by omega) | exact vin1 _ (by omega))
  refine AW.callVL (d' := 4) [.inl (τ 6 0 1 (nI (i + 1)).toNatClampNeg), .inl (τ 6 0 1 (nI (i + 2)).toNatClampNeg), .inl (τ 6 0 1 (nI (i + 3)).toNatClampNeg), .inl (τ 6 0 1 (nI (i + 4)).toNatClampNeg)] [] ⟨_, rfl⟩ f_5_thunders v_5_thunders l_9_125 ⟨rfl, by decide⟩ rfl (Nat.le_of_ble_eq_true rfl) rfl (Nat.le_of_ble_eq_true rfl) (c5_thunders F τ hA hG.1 (τ 6 0 1 (nI (i + 1)).toNatClampNeg) (τ 6 0 1 (nI (i + 2)).toNatClampNeg) (τ 6 0 1 (nI (i + 3)).toNatClampNeg) (τ 6 0 1 (nI (i + 4)).toNatClampNeg)) ?_
  rintro v1 σ1 ⟨F1, hr1, hA1, hX1⟩
  have vin1 : ∀ x, x < L → vp_in (nI x) (σ1 6 0 0 0).toNatClampNeg := fun x hx => by rw [hX1.2]; exact vin x hx
  refine AW.run 5 [] (960, [(0, .inr (.inr (6, 0, 1))), (1, .inr (.inr (4, 0, 0))), (2, .inr (.inr (5, 0, 0))), (3, .inl (nI i))], [.inl ((nI i) + 1), .inr (.inr (6, 0, 1)), .inr (.inr (5, 0, 0)), .inr (.inl v1)], σ1) [] rfl ?_ ?_
  · exact trivial
  rw [show nI i + 1 = nI (i + 1) from nI_add i 1]
  refine AW.run 1 [] (961, [(0, .inr (.inr (6, 0, 1))), (1, .inr (.inr (4, 0, 0))), (2, .inr (.inr (5, 0, 0))), (3, .inl (nI i))], [.inl (σ1 6 0 1 (nI (i + 1)).toNatClampNeg), .inr (.inr (5, 0, 0)), .inr (.inl v1)], σ1) [vp_in (nI (i + 1)) ((σ1 6 0 0 0).toNatClampNeg)] rfl ?_ ?_
  · exact allP1 (by first | exact vin _ (by omega) | exact vin1 _ (by omega))
  rw [hX1.2]
  refine AW.run 4 [] (965, [(0, .inr (.inr (6, 0, 1))), (1, .inr (.inr (4, 0, 0))), (2, .inr (.inr (5, 0, 0))), (3, .inl (nI i))], [.inl ((nI i) + 2), .inr (.inr (6, 0, 1)), .inl (τ 6 0 1 (nI (i + 1)).toNatClampNeg), .inr (.inr (5, 0, 0)), .inr (.inl v1)], σ1) [] rfl ?_ ?_
  · exact trivial
  rw [show nI i + 2 = nI (i + 2) from nI_add i 2]
  refine AW.run 1 [] (966, [(0, .inr (.inr (6, 0, 1))), (1, .inr (.inr (4, 0, 0))), (2, .inr (.inr (5, 0, 0))), (3, .inl (nI i))], [.inl (σ1 6 0 1 (nI (i + 2)).toNatClampNeg), .inl (τ 6 0 1 (nI (i + 1)).toNatClampNeg), .inr (.inr (5, 0, 0)), .inr (.inl v1)], σ1) [vp_in (nI (i + 2)) ((σ1 6 0 0 0).toNatClampNeg)] rfl ?_ ?_
  · exact allP1 (by first | exact vin _ (by omega) | exact vin1 _ (by omega))
  rw [hX1.2]
  refine AW.run 4 [] (970, [(0, .inr (.inr (6, 0, 1))), (1, .inr (.inr (4, 0, 0))), (2, .inr (.inr (5, 0, 0))), (3, .inl (nI i))], [.inl ((nI i) + 3), .inr (.inr (6, 0, 1)), .inl (τ 6 0 1 (nI (i + 2)).toNatClampNeg), .inl (τ 6 0 1 (nI (i + 1)).toNatClampNeg), .inr (.inr (5, 0, 0)), .inr (.inl v1)], σ1) [] rfl ?_ ?_
  · exact trivial
  rw [show nI i + 3 = nI (i + 3) from nI_add i 3]
  refine AW.run 1 [] (971, [(0, .inr (.inr (6, 0, 1))), (1, .inr (.inr (4, 0, 0))), (2, .inr (.inr (5, 0, 0))), (3, .inl (nI i))], [.inl (σ1 6 0 1 (nI (i + 3)).toNatClampNeg), .inl (τ 6 0 1 (nI (i + 2)).toNatClampNeg), .inl (τ 6 0 1 (nI (i + 1)).toNatClampNeg), .inr (.inr (5, 0, 0)), .inr (.inl v1)], σ1) [vp_in (nI (i + 3)) ((σ1 6 0 0 0).toNatClampNeg)] rfl ?_ ?_
  · exact allP1 (by first | exact vin _ (by omega) | exact vin1 _ (by omega))
  rw [hX1.2]
  refine AW.run 4 [] (975, [(0, .inr (.inr (6, 0, 1))), (1, .inr (.inr (4, 0, 0))), (2, .inr (.inr (5, 0, 0))), (3, .inl (nI i))], [.inl ((nI i) + 4), .inr (.inr (6, 0, 1)), .inl (τ 6 0 1 (nI (i + 3)).toNatClampNeg), .inl (τ 6 0 1 (nI (i + 2)).toNatClampNeg), .inl (τ 6 0 1 (nI (i + 1)).toNatClampNeg), .inr (.inr (5, 0, 0)), .inr (.inl v1)], σ1) [] rfl ?_ ?_
  · exact trivial
  rw [show nI i + 4 = nI (i + 4) from nI_add i 4]
  refine AW.run 1 [] (976, [(0, .inr (.inr (6, 0, 1))), (1, .inr (.inr (4, 0, 0))), (2, .inr (.inr (5, 0, 0))), (3, .inl (nI i))], [.inl (σ1 6 0 1 (nI (i + 4)).toNatClampNeg), .inl (τ 6 0 1 (nI (i + 3)).toNatClampNeg), .inl (τ 6 0 1 (nI (i + 2)).toNatClampNeg), .inl (τ 6 0 1 (nI (i + 1)).toNatClampNeg), .inr (.inr (5, 0, 0)), .inr (.inl v1)], σ1) [vp_in (nI (i + 4)) ((σ1 6 0 0 0).toNatClampNeg)] rfl ?_ ?_
  · exact allP1 (by first | exact vin _ (by omega) | exact vin1 _ (by omega))
  rw [hX1.2]
  refine AW.callVL (d' := 7) [.inl (τ 6 0 1 (nI (i + 1)).toNatClampNeg), .inl (τ 6 0 1 (nI (i + 2)).toNatClampNeg), .inl (τ 6 0 1 (nI (i + 3)).toNatClampNeg), .inl (τ 6 0 1 (nI (i + 4)).toNatClampNeg)] [.inr (.inl v1)] ⟨_, rfl⟩ f_6_thunders v_6_thunders l_9_129 ⟨rfl, by decide⟩ rfl (Nat.le_of_ble_eq_true rfl) rfl (Nat.le_of_ble_eq_true rfl) (d6_thunders F σ1 (RepD_oth hX1.1 hD) hG (τ 6 0 1 (nI (i + 1)).toNatClampNeg) (τ 6 0 1 (nI (i + 2)).toNatClampNeg) (τ 6 0 1 (nI (i + 3)).toNatClampNeg) (τ 6 0 1 (nI (i + 4)).toNatClampNeg)) ?_
  rintro v2 σ2 ⟨F2, hr2, hD2, hT2⟩
  obtain ⟨rfl, rfl, hF1⟩ := pair_i hr1 hr2
  refine AW.run 2 [true] (1341, [(0, .inr (.inr (6, 0, 1))), (1, .inr (.inr (4, 0, 0))), (2, .inr (.inr (5, 0, 0))), (3, .inl (nI i))], [], σ2) [icP .eq (lg_cmp v1 v1) 0] rfl ?_ ?_
  · exact allP1 ((lg_cmp_eq v1 v1).mpr rfl)
  exact hk _ _ (LInv_step h6 (by have hg9 := g_thunders hG (τ 6 0 1 (nI (i + 1)).toNatClampNeg) (τ 6 0 1 (nI (i + 2)).toNatClampNeg) (τ 6 0 1 (nI (i + 3)).toNatClampNeg) (τ 6 0 1 (nI (i + 4)).toNatClampNeg); rw [hF1] at hg9; exact hg9) hA1 hX1 hD2 hT2)
set_option maxHeartbeats 4000000 in
set_option maxRecDepth 100000 in
theorem law_shares {σ τ : St} {F : Gv} {L i : Nat} (hL : L ≤ 2560) (hi : i + 5 ≤ L) (h0 : (τ 6 0 0 0).toNatClampNeg = L) (hV : LInv σ τ F) (hk : ∀ F1 σ2, LInv σ σ2 F1 → AW ML_law 10 LQ (1341, LLS i, [], σ2)) : AW ML_law 10 LQ (985, LLS i, [], τ) := by
  obtain ⟨hA, hD, hG, h6⟩ := hV
  have vin : ∀ x, x < L → vp_in (nI x) (τ 6 0 0 0).toNatClampNeg := fun x hx => by rw [h0]; exact vp_in_nI hx (by omega)
  show AW ML_law 10 LQ (985, [(0, .inr (.inr (6, 0, 1))), (1, .inr (.inr (4, 0, 0))), (2, .inr (.inr (5, 0, 0))), (3, .inl (nI i))], [], τ)
  refine AW.run 5 [] (990, [(0, .inr (.inr (6, 0, 1))), (1, .inr (.inr (4, 0, 0))), (2, .inr (.inr (5, 0, 0))), (3, .inl (nI i))], [.inl ((nI i) + 1), .inr (.inr (6, 0, 1)), .inr (.inr (4, 0, 0))], τ) [] rfl ?_ ?_
  · exact trivial
  rw [show nI i + 1 = nI (i + 1) from nI_add i 1]
  refine AW.run 1 [] (991, [(0, .inr (.inr (6, 0, 1))), (1, .inr (.inr (4, 0, 0))), (2, .inr (.inr (5, 0, 0))), (3, .inl (nI i))], [.inl (τ 6 0 1 (nI (i + 1)).toNatClampNeg), .inr (.inr (4, 0, 0))], τ) [vp_in (nI (i + 1)) ((τ 6 0 0 0).toNatClampNeg)] rfl ?_ ?_
  · exact allP1 (by first | exact vin _ (by omega) | exact vin1 _ (by omega))
  refine AW.run 4 [] (995, [(0, .inr (.inr (6, 0, 1))), (1, .inr (.inr (4, 0, 0))), (2, .inr (.inr (5, 0, 0))), (3, .inl (nI i))], [.inl ((nI i) + 2), .inr (.inr (6, 0, 1)), .inl (τ 6 0 1 (nI (i + 1)).toNatClampNeg), .inr (.inr (4, 0, 0))], τ) [] rfl ?_ ?_
  · exact trivial
  rw [show nI i + 2 = nI (i + 2) from nI_add i 2]
  refine AW.run 1 [] (996, [(0, .inr (.inr (6, 0, 1))), (1, .inr (.inr (4, 0, 0))), (2, .inr (.inr (5, 0, 0))), (3, .inl (nI i))], [.inl (τ 6 0 1 (nI (i + 2)).toNatClampNeg), .inl (τ 6 0 1 (nI (i + 1)).toNatClampNeg), .inr (.inr (4, 0, 0))], τ) [vp_in (nI (i + 2)) ((τ 6 0 0 0).toNatClampNeg)] rfl ?_ ?_
  · exact allP1 (by first | exact vin _ (by omega) | exact vin1 _ (by omega))
  refine AW.callVI (d' := 1) [.inl (τ 6 0 1 (nI (i + 1)).toNatClampNeg), .inl (τ 6 0 1 (nI (i + 2)).toNatClampNeg)] [] ⟨_, rfl⟩ f_5_shares v_5_shares l_9_130 ⟨rfl, by decide⟩ rfl (Nat.le_of_ble_eq_true rfl) rfl (Nat.le_of_ble_eq_true rfl) (c5_shares F τ hA hG.1 (τ 6 0 1 (nI (i + 1)).toNatClampNeg) (τ 6 0 1 (nI (i + 2)).toNatClampNeg)) ?_
  rintro v1 σ1 ⟨F1, hr1, hA1, hX1⟩
  have vin1 : ∀ x, x < L → vp_in (nI x) (σ1 6 0 0 0).toNatClampNeg := fun x hx => by rw [hX1.2]; exact vin x hx
  refine AW.run 5 [] (1004, [(0, .inr (.inr (6, 0, 1))), (1, .inr (.inr (4, 0, 0))), (2, .inr (.inr (5, 0, 0))), (3, .inl (nI i))], [.inl ((nI i) + 1), .inr (.inr (6, 0, 1)), .inr (.inr (5, 0, 0)), .inl v1], σ1) [] rfl ?_ ?_
  · exact trivial
  rw [show nI i + 1 = nI (i + 1) from nI_add i 1]
  refine AW.run 1 [] (1005, [(0, .inr (.inr (6, 0, 1))), (1, .inr (.inr (4, 0, 0))), (2, .inr (.inr (5, 0, 0))), (3, .inl (nI i))], [.inl (σ1 6 0 1 (nI (i + 1)).toNatClampNeg), .inr (.inr (5, 0, 0)), .inl v1], σ1) [vp_in (nI (i + 1)) ((σ1 6 0 0 0).toNatClampNeg)] rfl ?_ ?_
  · exact allP1 (by first | exact vin _ (by omega) | exact vin1 _ (by omega))
  rw [hX1.2]
  refine AW.run 4 [] (1009, [(0, .inr (.inr (6, 0, 1))), (1, .inr (.inr (4, 0, 0))), (2, .inr (.inr (5, 0, 0))), (3, .inl (nI i))], [.inl ((nI i) + 2), .inr (.inr (6, 0, 1)), .inl (τ 6 0 1 (nI (i + 1)).toNatClampNeg), .inr (.inr (5, 0, 0)), .inl v1], σ1) [] rfl ?_ ?_
  · exact trivial
  rw [show nI i + 2 = nI (i + 2) from nI_add i 2]
  refine AW.run 1 [] (1010, [(0, .inr (.inr (6, 0, 1))), (1, .inr (.inr (4, 0, 0))), (2, .inr (.inr (5, 0, 0))), (3, .inl (nI i))], [.inl (σ1 6 0 1 (nI (i + 2)).toNatClampNeg), .inl (τ 6 0 1 (nI (i + 1)).toNatClampNeg), .inr (.inr (5, 0, 0)), .inl v1], σ1) [vp_in (nI (i + 2)) ((σ1 6 0 0 0).toNatClampNeg)] rfl ?_ ?_
  · exact allP1 (by first | exact vin _ (by omega) | exact vin1 _ (by omega))
  rw [hX1.2]
  refine AW.callVI (d' := 2) [.inl (τ 6 0 1 (nI (i + 1)).toNatClampNeg), .inl (τ 6 0 1 (nI (i + 2)).toNatClampNeg)] [.inl v1] ⟨_, rfl⟩ f_6_shares v_6_shares l_9_133 ⟨rfl, by decide⟩ rfl (Nat.le_of_ble_eq_true rfl) rfl (Nat.le_of_ble_eq_true rfl) (d6_shares F σ1 (RepD_oth hX1.1 hD) hG (τ 6 0 1 (nI (i + 1)).toNatClampNeg) (τ 6 0 1 (nI (i + 2)).toNatClampNeg)) ?_
  rintro v2 σ2 ⟨F2, hr2, hD2, hT2⟩
  obtain ⟨rfl, rfl, hF1⟩ := pair_i hr1 hr2
  refine AW.run 1 [true] (1341, [(0, .inr (.inr (6, 0, 1))), (1, .inr (.inr (4, 0, 0))), (2, .inr (.inr (5, 0, 0))), (3, .inl (nI i))], [], σ2) [icP .eq v1 v1] rfl ?_ ?_
  · exact allP1 (rfl)
  exact hk _ _ (LInv_step h6 (by have hg9 := g_shares hG (τ 6 0 1 (nI (i + 1)).toNatClampNeg) (τ 6 0 1 (nI (i + 2)).toNatClampNeg); rw [hF1] at hg9; exact hg9) hA1 hX1 hD2 hT2)
set_option maxHeartbeats 4000000 in
set_option maxRecDepth 100000 in
theorem law_tightest {σ τ : St} {F : Gv} {L i : Nat} (hL : L ≤ 2560) (hi : i + 5 ≤ L) (h0 : (τ 6 0 0 0).toNatClampNeg = L) (hV : LInv σ τ F) (hk : ∀ F1 σ2, LInv σ σ2 F1 → AW ML_law 10 LQ (1341, LLS i, [], σ2)) : AW ML_law 10 LQ (1018, LLS i, [], τ) := by
  obtain ⟨hA, hD, hG, h6⟩ := hV
  have vin : ∀ x, x < L → vp_in (nI x) (τ 6 0 0 0).toNatClampNeg := fun x hx => by rw [h0]; exact vp_in_nI hx (by omega)
  show AW ML_law 10 LQ (1018, [(0, .inr (.inr (6, 0, 1))), (1, .inr (.inr (4, 0, 0))), (2, .inr (.inr (5, 0, 0))), (3, .inl (nI i))], [], τ)
  refine AW.run 5 [] (1023, [(0, .inr (.inr (6, 0, 1))), (1, .inr (.inr (4, 0, 0))), (2, .inr (.inr (5, 0, 0))), (3, .inl (nI i))], [.inl ((nI i) + 1), .inr (.inr (6, 0, 1)), .inr (.inr (4, 0, 0))], τ) [] rfl ?_ ?_
  · exact trivial
  rw [show nI i + 1 = nI (i + 1) from nI_add i 1]
  refine AW.run 1 [] (1024, [(0, .inr (.inr (6, 0, 1))), (1, .inr (.inr (4, 0, 0))), (2, .inr (.inr (5, 0, 0))), (3, .inl (nI i))], [.inl (τ 6 0 1 (nI (i + 1)).toNatClampNeg), .inr (.inr (4, 0, 0))], τ) [vp_in (nI (i + 1)) ((τ 6 0 0 0).toNatClampNeg)] rfl ?_ ?_
  · exact allP1 (by first | exact vin _ (by omega) | exact vin1 _ (by omega))
  refine AW.callVI (d' := 3) [.inl (τ 6 0 1 (nI (i + 1)).toNatClampNeg)] [] ⟨_, rfl⟩ f_5_tightest v_5_tightest l_9_134 ⟨rfl, by decide⟩ rfl (Nat.le_of_ble_eq_true rfl) rfl (Nat.le_of_ble_eq_true rfl) (c5_tightest F τ hA hG.1 (τ 6 0 1 (nI (i + 1)).toNatClampNeg)) ?_
  rintro v1 σ1 ⟨F1, hr1, hA1, hX1⟩
  have vin1 : ∀ x, x < L → vp_in (nI x) (σ1 6 0 0 0).toNatClampNeg := fun x hx => by rw [hX1.2]; exact vin x hx
  refine AW.run 5 [] (1032, [(0, .inr (.inr (6, 0, 1))), (1, .inr (.inr (4, 0, 0))), (2, .inr (.inr (5, 0, 0))), (3, .inl (nI i))], [.inl ((nI i) + 1), .inr (.inr (6, 0, 1)), .inr (.inr (5, 0, 0)), .inl v1], σ1) [] rfl ?_ ?_
  · exact trivial
  rw [show nI i + 1 = nI (i + 1) from nI_add i 1]
  refine AW.run 1 [] (1033, [(0, .inr (.inr (6, 0, 1))), (1, .inr (.inr (4, 0, 0))), (2, .inr (.inr (5, 0, 0))), (3, .inl (nI i))], [.inl (σ1 6 0 1 (nI (i + 1)).toNatClampNeg), .inr (.inr (5, 0, 0)), .inl v1], σ1) [vp_in (nI (i + 1)) ((σ1 6 0 0 0).toNatClampNeg)] rfl ?_ ?_
  · exact allP1 (by first | exact vin _ (by omega) | exact vin1 _ (by omega))
  rw [hX1.2]
  refine AW.callVI (d' := 4) [.inl (τ 6 0 1 (nI (i + 1)).toNatClampNeg)] [.inl v1] ⟨_, rfl⟩ f_6_tightest v_6_tightest l_9_137 ⟨rfl, by decide⟩ rfl (Nat.le_of_ble_eq_true rfl) rfl (Nat.le_of_ble_eq_true rfl) (d6_tightest F σ1 (RepD_oth hX1.1 hD) hG (τ 6 0 1 (nI (i + 1)).toNatClampNeg)) ?_
  rintro v2 σ2 ⟨F2, hr2, hD2, hT2⟩
  obtain ⟨rfl, rfl, hF1⟩ := pair_i hr1 hr2
  refine AW.run 1 [true] (1341, [(0, .inr (.inr (6, 0, 1))), (1, .inr (.inr (4, 0, 0))), (2, .inr (.inr (5, 0, 0))), (3, .inl (nI i))], [], σ2) [icP .eq v1 v1] rfl ?_ ?_
  · exact allP1 (rfl)
  exact hk _ _ (LInv_step h6 (by have hg9 := g_tightest hG (τ 6 0 1 (nI (i + 1)).toNatClampNeg); rw [hF1] at hg9; exact hg9) hA1 hX1 hD2 hT2)
set_option maxHeartbeats 4000000 in
set_option maxRecDepth 100000 in
theorem law_near {σ τ : St} {F : Gv} {L i : Nat} (hL : L ≤ 2560) (hi : i + 5 ≤ L) (h0 : (τ 6 0 0 0).toNatClampNeg = L) (hV : LInv σ τ F) (hk : ∀ F1 σ2, LInv σ σ2 F1 → AW ML_law 10 LQ (1341, LLS i, [], σ2)) : AW ML_law 10 LQ (1041, LLS i, [], τ) := by
  obtain ⟨hA, hD, hG, h6⟩ := hV
  have vin : ∀ x, x < L → vp_in (nI x) (τ 6 0 0 0).toNatClampNeg := fun x hx => by rw [h0]; exact vp_in_nI hx (by omega)
  show AW ML_law 10 LQ (1041, [(0, .inr (.inr (6, 0, 1))), (1, .inr (.inr (4, 0, 0))), (2, .inr (.inr (5, 0, 0))), (3, .inl (nI i))], [], τ)
  refine AW.run 5 [] (1046, [(0, .inr (.inr (6, 0, 1))), (1, .inr (.inr (4, 0, 0))), (2, .inr (.inr (5, 0, 0))), (3, .inl (nI i))], [.inl ((nI i) + 1), .inr (.inr (6, 0, 1)), .inr (.inr (4, 0, 0))], τ) [] rfl ?_ ?_
  · exact trivial
  rw [show nI i + 1 = nI (i + 1) from nI_add i 1]
  refine AW.run 1 [] (1047, [(0, .inr (.inr (6, 0, 1))), (1, .inr (.inr (4, 0, 0))), (2, .inr (.inr (5, 0, 0))), (3, .inl (nI i))], [.inl (τ 6 0 1 (nI (i + 1)).toNatClampNeg), .inr (.inr (4, 0, 0))], τ) [vp_in (nI (i + 1)) ((τ 6 0 0 0).toNatClampNeg)] rfl ?_ ?_
  · exact allP1 (by first | exact vin _ (by omega) | exact vin1 _ (by omega))
  refine AW.callVI (d' := 2) [.inl (τ 6 0 1 (nI (i + 1)).toNatClampNeg)] [] ⟨_, rfl⟩ f_5_near v_5_near l_9_138 ⟨rfl, by decide⟩ rfl (Nat.le_of_ble_eq_true rfl) rfl (Nat.le_of_ble_eq_true rfl) (c5_near F τ hA hG.1 (τ 6 0 1 (nI (i + 1)).toNatClampNeg)) ?_
  rintro v1 σ1 ⟨F1, hr1, hA1, hX1⟩
  have vin1 : ∀ x, x < L → vp_in (nI x) (σ1 6 0 0 0).toNatClampNeg := fun x hx => by rw [hX1.2]; exact vin x hx
  refine AW.run 5 [] (1055, [(0, .inr (.inr (6, 0, 1))), (1, .inr (.inr (4, 0, 0))), (2, .inr (.inr (5, 0, 0))), (3, .inl (nI i))], [.inl ((nI i) + 1), .inr (.inr (6, 0, 1)), .inr (.inr (5, 0, 0)), .inl v1], σ1) [] rfl ?_ ?_
  · exact trivial
  rw [show nI i + 1 = nI (i + 1) from nI_add i 1]
  refine AW.run 1 [] (1056, [(0, .inr (.inr (6, 0, 1))), (1, .inr (.inr (4, 0, 0))), (2, .inr (.inr (5, 0, 0))), (3, .inl (nI i))], [.inl (σ1 6 0 1 (nI (i + 1)).toNatClampNeg), .inr (.inr (5, 0, 0)), .inl v1], σ1) [vp_in (nI (i + 1)) ((σ1 6 0 0 0).toNatClampNeg)] rfl ?_ ?_
  · exact allP1 (by first | exact vin _ (by omega) | exact vin1 _ (by omega))
  rw [hX1.2]
  refine AW.callVI (d' := 3) [.inl (τ 6 0 1 (nI (i + 1)).toNatClampNeg)] [.inl v1] ⟨_, rfl⟩ f_6_near v_6_near l_9_141 ⟨rfl, by decide⟩ rfl (Nat.le_of_ble_eq_true rfl) rfl (Nat.le_of_ble_eq_true rfl) (d6_near F σ1 (RepD_oth hX1.1 hD) hG (τ 6 0 1 (nI (i + 1)).toNatClampNeg)) ?_
  rintro v2 σ2 ⟨F2, hr2, hD2, hT2⟩
  obtain ⟨rfl, rfl, hF1⟩ := pair_i hr1 hr2
  refine AW.run 1 [true] (1341, [(0, .inr (.inr (6, 0, 1))), (1, .inr (.inr (4, 0, 0))), (2, .inr (.inr (5, 0, 0))), (3, .inl (nI i))], [], σ2) [icP .eq v1 v1] rfl ?_ ?_
  · exact allP1 (rfl)
  exact hk _ _ (LInv_step h6 (by have hg9 := g_near hG (τ 6 0 1 (nI (i + 1)).toNatClampNeg); rw [hF1] at hg9; exact hg9) hA1 hX1 hD2 hT2)
set_option maxHeartbeats 4000000 in
set_option maxRecDepth 100000 in
theorem law_mean {σ τ : St} {F : Gv} {L i : Nat} (hL : L ≤ 2560) (hi : i + 5 ≤ L) (h0 : (τ 6 0 0 0).toNatClampNeg = L) (hV : LInv σ τ F) (hk : ∀ F1 σ2, LInv σ σ2 F1 → AW ML_law 10 LQ (1341, LLS i, [], σ2)) : AW ML_law 10 LQ (1064, LLS i, [], τ) := by
  obtain ⟨hA, hD, hG, h6⟩ := hV
  have vin : ∀ x, x < L → vp_in (nI x) (τ 6 0 0 0).toNatClampNeg := fun x hx => by rw [h0]; exact vp_in_nI hx (by omega)
  show AW ML_law 10 LQ (1064, [(0, .inr (.inr (6, 0, 1))), (1, .inr (.inr (4, 0, 0))), (2, .inr (.inr (5, 0, 0))), (3, .inl (nI i))], [], τ)
  refine AW.run 5 [] (1069, [(0, .inr (.inr (6, 0, 1))), (1, .inr (.inr (4, 0, 0))), (2, .inr (.inr (5, 0, 0))), (3, .inl (nI i))], [.inl ((nI i) + 1), .inr (.inr (6, 0, 1)), .inr (.inr (4, 0, 0))], τ) [] rfl ?_ ?_
  · exact trivial
  rw [show nI i + 1 = nI (i + 1) from nI_add i 1]
  refine AW.run 1 [] (1070, [(0, .inr (.inr (6, 0, 1))), (1, .inr (.inr (4, 0, 0))), (2, .inr (.inr (5, 0, 0))), (3, .inl (nI i))], [.inl (τ 6 0 1 (nI (i + 1)).toNatClampNeg), .inr (.inr (4, 0, 0))], τ) [vp_in (nI (i + 1)) ((τ 6 0 0 0).toNatClampNeg)] rfl ?_ ?_
  · exact allP1 (by first | exact vin _ (by omega) | exact vin1 _ (by omega))
  refine AW.callVL (d' := 2) [.inl (τ 6 0 1 (nI (i + 1)).toNatClampNeg)] [] ⟨_, rfl⟩ f_5_mean v_5_mean l_9_142 ⟨rfl, by decide⟩ rfl (Nat.le_of_ble_eq_true rfl) rfl (Nat.le_of_ble_eq_true rfl) (c5_mean F τ hA hG.1 (τ 6 0 1 (nI (i + 1)).toNatClampNeg)) ?_
  rintro v1 σ1 ⟨F1, hr1, hA1, hX1⟩
  have vin1 : ∀ x, x < L → vp_in (nI x) (σ1 6 0 0 0).toNatClampNeg := fun x hx => by rw [hX1.2]; exact vin x hx
  refine AW.run 5 [] (1078, [(0, .inr (.inr (6, 0, 1))), (1, .inr (.inr (4, 0, 0))), (2, .inr (.inr (5, 0, 0))), (3, .inl (nI i))], [.inl ((nI i) + 1), .inr (.inr (6, 0, 1)), .inr (.inr (5, 0, 0)), .inr (.inl v1)], σ1) [] rfl ?_ ?_
  · exact trivial
  rw [show nI i + 1 = nI (i + 1) from nI_add i 1]
  refine AW.run 1 [] (1079, [(0, .inr (.inr (6, 0, 1))), (1, .inr (.inr (4, 0, 0))), (2, .inr (.inr (5, 0, 0))), (3, .inl (nI i))], [.inl (σ1 6 0 1 (nI (i + 1)).toNatClampNeg), .inr (.inr (5, 0, 0)), .inr (.inl v1)], σ1) [vp_in (nI (i + 1)) ((σ1 6 0 0 0).toNatClampNeg)] rfl ?_ ?_
  · exact allP1 (by first | exact vin _ (by omega) | exact vin1 _ (by omega))
  rw [hX1.2]
  refine AW.callVL (d' := 3) [.inl (τ 6 0 1 (nI (i + 1)).toNatClampNeg)] [.inr (.inl v1)] ⟨_, rfl⟩ f_6_mean v_6_mean l_9_146 ⟨rfl, by decide⟩ rfl (Nat.le_of_ble_eq_true rfl) rfl (Nat.le_of_ble_eq_true rfl) (d6_mean F σ1 (RepD_oth hX1.1 hD) hG (τ 6 0 1 (nI (i + 1)).toNatClampNeg)) ?_
  rintro v2 σ2 ⟨F2, hr2, hD2, hT2⟩
  obtain ⟨rfl, rfl, hF1⟩ := pair_i hr1 hr2
  refine AW.run 2 [true] (1341, [(0, .inr (.inr (6, 0, 1))), (1, .inr (.inr (4, 0, 0))), (2, .inr (.inr (5, 0, 0))), (3, .inl (nI i))], [], σ2) [icP .eq (lg_cmp v1 v1) 0] rfl ?_ ?_
  · exact allP1 ((lg_cmp_eq v1 v1).mpr rfl)
  exact hk _ _ (LInv_step h6 (by have hg9 := g_mean hG (τ 6 0 1 (nI (i + 1)).toNatClampNeg); rw [hF1] at hg9; exact hg9) hA1 hX1 hD2 hT2)
set_option maxHeartbeats 4000000 in
set_option maxRecDepth 100000 in
theorem law_spare {σ τ : St} {F : Gv} {L i : Nat} (hL : L ≤ 2560) (hi : i + 5 ≤ L) (h0 : (τ 6 0 0 0).toNatClampNeg = L) (hV : LInv σ τ F) (hk : ∀ F1 σ2, LInv σ σ2 F1 → AW ML_law 10 LQ (1341, LLS i, [], σ2)) : AW ML_law 10 LQ (1088, LLS i, [], τ) := by
  obtain ⟨hA, hD, hG, h6⟩ := hV
  have vin : ∀ x, x < L → vp_in (nI x) (τ 6 0 0 0).toNatClampNeg := fun x hx => by rw [h0]; exact vp_in_nI hx (by omega)
  show AW ML_law 10 LQ (1088, [(0, .inr (.inr (6, 0, 1))), (1, .inr (.inr (4, 0, 0))), (2, .inr (.inr (5, 0, 0))), (3, .inl (nI i))], [], τ)
  refine AW.run 5 [] (1093, [(0, .inr (.inr (6, 0, 1))), (1, .inr (.inr (4, 0, 0))), (2, .inr (.inr (5, 0, 0))), (3, .inl (nI i))], [.inl ((nI i) + 1), .inr (.inr (6, 0, 1)), .inr (.inr (4, 0, 0))], τ) [] rfl ?_ ?_
  · exact trivial
  rw [show nI i + 1 = nI (i + 1) from nI_add i 1]
  refine AW.run 1 [] (1094, [(0, .inr (.inr (6, 0, 1))), (1, .inr (.inr (4, 0, 0))), (2, .inr (.inr (5, 0, 0))), (3, .inl (nI i))], [.inl (τ 6 0 1 (nI (i + 1)).toNatClampNeg), .inr (.inr (4, 0, 0))], τ) [vp_in (nI (i + 1)) ((τ 6 0 0 0).toNatClampNeg)] rfl ?_ ?_
  · exact allP1 (by first | exact vin _ (by omega) | exact vin1 _ (by omega))
  refine AW.callVI (d' := 2) [.inl (τ 6 0 1 (nI (i + 1)).toNatClampNeg)] [] ⟨_, rfl⟩ f_5_spare v_5_spare l_9_147 ⟨rfl, by decide⟩ rfl (Nat.le_of_ble_eq_true rfl) rfl (Nat.le_of_ble_eq_true rfl) (c5_spare F τ hA hG.1 (τ 6 0 1 (nI (i + 1)).toNatClampNeg)) ?_
  rintro v1 σ1 ⟨F1, hr1, hA1, hX1⟩
  have vin1 : ∀ x, x < L → vp_in (nI x) (σ1 6 0 0 0).toNatClampNeg := fun x hx => by rw [hX1.2]; exact vin x hx
  refine AW.run 5 [] (1102, [(0, .inr (.inr (6, 0, 1))), (1, .inr (.inr (4, 0, 0))), (2, .inr (.inr (5, 0, 0))), (3, .inl (nI i))], [.inl ((nI i) + 1), .inr (.inr (6, 0, 1)), .inr (.inr (5, 0, 0)), .inl v1], σ1) [] rfl ?_ ?_
  · exact trivial
  rw [show nI i + 1 = nI (i + 1) from nI_add i 1]
  refine AW.run 1 [] (1103, [(0, .inr (.inr (6, 0, 1))), (1, .inr (.inr (4, 0, 0))), (2, .inr (.inr (5, 0, 0))), (3, .inl (nI i))], [.inl (σ1 6 0 1 (nI (i + 1)).toNatClampNeg), .inr (.inr (5, 0, 0)), .inl v1], σ1) [vp_in (nI (i + 1)) ((σ1 6 0 0 0).toNatClampNeg)] rfl ?_ ?_
  · exact allP1 (by first | exact vin _ (by omega) | exact vin1 _ (by omega))
  rw [hX1.2]
  refine AW.callVI (d' := 2) [.inl (τ 6 0 1 (nI (i + 1)).toNatClampNeg)] [.inl v1] ⟨_, rfl⟩ f_6_spare v_6_spare l_9_150 ⟨rfl, by decide⟩ rfl (Nat.le_of_ble_eq_true rfl) rfl (Nat.le_of_ble_eq_true rfl) (d6_spare F σ1 (RepD_oth hX1.1 hD) hG (τ 6 0 1 (nI (i + 1)).toNatClampNeg)) ?_
  rintro v2 σ2 ⟨F2, hr2, hD2, hT2⟩
  obtain ⟨rfl, rfl, hF1⟩ := pair_i hr1 hr2
  refine AW.run 1 [true] (1341, [(0, .inr (.inr (6, 0, 1))), (1, .inr (.inr (4, 0, 0))), (2, .inr (.inr (5, 0, 0))), (3, .inl (nI i))], [], σ2) [icP .eq v1 v1] rfl ?_ ?_
  · exact allP1 (rfl)
  exact hk _ _ (LInv_step h6 (by have hg9 := g_spare hG (τ 6 0 1 (nI (i + 1)).toNatClampNeg); rw [hF1] at hg9; exact hg9) hA1 hX1 hD2 hT2)
set_option maxHeartbeats 4000000 in
set_option maxRecDepth 100000 in
theorem law_pairs {σ τ : St} {F : Gv} {L i : Nat} (hL : L ≤ 2560) (hi : i + 5 ≤ L) (h0 : (τ 6 0 0 0).toNatClampNeg = L) (hV : LInv σ τ F) (hk : ∀ F1 σ2, LInv σ σ2 F1 → AW ML_law 10 LQ (1341, LLS i, [], σ2)) : AW ML_law 10 LQ (1111, LLS i, [], τ) := by
  obtain ⟨hA, hD, hG, h6⟩ := hV
  have vin : ∀ x, x < L → vp_in (nI x) (τ 6 0 0 0).toNatClampNeg := fun x hx => by rw [h0]; exact vp_in_nI hx (by omega)
  show AW ML_law 10 LQ (1111, [(0, .inr (.inr (6, 0, 1))), (1, .inr (.inr (4, 0, 0))), (2, .inr (.inr (5, 0, 0))), (3, .inl (nI i))], [], τ)
  refine AW.run 5 [] (1116, [(0, .inr (.inr (6, 0, 1))), (1, .inr (.inr (4, 0, 0))), (2, .inr (.inr (5, 0, 0))), (3, .inl (nI i))], [.inl ((nI i) + 1), .inr (.inr (6, 0, 1)), .inr (.inr (4, 0, 0))], τ) [] rfl ?_ ?_
  · exact trivial
  rw [show nI i + 1 = nI (i + 1) from nI_add i 1]
  refine AW.run 1 [] (1117, [(0, .inr (.inr (6, 0, 1))), (1, .inr (.inr (4, 0, 0))), (2, .inr (.inr (5, 0, 0))), (3, .inl (nI i))], [.inl (τ 6 0 1 (nI (i + 1)).toNatClampNeg), .inr (.inr (4, 0, 0))], τ) [vp_in (nI (i + 1)) ((τ 6 0 0 0).toNatClampNeg)] rfl ?_ ?_
  · exact allP1 (by first | exact vin _ (by omega) | exact vin1 _ (by omega))
  refine AW.callVI (d' := 5) [.inl (τ 6 0 1 (nI (i + 1)).toNatClampNeg)] [] ⟨_, rfl⟩ f_5_pairs v_5_pairs l_9_151 ⟨rfl, by decide⟩ rfl (Nat.le_of_ble_eq_true rfl) rfl (Nat.le_of_ble_eq_true rfl) (c5_pairs F τ hA hG.1 (τ 6 0 1 (nI (i + 1)).toNatClampNeg)) ?_
  rintro v1 σ1 ⟨F1, hr1, hA1, hX1⟩
  have vin1 : ∀ x, x < L → vp_in (nI x) (σ1 6 0 0 0).toNatClampNeg := fun x hx => by rw [hX1.2]; exact vin x hx
  refine AW.run 5 [] (1125, [(0, .inr (.inr (6, 0, 1))), (1, .inr (.inr (4, 0, 0))), (2, .inr (.inr (5, 0, 0))), (3, .inl (nI i))], [.inl ((nI i) + 1), .inr (.inr (6, 0, 1)), .inr (.inr (5, 0, 0)), .inl v1], σ1) [] rfl ?_ ?_
  · exact trivial
  rw [show nI i + 1 = nI (i + 1) from nI_add i 1]
  refine AW.run 1 [] (1126, [(0, .inr (.inr (6, 0, 1))), (1, .inr (.inr (4, 0, 0))), (2, .inr (.inr (5, 0, 0))), (3, .inl (nI i))], [.inl (σ1 6 0 1 (nI (i + 1)).toNatClampNeg), .inr (.inr (5, 0, 0)), .inl v1], σ1) [vp_in (nI (i + 1)) ((σ1 6 0 0 0).toNatClampNeg)] rfl ?_ ?_
  · exact allP1 (by first | exact vin _ (by omega) | exact vin1 _ (by omega))
  rw [hX1.2]
  refine AW.callVI (d' := 9) [.inl (τ 6 0 1 (nI (i + 1)).toNatClampNeg)] [.inl v1] ⟨_, rfl⟩ f_6_pairs v_6_pairs l_9_154 ⟨rfl, by decide⟩ rfl (Nat.le_of_ble_eq_true rfl) rfl (Nat.le_of_ble_eq_true rfl) (d6_pairs F σ1 (RepD_oth hX1.1 hD) hG (τ 6 0 1 (nI (i + 1)).toNatClampNeg)) ?_
  rintro v2 σ2 ⟨F2, hr2, hD2, hT2⟩
  obtain ⟨rfl, rfl, hF1⟩ := pair_i hr1 hr2
  refine AW.run 1 [true] (1341, [(0, .inr (.inr (6, 0, 1))), (1, .inr (.inr (4, 0, 0))), (2, .inr (.inr (5, 0, 0))), (3, .inl (nI i))], [], σ2) [icP .eq v1 v1] rfl ?_ ?_
  · exact allP1 (rfl)
  exact hk _ _ (LInv_step h6 (by have hg9 := g_pairs hG (τ 6 0 1 (nI (i + 1)).toNatClampNeg); rw [hF1] at hg9; exact hg9) hA1 hX1 hD2 hT2)
set_option maxHeartbeats 4000000 in
set_option maxRecDepth 100000 in
theorem law_eased {σ τ : St} {F : Gv} {L i : Nat} (hL : L ≤ 2560) (hi : i + 5 ≤ L) (h0 : (τ 6 0 0 0).toNatClampNeg = L) (hV : LInv σ τ F) (hk : ∀ F1 σ2, LInv σ σ2 F1 → AW ML_law 10 LQ (1341, LLS i, [], σ2)) : AW ML_law 10 LQ (1134, LLS i, [], τ) := by
  obtain ⟨hA, hD, hG, h6⟩ := hV
  have vin : ∀ x, x < L → vp_in (nI x) (τ 6 0 0 0).toNatClampNeg := fun x hx => by rw [h0]; exact vp_in_nI hx (by omega)
  show AW ML_law 10 LQ (1134, [(0, .inr (.inr (6, 0, 1))), (1, .inr (.inr (4, 0, 0))), (2, .inr (.inr (5, 0, 0))), (3, .inl (nI i))], [], τ)
  refine AW.run 5 [] (1139, [(0, .inr (.inr (6, 0, 1))), (1, .inr (.inr (4, 0, 0))), (2, .inr (.inr (5, 0, 0))), (3, .inl (nI i))], [.inl ((nI i) + 1), .inr (.inr (6, 0, 1)), .inr (.inr (4, 0, 0))], τ) [] rfl ?_ ?_
  · exact trivial
  rw [show nI i + 1 = nI (i + 1) from nI_add i 1]
  refine AW.run 1 [] (1140, [(0, .inr (.inr (6, 0, 1))), (1, .inr (.inr (4, 0, 0))), (2, .inr (.inr (5, 0, 0))), (3, .inl (nI i))], [.inl (τ 6 0 1 (nI (i + 1)).toNatClampNeg), .inr (.inr (4, 0, 0))], τ) [vp_in (nI (i + 1)) ((τ 6 0 0 0).toNatClampNeg)] rfl ?_ ?_
  · exact allP1 (by first | exact vin _ (by omega) | exact vin1 _ (by omega))
  refine AW.run 4 [] (1144, [(0, .inr (.inr (6, 0, 1))), (1, .inr (.inr (4, 0, 0))), (2, .inr (.inr (5, 0, 0))), (3, .inl (nI i))], [.inl ((nI i) + 2), .inr (.inr (6, 0, 1)), .inl (τ 6 0 1 (nI (i + 1)).toNatClampNeg), .inr (.inr (4, 0, 0))], τ) [] rfl ?_ ?_
  · exact trivial
  rw [show nI i + 2 = nI (i + 2) from nI_add i 2]
  refine AW.run 1 [] (1145, [(0, .inr (.inr (6, 0, 1))), (1, .inr (.inr (4, 0, 0))), (2, .inr (.inr (5, 0, 0))), (3, .inl (nI i))], [.inl (τ 6 0 1 (nI (i + 2)).toNatClampNeg), .inl (τ 6 0 1 (nI (i + 1)).toNatClampNeg), .inr (.inr (4, 0, 0))], τ) [vp_in (nI (i + 2)) ((τ 6 0 0 0).toNatClampNeg)] rfl ?_ ?_
  · exact allP1 (by first | exact vin _ (by omega) | exact vin1 _ (by omega))
  refine AW.run 4 [] (1149, [(0, .inr (.inr (6, 0, 1))), (1, .inr (.inr (4, 0, 0))), (2, .inr (.inr (5, 0, 0))), (3, .inl (nI i))], [.inl ((nI i) + 3), .inr (.inr (6, 0, 1)), .inl (τ 6 0 1 (nI (i + 2)).toNatClampNeg), .inl (τ 6 0 1 (nI (i + 1)).toNatClampNeg), .inr (.inr (4, 0, 0))], τ) [] rfl ?_ ?_
  · exact trivial
  rw [show nI i + 3 = nI (i + 3) from nI_add i 3]
  refine AW.run 1 [] (1150, [(0, .inr (.inr (6, 0, 1))), (1, .inr (.inr (4, 0, 0))), (2, .inr (.inr (5, 0, 0))), (3, .inl (nI i))], [.inl (τ 6 0 1 (nI (i + 3)).toNatClampNeg), .inl (τ 6 0 1 (nI (i + 2)).toNatClampNeg), .inl (τ 6 0 1 (nI (i + 1)).toNatClampNeg), .inr (.inr (4, 0, 0))], τ) [vp_in (nI (i + 3)) ((τ 6 0 0 0).toNatClampNeg)] rfl ?_ ?_
  · exact allP1 (by first | exact vin _ (by omega) | exact vin1 _ (by omega))
  refine AW.callVI (d' := 6) [.inl (τ 6 0 1 (nI (i + 1)).toNatClampNeg), .inl (τ 6 0 1 (nI (i + 2)).toNatClampNeg), .inl (τ 6 0 1 (nI (i + 3)).toNatClampNeg)] [] ⟨_, rfl⟩ f_5_eased v_5_eased l_9_155 ⟨rfl, by decide⟩ rfl (Nat.le_of_ble_eq_true rfl) rfl (Nat.le_of_ble_eq_true rfl) (c5_eased F τ hA hG.1 (τ 6 0 1 (nI (i + 1)).toNatClampNeg) (τ 6 0 1 (nI (i + 2)).toNatClampNeg) (τ 6 0 1 (nI (i + 3)).toNatClampNeg)) ?_
  rintro v1 σ1 ⟨F1, hr1, hA1, hX1⟩
  have vin1 : ∀ x, x < L → vp_in (nI x) (σ1 6 0 0 0).toNatClampNeg := fun x hx => by rw [hX1.2]; exact vin x hx
  refine AW.run 5 [] (1158, [(0, .inr (.inr (6, 0, 1))), (1, .inr (.inr (4, 0, 0))), (2, .inr (.inr (5, 0, 0))), (3, .inl (nI i))], [.inl ((nI i) + 1), .inr (.inr (6, 0, 1)), .inr (.inr (5, 0, 0)), .inl v1], σ1) [] rfl ?_ ?_
  · exact trivial
  rw [show nI i + 1 = nI (i + 1) from nI_add i 1]
  refine AW.run 1 [] (1159, [(0, .inr (.inr (6, 0, 1))), (1, .inr (.inr (4, 0, 0))), (2, .inr (.inr (5, 0, 0))), (3, .inl (nI i))], [.inl (σ1 6 0 1 (nI (i + 1)).toNatClampNeg), .inr (.inr (5, 0, 0)), .inl v1], σ1) [vp_in (nI (i + 1)) ((σ1 6 0 0 0).toNatClampNeg)] rfl ?_ ?_
  · exact allP1 (by first | exact vin _ (by omega) | exact vin1 _ (by omega))
  rw [hX1.2]
  refine AW.run 4 [] (1163, [(0, .inr (.inr (6, 0, 1))), (1, .inr (.inr (4, 0, 0))), (2, .inr (.inr (5, 0, 0))), (3, .inl (nI i))], [.inl ((nI i) + 2), .inr (.inr (6, 0, 1)), .inl (τ 6 0 1 (nI (i + 1)).toNatClampNeg), .inr (.inr (5, 0, 0)), .inl v1], σ1) [] rfl ?_ ?_
  · exact trivial
  rw [show nI i + 2 = nI (i + 2) from nI_add i 2]
  refine AW.run 1 [] (1164, [(0, .inr (.inr (6, 0, 1))), (1, .inr (.inr (4, 0, 0))), (2, .inr (.inr (5, 0, 0))), (3, .inl (nI i))], [.inl (σ1 6 0 1 (nI (i + 2)).toNatClampNeg), .inl (τ 6 0 1 (nI (i + 1)).toNatClampNeg), .inr (.inr (5, 0, 0)), .inl v1], σ1) [vp_in (nI (i + 2)) ((σ1 6 0 0 0).toNatClampNeg)] rfl ?_ ?_
  · exact allP1 (by first | exact vin _ (by omega) | exact vin1 _ (by omega))
  rw [hX1.2]
  refine AW.run 4 [] (1168, [(0, .inr (.inr (6, 0, 1))), (1, .inr (.inr (4, 0, 0))), (2, .inr (.inr (5, 0, 0))), (3, .inl (nI i))], [.inl ((nI i) + 3), .inr (.inr (6, 0, 1)), .inl (τ 6 0 1 (nI (i + 2)).toNatClampNeg), .inl (τ 6 0 1 (nI (i + 1)).toNatClampNeg), .inr (.inr (5, 0, 0)), .inl v1], σ1) [] rfl ?_ ?_
  · exact trivial
  rw [show nI i + 3 = nI (i + 3) from nI_add i 3]
  refine AW.run 1 [] (1169, [(0, .inr (.inr (6, 0, 1))), (1, .inr (.inr (4, 0, 0))), (2, .inr (.inr (5, 0, 0))), (3, .inl (nI i))], [.inl (σ1 6 0 1 (nI (i + 3)).toNatClampNeg), .inl (τ 6 0 1 (nI (i + 2)).toNatClampNeg), .inl (τ 6 0 1 (nI (i + 1)).toNatClampNeg), .inr (.inr (5, 0, 0)), .inl v1], σ1) [vp_in (nI (i + 3)) ((σ1 6 0 0 0).toNatClampNeg)] rfl ?_ ?_
  · exact allP1 (by first | exact vin _ (by omega) | exact vin1 _ (by omega))
  rw [hX1.2]
  refine AW.callVI (d' := 7) [.inl (τ 6 0 1 (nI (i + 1)).toNatClampNeg), .inl (τ 6 0 1 (nI (i + 2)).toNatClampNeg), .inl (τ 6 0 1 (nI (i + 3)).toNatClampNeg)] [.inl v1] ⟨_, rfl⟩ f_6_eased v_6_eased l_9_158 ⟨rfl, by decide⟩ rfl (Nat.le_of_ble_eq_true rfl) rfl (Nat.le_of_ble_eq_true rfl) (d6_eased F σ1 (RepD_oth hX1.1 hD) hG (τ 6 0 1 (nI (i + 1)).toNatClampNeg) (τ 6 0 1 (nI (i + 2)).toNatClampNeg) (τ 6 0 1 (nI (i + 3)).toNatClampNeg)) ?_
  rintro v2 σ2 ⟨F2, hr2, hD2, hT2⟩
  obtain ⟨rfl, rfl, hF1⟩ := pair_i hr1 hr2
  refine AW.run 1 [true] (1341, [(0, .inr (.inr (6, 0, 1))), (1, .inr (.inr (4, 0, 0))), (2, .inr (.inr (5, 0, 0))), (3, .inl (nI i))], [], σ2) [icP .eq v1 v1] rfl ?_ ?_
  · exact allP1 (rfl)
  exact hk _ _ (LInv_step h6 (by have hg9 := g_eased hG (τ 6 0 1 (nI (i + 1)).toNatClampNeg) (τ 6 0 1 (nI (i + 2)).toNatClampNeg) (τ 6 0 1 (nI (i + 3)).toNatClampNeg); rw [hF1] at hg9; exact hg9) hA1 hX1 hD2 hT2)
set_option maxHeartbeats 4000000 in
set_option maxRecDepth 100000 in
theorem law_officers {σ τ : St} {F : Gv} {L i : Nat} (hL : L ≤ 2560) (hi : i + 5 ≤ L) (h0 : (τ 6 0 0 0).toNatClampNeg = L) (hV : LInv σ τ F) (hk : ∀ F1 σ2, LInv σ σ2 F1 → AW ML_law 10 LQ (1341, LLS i, [], σ2)) : AW ML_law 10 LQ (1177, LLS i, [], τ) := by
  obtain ⟨hA, hD, hG, h6⟩ := hV
  have vin : ∀ x, x < L → vp_in (nI x) (τ 6 0 0 0).toNatClampNeg := fun x hx => by rw [h0]; exact vp_in_nI hx (by omega)
  show AW ML_law 10 LQ (1177, [(0, .inr (.inr (6, 0, 1))), (1, .inr (.inr (4, 0, 0))), (2, .inr (.inr (5, 0, 0))), (3, .inl (nI i))], [], τ)
  refine AW.run 5 [] (1182, [(0, .inr (.inr (6, 0, 1))), (1, .inr (.inr (4, 0, 0))), (2, .inr (.inr (5, 0, 0))), (3, .inl (nI i))], [.inl ((nI i) + 1), .inr (.inr (6, 0, 1)), .inr (.inr (4, 0, 0))], τ) [] rfl ?_ ?_
  · exact trivial
  rw [show nI i + 1 = nI (i + 1) from nI_add i 1]
  refine AW.run 1 [] (1183, [(0, .inr (.inr (6, 0, 1))), (1, .inr (.inr (4, 0, 0))), (2, .inr (.inr (5, 0, 0))), (3, .inl (nI i))], [.inl (τ 6 0 1 (nI (i + 1)).toNatClampNeg), .inr (.inr (4, 0, 0))], τ) [vp_in (nI (i + 1)) ((τ 6 0 0 0).toNatClampNeg)] rfl ?_ ?_
  · exact allP1 (by first | exact vin _ (by omega) | exact vin1 _ (by omega))
  refine AW.callVI (d' := 3) [.inl (τ 6 0 1 (nI (i + 1)).toNatClampNeg)] [] ⟨_, rfl⟩ f_5_officers v_5_officers l_9_159 ⟨rfl, by decide⟩ rfl (Nat.le_of_ble_eq_true rfl) rfl (Nat.le_of_ble_eq_true rfl) (c5_officers F τ hA hG.1 (τ 6 0 1 (nI (i + 1)).toNatClampNeg)) ?_
  rintro v1 σ1 ⟨F1, hr1, hA1, hX1⟩
  have vin1 : ∀ x, x < L → vp_in (nI x) (σ1 6 0 0 0).toNatClampNeg := fun x hx => by rw [hX1.2]; exact vin x hx
  refine AW.run 5 [] (1191, [(0, .inr (.inr (6, 0, 1))), (1, .inr (.inr (4, 0, 0))), (2, .inr (.inr (5, 0, 0))), (3, .inl (nI i))], [.inl ((nI i) + 1), .inr (.inr (6, 0, 1)), .inr (.inr (5, 0, 0)), .inl v1], σ1) [] rfl ?_ ?_
  · exact trivial
  rw [show nI i + 1 = nI (i + 1) from nI_add i 1]
  refine AW.run 1 [] (1192, [(0, .inr (.inr (6, 0, 1))), (1, .inr (.inr (4, 0, 0))), (2, .inr (.inr (5, 0, 0))), (3, .inl (nI i))], [.inl (σ1 6 0 1 (nI (i + 1)).toNatClampNeg), .inr (.inr (5, 0, 0)), .inl v1], σ1) [vp_in (nI (i + 1)) ((σ1 6 0 0 0).toNatClampNeg)] rfl ?_ ?_
  · exact allP1 (by first | exact vin _ (by omega) | exact vin1 _ (by omega))
  rw [hX1.2]
  refine AW.callVI (d' := 2) [.inl (τ 6 0 1 (nI (i + 1)).toNatClampNeg)] [.inl v1] ⟨_, rfl⟩ f_6_officers v_6_officers l_9_162 ⟨rfl, by decide⟩ rfl (Nat.le_of_ble_eq_true rfl) rfl (Nat.le_of_ble_eq_true rfl) (d6_officers F σ1 (RepD_oth hX1.1 hD) hG (τ 6 0 1 (nI (i + 1)).toNatClampNeg)) ?_
  rintro v2 σ2 ⟨F2, hr2, hD2, hT2⟩
  obtain ⟨rfl, rfl, hF1⟩ := pair_i hr1 hr2
  refine AW.run 1 [true] (1341, [(0, .inr (.inr (6, 0, 1))), (1, .inr (.inr (4, 0, 0))), (2, .inr (.inr (5, 0, 0))), (3, .inl (nI i))], [], σ2) [icP .eq v1 v1] rfl ?_ ?_
  · exact allP1 (rfl)
  exact hk _ _ (LInv_step h6 (by have hg9 := g_officers hG (τ 6 0 1 (nI (i + 1)).toNatClampNeg); rw [hF1] at hg9; exact hg9) hA1 hX1 hD2 hT2)
set_option maxHeartbeats 4000000 in
set_option maxRecDepth 100000 in
theorem law_row {σ τ : St} {F : Gv} {L i : Nat} (hL : L ≤ 2560) (hi : i + 5 ≤ L) (h0 : (τ 6 0 0 0).toNatClampNeg = L) (hV : LInv σ τ F) (hk : ∀ F1 σ2, LInv σ σ2 F1 → AW ML_law 10 LQ (1341, LLS i, [], σ2)) : AW ML_law 10 LQ (1200, LLS i, [], τ) := by
  obtain ⟨hA, hD, hG, h6⟩ := hV
  have vin : ∀ x, x < L → vp_in (nI x) (τ 6 0 0 0).toNatClampNeg := fun x hx => by rw [h0]; exact vp_in_nI hx (by omega)
  show AW ML_law 10 LQ (1200, [(0, .inr (.inr (6, 0, 1))), (1, .inr (.inr (4, 0, 0))), (2, .inr (.inr (5, 0, 0))), (3, .inl (nI i))], [], τ)
  refine AW.run 5 [] (1205, [(0, .inr (.inr (6, 0, 1))), (1, .inr (.inr (4, 0, 0))), (2, .inr (.inr (5, 0, 0))), (3, .inl (nI i))], [.inl ((nI i) + 1), .inr (.inr (6, 0, 1)), .inr (.inr (4, 0, 0))], τ) [] rfl ?_ ?_
  · exact trivial
  rw [show nI i + 1 = nI (i + 1) from nI_add i 1]
  refine AW.run 1 [] (1206, [(0, .inr (.inr (6, 0, 1))), (1, .inr (.inr (4, 0, 0))), (2, .inr (.inr (5, 0, 0))), (3, .inl (nI i))], [.inl (τ 6 0 1 (nI (i + 1)).toNatClampNeg), .inr (.inr (4, 0, 0))], τ) [vp_in (nI (i + 1)) ((τ 6 0 0 0).toNatClampNeg)] rfl ?_ ?_
  · exact allP1 (by first | exact vin _ (by omega) | exact vin1 _ (by omega))
  refine AW.callVI (d' := 1) [.inl (τ 6 0 1 (nI (i + 1)).toNatClampNeg)] [] ⟨_, rfl⟩ f_5_row v_5_row l_9_163 ⟨rfl, by decide⟩ rfl (Nat.le_of_ble_eq_true rfl) rfl (Nat.le_of_ble_eq_true rfl) (c5_row F τ hA hG.1 (τ 6 0 1 (nI (i + 1)).toNatClampNeg)) ?_
  rintro v1 σ1 ⟨F1, hr1, hA1, hX1⟩
  have vin1 : ∀ x, x < L → vp_in (nI x) (σ1 6 0 0 0).toNatClampNeg := fun x hx => by rw [hX1.2]; exact vin x hx
  refine AW.run 5 [] (1214, [(0, .inr (.inr (6, 0, 1))), (1, .inr (.inr (4, 0, 0))), (2, .inr (.inr (5, 0, 0))), (3, .inl (nI i))], [.inl ((nI i) + 1), .inr (.inr (6, 0, 1)), .inr (.inr (5, 0, 0)), .inl v1], σ1) [] rfl ?_ ?_
  · exact trivial
  rw [show nI i + 1 = nI (i + 1) from nI_add i 1]
  refine AW.run 1 [] (1215, [(0, .inr (.inr (6, 0, 1))), (1, .inr (.inr (4, 0, 0))), (2, .inr (.inr (5, 0, 0))), (3, .inl (nI i))], [.inl (σ1 6 0 1 (nI (i + 1)).toNatClampNeg), .inr (.inr (5, 0, 0)), .inl v1], σ1) [vp_in (nI (i + 1)) ((σ1 6 0 0 0).toNatClampNeg)] rfl ?_ ?_
  · exact allP1 (by first | exact vin _ (by omega) | exact vin1 _ (by omega))
  rw [hX1.2]
  refine AW.callVI (d' := 1) [.inl (τ 6 0 1 (nI (i + 1)).toNatClampNeg)] [.inl v1] ⟨_, rfl⟩ f_6_row v_6_row l_9_166 ⟨rfl, by decide⟩ rfl (Nat.le_of_ble_eq_true rfl) rfl (Nat.le_of_ble_eq_true rfl) (d6_row F σ1 (RepD_oth hX1.1 hD) hG (τ 6 0 1 (nI (i + 1)).toNatClampNeg)) ?_
  rintro v2 σ2 ⟨F2, hr2, hD2, hT2⟩
  obtain ⟨rfl, rfl, hF1⟩ := pair_i hr1 hr2
  refine AW.run 1 [true] (1341, [(0, .inr (.inr (6, 0, 1))), (1, .inr (.inr (4, 0, 0))), (2, .inr (.inr (5, 0, 0))), (3, .inl (nI i))], [], σ2) [icP .eq v1 v1] rfl ?_ ?_
  · exact allP1 (rfl)
  exact hk _ _ (LInv_step h6 (by have hg9 := g_row hG (τ 6 0 1 (nI (i + 1)).toNatClampNeg); rw [hF1] at hg9; exact hg9) hA1 hX1 hD2 hT2)
set_option maxHeartbeats 4000000 in
set_option maxRecDepth 100000 in
theorem law_judge {σ τ : St} {F : Gv} {L i : Nat} (hL : L ≤ 2560) (hi : i + 5 ≤ L) (h0 : (τ 6 0 0 0).toNatClampNeg = L) (hV : LInv σ τ F) (hk : ∀ F1 σ2, LInv σ σ2 F1 → AW ML_law 10 LQ (1341, LLS i, [], σ2)) : AW ML_law 10 LQ (1223, LLS i, [], τ) := by
  obtain ⟨hA, hD, hG, h6⟩ := hV
  have vin : ∀ x, x < L → vp_in (nI x) (τ 6 0 0 0).toNatClampNeg := fun x hx => by rw [h0]; exact vp_in_nI hx (by omega)
  show AW ML_law 10 LQ (1223, [(0, .inr (.inr (6, 0, 1))), (1, .inr (.inr (4, 0, 0))), (2, .inr (.inr (5, 0, 0))), (3, .inl (nI i))], [], τ)
  refine AW.run 1 [] (1224, [(0, .inr (.inr (6, 0, 1))), (1, .inr (.inr (4, 0, 0))), (2, .inr (.inr (5, 0, 0))), (3, .inl (nI i))], [.inr (.inr (4, 0, 0))], τ) [] rfl ?_ ?_
  · exact trivial
  refine AW.callVI (d' := 2) [] [] ⟨_, rfl⟩ f_5_judge v_5_judge l_9_167 ⟨rfl, by decide⟩ rfl (Nat.le_of_ble_eq_true rfl) rfl (Nat.le_of_ble_eq_true rfl) (c5_judge F τ hA hG.1) ?_
  rintro v1 σ1 ⟨F1, hr1, hA1, hX1⟩
  have vin1 : ∀ x, x < L → vp_in (nI x) (σ1 6 0 0 0).toNatClampNeg := fun x hx => by rw [hX1.2]; exact vin x hx
  refine AW.run 1 [] (1228, [(0, .inr (.inr (6, 0, 1))), (1, .inr (.inr (4, 0, 0))), (2, .inr (.inr (5, 0, 0))), (3, .inl (nI i))], [.inr (.inr (5, 0, 0)), .inl v1], σ1) [] rfl ?_ ?_
  · exact trivial
  refine AW.callVI (d' := 1) [] [.inl v1] ⟨_, rfl⟩ f_6_judge v_6_judge l_9_170 ⟨rfl, by decide⟩ rfl (Nat.le_of_ble_eq_true rfl) rfl (Nat.le_of_ble_eq_true rfl) (d6_judge F σ1 (RepD_oth hX1.1 hD) hG) ?_
  rintro v2 σ2 ⟨F2, hr2, hD2, hT2⟩
  obtain ⟨rfl, rfl, hF1⟩ := pair_i hr1 hr2
  refine AW.run 1 [true] (1341, [(0, .inr (.inr (6, 0, 1))), (1, .inr (.inr (4, 0, 0))), (2, .inr (.inr (5, 0, 0))), (3, .inl (nI i))], [], σ2) [icP .eq v1 v1] rfl ?_ ?_
  · exact allP1 (rfl)
  exact hk _ _ (LInv_step h6 (by have hg9 := g_judge hG; rw [hF1] at hg9; exact hg9) hA1 hX1 hD2 hT2)
set_option maxHeartbeats 4000000 in
set_option maxRecDepth 100000 in
theorem law_clear {σ τ : St} {F : Gv} {L i : Nat} (hL : L ≤ 2560) (hi : i + 5 ≤ L) (h0 : (τ 6 0 0 0).toNatClampNeg = L) (hV : LInv σ τ F) (hk : ∀ F1 σ2, LInv σ σ2 F1 → AW ML_law 10 LQ (1341, LLS i, [], σ2)) : AW ML_law 10 LQ (1236, LLS i, [], τ) := by
  obtain ⟨hA, hD, hG, h6⟩ := hV
  have vin : ∀ x, x < L → vp_in (nI x) (τ 6 0 0 0).toNatClampNeg := fun x hx => by rw [h0]; exact vp_in_nI hx (by omega)
  show AW ML_law 10 LQ (1236, [(0, .inr (.inr (6, 0, 1))), (1, .inr (.inr (4, 0, 0))), (2, .inr (.inr (5, 0, 0))), (3, .inl (nI i))], [], τ)
  refine AW.run 1 [] (1237, [(0, .inr (.inr (6, 0, 1))), (1, .inr (.inr (4, 0, 0))), (2, .inr (.inr (5, 0, 0))), (3, .inl (nI i))], [.inr (.inr (4, 0, 0))], τ) [] rfl ?_ ?_
  · exact trivial
  refine AW.callVI (d' := 0) [] [] ⟨_, rfl⟩ f_5_clear v_5_clear l_9_171 ⟨rfl, by decide⟩ rfl (Nat.le_of_ble_eq_true rfl) rfl (Nat.le_of_ble_eq_true rfl) (c5_clear F τ hA hG.1) ?_
  rintro v1 σ1 ⟨F1, hr1, hA1, hX1⟩
  have vin1 : ∀ x, x < L → vp_in (nI x) (σ1 6 0 0 0).toNatClampNeg := fun x hx => by rw [hX1.2]; exact vin x hx
  refine AW.run 1 [] (1241, [(0, .inr (.inr (6, 0, 1))), (1, .inr (.inr (4, 0, 0))), (2, .inr (.inr (5, 0, 0))), (3, .inl (nI i))], [.inr (.inr (5, 0, 0)), .inl v1], σ1) [] rfl ?_ ?_
  · exact trivial
  refine AW.callVI (d' := 1) [] [.inl v1] ⟨_, rfl⟩ f_6_clear v_6_clear l_9_174 ⟨rfl, by decide⟩ rfl (Nat.le_of_ble_eq_true rfl) rfl (Nat.le_of_ble_eq_true rfl) (d6_clear F σ1 (RepD_oth hX1.1 hD) hG) ?_
  rintro v2 σ2 ⟨F2, hr2, hD2, hT2⟩
  obtain ⟨rfl, rfl, hF1⟩ := pair_i hr1 hr2
  refine AW.run 1 [true] (1341, [(0, .inr (.inr (6, 0, 1))), (1, .inr (.inr (4, 0, 0))), (2, .inr (.inr (5, 0, 0))), (3, .inl (nI i))], [], σ2) [icP .eq v1 v1] rfl ?_ ?_
  · exact allP1 (rfl)
  exact hk _ _ (LInv_step h6 (by have hg9 := g_clear hG; rw [hF1] at hg9; exact hg9) hA1 hX1 hD2 hT2)
set_option maxHeartbeats 4000000 in
set_option maxRecDepth 100000 in
theorem law_lots {σ τ : St} {F : Gv} {L i : Nat} (hL : L ≤ 2560) (hi : i + 5 ≤ L) (h0 : (τ 6 0 0 0).toNatClampNeg = L) (hV : LInv σ τ F) (hk : ∀ F1 σ2, LInv σ σ2 F1 → AW ML_law 10 LQ (1341, LLS i, [], σ2)) : AW ML_law 10 LQ (1249, LLS i, [], τ) := by
  obtain ⟨hA, hD, hG, h6⟩ := hV
  have vin : ∀ x, x < L → vp_in (nI x) (τ 6 0 0 0).toNatClampNeg := fun x hx => by rw [h0]; exact vp_in_nI hx (by omega)
  show AW ML_law 10 LQ (1249, [(0, .inr (.inr (6, 0, 1))), (1, .inr (.inr (4, 0, 0))), (2, .inr (.inr (5, 0, 0))), (3, .inl (nI i))], [], τ)
  refine AW.run 5 [] (1254, [(0, .inr (.inr (6, 0, 1))), (1, .inr (.inr (4, 0, 0))), (2, .inr (.inr (5, 0, 0))), (3, .inl (nI i))], [.inl ((nI i) + 1), .inr (.inr (6, 0, 1)), .inr (.inr (4, 0, 0))], τ) [] rfl ?_ ?_
  · exact trivial
  rw [show nI i + 1 = nI (i + 1) from nI_add i 1]
  refine AW.run 1 [] (1255, [(0, .inr (.inr (6, 0, 1))), (1, .inr (.inr (4, 0, 0))), (2, .inr (.inr (5, 0, 0))), (3, .inl (nI i))], [.inl (τ 6 0 1 (nI (i + 1)).toNatClampNeg), .inr (.inr (4, 0, 0))], τ) [vp_in (nI (i + 1)) ((τ 6 0 0 0).toNatClampNeg)] rfl ?_ ?_
  · exact allP1 (by first | exact vin _ (by omega) | exact vin1 _ (by omega))
  refine AW.run 4 [] (1259, [(0, .inr (.inr (6, 0, 1))), (1, .inr (.inr (4, 0, 0))), (2, .inr (.inr (5, 0, 0))), (3, .inl (nI i))], [.inl ((nI i) + 2), .inr (.inr (6, 0, 1)), .inl (τ 6 0 1 (nI (i + 1)).toNatClampNeg), .inr (.inr (4, 0, 0))], τ) [] rfl ?_ ?_
  · exact trivial
  rw [show nI i + 2 = nI (i + 2) from nI_add i 2]
  refine AW.run 1 [] (1260, [(0, .inr (.inr (6, 0, 1))), (1, .inr (.inr (4, 0, 0))), (2, .inr (.inr (5, 0, 0))), (3, .inl (nI i))], [.inl (τ 6 0 1 (nI (i + 2)).toNatClampNeg), .inl (τ 6 0 1 (nI (i + 1)).toNatClampNeg), .inr (.inr (4, 0, 0))], τ) [vp_in (nI (i + 2)) ((τ 6 0 0 0).toNatClampNeg)] rfl ?_ ?_
  · exact allP1 (by first | exact vin _ (by omega) | exact vin1 _ (by omega))
  refine AW.run 4 [] (1264, [(0, .inr (.inr (6, 0, 1))), (1, .inr (.inr (4, 0, 0))), (2, .inr (.inr (5, 0, 0))), (3, .inl (nI i))], [.inl ((nI i) + 3), .inr (.inr (6, 0, 1)), .inl (τ 6 0 1 (nI (i + 2)).toNatClampNeg), .inl (τ 6 0 1 (nI (i + 1)).toNatClampNeg), .inr (.inr (4, 0, 0))], τ) [] rfl ?_ ?_
  · exact trivial
  rw [show nI i + 3 = nI (i + 3) from nI_add i 3]
  refine AW.run 1 [] (1265, [(0, .inr (.inr (6, 0, 1))), (1, .inr (.inr (4, 0, 0))), (2, .inr (.inr (5, 0, 0))), (3, .inl (nI i))], [.inl (τ 6 0 1 (nI (i + 3)).toNatClampNeg), .inl (τ 6 0 1 (nI (i + 2)).toNatClampNeg), .inl (τ 6 0 1 (nI (i + 1)).toNatClampNeg), .inr (.inr (4, 0, 0))], τ) [vp_in (nI (i + 3)) ((τ 6 0 0 0).toNatClampNeg)] rfl ?_ ?_
  · exact allP1 (by first | exact vin _ (by omega) | exact vin1 _ (by omega))
  refine AW.callVI (d' := 5) [.inl (τ 6 0 1 (nI (i + 1)).toNatClampNeg), .inl (τ 6 0 1 (nI (i + 2)).toNatClampNeg), .inl (τ 6 0 1 (nI (i + 3)).toNatClampNeg)] [] ⟨_, rfl⟩ f_5_lots v_5_lots l_9_175 ⟨rfl, by decide⟩ rfl (Nat.le_of_ble_eq_true rfl) rfl (Nat.le_of_ble_eq_true rfl) (c5_lots F τ hA hG.1 (τ 6 0 1 (nI (i + 1)).toNatClampNeg) (τ 6 0 1 (nI (i + 2)).toNatClampNeg) (τ 6 0 1 (nI (i + 3)).toNatClampNeg)) ?_
  rintro v1 σ1 ⟨F1, hr1, hA1, hX1⟩
  have vin1 : ∀ x, x < L → vp_in (nI x) (σ1 6 0 0 0).toNatClampNeg := fun x hx => by rw [hX1.2]; exact vin x hx
  refine AW.run 5 [] (1273, [(0, .inr (.inr (6, 0, 1))), (1, .inr (.inr (4, 0, 0))), (2, .inr (.inr (5, 0, 0))), (3, .inl (nI i))], [.inl ((nI i) + 1), .inr (.inr (6, 0, 1)), .inr (.inr (5, 0, 0)), .inl v1], σ1) [] rfl ?_ ?_
  · exact trivial
  rw [show nI i + 1 = nI (i + 1) from nI_add i 1]
  refine AW.run 1 [] (1274, [(0, .inr (.inr (6, 0, 1))), (1, .inr (.inr (4, 0, 0))), (2, .inr (.inr (5, 0, 0))), (3, .inl (nI i))], [.inl (σ1 6 0 1 (nI (i + 1)).toNatClampNeg), .inr (.inr (5, 0, 0)), .inl v1], σ1) [vp_in (nI (i + 1)) ((σ1 6 0 0 0).toNatClampNeg)] rfl ?_ ?_
  · exact allP1 (by first | exact vin _ (by omega) | exact vin1 _ (by omega))
  rw [hX1.2]
  refine AW.run 4 [] (1278, [(0, .inr (.inr (6, 0, 1))), (1, .inr (.inr (4, 0, 0))), (2, .inr (.inr (5, 0, 0))), (3, .inl (nI i))], [.inl ((nI i) + 2), .inr (.inr (6, 0, 1)), .inl (τ 6 0 1 (nI (i + 1)).toNatClampNeg), .inr (.inr (5, 0, 0)), .inl v1], σ1) [] rfl ?_ ?_
  · exact trivial
  rw [show nI i + 2 = nI (i + 2) from nI_add i 2]
  refine AW.run 1 [] (1279, [(0, .inr (.inr (6, 0, 1))), (1, .inr (.inr (4, 0, 0))), (2, .inr (.inr (5, 0, 0))), (3, .inl (nI i))], [.inl (σ1 6 0 1 (nI (i + 2)).toNatClampNeg), .inl (τ 6 0 1 (nI (i + 1)).toNatClampNeg), .inr (.inr (5, 0, 0)), .inl v1], σ1) [vp_in (nI (i + 2)) ((σ1 6 0 0 0).toNatClampNeg)] rfl ?_ ?_
  · exact allP1 (by first | exact vin _ (by omega) | exact vin1 _ (by omega))
  rw [hX1.2]
  refine AW.run 4 [] (1283, [(0, .inr (.inr (6, 0, 1))), (1, .inr (.inr (4, 0, 0))), (2, .inr (.inr (5, 0, 0))), (3, .inl (nI i))], [.inl ((nI i) + 3), .inr (.inr (6, 0, 1)), .inl (τ 6 0 1 (nI (i + 2)).toNatClampNeg), .inl (τ 6 0 1 (nI (i + 1)).toNatClampNeg), .inr (.inr (5, 0, 0)), .inl v1], σ1) [] rfl ?_ ?_
  · exact trivial
  rw [show nI i + 3 = nI (i + 3) from nI_add i 3]
  refine AW.run 1 [] (1284, [(0, .inr (.inr (6, 0, 1))), (1, .inr (.inr (4, 0, 0))), (2, .inr (.inr (5, 0, 0))), (3, .inl (nI i))], [.inl (σ1 6 0 1 (nI (i + 3)).toNatClampNeg), .inl (τ 6 0 1 (nI (i + 2)).toNatClampNeg), .inl (τ 6 0 1 (nI (i + 1)).toNatClampNeg), .inr (.inr (5, 0, 0)), .inl v1], σ1) [vp_in (nI (i + 3)) ((σ1 6 0 0 0).toNatClampNeg)] rfl ?_ ?_
  · exact allP1 (by first | exact vin _ (by omega) | exact vin1 _ (by omega))
  rw [hX1.2]
  refine AW.callVI (d' := 7) [.inl (τ 6 0 1 (nI (i + 1)).toNatClampNeg), .inl (τ 6 0 1 (nI (i + 2)).toNatClampNeg), .inl (τ 6 0 1 (nI (i + 3)).toNatClampNeg)] [.inl v1] ⟨_, rfl⟩ f_6_lots v_6_lots l_9_178 ⟨rfl, by decide⟩ rfl (Nat.le_of_ble_eq_true rfl) rfl (Nat.le_of_ble_eq_true rfl) (d6_lots F σ1 (RepD_oth hX1.1 hD) hG (τ 6 0 1 (nI (i + 1)).toNatClampNeg) (τ 6 0 1 (nI (i + 2)).toNatClampNeg) (τ 6 0 1 (nI (i + 3)).toNatClampNeg)) ?_
  rintro v2 σ2 ⟨F2, hr2, hD2, hT2⟩
  obtain ⟨rfl, rfl, hF1⟩ := pair_i hr1 hr2
  refine AW.run 1 [true] (1341, [(0, .inr (.inr (6, 0, 1))), (1, .inr (.inr (4, 0, 0))), (2, .inr (.inr (5, 0, 0))), (3, .inl (nI i))], [], σ2) [icP .eq v1 v1] rfl ?_ ?_
  · exact allP1 (rfl)
  exact hk _ _ (LInv_step h6 (by have hg9 := g_lots hG (τ 6 0 1 (nI (i + 1)).toNatClampNeg) (τ 6 0 1 (nI (i + 2)).toNatClampNeg) (τ 6 0 1 (nI (i + 3)).toNatClampNeg); rw [hF1] at hg9; exact hg9) hA1 hX1 hD2 hT2)
set_option maxHeartbeats 4000000 in
set_option maxRecDepth 100000 in
theorem law_image {σ τ : St} {F : Gv} {L i : Nat} (hL : L ≤ 2560) (hi : i + 5 ≤ L) (h0 : (τ 6 0 0 0).toNatClampNeg = L) (hV : LInv σ τ F) (hk : ∀ F1 σ2, LInv σ σ2 F1 → AW ML_law 10 LQ (1341, LLS i, [], σ2)) : AW ML_law 10 LQ (1292, LLS i, [], τ) := by
  obtain ⟨hA, hD, hG, h6⟩ := hV
  have vin : ∀ x, x < L → vp_in (nI x) (τ 6 0 0 0).toNatClampNeg := fun x hx => by rw [h0]; exact vp_in_nI hx (by omega)
  show AW ML_law 10 LQ (1292, [(0, .inr (.inr (6, 0, 1))), (1, .inr (.inr (4, 0, 0))), (2, .inr (.inr (5, 0, 0))), (3, .inl (nI i))], [], τ)
  refine AW.run 1 [] (1293, [(0, .inr (.inr (6, 0, 1))), (1, .inr (.inr (4, 0, 0))), (2, .inr (.inr (5, 0, 0))), (3, .inl (nI i))], [.inr (.inr (4, 0, 0))], τ) [] rfl ?_ ?_
  · exact trivial
  refine AW.callVI (d' := 2) [] [] ⟨_, rfl⟩ f_5_image v_5_image l_9_179 ⟨rfl, by decide⟩ rfl (Nat.le_of_ble_eq_true rfl) rfl (Nat.le_of_ble_eq_true rfl) (c5_image F τ hA hG.1) ?_
  rintro v1 σ1 ⟨F1, hr1, hA1, hX1⟩
  have vin1 : ∀ x, x < L → vp_in (nI x) (σ1 6 0 0 0).toNatClampNeg := fun x hx => by rw [hX1.2]; exact vin x hx
  refine AW.run 1 [] (1297, [(0, .inr (.inr (6, 0, 1))), (1, .inr (.inr (4, 0, 0))), (2, .inr (.inr (5, 0, 0))), (3, .inl (nI i))], [.inr (.inr (5, 0, 0)), .inl v1], σ1) [] rfl ?_ ?_
  · exact trivial
  refine AW.callVI (d' := 2) [] [.inl v1] ⟨_, rfl⟩ f_6_image v_6_image l_9_182 ⟨rfl, by decide⟩ rfl (Nat.le_of_ble_eq_true rfl) rfl (Nat.le_of_ble_eq_true rfl) (d6_image F σ1 (RepD_oth hX1.1 hD) hG) ?_
  rintro v2 σ2 ⟨F2, hr2, hD2, hT2⟩
  obtain ⟨rfl, rfl, hF1⟩ := pair_i hr1 hr2
  refine AW.run 1 [true] (1341, [(0, .inr (.inr (6, 0, 1))), (1, .inr (.inr (4, 0, 0))), (2, .inr (.inr (5, 0, 0))), (3, .inl (nI i))], [], σ2) [icP .eq v1 v1] rfl ?_ ?_
  · exact allP1 (rfl)
  exact hk _ _ (LInv_step h6 (by have hg9 := g_image hG; rw [hF1] at hg9; exact hg9) hA1 hX1 hD2 hT2)
set_option maxHeartbeats 4000000 in
set_option maxRecDepth 100000 in
theorem law_restore {σ τ : St} {F : Gv} {L i : Nat} (hL : L ≤ 2560) (hi : i + 5 ≤ L) (h0 : (τ 6 0 0 0).toNatClampNeg = L) (hV : LInv σ τ F) (hk : ∀ F1 σ2, LInv σ σ2 F1 → AW ML_law 10 LQ (1341, LLS i, [], σ2)) : AW ML_law 10 LQ (1305, LLS i, [], τ) := by
  obtain ⟨hA, hD, hG, h6⟩ := hV
  have vin : ∀ x, x < L → vp_in (nI x) (τ 6 0 0 0).toNatClampNeg := fun x hx => by rw [h0]; exact vp_in_nI hx (by omega)
  show AW ML_law 10 LQ (1305, [(0, .inr (.inr (6, 0, 1))), (1, .inr (.inr (4, 0, 0))), (2, .inr (.inr (5, 0, 0))), (3, .inl (nI i))], [], τ)
  refine AW.run 1 [] (1306, [(0, .inr (.inr (6, 0, 1))), (1, .inr (.inr (4, 0, 0))), (2, .inr (.inr (5, 0, 0))), (3, .inl (nI i))], [.inr (.inr (4, 0, 0))], τ) [] rfl ?_ ?_
  · exact trivial
  refine AW.callVI (d' := 2) [] [] ⟨_, rfl⟩ f_5_restore v_5_restore l_9_183 ⟨rfl, by decide⟩ rfl (Nat.le_of_ble_eq_true rfl) rfl (Nat.le_of_ble_eq_true rfl) (c5_restore F τ hA hG.1) ?_
  rintro v1 σ1 ⟨F1, hr1, hA1, hX1⟩
  have vin1 : ∀ x, x < L → vp_in (nI x) (σ1 6 0 0 0).toNatClampNeg := fun x hx => by rw [hX1.2]; exact vin x hx
  refine AW.run 1 [] (1310, [(0, .inr (.inr (6, 0, 1))), (1, .inr (.inr (4, 0, 0))), (2, .inr (.inr (5, 0, 0))), (3, .inl (nI i))], [.inr (.inr (5, 0, 0)), .inl v1], σ1) [] rfl ?_ ?_
  · exact trivial
  refine AW.callVI (d' := 3) [] [.inl v1] ⟨_, rfl⟩ f_6_restore v_6_restore l_9_186 ⟨rfl, by decide⟩ rfl (Nat.le_of_ble_eq_true rfl) rfl (Nat.le_of_ble_eq_true rfl) (d6_restore F σ1 (RepD_oth hX1.1 hD) hG) ?_
  rintro v2 σ2 ⟨F2, hr2, hD2, hT2⟩
  obtain ⟨rfl, rfl, hF1⟩ := pair_i hr1 hr2
  refine AW.run 1 [true] (1341, [(0, .inr (.inr (6, 0, 1))), (1, .inr (.inr (4, 0, 0))), (2, .inr (.inr (5, 0, 0))), (3, .inl (nI i))], [], σ2) [icP .eq v1 v1] rfl ?_ ?_
  · exact allP1 (rfl)
  exact hk _ _ (LInv_step h6 (by have hg9 := g_restore hG; rw [hF1] at hg9; exact hg9) hA1 hX1 hD2 hT2)
set_option maxHeartbeats 4000000 in
set_option maxRecDepth 100000 in
theorem law_count {σ τ : St} {F : Gv} {L i : Nat} (hL : L ≤ 2560) (hi : i + 5 ≤ L) (h0 : (τ 6 0 0 0).toNatClampNeg = L) (hV : LInv σ τ F) (hk : ∀ F1 σ2, LInv σ σ2 F1 → AW ML_law 10 LQ (1341, LLS i, [], σ2)) : AW ML_law 10 LQ (1318, LLS i, [], τ) := by
  obtain ⟨hA, hD, hG, h6⟩ := hV
  have vin : ∀ x, x < L → vp_in (nI x) (τ 6 0 0 0).toNatClampNeg := fun x hx => by rw [h0]; exact vp_in_nI hx (by omega)
  show AW ML_law 10 LQ (1318, [(0, .inr (.inr (6, 0, 1))), (1, .inr (.inr (4, 0, 0))), (2, .inr (.inr (5, 0, 0))), (3, .inl (nI i))], [], τ)
  refine AW.run 5 [] (1323, [(0, .inr (.inr (6, 0, 1))), (1, .inr (.inr (4, 0, 0))), (2, .inr (.inr (5, 0, 0))), (3, .inl (nI i))], [.inl ((nI i) + 1), .inr (.inr (6, 0, 1)), .inr (.inr (4, 0, 0))], τ) [] rfl ?_ ?_
  · exact trivial
  rw [show nI i + 1 = nI (i + 1) from nI_add i 1]
  refine AW.run 1 [] (1324, [(0, .inr (.inr (6, 0, 1))), (1, .inr (.inr (4, 0, 0))), (2, .inr (.inr (5, 0, 0))), (3, .inl (nI i))], [.inl (τ 6 0 1 (nI (i + 1)).toNatClampNeg), .inr (.inr (4, 0, 0))], τ) [vp_in (nI (i + 1)) ((τ 6 0 0 0).toNatClampNeg)] rfl ?_ ?_
  · exact allP1 (by first | exact vin _ (by omega) | exact vin1 _ (by omega))
  refine AW.callVI (d' := 3) [.inl (τ 6 0 1 (nI (i + 1)).toNatClampNeg)] [] ⟨_, rfl⟩ f_5_count v_5_count l_9_187 ⟨rfl, by decide⟩ rfl (Nat.le_of_ble_eq_true rfl) rfl (Nat.le_of_ble_eq_true rfl) (c5_count F τ hA hG.1 (τ 6 0 1 (nI (i + 1)).toNatClampNeg)) ?_
  rintro v1 σ1 ⟨F1, hr1, hA1, hX1⟩
  have vin1 : ∀ x, x < L → vp_in (nI x) (σ1 6 0 0 0).toNatClampNeg := fun x hx => by rw [hX1.2]; exact vin x hx
  refine AW.run 5 [] (1332, [(0, .inr (.inr (6, 0, 1))), (1, .inr (.inr (4, 0, 0))), (2, .inr (.inr (5, 0, 0))), (3, .inl (nI i))], [.inl ((nI i) + 1), .inr (.inr (6, 0, 1)), .inr (.inr (5, 0, 0)), .inl v1], σ1) [] rfl ?_ ?_
  · exact trivial
  rw [show nI i + 1 = nI (i + 1) from nI_add i 1]
  refine AW.run 1 [] (1333, [(0, .inr (.inr (6, 0, 1))), (1, .inr (.inr (4, 0, 0))), (2, .inr (.inr (5, 0, 0))), (3, .inl (nI i))], [.inl (σ1 6 0 1 (nI (i + 1)).toNatClampNeg), .inr (.inr (5, 0, 0)), .inl v1], σ1) [vp_in (nI (i + 1)) ((σ1 6 0 0 0).toNatClampNeg)] rfl ?_ ?_
  · exact allP1 (by first | exact vin _ (by omega) | exact vin1 _ (by omega))
  rw [hX1.2]
  refine AW.callVI (d' := 2) [.inl (τ 6 0 1 (nI (i + 1)).toNatClampNeg)] [.inl v1] ⟨_, rfl⟩ f_6_count v_6_count l_9_190 ⟨rfl, by decide⟩ rfl (Nat.le_of_ble_eq_true rfl) rfl (Nat.le_of_ble_eq_true rfl) (d6_count F σ1 (RepD_oth hX1.1 hD) hG (τ 6 0 1 (nI (i + 1)).toNatClampNeg)) ?_
  rintro v2 σ2 ⟨F2, hr2, hD2, hT2⟩
  obtain ⟨rfl, rfl, hF1⟩ := pair_i hr1 hr2
  refine AW.run 1 [true] (1341, [(0, .inr (.inr (6, 0, 1))), (1, .inr (.inr (4, 0, 0))), (2, .inr (.inr (5, 0, 0))), (3, .inl (nI i))], [], σ2) [icP .eq v1 v1] rfl ?_ ?_
  · exact allP1 (rfl)
  exact hk _ _ (LInv_step h6 (by have hg9 := g_count hG (τ 6 0 1 (nI (i + 1)).toNatClampNeg); rw [hF1] at hg9; exact hg9) hA1 hX1 hD2 hT2)
theorem cmp5 {L i : Nat} (hL : L ≤ 2560) (hi : i ≤ 2600) : nI L - 5 < nI i ↔ L < i + 5 := by
  rw [Int32.lt_iff_toInt_lt, Int32.toInt_sub, show nI L = Int32.ofNat L from rfl, show nI i = Int32.ofNat i from rfl, Int32.toInt_ofNat_of_lt (by omega), Int32.toInt_ofNat_of_lt (by omega), show (5 : Int32).toInt = 5 by decide, Int.bmod_eq_of_le (by omega) (by omega)]
  omega
set_option maxHeartbeats 4000000 in
set_option maxRecDepth 100000 in
theorem law_loop {σ : St} {F : Gv} {L : Nat} (hL : L ≤ 2560) (h0 : σ 6 0 0 0 = nI L) (hA : RepA σ F) (hD : RepD σ F) (hG : GOK F) : AW ML_law 10 LQ (18, LLS 0, [], σ) := by
  refine AW.wloop (α := Nat × Gv) 18 (fun y => LLS y.1) (fun y τ => y.1 ≤ L + 5 ∧ LInv σ τ y.2) (fun y => L + 6 - y.1) ?_ (0, F) σ ⟨Nat.zero_le _, hA, hD, hG, rfl⟩
  intro y τ hI hk
  obtain ⟨hle, hV⟩ := hI
  obtain ⟨i, F1⟩ := y
  have hle : i ≤ L + 5 := hle
  have hV : LInv σ τ F1 := hV
  have h60 : (τ 6 0 0 0).toNatClampNeg = L := by rw [hV.2.2.2, h0, nI_clamp (by omega)]
  have hk9 : ∀ F2 σ2, i + 5 ≤ L → LInv σ σ2 F2 → AW ML_law 10 LQ (18, LLS (i + 5), [], σ2) := fun F2 σ2 h5 h => hk (i + 5, F2) σ2 (by show L + 6 - (i + 5) < L + 6 - i; omega) ⟨by show i + 5 ≤ L + 5; omega, h⟩
  show AW ML_law 10 LQ (18, [(0, .inr (.inr (6, 0, 1))), (1, .inr (.inr (4, 0, 0))), (2, .inr (.inr (5, 0, 0))), (3, .inl (nI i))], [], τ)
  by_cases hi : i + 5 ≤ L
  · have vin : ∀ x, x < L → vp_in (nI x) (τ 6 0 0 0).toNatClampNeg := fun x hx => by rw [h60]; exact vp_in_nI hx (by omega)
    refine AW.run 3 [] (21, [(0, .inr (.inr (6, 0, 1))), (1, .inr (.inr (4, 0, 0))), (2, .inr (.inr (5, 0, 0))), (3, .inl (nI i))], [.inl (Int32.ofNat (τ 6 0 0 0).toNatClampNeg), .inl (nI i)], τ) [] rfl ?_ ?_
    · exact trivial
    rw [h60]
    refine AW.run 8 [false] (32, [(0, .inr (.inr (6, 0, 1))), (1, .inr (.inr (4, 0, 0))), (2, .inr (.inr (5, 0, 0))), (3, .inl (nI i))], [.inl ((τ 6 0 1 (nI i).toNatClampNeg) &&& 63)], τ) [¬ icP .gt (nI i) ((nI L) - 5), vp_in (nI i) ((τ 6 0 0 0).toNatClampNeg)] rfl ?_ ?_
    · exact ⟨(fun q => absurd ((cmp5 hL (by omega)).mp q) (by omega)), allP1 (by exact vin _ (by omega))⟩
    obtain ⟨x9, ex9⟩ : ∃ x9, x9 = (τ 6 0 1 (nI i).toNatClampNeg) &&& 63 := ⟨_, rfl⟩
    rw [← ex9]
    clear ex9
    have hend : ∀ F2 σ2, LInv σ σ2 F2 → AW ML_law 10 LQ (1341, LLS i, [], σ2) := fun F2 σ2 hV2 => by
      show AW ML_law 10 LQ (1341, [(0, .inr (.inr (6, 0, 1))), (1, .inr (.inr (4, 0, 0))), (2, .inr (.inr (5, 0, 0))), (3, .inl (nI i))], [], σ2)
      refine AW.run 2 [] (18, [(3, .inl ((nI i) + 5)), (0, .inr (.inr (6, 0, 1))), (1, .inr (.inr (4, 0, 0))), (2, .inr (.inr (5, 0, 0)))], [], σ2) [] rfl ?_ ?_
      · exact trivial
      rw [show nI i + 5 = nI (i + 5) from nI_add i 5]
      refine AW.pick [1, 2, 3, 0] (ls' := [(0, .inr (.inr (6, 0, 1))), (1, .inr (.inr (4, 0, 0))), (2, .inr (.inr (5, 0, 0))), (3, .inl (nI (i + 5)))]) rfl ?_
      exact hk9 F2 σ2 hi hV2
    by_cases h32_1 : (x9 : Int32) = 0
    · skip
      refine AW.tswIn (k := 0) (tgt := 220) ⟨_, rfl⟩ (by rw [h32_1]; decide) (by decide) rfl (by decide) ?_
      exact law_feed hL hi h60 hV hend
    by_cases h32_2 : (x9 : Int32) = 1
    · skip
      refine AW.tswIn (k := 1) (tgt := 243) ⟨_, rfl⟩ (by rw [h32_2]; decide) (by decide) rfl (by decide) ?_
      exact law_cellar hL hi h60 hV hend
    by_cases h32_3 : (x9 : Int32) = 2
    · skip
      refine AW.tswIn (k := 2) (tgt := 256) ⟨_, rfl⟩ (by rw [h32_3]; decide) (by decide) rfl (by decide) ?_
      exact law_bottleOf hL hi h60 hV hend
    by_cases h32_4 : (x9 : Int32) = 3
    · skip
      refine AW.tswIn (k := 3) (tgt := 289) ⟨_, rfl⟩ (by rw [h32_4]; decide) (by decide) rfl (by decide) ?_
      exact law_at hL hi h60 hV hend
    by_cases h32_5 : (x9 : Int32) = 4
    · skip
      refine AW.tswIn (k := 4) (tgt := 312) ⟨_, rfl⟩ (by rw [h32_5]; decide) (by decide) rfl (by decide) ?_
      exact law_bottle hL hi h60 hV hend
    by_cases h32_6 : (x9 : Int32) = 5
    · skip
      refine AW.tswIn (k := 5) (tgt := 355) ⟨_, rfl⟩ (by rw [h32_6]; decide) (by decide) rfl (by decide) ?_
      exact law_feeds hL hi h60 hV hend
    by_cases h32_7 : (x9 : Int32) = 6
    · skip
      refine AW.tswIn (k := 6) (tgt := 388) ⟨_, rfl⟩ (by rw [h32_7]; decide) (by decide) rfl (by decide) ?_
      exact law_outs hL hi h60 hV hend
    by_cases h32_8 : (x9 : Int32) = 7
    · skip
      refine AW.tswIn (k := 7) (tgt := 411) ⟨_, rfl⟩ (by rw [h32_8]; decide) (by decide) rfl (by decide) ?_
      exact law_towels hL hi h60 hV hend
    by_cases h32_9 : (x9 : Int32) = 8
    · skip
      refine AW.tswIn (k := 8) (tgt := 434) ⟨_, rfl⟩ (by rw [h32_9]; decide) (by decide) rfl (by decide) ?_
      exact law_days hL hi h60 hV hend
    by_cases h32_10 : (x9 : Int32) = 9
    · skip
      refine AW.tswIn (k := 9) (tgt := 457) ⟨_, rfl⟩ (by rw [h32_10]; decide) (by decide) rfl (by decide) ?_
      exact law_back hL hi h60 hV hend
    by_cases h32_11 : (x9 : Int32) = 10
    · skip
      refine AW.tswIn (k := 10) (tgt := 470) ⟨_, rfl⟩ (by rw [h32_11]; decide) (by decide) rfl (by decide) ?_
      exact law_pressIn hL hi h60 hV hend
    by_cases h32_12 : (x9 : Int32) = 11
    · skip
      refine AW.tswIn (k := 11) (tgt := 503) ⟨_, rfl⟩ (by rw [h32_12]; decide) (by decide) rfl (by decide) ?_
      exact law_then hL hi h60 hV hend
    by_cases h32_13 : (x9 : Int32) = 12
    · skip
      refine AW.tswIn (k := 12) (tgt := 536) ⟨_, rfl⟩ (by rw [h32_13]; decide) (by decide) rfl (by decide) ?_
      exact law_goes hL hi h60 hV hend
    by_cases h32_14 : (x9 : Int32) = 13
    · skip
      refine AW.tswIn (k := 13) (tgt := 559) ⟨_, rfl⟩ (by rw [h32_14]; decide) (by decide) rfl (by decide) ?_
      exact law_quiet hL hi h60 hV hend
    by_cases h32_15 : (x9 : Int32) = 14
    · skip
      refine AW.tswIn (k := 14) (tgt := 572) ⟨_, rfl⟩ (by rw [h32_15]; decide) (by decide) rfl (by decide) ?_
      exact law_takes hL hi h60 hV hend
    by_cases h32_16 : (x9 : Int32) = 15
    · skip
      refine AW.tswIn (k := 15) (tgt := 595) ⟨_, rfl⟩ (by rw [h32_16]; decide) (by decide) rfl (by decide) ?_
      exact law_worst hL hi h60 hV hend
    by_cases h32_17 : (x9 : Int32) = 16
    · skip
      refine AW.tswIn (k := 16) (tgt := 618) ⟨_, rfl⟩ (by rw [h32_17]; decide) (by decide) rfl (by decide) ?_
      exact law_safe hL hi h60 hV hend
    by_cases h32_18 : (x9 : Int32) = 17
    · skip
      refine AW.tswIn (k := 17) (tgt := 651) ⟨_, rfl⟩ (by rw [h32_18]; decide) (by decide) rfl (by decide) ?_
      exact law_towel hL hi h60 hV hend
    by_cases h32_19 : (x9 : Int32) = 18
    · skip
      refine AW.tswIn (k := 18) (tgt := 674) ⟨_, rfl⟩ (by rw [h32_19]; decide) (by decide) rfl (by decide) ?_
      exact law_spoon hL hi h60 hV hend
    by_cases h32_20 : (x9 : Int32) = 19
    · skip
      refine AW.tswIn (k := 19) (tgt := 707) ⟨_, rfl⟩ (by rw [h32_20]; decide) (by decide) rfl (by decide) ?_
      exact law_out hL hi h60 hV hend
    by_cases h32_21 : (x9 : Int32) = 20
    · skip
      refine AW.tswIn (k := 20) (tgt := 730) ⟨_, rfl⟩ (by rw [h32_21]; decide) (by decide) rfl (by decide) ?_
      exact law_ready hL hi h60 hV hend
    by_cases h32_22 : (x9 : Int32) = 21
    · skip
      refine AW.tswIn (k := 21) (tgt := 773) ⟨_, rfl⟩ (by rw [h32_22]; decide) (by decide) rfl (by decide) ?_
      exact law_feedFor hL hi h60 hV hend
    by_cases h32_23 : (x9 : Int32) = 22
    · skip
      refine AW.tswIn (k := 22) (tgt := 806) ⟨_, rfl⟩ (by rw [h32_23]; decide) (by decide) rfl (by decide) ?_
      exact law_move hL hi h60 hV hend
    by_cases h32_24 : (x9 : Int32) = 23
    · skip
      refine AW.tswIn (k := 23) (tgt := 829) ⟨_, rfl⟩ (by rw [h32_24]; decide) (by decide) rfl (by decide) ?_
      exact law_halved hL hi h60 hV hend
    by_cases h32_25 : (x9 : Int32) = 24
    · skip
      refine AW.tswIn (k := 24) (tgt := 842) ⟨_, rfl⟩ (by rw [h32_25]; decide) (by decide) rfl (by decide) ?_
      exact law_whoWent hL hi h60 hV hend
    by_cases h32_26 : (x9 : Int32) = 25
    · skip
      refine AW.tswIn (k := 25) (tgt := 855) ⟨_, rfl⟩ (by rw [h32_26]; decide) (by decide) rfl (by decide) ?_
      exact law_whatKind hL hi h60 hV hend
    by_cases h32_27 : (x9 : Int32) = 26
    · skip
      refine AW.tswIn (k := 26) (tgt := 888) ⟨_, rfl⟩ (by rw [h32_27]; decide) (by decide) rfl (by decide) ?_
      exact law_two hL hi h60 hV hend
    by_cases h32_28 : (x9 : Int32) = 27
    · skip
      refine AW.tswIn (k := 27) (tgt := 931) ⟨_, rfl⟩ (by rw [h32_28]; decide) (by decide) rfl (by decide) ?_
      exact law_thunders hL hi h60 hV hend
    by_cases h32_29 : (x9 : Int32) = 28
    · skip
      refine AW.tswIn (k := 28) (tgt := 985) ⟨_, rfl⟩ (by rw [h32_29]; decide) (by decide) rfl (by decide) ?_
      exact law_shares hL hi h60 hV hend
    by_cases h32_30 : (x9 : Int32) = 29
    · skip
      refine AW.tswIn (k := 29) (tgt := 1018) ⟨_, rfl⟩ (by rw [h32_30]; decide) (by decide) rfl (by decide) ?_
      exact law_tightest hL hi h60 hV hend
    by_cases h32_31 : (x9 : Int32) = 30
    · skip
      refine AW.tswIn (k := 30) (tgt := 1041) ⟨_, rfl⟩ (by rw [h32_31]; decide) (by decide) rfl (by decide) ?_
      exact law_near hL hi h60 hV hend
    by_cases h32_32 : (x9 : Int32) = 31
    · skip
      refine AW.tswIn (k := 31) (tgt := 1064) ⟨_, rfl⟩ (by rw [h32_32]; decide) (by decide) rfl (by decide) ?_
      exact law_mean hL hi h60 hV hend
    by_cases h32_33 : (x9 : Int32) = 32
    · skip
      refine AW.tswIn (k := 32) (tgt := 1088) ⟨_, rfl⟩ (by rw [h32_33]; decide) (by decide) rfl (by decide) ?_
      exact law_spare hL hi h60 hV hend
    by_cases h32_34 : (x9 : Int32) = 33
    · skip
      refine AW.tswIn (k := 33) (tgt := 1111) ⟨_, rfl⟩ (by rw [h32_34]; decide) (by decide) rfl (by decide) ?_
      exact law_pairs hL hi h60 hV hend
    by_cases h32_35 : (x9 : Int32) = 34
    · skip
      refine AW.tswIn (k := 34) (tgt := 1134) ⟨_, rfl⟩ (by rw [h32_35]; decide) (by decide) rfl (by decide) ?_
      exact law_eased hL hi h60 hV hend
    by_cases h32_36 : (x9 : Int32) = 35
    · skip
      refine AW.tswIn (k := 35) (tgt := 1177) ⟨_, rfl⟩ (by rw [h32_36]; decide) (by decide) rfl (by decide) ?_
      exact law_officers hL hi h60 hV hend
    by_cases h32_37 : (x9 : Int32) = 36
    · skip
      refine AW.tswIn (k := 36) (tgt := 1200) ⟨_, rfl⟩ (by rw [h32_37]; decide) (by decide) rfl (by decide) ?_
      exact law_row hL hi h60 hV hend
    by_cases h32_38 : (x9 : Int32) = 37
    · skip
      refine AW.tswIn (k := 37) (tgt := 1223) ⟨_, rfl⟩ (by rw [h32_38]; decide) (by decide) rfl (by decide) ?_
      exact law_judge hL hi h60 hV hend
    by_cases h32_39 : (x9 : Int32) = 38
    · skip
      refine AW.tswIn (k := 38) (tgt := 1236) ⟨_, rfl⟩ (by rw [h32_39]; decide) (by decide) rfl (by decide) ?_
      exact law_clear hL hi h60 hV hend
    by_cases h32_40 : (x9 : Int32) = 39
    · skip
      refine AW.tswIn (k := 39) (tgt := 1249) ⟨_, rfl⟩ (by rw [h32_40]; decide) (by decide) rfl (by decide) ?_
      exact law_lots hL hi h60 hV hend
    by_cases h32_41 : (x9 : Int32) = 40
    · skip
      refine AW.tswIn (k := 40) (tgt := 1292) ⟨_, rfl⟩ (by rw [h32_41]; decide) (by decide) rfl (by decide) ?_
      exact law_image hL hi h60 hV hend
    by_cases h32_42 : (x9 : Int32) = 41
    · skip
      refine AW.tswIn (k := 41) (tgt := 1305) ⟨_, rfl⟩ (by rw [h32_42]; decide) (by decide) rfl (by decide) ?_
      exact law_restore hL hi h60 hV hend
    by_cases h32_43 : (x9 : Int32) = 42
    · skip
      refine AW.tswIn (k := 42) (tgt := 1318) ⟨_, rfl⟩ (by rw [h32_43]; decide) (by decide) rfl (by decide) ?_
      exact law_count hL hi h60 hV hend
    have eh32_1 := lv_neT (a := 0) h32_1 rfl
    have eh32_2 := lv_neT (a := 1) h32_2 rfl
    have eh32_3 := lv_neT (a := 2) h32_3 rfl
    have eh32_4 := lv_neT (a := 3) h32_4 rfl
    have eh32_5 := lv_neT (a := 4) h32_5 rfl
    have eh32_6 := lv_neT (a := 5) h32_6 rfl
    have eh32_7 := lv_neT (a := 6) h32_7 rfl
    have eh32_8 := lv_neT (a := 7) h32_8 rfl
    have eh32_9 := lv_neT (a := 8) h32_9 rfl
    have eh32_10 := lv_neT (a := 9) h32_10 rfl
    have eh32_11 := lv_neT (a := 10) h32_11 rfl
    have eh32_12 := lv_neT (a := 11) h32_12 rfl
    have eh32_13 := lv_neT (a := 12) h32_13 rfl
    have eh32_14 := lv_neT (a := 13) h32_14 rfl
    have eh32_15 := lv_neT (a := 14) h32_15 rfl
    have eh32_16 := lv_neT (a := 15) h32_16 rfl
    have eh32_17 := lv_neT (a := 16) h32_17 rfl
    have eh32_18 := lv_neT (a := 17) h32_18 rfl
    have eh32_19 := lv_neT (a := 18) h32_19 rfl
    have eh32_20 := lv_neT (a := 19) h32_20 rfl
    have eh32_21 := lv_neT (a := 20) h32_21 rfl
    have eh32_22 := lv_neT (a := 21) h32_22 rfl
    have eh32_23 := lv_neT (a := 22) h32_23 rfl
    have eh32_24 := lv_neT (a := 23) h32_24 rfl
    have eh32_25 := lv_neT (a := 24) h32_25 rfl
    have eh32_26 := lv_neT (a := 25) h32_26 rfl
    have eh32_27 := lv_neT (a := 26) h32_27 rfl
    have eh32_28 := lv_neT (a := 27) h32_28 rfl
    have eh32_29 := lv_neT (a := 28) h32_29 rfl
    have eh32_30 := lv_neT (a := 29) h32_30 rfl
    have eh32_31 := lv_neT (a := 30) h32_31 rfl
    have eh32_32 := lv_neT (a := 31) h32_32 rfl
    have eh32_33 := lv_neT (a := 32) h32_33 rfl
    have eh32_34 := lv_neT (a := 33) h32_34 rfl
    have eh32_35 := lv_neT (a := 34) h32_35 rfl
    have eh32_36 := lv_neT (a := 35) h32_36 rfl
    have eh32_37 := lv_neT (a := 36) h32_37 rfl
    have eh32_38 := lv_neT (a := 37) h32_38 rfl
    have eh32_39 := lv_neT (a := 38) h32_39 rfl
    have eh32_40 := lv_neT (a := 39) h32_40 rfl
    have eh32_41 := lv_neT (a := 40) h32_41 rfl
    have eh32_42 := lv_neT (a := 41) h32_42 rfl
    have eh32_43 := lv_neT (a := 42) h32_43 rfl
    refine AW.tswOut (tgt := 1341) ⟨_, rfl⟩ (by omega) (by decide) ?_
    exact hend F1 τ hV
  · skip
    refine AW.run 3 [] (21, [(0, .inr (.inr (6, 0, 1))), (1, .inr (.inr (4, 0, 0))), (2, .inr (.inr (5, 0, 0))), (3, .inl (nI i))], [.inl (Int32.ofNat (τ 6 0 0 0).toNatClampNeg), .inl (nI i)], τ) [] rfl ?_ ?_
    · exact trivial
    rw [h60]
    refine AW.run 4 [true] (1348, [(0, .inr (.inr (6, 0, 1))), (1, .inr (.inr (4, 0, 0))), (2, .inr (.inr (5, 0, 0))), (3, .inl (nI i))], [.inl 1], τ) [icP .gt (nI i) ((nI L) - 5)] rfl ?_ ?_
    · exact allP1 ((cmp5 hL (by omega)).mpr (by omega))
    refine AW.retz ⟨_, rfl⟩ rfl (by decide) ?_
    rfl
