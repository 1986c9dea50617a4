/-! FACTS OF THE TABLES -/
set_option maxRecDepth 100000 in
theorem domL_nodup : domL.Nodup := by decide +kernel
set_option maxRecDepth 100000 in
theorem domL_ref : ∀ r ∈ domL, r.2.2 = 0 → ∀ k < 27, ∀ q ∈ (refF r.1 r.2.1 k).toList, q ∈ domL := by decide +kernel
theorem domL_shelf {i : Nat} (h : i < 12) {j : Nat} (hj : j < 8) : (2, i, j) ∈ domL := by
  refine List.mem_append_right _ (List.mem_flatMap.mpr ⟨i, List.mem_range.mpr h, ?_⟩)
  have : j = 0 ∨ j = 1 ∨ j = 2 ∨ j = 3 ∨ j = 4 ∨ j = 5 ∨ j = 6 ∨ j = 7 := by omega
  rcases this with rfl | rfl | rfl | rfl | rfl | rfl | rfl | rfl <;> simp [domS]
set_option maxRecDepth 100000 in
theorem domL_zero : ∀ r ∈ domL, r.2.2 = 0 → r.1 < 6 := by decide +kernel
set_option maxRecDepth 100000 in
theorem domL_six : ∀ r ∈ domL, r.1 < 6 := by decide +kernel
set_option maxRecDepth 100000 in
theorem domL_arr : ∀ r ∈ domL, (r.1 = 1 ∧ r.2.2 = 1) → alen r.1 r.2.2 = none := by decide +kernel
def fldW (e : Nat × Nat × Nat × Nat × Nat) : Cond := match e.2.2.2.2 with
  | 0 => .fieldLink (ownName e.1) e.2.1 (((gCl.getD e.2.2.1 (RX1, TX1, 3)).2.1 e.2.2.2.1).1) (((gCl.getD e.2.2.1 (RX1, TX1, 3)).2.1 e.2.2.2.1).2.1) (((gCl.getD e.2.2.1 (RX1, TX1, 3)).2.1 e.2.2.2.1).2.2.1)
  | _ => .fieldLinkNest (ownName e.1) e.2.1 (((gCl.getD e.2.2.1 (RX1, TX1, 3)).2.1 e.2.2.2.1).1) (((gCl.getD e.2.2.1 (RX1, TX1, 3)).2.1 e.2.2.2.1).2.1) (((gCl.getD e.2.2.1 (RX1, TX1, 3)).2.1 e.2.2.2.1).2.2.1) "GingerArmy"
set_option maxRecDepth 100000 in
theorem fldL_ok : (fldL.zip fldP).all (fun q => decide (lw_tbl[q.2]? = some (fldW q.1) ∧ q.1.2.2.1 < 6 ∧ q.1.2.2.2.1 < nF q.1.2.2.1 ∧ (q.1.2.2.2.2 = 0 ∨ q.1.2.2.2.2 = 1)) && (goodWord (fldW q.1) || gNest (fldW q.1))) = true := by decide +kernel
theorem zip_mem {α β : Type} {a : α} : ∀ {l : List α} {l2 : List β}, a ∈ l → l.length ≤ l2.length → ∃ b, (a, b) ∈ l.zip l2
  | [], _, h, _ => absurd h List.not_mem_nil
  | x :: l, [], _, h => absurd h (by simp)
  | x :: l, y :: l2, h, hl => by
    rcases List.mem_cons.mp h with rfl | h
    · exact ⟨y, by simp⟩
    · obtain ⟨b, hb⟩ := zip_mem h (Nat.le_of_succ_le_succ hl)
      exact ⟨b, by simp [hb]⟩
theorem fldL_in {o i n1 n2 n3 : Nat} (h : (o, i, n1, n2, n3) ∈ fldL) : n1 < 6 ∧ n2 < nF n1 ∧ ((n3 = 0 ∧ Cond.fieldLink (ownName o) i (((gCl.getD n1 (RX1, TX1, 3)).2.1 n2).1) (((gCl.getD n1 (RX1, TX1, 3)).2.1 n2).2.1) (((gCl.getD n1 (RX1, TX1, 3)).2.1 n2).2.2.1) ∈ gT) ∨ (n3 = 1 ∧ Cond.fieldLinkNest (ownName o) i (((gCl.getD n1 (RX1, TX1, 3)).2.1 n2).1) (((gCl.getD n1 (RX1, TX1, 3)).2.1 n2).2.1) (((gCl.getD n1 (RX1, TX1, 3)).2.1 n2).2.2.1) "GingerArmy" ∈ gN)) := by
  obtain ⟨b, hb⟩ := zip_mem (l2 := fldP) h (by decide)
  have h1 := List.all_eq_true.mp fldL_ok _ hb
  simp only [Bool.and_eq_true, decide_eq_true_eq] at h1
  obtain ⟨⟨h1, h2, h3, h4⟩, h5⟩ := h1
  refine ⟨h2, h3, ?_⟩
  rcases h4 with h4 | h4
  · cases h4
    refine Or.inl ⟨rfl, List.mem_filter.mpr ⟨List.mem_of_getElem? h1, ?_⟩⟩
    rcases Bool.or_eq_true _ _ |>.mp h5 with h | h
    · exact h
    · cases h
  · cases h4
    exact Or.inr ⟨rfl, List.mem_filter.mpr ⟨List.mem_of_getElem? h1, rfl⟩⟩
set_option maxRecDepth 100000 in
theorem cstL_ok : (cstL.zip cstP).all (fun q => decide (lw_tbl[q.2]? = some (Cond.constant (ownName q.1.1) q.1.2.1 q.1.2.2))) = true := by decide +kernel
set_option maxRecDepth 100000 in
theorem cs2L_ok : (cs2L.zip cs2P).all (fun q => decide (lw_tbl[q.2]? = some (Cond.constantLong (ownName q.1.1) q.1.2.1 (Int64.ofNat q.1.2.2)))) = true := by decide +kernel
theorem cstL_in {o i : Nat} {v : Int32} (h : (o, i, v) ∈ cstL) : Cond.constant (ownName o) i v ∈ gT := by
  obtain ⟨b, hb⟩ := zip_mem (l2 := cstP) h (by decide)
  have h1 := List.all_eq_true.mp cstL_ok _ hb
  exact gT_in b (of_decide_eq_true h1) rfl
theorem cs2L_in {o i n : Nat} (h : (o, i, n) ∈ cs2L) : Cond.constantLong (ownName o) i (Int64.ofNat n) ∈ gT := by
  obtain ⟨b, hb⟩ := zip_mem (l2 := cs2P) h (by decide)
  have h1 := List.all_eq_true.mp cs2L_ok _ hb
  exact gT_in b (of_decide_eq_true h1) rfl
-- the classes own words
set_option maxRecDepth 100000 in
theorem gCl_ws : ∀ q ∈ gCl, ∀ w ∈ u_ws q.1 q.2.1 q.2.2, w ∈ gT := by
  have h : gCl.all (fun q => (u_ws q.1 q.2.1 q.2.2).all (fun w => decide (w ∈ lw_tbl) && goodWord w)) = true := by decide +kernel
  intro q hq w hw
  have h1 := List.all_eq_true.mp (List.all_eq_true.mp h q hq) w hw
  simp only [Bool.and_eq_true, decide_eq_true_eq] at h1
  exact List.mem_filter.mpr h1
theorem gCl_at {n : Nat} (h : n < 6) : gCl[n]? = some (gCl.getD n (RX1, TX1, 3)) := by
  have : n = 0 ∨ n = 1 ∨ n = 2 ∨ n = 3 ∨ n = 4 ∨ n = 5 := by omega
  rcases this with rfl | rfl | rfl | rfl | rfl | rfl <;> rfl
set_option maxRecDepth 100000 in
theorem gCl_nF : ∀ n < 6, (gCl.getD n (RX1, TX1, 3)).2.2 = nF n := by decide +kernel
set_option maxRecDepth 100000 in
theorem gCl_nm : ∀ n < 6, ∀ a, a < nF n → ∀ b, b < nF n → a ≠ b → ((gCl.getD n (RX1, TX1, 3)).2.1 a).2.1 ≠ ((gCl.getD n (RX1, TX1, 3)).2.1 b).2.1 := by decide +kernel
def gTy (n k : Nat) : FieldType := match n with
  | 0 => tyX1 k | 1 => tyX2 k | 2 => tyX3 k | 3 => tyX4 k | 4 => tyX5 k | _ => tyX6 k
set_option maxRecDepth 100000 in
theorem gCl_ty : ∀ n < 6, ∀ k, k < nF n → parseFieldDescriptor ((gCl.getD n (RX1, TX1, 3)).2.1 k).2.2.1 = some (gTy n k) := by decide +kernel
set_option maxRecDepth 100000 in
theorem gCl_kind : ∀ n < 6, ∀ k, k < nF n → (fkind n k = 1 → ((gCl.getD n (RX1, TX1, 3)).2.1 k).2.2.2 = false ∧ gTy n k = .int ∧ refF n 0 k = none) ∧ (fkind n k = 2 → ((gCl.getD n (RX1, TX1, 3)).2.1 k).2.2.2 = false ∧ gTy n k = .boolean ∧ refF n 0 k = none) := by decide +kernel
theorem refF_none {n i k : Nat} (h : refF n 0 k = none) : refF n i k = none := by
  unfold refF at h ⊢
  split <;> simp_all
  split <;> simp_all
