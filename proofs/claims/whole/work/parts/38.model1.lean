/-! THE MODEL BY THE SAME NUMBERS -/
def P1 (j k : Nat) : Prop := (2 ≤ j ∧ j ≤ 7) ∨ (j = 0 ∧ 7 ≤ k ∧ k ≤ 10)
def P2 (j k : Nat) : Prop := P1 j k ∨ (j = 0 ∧ (k = 20 ∨ k = 21)) ∨ (j = 19 ∧ 104 ≤ k ∧ k < 156)
/-- of the model alone, and there only what P says, may have changed -/
def Fr (P : Nat → Nat → Prop) (σ σ' : St) : Prop := ∀ c i j k, ¬ (c = 5 ∧ i = 0 ∧ P j k) → σ' c i j k = σ c i j k
theorem fr_rfl {P : Nat → Nat → Prop} {σ : St} : Fr P σ σ := fun _ _ _ _ _ => rfl
theorem fr_trans {P : Nat → Nat → Prop} {σ τ υ : St} (h : Fr P σ τ) (h2 : Fr P τ υ) : Fr P σ υ := fun c i j k hn => (h2 c i j k hn).trans (h c i j k hn)
theorem fr_set {P : Nat → Nat → Prop} {σ τ : St} {j k : Nat} {v : Int32} (h : Fr P σ τ) (hp : P j k) : Fr P σ (setM τ 5 0 j k v) := fun c i j' k' hn => by
  have : ¬ (c = 5 ∧ i = 0 ∧ j' = j ∧ k' = k) := fun q => hn ⟨q.1, q.2.1, by rw [q.2.2.1, q.2.2.2]; exact hp⟩
  show setM τ 5 0 j k v c i j' k' = _
  unfold setM
  rw [if_neg this]
  exact h c i j' k' hn
theorem fr_12 {σ τ : St} (h : Fr P1 σ τ) : Fr P2 σ τ := fun c i j k hn => h c i j k (fun q => hn ⟨q.1, q.2.1, Or.inl q.2.2⟩)
theorem fr_at {P : Nat → Nat → Prop} {σ τ : St} (h : Fr P σ τ) {j k : Nat} (hn : ¬ P j k) : τ 5 0 j k = σ 5 0 j k := h 5 0 j k (fun q => hn q.2.2)
theorem p1_q {j k : Nat} (h : 2 ≤ j) (h2 : j ≤ 7) : P1 j k := Or.inl ⟨h, h2⟩
theorem p1_f {k : Nat} (h : 7 ≤ k) (h2 : k ≤ 10) : P1 0 k := Or.inr ⟨rfl, h, h2⟩
def RepM (m : Nat → Nat → Int32) (S : Sv) : Prop :=
  (m 0 7 = nI (Sn S) ∧ m 0 8 = nI (Su S) ∧ m 0 9 = nI (She S) ∧ m 0 10 = nI (Sd S)) ∧ ∀ i, i < Sn S → m 2 i = nI (Sk S i) ∧ m 3 i = nI (Sf S i) ∧ m 4 i = nI (Sp S i) ∧ m 5 i = nI (Sq S i) ∧ m 6 i = (if Sw S i = true then 0 else 1) ∧ m 7 i = (if Stw S i = true then 1 else 0)
theorem repM_p {S : Sv} {σ : St} {k q : Nat} (hR : RepM (σ 5 0) S) : RepM (setM σ 5 0 4 k (nI q) 5 0) (withP S (fu (Sp S) k q)) := by
  refine ⟨⟨by rw [setM_at, if_neg (by omega)]; exact hR.1.1, by rw [setM_at, if_neg (by omega)]; exact hR.1.2.1, by rw [setM_at, if_neg (by omega)]; exact hR.1.2.2.1, by rw [setM_at, if_neg (by omega)]; exact hR.1.2.2.2⟩, fun i hi => ?_⟩
  obtain ⟨h1, h2, h3, h4, h5, h6⟩ := hR.2 i hi
  refine ⟨by rw [setM_at, if_neg (by omega)]; exact h1, by rw [setM_at, if_neg (by omega)]; exact h2, ?_, by rw [setM_at, if_neg (by omega)]; exact h4, by rw [setM_at, if_neg (by omega)]; exact h5, by rw [setM_at, if_neg (by omega)]; exact h6⟩
  show _ = nI (fu (Sp S) k q i)
  rw [setM_at]
  by_cases h : i = k
  · rw [if_pos ⟨rfl, h⟩, h, fu_eq]
  · rw [if_neg (fun q => h q.2), fu_ne _ _ h]; exact h3
theorem repM_q {S : Sv} {σ : St} {k q : Nat} (hR : RepM (σ 5 0) S) : RepM (setM σ 5 0 5 k (nI q) 5 0) (withQ S (fu (Sq S) k q)) := by
  refine ⟨⟨by rw [setM_at, if_neg (by omega)]; exact hR.1.1, by rw [setM_at, if_neg (by omega)]; exact hR.1.2.1, by rw [setM_at, if_neg (by omega)]; exact hR.1.2.2.1, by rw [setM_at, if_neg (by omega)]; exact hR.1.2.2.2⟩, fun i hi => ?_⟩
  obtain ⟨h1, h2, h3, h4, h5, h6⟩ := hR.2 i hi
  refine ⟨by rw [setM_at, if_neg (by omega)]; exact h1, by rw [setM_at, if_neg (by omega)]; exact h2, by rw [setM_at, if_neg (by omega)]; exact h3, ?_, by rw [setM_at, if_neg (by omega)]; exact h5, by rw [setM_at, if_neg (by omega)]; exact h6⟩
  show _ = nI (fu (Sq S) k q i)
  rw [setM_at]
  by_cases h : i = k
  · rw [if_pos ⟨rfl, h⟩, h, fu_eq]
  · rw [if_neg (fun q => h q.2), fu_ne _ _ h]; exact h4
theorem repM_w {S : Sv} {σ : St} {k : Nat} {b : Bool} (hR : RepM (σ 5 0) S) : RepM (setM σ 5 0 6 k (if b = true then 0 else 1) 5 0) (withW S (fu (Sw S) k b)) := by
  refine ⟨⟨by rw [setM_at, if_neg (by omega)]; exact hR.1.1, by rw [setM_at, if_neg (by omega)]; exact hR.1.2.1, by rw [setM_at, if_neg (by omega)]; exact hR.1.2.2.1, by rw [setM_at, if_neg (by omega)]; exact hR.1.2.2.2⟩, fun i hi => ?_⟩
  obtain ⟨h1, h2, h3, h4, h5, h6⟩ := hR.2 i hi
  refine ⟨by rw [setM_at, if_neg (by omega)]; exact h1, by rw [setM_at, if_neg (by omega)]; exact h2, by rw [setM_at, if_neg (by omega)]; exact h3, by rw [setM_at, if_neg (by omega)]; exact h4, ?_, by rw [setM_at, if_neg (by omega)]; exact h6⟩
  show _ = if fu (Sw S) k b i = true then 0 else 1
  rw [setM_at]
  by_cases h : i = k
  · rw [if_pos ⟨rfl, h⟩, h, fu_eq]
  · rw [if_neg (fun q => h q.2), fu_ne _ _ h]; exact h5
theorem repM_t {S : Sv} {σ : St} {k : Nat} {b : Bool} (hR : RepM (σ 5 0) S) : RepM (setM σ 5 0 7 k (if b = true then 1 else 0) 5 0) (withT S (fu (Stw S) k b)) := by
  refine ⟨⟨by rw [setM_at, if_neg (by omega)]; exact hR.1.1, by rw [setM_at, if_neg (by omega)]; exact hR.1.2.1, by rw [setM_at, if_neg (by omega)]; exact hR.1.2.2.1, by rw [setM_at, if_neg (by omega)]; exact hR.1.2.2.2⟩, fun i hi => ?_⟩
  obtain ⟨h1, h2, h3, h4, h5, h6⟩ := hR.2 i hi
  refine ⟨by rw [setM_at, if_neg (by omega)]; exact h1, by rw [setM_at, if_neg (by omega)]; exact h2, by rw [setM_at, if_neg (by omega)]; exact h3, by rw [setM_at, if_neg (by omega)]; exact h4, by rw [setM_at, if_neg (by omega)]; exact h5, ?_⟩
  show _ = if fu (Stw S) k b i = true then 1 else 0
  rw [setM_at]
  by_cases h : i = k
  · rw [if_pos ⟨rfl, h⟩, h, fu_eq]
  · rw [if_neg (fun q => h q.2), fu_ne _ _ h]; exact h6
theorem repM_k {S : Sv} {σ : St} {k q : Nat} (hR : RepM (σ 5 0) S) : RepM (setM σ 5 0 2 k (nI q) 5 0) (withK S (fu (Sk S) k q) (Sf S)) := by
  refine ⟨⟨by rw [setM_at, if_neg (by omega)]; exact hR.1.1, by rw [setM_at, if_neg (by omega)]; exact hR.1.2.1, by rw [setM_at, if_neg (by omega)]; exact hR.1.2.2.1, by rw [setM_at, if_neg (by omega)]; exact hR.1.2.2.2⟩, fun i hi => ?_⟩
  obtain ⟨h1, h2, h3, h4, h5, h6⟩ := hR.2 i hi
  refine ⟨?_, by rw [setM_at, if_neg (by omega)]; exact h2, by rw [setM_at, if_neg (by omega)]; exact h3, by rw [setM_at, if_neg (by omega)]; exact h4, by rw [setM_at, if_neg (by omega)]; exact h5, by rw [setM_at, if_neg (by omega)]; exact h6⟩
  show _ = nI (fu (Sk S) k q i)
  rw [setM_at]
  by_cases h : i = k
  · rw [if_pos ⟨rfl, h⟩, h, fu_eq]
  · rw [if_neg (fun q => h q.2), fu_ne _ _ h]; exact h1
theorem repM_f {S : Sv} {σ : St} {k q : Nat} (hR : RepM (σ 5 0) S) : RepM (setM σ 5 0 3 k (nI q) 5 0) (withK S (Sk S) (fu (Sf S) k q)) := by
  refine ⟨⟨by rw [setM_at, if_neg (by omega)]; exact hR.1.1, by rw [setM_at, if_neg (by omega)]; exact hR.1.2.1, by rw [setM_at, if_neg (by omega)]; exact hR.1.2.2.1, by rw [setM_at, if_neg (by omega)]; exact hR.1.2.2.2⟩, fun i hi => ?_⟩
  obtain ⟨h1, h2, h3, h4, h5, h6⟩ := hR.2 i hi
  refine ⟨by rw [setM_at, if_neg (by omega)]; exact h1, ?_, by rw [setM_at, if_neg (by omega)]; exact h3, by rw [setM_at, if_neg (by omega)]; exact h4, by rw [setM_at, if_neg (by omega)]; exact h5, by rw [setM_at, if_neg (by omega)]; exact h6⟩
  show _ = nI (fu (Sf S) k q i)
  rw [setM_at]
  by_cases h : i = k
  · rw [if_pos ⟨rfl, h⟩, h, fu_eq]
  · rw [if_neg (fun q => h q.2), fu_ne _ _ h]; exact h2
theorem repM_s {S : Sv} {σ : St} {u : Nat} (hR : RepM (σ 5 0) S) : RepM (setM σ 5 0 0 8 (nI u) 5 0) (withU S u (She S)) :=
  ⟨⟨by rw [setM_at, if_neg (by omega)]; exact hR.1.1, (by rw [setM_at, if_pos ⟨rfl, rfl⟩]; rfl), by rw [setM_at, if_neg (by omega)]; exact hR.1.2.2.1, by rw [setM_at, if_neg (by omega)]; exact hR.1.2.2.2⟩, fun i hi => by
    obtain ⟨h1, h2, h3, h4, h5, h6⟩ := hR.2 i hi
    exact ⟨by rw [setM_at, if_neg (by omega)]; exact h1, by rw [setM_at, if_neg (by omega)]; exact h2, by rw [setM_at, if_neg (by omega)]; exact h3, by rw [setM_at, if_neg (by omega)]; exact h4, by rw [setM_at, if_neg (by omega)]; exact h5, by rw [setM_at, if_neg (by omega)]; exact h6⟩⟩
theorem repM_h {S : Sv} {σ : St} {u : Nat} (hR : RepM (σ 5 0) S) : RepM (setM σ 5 0 0 9 (nI u) 5 0) (withU S (Su S) u) :=
  ⟨⟨by rw [setM_at, if_neg (by omega)]; exact hR.1.1, by rw [setM_at, if_neg (by omega)]; exact hR.1.2.1, (by rw [setM_at, if_pos ⟨rfl, rfl⟩]; rfl), by rw [setM_at, if_neg (by omega)]; exact hR.1.2.2.2⟩, fun i hi => by
    obtain ⟨h1, h2, h3, h4, h5, h6⟩ := hR.2 i hi
    exact ⟨by rw [setM_at, if_neg (by omega)]; exact h1, by rw [setM_at, if_neg (by omega)]; exact h2, by rw [setM_at, if_neg (by omega)]; exact h3, by rw [setM_at, if_neg (by omega)]; exact h4, by rw [setM_at, if_neg (by omega)]; exact h5, by rw [setM_at, if_neg (by omega)]; exact h6⟩⟩
theorem repM_d {S : Sv} {σ : St} {u : Nat} (hR : RepM (σ 5 0) S) : RepM (setM σ 5 0 0 10 (nI u) 5 0) (withD S u) :=
  ⟨⟨by rw [setM_at, if_neg (by omega)]; exact hR.1.1, by rw [setM_at, if_neg (by omega)]; exact hR.1.2.1, by rw [setM_at, if_neg (by omega)]; exact hR.1.2.2.1, (by rw [setM_at, if_pos ⟨rfl, rfl⟩]; rfl)⟩, fun i hi => by
    obtain ⟨h1, h2, h3, h4, h5, h6⟩ := hR.2 i hi
    exact ⟨by rw [setM_at, if_neg (by omega)]; exact h1, by rw [setM_at, if_neg (by omega)]; exact h2, by rw [setM_at, if_neg (by omega)]; exact h3, by rw [setM_at, if_neg (by omega)]; exact h4, by rw [setM_at, if_neg (by omega)]; exact h5, by rw [setM_at, if_neg (by omega)]; exact h6⟩⟩
theorem repM_fr {P : Nat → Nat → Prop} {σ τ : St} {S : Sv} (h : Fr P σ τ) (hp : ∀ j k, P j k → ¬ ((2 ≤ j ∧ j ≤ 7) ∨ (j = 0 ∧ 7 ≤ k ∧ k ≤ 10))) (hR : RepM (σ 5 0) S) : RepM (τ 5 0) S := by
  have e : ∀ j k, ((2 ≤ j ∧ j ≤ 7) ∨ (j = 0 ∧ 7 ≤ k ∧ k ≤ 10)) → τ 5 0 j k = σ 5 0 j k := fun j k hj => fr_at h (fun q => hp j k q hj)
  refine ⟨⟨by rw [e 0 7 (by omega)]; exact hR.1.1, by rw [e 0 8 (by omega)]; exact hR.1.2.1, by rw [e 0 9 (by omega)]; exact hR.1.2.2.1, by rw [e 0 10 (by omega)]; exact hR.1.2.2.2⟩, fun i hi => ?_⟩
  obtain ⟨h1, h2, h3, h4, h5, h6⟩ := hR.2 i hi
  exact ⟨by rw [e 2 i (by omega)]; exact h1, by rw [e 3 i (by omega)]; exact h2, by rw [e 4 i (by omega)]; exact h3, by rw [e 5 i (by omega)]; exact h4, by rw [e 6 i (by omega)]; exact h5, by rw [e 7 i (by omega)]; exact h6⟩

set_option maxHeartbeats 4000000 in
set_option maxRecDepth 100000 in
theorem c6_isIn1 (x a b : Int32) (h1 : a ≤ x) (h2 : x ≤ b) (σ : St) : Ct M6_isIn 0 [.inl x, .inl a, .inl b] σ (PI fun r9 σ' => (1 : Int32) = r9 ∧ σ = σ') := by
  refine Ct.of f_6_isIn (Nat.le_of_ble_eq_true rfl) ?_
  show AW M6_isIn 0 _ (0, [(0, .inl x), (1, .inl a), (2, .inl b)], [], σ)
  refine AW.run 8 [false, false] (15, [(0, .inl x), (1, .inl a), (2, .inl b)], [.inl 1], σ) [¬ icP .lt x a, ¬ icP .gt x b] rfl ?_ ?_
  · exact ⟨(Int32.not_lt.mpr h1), allP1 (Int32.not_lt.mpr h2)⟩
  refine AW.retz ⟨_, rfl⟩ rfl (by decide) ?_
  exact ⟨rfl, rfl⟩
set_option maxHeartbeats 4000000 in
set_option maxRecDepth 100000 in
theorem c6_isIn0 (x a b : Int32) (h1 : x < a ∨ b < x) (σ : St) : Ct M6_isIn 0 [.inl x, .inl a, .inl b] σ (PI fun r9 σ' => (0 : Int32) = r9 ∧ σ = σ') := by
  refine Ct.of f_6_isIn (Nat.le_of_ble_eq_true rfl) ?_
  show AW M6_isIn 0 _ (0, [(0, .inl x), (1, .inl a), (2, .inl b)], [], σ)
  by_cases h2 : x < a
  · skip
    refine AW.run 4 [true] (15, [(0, .inl x), (1, .inl a), (2, .inl b)], [.inl 0], σ) [icP .lt x a] rfl ?_ ?_
    · exact allP1 (h2)
    refine AW.retz ⟨_, rfl⟩ rfl (by decide) ?_
    exact ⟨rfl, rfl⟩
  · skip
    refine AW.run 7 [false, true] (15, [(0, .inl x), (1, .inl a), (2, .inl b)], [.inl 0], σ) [¬ icP .lt x a, icP .gt x b] rfl ?_ ?_
    · exact ⟨(h2), allP1 (h1.resolve_left h2)⟩
    refine AW.retz ⟨_, rfl⟩ rfl (by decide) ?_
    exact ⟨rfl, rfl⟩
set_option maxHeartbeats 4000000 in
set_option maxRecDepth 100000 in
theorem c6_bound4 (x a b : Int32) (h : x < a) (σ : St) : Ct M6_bound 0 [.inl x, .inl a, .inl b] σ (PI fun r9 σ' => (-4 : Int32) = r9 ∧ σ = σ') := by
  refine Ct.of f_6_bound (Nat.le_of_ble_eq_true rfl) ?_
  show AW M6_bound 0 _ (0, [(0, .inl x), (1, .inl a), (2, .inl b)], [], σ)
  refine AW.run 5 [false] (21, [(0, .inl x), (1, .inl a), (2, .inl b)], [.inl (-4)], σ) [¬ icP .ge x a] rfl ?_ ?_
  · exact allP1 (Int32.not_le.mpr h)
  refine AW.reti ⟨_, rfl⟩ rfl ?_
  exact ⟨rfl, rfl⟩
set_option maxHeartbeats 4000000 in
set_option maxRecDepth 100000 in
theorem c6_notDays4 (x : Int32) (h : x < 0) (σ : St) : Ct M6_notDays 1 [.inl x] σ (PI fun r9 σ' => (-4 : Int32) = r9 ∧ σ = σ') := by
  refine Ct.of f_6_notDays (Nat.le_of_ble_eq_true rfl) ?_
  show AW M6_notDays 1 _ (0, [(0, .inl x)], [], σ)
  refine AW.run 3 [] (4, [(0, .inl x)], [.inl 60, .inl 0, .inl x], σ) [] rfl ?_ ?_
  · exact trivial
  refine AW.callSI (d' := 0) [.inl x, .inl 0, .inl 60] [] ⟨_, rfl⟩ f_6_bound s_6_bound l_6_62 rfl (Nat.le_of_ble_eq_true rfl) rfl (Nat.le_of_ble_eq_true rfl) (c6_bound4 x 0 60 h σ) ?_
  rintro _ _ ⟨rfl, rfl⟩
  refine AW.reti ⟨_, rfl⟩ rfl ?_
  exact ⟨rfl, rfl⟩
set_option maxHeartbeats 4000000 in
set_option maxRecDepth 100000 in
theorem c6_bound6 (x a b : Int32) (h0 : ¬ x < a) (h : b < x) (σ : St) : Ct M6_bound 0 [.inl x, .inl a, .inl b] σ (PI fun r9 σ' => (-6 : Int32) = r9 ∧ σ = σ') := by
  refine Ct.of f_6_bound (Nat.le_of_ble_eq_true rfl) ?_
  show AW M6_bound 0 _ (0, [(0, .inl x), (1, .inl a), (2, .inl b)], [], σ)
  refine AW.run 8 [true, false] (21, [(0, .inl x), (1, .inl a), (2, .inl b)], [.inl (-6)], σ) [icP .ge x a, ¬ icP .le x b] rfl ?_ ?_
  · exact ⟨(Int32.not_lt.mp h0), allP1 (Int32.not_le.mpr h)⟩
  refine AW.reti ⟨_, rfl⟩ rfl ?_
  exact ⟨rfl, rfl⟩
set_option maxHeartbeats 4000000 in
set_option maxRecDepth 100000 in
theorem c6_notDays6 (x : Int32) (h0 : ¬ x < 0) (h : 60 < x) (σ : St) : Ct M6_notDays 1 [.inl x] σ (PI fun r9 σ' => (-6 : Int32) = r9 ∧ σ = σ') := by
  refine Ct.of f_6_notDays (Nat.le_of_ble_eq_true rfl) ?_
  show AW M6_notDays 1 _ (0, [(0, .inl x)], [], σ)
  refine AW.run 3 [] (4, [(0, .inl x)], [.inl 60, .inl 0, .inl x], σ) [] rfl ?_ ?_
  · exact trivial
  refine AW.callSI (d' := 0) [.inl x, .inl 0, .inl 60] [] ⟨_, rfl⟩ f_6_bound s_6_bound l_6_62 rfl (Nat.le_of_ble_eq_true rfl) rfl (Nat.le_of_ble_eq_true rfl) (c6_bound6 x 0 60 h0 h σ) ?_
  rintro _ _ ⟨rfl, rfl⟩
  refine AW.reti ⟨_, rfl⟩ rfl ?_
  exact ⟨rfl, rfl⟩
set_option maxHeartbeats 4000000 in
set_option maxRecDepth 100000 in
theorem c6_bound0 (x a b : Int32) (h0 : ¬ x < a) (h : ¬ b < x) (σ : St) : Ct M6_bound 0 [.inl x, .inl a, .inl b] σ (PI fun r9 σ' => (0 : Int32) = r9 ∧ σ = σ') := by
  refine Ct.of f_6_bound (Nat.le_of_ble_eq_true rfl) ?_
  show AW M6_bound 0 _ (0, [(0, .inl x), (1, .inl a), (2, .inl b)], [], σ)
  refine AW.run 7 [true, true] (21, [(0, .inl x), (1, .inl a), (2, .inl b)], [.inl 0], σ) [icP .ge x a, icP .le x b] rfl ?_ ?_
  · exact ⟨(Int32.not_lt.mp h0), allP1 (Int32.not_lt.mp h)⟩
  refine AW.reti ⟨_, rfl⟩ rfl ?_
  exact ⟨rfl, rfl⟩
set_option maxHeartbeats 4000000 in
set_option maxRecDepth 100000 in
theorem c6_notDays0 (x : Int32) (h0 : ¬ x < 0) (h : ¬ 60 < x) (σ : St) : Ct M6_notDays 1 [.inl x] σ (PI fun r9 σ' => (0 : Int32) = r9 ∧ σ = σ') := by
  refine Ct.of f_6_notDays (Nat.le_of_ble_eq_true rfl) ?_
  show AW M6_notDays 1 _ (0, [(0, .inl x)], [], σ)
  refine AW.run 3 [] (4, [(0, .inl x)], [.inl 60, .inl 0, .inl x], σ) [] rfl ?_ ?_
  · exact trivial
  refine AW.callSI (d' := 0) [.inl x, .inl 0, .inl 60] [] ⟨_, rfl⟩ f_6_bound s_6_bound l_6_62 rfl (Nat.le_of_ble_eq_true rfl) rfl (Nat.le_of_ble_eq_true rfl) (c6_bound0 x 0 60 h0 h σ) ?_
  rintro _ _ ⟨rfl, rfl⟩
  refine AW.reti ⟨_, rfl⟩ rfl ?_
  exact ⟨rfl, rfl⟩
set_option maxHeartbeats 4000000 in
set_option maxRecDepth 100000 in
theorem c6_within (q : Nat) (hq : q < 2 ^ 31) (σ : St) : Ct M6_within 0 [.inl (nI q)] σ (PI fun r9 σ' => nI (min 99 q) = r9 ∧ σ = σ') := by
  refine Ct.of f_6_within (Nat.le_of_ble_eq_true rfl) ?_
  show AW M6_within 0 _ (0, [(0, .inl (nI q))], [], σ)
  have hp := nI_pos (n := q) hq
  by_cases h : q ≤ 99
  · rw [Nat.min_eq_right h]
    refine AW.run 6 [true, true] (20, [(0, .inl (nI q))], [.inl (nI q)], σ) [icP .ge (nI q) 0, icP .le (nI q) 99] rfl ?_ ?_
    · exact ⟨(nI_pos' hq), allP1 (nI_le (b := 99) h (by decide))⟩
    refine AW.reti ⟨_, rfl⟩ rfl ?_
    exact ⟨rfl, rfl⟩
  · rw [Nat.min_eq_left (by omega)]
    refine AW.run 7 [true, false] (20, [(0, .inl (nI q))], [.inl 99], σ) [icP .ge (nI q) 0, ¬ icP .le (nI q) 99] rfl ?_ ?_
    · exact ⟨(nI_pos' hq), allP1 (nle_lit (b := 99) (by omega) hq)⟩
    refine AW.reti ⟨_, rfl⟩ rfl ?_
    exact ⟨rfl, rfl⟩
def szI (x : Int32) : Int32 := if x < 0 then -x else x
set_option maxHeartbeats 4000000 in
set_option maxRecDepth 100000 in
theorem c6_size (x : Int32) (σ : St) : Ct M6_size 0 [.inl x] σ (PI fun r9 σ' => szI x = r9 ∧ σ = σ') := by
  refine Ct.of f_6_size (Nat.le_of_ble_eq_true rfl) ?_
  show AW M6_size 0 _ (0, [(0, .inl x)], [], σ)
  by_cases h1_1 : (0 : Int32) ≤ x
  · skip
    refine AW.run 3 [true] (10, [(0, .inl x)], [.inl x], σ) [icP .ge x 0] rfl ?_ ?_
    · exact allP1 (h1_1)
    refine AW.reti ⟨_, rfl⟩ rfl ?_
    exact ⟨by unfold szI; first | rw [if_pos (Int32.not_le.mp (by assumption))] | rw [if_neg (Int32.not_lt.mpr (by assumption))], rfl⟩
  · skip
    refine AW.run 5 [false] (10, [(0, .inl x)], [.inl (-x)], σ) [¬ icP .ge x 0] rfl ?_ ?_
    · exact allP1 (h1_1)
    refine AW.reti ⟨_, rfl⟩ rfl ?_
    exact ⟨by unfold szI; first | rw [if_pos (Int32.not_le.mp (by assumption))] | rw [if_neg (Int32.not_lt.mpr (by assumption))], rfl⟩
set_option maxHeartbeats 4000000 in
set_option maxRecDepth 100000 in
theorem c6_has (x k : Int32) (σ : St) : Ct M6_has 0 [.inl x, .inl k] σ (PI fun r9 σ' => (if (x >>> (k &&& 31)) &&& 1 = 1 then 1 else 0) = r9 ∧ σ = σ') := by
  refine Ct.of f_6_has (Nat.le_of_ble_eq_true rfl) ?_
  show AW M6_has 0 _ (0, [(0, .inl x), (1, .inl k)], [], σ)
  by_cases h6_1 : ((x >>> (k &&& 31)) &&& 1 : Int32) = 1
  · skip
    refine AW.run 9 [false] (14, [(0, .inl x), (1, .inl k)], [.inl 1], σ) [¬ icP .ne ((x >>> (k &&& 31)) &&& 1) 1] rfl ?_ ?_
    · exact allP1 ((fun q => q h6_1))
    refine AW.retz ⟨_, rfl⟩ rfl (by decide) ?_
    exact ⟨by first | rw [if_pos (by assumption)] | rw [if_neg (by assumption)], rfl⟩
  · skip
    refine AW.run 8 [true] (14, [(0, .inl x), (1, .inl k)], [.inl 0], σ) [icP .ne ((x >>> (k &&& 31)) &&& 1) 1] rfl ?_ ?_
    · exact allP1 (h6_1)
    refine AW.retz ⟨_, rfl⟩ rfl (by decide) ?_
    exact ⟨by first | rw [if_pos (by assumption)] | rw [if_neg (by assumption)], rfl⟩
def btV (x : Int32) : Nat → Int32
  | 0 => 0
  | k + 1 => btV x k + ((x >>> (nI k &&& 31)) &&& 1)
set_option maxRecDepth 100000 in
theorem b8_btV : ∀ f0 f1 f2 f3 f4 f5 f6 f7 : Bool, btV (nI (b8 f0 f1 f2 f3 f4 f5 f6 f7)) 31 = nI (c8 f0 f1 f2 f3 f4 f5 f6 f7) := by decide +kernel
theorem btV_bI (f : Nat → Bool) : btV (bI f) 31 = nI (cN f) := b8_btV _ _ _ _ _ _ _ _
set_option maxHeartbeats 4000000 in
set_option maxRecDepth 100000 in
theorem c6_bits (x : Int32) (σ : St) : Ct M6_bits 0 [.inl x] σ (PI fun r9 σ' => btV x 31 = r9 ∧ σ = σ') := by
  refine Ct.of f_6_bits (Nat.le_of_ble_eq_true rfl) ?_
  show AW M6_bits 0 _ (0, [(0, .inl x)], [], σ)
  refine AW.run 4 [] (4, [(2, .inl 0), (1, .inl 0), (0, .inl x)], [], σ) [] rfl ?_ ?_
  · exact trivial
  refine AW.pick [2, 1, 0] (ls' := [(0, .inl x), (1, .inl (btV x 0)), (2, .inl (nI 0))]) rfl ?_
  refine AW.loop (α := Unit) 4 31 (fun i _ => [(0, .inl x), (1, .inl (btV x i)), (2, .inl (nI i))]) (fun i _ τ => σ = τ) ?_ ?_ 31 0 () _ (by omega) rfl
  · intro i _ τ hi hI hk
    subst hI
    refine AW.run 13 [false] (4, [(2, .inl ((nI i) + 1)), (1, .inl ((btV x i) + ((x >>> ((nI i) &&& 31)) &&& 1))), (0, .inl x)], [], σ) [¬ icP .ge (nI i) 31] rfl ?_ ?_
    · exact allP1 (nle_lit (a := 31) hi (by decide))
    rw [nI_1 i]
    refine AW.pick [2, 1, 0] (ls' := [(0, .inl x), (1, .inl (btV x (i + 1))), (2, .inl (nI (i + 1)))]) rfl ?_
    exact hk () _ rfl
  · intro _ τ hI
    subst hI
    refine AW.run 4 [true] (25, [(0, .inl x), (1, .inl (btV x 31)), (2, .inl (nI 31))], [.inl (btV x 31)], σ) [icP .ge (nI 31) 31] rfl ?_ ?_
    · exact allP1 (le_lit (a := 31) (b := 31) (by decide) (by decide))
    refine AW.reti ⟨_, rfl⟩ rfl ?_
    exact ⟨rfl, rfl⟩
set_option maxHeartbeats 4000000 in
set_option maxRecDepth 100000 in
theorem c6_isPlace1 (p : Nat) (hp : p < 15) (σ : St) : Ct M6_isPlace 0 [.inl (nI p)] σ (PI fun r9 σ' => (1 : Int32) = r9 ∧ σ = σ') := by
  refine Ct.of f_6_isPlace (Nat.le_of_ble_eq_true rfl) ?_
  show AW M6_isPlace 0 _ (0, [(0, .inl (nI p))], [], σ)
  refine AW.run 7 [false, false] (15, [(0, .inl (nI p))], [.inl 1], σ) [¬ icP .lt (nI p) 0, ¬ icP .ge (nI p) 15] rfl ?_ ?_
  · exact ⟨(nlt0 (by omega)), allP1 (nle_lit (a := 15) hp (by decide))⟩
  refine AW.retz ⟨_, rfl⟩ rfl (by decide) ?_
  exact ⟨rfl, rfl⟩
set_option maxHeartbeats 4000000 in
set_option maxRecDepth 100000 in
theorem c6_isPlace0 (x : Int32) (h : ∀ k, k < 15 → x ≠ nI k) (σ : St) : Ct M6_isPlace 0 [.inl x] σ (PI fun r9 σ' => (0 : Int32) = r9 ∧ σ = σ') := by
  refine Ct.of f_6_isPlace (Nat.le_of_ble_eq_true rfl) ?_
  show AW M6_isPlace 0 _ (0, [(0, .inl x)], [], σ)
  by_cases hz : x < 0
  · skip
    refine AW.run 3 [true] (15, [(0, .inl x)], [.inl 0], σ) [icP .lt x 0] rfl ?_ ?_
    · exact allP1 (hz)
    refine AW.retz ⟨_, rfl⟩ rfl (by decide) ?_
    exact ⟨rfl, rfl⟩
  · skip
    refine AW.run 6 [false, true] (15, [(0, .inl x)], [.inl 0], σ) [¬ icP .lt x 0, icP .ge x 15] rfl ?_ ?_
    · exact ⟨(hz), allP1 (bot_out (by decide) h hz)⟩
    refine AW.retz ⟨_, rfl⟩ rfl (by decide) ?_
    exact ⟨rfl, rfl⟩
set_option maxHeartbeats 4000000 in
set_option maxRecDepth 100000 in
theorem c6_isBottle1 (n : Nat) (σ : St) (e7 : σ 5 0 0 7 = nI n) (hn : n ≤ 8) (k : Nat) (hk : k < n) : Ct M6_isBottle 0 [.inr (.inr (5, 0, 0)), .inl (nI k)] σ (PI fun r9 σ' => (1 : Int32) = r9 ∧ σ = σ') := by
  refine Ct.of f_6_isBottle (Nat.le_of_ble_eq_true rfl) ?_
  show AW M6_isBottle 0 _ (0, [(0, .inr (.inr (5, 0, 0))), (1, .inl (nI k))], [], σ)
  refine AW.run 8 [false, false] (17, [(0, .inr (.inr (5, 0, 0))), (1, .inl (nI k))], [.inl 1], σ) [¬ icP .lt (nI k) 0, ¬ icP .ge (nI k) (σ 5 0 0 7)] rfl ?_ ?_
  · exact ⟨(nlt0 (by omega)), allP1 (by rw [e7]; exact nle_lit hk (by omega))⟩
  refine AW.retz ⟨_, rfl⟩ rfl (by decide) ?_
  exact ⟨rfl, rfl⟩
set_option maxHeartbeats 4000000 in
set_option maxRecDepth 100000 in
theorem c6_isBottle0 (n : Nat) (σ : St) (e7 : σ 5 0 0 7 = nI n) (hn : n ≤ 8) (x : Int32) (h : ∀ k, k < n → x ≠ nI k) : Ct M6_isBottle 0 [.inr (.inr (5, 0, 0)), .inl x] σ (PI fun r9 σ' => (0 : Int32) = r9 ∧ σ = σ') := by
  refine Ct.of f_6_isBottle (Nat.le_of_ble_eq_true rfl) ?_
  show AW M6_isBottle 0 _ (0, [(0, .inr (.inr (5, 0, 0))), (1, .inl x)], [], σ)
  by_cases hz : x < 0
  · skip
    refine AW.run 3 [true] (17, [(0, .inr (.inr (5, 0, 0))), (1, .inl x)], [.inl 0], σ) [icP .lt x 0] rfl ?_ ?_
    · exact allP1 (hz)
    refine AW.retz ⟨_, rfl⟩ rfl (by decide) ?_
    exact ⟨rfl, rfl⟩
  · skip
    refine AW.run 7 [false, true] (17, [(0, .inr (.inr (5, 0, 0))), (1, .inl x)], [.inl 0], σ) [¬ icP .lt x 0, icP .ge x (σ 5 0 0 7)] rfl ?_ ?_
    · exact ⟨(hz), allP1 (by rw [e7]; exact bot_out (by omega) h hz)⟩
    refine AW.retz ⟨_, rfl⟩ rfl (by decide) ?_
    exact ⟨rfl, rfl⟩
set_option maxHeartbeats 4000000 in
set_option maxRecDepth 100000 in
theorem c6_isWhole (S : Sv) (σ : St) (hR : RepM (σ 5 0) S) (hn : Sn S ≤ 8) (k : Nat) (hk : k < Sn S) : Ct M6_isWhole 0 [.inr (.inr (5, 0, 0)), .inl (nI k)] σ (PB σ (Sw S k = true) (Sw S k = false)) := by
  refine Ct.of f_6_isWhole (Nat.le_of_ble_eq_true rfl) ?_
  show AW M6_isWhole 0 _ (0, [(0, .inr (.inr (5, 0, 0))), (1, .inl (nI k))], [], σ)
  have e6 : σ 5 0 6 (nI k).toNatClampNeg = (if Sw S k = true then 0 else 1) := by rw [cl8 (by omega)]; exact (hR.2 k hk).2.2.2.2.1
  cases hw : Sw S k
  · rw [hw] at e6
    refine AW.run 6 [true] (14, [(0, .inr (.inr (5, 0, 0))), (1, .inl (nI k))], [.inl 0], σ) [vp_in (nI k) 8, icP .ne (σ 5 0 6 (nI k).toNatClampNeg) 0] rfl ?_ ?_
    · exact ⟨(by exact in8 (by omega)), allP1 (fun q => absurd (e6.symm.trans q) (by decide))⟩
    refine AW.retz ⟨_, rfl⟩ rfl (by decide) ?_
    exact ⟨rfl, Or.inr ⟨rfl, rfl⟩⟩
  · rw [hw] at e6
    refine AW.run 7 [false] (14, [(0, .inr (.inr (5, 0, 0))), (1, .inl (nI k))], [.inl 1], σ) [vp_in (nI k) 8, ¬ icP .ne (σ 5 0 6 (nI k).toNatClampNeg) 0] rfl ?_ ?_
    · exact ⟨(by exact in8 (by omega)), allP1 (fun q => q e6)⟩
    refine AW.retz ⟨_, rfl⟩ rfl (by decide) ?_
    exact ⟨rfl, Or.inl ⟨rfl, rfl⟩⟩
set_option maxHeartbeats 4000000 in
set_option maxRecDepth 100000 in
theorem c6_no1 (σ : St) : Ct M6_no 0 [.inr (.inr (5, 0, 0)), .inl (-1)] σ (PI fun r9 σ' => (-1 : Int32) = r9 ∧ setM σ 5 0 1 1 (σ 5 0 1 1 + 1) = σ') := by
  refine Ct.of f_6_no (Nat.le_of_ble_eq_true rfl) ?_
  show AW M6_no 0 _ (0, [(0, .inr (.inr (5, 0, 0))), (1, .inl (-1))], [], σ)
  refine AW.run 10 [] (12, [(0, .inr (.inr (5, 0, 0))), (1, .inl (-1))], [.inl (-1)], (setM σ 5 0 1 (1 : Int32).toNatClampNeg ((σ 5 0 1 (1 : Int32).toNatClampNeg) + 1))) [vp_in 1 7, vp_in 1 7] rfl ?_ ?_
  · exact ⟨(by unfold vp_in; decide), allP1 (by unfold vp_in; decide)⟩
  refine AW.reti ⟨_, rfl⟩ rfl ?_
  refine ⟨rfl, ?_⟩
  rw [show (1 : Int32).toNatClampNeg = 1 by decide]
set_option maxHeartbeats 4000000 in
set_option maxRecDepth 100000 in
theorem c6_lower1 (σ : St) : Ct M6_lower 0 [.inr (.inr (5, 0, 0)), .inl (-1)] σ (PI fun r9 σ' => 1000000000 - (-1 : Int32) = r9 ∧ setM σ 5 0 1 1 (σ 5 0 1 1 + 1) = σ') := by
  refine Ct.of f_6_lower (Nat.le_of_ble_eq_true rfl) ?_
  show AW M6_lower 0 _ (0, [(0, .inr (.inr (5, 0, 0))), (1, .inl (-1))], [], σ)
  refine AW.run 12 [] (15, [(0, .inr (.inr (5, 0, 0))), (1, .inl (-1))], [.inl 1000000001], (setM σ 5 0 1 (1 : Int32).toNatClampNeg ((σ 5 0 1 (1 : Int32).toNatClampNeg) + 1))) [vp_in 1 7, vp_in 1 7] rfl ?_ ?_
  · exact ⟨(by unfold vp_in; decide), allP1 (by unfold vp_in; decide)⟩
  refine AW.reti ⟨_, rfl⟩ rfl ?_
  refine ⟨by decide, ?_⟩
  rw [show (1 : Int32).toNatClampNeg = 1 by decide]
set_option maxHeartbeats 4000000 in
set_option maxRecDepth 100000 in
theorem c6_lowestOf1 (σ : St) : Ct M6_lowestOf 0 [.inr (.inr (5, 0, 0)), .inl (-1)] σ (PL fun r9 σ' => Int64.ofNat 4000000000000000000 - (-1 : Int32).toInt64 = r9 ∧ setM σ 5 0 1 1 (σ 5 0 1 1 + 1) = σ') := by
  refine Ct.of f_6_lowestOf (Nat.le_of_ble_eq_true rfl) ?_
  show AW M6_lowestOf 0 _ (0, [(0, .inr (.inr (5, 0, 0))), (1, .inl (-1))], [], σ)
  refine AW.run 13 [] (17, [(0, .inr (.inr (5, 0, 0))), (1, .inl (-1))], [.inr (.inl ((Int64.ofNat 4000000000000000000) - (((-1) : Int32).toInt64)))], (setM σ 5 0 1 (1 : Int32).toNatClampNeg ((σ 5 0 1 (1 : Int32).toNatClampNeg) + 1))) [vp_in 1 7, vp_in 1 7] rfl ?_ ?_
  · exact ⟨(by unfold vp_in; decide), allP1 (by unfold vp_in; decide)⟩
  refine AW.retl ⟨_, rfl⟩ rfl ?_
  refine ⟨rfl, ?_⟩
  rw [show (1 : Int32).toNatClampNeg = 1 by decide]
set_option maxHeartbeats 4000000 in
set_option maxRecDepth 100000 in
theorem c6_no2 (σ : St) : Ct M6_no 0 [.inr (.inr (5, 0, 0)), .inl (-2)] σ (PI fun r9 σ' => (-2 : Int32) = r9 ∧ setM σ 5 0 1 2 (σ 5 0 1 2 + 1) = σ') := by
  refine Ct.of f_6_no (Nat.le_of_ble_eq_true rfl) ?_
  show AW M6_no 0 _ (0, [(0, .inr (.inr (5, 0, 0))), (1, .inl (-2))], [], σ)
  refine AW.run 10 [] (12, [(0, .inr (.inr (5, 0, 0))), (1, .inl (-2))], [.inl (-2)], (setM σ 5 0 1 (2 : Int32).toNatClampNeg ((σ 5 0 1 (2 : Int32).toNatClampNeg) + 1))) [vp_in 2 7, vp_in 2 7] rfl ?_ ?_
  · exact ⟨(by unfold vp_in; decide), allP1 (by unfold vp_in; decide)⟩
  refine AW.reti ⟨_, rfl⟩ rfl ?_
  refine ⟨rfl, ?_⟩
  rw [show (2 : Int32).toNatClampNeg = 2 by decide]
set_option maxHeartbeats 4000000 in
set_option maxRecDepth 100000 in
theorem c6_lowestOf2 (σ : St) : Ct M6_lowestOf 0 [.inr (.inr (5, 0, 0)), .inl (-2)] σ (PL fun r9 σ' => Int64.ofNat 4000000000000000000 - (-2 : Int32).toInt64 = r9 ∧ setM σ 5 0 1 2 (σ 5 0 1 2 + 1) = σ') := by
  refine Ct.of f_6_lowestOf (Nat.le_of_ble_eq_true rfl) ?_
  show AW M6_lowestOf 0 _ (0, [(0, .inr (.inr (5, 0, 0))), (1, .inl (-2))], [], σ)
  refine AW.run 13 [] (17, [(0, .inr (.inr (5, 0, 0))), (1, .inl (-2))], [.inr (.inl ((Int64.ofNat 4000000000000000000) - (((-2) : Int32).toInt64)))], (setM σ 5 0 1 (2 : Int32).toNatClampNeg ((σ 5 0 1 (2 : Int32).toNatClampNeg) + 1))) [vp_in 2 7, vp_in 2 7] rfl ?_ ?_
  · exact ⟨(by unfold vp_in; decide), allP1 (by unfold vp_in; decide)⟩
  refine AW.retl ⟨_, rfl⟩ rfl ?_
  refine ⟨rfl, ?_⟩
  rw [show (2 : Int32).toNatClampNeg = 2 by decide]
set_option maxHeartbeats 4000000 in
set_option maxRecDepth 100000 in
theorem c6_no3 (σ : St) : Ct M6_no 0 [.inr (.inr (5, 0, 0)), .inl (-3)] σ (PI fun r9 σ' => (-3 : Int32) = r9 ∧ setM σ 5 0 1 3 (σ 5 0 1 3 + 1) = σ') := by
  refine Ct.of f_6_no (Nat.le_of_ble_eq_true rfl) ?_
  show AW M6_no 0 _ (0, [(0, .inr (.inr (5, 0, 0))), (1, .inl (-3))], [], σ)
  refine AW.run 10 [] (12, [(0, .inr (.inr (5, 0, 0))), (1, .inl (-3))], [.inl (-3)], (setM σ 5 0 1 (3 : Int32).toNatClampNeg ((σ 5 0 1 (3 : Int32).toNatClampNeg) + 1))) [vp_in 3 7, vp_in 3 7] rfl ?_ ?_
  · exact ⟨(by unfold vp_in; decide), allP1 (by unfold vp_in; decide)⟩
  refine AW.reti ⟨_, rfl⟩ rfl ?_
  refine ⟨rfl, ?_⟩
  rw [show (3 : Int32).toNatClampNeg = 3 by decide]
set_option maxHeartbeats 4000000 in
set_option maxRecDepth 100000 in
theorem c6_no4 (σ : St) : Ct M6_no 0 [.inr (.inr (5, 0, 0)), .inl (-4)] σ (PI fun r9 σ' => (-4 : Int32) = r9 ∧ setM σ 5 0 1 4 (σ 5 0 1 4 + 1) = σ') := by
  refine Ct.of f_6_no (Nat.le_of_ble_eq_true rfl) ?_
  show AW M6_no 0 _ (0, [(0, .inr (.inr (5, 0, 0))), (1, .inl (-4))], [], σ)
  refine AW.run 10 [] (12, [(0, .inr (.inr (5, 0, 0))), (1, .inl (-4))], [.inl (-4)], (setM σ 5 0 1 (4 : Int32).toNatClampNeg ((σ 5 0 1 (4 : Int32).toNatClampNeg) + 1))) [vp_in 4 7, vp_in 4 7] rfl ?_ ?_
  · exact ⟨(by unfold vp_in; decide), allP1 (by unfold vp_in; decide)⟩
  refine AW.reti ⟨_, rfl⟩ rfl ?_
  refine ⟨rfl, ?_⟩
  rw [show (4 : Int32).toNatClampNeg = 4 by decide]
set_option maxHeartbeats 4000000 in
set_option maxRecDepth 100000 in
theorem c6_lower4 (σ : St) : Ct M6_lower 0 [.inr (.inr (5, 0, 0)), .inl (-4)] σ (PI fun r9 σ' => 1000000000 - (-4 : Int32) = r9 ∧ setM σ 5 0 1 4 (σ 5 0 1 4 + 1) = σ') := by
  refine Ct.of f_6_lower (Nat.le_of_ble_eq_true rfl) ?_
  show AW M6_lower 0 _ (0, [(0, .inr (.inr (5, 0, 0))), (1, .inl (-4))], [], σ)
  refine AW.run 12 [] (15, [(0, .inr (.inr (5, 0, 0))), (1, .inl (-4))], [.inl 1000000004], (setM σ 5 0 1 (4 : Int32).toNatClampNeg ((σ 5 0 1 (4 : Int32).toNatClampNeg) + 1))) [vp_in 4 7, vp_in 4 7] rfl ?_ ?_
  · exact ⟨(by unfold vp_in; decide), allP1 (by unfold vp_in; decide)⟩
  refine AW.reti ⟨_, rfl⟩ rfl ?_
  refine ⟨by decide, ?_⟩
  rw [show (4 : Int32).toNatClampNeg = 4 by decide]
set_option maxHeartbeats 4000000 in
set_option maxRecDepth 100000 in
theorem c6_lowestOf4 (σ : St) : Ct M6_lowestOf 0 [.inr (.inr (5, 0, 0)), .inl (-4)] σ (PL fun r9 σ' => Int64.ofNat 4000000000000000000 - (-4 : Int32).toInt64 = r9 ∧ setM σ 5 0 1 4 (σ 5 0 1 4 + 1) = σ') := by
  refine Ct.of f_6_lowestOf (Nat.le_of_ble_eq_true rfl) ?_
  show AW M6_lowestOf 0 _ (0, [(0, .inr (.inr (5, 0, 0))), (1, .inl (-4))], [], σ)
  refine AW.run 13 [] (17, [(0, .inr (.inr (5, 0, 0))), (1, .inl (-4))], [.inr (.inl ((Int64.ofNat 4000000000000000000) - (((-4) : Int32).toInt64)))], (setM σ 5 0 1 (4 : Int32).toNatClampNeg ((σ 5 0 1 (4 : Int32).toNatClampNeg) + 1))) [vp_in 4 7, vp_in 4 7] rfl ?_ ?_
  · exact ⟨(by unfold vp_in; decide), allP1 (by unfold vp_in; decide)⟩
  refine AW.retl ⟨_, rfl⟩ rfl ?_
  refine ⟨rfl, ?_⟩
  rw [show (4 : Int32).toNatClampNeg = 4 by decide]
set_option maxHeartbeats 4000000 in
set_option maxRecDepth 100000 in
theorem c6_no6 (σ : St) : Ct M6_no 0 [.inr (.inr (5, 0, 0)), .inl (-6)] σ (PI fun r9 σ' => (-6 : Int32) = r9 ∧ setM σ 5 0 1 6 (σ 5 0 1 6 + 1) = σ') := by
  refine Ct.of f_6_no (Nat.le_of_ble_eq_true rfl) ?_
  show AW M6_no 0 _ (0, [(0, .inr (.inr (5, 0, 0))), (1, .inl (-6))], [], σ)
  refine AW.run 10 [] (12, [(0, .inr (.inr (5, 0, 0))), (1, .inl (-6))], [.inl (-6)], (setM σ 5 0 1 (6 : Int32).toNatClampNeg ((σ 5 0 1 (6 : Int32).toNatClampNeg) + 1))) [vp_in 6 7, vp_in 6 7] rfl ?_ ?_
  · exact ⟨(by unfold vp_in; decide), allP1 (by unfold vp_in; decide)⟩
  refine AW.reti ⟨_, rfl⟩ rfl ?_
  refine ⟨rfl, ?_⟩
  rw [show (6 : Int32).toNatClampNeg = 6 by decide]
set_option maxHeartbeats 4000000 in
set_option maxRecDepth 100000 in
theorem c6_lower6 (σ : St) : Ct M6_lower 0 [.inr (.inr (5, 0, 0)), .inl (-6)] σ (PI fun r9 σ' => 1000000000 - (-6 : Int32) = r9 ∧ setM σ 5 0 1 6 (σ 5 0 1 6 + 1) = σ') := by
  refine Ct.of f_6_lower (Nat.le_of_ble_eq_true rfl) ?_
  show AW M6_lower 0 _ (0, [(0, .inr (.inr (5, 0, 0))), (1, .inl (-6))], [], σ)
  refine AW.run 12 [] (15, [(0, .inr (.inr (5, 0, 0))), (1, .inl (-6))], [.inl 1000000006], (setM σ 5 0 1 (6 : Int32).toNatClampNeg ((σ 5 0 1 (6 : Int32).toNatClampNeg) + 1))) [vp_in 6 7, vp_in 6 7] rfl ?_ ?_
  · exact ⟨(by unfold vp_in; decide), allP1 (by unfold vp_in; decide)⟩
  refine AW.reti ⟨_, rfl⟩ rfl ?_
  refine ⟨by decide, ?_⟩
  rw [show (6 : Int32).toNatClampNeg = 6 by decide]
set_option maxHeartbeats 4000000 in
set_option maxRecDepth 100000 in
theorem c6_lowestOf6 (σ : St) : Ct M6_lowestOf 0 [.inr (.inr (5, 0, 0)), .inl (-6)] σ (PL fun r9 σ' => Int64.ofNat 4000000000000000000 - (-6 : Int32).toInt64 = r9 ∧ setM σ 5 0 1 6 (σ 5 0 1 6 + 1) = σ') := by
  refine Ct.of f_6_lowestOf (Nat.le_of_ble_eq_true rfl) ?_
  show AW M6_lowestOf 0 _ (0, [(0, .inr (.inr (5, 0, 0))), (1, .inl (-6))], [], σ)
  refine AW.run 13 [] (17, [(0, .inr (.inr (5, 0, 0))), (1, .inl (-6))], [.inr (.inl ((Int64.ofNat 4000000000000000000) - (((-6) : Int32).toInt64)))], (setM σ 5 0 1 (6 : Int32).toNatClampNeg ((σ 5 0 1 (6 : Int32).toNatClampNeg) + 1))) [vp_in 6 7, vp_in 6 7] rfl ?_ ?_
  · exact ⟨(by unfold vp_in; decide), allP1 (by unfold vp_in; decide)⟩
  refine AW.retl ⟨_, rfl⟩ rfl ?_
  refine ⟨rfl, ?_⟩
  rw [show (6 : Int32).toNatClampNeg = 6 by decide]
