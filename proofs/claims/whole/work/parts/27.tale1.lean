/-! THE PAST; THE TALE'S LETTERS -/
theorem p8a : ∀ n < 8, vp_in (nI n &&& 7) 8 ∧ (nI n &&& 7).toNatClampNeg = n ∧ (nI n + 1) &&& 7 = nI ((n + 1) % 8) ∧ (nI n - 1) &&& 7 = nI ((n + 7) % 8) := by
  intro n hn
  rcases lt8 hn with rfl | rfl | rfl | rfl | rfl | rfl | rfl | rfl <;> exact ⟨by unfold vp_in; decide, by decide, by decide, by decide⟩
theorem p8b : ∀ b < 9, (if nI b + 1 < 8 then nI b + 1 else (8 : Int32)) = nI (min 8 (b + 1)) := by decide
theorem p8c : ∀ b < 9, 0 < b → nI b - 1 = nI (b - 1) := by decide
theorem optI_n {o : Option Nat} : (optI o = -9 ↔ o = none) ∨ True := Or.inr trivial

set_option maxHeartbeats 4000000 in
set_option maxRecDepth 100000 in
theorem c2_keep (S : Sv) (σ : St) (hR : RepS (σ 2 0) S) (hO : SOK S) (nx bk : Nat) (hnx : nx < 8) (hbk : bk ≤ 8) (e1 : σ 1 0 0 1 = nI nx) (e2 : σ 1 0 0 2 = nI bk) : Ct M2_keep 2 [.inr (.inr (1, 0, 0)), .inr (.inr (2, 0, 0))] σ (PV fun σ' => RepS (σ' 2 (4 + nx)) S ∧ σ' 1 0 0 1 = nI ((nx + 1) % 8) ∧ σ' 1 0 0 2 = nI (min 8 (bk + 1)) ∧ ∀ c i, ¬ c = 1 → ¬ (c = 2 ∧ i = 4 + nx) → σ' c i = σ c i) := by
  refine Ct.of f_2_keep (Nat.le_of_ble_eq_true rfl) ?_
  show AW M2_keep 2 _ (0, [(0, .inr (.inr (1, 0, 0))), (1, .inr (.inr (2, 0, 0)))], [], σ)
  obtain ⟨p1, p2, p3, p4⟩ := p8a nx hnx
  have pb := p8b bk (by omega)
  refine AW.run 4 [] (8, [(0, .inr (.inr (1, 0, 0))), (1, .inr (.inr (2, 0, 0)))], [.inl (σ 1 0 0 1), .inr (.inr (1, 0, 1))], σ) [] rfl ?_ ?_
  · exact trivial
  rw [e1]
  refine AW.run 3 [] (12, [(0, .inr (.inr (1, 0, 0))), (1, .inr (.inr (2, 0, 0)))], [.inr (.inr (2, 4 + ((nI nx) &&& 7).toNatClampNeg, 0))], σ) [vp_in ((nI nx) &&& 7) 8] rfl ?_ ?_
  · exact allP1 (by exact p1)
  rw [p2]
  refine AW.run 5 [] (20, [(2, .inr (.inr (2, 4 + nx, 0))), (0, .inr (.inr (1, 0, 0))), (1, .inr (.inr (2, 0, 0)))], [.inr (.inr (2, 0, 0)), .inr (.inr (2, 4 + nx, 0))], σ) [] rfl ?_ ?_
  · exact trivial
  refine AW.callVV (d' := 1) [.inr (.inr (2, 0, 0))] [] ⟨_, rfl⟩ f_3_copyFrom v_3_copyFrom l_2_20 ⟨rfl, by decide⟩ rfl (Nat.le_of_ble_eq_true rfl) rfl (Nat.le_of_ble_eq_true rfl) (c3_copyFrom (4 + nx) 0 (by omega) S σ hR hO) ?_
  rintro τ1 ⟨a1, b1⟩
  refine AW.run 3 [] (28, [(2, .inr (.inr (2, 4 + nx, 0))), (0, .inr (.inr (1, 0, 0))), (1, .inr (.inr (2, 0, 0)))], [.inl (τ1 1 0 0 1), .inr (.inr (1, 0, 0))], τ1) [] rfl ?_ ?_
  · exact trivial
  rw [show τ1 1 0 0 1 = nI nx by rw [a1 1 0 (by omega)]; exact e1]
  refine AW.run 4 [] (33, [(2, .inr (.inr (2, 4 + nx, 0))), (0, .inr (.inr (1, 0, 0))), (1, .inr (.inr (2, 0, 0)))], [.inl (((nI nx) + 1) &&& 7), .inr (.inr (1, 0, 0))], τ1) [] rfl ?_ ?_
  · exact trivial
  rw [p3]
  refine AW.run 5 [] (43, [(2, .inr (.inr (2, 4 + nx, 0))), (0, .inr (.inr (1, 0, 0))), (1, .inr (.inr (2, 0, 0)))], [.inl ((setM τ1 1 0 0 1 (nI ((nx + 1) % 8))) 1 0 0 2), .inl 8, .inr (.inr (1, 0, 0))], (setM τ1 1 0 0 1 (nI ((nx + 1) % 8)))) [] rfl ?_ ?_
  · exact trivial
  rw [show (setM τ1 1 0 0 1 (nI ((nx + 1) % 8))) 1 0 0 2 = nI bk by simp only [setM_at]; rw [if_neg (by decide), a1 1 0 (by omega)]; exact e2]
  refine AW.run 2 [] (45, [(2, .inr (.inr (2, 4 + nx, 0))), (0, .inr (.inr (1, 0, 0))), (1, .inr (.inr (2, 0, 0)))], [.inl ((nI bk) + 1), .inl 8, .inr (.inr (1, 0, 0))], (setM τ1 1 0 0 1 (nI ((nx + 1) % 8)))) [] rfl ?_ ?_
  · exact trivial
  refine AW.min ⟨_, rfl⟩ l_2_27 (Nat.le_of_ble_eq_true rfl) (Nat.le_of_ble_eq_true rfl) ?_
  rw [pb]
  refine AW.run 1 [] (51, [(2, .inr (.inr (2, 4 + nx, 0))), (0, .inr (.inr (1, 0, 0))), (1, .inr (.inr (2, 0, 0)))], [], (setM (setM τ1 1 0 0 1 (nI ((nx + 1) % 8))) 1 0 0 2 (nI (min 8 (bk + 1))))) [] rfl ?_ ?_
  · exact trivial
  refine AW.retv ⟨_, rfl⟩ rfl ?_
  refine ⟨by rw [set_ne (by omega), set_ne (by omega)]; exact b1, ?_, ?_, fun c i h1 h2 => ?_⟩
  · simp [setM_at]
  · simp [setM_at]
  · rw [set_ne (fun h => h1 h.1), set_ne (fun h => h1 h.1)]; exact a1 c i h2
set_option maxHeartbeats 4000000 in
set_option maxRecDepth 100000 in
theorem c2_takeBack (S : Sv) (σ : St) (hO : SOK S) (nx bk : Nat) (hnx : nx < 8) (hbk : bk ≤ 8) (h0 : 0 < bk) (e1 : σ 1 0 0 1 = nI nx) (e2 : σ 1 0 0 2 = nI bk) (hR : RepS (σ 2 (4 + (nx + 7) % 8)) S) : Ct M2_takeBack 2 [.inr (.inr (1, 0, 0)), .inr (.inr (2, 0, 0))] σ (PV fun σ' => RepS (σ' 2 0) S ∧ σ' 1 0 0 1 = nI ((nx + 7) % 8) ∧ σ' 1 0 0 2 = nI (bk - 1) ∧ ∀ c i, ¬ c = 1 → ¬ (c = 2 ∧ i = 0) → σ' c i = σ c i) := by
  refine Ct.of f_2_takeBack (Nat.le_of_ble_eq_true rfl) ?_
  show AW M2_takeBack 2 _ (0, [(0, .inr (.inr (1, 0, 0))), (1, .inr (.inr (2, 0, 0)))], [], σ)
  obtain ⟨p1, p2, p3, p4⟩ := p8a nx hnx
  obtain ⟨r1, r2, -, -⟩ := p8a ((nx + 7) % 8) (by omega)
  have pc := p8c bk (by omega) h0
  refine AW.run 2 [] (4, [(0, .inr (.inr (1, 0, 0))), (1, .inr (.inr (2, 0, 0)))], [.inl (σ 1 0 0 2)], σ) [] rfl ?_ ?_
  · exact trivial
  rw [e2]
  refine AW.run 4 [true] (13, [(0, .inr (.inr (1, 0, 0))), (1, .inr (.inr (2, 0, 0)))], [.inl (σ 1 0 0 1), .inr (.inr (1, 0, 0))], σ) [icP .ne (nI bk) 0] rfl ?_ ?_
  · exact allP1 (nI_ne0 h0 (by omega))
  rw [e1]
  refine AW.run 4 [] (18, [(0, .inr (.inr (1, 0, 0))), (1, .inr (.inr (2, 0, 0)))], [.inl (((nI nx) - 1) &&& 7), .inr (.inr (1, 0, 0))], σ) [] rfl ?_ ?_
  · exact trivial
  rw [p4]
  refine AW.run 4 [] (26, [(0, .inr (.inr (1, 0, 0))), (1, .inr (.inr (2, 0, 0)))], [.inl ((setM σ 1 0 0 1 (nI ((nx + 7) % 8))) 1 0 0 2), .inr (.inr (1, 0, 0))], (setM σ 1 0 0 1 (nI ((nx + 7) % 8)))) [] rfl ?_ ?_
  · exact trivial
  rw [show (setM σ 1 0 0 1 (nI ((nx + 7) % 8))) 1 0 0 2 = nI bk by simp only [setM_at]; rw [if_neg (by decide)]; exact e2]
  refine AW.run 2 [] (28, [(0, .inr (.inr (1, 0, 0))), (1, .inr (.inr (2, 0, 0)))], [.inl ((nI bk) - 1), .inr (.inr (1, 0, 0))], (setM σ 1 0 0 1 (nI ((nx + 7) % 8)))) [] rfl ?_ ?_
  · exact trivial
  rw [pc]
  refine AW.run 5 [] (39, [(0, .inr (.inr (1, 0, 0))), (1, .inr (.inr (2, 0, 0)))], [.inl ((setM (setM σ 1 0 0 1 (nI ((nx + 7) % 8))) 1 0 0 2 (nI (bk - 1))) 1 0 0 1), .inr (.inr (1, 0, 1))], (setM (setM σ 1 0 0 1 (nI ((nx + 7) % 8))) 1 0 0 2 (nI (bk - 1)))) [] rfl ?_ ?_
  · exact trivial
  rw [show (setM (setM σ 1 0 0 1 (nI ((nx + 7) % 8))) 1 0 0 2 (nI (bk - 1))) 1 0 0 1 = nI ((nx + 7) % 8) by simp [setM_at]]
  refine AW.run 1 [] (40, [(0, .inr (.inr (1, 0, 0))), (1, .inr (.inr (2, 0, 0)))], [.inr (.inr (2, 4 + (nI ((nx + 7) % 8)).toNatClampNeg, 0))], (setM (setM σ 1 0 0 1 (nI ((nx + 7) % 8))) 1 0 0 2 (nI (bk - 1)))) [vp_in (nI ((nx + 7) % 8)) 8] rfl ?_ ?_
  · exact allP1 (by exact in8 (by omega))
  rw [cl8 (by omega)]
  refine AW.run 5 [] (47, [(2, .inr (.inr (2, 4 + (nx + 7) % 8, 0))), (0, .inr (.inr (1, 0, 0))), (1, .inr (.inr (2, 0, 0)))], [.inr (.inr (2, 4 + (nx + 7) % 8, 0)), .inr (.inr (2, 0, 0))], (setM (setM σ 1 0 0 1 (nI ((nx + 7) % 8))) 1 0 0 2 (nI (bk - 1)))) [] rfl ?_ ?_
  · exact trivial
  refine AW.callVV (d' := 1) [.inr (.inr (2, 4 + (nx + 7) % 8, 0))] [] ⟨_, rfl⟩ f_3_copyFrom v_3_copyFrom l_2_20 ⟨rfl, by decide⟩ rfl (Nat.le_of_ble_eq_true rfl) rfl (Nat.le_of_ble_eq_true rfl) (c3_copyFrom 0 (4 + (nx + 7) % 8) (by omega) S (setM (setM σ 1 0 0 1 (nI ((nx + 7) % 8))) 1 0 0 2 (nI (bk - 1))) (by rw [set_ne (by omega), set_ne (by omega)]; exact hR) hO) ?_
  rintro τ1 ⟨a1, b1⟩
  refine AW.retv ⟨_, rfl⟩ rfl ?_
  refine ⟨b1, ?_, ?_, fun c i h1 h2 => ?_⟩
  · rw [a1 1 0 (by omega)]; simp [setM_at]
  · rw [a1 1 0 (by omega)]; simp [setM_at]
  · rw [a1 c i h2, set_ne (fun h => h1 h.1), set_ne (fun h => h1 h.1)]
set_option maxHeartbeats 4000000 in
set_option maxRecDepth 100000 in
theorem c2_forget (σ : St) : Ct M2_forget 0 [.inr (.inr (1, 0, 0))] σ (PV fun σ' => setM σ 1 0 0 2 0 = σ') := by
  refine Ct.of f_2_forget (Nat.le_of_ble_eq_true rfl) ?_
  show AW M2_forget 0 _ (0, [(0, .inr (.inr (1, 0, 0)))], [], σ)
  refine AW.run 3 [] (5, [(0, .inr (.inr (1, 0, 0)))], [], (setM σ 1 0 0 2 0)) [] rfl ?_ ?_
  · exact trivial
  refine AW.retv ⟨_, rfl⟩ rfl ?_
  rfl
set_option maxHeartbeats 4000000 in
set_option maxRecDepth 100000 in
theorem c4_forget (σ : St) : Ct M4_forget 0 [.inr (.inr (3, 0, 0))] σ (PV fun σ' => setM σ 3 0 0 1 0 = σ') := by
  refine Ct.of f_4_forget (Nat.le_of_ble_eq_true rfl) ?_
  show AW M4_forget 0 _ (0, [(0, .inr (.inr (3, 0, 0)))], [], σ)
  refine AW.run 3 [] (5, [(0, .inr (.inr (3, 0, 0)))], [], (setM σ 3 0 0 1 0)) [] rfl ?_ ?_
  · exact trivial
  refine AW.retv ⟨_, rfl⟩ rfl ?_
  rfl
def TaleR (σ : St) (tp : Nat → Nat) (len : Nat) : Prop := len ≤ 96 ∧ (∀ i, tp i ≤ 255) ∧ σ 3 0 0 1 = nI len ∧ ∀ i, i < len → σ 3 0 1 i = nI (tp i)
def ltN (tp : Nat → Nat) (len k : Nat) : Nat := if k < len then tp k else 0
def isDg (l : Nat) : Bool := decide (48 ≤ l ∧ l ≤ 57)
def dgN (l : Nat) : Nat := if l = 98 then 4 else if l = 112 then 3 else if l = 116 then 1 else if l = 117 then 2 else if l = 111 then 1 else if l = 100 then 2 else 0
theorem ltN_le {tp : Nat → Nat} {len k : Nat} (h : ∀ i, tp i ≤ 255) : ltN tp len k ≤ 255 := by
  unfold ltN
  split
  · exact h k
  · omega
theorem dgN_le (l : Nat) : dgN l ≤ 4 := by
  unfold dgN
  repeat' split
  all_goals omega
set_option maxHeartbeats 4000000 in
set_option maxRecDepth 100000 in
theorem c4_add (tp : Nat → Nat) (len : Nat) (σ : St) (hT : TaleR σ tp len) (l : Nat) (hl : l ≤ 255) (hlen : len < 96) : Ct M4_add 0 [.inr (.inr (3, 0, 0)), .inl (nI l)] σ (PV fun σ' => TaleR σ' (fu tp len l) (len + 1) ∧ Only 3 0 σ σ') := by
  refine Ct.of f_4_add (Nat.le_of_ble_eq_true rfl) ?_
  show AW M4_add 0 _ (0, [(0, .inr (.inr (3, 0, 0))), (1, .inl (nI l))], [], σ)
  obtain ⟨t1, t2, t3, t4⟩ := hT
  refine AW.run 2 [] (4, [(0, .inr (.inr (3, 0, 0))), (1, .inl (nI l))], [.inl (σ 3 0 0 1)], σ) [] rfl ?_ ?_
  · exact trivial
  rw [t3]
  refine AW.run 3 [false] (11, [(0, .inr (.inr (3, 0, 0))), (1, .inl (nI l))], [.inl (σ 3 0 0 1)], σ) [¬ icP .lt (nI len) 0] rfl ?_ ?_
  · exact allP1 (nlt0 (by omega))
  rw [t3]
  refine AW.run 8 [true] (28, [(0, .inr (.inr (3, 0, 0))), (1, .inl (nI l))], [.inl (σ 3 0 0 1), .inr (.inr (3, 0, 1))], σ) [icP .lt (nI len) (Int32.ofNat 96)] rfl ?_ ?_
  · exact allP1 (nI_lt (b := 96) hlen (by decide))
  rw [t3]
  refine AW.run 5 [] (35, [(0, .inr (.inr (3, 0, 0))), (1, .inl (nI l))], [.inl ((setM σ 3 0 1 (nI len).toNatClampNeg (nI l)) 3 0 0 1), .inr (.inr (3, 0, 0))], (setM σ 3 0 1 (nI len).toNatClampNeg (nI l))) [vp_in (nI len) 96] rfl ?_ ?_
  · exact allP1 (by exact vp_in_nI hlen (by decide))
  rw [show (setM σ 3 0 1 (nI len).toNatClampNeg (nI l)) 3 0 0 1 = nI len by simp only [setM_at]; rw [if_neg (by simp)]; exact t3]
  refine AW.run 2 [] (37, [(0, .inr (.inr (3, 0, 0))), (1, .inl (nI l))], [.inl ((nI len) + 1), .inr (.inr (3, 0, 0))], (setM σ 3 0 1 (nI len).toNatClampNeg (nI l))) [] rfl ?_ ?_
  · exact trivial
  rw [nI_1]
  refine AW.run 1 [] (40, [(0, .inr (.inr (3, 0, 0))), (1, .inl (nI l))], [], (setM (setM σ 3 0 1 (nI len).toNatClampNeg (nI l)) 3 0 0 1 (nI (len + 1)))) [] rfl ?_ ?_
  · exact trivial
  refine AW.retv ⟨_, rfl⟩ rfl ?_
  refine ⟨⟨hlen, fun i => ?_, ?_, fun i hi => ?_⟩, only_trans only_set only_set⟩
  · unfold fu; split
    · exact hl
    · exact t2 i
  · simp [setM_at]
  · rw [cl31 (by omega)]
    by_cases hk : i = len
    · subst hk; simp [setM_at, fu]
    · simp only [setM_at, fu, hk]; simp; exact t4 i (by omega)
set_option maxHeartbeats 4000000 in
set_option maxRecDepth 100000 in
theorem c4_letterAt (tp : Nat → Nat) (len : Nat) (σ : St) (hT : TaleR σ tp len) (k : Nat) (hk : k < 2 ^ 31) : Ct M4_letterAt 0 [.inr (.inr (3, 0, 0)), .inl (nI k)] σ (PI fun r9 σ' => nI (ltN tp len k) = r9 ∧ σ = σ') := by
  refine Ct.of f_4_letterAt (Nat.le_of_ble_eq_true rfl) ?_
  show AW M4_letterAt 0 _ (0, [(0, .inr (.inr (3, 0, 0))), (1, .inl (nI k))], [], σ)
  obtain ⟨t1, t2, t3, t4⟩ := hT
  refine AW.run 5 [false] (9, [(0, .inr (.inr (3, 0, 0))), (1, .inl (nI k))], [.inl (σ 3 0 0 1), .inl (nI k)], σ) [¬ icP .lt (nI k) 0] rfl ?_ ?_
  · exact allP1 (nlt0 hk)
  rw [t3]
  by_cases h9_1 : k < len
  · skip
    refine AW.run 10 [false, false] (27, [(0, .inr (.inr (3, 0, 0))), (1, .inl (nI k))], [.inl (σ 3 0 1 (nI k).toNatClampNeg)], σ) [¬ icP .ge (nI k) (nI len), ¬ icP .ge (nI k) (Int32.ofNat 96), vp_in (nI k) 96] rfl ?_ ?_
    · exact ⟨(nI_ge h9_1 (by omega)), (nI_ge (b := 96) (a := k) (by omega) (by omega)), allP1 (by exact vp_in_nI (by omega) (by decide))⟩
    rw [show σ 3 0 1 (nI k).toNatClampNeg = nI (tp k) by rw [cl31 hk]; exact t4 k (by assumption)]
    refine AW.run 1 [] (31, [(0, .inr (.inr (3, 0, 0))), (1, .inl (nI k))], [.inl (nI (tp k))], σ) [] rfl ?_ ?_
    · exact trivial
    refine AW.reti ⟨_, rfl⟩ rfl ?_
    exact ⟨by simp [ltN, *] <;> rfl, rfl⟩
  · skip
    refine AW.run 2 [true] (31, [(0, .inr (.inr (3, 0, 0))), (1, .inl (nI k))], [.inl 0], σ) [icP .ge (nI k) (nI len)] rfl ?_ ?_
    · exact allP1 (nI_le (by omega) hk)
    refine AW.reti ⟨_, rfl⟩ rfl ?_
    exact ⟨by simp [ltN, *] <;> rfl, rfl⟩
set_option maxHeartbeats 4000000 in
set_option maxRecDepth 100000 in
theorem c4_digitAt (tp : Nat → Nat) (len : Nat) (σ : St) (hT : TaleR σ tp len) (k : Nat) (hk : k < 2 ^ 31) (hd : isDg (ltN tp len k) = true) : Ct M4_digitAt 1 [.inr (.inr (3, 0, 0)), .inl (nI k)] σ (PI fun r9 σ' => nI (ltN tp len k - 48) = r9 ∧ σ = σ') := by
  refine Ct.of f_4_digitAt (Nat.le_of_ble_eq_true rfl) ?_
  show AW M4_digitAt 1 _ (0, [(0, .inr (.inr (3, 0, 0))), (1, .inl (nI k))], [], σ)
  have hd2 := of_decide_eq_true hd
  refine AW.run 2 [] (2, [(0, .inr (.inr (3, 0, 0))), (1, .inl (nI k))], [.inl (nI k), .inr (.inr (3, 0, 0))], σ) [] rfl ?_ ?_
  · exact trivial
  refine AW.callVI (d' := 0) [.inl (nI k)] [] ⟨_, rfl⟩ f_4_letterAt v_4_letterAt l_4_27 ⟨rfl, by decide⟩ rfl (Nat.le_of_ble_eq_true rfl) rfl (Nat.le_of_ble_eq_true rfl) (c4_letterAt tp len σ hT k hk) ?_
  rintro _ _ ⟨rfl, rfl⟩
  refine AW.run 2 [] (8, [(0, .inr (.inr (3, 0, 0))), (1, .inl (nI k))], [.inl ((nI (ltN tp len k)) - 48)], σ) [] rfl ?_ ?_
  · exact trivial
  refine AW.reti ⟨_, rfl⟩ rfl ?_
  exact ⟨(pk_sub (a := ltN tp len k) (b := 48) (by omega)).symm, rfl⟩
set_option maxHeartbeats 4000000 in
set_option maxRecDepth 100000 in
theorem c4_numberAt (tp : Nat → Nat) (len : Nat) (σ : St) (hT : TaleR σ tp len) (k : Nat) (hk : k < 2 ^ 30) (hd : isDg (ltN tp len k) = true) (hd1 : isDg (ltN tp len (k + 1)) = true) : Ct M4_numberAt 2 [.inr (.inr (3, 0, 0)), .inl (nI k)] σ (PI fun r9 σ' => nI (10 * (ltN tp len k - 48) + (ltN tp len (k + 1) - 48)) = r9 ∧ σ = σ') := by
  refine Ct.of f_4_numberAt (Nat.le_of_ble_eq_true rfl) ?_
  show AW M4_numberAt 2 _ (0, [(0, .inr (.inr (3, 0, 0))), (1, .inl (nI k))], [], σ)
  have hd2 := of_decide_eq_true hd
  have hd3 := of_decide_eq_true hd1

  refine AW.run 3 [] (4, [(0, .inr (.inr (3, 0, 0))), (1, .inl (nI k))], [.inl (nI k), .inr (.inr (3, 0, 0)), .inl 10], σ) [] rfl ?_ ?_
  · exact trivial
  refine AW.callVI (d' := 1) [.inl (nI k)] [.inl 10] ⟨_, rfl⟩ f_4_digitAt v_4_digitAt l_4_38 ⟨rfl, by decide⟩ rfl (Nat.le_of_ble_eq_true rfl) rfl (Nat.le_of_ble_eq_true rfl) (c4_digitAt tp len σ hT k (by omega) hd) ?_
  rintro _ _ ⟨rfl, rfl⟩
  refine AW.run 5 [] (12, [(0, .inr (.inr (3, 0, 0))), (1, .inl (nI k))], [.inl ((nI k) + 1), .inr (.inr (3, 0, 0)), .inl (10 * (nI (ltN tp len k - 48)))], σ) [] rfl ?_ ?_
  · exact trivial
  rw [nI_1]
  refine AW.callVI (d' := 1) [.inl (nI (k + 1))] [.inl (10 * (nI (ltN tp len k - 48)))] ⟨_, rfl⟩ f_4_digitAt v_4_digitAt l_4_38 ⟨rfl, by decide⟩ rfl (Nat.le_of_ble_eq_true rfl) rfl (Nat.le_of_ble_eq_true rfl) (c4_digitAt tp len σ hT (k + 1) (by omega) hd1) ?_
  rintro _ _ ⟨rfl, rfl⟩
  refine AW.run 1 [] (16, [(0, .inr (.inr (3, 0, 0))), (1, .inl (nI k))], [.inl ((10 * (nI (ltN tp len k - 48))) + (nI (ltN tp len (k + 1) - 48)))], σ) [] rfl ?_ ?_
  · exact trivial
  refine AW.reti ⟨_, rfl⟩ rfl ?_
  refine ⟨?_, rfl⟩
  rw [← nI_add, ← pk_mul]; rfl
set_option maxHeartbeats 4000000 in
set_option maxRecDepth 100000 in
theorem c4_isDigit (l : Nat) (hl : l ≤ 255) (σ : St) : Ct M4_isDigit 0 [.inl (nI l)] σ (PB σ (isDg l = true) (isDg l = false)) := by
  refine Ct.of f_4_isDigit (Nat.le_of_ble_eq_true rfl) ?_
  show AW M4_isDigit 0 _ (0, [(0, .inl (nI l))], [], σ)
  by_cases h3_1 : l < 48
  · skip
    refine AW.run 4 [true] (17, [(0, .inl (nI l))], [.inl 0], σ) [icP .lt (nI l) 48] rfl ?_ ?_
    · exact allP1 (nI_lt (b := 48) h3_1 (by decide))
    refine AW.retz ⟨_, rfl⟩ rfl (by decide) ?_
    exact ⟨rfl, Or.inr ⟨rfl, decide_eq_false (by omega)⟩⟩
  · skip
    by_cases h9_2 : 57 < l
    · skip
      refine AW.run 7 [false, true] (17, [(0, .inl (nI l))], [.inl 0], σ) [¬ icP .lt (nI l) 48, icP .gt (nI l) 57] rfl ?_ ?_
      · exact ⟨(nI_nlt (a := l) (b := 48) (by omega) (by omega)), allP1 (nI_lt (a := 57) h9_2 (by omega))⟩
      refine AW.retz ⟨_, rfl⟩ rfl (by decide) ?_
      exact ⟨rfl, Or.inr ⟨rfl, decide_eq_false (by omega)⟩⟩
    · skip
      refine AW.run 8 [false, false] (17, [(0, .inl (nI l))], [.inl 1], σ) [¬ icP .lt (nI l) 48, ¬ icP .gt (nI l) 57] rfl ?_ ?_
      · exact ⟨(nI_nlt (a := l) (b := 48) (by omega) (by omega)), allP1 (nI_nlt (a := 57) (b := l) (by omega) (by decide))⟩
      refine AW.retz ⟨_, rfl⟩ rfl (by decide) ?_
      exact ⟨rfl, Or.inl ⟨rfl, decide_eq_true (by omega)⟩⟩
set_option maxHeartbeats 4000000 in
set_option maxRecDepth 100000 in
theorem c4_digitsBehind (l : Nat) (hl : l ≤ 255) (σ : St) : Ct M4_digitsBehind 0 [.inl (nI l)] σ (PI fun r9 σ' => nI (dgN l) = r9 ∧ σ = σ') := by
  refine Ct.of f_4_digitsBehind (Nat.le_of_ble_eq_true rfl) ?_
  show AW M4_digitsBehind 0 _ (0, [(0, .inl (nI l))], [], σ)
  refine AW.run 1 [] (1, [(0, .inl (nI l))], [.inl (nI l)], σ) [] rfl ?_ ?_
  · exact trivial
  by_cases h1_1 : (nI l : Int32) = 98
  · skip
    refine AW.tswIn (k := 0) (tgt := 96) ⟨_, rfl⟩ (by rw [h1_1]; decide) (by decide) rfl (by decide) ?_
    refine AW.run 1 [] (97, [(0, .inl (nI l))], [.inl 4], σ) [] rfl ?_ ?_
    · exact trivial
    refine AW.reti ⟨_, rfl⟩ rfl ?_
    refine ⟨?_, rfl⟩
    have key : ∀ l < 256, dgN l = 4 ∧ l = 98 ∨ dgN l = 3 ∧ l = 112 ∨ dgN l = 1 ∧ l = 116 ∨ dgN l = 2 ∧ l = 117 ∨ dgN l = 1 ∧ l = 111 ∨ dgN l = 2 ∧ l = 100 ∨ dgN l = 0 ∧ l ≠ 98 ∧ l ≠ 112 ∧ l ≠ 116 ∧ l ≠ 117 ∧ l ≠ 111 ∧ l ≠ 100 := by decide
    have hb : l < 256 := by omega
    rcases key l hb with ⟨h1, h2⟩ | ⟨h1, h2⟩ | ⟨h1, h2⟩ | ⟨h1, h2⟩ | ⟨h1, h2⟩ | ⟨h1, h2⟩ | ⟨h1, h2⟩
    all_goals first
      | (rw [h1]; rfl)
      | (exfalso; subst h2; first | (exact absurd rfl (by assumption)) | (exact absurd (show nI _ = _ by assumption) (by decide)))
      | (exfalso; have hz := nI_toInt (n := l) (by omega); simp_all <;> omega)
  by_cases h1_2 : (nI l : Int32) = 99
  · skip
    refine AW.tswIn (k := 1) (tgt := 108) ⟨_, rfl⟩ (by rw [h1_2]; decide) (by decide) rfl (by decide) ?_
    refine AW.run 1 [] (109, [(0, .inl (nI l))], [.inl 0], σ) [] rfl ?_ ?_
    · exact trivial
    refine AW.reti ⟨_, rfl⟩ rfl ?_
    refine ⟨?_, rfl⟩
    have key : ∀ l < 256, dgN l = 4 ∧ l = 98 ∨ dgN l = 3 ∧ l = 112 ∨ dgN l = 1 ∧ l = 116 ∨ dgN l = 2 ∧ l = 117 ∨ dgN l = 1 ∧ l = 111 ∨ dgN l = 2 ∧ l = 100 ∨ dgN l = 0 ∧ l ≠ 98 ∧ l ≠ 112 ∧ l ≠ 116 ∧ l ≠ 117 ∧ l ≠ 111 ∧ l ≠ 100 := by decide
    have hb : l < 256 := by omega
    rcases key l hb with ⟨h1, h2⟩ | ⟨h1, h2⟩ | ⟨h1, h2⟩ | ⟨h1, h2⟩ | ⟨h1, h2⟩ | ⟨h1, h2⟩ | ⟨h1, h2⟩
    all_goals first
      | (rw [h1]; rfl)
      | (exfalso; subst h2; first | (exact absurd rfl (by assumption)) | (exact absurd (show nI _ = _ by assumption) (by decide)))
      | (exfalso; have hz := nI_toInt (n := l) (by omega); simp_all <;> omega)
  by_cases h1_3 : (nI l : Int32) = 100
  · skip
    refine AW.tswIn (k := 2) (tgt := 106) ⟨_, rfl⟩ (by rw [h1_3]; decide) (by decide) rfl (by decide) ?_
    refine AW.run 1 [] (107, [(0, .inl (nI l))], [.inl 2], σ) [] rfl ?_ ?_
    · exact trivial
    refine AW.reti ⟨_, rfl⟩ rfl ?_
    refine ⟨?_, rfl⟩
    have key : ∀ l < 256, dgN l = 4 ∧ l = 98 ∨ dgN l = 3 ∧ l = 112 ∨ dgN l = 1 ∧ l = 116 ∨ dgN l = 2 ∧ l = 117 ∨ dgN l = 1 ∧ l = 111 ∨ dgN l = 2 ∧ l = 100 ∨ dgN l = 0 ∧ l ≠ 98 ∧ l ≠ 112 ∧ l ≠ 116 ∧ l ≠ 117 ∧ l ≠ 111 ∧ l ≠ 100 := by decide
    have hb : l < 256 := by omega
    rcases key l hb with ⟨h1, h2⟩ | ⟨h1, h2⟩ | ⟨h1, h2⟩ | ⟨h1, h2⟩ | ⟨h1, h2⟩ | ⟨h1, h2⟩ | ⟨h1, h2⟩
    all_goals first
      | (rw [h1]; rfl)
      | (exfalso; subst h2; first | (exact absurd rfl (by assumption)) | (exact absurd (show nI _ = _ by assumption) (by decide)))
      | (exfalso; have hz := nI_toInt (n := l) (by omega); simp_all <;> omega)
  by_cases h1_4 : (nI l : Int32) = 101
  · skip
    refine AW.tswIn (k := 3) (tgt := 108) ⟨_, rfl⟩ (by rw [h1_4]; decide) (by decide) rfl (by decide) ?_
    refine AW.run 1 [] (109, [(0, .inl (nI l))], [.inl 0], σ) [] rfl ?_ ?_
    · exact trivial
    refine AW.reti ⟨_, rfl⟩ rfl ?_
    refine ⟨?_, rfl⟩
    have key : ∀ l < 256, dgN l = 4 ∧ l = 98 ∨ dgN l = 3 ∧ l = 112 ∨ dgN l = 1 ∧ l = 116 ∨ dgN l = 2 ∧ l = 117 ∨ dgN l = 1 ∧ l = 111 ∨ dgN l = 2 ∧ l = 100 ∨ dgN l = 0 ∧ l ≠ 98 ∧ l ≠ 112 ∧ l ≠ 116 ∧ l ≠ 117 ∧ l ≠ 111 ∧ l ≠ 100 := by decide
    have hb : l < 256 := by omega
    rcases key l hb with ⟨h1, h2⟩ | ⟨h1, h2⟩ | ⟨h1, h2⟩ | ⟨h1, h2⟩ | ⟨h1, h2⟩ | ⟨h1, h2⟩ | ⟨h1, h2⟩
    all_goals first
      | (rw [h1]; rfl)
      | (exfalso; subst h2; first | (exact absurd rfl (by assumption)) | (exact absurd (show nI _ = _ by assumption) (by decide)))
      | (exfalso; have hz := nI_toInt (n := l) (by omega); simp_all <;> omega)
  by_cases h1_5 : (nI l : Int32) = 102
  · skip
    refine AW.tswIn (k := 4) (tgt := 108) ⟨_, rfl⟩ (by rw [h1_5]; decide) (by decide) rfl (by decide) ?_
    refine AW.run 1 [] (109, [(0, .inl (nI l))], [.inl 0], σ) [] rfl ?_ ?_
    · exact trivial
    refine AW.reti ⟨_, rfl⟩ rfl ?_
    refine ⟨?_, rfl⟩
    have key : ∀ l < 256, dgN l = 4 ∧ l = 98 ∨ dgN l = 3 ∧ l = 112 ∨ dgN l = 1 ∧ l = 116 ∨ dgN l = 2 ∧ l = 117 ∨ dgN l = 1 ∧ l = 111 ∨ dgN l = 2 ∧ l = 100 ∨ dgN l = 0 ∧ l ≠ 98 ∧ l ≠ 112 ∧ l ≠ 116 ∧ l ≠ 117 ∧ l ≠ 111 ∧ l ≠ 100 := by decide
    have hb : l < 256 := by omega
    rcases key l hb with ⟨h1, h2⟩ | ⟨h1, h2⟩ | ⟨h1, h2⟩ | ⟨h1, h2⟩ | ⟨h1, h2⟩ | ⟨h1, h2⟩ | ⟨h1, h2⟩
    all_goals first
      | (rw [h1]; rfl)
      | (exfalso; subst h2; first | (exact absurd rfl (by assumption)) | (exact absurd (show nI _ = _ by assumption) (by decide)))
      | (exfalso; have hz := nI_toInt (n := l) (by omega); simp_all <;> omega)
  by_cases h1_6 : (nI l : Int32) = 103
  · skip
    refine AW.tswIn (k := 5) (tgt := 108) ⟨_, rfl⟩ (by rw [h1_6]; decide) (by decide) rfl (by decide) ?_
    refine AW.run 1 [] (109, [(0, .inl (nI l))], [.inl 0], σ) [] rfl ?_ ?_
    · exact trivial
    refine AW.reti ⟨_, rfl⟩ rfl ?_
    refine ⟨?_, rfl⟩
    have key : ∀ l < 256, dgN l = 4 ∧ l = 98 ∨ dgN l = 3 ∧ l = 112 ∨ dgN l = 1 ∧ l = 116 ∨ dgN l = 2 ∧ l = 117 ∨ dgN l = 1 ∧ l = 111 ∨ dgN l = 2 ∧ l = 100 ∨ dgN l = 0 ∧ l ≠ 98 ∧ l ≠ 112 ∧ l ≠ 116 ∧ l ≠ 117 ∧ l ≠ 111 ∧ l ≠ 100 := by decide
    have hb : l < 256 := by omega
    rcases key l hb with ⟨h1, h2⟩ | ⟨h1, h2⟩ | ⟨h1, h2⟩ | ⟨h1, h2⟩ | ⟨h1, h2⟩ | ⟨h1, h2⟩ | ⟨h1, h2⟩
    all_goals first
      | (rw [h1]; rfl)
      | (exfalso; subst h2; first | (exact absurd rfl (by assumption)) | (exact absurd (show nI _ = _ by assumption) (by decide)))
      | (exfalso; have hz := nI_toInt (n := l) (by omega); simp_all <;> omega)
  by_cases h1_7 : (nI l : Int32) = 104
  · skip
    refine AW.tswIn (k := 6) (tgt := 108) ⟨_, rfl⟩ (by rw [h1_7]; decide) (by decide) rfl (by decide) ?_
    refine AW.run 1 [] (109, [(0, .inl (nI l))], [.inl 0], σ) [] rfl ?_ ?_
    · exact trivial
    refine AW.reti ⟨_, rfl⟩ rfl ?_
    refine ⟨?_, rfl⟩
    have key : ∀ l < 256, dgN l = 4 ∧ l = 98 ∨ dgN l = 3 ∧ l = 112 ∨ dgN l = 1 ∧ l = 116 ∨ dgN l = 2 ∧ l = 117 ∨ dgN l = 1 ∧ l = 111 ∨ dgN l = 2 ∧ l = 100 ∨ dgN l = 0 ∧ l ≠ 98 ∧ l ≠ 112 ∧ l ≠ 116 ∧ l ≠ 117 ∧ l ≠ 111 ∧ l ≠ 100 := by decide
    have hb : l < 256 := by omega
    rcases key l hb with ⟨h1, h2⟩ | ⟨h1, h2⟩ | ⟨h1, h2⟩ | ⟨h1, h2⟩ | ⟨h1, h2⟩ | ⟨h1, h2⟩ | ⟨h1, h2⟩
    all_goals first
      | (rw [h1]; rfl)
      | (exfalso; subst h2; first | (exact absurd rfl (by assumption)) | (exact absurd (show nI _ = _ by assumption) (by decide)))
      | (exfalso; have hz := nI_toInt (n := l) (by omega); simp_all <;> omega)
  by_cases h1_8 : (nI l : Int32) = 105
  · skip
    refine AW.tswIn (k := 7) (tgt := 108) ⟨_, rfl⟩ (by rw [h1_8]; decide) (by decide) rfl (by decide) ?_
    refine AW.run 1 [] (109, [(0, .inl (nI l))], [.inl 0], σ) [] rfl ?_ ?_
    · exact trivial
    refine AW.reti ⟨_, rfl⟩ rfl ?_
    refine ⟨?_, rfl⟩
    have key : ∀ l < 256, dgN l = 4 ∧ l = 98 ∨ dgN l = 3 ∧ l = 112 ∨ dgN l = 1 ∧ l = 116 ∨ dgN l = 2 ∧ l = 117 ∨ dgN l = 1 ∧ l = 111 ∨ dgN l = 2 ∧ l = 100 ∨ dgN l = 0 ∧ l ≠ 98 ∧ l ≠ 112 ∧ l ≠ 116 ∧ l ≠ 117 ∧ l ≠ 111 ∧ l ≠ 100 := by decide
    have hb : l < 256 := by omega
    rcases key l hb with ⟨h1, h2⟩ | ⟨h1, h2⟩ | ⟨h1, h2⟩ | ⟨h1, h2⟩ | ⟨h1, h2⟩ | ⟨h1, h2⟩ | ⟨h1, h2⟩
    all_goals first
      | (rw [h1]; rfl)
      | (exfalso; subst h2; first | (exact absurd rfl (by assumption)) | (exact absurd (show nI _ = _ by assumption) (by decide)))
      | (exfalso; have hz := nI_toInt (n := l) (by omega); simp_all <;> omega)
  by_cases h1_9 : (nI l : Int32) = 106
  · skip
    refine AW.tswIn (k := 8) (tgt := 108) ⟨_, rfl⟩ (by rw [h1_9]; decide) (by decide) rfl (by decide) ?_
    refine AW.run 1 [] (109, [(0, .inl (nI l))], [.inl 0], σ) [] rfl ?_ ?_
    · exact trivial
    refine AW.reti ⟨_, rfl⟩ rfl ?_
    refine ⟨?_, rfl⟩
    have key : ∀ l < 256, dgN l = 4 ∧ l = 98 ∨ dgN l = 3 ∧ l = 112 ∨ dgN l = 1 ∧ l = 116 ∨ dgN l = 2 ∧ l = 117 ∨ dgN l = 1 ∧ l = 111 ∨ dgN l = 2 ∧ l = 100 ∨ dgN l = 0 ∧ l ≠ 98 ∧ l ≠ 112 ∧ l ≠ 116 ∧ l ≠ 117 ∧ l ≠ 111 ∧ l ≠ 100 := by decide
    have hb : l < 256 := by omega
    rcases key l hb with ⟨h1, h2⟩ | ⟨h1, h2⟩ | ⟨h1, h2⟩ | ⟨h1, h2⟩ | ⟨h1, h2⟩ | ⟨h1, h2⟩ | ⟨h1, h2⟩
    all_goals first
      | (rw [h1]; rfl)
      | (exfalso; subst h2; first | (exact absurd rfl (by assumption)) | (exact absurd (show nI _ = _ by assumption) (by decide)))
      | (exfalso; have hz := nI_toInt (n := l) (by omega); simp_all <;> omega)
  by_cases h1_10 : (nI l : Int32) = 107
  · skip
    refine AW.tswIn (k := 9) (tgt := 108) ⟨_, rfl⟩ (by rw [h1_10]; decide) (by decide) rfl (by decide) ?_
    refine AW.run 1 [] (109, [(0, .inl (nI l))], [.inl 0], σ) [] rfl ?_ ?_
    · exact trivial
    refine AW.reti ⟨_, rfl⟩ rfl ?_
    refine ⟨?_, rfl⟩
    have key : ∀ l < 256, dgN l = 4 ∧ l = 98 ∨ dgN l = 3 ∧ l = 112 ∨ dgN l = 1 ∧ l = 116 ∨ dgN l = 2 ∧ l = 117 ∨ dgN l = 1 ∧ l = 111 ∨ dgN l = 2 ∧ l = 100 ∨ dgN l = 0 ∧ l ≠ 98 ∧ l ≠ 112 ∧ l ≠ 116 ∧ l ≠ 117 ∧ l ≠ 111 ∧ l ≠ 100 := by decide
    have hb : l < 256 := by omega
    rcases key l hb with ⟨h1, h2⟩ | ⟨h1, h2⟩ | ⟨h1, h2⟩ | ⟨h1, h2⟩ | ⟨h1, h2⟩ | ⟨h1, h2⟩ | ⟨h1, h2⟩
    all_goals first
      | (rw [h1]; rfl)
      | (exfalso; subst h2; first | (exact absurd rfl (by assumption)) | (exact absurd (show nI _ = _ by assumption) (by decide)))
      | (exfalso; have hz := nI_toInt (n := l) (by omega); simp_all <;> omega)
  by_cases h1_11 : (nI l : Int32) = 108
  · skip
    refine AW.tswIn (k := 10) (tgt := 108) ⟨_, rfl⟩ (by rw [h1_11]; decide) (by decide) rfl (by decide) ?_
    refine AW.run 1 [] (109, [(0, .inl (nI l))], [.inl 0], σ) [] rfl ?_ ?_
    · exact trivial
    refine AW.reti ⟨_, rfl⟩ rfl ?_
    refine ⟨?_, rfl⟩
    have key : ∀ l < 256, dgN l = 4 ∧ l = 98 ∨ dgN l = 3 ∧ l = 112 ∨ dgN l = 1 ∧ l = 116 ∨ dgN l = 2 ∧ l = 117 ∨ dgN l = 1 ∧ l = 111 ∨ dgN l = 2 ∧ l = 100 ∨ dgN l = 0 ∧ l ≠ 98 ∧ l ≠ 112 ∧ l ≠ 116 ∧ l ≠ 117 ∧ l ≠ 111 ∧ l ≠ 100 := by decide
    have hb : l < 256 := by omega
    rcases key l hb with ⟨h1, h2⟩ | ⟨h1, h2⟩ | ⟨h1, h2⟩ | ⟨h1, h2⟩ | ⟨h1, h2⟩ | ⟨h1, h2⟩ | ⟨h1, h2⟩
    all_goals first
      | (rw [h1]; rfl)
      | (exfalso; subst h2; first | (exact absurd rfl (by assumption)) | (exact absurd (show nI _ = _ by assumption) (by decide)))
      | (exfalso; have hz := nI_toInt (n := l) (by omega); simp_all <;> omega)
  by_cases h1_12 : (nI l : Int32) = 109
  · skip
    refine AW.tswIn (k := 11) (tgt := 108) ⟨_, rfl⟩ (by rw [h1_12]; decide) (by decide) rfl (by decide) ?_
    refine AW.run 1 [] (109, [(0, .inl (nI l))], [.inl 0], σ) [] rfl ?_ ?_
    · exact trivial
    refine AW.reti ⟨_, rfl⟩ rfl ?_
    refine ⟨?_, rfl⟩
    have key : ∀ l < 256, dgN l = 4 ∧ l = 98 ∨ dgN l = 3 ∧ l = 112 ∨ dgN l = 1 ∧ l = 116 ∨ dgN l = 2 ∧ l = 117 ∨ dgN l = 1 ∧ l = 111 ∨ dgN l = 2 ∧ l = 100 ∨ dgN l = 0 ∧ l ≠ 98 ∧ l ≠ 112 ∧ l ≠ 116 ∧ l ≠ 117 ∧ l ≠ 111 ∧ l ≠ 100 := by decide
    have hb : l < 256 := by omega
    rcases key l hb with ⟨h1, h2⟩ | ⟨h1, h2⟩ | ⟨h1, h2⟩ | ⟨h1, h2⟩ | ⟨h1, h2⟩ | ⟨h1, h2⟩ | ⟨h1, h2⟩
    all_goals first
      | (rw [h1]; rfl)
      | (exfalso; subst h2; first | (exact absurd rfl (by assumption)) | (exact absurd (show nI _ = _ by assumption) (by decide)))
      | (exfalso; have hz := nI_toInt (n := l) (by omega); simp_all <;> omega)
  by_cases h1_13 : (nI l : Int32) = 110
  · skip
    refine AW.tswIn (k := 12) (tgt := 108) ⟨_, rfl⟩ (by rw [h1_13]; decide) (by decide) rfl (by decide) ?_
    refine AW.run 1 [] (109, [(0, .inl (nI l))], [.inl 0], σ) [] rfl ?_ ?_
    · exact trivial
    refine AW.reti ⟨_, rfl⟩ rfl ?_
    refine ⟨?_, rfl⟩
    have key : ∀ l < 256, dgN l = 4 ∧ l = 98 ∨ dgN l = 3 ∧ l = 112 ∨ dgN l = 1 ∧ l = 116 ∨ dgN l = 2 ∧ l = 117 ∨ dgN l = 1 ∧ l = 111 ∨ dgN l = 2 ∧ l = 100 ∨ dgN l = 0 ∧ l ≠ 98 ∧ l ≠ 112 ∧ l ≠ 116 ∧ l ≠ 117 ∧ l ≠ 111 ∧ l ≠ 100 := by decide
    have hb : l < 256 := by omega
    rcases key l hb with ⟨h1, h2⟩ | ⟨h1, h2⟩ | ⟨h1, h2⟩ | ⟨h1, h2⟩ | ⟨h1, h2⟩ | ⟨h1, h2⟩ | ⟨h1, h2⟩
    all_goals first
      | (rw [h1]; rfl)
      | (exfalso; subst h2; first | (exact absurd rfl (by assumption)) | (exact absurd (show nI _ = _ by assumption) (by decide)))
      | (exfalso; have hz := nI_toInt (n := l) (by omega); simp_all <;> omega)
  by_cases h1_14 : (nI l : Int32) = 111
  · skip
    refine AW.tswIn (k := 13) (tgt := 104) ⟨_, rfl⟩ (by rw [h1_14]; decide) (by decide) rfl (by decide) ?_
    refine AW.run 1 [] (105, [(0, .inl (nI l))], [.inl 1], σ) [] rfl ?_ ?_
    · exact trivial
    refine AW.reti ⟨_, rfl⟩ rfl ?_
    refine ⟨?_, rfl⟩
    have key : ∀ l < 256, dgN l = 4 ∧ l = 98 ∨ dgN l = 3 ∧ l = 112 ∨ dgN l = 1 ∧ l = 116 ∨ dgN l = 2 ∧ l = 117 ∨ dgN l = 1 ∧ l = 111 ∨ dgN l = 2 ∧ l = 100 ∨ dgN l = 0 ∧ l ≠ 98 ∧ l ≠ 112 ∧ l ≠ 116 ∧ l ≠ 117 ∧ l ≠ 111 ∧ l ≠ 100 := by decide
    have hb : l < 256 := by omega
    rcases key l hb with ⟨h1, h2⟩ | ⟨h1, h2⟩ | ⟨h1, h2⟩ | ⟨h1, h2⟩ | ⟨h1, h2⟩ | ⟨h1, h2⟩ | ⟨h1, h2⟩
    all_goals first
      | (rw [h1]; rfl)
      | (exfalso; subst h2; first | (exact absurd rfl (by assumption)) | (exact absurd (show nI _ = _ by assumption) (by decide)))
      | (exfalso; have hz := nI_toInt (n := l) (by omega); simp_all <;> omega)
  by_cases h1_15 : (nI l : Int32) = 112
  · skip
    refine AW.tswIn (k := 14) (tgt := 98) ⟨_, rfl⟩ (by rw [h1_15]; decide) (by decide) rfl (by decide) ?_
    refine AW.run 1 [] (99, [(0, .inl (nI l))], [.inl 3], σ) [] rfl ?_ ?_
    · exact trivial
    refine AW.reti ⟨_, rfl⟩ rfl ?_
    refine ⟨?_, rfl⟩
    have key : ∀ l < 256, dgN l = 4 ∧ l = 98 ∨ dgN l = 3 ∧ l = 112 ∨ dgN l = 1 ∧ l = 116 ∨ dgN l = 2 ∧ l = 117 ∨ dgN l = 1 ∧ l = 111 ∨ dgN l = 2 ∧ l = 100 ∨ dgN l = 0 ∧ l ≠ 98 ∧ l ≠ 112 ∧ l ≠ 116 ∧ l ≠ 117 ∧ l ≠ 111 ∧ l ≠ 100 := by decide
    have hb : l < 256 := by omega
    rcases key l hb with ⟨h1, h2⟩ | ⟨h1, h2⟩ | ⟨h1, h2⟩ | ⟨h1, h2⟩ | ⟨h1, h2⟩ | ⟨h1, h2⟩ | ⟨h1, h2⟩
    all_goals first
      | (rw [h1]; rfl)
      | (exfalso; subst h2; first | (exact absurd rfl (by assumption)) | (exact absurd (show nI _ = _ by assumption) (by decide)))
      | (exfalso; have hz := nI_toInt (n := l) (by omega); simp_all <;> omega)
  by_cases h1_16 : (nI l : Int32) = 113
  · skip
    refine AW.tswIn (k := 15) (tgt := 108) ⟨_, rfl⟩ (by rw [h1_16]; decide) (by decide) rfl (by decide) ?_
    refine AW.run 1 [] (109, [(0, .inl (nI l))], [.inl 0], σ) [] rfl ?_ ?_
    · exact trivial
    refine AW.reti ⟨_, rfl⟩ rfl ?_
    refine ⟨?_, rfl⟩
    have key : ∀ l < 256, dgN l = 4 ∧ l = 98 ∨ dgN l = 3 ∧ l = 112 ∨ dgN l = 1 ∧ l = 116 ∨ dgN l = 2 ∧ l = 117 ∨ dgN l = 1 ∧ l = 111 ∨ dgN l = 2 ∧ l = 100 ∨ dgN l = 0 ∧ l ≠ 98 ∧ l ≠ 112 ∧ l ≠ 116 ∧ l ≠ 117 ∧ l ≠ 111 ∧ l ≠ 100 := by decide
    have hb : l < 256 := by omega
    rcases key l hb with ⟨h1, h2⟩ | ⟨h1, h2⟩ | ⟨h1, h2⟩ | ⟨h1, h2⟩ | ⟨h1, h2⟩ | ⟨h1, h2⟩ | ⟨h1, h2⟩
    all_goals first
      | (rw [h1]; rfl)
      | (exfalso; subst h2; first | (exact absurd rfl (by assumption)) | (exact absurd (show nI _ = _ by assumption) (by decide)))
      | (exfalso; have hz := nI_toInt (n := l) (by omega); simp_all <;> omega)
  by_cases h1_17 : (nI l : Int32) = 114
  · skip
    refine AW.tswIn (k := 16) (tgt := 108) ⟨_, rfl⟩ (by rw [h1_17]; decide) (by decide) rfl (by decide) ?_
    refine AW.run 1 [] (109, [(0, .inl (nI l))], [.inl 0], σ) [] rfl ?_ ?_
    · exact trivial
    refine AW.reti ⟨_, rfl⟩ rfl ?_
    refine ⟨?_, rfl⟩
    have key : ∀ l < 256, dgN l = 4 ∧ l = 98 ∨ dgN l = 3 ∧ l = 112 ∨ dgN l = 1 ∧ l = 116 ∨ dgN l = 2 ∧ l = 117 ∨ dgN l = 1 ∧ l = 111 ∨ dgN l = 2 ∧ l = 100 ∨ dgN l = 0 ∧ l ≠ 98 ∧ l ≠ 112 ∧ l ≠ 116 ∧ l ≠ 117 ∧ l ≠ 111 ∧ l ≠ 100 := by decide
    have hb : l < 256 := by omega
    rcases key l hb with ⟨h1, h2⟩ | ⟨h1, h2⟩ | ⟨h1, h2⟩ | ⟨h1, h2⟩ | ⟨h1, h2⟩ | ⟨h1, h2⟩ | ⟨h1, h2⟩
    all_goals first
      | (rw [h1]; rfl)
      | (exfalso; subst h2; first | (exact absurd rfl (by assumption)) | (exact absurd (show nI _ = _ by assumption) (by decide)))
      | (exfalso; have hz := nI_toInt (n := l) (by omega); simp_all <;> omega)
  by_cases h1_18 : (nI l : Int32) = 115
  · skip
    refine AW.tswIn (k := 17) (tgt := 108) ⟨_, rfl⟩ (by rw [h1_18]; decide) (by decide) rfl (by decide) ?_
    refine AW.run 1 [] (109, [(0, .inl (nI l))], [.inl 0], σ) [] rfl ?_ ?_
    · exact trivial
    refine AW.reti ⟨_, rfl⟩ rfl ?_
    refine ⟨?_, rfl⟩
    have key : ∀ l < 256, dgN l = 4 ∧ l = 98 ∨ dgN l = 3 ∧ l = 112 ∨ dgN l = 1 ∧ l = 116 ∨ dgN l = 2 ∧ l = 117 ∨ dgN l = 1 ∧ l = 111 ∨ dgN l = 2 ∧ l = 100 ∨ dgN l = 0 ∧ l ≠ 98 ∧ l ≠ 112 ∧ l ≠ 116 ∧ l ≠ 117 ∧ l ≠ 111 ∧ l ≠ 100 := by decide
    have hb : l < 256 := by omega
    rcases key l hb with ⟨h1, h2⟩ | ⟨h1, h2⟩ | ⟨h1, h2⟩ | ⟨h1, h2⟩ | ⟨h1, h2⟩ | ⟨h1, h2⟩ | ⟨h1, h2⟩
    all_goals first
      | (rw [h1]; rfl)
      | (exfalso; subst h2; first | (exact absurd rfl (by assumption)) | (exact absurd (show nI _ = _ by assumption) (by decide)))
      | (exfalso; have hz := nI_toInt (n := l) (by omega); simp_all <;> omega)
  by_cases h1_19 : (nI l : Int32) = 116
  · skip
    refine AW.tswIn (k := 18) (tgt := 100) ⟨_, rfl⟩ (by rw [h1_19]; decide) (by decide) rfl (by decide) ?_
    refine AW.run 1 [] (101, [(0, .inl (nI l))], [.inl 1], σ) [] rfl ?_ ?_
    · exact trivial
    refine AW.reti ⟨_, rfl⟩ rfl ?_
    refine ⟨?_, rfl⟩
    have key : ∀ l < 256, dgN l = 4 ∧ l = 98 ∨ dgN l = 3 ∧ l = 112 ∨ dgN l = 1 ∧ l = 116 ∨ dgN l = 2 ∧ l = 117 ∨ dgN l = 1 ∧ l = 111 ∨ dgN l = 2 ∧ l = 100 ∨ dgN l = 0 ∧ l ≠ 98 ∧ l ≠ 112 ∧ l ≠ 116 ∧ l ≠ 117 ∧ l ≠ 111 ∧ l ≠ 100 := by decide
    have hb : l < 256 := by omega
    rcases key l hb with ⟨h1, h2⟩ | ⟨h1, h2⟩ | ⟨h1, h2⟩ | ⟨h1, h2⟩ | ⟨h1, h2⟩ | ⟨h1, h2⟩ | ⟨h1, h2⟩
    all_goals first
      | (rw [h1]; rfl)
      | (exfalso; subst h2; first | (exact absurd rfl (by assumption)) | (exact absurd (show nI _ = _ by assumption) (by decide)))
      | (exfalso; have hz := nI_toInt (n := l) (by omega); simp_all <;> omega)
  by_cases h1_20 : (nI l : Int32) = 117
  · skip
    refine AW.tswIn (k := 19) (tgt := 102) ⟨_, rfl⟩ (by rw [h1_20]; decide) (by decide) rfl (by decide) ?_
    refine AW.run 1 [] (103, [(0, .inl (nI l))], [.inl 2], σ) [] rfl ?_ ?_
    · exact trivial
    refine AW.reti ⟨_, rfl⟩ rfl ?_
    refine ⟨?_, rfl⟩
    have key : ∀ l < 256, dgN l = 4 ∧ l = 98 ∨ dgN l = 3 ∧ l = 112 ∨ dgN l = 1 ∧ l = 116 ∨ dgN l = 2 ∧ l = 117 ∨ dgN l = 1 ∧ l = 111 ∨ dgN l = 2 ∧ l = 100 ∨ dgN l = 0 ∧ l ≠ 98 ∧ l ≠ 112 ∧ l ≠ 116 ∧ l ≠ 117 ∧ l ≠ 111 ∧ l ≠ 100 := by decide
    have hb : l < 256 := by omega
    rcases key l hb with ⟨h1, h2⟩ | ⟨h1, h2⟩ | ⟨h1, h2⟩ | ⟨h1, h2⟩ | ⟨h1, h2⟩ | ⟨h1, h2⟩ | ⟨h1, h2⟩
    all_goals first
      | (rw [h1]; rfl)
      | (exfalso; subst h2; first | (exact absurd rfl (by assumption)) | (exact absurd (show nI _ = _ by assumption) (by decide)))
      | (exfalso; have hz := nI_toInt (n := l) (by omega); simp_all <;> omega)
  have eh1_1 := lv_neT (a := 98) h1_1 rfl
  have eh1_2 := lv_neT (a := 99) h1_2 rfl
  have eh1_3 := lv_neT (a := 100) h1_3 rfl
  have eh1_4 := lv_neT (a := 101) h1_4 rfl
  have eh1_5 := lv_neT (a := 102) h1_5 rfl
  have eh1_6 := lv_neT (a := 103) h1_6 rfl
  have eh1_7 := lv_neT (a := 104) h1_7 rfl
  have eh1_8 := lv_neT (a := 105) h1_8 rfl
  have eh1_9 := lv_neT (a := 106) h1_9 rfl
  have eh1_10 := lv_neT (a := 107) h1_10 rfl
  have eh1_11 := lv_neT (a := 108) h1_11 rfl
  have eh1_12 := lv_neT (a := 109) h1_12 rfl
  have eh1_13 := lv_neT (a := 110) h1_13 rfl
  have eh1_14 := lv_neT (a := 111) h1_14 rfl
  have eh1_15 := lv_neT (a := 112) h1_15 rfl
  have eh1_16 := lv_neT (a := 113) h1_16 rfl
  have eh1_17 := lv_neT (a := 114) h1_17 rfl
  have eh1_18 := lv_neT (a := 115) h1_18 rfl
  have eh1_19 := lv_neT (a := 116) h1_19 rfl
  have eh1_20 := lv_neT (a := 117) h1_20 rfl
  refine AW.tswOut (tgt := 108) ⟨_, rfl⟩ (by omega) (by decide) ?_
  refine AW.run 1 [] (109, [(0, .inl (nI l))], [.inl 0], σ) [] rfl ?_ ?_
  · exact trivial
  refine AW.reti ⟨_, rfl⟩ rfl ?_
  refine ⟨?_, rfl⟩
  have key : ∀ l < 256, dgN l = 4 ∧ l = 98 ∨ dgN l = 3 ∧ l = 112 ∨ dgN l = 1 ∧ l = 116 ∨ dgN l = 2 ∧ l = 117 ∨ dgN l = 1 ∧ l = 111 ∨ dgN l = 2 ∧ l = 100 ∨ dgN l = 0 ∧ l ≠ 98 ∧ l ≠ 112 ∧ l ≠ 116 ∧ l ≠ 117 ∧ l ≠ 111 ∧ l ≠ 100 := by decide
  have hb : l < 256 := by omega
  rcases key l hb with ⟨h1, h2⟩ | ⟨h1, h2⟩ | ⟨h1, h2⟩ | ⟨h1, h2⟩ | ⟨h1, h2⟩ | ⟨h1, h2⟩ | ⟨h1, h2⟩
  all_goals first
    | (rw [h1]; rfl)
    | (exfalso; subst h2; first | (exact absurd rfl (by assumption)) | (exact absurd (show nI _ = _ by assumption) (by decide)))
    | (exfalso; have hz := nI_toInt (n := l) (by omega); simp_all <;> omega)
