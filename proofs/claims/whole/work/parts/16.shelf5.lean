/-! NOURISH, BECOME, ADD, COPY, HALVE -/
def RepU (sh : Nat → Nat → Int32) (S : Sv) (u h m : Nat) : Prop :=
  (sh 0 7 = nI (Sn S) ∧ sh 0 8 = bI (Sw S) ∧ sh 0 9 = bI (Stw S) ∧ sh 0 10 = nI u ∧ sh 0 11 = nI h ∧ sh 0 12 = nI (Sd S)) ∧ (∀ i, i < 8 → sh 1 i = nI (Sk S i) ∧ sh 2 i = nI (Sf S i) ∧ sh 3 i = nI (Sp S i) ∧ sh 4 i = nI (Sq S i)) ∧ (∀ i, i < m → sh 5 i = nI (riseN (Sk S i) (Sf S i) u h)) ∧ (∀ i, i < Sn S → sh 6 i = nI (bearS S i) ∧ sh 7 i = nI (shockS S i))
theorem RepU_step {a m u h : Nat} {S : Sv} {σ : St} (hR : RepU (σ 2 a) S u h m) : RepU (setM σ 2 a 5 m (nI (riseN (Sk S m) (Sf S m) u h)) 2 a) S u h (m + 1) := by
  obtain ⟨h1, h2, h3, h4⟩ := hR
  refine ⟨?_, fun i hi => ?_, fun i hi => ?_, fun i hi => ?_⟩
  · simpa [setM_at] using h1
  · simpa [setM_at] using h2 i hi
  · by_cases hk : i = m
    · subst hk; simp [setM_at]
    · simp only [setM_at, hk, and_false, if_false]
      exact h3 i (by omega)
  · simpa [setM_at] using h4 i hi
theorem RepU_end {sh : Nat → Nat → Int32} {S : Sv} {u h : Nat} (hn : Sn S ≤ 8) (hR : RepU sh S u h 8) : RepS sh (withU S u h) :=
  ⟨hR.1, hR.2.1, fun i hi => ⟨hR.2.2.1 i (Nat.lt_of_lt_of_le hi hn), hR.2.2.2 i hi⟩⟩
theorem SOK_U {S : Sv} {u h : Nat} (hO : SOK S) (hu : u ≤ 9) (hh : h ≤ 9) : SOK (withU S u h) := ⟨hO.1, hO.2.1, hO.2.2.1, hu, hh⟩
/-- all but what is kept of one's kind -/
def RepE (sh : Nat → Nat → Int32) (S : Sv) (m : Nat) : Prop :=
  (sh 0 7 = nI (Sn S) ∧ sh 0 8 = bI (Sw S) ∧ sh 0 9 = bI (Stw S) ∧ sh 0 10 = nI (Su S) ∧ sh 0 11 = nI (She S) ∧ sh 0 12 = nI (Sd S)) ∧ (∀ i, i < 8 → (i ≠ m → sh 1 i = nI (Sk S i) ∧ sh 2 i = nI (Sf S i)) ∧ sh 3 i = nI (Sp S i) ∧ sh 4 i = nI (Sq S i)) ∧ (∀ i, i < Sn S → i ≠ m → sh 5 i = nI (riseS S i) ∧ sh 6 i = nI (bearS S i) ∧ sh 7 i = nI (shockS S i))
theorem RepS_E {sh : Nat → Nat → Int32} {S : Sv} {m : Nat} (h : RepS sh S) : RepE sh S m := ⟨h.1, fun i hi => ⟨fun _ => ⟨(h.2.1 i hi).1, (h.2.1 i hi).2.1⟩, (h.2.1 i hi).2.2⟩, fun i hi _ => h.2.2 i hi⟩
theorem rep_become {a m k f : Nat} {S : Sv} {σ : St} (hR : RepE (σ 2 a) S m) : RepS (setM (setM (setM (setM (setM σ 2 a 1 m (nI k)) 2 a 2 m (nI f)) 2 a 5 m (nI (riseN k f (Su S) (She S)))) 2 a 6 m (nI (bearN k f))) 2 a 7 m (nI (shockN k f)) 2 a) (withK S (fu (Sk S) m k) (fu (Sf S) m f)) := by
  obtain ⟨h1, h2, h3⟩ := hR
  refine ⟨?_, fun i hi => ?_, fun i hi => ?_⟩
  · simpa [setM_at, withK] using h1
  · obtain ⟨g1, g2, g3⟩ := h2 i hi
    by_cases hk : i = m
    · subst hk
      simp [setM_at, withK, fu, Sk, Sf]
      exact ⟨g2, g3⟩
    · simp [setM_at, withK, fu, Sk, Sf, hk]
      exact ⟨(g1 hk).1, (g1 hk).2, g2, g3⟩
  · by_cases hk : i = m
    · subst hk
      simp [setM_at, withK, fu, Sk, Sf, riseS, bearS, shockS]
    · have g := h3 i hi hk
      simp [setM_at, withK, fu, Sk, Sf, riseS, bearS, shockS, hk]
      exact g
/-- one more -/
def addS (S : Sv) (k f p : Nat) : Sv := (Sn S + 1, fu (Sk S) (Sn S) k, fu (Sf S) (Sn S) f, fu (Sp S) (Sn S) p, Sq S, fu (Sw S) (Sn S) true, Stw S, Su S, She S, Sd S)
def addE (S : Sv) (p : Nat) : Sv := (Sn S + 1, Sk S, Sf S, fu (Sp S) (Sn S) p, Sq S, fu (Sw S) (Sn S) true, Stw S, Su S, She S, Sd S)
theorem addS_K {S : Sv} {k f p : Nat} : withK (addE S p) (fu (Sk (addE S p)) (Sn S) k) (fu (Sf (addE S p)) (Sn S) f) = addS S k f p := rfl
theorem rep_addE {a p : Nat} {S : Sv} {σ : St} (hR : RepS (σ 2 a) S) : RepE (setM (setM (setM σ 2 a 0 7 (nI (Sn S + 1))) 2 a 0 8 (bI (fu (Sw S) (Sn S) true))) 2 a 3 (Sn S) (nI p) 2 a) (addE S p) (Sn S) := by
  obtain ⟨h1, h2, h3⟩ := hR
  refine ⟨?_, fun i hi => ?_, fun i hi hne => ?_⟩
  · simpa [setM_at, addE] using h1.2.2
  · obtain ⟨g1, g2, g3, g4⟩ := h2 i hi
    by_cases hk : i = Sn S
    · subst hk
      simp [setM_at, addE, fu, Sp]
      exact g4
    · simp [setM_at, addE, fu, Sp, hk]
      exact ⟨⟨g1, g2⟩, g3, g4⟩
  · have hlt : i < Sn S := by
      have : i < Sn S + 1 := hi
      omega
    simpa [setM_at, addE, riseS, bearS, shockS] using h3 i hlt
theorem SOK_addS {S : Sv} {k f p : Nat} (hO : SOK S) (hn : Sn S < 8) (hk : k ≤ 5) (hf : f ≤ 9) (hp : p ≤ 14) : SOK (addS S k f p) := by
  obtain ⟨h1, h2, h3, h4, h5⟩ := hO
  refine ⟨hn, fun i => ?_, fun i hi => ?_, h4, h5⟩
  · obtain ⟨g1, g2, g3, g4⟩ := h2 i
    refine ⟨?_, ?_, ?_, g4⟩
    · show fu (Sk S) (Sn S) k i ≤ 5
      unfold fu; split <;> assumption
    · show fu (Sf S) (Sn S) f i ≤ 9
      unfold fu; split <;> assumption
    · show fu (Sp S) (Sn S) p i ≤ 14
      unfold fu; split <;> assumption
  · have hi' : Sn S + 1 ≤ i := hi
    have hne : i ≠ Sn S := by omega
    obtain ⟨g1, g2, g3, g4, g5, g6⟩ := h3 i (by omega)
    refine ⟨?_, g2, g3, ?_, ?_, ?_⟩
    · show fu (Sw S) (Sn S) true i = false
      rw [fu_ne _ _ hne]; exact g1
    · show fu (Sk S) (Sn S) k i = 0
      rw [fu_ne _ _ hne]; exact g4
    · show fu (Sf S) (Sn S) f i = 0
      rw [fu_ne _ _ hne]; exact g5
    · show fu (Sp S) (Sn S) p i = 0
      rw [fu_ne _ _ hne]; exact g6

set_option maxHeartbeats 4000000 in
set_option maxRecDepth 100000 in
theorem c3_nourish (a : Nat) (S : Sv) (σ : St) (hR : RepS (σ 2 a) S) (hO : SOK S) (u h : Nat) (hu : u ≤ 9) (hh : h ≤ 9) : Ct M3_nourish 2 [.inr (.inr (2, a, 0)), .inl (nI u), .inl (nI h)] σ (PV fun σ' => Only 2 a σ σ' ∧ RepS (σ' 2 a) (withU S u h)) := by
  refine Ct.of f_3_nourish (Nat.le_of_ble_eq_true rfl) ?_
  show AW M3_nourish 2 _ (0, [(0, .inr (.inr (2, a, 0))), (1, .inl (nI u)), (2, .inl (nI h))], [], σ)
  refine AW.run 8 [] (12, [(3, .inl 0), (0, .inr (.inr (2, a, 0))), (1, .inl (nI u)), (2, .inl (nI h))], [], (setM (setM σ 2 a 0 10 (nI u)) 2 a 0 11 (nI h))) [] rfl ?_ ?_
  · exact trivial
  refine AW.pick [1, 2, 3, 0] (ls' := [(0, .inr (.inr (2, a, 0))), (1, .inl (nI u)), (2, .inl (nI h)), (3, .inl (nI 0))]) rfl ?_
  refine AW.loop (α := Unit) 12 8 (fun i _ => [(0, .inr (.inr (2, a, 0))), (1, .inl (nI u)), (2, .inl (nI h)), (3, .inl (nI i))]) (fun i _ τ => Only 2 a σ τ ∧ RepU (τ 2 a) S u h i) ?_ ?_ 8 0 () _ (by omega) ⟨only_trans only_set only_set, ?_⟩
  · intro i _ τ hi hI hk
    obtain ⟨hS1, hR1⟩ := hI
    have q1 : τ 2 a 1 (nI i).toNatClampNeg = nI (Sk S i) := by rw [cl8 hi]; exact (hR1.2.1 i hi).1
    have q2 : τ 2 a 2 (nI i).toNatClampNeg = nI (Sf S i) := by rw [cl8 hi]; exact (hR1.2.1 i hi).2.1
    skip
    refine AW.run 10 [false] (29, [(0, .inr (.inr (2, a, 0))), (1, .inl (nI u)), (2, .inl (nI h)), (3, .inl (nI i))], [.inl (τ 2 a 1 (nI i).toNatClampNeg), .inl (nI i), .inr (.inr (2, a, 5))], τ) [¬ icP .ge (nI i) 8, vp_in (nI i) 8] rfl ?_ ?_
    · exact ⟨(nle_lit (a := 8) hi (by decide)), allP1 (by exact in8 hi)⟩
    rw [q1]
    refine AW.run 4 [] (35, [(0, .inr (.inr (2, a, 0))), (1, .inl (nI u)), (2, .inl (nI h)), (3, .inl (nI i))], [.inl (τ 2 a 2 (nI i).toNatClampNeg), .inl (nI (Sk S i)), .inl (nI i), .inr (.inr (2, a, 5))], τ) [vp_in (nI i) 8] rfl ?_ ?_
    · exact allP1 (by exact in8 hi)
    rw [q2]
    refine AW.run 2 [] (37, [(0, .inr (.inr (2, a, 0))), (1, .inl (nI u)), (2, .inl (nI h)), (3, .inl (nI i))], [.inl (nI h), .inl (nI u), .inl (nI (Sf S i)), .inl (nI (Sk S i)), .inl (nI i), .inr (.inr (2, a, 5))], τ) [] rfl ?_ ?_
    · exact trivial
    refine AW.callSI (d' := 1) [.inl (nI (Sk S i)), .inl (nI (Sf S i)), .inl (nI u), .inl (nI h)] [.inl (nI i), .inr (.inr (2, a, 5))] ⟨_, rfl⟩ f_0_rises s_0_rises l_3_66 rfl (Nat.le_of_ble_eq_true rfl) rfl (Nat.le_of_ble_eq_true rfl) (c0_rises (Sk S i) (Sf S i) u h (hO.2.1 i).1 (hO.2.1 i).2.1 hu hh τ) ?_
    rintro _ _ ⟨rfl, rfl⟩
    refine AW.run 3 [] (12, [(3, .inl ((nI i) + 1)), (0, .inr (.inr (2, a, 0))), (1, .inl (nI u)), (2, .inl (nI h))], [], (setM τ 2 a 5 (nI i).toNatClampNeg (nI (riseN (Sk S i) (Sf S i) u h)))) [vp_in (nI i) 8] rfl ?_ ?_
    · exact allP1 (by exact in8 hi)
    rw [nI_1 i]
    refine AW.pick [1, 2, 3, 0] (ls' := [(0, .inr (.inr (2, a, 0))), (1, .inl (nI u)), (2, .inl (nI h)), (3, .inl (nI (i + 1)))]) rfl ?_
    exact hk () _ ⟨only_trans hS1 only_set, by rw [cl8 hi]; exact RepU_step hR1⟩
  · intro _ τ hI
    obtain ⟨hS1, hR1⟩ := hI
    refine AW.run 3 [true] (47, [(0, .inr (.inr (2, a, 0))), (1, .inl (nI u)), (2, .inl (nI h)), (3, .inl (nI 8))], [], τ) [icP .ge (nI 8) 8] rfl ?_ ?_
    · exact allP1 (le_lit (a := 8) (b := 8) (by decide) (by decide))
    refine AW.retv ⟨_, rfl⟩ rfl ?_
    exact ⟨hS1, RepU_end hO.1 hR1⟩
  · refine ⟨?_, fun i hi => ?_, fun i hi => absurd hi (Nat.not_lt_zero _), fun i hi => ?_⟩
    · simpa [setM_at] using ⟨hR.1.1, hR.1.2.1, hR.1.2.2.1, hR.1.2.2.2.2.2⟩
    · simpa [setM_at] using hR.2.1 i hi
    · simpa [setM_at] using (hR.2.2 i hi).2
set_option maxHeartbeats 4000000 in
set_option maxRecDepth 100000 in
theorem c3_become (a : Nat) (S : Sv) (σ : St) (i k f : Nat) (hR : RepE (σ 2 a) S i) (hn : Sn S ≤ 8) (hi : i < Sn S) (hk : k ≤ 5) (hf : f ≤ 9) (hu : Su S ≤ 9) (hh : She S ≤ 9) : Ct M3_become 2 [.inr (.inr (2, a, 0)), .inl (nI i), .inl (nI k), .inl (nI f)] σ (PV fun σ' => Only 2 a σ σ' ∧ RepS (σ' 2 a) (withK S (fu (Sk S) i k) (fu (Sf S) i f))) := by
  refine Ct.of f_3_become (Nat.le_of_ble_eq_true rfl) ?_
  show AW M3_become 2 _ (0, [(0, .inr (.inr (2, a, 0))), (1, .inl (nI i)), (2, .inl (nI k)), (3, .inl (nI f))], [], σ)
  have hi8 : i < 8 := by omega
  refine AW.run 2 [] (2, [(0, .inr (.inr (2, a, 0))), (1, .inl (nI i)), (2, .inl (nI k)), (3, .inl (nI f))], [.inl (nI i), .inr (.inr (2, a, 0))], σ) [] rfl ?_ ?_
  · exact trivial
  refine AW.callVI (d' := 0) [.inl (nI i)] [] ⟨_, rfl⟩ f_3_has v_3_has l_3_58 ⟨rfl, by decide⟩ rfl (Nat.le_of_ble_eq_true rfl) rfl (Nat.le_of_ble_eq_true rfl) (c3_hasN a (Sn S) σ hR.1.1 hn (nI i)) ?_
  rintro v _ ⟨rfl, hv⟩
  rcases hv with ⟨rfl, hp2⟩ | ⟨rfl, hp2⟩
  · skip
    refine AW.run 18 [true] (34, [(0, .inr (.inr (2, a, 0))), (1, .inl (nI i)), (2, .inl (nI k)), (3, .inl (nI f))], [.inl ((setM (setM σ 2 a 1 (nI i).toNatClampNeg (nI k)) 2 a 2 (nI i).toNatClampNeg (nI f)) 2 a 0 10), .inl (nI f), .inl (nI k), .inl (nI i), .inr (.inr (2, a, 5))], (setM (setM σ 2 a 1 (nI i).toNatClampNeg (nI k)) 2 a 2 (nI i).toNatClampNeg (nI f))) [icP .ne (1 : Int32) 0, vp_in (nI i) 8, vp_in (nI i) 8] rfl ?_ ?_
    · exact ⟨(by decide : (¬ (1 : Int32) = 0)), (by exact in8 hi8), allP1 (by exact in8 hi8)⟩
    rw [show (setM (setM σ 2 a 1 (nI i).toNatClampNeg (nI k)) 2 a 2 (nI i).toNatClampNeg (nI f)) 2 a 0 10 = nI (Su S) by simp only [setM_at]; exact hR.1.2.2.2.1]
    refine AW.run 2 [] (38, [(0, .inr (.inr (2, a, 0))), (1, .inl (nI i)), (2, .inl (nI k)), (3, .inl (nI f))], [.inl ((setM (setM σ 2 a 1 (nI i).toNatClampNeg (nI k)) 2 a 2 (nI i).toNatClampNeg (nI f)) 2 a 0 11), .inl (nI (Su S)), .inl (nI f), .inl (nI k), .inl (nI i), .inr (.inr (2, a, 5))], (setM (setM σ 2 a 1 (nI i).toNatClampNeg (nI k)) 2 a 2 (nI i).toNatClampNeg (nI f))) [] rfl ?_ ?_
    · exact trivial
    rw [show (setM (setM σ 2 a 1 (nI i).toNatClampNeg (nI k)) 2 a 2 (nI i).toNatClampNeg (nI f)) 2 a 0 11 = nI (She S) by simp only [setM_at]; exact hR.1.2.2.2.2.1]
    refine AW.callSI (d' := 1) [.inl (nI k), .inl (nI f), .inl (nI (Su S)), .inl (nI (She S))] [.inl (nI i), .inr (.inr (2, a, 5))] ⟨_, rfl⟩ f_0_rises s_0_rises l_3_66 rfl (Nat.le_of_ble_eq_true rfl) rfl (Nat.le_of_ble_eq_true rfl) (c0_rises k f (Su S) (She S) hk hf hu hh (setM (setM σ 2 a 1 (nI i).toNatClampNeg (nI k)) 2 a 2 (nI i).toNatClampNeg (nI f))) ?_
    rintro _ _ ⟨rfl, rfl⟩
    refine AW.run 6 [] (49, [(0, .inr (.inr (2, a, 0))), (1, .inl (nI i)), (2, .inl (nI k)), (3, .inl (nI f))], [.inl (nI f), .inl (nI k), .inl (nI i), .inr (.inr (2, a, 6))], (setM (setM (setM σ 2 a 1 (nI i).toNatClampNeg (nI k)) 2 a 2 (nI i).toNatClampNeg (nI f)) 2 a 5 (nI i).toNatClampNeg (nI (riseN k f (Su S) (She S))))) [vp_in (nI i) 8] rfl ?_ ?_
    · exact allP1 (by exact in8 hi8)
    refine AW.callSI (d' := 0) [.inl (nI k), .inl (nI f)] [.inl (nI i), .inr (.inr (2, a, 6))] ⟨_, rfl⟩ f_0_bears s_0_bears l_3_72 rfl (Nat.le_of_ble_eq_true rfl) rfl (Nat.le_of_ble_eq_true rfl) (c0_bears k f hk hf (setM (setM (setM σ 2 a 1 (nI i).toNatClampNeg (nI k)) 2 a 2 (nI i).toNatClampNeg (nI f)) 2 a 5 (nI i).toNatClampNeg (nI (riseN k f (Su S) (She S))))) ?_
    rintro _ _ ⟨rfl, rfl⟩
    refine AW.run 6 [] (60, [(0, .inr (.inr (2, a, 0))), (1, .inl (nI i)), (2, .inl (nI k)), (3, .inl (nI f))], [.inl (nI f), .inl (nI k), .inl (nI i), .inr (.inr (2, a, 7))], (setM (setM (setM (setM σ 2 a 1 (nI i).toNatClampNeg (nI k)) 2 a 2 (nI i).toNatClampNeg (nI f)) 2 a 5 (nI i).toNatClampNeg (nI (riseN k f (Su S) (She S)))) 2 a 6 (nI i).toNatClampNeg (nI (bearN k f)))) [vp_in (nI i) 8] rfl ?_ ?_
    · exact allP1 (by exact in8 hi8)
    refine AW.callSI (d' := 0) [.inl (nI k), .inl (nI f)] [.inl (nI i), .inr (.inr (2, a, 7))] ⟨_, rfl⟩ f_0_shocks s_0_shocks l_3_76 rfl (Nat.le_of_ble_eq_true rfl) rfl (Nat.le_of_ble_eq_true rfl) (c0_shocks k f hk hf (setM (setM (setM (setM σ 2 a 1 (nI i).toNatClampNeg (nI k)) 2 a 2 (nI i).toNatClampNeg (nI f)) 2 a 5 (nI i).toNatClampNeg (nI (riseN k f (Su S) (She S)))) 2 a 6 (nI i).toNatClampNeg (nI (bearN k f)))) ?_
    rintro _ _ ⟨rfl, rfl⟩
    refine AW.run 1 [] (64, [(0, .inr (.inr (2, a, 0))), (1, .inl (nI i)), (2, .inl (nI k)), (3, .inl (nI f))], [], (setM (setM (setM (setM (setM σ 2 a 1 (nI i).toNatClampNeg (nI k)) 2 a 2 (nI i).toNatClampNeg (nI f)) 2 a 5 (nI i).toNatClampNeg (nI (riseN k f (Su S) (She S)))) 2 a 6 (nI i).toNatClampNeg (nI (bearN k f))) 2 a 7 (nI i).toNatClampNeg (nI (shockN k f)))) [vp_in (nI i) 8] rfl ?_ ?_
    · exact allP1 (by exact in8 hi8)
    refine AW.retv ⟨_, rfl⟩ rfl ?_
    rw [cl8 hi8]
    exact ⟨only_trans only_set (only_trans only_set (only_trans only_set (only_trans only_set only_set))), rep_become hR⟩
  · skip
    refine AW.run 1 [false] (8, [(0, .inr (.inr (2, a, 0))), (1, .inl (nI i)), (2, .inl (nI k)), (3, .inl (nI f))], [], σ) [¬ icP .ne (0 : Int32) 0] rfl ?_ ?_
    · exact allP1 (by decide : ¬ (¬ (0 : Int32) = 0))
    refine AW.retv ⟨_, rfl⟩ rfl ?_
    exact absurd rfl (hp2 i hi)
set_option maxHeartbeats 4000000 in
set_option maxRecDepth 100000 in
theorem c3_add (a : Nat) (S : Sv) (σ : St) (hR : RepS (σ 2 a) S) (hO : SOK S) (k f p : Nat) (hn : Sn S < 8) (hk : k ≤ 5) (hf : f ≤ 9) : Ct M3_add 3 [.inr (.inr (2, a, 0)), .inl (nI k), .inl (nI f), .inl (nI p)] σ (PV fun σ' => Only 2 a σ σ' ∧ RepS (σ' 2 a) (addS S k f p)) := by
  refine Ct.of f_3_add (Nat.le_of_ble_eq_true rfl) ?_
  show AW M3_add 3 _ (0, [(0, .inr (.inr (2, a, 0))), (1, .inl (nI k)), (2, .inl (nI f)), (3, .inl (nI p))], [], σ)
  have e7 : σ 2 a 0 7 = nI (Sn S) := hR.1.1
  have e8 : σ 2 a 0 8 = bI (Sw S) := hR.1.2.1
  refine AW.run 2 [] (4, [(0, .inr (.inr (2, a, 0))), (1, .inl (nI k)), (2, .inl (nI f)), (3, .inl (nI p))], [.inl (σ 2 a 0 7)], σ) [] rfl ?_ ?_
  · exact trivial
  rw [e7]
  refine AW.run 3 [false] (11, [(0, .inr (.inr (2, a, 0))), (1, .inl (nI k)), (2, .inl (nI f)), (3, .inl (nI p))], [.inl (σ 2 a 0 7)], σ) [¬ icP .lt (nI (Sn S)) 0] rfl ?_ ?_
  · exact allP1 (nlt0 (by omega))
  rw [e7]
  refine AW.run 4 [true] (21, [(0, .inr (.inr (2, a, 0))), (1, .inl (nI k)), (2, .inl (nI f)), (3, .inl (nI p))], [.inl (σ 2 a 0 7)], σ) [icP .lt (nI (Sn S)) 8] rfl ?_ ?_
  · exact allP1 (nI_lt (b := 8) hn (by decide))
  rw [e7]
  refine AW.run 6 [] (30, [(4, .inl (nI (Sn S))), (0, .inr (.inr (2, a, 0))), (1, .inl (nI k)), (2, .inl (nI f)), (3, .inl (nI p))], [.inl ((σ 2 a 0 7) + 1), .inr (.inr (2, a, 0))], σ) [] rfl ?_ ?_
  · exact trivial
  rw [e7, nI_1]
  refine AW.run 8 [] (43, [(4, .inl (nI (Sn S))), (0, .inr (.inr (2, a, 0))), (1, .inl (nI k)), (2, .inl (nI f)), (3, .inl (nI p))], [.inl (((setM σ 2 a 0 7 (nI (Sn S + 1))) 2 a 0 8) ||| (1 <<< ((nI (Sn S)) &&& 31))), .inr (.inr (2, a, 0))], (setM σ 2 a 0 7 (nI (Sn S + 1)))) [] rfl ?_ ?_
  · exact trivial
  rw [show ((setM σ 2 a 0 7 (nI (Sn S + 1))) 2 a 0 8) ||| (1 <<< ((nI (Sn S)) &&& 31)) = bI (fu (Sw S) (Sn S) true) by simp only [setM_at]; rw [if_neg (by decide), e8]; exact bI_set _ hn]
  refine AW.run 10 [] (59, [(4, .inl (nI (Sn S))), (0, .inr (.inr (2, a, 0))), (1, .inl (nI k)), (2, .inl (nI f)), (3, .inl (nI p))], [.inl (nI f), .inl (nI k), .inl (nI (Sn S)), .inr (.inr (2, a, 0))], (setM (setM (setM σ 2 a 0 7 (nI (Sn S + 1))) 2 a 0 8 (bI (fu (Sw S) (Sn S) true))) 2 a 3 (nI (Sn S)).toNatClampNeg (nI p))) [vp_in (nI (Sn S)) 8] rfl ?_ ?_
  · exact allP1 (by exact in8 hn)
  refine AW.callVV (d' := 2) [.inl (nI (Sn S)), .inl (nI k), .inl (nI f)] [] ⟨_, rfl⟩ f_3_become v_3_become l_3_62 ⟨rfl, by decide⟩ rfl (Nat.le_of_ble_eq_true rfl) rfl (Nat.le_of_ble_eq_true rfl) (c3_become a (addE S p) (setM (setM (setM σ 2 a 0 7 (nI (Sn S + 1))) 2 a 0 8 (bI (fu (Sw S) (Sn S) true))) 2 a 3 (nI (Sn S)).toNatClampNeg (nI p)) (Sn S) k f (by rw [cl8 hn]; exact rep_addE hR) hn (Nat.lt_succ_self _) hk hf hO.2.2.2.1 hO.2.2.2.2) ?_
  rintro τ1 ⟨hB1, hB2⟩
  refine AW.retv ⟨_, rfl⟩ rfl ?_
  exact ⟨only_trans only_set (only_trans only_set (only_trans only_set hB1)), hB2⟩
