/-! THE ARMY'S QUESTIONS -/
theorem botP_some {F : Gv} {k : Nat} {f : Nat → Int32 × Gv} (hk : k < Sn F.1) (hn : Sn F.1 ≤ 8) : botP F (nI k) f = f k := by
  unfold botP; rw [botI_some hk (by omega)]
theorem botP_none {F : Gv} {x : Int32} {f : Nat → Int32 × Gv} (h : ∀ k, k < Sn F.1 → x ≠ nI k) : botP F x f = rfu F 1 := by
  unfold botP; rw [botI_none h]
theorem maxP_e4 {F : Gv} {M : Nat} {x : Int32} {f : Nat → Int32 × Gv} (h : fMax M x = 4) : maxP F M x f = rfu F 4 := by
  unfold maxP; rw [h]; rfl
theorem maxP_e6 {F : Gv} {M : Nat} {x : Int32} {f : Nat → Int32 × Gv} (h : fMax M x = 6) : maxP F M x f = rfu F 6 := by
  unfold maxP; rw [h]; rfl
theorem maxP_e0 {F : Gv} {M n : Nat} {f : Nat → Int32 × Gv} (h : fMax M (nI n) = 0) (hn : n < 2 ^ 31) : maxP F M (nI n) f = f n := by
  unfold maxP; rw [h]; show f (nI n).toNatClampNeg = _; rw [nI_clamp hn]
theorem twoP_0 {F : Gv} {f : Nat → Int32 × Gv} : twoP F 0 f = f 0 := rfl
theorem twoP_1 {F : Gv} {f : Nat → Int32 × Gv} : twoP F 1 f = f 1 := rfl
theorem twoP_N {F : Gv} {x : Int32} {f : Nat → Int32 × Gv} (h0 : ¬ x = 0) (h1 : ¬ x = 1) : twoP F x f = rfu F 2 := by
  unfold twoP; rw [if_neg h0, if_neg h1]
theorem whP_t {F : Gv} {k : Nat} {r : Int32 × Gv} (h : Sw F.1 k = true) : whP F k r = r := if_pos h
theorem whP_f {F : Gv} {k : Nat} {r : Int32 × Gv} (h : Sw F.1 k = false) : whP F k r = rfu F 3 := if_neg (by rw [h]; decide)
theorem ne_01 {x : Int32} (h : x = 1) : ¬ x = 0 := by rw [h]; decide
theorem ge_of {x y : Int32} (h : ¬ x < y) : y ≤ x := Int32.not_lt.mp h
theorem nge_of {x y : Int32} (h : x < y) : ¬ y ≤ x := Int32.not_le.mpr h
theorem sh_div {u n : Nat} (hu : u ≤ 9) (hn : n ≤ 9) (h0 : ¬ n < 1) : nI u / nI n = nI (u / n) ∧ nI u - nI u / nI n * nI n = nI (u % n) ∧ ¬ nI n = 0 := by
  have h : ∀ u < 10, ∀ n < 10, ¬ n < 1 → nI u / nI n = nI (u / n) ∧ nI u - nI u / nI n * nI n = nI (u % n) ∧ ¬ nI n = 0 := by decide +kernel
  exact h u (by omega) n (by omega) h0
theorem lt1_or (n : Int32) : (n < 1) ∨ ∃ k, ¬ k < 1 ∧ k < 2 ^ 31 ∧ n = nI k ∧ ¬ n < 1 := by
  by_cases h : n < 1
  · exact Or.inl h
  · have h0 : ¬ n < 0 := by
      intro q
      rw [Int32.lt_iff_toInt_lt] at h q
      have e0 : (0 : Int32).toInt = 0 := by decide
      have e1 : (1 : Int32).toInt = 1 := by decide
      omega
    obtain ⟨k, hk, rfl⟩ := nI_of h0
    refine Or.inr ⟨k, ?_, hk, rfl, h⟩
    intro q
    have : k = 0 := by omega
    subst this
    exact h (by decide)
theorem spare_e {b p : Nat} (hb : b ≤ 99) (hp : p ≤ 99) : (if (0 : Int32) < nI b - nI p then nI b - nI p else 0) = nI (b - p) := by
  have h : ∀ b < 100, ∀ p < 100, (if (0 : Int32) < nI b - nI p then nI b - nI p else 0) = nI (b - p) := by decide +kernel
  exact h b (by omega) p (by omega)

theorem fM0 {M n : Nat} (h : n ≤ M) (hM : M < 2 ^ 31) : fMax M (nI n) = 0 := by
  unfold fMax; rw [if_neg (nI_pos (by omega)), if_neg (nI_nlt h hM)]
theorem fM6 {M n : Nat} (h : M < n) (hn : n < 2 ^ 31) : fMax M (nI n) = 6 := by
  unfold fMax; rw [if_neg (nI_pos hn), if_pos (nI_lt h hn)]
set_option maxHeartbeats 4000000 in
set_option maxRecDepth 100000 in
theorem c5_pressIn (F : Gv) (σ : St) (hA : RepA σ F) (hF : FOK F) (b : Int32) (n : Int32) : Ct M5_pressIn 5 [.inr (.inr (4, 0, 0)), .inl b, .inl n] σ (QA σ (pressInP F b n)) := by
  refine Ct.of f_5_pressIn (Nat.le_of_ble_eq_true rfl) ?_
  show AW M5_pressIn 5 _ (0, [(0, .inr (.inr (4, 0, 0))), (1, .inl b), (2, .inl n)], [], σ)
  have hS : RepS (σ 2 0) F.1 := hA.1
  have hO : SOK F.1 := hF.1.1
  have hn8 : Sn F.1 ≤ 8 := hO.1
  rcases bot_or (Sn F.1) b with ⟨k, hk, rfl⟩ | hnok
  · skip
    rcases fMax_or 60 (by decide) n with ⟨h4n1, en1⟩ | ⟨h4n1, h6n1, en1⟩ | ⟨n1, hn1, rfl, en1⟩
    · skip
      refine AW.run 3 [] (5, [(0, .inr (.inr (4, 0, 0))), (1, .inl (nI k)), (2, .inl n)], [.inl (nI k), .inr (.inr (2, 0, 0))], σ) [] rfl ?_ ?_
      · exact trivial
      refine AW.callVI (d' := 0) [.inl (nI k)] [] ⟨_, rfl⟩ f_3_has v_3_has l_5_74 ⟨rfl, by decide⟩ rfl (Nat.le_of_ble_eq_true rfl) rfl (Nat.le_of_ble_eq_true rfl) (c3_has 0 F.1 σ hS hO (nI k)) ?_
      rintro v _ ⟨rfl, hv⟩
      obtain rfl : v = 1 := by
        rcases hv with h | h
        · exact h.1
        · exact absurd rfl (h.2 k hk)
      refine AW.run 2 [true] (18, [(0, .inr (.inr (4, 0, 0))), (1, .inl (nI k)), (2, .inl n)], [.inl n], σ) [icP .ne (1 : Int32) 0] rfl ?_ ?_
      · exact allP1 (by decide : (¬ (1 : Int32) = 0))
      refine AW.callSI (d' := 0) [.inl n] [] ⟨_, rfl⟩ f_5_aheadFault s_5_aheadFault l_5_156 rfl (Nat.le_of_ble_eq_true rfl) rfl (Nat.le_of_ble_eq_true rfl) (c5_aheadFault4 n h4n1 σ) ?_
      rintro _ _ ⟨rfl, rfl⟩
      refine AW.run 5 [false] (28, [(3, .inl (-4)), (0, .inr (.inr (4, 0, 0))), (1, .inl (nI k)), (2, .inl n)], [.inl (-4), .inr (.inr (4, 0, 0))], σ) [¬ icP .eq ((-4) : Int32) 0] rfl ?_ ?_
      · exact allP1 (by decide : ¬ (((-4) : Int32) = 0))
      refine AW.callVI (d' := 0) [.inl (-4)] [] ⟨_, rfl⟩ f_5_refuse v_5_refuse l_5_50 ⟨rfl, by decide⟩ rfl (Nat.le_of_ble_eq_true rfl) rfl (Nat.le_of_ble_eq_true rfl) (c5_refuse4 σ) ?_
      rintro _ _ ⟨rfl, rfl⟩
      refine AW.reti ⟨_, rfl⟩ rfl ?_
      exact ⟨rfuF F 4, (by unfold pressInP; rw [botP_some hk hn8, maxP_e4 en1]; try rfl), RepA_ref hA (by decide) (by decide)⟩
    · skip
      refine AW.run 3 [] (5, [(0, .inr (.inr (4, 0, 0))), (1, .inl (nI k)), (2, .inl n)], [.inl (nI k), .inr (.inr (2, 0, 0))], σ) [] rfl ?_ ?_
      · exact trivial
      refine AW.callVI (d' := 0) [.inl (nI k)] [] ⟨_, rfl⟩ f_3_has v_3_has l_5_74 ⟨rfl, by decide⟩ rfl (Nat.le_of_ble_eq_true rfl) rfl (Nat.le_of_ble_eq_true rfl) (c3_has 0 F.1 σ hS hO (nI k)) ?_
      rintro v _ ⟨rfl, hv⟩
      obtain rfl : v = 1 := by
        rcases hv with h | h
        · exact h.1
        · exact absurd rfl (h.2 k hk)
      refine AW.run 2 [true] (18, [(0, .inr (.inr (4, 0, 0))), (1, .inl (nI k)), (2, .inl n)], [.inl n], σ) [icP .ne (1 : Int32) 0] rfl ?_ ?_
      · exact allP1 (by decide : (¬ (1 : Int32) = 0))
      refine AW.callSI (d' := 0) [.inl n] [] ⟨_, rfl⟩ f_5_aheadFault s_5_aheadFault l_5_156 rfl (Nat.le_of_ble_eq_true rfl) rfl (Nat.le_of_ble_eq_true rfl) (c5_aheadFault6 n h4n1 h6n1 σ) ?_
      rintro _ _ ⟨rfl, rfl⟩
      refine AW.run 5 [false] (28, [(3, .inl (-6)), (0, .inr (.inr (4, 0, 0))), (1, .inl (nI k)), (2, .inl n)], [.inl (-6), .inr (.inr (4, 0, 0))], σ) [¬ icP .eq ((-6) : Int32) 0] rfl ?_ ?_
      · exact allP1 (by decide : ¬ (((-6) : Int32) = 0))
      refine AW.callVI (d' := 0) [.inl (-6)] [] ⟨_, rfl⟩ f_5_refuse v_5_refuse l_5_50 ⟨rfl, by decide⟩ rfl (Nat.le_of_ble_eq_true rfl) rfl (Nat.le_of_ble_eq_true rfl) (c5_refuse6 σ) ?_
      rintro _ _ ⟨rfl, rfl⟩
      refine AW.reti ⟨_, rfl⟩ rfl ?_
      exact ⟨rfuF F 6, (by unfold pressInP; rw [botP_some hk hn8, maxP_e6 en1]; try rfl), RepA_ref hA (by decide) (by decide)⟩
    · skip
      refine AW.run 3 [] (5, [(0, .inr (.inr (4, 0, 0))), (1, .inl (nI k)), (2, .inl (nI n1))], [.inl (nI k), .inr (.inr (2, 0, 0))], σ) [] rfl ?_ ?_
      · exact trivial
      refine AW.callVI (d' := 0) [.inl (nI k)] [] ⟨_, rfl⟩ f_3_has v_3_has l_5_74 ⟨rfl, by decide⟩ rfl (Nat.le_of_ble_eq_true rfl) rfl (Nat.le_of_ble_eq_true rfl) (c3_has 0 F.1 σ hS hO (nI k)) ?_
      rintro v _ ⟨rfl, hv⟩
      obtain rfl : v = 1 := by
        rcases hv with h | h
        · exact h.1
        · exact absurd rfl (h.2 k hk)
      refine AW.run 2 [true] (18, [(0, .inr (.inr (4, 0, 0))), (1, .inl (nI k)), (2, .inl (nI n1))], [.inl (nI n1)], σ) [icP .ne (1 : Int32) 0] rfl ?_ ?_
      · exact allP1 (by decide : (¬ (1 : Int32) = 0))
      refine AW.callSI (d' := 0) [.inl (nI n1)] [] ⟨_, rfl⟩ f_5_aheadFault s_5_aheadFault l_5_156 rfl (Nat.le_of_ble_eq_true rfl) rfl (Nat.le_of_ble_eq_true rfl) (c5_aheadFault0 n1 hn1 σ) ?_
      rintro _ _ ⟨rfl, rfl⟩
      refine AW.run 8 [true] (41, [(3, .inl 0), (0, .inr (.inr (4, 0, 0))), (1, .inl (nI k)), (2, .inl (nI n1))], [.inl (nI n1), .inr (.inr (2, 0, 0)), .inr (.inr (0, 0, 0))], σ) [icP .eq (0 : Int32) 0] rfl ?_ ?_
      · exact allP1 (by decide : ((0 : Int32) = 0))
      refine AW.callVR (d' := 4) [.inr (.inr (2, 0, 0)), .inl (nI n1)] [] ⟨_, rfl⟩ f_1_ahead v_1_ahead l_5_159 ⟨rfl, by decide⟩ rfl (Nat.le_of_ble_eq_true rfl) rfl (Nat.le_of_ble_eq_true rfl) (c1_ahead F.1 σ hS hO n1 (by omega)) ?_
      rintro _ τ1 ⟨rfl, hM1, b1⟩
      refine AW.run 1 [] (45, [(3, .inl 0), (0, .inr (.inr (4, 0, 0))), (1, .inl (nI k)), (2, .inl (nI n1))], [.inl (nI k), .inr (.inr (2, 3, 0))], τ1) [] rfl ?_ ?_
      · exact trivial
      refine AW.callVI (d' := 1) [.inl (nI k)] [] ⟨_, rfl⟩ f_3_pressOf v_3_pressOf l_5_87 ⟨rfl, by decide⟩ rfl (Nat.le_of_ble_eq_true rfl) rfl (Nat.le_of_ble_eq_true rfl) (c3_pressOf 3 (passS n1 F.1) τ1 b1 (SOK_pass _ hO) k (by rw [pass_n]; exact hk)) ?_
      rintro _ _ ⟨rfl, rfl⟩
      refine AW.reti ⟨_, rfl⟩ rfl ?_
      exact ⟨F, (by unfold pressInP; rw [botP_some hk hn8, maxP_e0 en1 (by omega)]; try rfl), RepA_mind (onlyM_of hM1) hA⟩
  · skip
    refine AW.run 3 [] (5, [(0, .inr (.inr (4, 0, 0))), (1, .inl b), (2, .inl n)], [.inl b, .inr (.inr (2, 0, 0))], σ) [] rfl ?_ ?_
    · exact trivial
    refine AW.callVI (d' := 0) [.inl b] [] ⟨_, rfl⟩ f_3_has v_3_has l_5_74 ⟨rfl, by decide⟩ rfl (Nat.le_of_ble_eq_true rfl) rfl (Nat.le_of_ble_eq_true rfl) (c3_has 0 F.1 σ hS hO b) ?_
    rintro v _ ⟨rfl, hv⟩
    obtain rfl : v = 0 := by
      rcases hv with h | h
      · exact absurd h.2.choose_spec.2 (hnok _ h.2.choose_spec.1)
      · exact h.1
    refine AW.run 3 [false] (13, [(0, .inr (.inr (4, 0, 0))), (1, .inl b), (2, .inl n)], [.inl (-1), .inr (.inr (4, 0, 0))], σ) [¬ icP .ne (0 : Int32) 0] rfl ?_ ?_
    · exact allP1 (by decide : ¬ (¬ (0 : Int32) = 0))
    refine AW.callVI (d' := 0) [.inl (-1)] [] ⟨_, rfl⟩ f_5_refuse v_5_refuse l_5_50 ⟨rfl, by decide⟩ rfl (Nat.le_of_ble_eq_true rfl) rfl (Nat.le_of_ble_eq_true rfl) (c5_refuse1 σ) ?_
    rintro _ _ ⟨rfl, rfl⟩
    refine AW.reti ⟨_, rfl⟩ rfl ?_
    exact ⟨rfuF F 1, (by unfold pressInP; rw [botP_none hnok]; try rfl), RepA_ref hA (by decide) (by decide)⟩
set_option maxHeartbeats 4000000 in
set_option maxRecDepth 100000 in
theorem c5_quiet (F : Gv) (σ : St) (hA : RepA σ F) (hF : FOK F) : Ct M5_quiet 4 [.inr (.inr (4, 0, 0))] σ (QA σ (quietP F)) := by
  refine Ct.of f_5_quiet (Nat.le_of_ble_eq_true rfl) ?_
  show AW M5_quiet 4 _ (0, [(0, .inr (.inr (4, 0, 0)))], [], σ)
  have hS : RepS (σ 2 0) F.1 := hA.1
  have hO : SOK F.1 := hF.1.1
  have hn8 : Sn F.1 ≤ 8 := hO.1
  refine AW.run 4 [] (8, [(0, .inr (.inr (4, 0, 0)))], [.inr (.inr (2, 0, 0)), .inr (.inr (0, 0, 0))], σ) [] rfl ?_ ?_
  · exact trivial
  refine AW.callVI (d' := 3) [.inr (.inr (2, 0, 0))] [] ⟨_, rfl⟩ f_1_longestQuiet v_1_longestQuiet l_5_174 ⟨rfl, by decide⟩ rfl (Nat.le_of_ble_eq_true rfl) rfl (Nat.le_of_ble_eq_true rfl) (c1_longestQuiet F.1 σ hS hO ) ?_
  rintro _ τ2 ⟨rfl, hM2⟩
  refine AW.reti ⟨_, rfl⟩ rfl ?_
  exact ⟨F, (by unfold quietP; try rfl), RepA_mind (onlyM_of hM2) hA⟩
set_option maxHeartbeats 4000000 in
set_option maxRecDepth 100000 in
theorem c5_takes (F : Gv) (σ : St) (hA : RepA σ F) (hF : FOK F) (b : Int32) : Ct M5_takes 3 [.inr (.inr (4, 0, 0)), .inl b] σ (QA σ (takesP F b)) := by
  refine Ct.of f_5_takes (Nat.le_of_ble_eq_true rfl) ?_
  show AW M5_takes 3 _ (0, [(0, .inr (.inr (4, 0, 0))), (1, .inl b)], [], σ)
  have hS : RepS (σ 2 0) F.1 := hA.1
  have hO : SOK F.1 := hF.1.1
  have hn8 : Sn F.1 ≤ 8 := hO.1
  rcases bot_or (Sn F.1) b with ⟨k, hk, rfl⟩ | hnok
  · skip
    cases hw : Sw F.1 k
    · skip
      refine AW.run 3 [] (5, [(0, .inr (.inr (4, 0, 0))), (1, .inl (nI k))], [.inl (nI k), .inr (.inr (2, 0, 0))], σ) [] rfl ?_ ?_
      · exact trivial
      refine AW.callVI (d' := 0) [.inl (nI k)] [] ⟨_, rfl⟩ f_3_has v_3_has l_5_74 ⟨rfl, by decide⟩ rfl (Nat.le_of_ble_eq_true rfl) rfl (Nat.le_of_ble_eq_true rfl) (c3_has 0 F.1 σ hS hO (nI k)) ?_
      rintro v _ ⟨rfl, hv⟩
      obtain rfl : v = 1 := by
        rcases hv with h | h
        · exact h.1
        · exact absurd rfl (h.2 k hk)
      refine AW.run 4 [true] (22, [(0, .inr (.inr (4, 0, 0))), (1, .inl (nI k))], [.inl (nI k), .inr (.inr (2, 0, 0))], σ) [icP .ne (1 : Int32) 0] rfl ?_ ?_
      · exact allP1 (by decide : (¬ (1 : Int32) = 0))
      refine AW.callVI (d' := 0) [.inl (nI k)] [] ⟨_, rfl⟩ f_3_isWhole v_3_isWhole l_5_90 ⟨rfl, by decide⟩ rfl (Nat.le_of_ble_eq_true rfl) rfl (Nat.le_of_ble_eq_true rfl) (c3_isWhole 0 F.1 σ hS hO k (by omega)) ?_
      rintro v _ ⟨rfl, hv⟩
      obtain rfl : v = 0 := by
        rcases hv with h | h
        · exact absurd (hw.symm.trans h.2) (by decide)
        · exact h.1
      refine AW.run 3 [false] (31, [(0, .inr (.inr (4, 0, 0))), (1, .inl (nI k))], [.inl (-3), .inr (.inr (4, 0, 0))], σ) [¬ icP .ne (0 : Int32) 0] rfl ?_ ?_
      · exact allP1 (by decide : ¬ (¬ (0 : Int32) = 0))
      refine AW.callVI (d' := 0) [.inl (-3)] [] ⟨_, rfl⟩ f_5_refuse v_5_refuse l_5_50 ⟨rfl, by decide⟩ rfl (Nat.le_of_ble_eq_true rfl) rfl (Nat.le_of_ble_eq_true rfl) (c5_refuse3 σ) ?_
      rintro _ _ ⟨rfl, rfl⟩
      refine AW.reti ⟨_, rfl⟩ rfl ?_
      exact ⟨rfuF F 3, (by unfold takesP; rw [botP_some hk hn8, whP_f hw]; try rfl), RepA_ref hA (by decide) (by decide)⟩
    · skip
      refine AW.run 3 [] (5, [(0, .inr (.inr (4, 0, 0))), (1, .inl (nI k))], [.inl (nI k), .inr (.inr (2, 0, 0))], σ) [] rfl ?_ ?_
      · exact trivial
      refine AW.callVI (d' := 0) [.inl (nI k)] [] ⟨_, rfl⟩ f_3_has v_3_has l_5_74 ⟨rfl, by decide⟩ rfl (Nat.le_of_ble_eq_true rfl) rfl (Nat.le_of_ble_eq_true rfl) (c3_has 0 F.1 σ hS hO (nI k)) ?_
      rintro v _ ⟨rfl, hv⟩
      obtain rfl : v = 1 := by
        rcases hv with h | h
        · exact h.1
        · exact absurd rfl (h.2 k hk)
      refine AW.run 4 [true] (22, [(0, .inr (.inr (4, 0, 0))), (1, .inl (nI k))], [.inl (nI k), .inr (.inr (2, 0, 0))], σ) [icP .ne (1 : Int32) 0] rfl ?_ ?_
      · exact allP1 (by decide : (¬ (1 : Int32) = 0))
      refine AW.callVI (d' := 0) [.inl (nI k)] [] ⟨_, rfl⟩ f_3_isWhole v_3_isWhole l_5_90 ⟨rfl, by decide⟩ rfl (Nat.le_of_ble_eq_true rfl) rfl (Nat.le_of_ble_eq_true rfl) (c3_isWhole 0 F.1 σ hS hO k (by omega)) ?_
      rintro v _ ⟨rfl, hv⟩
      obtain rfl : v = 1 := by
        rcases hv with h | h
        · exact h.1
        · exact absurd (hw.symm.trans h.2) (by decide)
      refine AW.run 6 [true] (44, [(0, .inr (.inr (4, 0, 0))), (1, .inl (nI k))], [.inl (nI k), .inr (.inr (2, 0, 0)), .inr (.inr (0, 0, 0))], σ) [icP .ne (1 : Int32) 0] rfl ?_ ?_
      · exact allP1 (by decide : (¬ (1 : Int32) = 0))
      refine AW.callVI (d' := 2) [.inr (.inr (2, 0, 0)), .inl (nI k)] [] ⟨_, rfl⟩ f_1_takenBy v_1_takenBy l_5_177 ⟨rfl, by decide⟩ rfl (Nat.le_of_ble_eq_true rfl) rfl (Nat.le_of_ble_eq_true rfl) (c1_takenBy F.1 σ hS hO k hk) ?_
      rintro _ τ3 ⟨rfl, hM3⟩
      refine AW.reti ⟨_, rfl⟩ rfl ?_
      exact ⟨F, (by unfold takesP; rw [botP_some hk hn8, whP_t hw]; try rfl), RepA_mind (onlyM_of hM3) hA⟩
  · skip
    refine AW.run 3 [] (5, [(0, .inr (.inr (4, 0, 0))), (1, .inl b)], [.inl b, .inr (.inr (2, 0, 0))], σ) [] rfl ?_ ?_
    · exact trivial
    refine AW.callVI (d' := 0) [.inl b] [] ⟨_, rfl⟩ f_3_has v_3_has l_5_74 ⟨rfl, by decide⟩ rfl (Nat.le_of_ble_eq_true rfl) rfl (Nat.le_of_ble_eq_true rfl) (c3_has 0 F.1 σ hS hO b) ?_
    rintro v _ ⟨rfl, hv⟩
    obtain rfl : v = 0 := by
      rcases hv with h | h
      · exact absurd h.2.choose_spec.2 (hnok _ h.2.choose_spec.1)
      · exact h.1
    refine AW.run 3 [false] (13, [(0, .inr (.inr (4, 0, 0))), (1, .inl b)], [.inl (-1), .inr (.inr (4, 0, 0))], σ) [¬ icP .ne (0 : Int32) 0] rfl ?_ ?_
    · exact allP1 (by decide : ¬ (¬ (0 : Int32) = 0))
    refine AW.callVI (d' := 0) [.inl (-1)] [] ⟨_, rfl⟩ f_5_refuse v_5_refuse l_5_50 ⟨rfl, by decide⟩ rfl (Nat.le_of_ble_eq_true rfl) rfl (Nat.le_of_ble_eq_true rfl) (c5_refuse1 σ) ?_
    rintro _ _ ⟨rfl, rfl⟩
    refine AW.reti ⟨_, rfl⟩ rfl ?_
    exact ⟨rfuF F 1, (by unfold takesP; rw [botP_none hnok]; try rfl), RepA_ref hA (by decide) (by decide)⟩
set_option maxHeartbeats 4000000 in
set_option maxRecDepth 100000 in
theorem c5_safe (F : Gv) (σ : St) (hA : RepA σ F) (hF : FOK F) (b : Int32) (n : Int32) : Ct M5_safe 6 [.inr (.inr (4, 0, 0)), .inl b, .inl n] σ (QA σ (safeP F b n)) := by
  refine Ct.of f_5_safe (Nat.le_of_ble_eq_true rfl) ?_
  show AW M5_safe 6 _ (0, [(0, .inr (.inr (4, 0, 0))), (1, .inl b), (2, .inl n)], [], σ)
  have hS : RepS (σ 2 0) F.1 := hA.1
  have hO : SOK F.1 := hF.1.1
  have hn8 : Sn F.1 ≤ 8 := hO.1
  rcases bot_or (Sn F.1) b with ⟨k, hk, rfl⟩ | hnok
  · skip
    rcases fMax_or 60 (by decide) n with ⟨h4n1, en1⟩ | ⟨h4n1, h6n1, en1⟩ | ⟨n1, hn1, rfl, en1⟩
    · skip
      refine AW.run 3 [] (5, [(0, .inr (.inr (4, 0, 0))), (1, .inl (nI k)), (2, .inl n)], [.inl (nI k), .inr (.inr (2, 0, 0))], σ) [] rfl ?_ ?_
      · exact trivial
      refine AW.callVI (d' := 0) [.inl (nI k)] [] ⟨_, rfl⟩ f_3_has v_3_has l_5_74 ⟨rfl, by decide⟩ rfl (Nat.le_of_ble_eq_true rfl) rfl (Nat.le_of_ble_eq_true rfl) (c3_has 0 F.1 σ hS hO (nI k)) ?_
      rintro v _ ⟨rfl, hv⟩
      obtain rfl : v = 1 := by
        rcases hv with h | h
        · exact h.1
        · exact absurd rfl (h.2 k hk)
      refine AW.run 2 [true] (18, [(0, .inr (.inr (4, 0, 0))), (1, .inl (nI k)), (2, .inl n)], [.inl n], σ) [icP .ne (1 : Int32) 0] rfl ?_ ?_
      · exact allP1 (by decide : (¬ (1 : Int32) = 0))
      refine AW.callSI (d' := 0) [.inl n] [] ⟨_, rfl⟩ f_5_aheadFault s_5_aheadFault l_5_156 rfl (Nat.le_of_ble_eq_true rfl) rfl (Nat.le_of_ble_eq_true rfl) (c5_aheadFault4 n h4n1 σ) ?_
      rintro _ _ ⟨rfl, rfl⟩
      refine AW.run 5 [false] (28, [(3, .inl (-4)), (0, .inr (.inr (4, 0, 0))), (1, .inl (nI k)), (2, .inl n)], [.inl (-4), .inr (.inr (4, 0, 0))], σ) [¬ icP .eq ((-4) : Int32) 0] rfl ?_ ?_
      · exact allP1 (by decide : ¬ (((-4) : Int32) = 0))
      refine AW.callVI (d' := 0) [.inl (-4)] [] ⟨_, rfl⟩ f_5_refuse v_5_refuse l_5_50 ⟨rfl, by decide⟩ rfl (Nat.le_of_ble_eq_true rfl) rfl (Nat.le_of_ble_eq_true rfl) (c5_refuse4 σ) ?_
      rintro _ _ ⟨rfl, rfl⟩
      refine AW.reti ⟨_, rfl⟩ rfl ?_
      exact ⟨rfuF F 4, (by unfold safeP; rw [botP_some hk hn8, maxP_e4 en1]; try rfl), RepA_ref hA (by decide) (by decide)⟩
    · skip
      refine AW.run 3 [] (5, [(0, .inr (.inr (4, 0, 0))), (1, .inl (nI k)), (2, .inl n)], [.inl (nI k), .inr (.inr (2, 0, 0))], σ) [] rfl ?_ ?_
      · exact trivial
      refine AW.callVI (d' := 0) [.inl (nI k)] [] ⟨_, rfl⟩ f_3_has v_3_has l_5_74 ⟨rfl, by decide⟩ rfl (Nat.le_of_ble_eq_true rfl) rfl (Nat.le_of_ble_eq_true rfl) (c3_has 0 F.1 σ hS hO (nI k)) ?_
      rintro v _ ⟨rfl, hv⟩
      obtain rfl : v = 1 := by
        rcases hv with h | h
        · exact h.1
        · exact absurd rfl (h.2 k hk)
      refine AW.run 2 [true] (18, [(0, .inr (.inr (4, 0, 0))), (1, .inl (nI k)), (2, .inl n)], [.inl n], σ) [icP .ne (1 : Int32) 0] rfl ?_ ?_
      · exact allP1 (by decide : (¬ (1 : Int32) = 0))
      refine AW.callSI (d' := 0) [.inl n] [] ⟨_, rfl⟩ f_5_aheadFault s_5_aheadFault l_5_156 rfl (Nat.le_of_ble_eq_true rfl) rfl (Nat.le_of_ble_eq_true rfl) (c5_aheadFault6 n h4n1 h6n1 σ) ?_
      rintro _ _ ⟨rfl, rfl⟩
      refine AW.run 5 [false] (28, [(3, .inl (-6)), (0, .inr (.inr (4, 0, 0))), (1, .inl (nI k)), (2, .inl n)], [.inl (-6), .inr (.inr (4, 0, 0))], σ) [¬ icP .eq ((-6) : Int32) 0] rfl ?_ ?_
      · exact allP1 (by decide : ¬ (((-6) : Int32) = 0))
      refine AW.callVI (d' := 0) [.inl (-6)] [] ⟨_, rfl⟩ f_5_refuse v_5_refuse l_5_50 ⟨rfl, by decide⟩ rfl (Nat.le_of_ble_eq_true rfl) rfl (Nat.le_of_ble_eq_true rfl) (c5_refuse6 σ) ?_
      rintro _ _ ⟨rfl, rfl⟩
      refine AW.reti ⟨_, rfl⟩ rfl ?_
      exact ⟨rfuF F 6, (by unfold safeP; rw [botP_some hk hn8, maxP_e6 en1]; try rfl), RepA_ref hA (by decide) (by decide)⟩
    · skip
      cases hw : Sw F.1 k
      · skip
        refine AW.run 3 [] (5, [(0, .inr (.inr (4, 0, 0))), (1, .inl (nI k)), (2, .inl (nI n1))], [.inl (nI k), .inr (.inr (2, 0, 0))], σ) [] rfl ?_ ?_
        · exact trivial
        refine AW.callVI (d' := 0) [.inl (nI k)] [] ⟨_, rfl⟩ f_3_has v_3_has l_5_74 ⟨rfl, by decide⟩ rfl (Nat.le_of_ble_eq_true rfl) rfl (Nat.le_of_ble_eq_true rfl) (c3_has 0 F.1 σ hS hO (nI k)) ?_
        rintro v _ ⟨rfl, hv⟩
        obtain rfl : v = 1 := by
          rcases hv with h | h
          · exact h.1
          · exact absurd rfl (h.2 k hk)
        refine AW.run 2 [true] (18, [(0, .inr (.inr (4, 0, 0))), (1, .inl (nI k)), (2, .inl (nI n1))], [.inl (nI n1)], σ) [icP .ne (1 : Int32) 0] rfl ?_ ?_
        · exact allP1 (by decide : (¬ (1 : Int32) = 0))
        refine AW.callSI (d' := 0) [.inl (nI n1)] [] ⟨_, rfl⟩ f_5_aheadFault s_5_aheadFault l_5_156 rfl (Nat.le_of_ble_eq_true rfl) rfl (Nat.le_of_ble_eq_true rfl) (c5_aheadFault0 n1 hn1 σ) ?_
        rintro _ _ ⟨rfl, rfl⟩
        refine AW.run 6 [true] (37, [(3, .inl 0), (0, .inr (.inr (4, 0, 0))), (1, .inl (nI k)), (2, .inl (nI n1))], [.inl (nI k), .inr (.inr (2, 0, 0))], σ) [icP .eq (0 : Int32) 0] rfl ?_ ?_
        · exact allP1 (by decide : ((0 : Int32) = 0))
        refine AW.callVI (d' := 0) [.inl (nI k)] [] ⟨_, rfl⟩ f_3_isWhole v_3_isWhole l_5_90 ⟨rfl, by decide⟩ rfl (Nat.le_of_ble_eq_true rfl) rfl (Nat.le_of_ble_eq_true rfl) (c3_isWhole 0 F.1 σ hS hO k (by omega)) ?_
        rintro v _ ⟨rfl, hv⟩
        obtain rfl : v = 0 := by
          rcases hv with h | h
          · exact absurd (hw.symm.trans h.2) (by decide)
          · exact h.1
        refine AW.run 3 [false] (46, [(3, .inl 0), (0, .inr (.inr (4, 0, 0))), (1, .inl (nI k)), (2, .inl (nI n1))], [.inl (-3), .inr (.inr (4, 0, 0))], σ) [¬ icP .ne (0 : Int32) 0] rfl ?_ ?_
        · exact allP1 (by decide : ¬ (¬ (0 : Int32) = 0))
        refine AW.callVI (d' := 0) [.inl (-3)] [] ⟨_, rfl⟩ f_5_refuse v_5_refuse l_5_50 ⟨rfl, by decide⟩ rfl (Nat.le_of_ble_eq_true rfl) rfl (Nat.le_of_ble_eq_true rfl) (c5_refuse3 σ) ?_
        rintro _ _ ⟨rfl, rfl⟩
        refine AW.reti ⟨_, rfl⟩ rfl ?_
        exact ⟨rfuF F 3, (by unfold safeP; rw [botP_some hk hn8, maxP_e0 en1 (by omega), whP_f hw]; try rfl), RepA_ref hA (by decide) (by decide)⟩
      · skip
        refine AW.run 3 [] (5, [(0, .inr (.inr (4, 0, 0))), (1, .inl (nI k)), (2, .inl (nI n1))], [.inl (nI k), .inr (.inr (2, 0, 0))], σ) [] rfl ?_ ?_
        · exact trivial
        refine AW.callVI (d' := 0) [.inl (nI k)] [] ⟨_, rfl⟩ f_3_has v_3_has l_5_74 ⟨rfl, by decide⟩ rfl (Nat.le_of_ble_eq_true rfl) rfl (Nat.le_of_ble_eq_true rfl) (c3_has 0 F.1 σ hS hO (nI k)) ?_
        rintro v _ ⟨rfl, hv⟩
        obtain rfl : v = 1 := by
          rcases hv with h | h
          · exact h.1
          · exact absurd rfl (h.2 k hk)
        refine AW.run 2 [true] (18, [(0, .inr (.inr (4, 0, 0))), (1, .inl (nI k)), (2, .inl (nI n1))], [.inl (nI n1)], σ) [icP .ne (1 : Int32) 0] rfl ?_ ?_
        · exact allP1 (by decide : (¬ (1 : Int32) = 0))
        refine AW.callSI (d' := 0) [.inl (nI n1)] [] ⟨_, rfl⟩ f_5_aheadFault s_5_aheadFault l_5_156 rfl (Nat.le_of_ble_eq_true rfl) rfl (Nat.le_of_ble_eq_true rfl) (c5_aheadFault0 n1 hn1 σ) ?_
        rintro _ _ ⟨rfl, rfl⟩
        refine AW.run 6 [true] (37, [(3, .inl 0), (0, .inr (.inr (4, 0, 0))), (1, .inl (nI k)), (2, .inl (nI n1))], [.inl (nI k), .inr (.inr (2, 0, 0))], σ) [icP .eq (0 : Int32) 0] rfl ?_ ?_
        · exact allP1 (by decide : ((0 : Int32) = 0))
        refine AW.callVI (d' := 0) [.inl (nI k)] [] ⟨_, rfl⟩ f_3_isWhole v_3_isWhole l_5_90 ⟨rfl, by decide⟩ rfl (Nat.le_of_ble_eq_true rfl) rfl (Nat.le_of_ble_eq_true rfl) (c3_isWhole 0 F.1 σ hS hO k (by omega)) ?_
        rintro v _ ⟨rfl, hv⟩
        obtain rfl : v = 1 := by
          rcases hv with h | h
          · exact h.1
          · exact absurd (hw.symm.trans h.2) (by decide)
        refine AW.run 7 [true] (60, [(3, .inl 0), (0, .inr (.inr (4, 0, 0))), (1, .inl (nI k)), (2, .inl (nI n1))], [.inl (nI n1), .inl (nI k), .inr (.inr (2, 0, 0)), .inr (.inr (0, 0, 0))], σ) [icP .ne (1 : Int32) 0] rfl ?_ ?_
        · exact allP1 (by decide : (¬ (1 : Int32) = 0))
        refine AW.callVI (d' := 5) [.inr (.inr (2, 0, 0)), .inl (nI k), .inl (nI n1)] [] ⟨_, rfl⟩ f_1_safestPlace v_1_safestPlace l_5_183 ⟨rfl, by decide⟩ rfl (Nat.le_of_ble_eq_true rfl) rfl (Nat.le_of_ble_eq_true rfl) (c1_safestPlace F.1 σ hS hO k n1 hk (by omega)) ?_
        rintro _ τ4 ⟨rfl, hM4⟩
        refine AW.reti ⟨_, rfl⟩ rfl ?_
        exact ⟨F, (by unfold safeP; rw [botP_some hk hn8, maxP_e0 en1 (by omega), whP_t hw]; try rfl), RepA_mind (onlyM_of hM4) hA⟩
  · skip
    refine AW.run 3 [] (5, [(0, .inr (.inr (4, 0, 0))), (1, .inl b), (2, .inl n)], [.inl b, .inr (.inr (2, 0, 0))], σ) [] rfl ?_ ?_
    · exact trivial
    refine AW.callVI (d' := 0) [.inl b] [] ⟨_, rfl⟩ f_3_has v_3_has l_5_74 ⟨rfl, by decide⟩ rfl (Nat.le_of_ble_eq_true rfl) rfl (Nat.le_of_ble_eq_true rfl) (c3_has 0 F.1 σ hS hO b) ?_
    rintro v _ ⟨rfl, hv⟩
    obtain rfl : v = 0 := by
      rcases hv with h | h
      · exact absurd h.2.choose_spec.2 (hnok _ h.2.choose_spec.1)
      · exact h.1
    refine AW.run 3 [false] (13, [(0, .inr (.inr (4, 0, 0))), (1, .inl b), (2, .inl n)], [.inl (-1), .inr (.inr (4, 0, 0))], σ) [¬ icP .ne (0 : Int32) 0] rfl ?_ ?_
    · exact allP1 (by decide : ¬ (¬ (0 : Int32) = 0))
    refine AW.callVI (d' := 0) [.inl (-1)] [] ⟨_, rfl⟩ f_5_refuse v_5_refuse l_5_50 ⟨rfl, by decide⟩ rfl (Nat.le_of_ble_eq_true rfl) rfl (Nat.le_of_ble_eq_true rfl) (c5_refuse1 σ) ?_
    rintro _ _ ⟨rfl, rfl⟩
    refine AW.reti ⟨_, rfl⟩ rfl ?_
    exact ⟨rfuF F 1, (by unfold safeP; rw [botP_none hnok]; try rfl), RepA_ref hA (by decide) (by decide)⟩
set_option maxHeartbeats 4000000 in
set_option maxRecDepth 100000 in
theorem c5_towel (F : Gv) (σ : St) (hA : RepA σ F) (hF : FOK F) (n : Int32) : Ct M5_towel 6 [.inr (.inr (4, 0, 0)), .inl n] σ (QA σ (towelP F n)) := by
  refine Ct.of f_5_towel (Nat.le_of_ble_eq_true rfl) ?_
  show AW M5_towel 6 _ (0, [(0, .inr (.inr (4, 0, 0))), (1, .inl n)], [], σ)
  have hS : RepS (σ 2 0) F.1 := hA.1
  have hO : SOK F.1 := hF.1.1
  have hn8 : Sn F.1 ≤ 8 := hO.1
  rcases fMax_or 60 (by decide) n with ⟨h4n1, en1⟩ | ⟨h4n1, h6n1, en1⟩ | ⟨n1, hn1, rfl, en1⟩
  · skip
    refine AW.run 1 [] (1, [(0, .inr (.inr (4, 0, 0))), (1, .inl n)], [.inl n], σ) [] rfl ?_ ?_
    · exact trivial
    refine AW.callSI (d' := 0) [.inl n] [] ⟨_, rfl⟩ f_5_aheadFault s_5_aheadFault l_5_156 rfl (Nat.le_of_ble_eq_true rfl) rfl (Nat.le_of_ble_eq_true rfl) (c5_aheadFault4 n h4n1 σ) ?_
    rintro _ _ ⟨rfl, rfl⟩
    refine AW.run 5 [false] (11, [(2, .inl (-4)), (0, .inr (.inr (4, 0, 0))), (1, .inl n)], [.inl (-4), .inr (.inr (4, 0, 0))], σ) [¬ icP .eq ((-4) : Int32) 0] rfl ?_ ?_
    · exact allP1 (by decide : ¬ (((-4) : Int32) = 0))
    refine AW.callVI (d' := 0) [.inl (-4)] [] ⟨_, rfl⟩ f_5_refuse v_5_refuse l_5_50 ⟨rfl, by decide⟩ rfl (Nat.le_of_ble_eq_true rfl) rfl (Nat.le_of_ble_eq_true rfl) (c5_refuse4 σ) ?_
    rintro _ _ ⟨rfl, rfl⟩
    refine AW.reti ⟨_, rfl⟩ rfl ?_
    exact ⟨rfuF F 4, (by unfold towelP; rw [maxP_e4 en1]; try rfl), RepA_ref hA (by decide) (by decide)⟩
  · skip
    refine AW.run 1 [] (1, [(0, .inr (.inr (4, 0, 0))), (1, .inl n)], [.inl n], σ) [] rfl ?_ ?_
    · exact trivial
    refine AW.callSI (d' := 0) [.inl n] [] ⟨_, rfl⟩ f_5_aheadFault s_5_aheadFault l_5_156 rfl (Nat.le_of_ble_eq_true rfl) rfl (Nat.le_of_ble_eq_true rfl) (c5_aheadFault6 n h4n1 h6n1 σ) ?_
    rintro _ _ ⟨rfl, rfl⟩
    refine AW.run 5 [false] (11, [(2, .inl (-6)), (0, .inr (.inr (4, 0, 0))), (1, .inl n)], [.inl (-6), .inr (.inr (4, 0, 0))], σ) [¬ icP .eq ((-6) : Int32) 0] rfl ?_ ?_
    · exact allP1 (by decide : ¬ (((-6) : Int32) = 0))
    refine AW.callVI (d' := 0) [.inl (-6)] [] ⟨_, rfl⟩ f_5_refuse v_5_refuse l_5_50 ⟨rfl, by decide⟩ rfl (Nat.le_of_ble_eq_true rfl) rfl (Nat.le_of_ble_eq_true rfl) (c5_refuse6 σ) ?_
    rintro _ _ ⟨rfl, rfl⟩
    refine AW.reti ⟨_, rfl⟩ rfl ?_
    exact ⟨rfuF F 6, (by unfold towelP; rw [maxP_e6 en1]; try rfl), RepA_ref hA (by decide) (by decide)⟩
  · skip
    refine AW.run 1 [] (1, [(0, .inr (.inr (4, 0, 0))), (1, .inl (nI n1))], [.inl (nI n1)], σ) [] rfl ?_ ?_
    · exact trivial
    refine AW.callSI (d' := 0) [.inl (nI n1)] [] ⟨_, rfl⟩ f_5_aheadFault s_5_aheadFault l_5_156 rfl (Nat.le_of_ble_eq_true rfl) rfl (Nat.le_of_ble_eq_true rfl) (c5_aheadFault0 n1 hn1 σ) ?_
    rintro _ _ ⟨rfl, rfl⟩
    refine AW.run 8 [true] (24, [(2, .inl 0), (0, .inr (.inr (4, 0, 0))), (1, .inl (nI n1))], [.inl (nI n1), .inr (.inr (2, 0, 0)), .inr (.inr (0, 0, 0))], σ) [icP .eq (0 : Int32) 0] rfl ?_ ?_
    · exact allP1 (by decide : ((0 : Int32) = 0))
    refine AW.callVI (d' := 5) [.inr (.inr (2, 0, 0)), .inl (nI n1)] [] ⟨_, rfl⟩ f_1_oneToCover v_1_oneToCover l_5_187 ⟨rfl, by decide⟩ rfl (Nat.le_of_ble_eq_true rfl) rfl (Nat.le_of_ble_eq_true rfl) (c1_oneToCover F.1 σ hS hO n1 (by omega)) ?_
    rintro _ τ5 ⟨rfl, hM5⟩
    refine AW.reti ⟨_, rfl⟩ rfl ?_
    exact ⟨F, (by unfold towelP; rw [maxP_e0 en1 (by omega)]; try rfl), RepA_mind (onlyM_of hM5) hA⟩
set_option maxHeartbeats 4000000 in
set_option maxRecDepth 100000 in
theorem c5_out (F : Gv) (σ : St) (hA : RepA σ F) (hF : FOK F) (n : Int32) : Ct M5_out 6 [.inr (.inr (4, 0, 0)), .inl n] σ (QA σ (outP F n)) := by
  refine Ct.of f_5_out (Nat.le_of_ble_eq_true rfl) ?_
  show AW M5_out 6 _ (0, [(0, .inr (.inr (4, 0, 0))), (1, .inl n)], [], σ)
  have hS : RepS (σ 2 0) F.1 := hA.1
  have hO : SOK F.1 := hF.1.1
  have hn8 : Sn F.1 ≤ 8 := hO.1
  rcases fMax_or 60 (by decide) n with ⟨h4n1, en1⟩ | ⟨h4n1, h6n1, en1⟩ | ⟨n1, hn1, rfl, en1⟩
  · skip
    refine AW.run 1 [] (1, [(0, .inr (.inr (4, 0, 0))), (1, .inl n)], [.inl n], σ) [] rfl ?_ ?_
    · exact trivial
    refine AW.callSI (d' := 0) [.inl n] [] ⟨_, rfl⟩ f_5_aheadFault s_5_aheadFault l_5_156 rfl (Nat.le_of_ble_eq_true rfl) rfl (Nat.le_of_ble_eq_true rfl) (c5_aheadFault4 n h4n1 σ) ?_
    rintro _ _ ⟨rfl, rfl⟩
    refine AW.run 5 [false] (11, [(2, .inl (-4)), (0, .inr (.inr (4, 0, 0))), (1, .inl n)], [.inl (-4), .inr (.inr (4, 0, 0))], σ) [¬ icP .eq ((-4) : Int32) 0] rfl ?_ ?_
    · exact allP1 (by decide : ¬ (((-4) : Int32) = 0))
    refine AW.callVI (d' := 0) [.inl (-4)] [] ⟨_, rfl⟩ f_5_refuse v_5_refuse l_5_50 ⟨rfl, by decide⟩ rfl (Nat.le_of_ble_eq_true rfl) rfl (Nat.le_of_ble_eq_true rfl) (c5_refuse4 σ) ?_
    rintro _ _ ⟨rfl, rfl⟩
    refine AW.reti ⟨_, rfl⟩ rfl ?_
    exact ⟨rfuF F 4, (by unfold outP; rw [maxP_e4 en1]; try rfl), RepA_ref hA (by decide) (by decide)⟩
  · skip
    refine AW.run 1 [] (1, [(0, .inr (.inr (4, 0, 0))), (1, .inl n)], [.inl n], σ) [] rfl ?_ ?_
    · exact trivial
    refine AW.callSI (d' := 0) [.inl n] [] ⟨_, rfl⟩ f_5_aheadFault s_5_aheadFault l_5_156 rfl (Nat.le_of_ble_eq_true rfl) rfl (Nat.le_of_ble_eq_true rfl) (c5_aheadFault6 n h4n1 h6n1 σ) ?_
    rintro _ _ ⟨rfl, rfl⟩
    refine AW.run 5 [false] (11, [(2, .inl (-6)), (0, .inr (.inr (4, 0, 0))), (1, .inl n)], [.inl (-6), .inr (.inr (4, 0, 0))], σ) [¬ icP .eq ((-6) : Int32) 0] rfl ?_ ?_
    · exact allP1 (by decide : ¬ (((-6) : Int32) = 0))
    refine AW.callVI (d' := 0) [.inl (-6)] [] ⟨_, rfl⟩ f_5_refuse v_5_refuse l_5_50 ⟨rfl, by decide⟩ rfl (Nat.le_of_ble_eq_true rfl) rfl (Nat.le_of_ble_eq_true rfl) (c5_refuse6 σ) ?_
    rintro _ _ ⟨rfl, rfl⟩
    refine AW.reti ⟨_, rfl⟩ rfl ?_
    exact ⟨rfuF F 6, (by unfold outP; rw [maxP_e6 en1]; try rfl), RepA_ref hA (by decide) (by decide)⟩
  · skip
    refine AW.run 1 [] (1, [(0, .inr (.inr (4, 0, 0))), (1, .inl (nI n1))], [.inl (nI n1)], σ) [] rfl ?_ ?_
    · exact trivial
    refine AW.callSI (d' := 0) [.inl (nI n1)] [] ⟨_, rfl⟩ f_5_aheadFault s_5_aheadFault l_5_156 rfl (Nat.le_of_ble_eq_true rfl) rfl (Nat.le_of_ble_eq_true rfl) (c5_aheadFault0 n1 hn1 σ) ?_
    rintro _ _ ⟨rfl, rfl⟩
    refine AW.run 8 [true] (24, [(2, .inl 0), (0, .inr (.inr (4, 0, 0))), (1, .inl (nI n1))], [.inl (nI n1), .inr (.inr (2, 0, 0)), .inr (.inr (0, 0, 0))], σ) [icP .eq (0 : Int32) 0] rfl ?_ ?_
    · exact allP1 (by decide : ((0 : Int32) = 0))
    refine AW.callVI (d' := 5) [.inr (.inr (2, 0, 0)), .inl (nI n1)] [] ⟨_, rfl⟩ f_1_oneToLetOut v_1_oneToLetOut l_5_196 ⟨rfl, by decide⟩ rfl (Nat.le_of_ble_eq_true rfl) rfl (Nat.le_of_ble_eq_true rfl) (c1_oneToLetOut F.1 σ hS hO n1 (by omega)) ?_
    rintro _ τ6 ⟨rfl, hM6⟩
    refine AW.reti ⟨_, rfl⟩ rfl ?_
    exact ⟨F, (by unfold outP; rw [maxP_e0 en1 (by omega)]; try rfl), RepA_mind (onlyM_of hM6) hA⟩
set_option maxHeartbeats 4000000 in
set_option maxRecDepth 100000 in
theorem c5_move (F : Gv) (σ : St) (hA : RepA σ F) (hF : FOK F) (n : Int32) : Ct M5_move 6 [.inr (.inr (4, 0, 0)), .inl n] σ (QA σ (moveP F n)) := by
  refine Ct.of f_5_move (Nat.le_of_ble_eq_true rfl) ?_
  show AW M5_move 6 _ (0, [(0, .inr (.inr (4, 0, 0))), (1, .inl n)], [], σ)
  have hS : RepS (σ 2 0) F.1 := hA.1
  have hO : SOK F.1 := hF.1.1
  have hn8 : Sn F.1 ≤ 8 := hO.1
  rcases fMax_or 60 (by decide) n with ⟨h4n1, en1⟩ | ⟨h4n1, h6n1, en1⟩ | ⟨n1, hn1, rfl, en1⟩
  · skip
    refine AW.run 1 [] (1, [(0, .inr (.inr (4, 0, 0))), (1, .inl n)], [.inl n], σ) [] rfl ?_ ?_
    · exact trivial
    refine AW.callSI (d' := 0) [.inl n] [] ⟨_, rfl⟩ f_5_aheadFault s_5_aheadFault l_5_156 rfl (Nat.le_of_ble_eq_true rfl) rfl (Nat.le_of_ble_eq_true rfl) (c5_aheadFault4 n h4n1 σ) ?_
    rintro _ _ ⟨rfl, rfl⟩
    refine AW.run 5 [false] (11, [(2, .inl (-4)), (0, .inr (.inr (4, 0, 0))), (1, .inl n)], [.inl (-4), .inr (.inr (4, 0, 0))], σ) [¬ icP .eq ((-4) : Int32) 0] rfl ?_ ?_
    · exact allP1 (by decide : ¬ (((-4) : Int32) = 0))
    refine AW.callVI (d' := 0) [.inl (-4)] [] ⟨_, rfl⟩ f_5_refuse v_5_refuse l_5_50 ⟨rfl, by decide⟩ rfl (Nat.le_of_ble_eq_true rfl) rfl (Nat.le_of_ble_eq_true rfl) (c5_refuse4 σ) ?_
    rintro _ _ ⟨rfl, rfl⟩
    refine AW.reti ⟨_, rfl⟩ rfl ?_
    exact ⟨rfuF F 4, (by unfold moveP; rw [maxP_e4 en1]; try rfl), RepA_ref hA (by decide) (by decide)⟩
  · skip
    refine AW.run 1 [] (1, [(0, .inr (.inr (4, 0, 0))), (1, .inl n)], [.inl n], σ) [] rfl ?_ ?_
    · exact trivial
    refine AW.callSI (d' := 0) [.inl n] [] ⟨_, rfl⟩ f_5_aheadFault s_5_aheadFault l_5_156 rfl (Nat.le_of_ble_eq_true rfl) rfl (Nat.le_of_ble_eq_true rfl) (c5_aheadFault6 n h4n1 h6n1 σ) ?_
    rintro _ _ ⟨rfl, rfl⟩
    refine AW.run 5 [false] (11, [(2, .inl (-6)), (0, .inr (.inr (4, 0, 0))), (1, .inl n)], [.inl (-6), .inr (.inr (4, 0, 0))], σ) [¬ icP .eq ((-6) : Int32) 0] rfl ?_ ?_
    · exact allP1 (by decide : ¬ (((-6) : Int32) = 0))
    refine AW.callVI (d' := 0) [.inl (-6)] [] ⟨_, rfl⟩ f_5_refuse v_5_refuse l_5_50 ⟨rfl, by decide⟩ rfl (Nat.le_of_ble_eq_true rfl) rfl (Nat.le_of_ble_eq_true rfl) (c5_refuse6 σ) ?_
    rintro _ _ ⟨rfl, rfl⟩
    refine AW.reti ⟨_, rfl⟩ rfl ?_
    exact ⟨rfuF F 6, (by unfold moveP; rw [maxP_e6 en1]; try rfl), RepA_ref hA (by decide) (by decide)⟩
  · skip
    refine AW.run 1 [] (1, [(0, .inr (.inr (4, 0, 0))), (1, .inl (nI n1))], [.inl (nI n1)], σ) [] rfl ?_ ?_
    · exact trivial
    refine AW.callSI (d' := 0) [.inl (nI n1)] [] ⟨_, rfl⟩ f_5_aheadFault s_5_aheadFault l_5_156 rfl (Nat.le_of_ble_eq_true rfl) rfl (Nat.le_of_ble_eq_true rfl) (c5_aheadFault0 n1 hn1 σ) ?_
    rintro _ _ ⟨rfl, rfl⟩
    refine AW.run 8 [true] (24, [(2, .inl 0), (0, .inr (.inr (4, 0, 0))), (1, .inl (nI n1))], [.inl (nI n1), .inr (.inr (2, 0, 0)), .inr (.inr (0, 0, 0))], σ) [icP .eq (0 : Int32) 0] rfl ?_ ?_
    · exact allP1 (by decide : ((0 : Int32) = 0))
    refine AW.callVI (d' := 5) [.inr (.inr (2, 0, 0)), .inl (nI n1)] [] ⟨_, rfl⟩ f_1_bestChange v_1_bestChange l_5_206 ⟨rfl, by decide⟩ rfl (Nat.le_of_ble_eq_true rfl) rfl (Nat.le_of_ble_eq_true rfl) (c1_bestChange F.1 σ hS hO n1 (by omega)) ?_
    rintro _ τ7 ⟨rfl, hM7⟩
    refine AW.reti ⟨_, rfl⟩ rfl ?_
    exact ⟨F, (by unfold moveP; rw [maxP_e0 en1 (by omega)]; try rfl), RepA_mind (onlyM_of hM7) hA⟩
set_option maxHeartbeats 4000000 in
set_option maxRecDepth 100000 in
theorem c5_feedFor (F : Gv) (σ : St) (hA : RepA σ F) (hF : FOK F) (b : Int32) (v : Int32) : Ct M5_feedFor 4 [.inr (.inr (4, 0, 0)), .inl b, .inl v] σ (QA σ (feedForP F b v)) := by
  refine Ct.of f_5_feedFor (Nat.le_of_ble_eq_true rfl) ?_
  show AW M5_feedFor 4 _ (0, [(0, .inr (.inr (4, 0, 0))), (1, .inl b), (2, .inl v)], [], σ)
  have hS : RepS (σ 2 0) F.1 := hA.1
  have hO : SOK F.1 := hF.1.1
  have hn8 : Sn F.1 ≤ 8 := hO.1
  rcases bot_or (Sn F.1) b with ⟨k, hk, rfl⟩ | hnok
  · skip
    rcases fMax_or 99 (by decide) v with ⟨h4v1, ev1⟩ | ⟨h4v1, h6v1, ev1⟩ | ⟨v1, hv1, rfl, ev1⟩
    · skip
      refine AW.run 3 [] (5, [(0, .inr (.inr (4, 0, 0))), (1, .inl (nI k)), (2, .inl v)], [.inl (nI k), .inr (.inr (2, 0, 0))], σ) [] rfl ?_ ?_
      · exact trivial
      refine AW.callVI (d' := 0) [.inl (nI k)] [] ⟨_, rfl⟩ f_3_has v_3_has l_5_74 ⟨rfl, by decide⟩ rfl (Nat.le_of_ble_eq_true rfl) rfl (Nat.le_of_ble_eq_true rfl) (c3_has 0 F.1 σ hS hO (nI k)) ?_
      rintro v _ ⟨rfl, hv⟩
      obtain rfl : v = 1 := by
        rcases hv with h | h
        · exact h.1
        · exact absurd rfl (h.2 k hk)
      refine AW.run 5 [true, false] (24, [(0, .inr (.inr (4, 0, 0))), (1, .inl (nI k)), (2, .inl v)], [.inl (-4), .inr (.inr (4, 0, 0))], σ) [icP .ne (1 : Int32) 0, ¬ icP .ge v 0] rfl ?_ ?_
      · exact ⟨(by decide : (¬ (1 : Int32) = 0)), allP1 (nge_of h4v1)⟩
      refine AW.callVI (d' := 0) [.inl (-4)] [] ⟨_, rfl⟩ f_5_refuse v_5_refuse l_5_50 ⟨rfl, by decide⟩ rfl (Nat.le_of_ble_eq_true rfl) rfl (Nat.le_of_ble_eq_true rfl) (c5_refuse4 σ) ?_
      rintro _ _ ⟨rfl, rfl⟩
      refine AW.reti ⟨_, rfl⟩ rfl ?_
      exact ⟨rfuF F 4, (by unfold feedForP; rw [botP_some hk hn8, maxP_e4 ev1]; try rfl), RepA_ref hA (by decide) (by decide)⟩
    · skip
      refine AW.run 3 [] (5, [(0, .inr (.inr (4, 0, 0))), (1, .inl (nI k)), (2, .inl v)], [.inl (nI k), .inr (.inr (2, 0, 0))], σ) [] rfl ?_ ?_
      · exact trivial
      refine AW.callVI (d' := 0) [.inl (nI k)] [] ⟨_, rfl⟩ f_3_has v_3_has l_5_74 ⟨rfl, by decide⟩ rfl (Nat.le_of_ble_eq_true rfl) rfl (Nat.le_of_ble_eq_true rfl) (c3_has 0 F.1 σ hS hO (nI k)) ?_
      rintro v _ ⟨rfl, hv⟩
      obtain rfl : v = 1 := by
        rcases hv with h | h
        · exact h.1
        · exact absurd rfl (h.2 k hk)
      refine AW.run 8 [true, true, false] (37, [(0, .inr (.inr (4, 0, 0))), (1, .inl (nI k)), (2, .inl v)], [.inl (-6), .inr (.inr (4, 0, 0))], σ) [icP .ne (1 : Int32) 0, icP .ge v 0, ¬ icP .le v 99] rfl ?_ ?_
      · exact ⟨(by decide : (¬ (1 : Int32) = 0)), (ge_of h4v1), allP1 (nge_of h6v1)⟩
      refine AW.callVI (d' := 0) [.inl (-6)] [] ⟨_, rfl⟩ f_5_refuse v_5_refuse l_5_50 ⟨rfl, by decide⟩ rfl (Nat.le_of_ble_eq_true rfl) rfl (Nat.le_of_ble_eq_true rfl) (c5_refuse6 σ) ?_
      rintro _ _ ⟨rfl, rfl⟩
      refine AW.reti ⟨_, rfl⟩ rfl ?_
      exact ⟨rfuF F 6, (by unfold feedForP; rw [botP_some hk hn8, maxP_e6 ev1]; try rfl), RepA_ref hA (by decide) (by decide)⟩
    · skip
      refine AW.run 3 [] (5, [(0, .inr (.inr (4, 0, 0))), (1, .inl (nI k)), (2, .inl (nI v1))], [.inl (nI k), .inr (.inr (2, 0, 0))], σ) [] rfl ?_ ?_
      · exact trivial
      refine AW.callVI (d' := 0) [.inl (nI k)] [] ⟨_, rfl⟩ f_3_has v_3_has l_5_74 ⟨rfl, by decide⟩ rfl (Nat.le_of_ble_eq_true rfl) rfl (Nat.le_of_ble_eq_true rfl) (c3_has 0 F.1 σ hS hO (nI k)) ?_
      rintro v _ ⟨rfl, hv⟩
      obtain rfl : v = 1 := by
        rcases hv with h | h
        · exact h.1
        · exact absurd rfl (h.2 k hk)
      refine AW.run 12 [true, true, true] (51, [(0, .inr (.inr (4, 0, 0))), (1, .inl (nI k)), (2, .inl (nI v1))], [.inl (nI v1), .inl (nI k), .inr (.inr (2, 0, 0)), .inr (.inr (0, 0, 0))], σ) [icP .ne (1 : Int32) 0, icP .ge (nI v1) 0, icP .le (nI v1) 99] rfl ?_ ?_
      · exact ⟨(by decide : (¬ (1 : Int32) = 0)), (nI_pos' (by omega)), allP1 (nI_le (b := 99) hv1 (by decide))⟩
      refine AW.callVI (d' := 3) [.inr (.inr (2, 0, 0)), .inl (nI k), .inl (nI v1)] [] ⟨_, rfl⟩ f_1_fewestSweetDays v_1_fewestSweetDays l_5_203 ⟨rfl, by decide⟩ rfl (Nat.le_of_ble_eq_true rfl) rfl (Nat.le_of_ble_eq_true rfl) (c1_fewestSweetDays F.1 σ hS hO k v1 hk (by omega)) ?_
      rintro _ τ8 ⟨rfl, hM8⟩
      refine AW.reti ⟨_, rfl⟩ rfl ?_
      exact ⟨F, (by unfold feedForP; rw [botP_some hk hn8, maxP_e0 ev1 (by omega)]; try rfl), RepA_mind (onlyM_of hM8) hA⟩
  · skip
    refine AW.run 3 [] (5, [(0, .inr (.inr (4, 0, 0))), (1, .inl b), (2, .inl v)], [.inl b, .inr (.inr (2, 0, 0))], σ) [] rfl ?_ ?_
    · exact trivial
    refine AW.callVI (d' := 0) [.inl b] [] ⟨_, rfl⟩ f_3_has v_3_has l_5_74 ⟨rfl, by decide⟩ rfl (Nat.le_of_ble_eq_true rfl) rfl (Nat.le_of_ble_eq_true rfl) (c3_has 0 F.1 σ hS hO b) ?_
    rintro v _ ⟨rfl, hv⟩
    obtain rfl : v = 0 := by
      rcases hv with h | h
      · exact absurd h.2.choose_spec.2 (hnok _ h.2.choose_spec.1)
      · exact h.1
    refine AW.run 3 [false] (13, [(0, .inr (.inr (4, 0, 0))), (1, .inl b), (2, .inl v)], [.inl (-1), .inr (.inr (4, 0, 0))], σ) [¬ icP .ne (0 : Int32) 0] rfl ?_ ?_
    · exact allP1 (by decide : ¬ (¬ (0 : Int32) = 0))
    refine AW.callVI (d' := 0) [.inl (-1)] [] ⟨_, rfl⟩ f_5_refuse v_5_refuse l_5_50 ⟨rfl, by decide⟩ rfl (Nat.le_of_ble_eq_true rfl) rfl (Nat.le_of_ble_eq_true rfl) (c5_refuse1 σ) ?_
    rintro _ _ ⟨rfl, rfl⟩
    refine AW.reti ⟨_, rfl⟩ rfl ?_
    exact ⟨rfuF F 1, (by unfold feedForP; rw [botP_none hnok]; try rfl), RepA_ref hA (by decide) (by decide)⟩
set_option maxHeartbeats 4000000 in
set_option maxRecDepth 100000 in
theorem c5_halved (F : Gv) (σ : St) (hA : RepA σ F) (hF : FOK F) : Ct M5_halved 4 [.inr (.inr (4, 0, 0))] σ (QA σ (halvedP F)) := by
  refine Ct.of f_5_halved (Nat.le_of_ble_eq_true rfl) ?_
  show AW M5_halved 4 _ (0, [(0, .inr (.inr (4, 0, 0)))], [], σ)
  have hS : RepS (σ 2 0) F.1 := hA.1
  have hO : SOK F.1 := hF.1.1
  have hn8 : Sn F.1 ≤ 8 := hO.1
  refine AW.run 4 [] (8, [(0, .inr (.inr (4, 0, 0)))], [.inr (.inr (2, 0, 0)), .inr (.inr (0, 0, 0))], σ) [] rfl ?_ ?_
  · exact trivial
  refine AW.callVI (d' := 3) [.inr (.inr (2, 0, 0))] [] ⟨_, rfl⟩ f_1_daysTillOneGoesHalved v_1_daysTillOneGoesHalved l_5_209 ⟨rfl, by decide⟩ rfl (Nat.le_of_ble_eq_true rfl) rfl (Nat.le_of_ble_eq_true rfl) (c1_daysTillOneGoesHalved F.1 σ hS hO ) ?_
  rintro _ τ9 ⟨rfl, hM9⟩
  refine AW.reti ⟨_, rfl⟩ rfl ?_
  exact ⟨F, (by unfold halvedP; try rfl), RepA_mind (onlyM_of hM9) hA⟩
set_option maxHeartbeats 4000000 in
set_option maxRecDepth 100000 in
theorem c5_whoWent (F : Gv) (σ : St) (hA : RepA σ F) (hF : FOK F) : Ct M5_whoWent 5 [.inr (.inr (4, 0, 0))] σ (QA σ (whoWentP F)) := by
  refine Ct.of f_5_whoWent (Nat.le_of_ble_eq_true rfl) ?_
  show AW M5_whoWent 5 _ (0, [(0, .inr (.inr (4, 0, 0)))], [], σ)
  have hS : RepS (σ 2 0) F.1 := hA.1
  have hO : SOK F.1 := hF.1.1
  have hn8 : Sn F.1 ≤ 8 := hO.1
  refine AW.run 8 [] (16, [(0, .inr (.inr (4, 0, 0)))], [.inl (σ 4 0 0 8), .inr (.inr (4, 0, 7)), .inr (.inr (2, 0, 0)), .inr (.inr (0, 0, 0))], σ) [] rfl ?_ ?_
  · exact trivial
  rw [hA.2.2.1.1]
  refine AW.callVI (d' := 4) [.inr (.inr (2, 0, 0)), .inr (.inr (4, 0, 7)), .inl (nI F.2.2.1.1)] [] ⟨_, rfl⟩ f_1_whoLeaves v_1_whoLeaves l_5_215 ⟨rfl, by decide⟩ rfl (Nat.le_of_ble_eq_true rfl) rfl (Nat.le_of_ble_eq_true rfl) (c1_whoLeaves F.1 σ hS hO F.2.2.1.2 F.2.2.1.1 hA.2.2.1.2) ?_
  rintro _ τ10 ⟨rfl, hM10⟩
  refine AW.reti ⟨_, rfl⟩ rfl ?_
  exact ⟨F, (by unfold whoWentP; try rfl), RepA_mind (onlyM_of hM10) hA⟩
set_option maxHeartbeats 4000000 in
set_option maxRecDepth 100000 in
theorem c5_whatKind (F : Gv) (σ : St) (hA : RepA σ F) (hF : FOK F) (b : Int32) (w : Int32) : Ct M5_whatKind 5 [.inr (.inr (4, 0, 0)), .inl b, .inl w] σ (QA σ (whatKindP F b w)) := by
  refine Ct.of f_5_whatKind (Nat.le_of_ble_eq_true rfl) ?_
  show AW M5_whatKind 5 _ (0, [(0, .inr (.inr (4, 0, 0))), (1, .inl b), (2, .inl w)], [], σ)
  have hS : RepS (σ 2 0) F.1 := hA.1
  have hO : SOK F.1 := hF.1.1
  have hn8 : Sn F.1 ≤ 8 := hO.1
  rcases bot_or (Sn F.1) b with ⟨k, hk, rfl⟩ | hnok
  · skip
    by_cases h0w : w = 0
    · subst h0w
      refine AW.run 3 [] (5, [(0, .inr (.inr (4, 0, 0))), (1, .inl (nI k)), (2, .inl 0)], [.inl (nI k), .inr (.inr (2, 0, 0))], σ) [] rfl ?_ ?_
      · exact trivial
      refine AW.callVI (d' := 0) [.inl (nI k)] [] ⟨_, rfl⟩ f_3_has v_3_has l_5_74 ⟨rfl, by decide⟩ rfl (Nat.le_of_ble_eq_true rfl) rfl (Nat.le_of_ble_eq_true rfl) (c3_has 0 F.1 σ hS hO (nI k)) ?_
      rintro v _ ⟨rfl, hv⟩
      obtain rfl : v = 1 := by
        rcases hv with h | h
        · exact h.1
        · exact absurd rfl (h.2 k hk)
      refine AW.run 2 [true] (18, [(0, .inr (.inr (4, 0, 0))), (1, .inl (nI k)), (2, .inl 0)], [.inl 0], σ) [icP .ne (1 : Int32) 0] rfl ?_ ?_
      · exact allP1 (by decide : (¬ (1 : Int32) = 0))
      refine AW.callSI (d' := 0) [.inl 0] [] ⟨_, rfl⟩ f_5_isNoTwo s_5_isNoTwo l_5_114 rfl (Nat.le_of_ble_eq_true rfl) rfl (Nat.le_of_ble_eq_true rfl) (c5_isNoTwo0 σ) ?_
      rintro _ _ ⟨rfl, rfl⟩
      refine AW.run 12 [true, false] (52, [(0, .inr (.inr (4, 0, 0))), (1, .inl (nI k)), (2, .inl 0)], [.inl (σ 4 0 0 8), .inr (.inr (4, 0, 7)), .inl (nI k), .inr (.inr (2, 0, 0)), .inr (.inr (0, 0, 0))], σ) [icP .eq (0 : Int32) 0, ¬ icP .ne (0 : Int32) 0] rfl ?_ ?_
      · exact ⟨(by decide : ((0 : Int32) = 0)), allP1 (by decide : ¬ (¬ (0 : Int32) = 0))⟩
      rw [hA.2.2.1.1]
      refine AW.callVI (d' := 4) [.inr (.inr (2, 0, 0)), .inl (nI k), .inr (.inr (4, 0, 7)), .inl (nI F.2.2.1.1)] [] ⟨_, rfl⟩ f_1_kindsThatPress v_1_kindsThatPress l_5_219 ⟨rfl, by decide⟩ rfl (Nat.le_of_ble_eq_true rfl) rfl (Nat.le_of_ble_eq_true rfl) (c1_kindsThatPress F.1 σ hS hO k hk F.2.2.1.2 F.2.2.1.1 hA.2.2.1.2) ?_
      rintro _ τ11 ⟨rfl, hM11⟩
      refine AW.reti ⟨_, rfl⟩ rfl ?_
      exact ⟨F, (by unfold whatKindP; rw [botP_some hk hn8, twoP_0]; try rfl), RepA_mind (onlyM_of hM11) hA⟩
    by_cases h1w : w = 1
    · subst h1w
      refine AW.run 3 [] (5, [(0, .inr (.inr (4, 0, 0))), (1, .inl (nI k)), (2, .inl 1)], [.inl (nI k), .inr (.inr (2, 0, 0))], σ) [] rfl ?_ ?_
      · exact trivial
      refine AW.callVI (d' := 0) [.inl (nI k)] [] ⟨_, rfl⟩ f_3_has v_3_has l_5_74 ⟨rfl, by decide⟩ rfl (Nat.le_of_ble_eq_true rfl) rfl (Nat.le_of_ble_eq_true rfl) (c3_has 0 F.1 σ hS hO (nI k)) ?_
      rintro v _ ⟨rfl, hv⟩
      obtain rfl : v = 1 := by
        rcases hv with h | h
        · exact h.1
        · exact absurd rfl (h.2 k hk)
      refine AW.run 2 [true] (18, [(0, .inr (.inr (4, 0, 0))), (1, .inl (nI k)), (2, .inl 1)], [.inl 1], σ) [icP .ne (1 : Int32) 0] rfl ?_ ?_
      · exact allP1 (by decide : (¬ (1 : Int32) = 0))
      refine AW.callSI (d' := 0) [.inl 1] [] ⟨_, rfl⟩ f_5_isNoTwo s_5_isNoTwo l_5_114 rfl (Nat.le_of_ble_eq_true rfl) rfl (Nat.le_of_ble_eq_true rfl) (c5_isNoTwo1 σ) ?_
      rintro _ _ ⟨rfl, rfl⟩
      refine AW.run 12 [true, true] (73, [(0, .inr (.inr (4, 0, 0))), (1, .inl (nI k)), (2, .inl 1)], [.inl (σ 4 0 0 8), .inr (.inr (4, 0, 7)), .inl (nI k), .inr (.inr (2, 0, 0)), .inr (.inr (0, 0, 0))], σ) [icP .eq (0 : Int32) 0, icP .ne (1 : Int32) 0] rfl ?_ ?_
      · exact ⟨(by decide : ((0 : Int32) = 0)), allP1 (by decide : (¬ (1 : Int32) = 0))⟩
      rw [hA.2.2.1.1]
      refine AW.callVI (d' := 4) [.inr (.inr (2, 0, 0)), .inl (nI k), .inr (.inr (4, 0, 7)), .inl (nI F.2.2.1.1)] [] ⟨_, rfl⟩ f_1_figuresThatPress v_1_figuresThatPress l_5_223 ⟨rfl, by decide⟩ rfl (Nat.le_of_ble_eq_true rfl) rfl (Nat.le_of_ble_eq_true rfl) (c1_figuresThatPress F.1 σ hS hO k hk F.2.2.1.2 F.2.2.1.1 hA.2.2.1.2) ?_
      rintro _ τ12 ⟨rfl, hM12⟩
      refine AW.reti ⟨_, rfl⟩ rfl ?_
      exact ⟨F, (by unfold whatKindP; rw [botP_some hk hn8, twoP_1]; try rfl), RepA_mind (onlyM_of hM12) hA⟩
    · skip
      refine AW.run 3 [] (5, [(0, .inr (.inr (4, 0, 0))), (1, .inl (nI k)), (2, .inl w)], [.inl (nI k), .inr (.inr (2, 0, 0))], σ) [] rfl ?_ ?_
      · exact trivial
      refine AW.callVI (d' := 0) [.inl (nI k)] [] ⟨_, rfl⟩ f_3_has v_3_has l_5_74 ⟨rfl, by decide⟩ rfl (Nat.le_of_ble_eq_true rfl) rfl (Nat.le_of_ble_eq_true rfl) (c3_has 0 F.1 σ hS hO (nI k)) ?_
      rintro v _ ⟨rfl, hv⟩
      obtain rfl : v = 1 := by
        rcases hv with h | h
        · exact h.1
        · exact absurd rfl (h.2 k hk)
      refine AW.run 2 [true] (18, [(0, .inr (.inr (4, 0, 0))), (1, .inl (nI k)), (2, .inl w)], [.inl w], σ) [icP .ne (1 : Int32) 0] rfl ?_ ?_
      · exact allP1 (by decide : (¬ (1 : Int32) = 0))
      refine AW.callSI (d' := 0) [.inl w] [] ⟨_, rfl⟩ f_5_isNoTwo s_5_isNoTwo l_5_114 rfl (Nat.le_of_ble_eq_true rfl) rfl (Nat.le_of_ble_eq_true rfl) (c5_isNoTwoN w h0w h1w σ) ?_
      rintro _ _ ⟨rfl, rfl⟩
      refine AW.run 3 [false] (27, [(0, .inr (.inr (4, 0, 0))), (1, .inl (nI k)), (2, .inl w)], [.inl (-2), .inr (.inr (4, 0, 0))], σ) [¬ icP .eq (1 : Int32) 0] rfl ?_ ?_
      · exact allP1 (by decide : ¬ ((1 : Int32) = 0))
      refine AW.callVI (d' := 0) [.inl (-2)] [] ⟨_, rfl⟩ f_5_refuse v_5_refuse l_5_50 ⟨rfl, by decide⟩ rfl (Nat.le_of_ble_eq_true rfl) rfl (Nat.le_of_ble_eq_true rfl) (c5_refuse2 σ) ?_
      rintro _ _ ⟨rfl, rfl⟩
      refine AW.reti ⟨_, rfl⟩ rfl ?_
      exact ⟨rfuF F 2, (by unfold whatKindP; rw [botP_some hk hn8, twoP_N h0w h1w]; try rfl), RepA_ref hA (by decide) (by decide)⟩
  · skip
    refine AW.run 3 [] (5, [(0, .inr (.inr (4, 0, 0))), (1, .inl b), (2, .inl w)], [.inl b, .inr (.inr (2, 0, 0))], σ) [] rfl ?_ ?_
    · exact trivial
    refine AW.callVI (d' := 0) [.inl b] [] ⟨_, rfl⟩ f_3_has v_3_has l_5_74 ⟨rfl, by decide⟩ rfl (Nat.le_of_ble_eq_true rfl) rfl (Nat.le_of_ble_eq_true rfl) (c3_has 0 F.1 σ hS hO b) ?_
    rintro v _ ⟨rfl, hv⟩
    obtain rfl : v = 0 := by
      rcases hv with h | h
      · exact absurd h.2.choose_spec.2 (hnok _ h.2.choose_spec.1)
      · exact h.1
    refine AW.run 3 [false] (13, [(0, .inr (.inr (4, 0, 0))), (1, .inl b), (2, .inl w)], [.inl (-1), .inr (.inr (4, 0, 0))], σ) [¬ icP .ne (0 : Int32) 0] rfl ?_ ?_
    · exact allP1 (by decide : ¬ (¬ (0 : Int32) = 0))
    refine AW.callVI (d' := 0) [.inl (-1)] [] ⟨_, rfl⟩ f_5_refuse v_5_refuse l_5_50 ⟨rfl, by decide⟩ rfl (Nat.le_of_ble_eq_true rfl) rfl (Nat.le_of_ble_eq_true rfl) (c5_refuse1 σ) ?_
    rintro _ _ ⟨rfl, rfl⟩
    refine AW.reti ⟨_, rfl⟩ rfl ?_
    exact ⟨rfuF F 1, (by unfold whatKindP; rw [botP_none hnok]; try rfl), RepA_ref hA (by decide) (by decide)⟩
set_option maxHeartbeats 4000000 in
set_option maxRecDepth 100000 in
theorem c5_near (F : Gv) (σ : St) (hA : RepA σ F) (hF : FOK F) (b : Int32) : Ct M5_near 2 [.inr (.inr (4, 0, 0)), .inl b] σ (QA σ (nearP F b)) := by
  refine Ct.of f_5_near (Nat.le_of_ble_eq_true rfl) ?_
  show AW M5_near 2 _ (0, [(0, .inr (.inr (4, 0, 0))), (1, .inl b)], [], σ)
  have hS : RepS (σ 2 0) F.1 := hA.1
  have hO : SOK F.1 := hF.1.1
  have hn8 : Sn F.1 ≤ 8 := hO.1
  rcases bot_or (Sn F.1) b with ⟨k, hk, rfl⟩ | hnok
  · skip
    refine AW.run 3 [] (5, [(0, .inr (.inr (4, 0, 0))), (1, .inl (nI k))], [.inl (nI k), .inr (.inr (2, 0, 0))], σ) [] rfl ?_ ?_
    · exact trivial
    refine AW.callVI (d' := 0) [.inl (nI k)] [] ⟨_, rfl⟩ f_3_has v_3_has l_5_74 ⟨rfl, by decide⟩ rfl (Nat.le_of_ble_eq_true rfl) rfl (Nat.le_of_ble_eq_true rfl) (c3_has 0 F.1 σ hS hO (nI k)) ?_
    rintro v _ ⟨rfl, hv⟩
    obtain rfl : v = 1 := by
      rcases hv with h | h
      · exact h.1
      · exact absurd rfl (h.2 k hk)
    refine AW.run 4 [true] (22, [(0, .inr (.inr (4, 0, 0))), (1, .inl (nI k))], [.inl (nI k), .inr (.inr (2, 0, 0))], σ) [icP .ne (1 : Int32) 0] rfl ?_ ?_
    · exact allP1 (by decide : (¬ (1 : Int32) = 0))
    refine AW.callVI (d' := 1) [.inl (nI k)] [] ⟨_, rfl⟩ f_3_nearTo v_3_nearTo l_5_251 ⟨rfl, by decide⟩ rfl (Nat.le_of_ble_eq_true rfl) rfl (Nat.le_of_ble_eq_true rfl) (c3_nearTo 0 F.1 σ hS hO k hk) ?_
    rintro _ _ ⟨rfl, rfl⟩
    refine AW.reti ⟨_, rfl⟩ rfl ?_
    exact ⟨F, (by unfold nearP; rw [botP_some hk hn8]; try rfl), RepA_mind onlyM_rfl hA⟩
  · skip
    refine AW.run 3 [] (5, [(0, .inr (.inr (4, 0, 0))), (1, .inl b)], [.inl b, .inr (.inr (2, 0, 0))], σ) [] rfl ?_ ?_
    · exact trivial
    refine AW.callVI (d' := 0) [.inl b] [] ⟨_, rfl⟩ f_3_has v_3_has l_5_74 ⟨rfl, by decide⟩ rfl (Nat.le_of_ble_eq_true rfl) rfl (Nat.le_of_ble_eq_true rfl) (c3_has 0 F.1 σ hS hO b) ?_
    rintro v _ ⟨rfl, hv⟩
    obtain rfl : v = 0 := by
      rcases hv with h | h
      · exact absurd h.2.choose_spec.2 (hnok _ h.2.choose_spec.1)
      · exact h.1
    refine AW.run 3 [false] (13, [(0, .inr (.inr (4, 0, 0))), (1, .inl b)], [.inl (-1), .inr (.inr (4, 0, 0))], σ) [¬ icP .ne (0 : Int32) 0] rfl ?_ ?_
    · exact allP1 (by decide : ¬ (¬ (0 : Int32) = 0))
    refine AW.callVI (d' := 0) [.inl (-1)] [] ⟨_, rfl⟩ f_5_refuse v_5_refuse l_5_50 ⟨rfl, by decide⟩ rfl (Nat.le_of_ble_eq_true rfl) rfl (Nat.le_of_ble_eq_true rfl) (c5_refuse1 σ) ?_
    rintro _ _ ⟨rfl, rfl⟩
    refine AW.reti ⟨_, rfl⟩ rfl ?_
    exact ⟨rfuF F 1, (by unfold nearP; rw [botP_none hnok]; try rfl), RepA_ref hA (by decide) (by decide)⟩
set_option maxHeartbeats 4000000 in
set_option maxRecDepth 100000 in
theorem c5_spare (F : Gv) (σ : St) (hA : RepA σ F) (hF : FOK F) (b : Int32) : Ct M5_spare 2 [.inr (.inr (4, 0, 0)), .inl b] σ (QA σ (spareP F b)) := by
  refine Ct.of f_5_spare (Nat.le_of_ble_eq_true rfl) ?_
  show AW M5_spare 2 _ (0, [(0, .inr (.inr (4, 0, 0))), (1, .inl b)], [], σ)
  have hS : RepS (σ 2 0) F.1 := hA.1
  have hO : SOK F.1 := hF.1.1
  have hn8 : Sn F.1 ≤ 8 := hO.1
  rcases bot_or (Sn F.1) b with ⟨k, hk, rfl⟩ | hnok
  · skip
    refine AW.run 3 [] (5, [(0, .inr (.inr (4, 0, 0))), (1, .inl (nI k))], [.inl (nI k), .inr (.inr (2, 0, 0))], σ) [] rfl ?_ ?_
    · exact trivial
    refine AW.callVI (d' := 0) [.inl (nI k)] [] ⟨_, rfl⟩ f_3_has v_3_has l_5_74 ⟨rfl, by decide⟩ rfl (Nat.le_of_ble_eq_true rfl) rfl (Nat.le_of_ble_eq_true rfl) (c3_has 0 F.1 σ hS hO (nI k)) ?_
    rintro v _ ⟨rfl, hv⟩
    obtain rfl : v = 1 := by
      rcases hv with h | h
      · exact h.1
      · exact absurd rfl (h.2 k hk)
    refine AW.run 5 [true] (23, [(0, .inr (.inr (4, 0, 0))), (1, .inl (nI k))], [.inl (nI k), .inr (.inr (2, 0, 0)), .inl 0], σ) [icP .ne (1 : Int32) 0] rfl ?_ ?_
    · exact allP1 (by decide : (¬ (1 : Int32) = 0))
    refine AW.callVI (d' := 1) [.inl (nI k)] [.inl 0] ⟨_, rfl⟩ f_3_bearOf v_3_bearOf l_5_99 ⟨rfl, by decide⟩ rfl (Nat.le_of_ble_eq_true rfl) rfl (Nat.le_of_ble_eq_true rfl) (c3_bearOf 0 F.1 σ hS hO k hk) ?_
    rintro _ _ ⟨rfl, rfl⟩
    refine AW.run 3 [] (31, [(0, .inr (.inr (4, 0, 0))), (1, .inl (nI k))], [.inl (nI k), .inr (.inr (2, 0, 0)), .inl (nI (bearS F.1 k)), .inl 0], σ) [] rfl ?_ ?_
    · exact trivial
    refine AW.callVI (d' := 1) [.inl (nI k)] [.inl (nI (bearS F.1 k)), .inl 0] ⟨_, rfl⟩ f_3_pressOf v_3_pressOf l_5_87 ⟨rfl, by decide⟩ rfl (Nat.le_of_ble_eq_true rfl) rfl (Nat.le_of_ble_eq_true rfl) (c3_pressOf 0 F.1 σ hS hO k hk) ?_
    rintro _ _ ⟨rfl, rfl⟩
    refine AW.run 1 [] (35, [(0, .inr (.inr (4, 0, 0))), (1, .inl (nI k))], [.inl ((nI (bearS F.1 k)) - (nI (Sq F.1 k))), .inl 0], σ) [] rfl ?_ ?_
    · exact trivial
    refine AW.max ⟨_, rfl⟩ l_5_254 (Nat.le_of_ble_eq_true rfl) (Nat.le_of_ble_eq_true rfl) ?_
    rw [spare_e (bear_le hO k) (hO.2.1 k).2.2.2]
    refine AW.reti ⟨_, rfl⟩ rfl ?_
    exact ⟨F, (by unfold spareP; rw [botP_some hk hn8]; try rfl), RepA_mind onlyM_rfl hA⟩
  · skip
    refine AW.run 3 [] (5, [(0, .inr (.inr (4, 0, 0))), (1, .inl b)], [.inl b, .inr (.inr (2, 0, 0))], σ) [] rfl ?_ ?_
    · exact trivial
    refine AW.callVI (d' := 0) [.inl b] [] ⟨_, rfl⟩ f_3_has v_3_has l_5_74 ⟨rfl, by decide⟩ rfl (Nat.le_of_ble_eq_true rfl) rfl (Nat.le_of_ble_eq_true rfl) (c3_has 0 F.1 σ hS hO b) ?_
    rintro v _ ⟨rfl, hv⟩
    obtain rfl : v = 0 := by
      rcases hv with h | h
      · exact absurd h.2.choose_spec.2 (hnok _ h.2.choose_spec.1)
      · exact h.1
    refine AW.run 3 [false] (13, [(0, .inr (.inr (4, 0, 0))), (1, .inl b)], [.inl (-1), .inr (.inr (4, 0, 0))], σ) [¬ icP .ne (0 : Int32) 0] rfl ?_ ?_
    · exact allP1 (by decide : ¬ (¬ (0 : Int32) = 0))
    refine AW.callVI (d' := 0) [.inl (-1)] [] ⟨_, rfl⟩ f_5_refuse v_5_refuse l_5_50 ⟨rfl, by decide⟩ rfl (Nat.le_of_ble_eq_true rfl) rfl (Nat.le_of_ble_eq_true rfl) (c5_refuse1 σ) ?_
    rintro _ _ ⟨rfl, rfl⟩
    refine AW.reti ⟨_, rfl⟩ rfl ?_
    exact ⟨rfuF F 1, (by unfold spareP; rw [botP_none hnok]; try rfl), RepA_ref hA (by decide) (by decide)⟩
