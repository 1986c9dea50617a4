theorem worst_lt {S : Sv} (hO : SOK S) {k : Nat} (h : worstS S = some k) : k < Sn S := by
  obtain ⟨-, v, hv⟩ := amax_lt 8 k h
  unfold worstF at hv
  split at hv
  · rename_i hw; exact SOK_lt hO hw
  · cases hv
theorem bsug_9 (S : Sv) (n : Nat) : (bsug S n 10).1 ≤ 9 := by
  have h := (bsug_le (S := S) (n := n) 9).2
  show (bsug S n (9 + 1)).1 ≤ 9
  unfold bsug
  split
  · first | exact Nat.le_refl _ | assumption
  · first | exact h | exact Nat.le_refl _
def readyP (F : Gv) (b v n : Int32) := botP F b fun k => if v < 0 ∨ n < 0 then rfu F 4 else if nI 99 < v ∨ nI 60 < n then rfu F 6 else (optI (rdyN F.1 k v.toNatClampNeg n.toNatClampNeg 10 0), F)
def rtoldN (F : Gv) (x : Int32) : Int32 := if 1 ≤ x ∧ x < 7 then F.2.2.2.1 x.toNatClampNeg else -9
def countP (F : Gv) (w : Int32) : Int32 × Gv := if w = 0 then (nI (Sn F.1), F) else if w = 1 then (nI (Sd F.1), F) else if w = 2 then (nI (Su F.1), F) else if w = 3 then (nI (She F.1), F) else if w = 4 then (bI (Sw F.1), F) else if w = 5 then (nI (psum F.1 8), F) else if w = 6 then (nI F.2.1.1, F) else if w = 7 then (nI F.2.2.1.1, F) else if w = 8 then (nI F.2.2.2.2.1.1, F) else (rtoldN F (w - 10), F)
theorem pN_some {α : Type} {n k : Nat} {a : α} {f : Nat → α} (hk : k < n) (hn : n ≤ 100) : (match botI n (nI k) with | none => a | some k => f k) = f k := by rw [botI_some hk hn]

set_option maxHeartbeats 4000000 in
set_option maxRecDepth 100000 in
theorem c5_goes (F : Gv) (σ : St) (hA : RepA σ F) (hF : FOK F) (b : Int32) : Ct M5_goes 4 [.inr (.inr (4, 0, 0)), .inl b] σ (QA σ (goesP F b)) := by
  refine Ct.of f_5_goes (Nat.le_of_ble_eq_true rfl) ?_
  show AW M5_goes 4 _ (0, [(0, .inr (.inr (4, 0, 0))), (1, .inl b)], [], σ)
  have hS : RepS (σ 2 0) F.1 := hA.1
  have hO : SOK F.1 := hF.1.1
  have hn8 : Sn F.1 ≤ 8 := hO.1
  by_cases hb : b = -1
  · subst hb
    refine AW.run 7 [false] (13, [(0, .inr (.inr (4, 0, 0))), (1, .inl (-1))], [.inr (.inr (2, 0, 0)), .inr (.inr (0, 0, 0))], σ) [¬ icP .ne ((-1) : Int32) (-1)] rfl ?_ ?_
    · exact allP1 (by decide : ¬ (¬ ((-1) : Int32) = (-1)))
    refine AW.callVI (d' := 3) [.inr (.inr (2, 0, 0))] [] ⟨_, rfl⟩ f_1_firstToGo v_1_firstToGo l_5_167 ⟨rfl, by decide⟩ rfl (Nat.le_of_ble_eq_true rfl) rfl (Nat.le_of_ble_eq_true rfl) (c1_firstToGo F.1 σ hS hO ) ?_
    rintro _ τ13 ⟨rfl, hM13⟩
    refine AW.reti ⟨_, rfl⟩ rfl ?_
    exact ⟨F, (by unfold goesP; rw [if_pos rfl]; try rfl), RepA_mind (onlyM_of hM13) hA⟩
  · skip
    rcases bot_or (Sn F.1) b with ⟨k, hk, rfl⟩ | hnok
    · skip
      refine AW.run 6 [true] (22, [(0, .inr (.inr (4, 0, 0))), (1, .inl (nI k))], [.inl (nI k), .inr (.inr (2, 0, 0))], σ) [icP .ne (nI k) (-1)] rfl ?_ ?_
      · exact allP1 (hb)
      refine AW.callVI (d' := 0) [.inl (nI k)] [] ⟨_, rfl⟩ f_3_has v_3_has l_5_74 ⟨rfl, by decide⟩ rfl (Nat.le_of_ble_eq_true rfl) rfl (Nat.le_of_ble_eq_true rfl) (c3_has 0 F.1 σ hS hO (nI k)) ?_
      rintro v _ ⟨rfl, hv⟩
      obtain rfl : v = 1 := by
        rcases hv with h | h
        · exact h.1
        · exact absurd rfl (h.2 k hk)
      refine AW.run 6 [true] (43, [(0, .inr (.inr (4, 0, 0))), (1, .inl (nI k))], [.inl (nI k), .inr (.inr (2, 0, 0)), .inr (.inr (0, 0, 0))], σ) [icP .ne (1 : Int32) 0] rfl ?_ ?_
      · exact allP1 (by decide : (¬ (1 : Int32) = 0))
      refine AW.callVI (d' := 3) [.inr (.inr (2, 0, 0)), .inl (nI k)] [] ⟨_, rfl⟩ f_1_daysTillGone v_1_daysTillGone l_5_170 ⟨rfl, by decide⟩ rfl (Nat.le_of_ble_eq_true rfl) rfl (Nat.le_of_ble_eq_true rfl) (c1_daysTillGone F.1 σ hS hO k (by omega)) ?_
      rintro _ τ14 ⟨rfl, hM14⟩
      refine AW.reti ⟨_, rfl⟩ rfl ?_
      exact ⟨F, (by unfold goesP; rw [if_neg hb, botP_some hk hn8]; try rfl), RepA_mind (onlyM_of hM14) hA⟩
    · skip
      refine AW.run 6 [true] (22, [(0, .inr (.inr (4, 0, 0))), (1, .inl b)], [.inl b, .inr (.inr (2, 0, 0))], σ) [icP .ne b (-1)] rfl ?_ ?_
      · exact allP1 (hb)
      refine AW.callVI (d' := 0) [.inl b] [] ⟨_, rfl⟩ f_3_has v_3_has l_5_74 ⟨rfl, by decide⟩ rfl (Nat.le_of_ble_eq_true rfl) rfl (Nat.le_of_ble_eq_true rfl) (c3_has 0 F.1 σ hS hO b) ?_
      rintro v _ ⟨rfl, hv⟩
      obtain rfl : v = 0 := by
        rcases hv with h | h
        · exact absurd h.2.choose_spec.2 (hnok _ h.2.choose_spec.1)
        · exact h.1
      refine AW.run 3 [false] (30, [(0, .inr (.inr (4, 0, 0))), (1, .inl b)], [.inl (-1), .inr (.inr (4, 0, 0))], σ) [¬ icP .ne (0 : Int32) 0] rfl ?_ ?_
      · exact allP1 (by decide : ¬ (¬ (0 : Int32) = 0))
      refine AW.callVI (d' := 0) [.inl (-1)] [] ⟨_, rfl⟩ f_5_refuse v_5_refuse l_5_50 ⟨rfl, by decide⟩ rfl (Nat.le_of_ble_eq_true rfl) rfl (Nat.le_of_ble_eq_true rfl) (c5_refuse1 σ) ?_
      rintro _ _ ⟨rfl, rfl⟩
      refine AW.reti ⟨_, rfl⟩ rfl ?_
      exact ⟨rfuF F 1, (by unfold goesP; rw [if_neg hb, botP_none hnok]; try rfl), RepA_ref hA (by decide) (by decide)⟩
set_option maxHeartbeats 4000000 in
set_option maxRecDepth 100000 in
theorem c5_worst (F : Gv) (σ : St) (hA : RepA σ F) (hF : FOK F) (w : Int32) : Ct M5_worst 4 [.inr (.inr (4, 0, 0)), .inl w] σ (QA σ (worstP F w)) := by
  refine Ct.of f_5_worst (Nat.le_of_ble_eq_true rfl) ?_
  show AW M5_worst 4 _ (0, [(0, .inr (.inr (4, 0, 0))), (1, .inl w)], [], σ)
  have hS : RepS (σ 2 0) F.1 := hA.1
  have hO : SOK F.1 := hF.1.1
  have hn8 : Sn F.1 ≤ 8 := hO.1
  by_cases h0w : w = 0
  · subst h0w
    cases hws : worstS F.1 with
    | none =>
      refine AW.run 1 [] (1, [(0, .inr (.inr (4, 0, 0))), (1, .inl 0)], [.inl 0], σ) [] rfl ?_ ?_
      · exact trivial
      refine AW.callSI (d' := 0) [.inl 0] [] ⟨_, rfl⟩ f_5_isNoTwo s_5_isNoTwo l_5_114 rfl (Nat.le_of_ble_eq_true rfl) rfl (Nat.le_of_ble_eq_true rfl) (c5_isNoTwo0 σ) ?_
      rintro _ _ ⟨rfl, rfl⟩
      refine AW.run 5 [true] (22, [(0, .inr (.inr (4, 0, 0))), (1, .inl 0)], [.inr (.inr (2, 0, 0)), .inr (.inr (0, 0, 0))], σ) [icP .eq (0 : Int32) 0] rfl ?_ ?_
      · exact allP1 (by decide : ((0 : Int32) = 0))
      refine AW.callVI (d' := 3) [.inr (.inr (2, 0, 0))] [] ⟨_, rfl⟩ f_1_worstOne v_1_worstOne l_5_180 ⟨rfl, by decide⟩ rfl (Nat.le_of_ble_eq_true rfl) rfl (Nat.le_of_ble_eq_true rfl) (c1_worstOne F.1 σ hS hO) ?_
      rintro _ τ15 ⟨rfl, hM15⟩
      rw [hws]
      dsimp only [optI]
      refine AW.run 4 [true] (37, [(2, .inl (-9)), (0, .inr (.inr (4, 0, 0))), (1, .inl 0)], [.inl (-9)], τ15) [icP .eq (0 : Int32) 0] rfl ?_ ?_
      · exact allP1 (by decide : ((0 : Int32) = 0))
      refine AW.reti ⟨_, rfl⟩ rfl ?_
      exact ⟨F, (by unfold worstP; rw [twoP_0, hws]; try rfl), RepA_mind (onlyM_of hM15) hA⟩
    | some k =>
      have hk := worst_lt hO hws
      have hk9 : ¬ nI k = (-9 : Int32) := nI_m9 (by omega)
      refine AW.run 1 [] (1, [(0, .inr (.inr (4, 0, 0))), (1, .inl 0)], [.inl 0], σ) [] rfl ?_ ?_
      · exact trivial
      refine AW.callSI (d' := 0) [.inl 0] [] ⟨_, rfl⟩ f_5_isNoTwo s_5_isNoTwo l_5_114 rfl (Nat.le_of_ble_eq_true rfl) rfl (Nat.le_of_ble_eq_true rfl) (c5_isNoTwo0 σ) ?_
      rintro _ _ ⟨rfl, rfl⟩
      refine AW.run 5 [true] (22, [(0, .inr (.inr (4, 0, 0))), (1, .inl 0)], [.inr (.inr (2, 0, 0)), .inr (.inr (0, 0, 0))], σ) [icP .eq (0 : Int32) 0] rfl ?_ ?_
      · exact allP1 (by decide : ((0 : Int32) = 0))
      refine AW.callVI (d' := 3) [.inr (.inr (2, 0, 0))] [] ⟨_, rfl⟩ f_1_worstOne v_1_worstOne l_5_180 ⟨rfl, by decide⟩ rfl (Nat.le_of_ble_eq_true rfl) rfl (Nat.le_of_ble_eq_true rfl) (c1_worstOne F.1 σ hS hO) ?_
      rintro _ τ16 ⟨rfl, hM16⟩
      rw [hws]
      dsimp only [optI]
      refine AW.run 4 [true] (37, [(2, .inl (nI k)), (0, .inr (.inr (4, 0, 0))), (1, .inl 0)], [.inl (nI k)], τ16) [icP .eq (0 : Int32) 0] rfl ?_ ?_
      · exact allP1 (by decide : ((0 : Int32) = 0))
      refine AW.reti ⟨_, rfl⟩ rfl ?_
      exact ⟨F, (by unfold worstP; rw [twoP_0, hws]; try rfl), RepA_mind (onlyM_of hM16) hA⟩
  by_cases h1w : w = 1
  · subst h1w
    cases hws : worstS F.1 with
    | none =>
      refine AW.run 1 [] (1, [(0, .inr (.inr (4, 0, 0))), (1, .inl 1)], [.inl 1], σ) [] rfl ?_ ?_
      · exact trivial
      refine AW.callSI (d' := 0) [.inl 1] [] ⟨_, rfl⟩ f_5_isNoTwo s_5_isNoTwo l_5_114 rfl (Nat.le_of_ble_eq_true rfl) rfl (Nat.le_of_ble_eq_true rfl) (c5_isNoTwo1 σ) ?_
      rintro _ _ ⟨rfl, rfl⟩
      refine AW.run 5 [true] (22, [(0, .inr (.inr (4, 0, 0))), (1, .inl 1)], [.inr (.inr (2, 0, 0)), .inr (.inr (0, 0, 0))], σ) [icP .eq (0 : Int32) 0] rfl ?_ ?_
      · exact allP1 (by decide : ((0 : Int32) = 0))
      refine AW.callVI (d' := 3) [.inr (.inr (2, 0, 0))] [] ⟨_, rfl⟩ f_1_worstOne v_1_worstOne l_5_180 ⟨rfl, by decide⟩ rfl (Nat.le_of_ble_eq_true rfl) rfl (Nat.le_of_ble_eq_true rfl) (c1_worstOne F.1 σ hS hO) ?_
      rintro _ τ17 ⟨rfl, hM17⟩
      rw [hws]
      dsimp only [optI]
      refine AW.run 7 [false, false] (37, [(2, .inl (-9)), (0, .inr (.inr (4, 0, 0))), (1, .inl 1)], [.inl (-9)], τ17) [¬ icP .eq (1 : Int32) 0, ¬ icP .ne ((-9) : Int32) (-9)] rfl ?_ ?_
      · exact ⟨(by decide : ¬ ((1 : Int32) = 0)), allP1 (by decide : ¬ (¬ ((-9) : Int32) = (-9)))⟩
      refine AW.reti ⟨_, rfl⟩ rfl ?_
      exact ⟨F, (by unfold worstP; rw [twoP_1, hws]; try rfl), RepA_mind (onlyM_of hM17) hA⟩
    | some k =>
      have hk := worst_lt hO hws
      have hk9 : ¬ nI k = (-9 : Int32) := nI_m9 (by omega)
      refine AW.run 1 [] (1, [(0, .inr (.inr (4, 0, 0))), (1, .inl 1)], [.inl 1], σ) [] rfl ?_ ?_
      · exact trivial
      refine AW.callSI (d' := 0) [.inl 1] [] ⟨_, rfl⟩ f_5_isNoTwo s_5_isNoTwo l_5_114 rfl (Nat.le_of_ble_eq_true rfl) rfl (Nat.le_of_ble_eq_true rfl) (c5_isNoTwo1 σ) ?_
      rintro _ _ ⟨rfl, rfl⟩
      refine AW.run 5 [true] (22, [(0, .inr (.inr (4, 0, 0))), (1, .inl 1)], [.inr (.inr (2, 0, 0)), .inr (.inr (0, 0, 0))], σ) [icP .eq (0 : Int32) 0] rfl ?_ ?_
      · exact allP1 (by decide : ((0 : Int32) = 0))
      refine AW.callVI (d' := 3) [.inr (.inr (2, 0, 0))] [] ⟨_, rfl⟩ f_1_worstOne v_1_worstOne l_5_180 ⟨rfl, by decide⟩ rfl (Nat.le_of_ble_eq_true rfl) rfl (Nat.le_of_ble_eq_true rfl) (c1_worstOne F.1 σ hS hO) ?_
      rintro _ τ18 ⟨rfl, hM18⟩
      rw [hws]
      dsimp only [optI]
      refine AW.run 11 [false, true] (47, [(2, .inl (nI k)), (0, .inr (.inr (4, 0, 0))), (1, .inl 1)], [.inl (nI k), .inr (.inr (2, 0, 0)), .inr (.inr (0, 0, 0))], τ18) [¬ icP .eq (1 : Int32) 0, icP .ne (nI k) (-9)] rfl ?_ ?_
      · exact ⟨(by decide : ¬ ((1 : Int32) = 0)), allP1 (hk9)⟩
      refine AW.callVI (d' := 2) [.inr (.inr (2, 0, 0)), .inl (nI k)] [] ⟨_, rfl⟩ f_1_takenBy v_1_takenBy l_5_177 ⟨rfl, by decide⟩ rfl (Nat.le_of_ble_eq_true rfl) rfl (Nat.le_of_ble_eq_true rfl) (c1_takenBy F.1 τ18 (onlyM_rep (onlyM_of hM18) hS) hO k hk) ?_
      rintro _ τ19 ⟨rfl, hM19⟩
      refine AW.callSI (d' := 0) [.inl (bI (takenS F.1 k))] [] ⟨_, rfl⟩ f_J_bitCount s_J_bitCount l_5_145 rfl (Nat.le_of_ble_eq_true rfl) rfl (Nat.le_of_ble_eq_true rfl) (cJ_bitCount (bI (takenS F.1 k)) τ19) ?_
      rintro _ _ ⟨rfl, rfl⟩
      rw [bcV_bI]
      refine AW.reti ⟨_, rfl⟩ rfl ?_
      exact ⟨F, (by unfold worstP; rw [twoP_1, hws]; try rfl), RepA_mind (onlyM_trans (onlyM_of hM18) hM19) hA⟩
  · skip
    refine AW.run 1 [] (1, [(0, .inr (.inr (4, 0, 0))), (1, .inl w)], [.inl w], σ) [] rfl ?_ ?_
    · exact trivial
    refine AW.callSI (d' := 0) [.inl w] [] ⟨_, rfl⟩ f_5_isNoTwo s_5_isNoTwo l_5_114 rfl (Nat.le_of_ble_eq_true rfl) rfl (Nat.le_of_ble_eq_true rfl) (c5_isNoTwoN w h0w h1w σ) ?_
    rintro _ _ ⟨rfl, rfl⟩
    refine AW.run 3 [false] (10, [(0, .inr (.inr (4, 0, 0))), (1, .inl w)], [.inl (-2), .inr (.inr (4, 0, 0))], σ) [¬ icP .eq (1 : Int32) 0] rfl ?_ ?_
    · exact allP1 (by decide : ¬ ((1 : Int32) = 0))
    refine AW.callVI (d' := 0) [.inl (-2)] [] ⟨_, rfl⟩ f_5_refuse v_5_refuse l_5_50 ⟨rfl, by decide⟩ rfl (Nat.le_of_ble_eq_true rfl) rfl (Nat.le_of_ble_eq_true rfl) (c5_refuse2 σ) ?_
    rintro _ _ ⟨rfl, rfl⟩
    refine AW.reti ⟨_, rfl⟩ rfl ?_
    exact ⟨rfuF F 2, (by unfold worstP; rw [twoP_N h0w h1w]; try rfl), RepA_ref hA (by decide) (by decide)⟩
set_option maxHeartbeats 4000000 in
set_option maxRecDepth 100000 in
theorem c5_shares (F : Gv) (σ : St) (hA : RepA σ F) (hF : FOK F) (n : Int32) (w : Int32) : Ct M5_shares 1 [.inr (.inr (4, 0, 0)), .inl n, .inl w] σ (QA σ (sharesP F n w)) := by
  refine Ct.of f_5_shares (Nat.le_of_ble_eq_true rfl) ?_
  show AW M5_shares 1 _ (0, [(0, .inr (.inr (4, 0, 0))), (1, .inl n), (2, .inl w)], [], σ)
  have hS : RepS (σ 2 0) F.1 := hA.1
  have hO : SOK F.1 := hF.1.1
  have hn8 : Sn F.1 ≤ 8 := hO.1
  rcases lt1_or n with hl | ⟨n1, h1n1, h31, rfl, hl⟩
  · skip
    refine AW.run 5 [false] (8, [(0, .inr (.inr (4, 0, 0))), (1, .inl n), (2, .inl w)], [.inl (-4), .inr (.inr (4, 0, 0))], σ) [¬ icP .ge n 1] rfl ?_ ?_
    · exact allP1 (nge_of hl)
    refine AW.callVI (d' := 0) [.inl (-4)] [] ⟨_, rfl⟩ f_5_refuse v_5_refuse l_5_50 ⟨rfl, by decide⟩ rfl (Nat.le_of_ble_eq_true rfl) rfl (Nat.le_of_ble_eq_true rfl) (c5_refuse4 σ) ?_
    rintro _ _ ⟨rfl, rfl⟩
    refine AW.reti ⟨_, rfl⟩ rfl ?_
    exact ⟨rfuF F 4, (by unfold sharesP; rw [if_pos hl]; try rfl), RepA_ref hA (by decide) (by decide)⟩
  · skip
    by_cases hn1 : n1 ≤ 9
    · skip
      by_cases h0w : w = 0
      · subst h0w
        refine AW.run 7 [true, true] (26, [(0, .inr (.inr (4, 0, 0))), (1, .inl (nI n1)), (2, .inl 0)], [.inl 0], σ) [icP .ge (nI n1) 1, icP .le (nI n1) 9] rfl ?_ ?_
        · exact ⟨(ge_of hl), allP1 (nI_le (b := 9) hn1 (by decide))⟩
        refine AW.callSI (d' := 0) [.inl 0] [] ⟨_, rfl⟩ f_5_isNoTwo s_5_isNoTwo l_5_114 rfl (Nat.le_of_ble_eq_true rfl) rfl (Nat.le_of_ble_eq_true rfl) (c5_isNoTwo0 σ) ?_
        rintro _ _ ⟨rfl, rfl⟩
        refine AW.run 6 [true, false] (50, [(0, .inr (.inr (4, 0, 0))), (1, .inl (nI n1)), (2, .inl 0)], [.inl (σ 2 0 0 10)], σ) [icP .eq (0 : Int32) 0, ¬ icP .ne (0 : Int32) 0] rfl ?_ ?_
        · exact ⟨(by decide : ((0 : Int32) = 0)), allP1 (by decide : ¬ (¬ (0 : Int32) = 0))⟩
        rw [(hS).1.2.2.2.1]
        refine AW.run 1 [] (51, [(0, .inr (.inr (4, 0, 0))), (1, .inl (nI n1)), (2, .inl 0)], [.inl (nI n1), .inl (nI (Su F.1))], σ) [] rfl ?_ ?_
        · exact trivial
        have hsd := sh_div hO.2.2.2.1 hn1 h1n1
        have hz := hsd.2.2
        refine AW.run 2 [] (64, [(0, .inr (.inr (4, 0, 0))), (1, .inl (nI n1)), (2, .inl 0)], [.inl ((nI (Su F.1)) / (nI n1))], σ) [¬ ((nI n1) : Int32) = 0] rfl ?_ ?_
        · exact allP1 (by assumption)
        rw [hsd.1]
        refine AW.reti ⟨_, rfl⟩ rfl ?_
        exact ⟨F, (by unfold sharesP; rw [if_neg hl, maxP_e0 (fM0 (M := 9) hn1 (by decide)) (by omega), twoP_0]; try rfl), RepA_mind onlyM_rfl hA⟩
      by_cases h1w : w = 1
      · subst h1w
        refine AW.run 7 [true, true] (26, [(0, .inr (.inr (4, 0, 0))), (1, .inl (nI n1)), (2, .inl 1)], [.inl 1], σ) [icP .ge (nI n1) 1, icP .le (nI n1) 9] rfl ?_ ?_
        · exact ⟨(ge_of hl), allP1 (nI_le (b := 9) hn1 (by decide))⟩
        refine AW.callSI (d' := 0) [.inl 1] [] ⟨_, rfl⟩ f_5_isNoTwo s_5_isNoTwo l_5_114 rfl (Nat.le_of_ble_eq_true rfl) rfl (Nat.le_of_ble_eq_true rfl) (c5_isNoTwo1 σ) ?_
        rintro _ _ ⟨rfl, rfl⟩
        refine AW.run 6 [true, true] (62, [(0, .inr (.inr (4, 0, 0))), (1, .inl (nI n1)), (2, .inl 1)], [.inl (σ 2 0 0 10)], σ) [icP .eq (0 : Int32) 0, icP .ne (1 : Int32) 0] rfl ?_ ?_
        · exact ⟨(by decide : ((0 : Int32) = 0)), allP1 (by decide : (¬ (1 : Int32) = 0))⟩
        rw [(hS).1.2.2.2.1]
        refine AW.run 1 [] (63, [(0, .inr (.inr (4, 0, 0))), (1, .inl (nI n1)), (2, .inl 1)], [.inl (nI n1), .inl (nI (Su F.1))], σ) [] rfl ?_ ?_
        · exact trivial
        have hsd := sh_div hO.2.2.2.1 hn1 h1n1
        have hz := hsd.2.2
        refine AW.run 1 [] (64, [(0, .inr (.inr (4, 0, 0))), (1, .inl (nI n1)), (2, .inl 1)], [.inl ((nI (Su F.1)) - (nI (Su F.1)) / (nI n1) * (nI n1))], σ) [¬ ((nI n1) : Int32) = 0] rfl ?_ ?_
        · exact allP1 (by assumption)
        rw [hsd.2.1]
        refine AW.reti ⟨_, rfl⟩ rfl ?_
        exact ⟨F, (by unfold sharesP; rw [if_neg hl, maxP_e0 (fM0 (M := 9) hn1 (by decide)) (by omega), twoP_1]; try rfl), RepA_mind onlyM_rfl hA⟩
      · skip
        refine AW.run 7 [true, true] (26, [(0, .inr (.inr (4, 0, 0))), (1, .inl (nI n1)), (2, .inl w)], [.inl w], σ) [icP .ge (nI n1) 1, icP .le (nI n1) 9] rfl ?_ ?_
        · exact ⟨(ge_of hl), allP1 (nI_le (b := 9) hn1 (by decide))⟩
        refine AW.callSI (d' := 0) [.inl w] [] ⟨_, rfl⟩ f_5_isNoTwo s_5_isNoTwo l_5_114 rfl (Nat.le_of_ble_eq_true rfl) rfl (Nat.le_of_ble_eq_true rfl) (c5_isNoTwoN w h0w h1w σ) ?_
        rintro _ _ ⟨rfl, rfl⟩
        refine AW.run 3 [false] (35, [(0, .inr (.inr (4, 0, 0))), (1, .inl (nI n1)), (2, .inl w)], [.inl (-2), .inr (.inr (4, 0, 0))], σ) [¬ icP .eq (1 : Int32) 0] rfl ?_ ?_
        · exact allP1 (by decide : ¬ ((1 : Int32) = 0))
        refine AW.callVI (d' := 0) [.inl (-2)] [] ⟨_, rfl⟩ f_5_refuse v_5_refuse l_5_50 ⟨rfl, by decide⟩ rfl (Nat.le_of_ble_eq_true rfl) rfl (Nat.le_of_ble_eq_true rfl) (c5_refuse2 σ) ?_
        rintro _ _ ⟨rfl, rfl⟩
        refine AW.reti ⟨_, rfl⟩ rfl ?_
        exact ⟨rfuF F 2, (by unfold sharesP; rw [if_neg hl, maxP_e0 (fM0 (M := 9) hn1 (by decide)) (by omega), twoP_N h0w h1w]; try rfl), RepA_ref hA (by decide) (by decide)⟩
    · skip
      refine AW.run 8 [true, false] (21, [(0, .inr (.inr (4, 0, 0))), (1, .inl (nI n1)), (2, .inl w)], [.inl (-6), .inr (.inr (4, 0, 0))], σ) [icP .ge (nI n1) 1, ¬ icP .le (nI n1) 9] rfl ?_ ?_
      · exact ⟨(ge_of hl), allP1 (nle_lit (b := 9) (by omega) (by omega))⟩
      refine AW.callVI (d' := 0) [.inl (-6)] [] ⟨_, rfl⟩ f_5_refuse v_5_refuse l_5_50 ⟨rfl, by decide⟩ rfl (Nat.le_of_ble_eq_true rfl) rfl (Nat.le_of_ble_eq_true rfl) (c5_refuse6 σ) ?_
      rintro _ _ ⟨rfl, rfl⟩
      refine AW.reti ⟨_, rfl⟩ rfl ?_
      exact ⟨rfuF F 6, (by unfold sharesP; rw [if_neg hl, maxP_e6 (fM6 (M := 9) (by omega) h31)]; try rfl), RepA_ref hA (by decide) (by decide)⟩
set_option maxHeartbeats 4000000 in
set_option maxRecDepth 100000 in
theorem c5_lots (F : Gv) (σ : St) (hA : RepA σ F) (hF : FOK F) (n : Int32) (z : Int32) (w : Int32) : Ct M5_lots 5 [.inr (.inr (4, 0, 0)), .inl n, .inl z, .inl w] σ (QA σ (lotsP F n z w)) := by
  refine Ct.of f_5_lots (Nat.le_of_ble_eq_true rfl) ?_
  show AW M5_lots 5 _ (0, [(0, .inr (.inr (4, 0, 0))), (1, .inl n), (2, .inl z), (3, .inl w)], [], σ)
  have hS : RepS (σ 2 0) F.1 := hA.1
  have hO : SOK F.1 := hF.1.1
  have hn8 : Sn F.1 ≤ 8 := hO.1
  rcases lt1_or n with hl | ⟨n1, h1n1, h31, rfl, hl⟩
  · skip
    refine AW.run 5 [false] (8, [(0, .inr (.inr (4, 0, 0))), (1, .inl n), (2, .inl z), (3, .inl w)], [.inl (-4), .inr (.inr (4, 0, 0))], σ) [¬ icP .ge n 1] rfl ?_ ?_
    · exact allP1 (nge_of hl)
    refine AW.callVI (d' := 0) [.inl (-4)] [] ⟨_, rfl⟩ f_5_refuse v_5_refuse l_5_50 ⟨rfl, by decide⟩ rfl (Nat.le_of_ble_eq_true rfl) rfl (Nat.le_of_ble_eq_true rfl) (c5_refuse4 σ) ?_
    rintro _ _ ⟨rfl, rfl⟩
    refine AW.reti ⟨_, rfl⟩ rfl ?_
    exact ⟨rfuF F 4, (by unfold lotsP; rw [if_pos hl]; try rfl), RepA_ref hA (by decide) (by decide)⟩
  · skip
    by_cases hn1 : n1 ≤ 20
    · skip
      by_cases h0w : w = 0
      · subst h0w
        refine AW.run 7 [true, true] (26, [(0, .inr (.inr (4, 0, 0))), (1, .inl (nI n1)), (2, .inl z), (3, .inl 0)], [.inl 0], σ) [icP .ge (nI n1) 1, icP .le (nI n1) 20] rfl ?_ ?_
        · exact ⟨(ge_of hl), allP1 (nI_le (b := 20) hn1 (by decide))⟩
        refine AW.callSI (d' := 0) [.inl 0] [] ⟨_, rfl⟩ f_5_isNoTwo s_5_isNoTwo l_5_114 rfl (Nat.le_of_ble_eq_true rfl) rfl (Nat.le_of_ble_eq_true rfl) (c5_isNoTwo0 σ) ?_
        rintro _ _ ⟨rfl, rfl⟩
        refine AW.run 8 [true] (50, [(0, .inr (.inr (4, 0, 0))), (1, .inl (nI n1)), (2, .inl z), (3, .inl 0)], [.inl 0, .inl z, .inl (nI n1), .inr (.inr (2, 0, 0)), .inr (.inr (0, 0, 0))], σ) [icP .eq (0 : Int32) 0] rfl ?_ ?_
        · exact allP1 (by decide : ((0 : Int32) = 0))
        refine AW.callVI (d' := 4) [.inr (.inr (2, 0, 0)), .inl (nI n1), .inl z, .inl 0] [] ⟨_, rfl⟩ f_1_summersByLot v_1_summersByLot l_5_276 ⟨rfl, by decide⟩ rfl (Nat.le_of_ble_eq_true rfl) rfl (Nat.le_of_ble_eq_true rfl) (c1_summersByLot F.1 σ hS hO n1 0 z hn1 (by decide)) ?_
        rintro _ τ20 ⟨rfl, hM20⟩
        refine AW.reti ⟨_, rfl⟩ rfl ?_
        exact ⟨F, (by unfold lotsP; rw [if_neg hl, maxP_e0 (fM0 (M := 20) hn1 (by decide)) (by omega), twoP_0]; try rfl), RepA_mind (onlyM_of hM20) hA⟩
      by_cases h1w : w = 1
      · subst h1w
        refine AW.run 7 [true, true] (26, [(0, .inr (.inr (4, 0, 0))), (1, .inl (nI n1)), (2, .inl z), (3, .inl 1)], [.inl 1], σ) [icP .ge (nI n1) 1, icP .le (nI n1) 20] rfl ?_ ?_
        · exact ⟨(ge_of hl), allP1 (nI_le (b := 20) hn1 (by decide))⟩
        refine AW.callSI (d' := 0) [.inl 1] [] ⟨_, rfl⟩ f_5_isNoTwo s_5_isNoTwo l_5_114 rfl (Nat.le_of_ble_eq_true rfl) rfl (Nat.le_of_ble_eq_true rfl) (c5_isNoTwo1 σ) ?_
        rintro _ _ ⟨rfl, rfl⟩
        refine AW.run 8 [true] (50, [(0, .inr (.inr (4, 0, 0))), (1, .inl (nI n1)), (2, .inl z), (3, .inl 1)], [.inl 1, .inl z, .inl (nI n1), .inr (.inr (2, 0, 0)), .inr (.inr (0, 0, 0))], σ) [icP .eq (0 : Int32) 0] rfl ?_ ?_
        · exact allP1 (by decide : ((0 : Int32) = 0))
        refine AW.callVI (d' := 4) [.inr (.inr (2, 0, 0)), .inl (nI n1), .inl z, .inl 1] [] ⟨_, rfl⟩ f_1_summersByLot v_1_summersByLot l_5_276 ⟨rfl, by decide⟩ rfl (Nat.le_of_ble_eq_true rfl) rfl (Nat.le_of_ble_eq_true rfl) (c1_summersByLot F.1 σ hS hO n1 1 z hn1 (by decide)) ?_
        rintro _ τ21 ⟨rfl, hM21⟩
        refine AW.reti ⟨_, rfl⟩ rfl ?_
        exact ⟨F, (by unfold lotsP; rw [if_neg hl, maxP_e0 (fM0 (M := 20) hn1 (by decide)) (by omega), twoP_1]; try rfl), RepA_mind (onlyM_of hM21) hA⟩
      · skip
        refine AW.run 7 [true, true] (26, [(0, .inr (.inr (4, 0, 0))), (1, .inl (nI n1)), (2, .inl z), (3, .inl w)], [.inl w], σ) [icP .ge (nI n1) 1, icP .le (nI n1) 20] rfl ?_ ?_
        · exact ⟨(ge_of hl), allP1 (nI_le (b := 20) hn1 (by decide))⟩
        refine AW.callSI (d' := 0) [.inl w] [] ⟨_, rfl⟩ f_5_isNoTwo s_5_isNoTwo l_5_114 rfl (Nat.le_of_ble_eq_true rfl) rfl (Nat.le_of_ble_eq_true rfl) (c5_isNoTwoN w h0w h1w σ) ?_
        rintro _ _ ⟨rfl, rfl⟩
        refine AW.run 3 [false] (35, [(0, .inr (.inr (4, 0, 0))), (1, .inl (nI n1)), (2, .inl z), (3, .inl w)], [.inl (-2), .inr (.inr (4, 0, 0))], σ) [¬ icP .eq (1 : Int32) 0] rfl ?_ ?_
        · exact allP1 (by decide : ¬ ((1 : Int32) = 0))
        refine AW.callVI (d' := 0) [.inl (-2)] [] ⟨_, rfl⟩ f_5_refuse v_5_refuse l_5_50 ⟨rfl, by decide⟩ rfl (Nat.le_of_ble_eq_true rfl) rfl (Nat.le_of_ble_eq_true rfl) (c5_refuse2 σ) ?_
        rintro _ _ ⟨rfl, rfl⟩
        refine AW.reti ⟨_, rfl⟩ rfl ?_
        exact ⟨rfuF F 2, (by unfold lotsP; rw [if_neg hl, maxP_e0 (fM0 (M := 20) hn1 (by decide)) (by omega), twoP_N h0w h1w]; try rfl), RepA_ref hA (by decide) (by decide)⟩
    · skip
      refine AW.run 8 [true, false] (21, [(0, .inr (.inr (4, 0, 0))), (1, .inl (nI n1)), (2, .inl z), (3, .inl w)], [.inl (-6), .inr (.inr (4, 0, 0))], σ) [icP .ge (nI n1) 1, ¬ icP .le (nI n1) 20] rfl ?_ ?_
      · exact ⟨(ge_of hl), allP1 (nle_lit (b := 20) (by omega) (by omega))⟩
      refine AW.callVI (d' := 0) [.inl (-6)] [] ⟨_, rfl⟩ f_5_refuse v_5_refuse l_5_50 ⟨rfl, by decide⟩ rfl (Nat.le_of_ble_eq_true rfl) rfl (Nat.le_of_ble_eq_true rfl) (c5_refuse6 σ) ?_
      rintro _ _ ⟨rfl, rfl⟩
      refine AW.reti ⟨_, rfl⟩ rfl ?_
      exact ⟨rfuF F 6, (by unfold lotsP; rw [if_neg hl, maxP_e6 (fM6 (M := 20) (by omega) h31)]; try rfl), RepA_ref hA (by decide) (by decide)⟩
set_option maxHeartbeats 4000000 in
set_option maxRecDepth 100000 in
theorem c5_tightest (F : Gv) (σ : St) (hA : RepA σ F) (hF : FOK F) (w : Int32) : Ct M5_tightest 3 [.inr (.inr (4, 0, 0)), .inl w] σ (QA σ (tightestP F w)) := by
  refine Ct.of f_5_tightest (Nat.le_of_ble_eq_true rfl) ?_
  show AW M5_tightest 3 _ (0, [(0, .inr (.inr (4, 0, 0))), (1, .inl w)], [], σ)
  have hS : RepS (σ 2 0) F.1 := hA.1
  have hO : SOK F.1 := hF.1.1
  have hn8 : Sn F.1 ≤ 8 := hO.1
  by_cases hw0 : w = 0
  · subst hw0
    refine AW.run 4 [false] (8, [(0, .inr (.inr (4, 0, 0))), (1, .inl 0)], [.inr (.inr (2, 0, 0))], σ) [¬ icP .ne (0 : Int32) 0] rfl ?_ ?_
    · exact allP1 (by decide : ¬ (¬ (0 : Int32) = 0))
    refine AW.callVI (d' := 1) [] [] ⟨_, rfl⟩ f_3_tightestOne v_3_tightestOne l_5_245 ⟨rfl, by decide⟩ rfl (Nat.le_of_ble_eq_true rfl) rfl (Nat.le_of_ble_eq_true rfl) (c3_tightestOne 0 F.1 σ hS hO ) ?_
    rintro _ _ ⟨rfl, rfl⟩
    refine AW.reti ⟨_, rfl⟩ rfl ?_
    exact ⟨F, (by unfold tightestP; rw [if_pos rfl]; try rfl), RepA_mind onlyM_rfl hA⟩
  by_cases hw1 : w = 1
  · subst hw1
    refine AW.run 7 [true, false] (21, [(0, .inr (.inr (4, 0, 0))), (1, .inl 1)], [.inr (.inr (2, 0, 0))], σ) [icP .ne (1 : Int32) 0, ¬ icP .ne (1 : Int32) 1] rfl ?_ ?_
    · exact ⟨(by decide : (¬ (1 : Int32) = 0)), allP1 (by decide : ¬ (¬ (1 : Int32) = 1))⟩
    refine AW.callVI (d' := 2) [] [] ⟨_, rfl⟩ f_3_longestGap v_3_longestGap l_5_248 ⟨rfl, by decide⟩ rfl (Nat.le_of_ble_eq_true rfl) rfl (Nat.le_of_ble_eq_true rfl) (c3_longestGap 0 F.1 σ hS hO ) ?_
    rintro _ _ ⟨rfl, rfl⟩
    refine AW.reti ⟨_, rfl⟩ rfl ?_
    exact ⟨F, (by unfold tightestP; rw [if_neg (by decide : ¬ (1 : Int32) = 0), if_pos rfl]; try rfl), RepA_mind onlyM_rfl hA⟩
  by_cases hw2 : w = 2
  · subst hw2
    refine AW.run 11 [true, true, false] (37, [(0, .inr (.inr (4, 0, 0))), (1, .inl 2)], [.inl (σ 2 0 0 7)], σ) [icP .ne (2 : Int32) 0, icP .ne (2 : Int32) 1, ¬ icP .ne (2 : Int32) 2] rfl ?_ ?_
    · exact ⟨(by decide : (¬ (2 : Int32) = 0)), (by decide : (¬ (2 : Int32) = 1)), allP1 (by decide : ¬ (¬ (2 : Int32) = 2))⟩
    rw [(hS).1.1]
    refine AW.run 3 [] (44, [(0, .inr (.inr (4, 0, 0))), (1, .inl 2)], [.inl (σ 2 0 0 8), .inl (nI (Sn F.1))], σ) [] rfl ?_ ?_
    · exact trivial
    rw [(hS).1.2.1]
    refine AW.callSI (d' := 0) [.inl (bI (Sw F.1))] [.inl (nI (Sn F.1))] ⟨_, rfl⟩ f_J_bitCount s_J_bitCount l_5_145 rfl (Nat.le_of_ble_eq_true rfl) rfl (Nat.le_of_ble_eq_true rfl) (cJ_bitCount (bI (Sw F.1)) σ) ?_
    rintro _ _ ⟨rfl, rfl⟩
    rw [bcV_bI]
    refine AW.run 1 [] (48, [(0, .inr (.inr (4, 0, 0))), (1, .inl 2)], [.inl ((nI (Sn F.1)) - (nI (cN (Sw F.1))))], σ) [] rfl ?_ ?_
    · exact trivial
    refine AW.reti ⟨_, rfl⟩ rfl ?_
    exact ⟨F, (by unfold tightestP; rw [if_neg (by decide : ¬ (2 : Int32) = 0), if_neg (by decide : ¬ (2 : Int32) = 1), if_pos rfl]; try rfl), RepA_mind onlyM_rfl hA⟩
  · skip
    refine AW.run 10 [true, true, true] (52, [(0, .inr (.inr (4, 0, 0))), (1, .inl w)], [.inl (-2), .inr (.inr (4, 0, 0))], σ) [icP .ne w 0, icP .ne w 1, icP .ne w 2] rfl ?_ ?_
    · exact ⟨(hw0), (hw1), allP1 (hw2)⟩
    refine AW.callVI (d' := 0) [.inl (-2)] [] ⟨_, rfl⟩ f_5_refuse v_5_refuse l_5_50 ⟨rfl, by decide⟩ rfl (Nat.le_of_ble_eq_true rfl) rfl (Nat.le_of_ble_eq_true rfl) (c5_refuse2 σ) ?_
    rintro _ _ ⟨rfl, rfl⟩
    refine AW.reti ⟨_, rfl⟩ rfl ?_
    exact ⟨rfuF F 2, (by unfold tightestP; rw [if_neg hw0, if_neg hw1, if_neg hw2]; try rfl), RepA_ref hA (by decide) (by decide)⟩
set_option maxHeartbeats 4000000 in
set_option maxRecDepth 100000 in
theorem c5_pairs (F : Gv) (σ : St) (hA : RepA σ F) (hF : FOK F) (w : Int32) : Ct M5_pairs 5 [.inr (.inr (4, 0, 0)), .inl w] σ (QA σ (pairsP F w)) := by
  refine Ct.of f_5_pairs (Nat.le_of_ble_eq_true rfl) ?_
  show AW M5_pairs 5 _ (0, [(0, .inr (.inr (4, 0, 0))), (1, .inl w)], [], σ)
  have hS : RepS (σ 2 0) F.1 := hA.1
  have hO : SOK F.1 := hF.1.1
  have hn8 : Sn F.1 ≤ 8 := hO.1
  by_cases hw0 : w = 0
  · subst hw0
    refine AW.run 1 [] (1, [(0, .inr (.inr (4, 0, 0))), (1, .inl 0)], [.inl 0], σ) [] rfl ?_ ?_
    · exact trivial
    refine AW.tswIn (k := 0) (tgt := 32) ⟨_, rfl⟩ (by decide) (by decide) rfl (by decide) ?_
    refine AW.run 2 [] (36, [(0, .inr (.inr (4, 0, 0))), (1, .inl 0)], [.inr (.inr (2, 0, 0))], σ) [] rfl ?_ ?_
    · exact trivial
    refine AW.callVI (d' := 2) [] [] ⟨_, rfl⟩ f_3_pairsNear v_3_pairsNear l_5_260 ⟨rfl, by decide⟩ rfl (Nat.le_of_ble_eq_true rfl) rfl (Nat.le_of_ble_eq_true rfl) (c3_pairsNear 0 F.1 σ hS hO ) ?_
    rintro _ _ ⟨rfl, rfl⟩
    refine AW.reti ⟨_, rfl⟩ rfl ?_
    exact ⟨F, (by unfold pairsP; rw [if_pos rfl]; try rfl), RepA_mind onlyM_rfl hA⟩
  by_cases hw1 : w = 1
  · subst hw1
    refine AW.run 1 [] (1, [(0, .inr (.inr (4, 0, 0))), (1, .inl 1)], [.inl 1], σ) [] rfl ?_ ?_
    · exact trivial
    refine AW.tswIn (k := 1) (tgt := 40) ⟨_, rfl⟩ (by decide) (by decide) rfl (by decide) ?_
    refine AW.run 4 [] (48, [(0, .inr (.inr (4, 0, 0))), (1, .inl 1)], [.inr (.inr (2, 0, 0)), .inr (.inr (0, 0, 0))], σ) [] rfl ?_ ?_
    · exact trivial
    refine AW.callVI (d' := 3) [.inr (.inr (2, 0, 0))] [] ⟨_, rfl⟩ f_1_greatestCalmHeat v_1_greatestCalmHeat l_5_263 ⟨rfl, by decide⟩ rfl (Nat.le_of_ble_eq_true rfl) rfl (Nat.le_of_ble_eq_true rfl) (c1_greatestCalmHeat F.1 σ hS hO ) ?_
    rintro _ τ22 ⟨rfl, hM22⟩
    refine AW.reti ⟨_, rfl⟩ rfl ?_
    exact ⟨F, (by unfold pairsP; rw [if_neg (by decide : ¬ (1 : Int32) = 0), if_pos rfl]; try rfl), RepA_mind (onlyM_of hM22) hA⟩
  by_cases hw2 : w = 2
  · subst hw2
    refine AW.run 1 [] (1, [(0, .inr (.inr (4, 0, 0))), (1, .inl 2)], [.inl 2], σ) [] rfl ?_ ?_
    · exact trivial
    refine AW.tswIn (k := 2) (tgt := 52) ⟨_, rfl⟩ (by decide) (by decide) rfl (by decide) ?_
    refine AW.run 3 [] (59, [(0, .inr (.inr (4, 0, 0))), (1, .inl 2)], [.inl (σ 2 0 0 8)], σ) [] rfl ?_ ?_
    · exact trivial
    rw [(hS).1.2.1]
    refine AW.callSI (d' := 0) [.inl (bI (Sw F.1))] [] ⟨_, rfl⟩ f_J_bitCount s_J_bitCount l_5_145 rfl (Nat.le_of_ble_eq_true rfl) rfl (Nat.le_of_ble_eq_true rfl) (cJ_bitCount (bI (Sw F.1)) σ) ?_
    rintro _ _ ⟨rfl, rfl⟩
    rw [bcV_bI]
    refine AW.run 5 [] (71, [(0, .inr (.inr (4, 0, 0))), (1, .inl 2)], [.inl 1, .inr (.inr (2, 0, 0)), .inr (.inr (0, 0, 0)), .inl (nI (cN (Sw F.1)))], σ) [] rfl ?_ ?_
    · exact trivial
    refine AW.callVR (d' := 4) [.inr (.inr (2, 0, 0)), .inl 1] [.inl (nI (cN (Sw F.1)))] ⟨_, rfl⟩ f_1_ahead v_1_ahead l_5_159 ⟨rfl, by decide⟩ rfl (Nat.le_of_ble_eq_true rfl) rfl (Nat.le_of_ble_eq_true rfl) (c1_ahead F.1 σ hS hO 1 (by omega)) ?_
    rintro _ τ23 ⟨rfl, hM23, b23⟩
    refine AW.run 1 [] (77, [(0, .inr (.inr (4, 0, 0))), (1, .inl 2)], [.inl (τ23 2 3 0 8), .inl (nI (cN (Sw F.1)))], τ23) [] rfl ?_ ?_
    · exact trivial
    rw [(b23).1.2.1]
    refine AW.callSI (d' := 0) [.inl (bI (Sw (passS 1 F.1)))] [.inl (nI (cN (Sw F.1)))] ⟨_, rfl⟩ f_J_bitCount s_J_bitCount l_5_145 rfl (Nat.le_of_ble_eq_true rfl) rfl (Nat.le_of_ble_eq_true rfl) (cJ_bitCount (bI (Sw (passS 1 F.1))) τ23) ?_
    rintro _ _ ⟨rfl, rfl⟩
    rw [bcV_bI]
    refine AW.run 1 [] (81, [(0, .inr (.inr (4, 0, 0))), (1, .inl 2)], [.inl ((nI (cN (Sw F.1))) - (nI (cN (Sw (passS 1 F.1)))))], τ23) [] rfl ?_ ?_
    · exact trivial
    refine AW.reti ⟨_, rfl⟩ rfl ?_
    exact ⟨F, (by unfold pairsP; rw [if_neg (by decide : ¬ (2 : Int32) = 0), if_neg (by decide : ¬ (2 : Int32) = 1), if_pos rfl]; try rfl), RepA_mind (onlyM_of hM23) hA⟩
  by_cases hw3 : w = 3
  · subst hw3
    refine AW.run 1 [] (1, [(0, .inr (.inr (4, 0, 0))), (1, .inl 3)], [.inl 3], σ) [] rfl ?_ ?_
    · exact trivial
    refine AW.tswIn (k := 3) (tgt := 82) ⟨_, rfl⟩ (by decide) (by decide) rfl (by decide) ?_
    refine AW.run 4 [] (90, [(0, .inr (.inr (4, 0, 0))), (1, .inl 3)], [.inr (.inr (2, 0, 0)), .inr (.inr (0, 0, 0))], σ) [] rfl ?_ ?_
    · exact trivial
    refine AW.callVI (d' := 3) [.inr (.inr (2, 0, 0))] [] ⟨_, rfl⟩ f_1_daysTillAllGone v_1_daysTillAllGone l_5_266 ⟨rfl, by decide⟩ rfl (Nat.le_of_ble_eq_true rfl) rfl (Nat.le_of_ble_eq_true rfl) (c1_daysTillAllGone F.1 σ hS hO ) ?_
    rintro _ τ24 ⟨rfl, hM24⟩
    refine AW.reti ⟨_, rfl⟩ rfl ?_
    exact ⟨F, (by unfold pairsP; rw [if_neg (by decide : ¬ (3 : Int32) = 0), if_neg (by decide : ¬ (3 : Int32) = 1), if_neg (by decide : ¬ (3 : Int32) = 2), if_pos rfl]; try rfl), RepA_mind (onlyM_of hM24) hA⟩
  · skip
    refine AW.run 1 [] (1, [(0, .inr (.inr (4, 0, 0))), (1, .inl w)], [.inl w], σ) [] rfl ?_ ?_
    · exact trivial
    have ehw0 := lv_neT (a := 0) hw0 rfl
    have ehw1 := lv_neT (a := 1) hw1 rfl
    have ehw2 := lv_neT (a := 2) hw2 rfl
    have ehw3 := lv_neT (a := 3) hw3 rfl
    refine AW.tswOut (tgt := 94) ⟨_, rfl⟩ (by omega) (by decide) ?_
    refine AW.run 2 [] (97, [(0, .inr (.inr (4, 0, 0))), (1, .inl w)], [.inl (-2), .inr (.inr (4, 0, 0))], σ) [] rfl ?_ ?_
    · exact trivial
    refine AW.callVI (d' := 0) [.inl (-2)] [] ⟨_, rfl⟩ f_5_refuse v_5_refuse l_5_50 ⟨rfl, by decide⟩ rfl (Nat.le_of_ble_eq_true rfl) rfl (Nat.le_of_ble_eq_true rfl) (c5_refuse2 σ) ?_
    rintro _ _ ⟨rfl, rfl⟩
    refine AW.reti ⟨_, rfl⟩ rfl ?_
    exact ⟨rfuF F 2, (by unfold pairsP; rw [if_neg hw0, if_neg hw1, if_neg hw2, if_neg hw3]; try rfl), RepA_ref hA (by decide) (by decide)⟩
set_option maxHeartbeats 4000000 in
set_option maxRecDepth 100000 in
theorem c5_then (F : Gv) (σ : St) (hA : RepA σ F) (hF : FOK F) (n : Int32) (w : Int32) : Ct M5_then 5 [.inr (.inr (4, 0, 0)), .inl n, .inl w] σ (QA σ (thenP F n w)) := by
  refine Ct.of f_5_then (Nat.le_of_ble_eq_true rfl) ?_
  show AW M5_then 5 _ (0, [(0, .inr (.inr (4, 0, 0))), (1, .inl n), (2, .inl w)], [], σ)
  have hS : RepS (σ 2 0) F.1 := hA.1
  have hO : SOK F.1 := hF.1.1
  have hn8 : Sn F.1 ≤ 8 := hO.1
  rcases fMax_or 60 (by decide) n with ⟨h4n1, en1⟩ | ⟨h4n1, h6n1, en1⟩ | ⟨n1, hn1, rfl, en1⟩
  · skip
    refine AW.run 1 [] (1, [(0, .inr (.inr (4, 0, 0))), (1, .inl n), (2, .inl w)], [.inl n], σ) [] rfl ?_ ?_
    · exact trivial
    refine AW.callSI (d' := 0) [.inl n] [] ⟨_, rfl⟩ f_5_aheadFault s_5_aheadFault l_5_156 rfl (Nat.le_of_ble_eq_true rfl) rfl (Nat.le_of_ble_eq_true rfl) (c5_aheadFault4 n h4n1 σ) ?_
    rintro _ _ ⟨rfl, rfl⟩
    refine AW.run 5 [false] (11, [(3, .inl (-4)), (0, .inr (.inr (4, 0, 0))), (1, .inl n), (2, .inl w)], [.inl (-4), .inr (.inr (4, 0, 0))], σ) [¬ icP .eq ((-4) : Int32) 0] rfl ?_ ?_
    · exact allP1 (by decide : ¬ (((-4) : Int32) = 0))
    refine AW.callVI (d' := 0) [.inl (-4)] [] ⟨_, rfl⟩ f_5_refuse v_5_refuse l_5_50 ⟨rfl, by decide⟩ rfl (Nat.le_of_ble_eq_true rfl) rfl (Nat.le_of_ble_eq_true rfl) (c5_refuse4 σ) ?_
    rintro _ _ ⟨rfl, rfl⟩
    refine AW.reti ⟨_, rfl⟩ rfl ?_
    exact ⟨rfuF F 4, (by unfold thenP; rw [maxP_e4 en1]; try rfl), RepA_ref hA (by decide) (by decide)⟩
  · skip
    refine AW.run 1 [] (1, [(0, .inr (.inr (4, 0, 0))), (1, .inl n), (2, .inl w)], [.inl n], σ) [] rfl ?_ ?_
    · exact trivial
    refine AW.callSI (d' := 0) [.inl n] [] ⟨_, rfl⟩ f_5_aheadFault s_5_aheadFault l_5_156 rfl (Nat.le_of_ble_eq_true rfl) rfl (Nat.le_of_ble_eq_true rfl) (c5_aheadFault6 n h4n1 h6n1 σ) ?_
    rintro _ _ ⟨rfl, rfl⟩
    refine AW.run 5 [false] (11, [(3, .inl (-6)), (0, .inr (.inr (4, 0, 0))), (1, .inl n), (2, .inl w)], [.inl (-6), .inr (.inr (4, 0, 0))], σ) [¬ icP .eq ((-6) : Int32) 0] rfl ?_ ?_
    · exact allP1 (by decide : ¬ (((-6) : Int32) = 0))
    refine AW.callVI (d' := 0) [.inl (-6)] [] ⟨_, rfl⟩ f_5_refuse v_5_refuse l_5_50 ⟨rfl, by decide⟩ rfl (Nat.le_of_ble_eq_true rfl) rfl (Nat.le_of_ble_eq_true rfl) (c5_refuse6 σ) ?_
    rintro _ _ ⟨rfl, rfl⟩
    refine AW.reti ⟨_, rfl⟩ rfl ?_
    exact ⟨rfuF F 6, (by unfold thenP; rw [maxP_e6 en1]; try rfl), RepA_ref hA (by decide) (by decide)⟩
  · skip
    by_cases hw0 : w = 0
    · subst hw0
      refine AW.run 1 [] (1, [(0, .inr (.inr (4, 0, 0))), (1, .inl (nI n1)), (2, .inl 0)], [.inl (nI n1)], σ) [] rfl ?_ ?_
      · exact trivial
      refine AW.callSI (d' := 0) [.inl (nI n1)] [] ⟨_, rfl⟩ f_5_aheadFault s_5_aheadFault l_5_156 rfl (Nat.le_of_ble_eq_true rfl) rfl (Nat.le_of_ble_eq_true rfl) (c5_aheadFault0 n1 hn1 σ) ?_
      rintro _ _ ⟨rfl, rfl⟩
      refine AW.run 13 [true, false, true] (40, [(3, .inl 0), (0, .inr (.inr (4, 0, 0))), (1, .inl (nI n1)), (2, .inl 0)], [.inl (nI n1), .inr (.inr (2, 0, 0)), .inr (.inr (0, 0, 0))], σ) [icP .eq (0 : Int32) 0, ¬ icP .lt (0 : Int32) 0, icP .le (0 : Int32) 2] rfl ?_ ?_
      · exact ⟨(by decide : ((0 : Int32) = 0)), (by decide : ¬ ((0 : Int32) < 0)), allP1 (by decide : ((0 : Int32) ≤ 2))⟩
      refine AW.callVR (d' := 4) [.inr (.inr (2, 0, 0)), .inl (nI n1)] [] ⟨_, rfl⟩ f_1_ahead v_1_ahead l_5_159 ⟨rfl, by decide⟩ rfl (Nat.le_of_ble_eq_true rfl) rfl (Nat.le_of_ble_eq_true rfl) (c1_ahead F.1 σ hS hO n1 (by omega)) ?_
      rintro _ τ25 ⟨rfl, hM25, b25⟩
      refine AW.run 5 [false] (54, [(4, .inr (.inr (2, 3, 0))), (3, .inl 0), (0, .inr (.inr (4, 0, 0))), (1, .inl (nI n1)), (2, .inl 0)], [.inl (τ25 2 3 0 8)], τ25) [¬ icP .ne (0 : Int32) 0] rfl ?_ ?_
      · exact allP1 (by decide : ¬ (¬ (0 : Int32) = 0))
      rw [(b25).1.2.1]
      refine AW.reti ⟨_, rfl⟩ rfl ?_
      exact ⟨F, (by unfold thenP; rw [maxP_e0 en1 (by omega), if_pos rfl]; try rfl), RepA_mind (onlyM_of hM25) hA⟩
    by_cases hw1 : w = 1
    · subst hw1
      refine AW.run 1 [] (1, [(0, .inr (.inr (4, 0, 0))), (1, .inl (nI n1)), (2, .inl 1)], [.inl (nI n1)], σ) [] rfl ?_ ?_
      · exact trivial
      refine AW.callSI (d' := 0) [.inl (nI n1)] [] ⟨_, rfl⟩ f_5_aheadFault s_5_aheadFault l_5_156 rfl (Nat.le_of_ble_eq_true rfl) rfl (Nat.le_of_ble_eq_true rfl) (c5_aheadFault0 n1 hn1 σ) ?_
      rintro _ _ ⟨rfl, rfl⟩
      refine AW.run 13 [true, false, true] (40, [(3, .inl 0), (0, .inr (.inr (4, 0, 0))), (1, .inl (nI n1)), (2, .inl 1)], [.inl (nI n1), .inr (.inr (2, 0, 0)), .inr (.inr (0, 0, 0))], σ) [icP .eq (0 : Int32) 0, ¬ icP .lt (1 : Int32) 0, icP .le (1 : Int32) 2] rfl ?_ ?_
      · exact ⟨(by decide : ((0 : Int32) = 0)), (by decide : ¬ ((1 : Int32) < 0)), allP1 (by decide : ((1 : Int32) ≤ 2))⟩
      refine AW.callVR (d' := 4) [.inr (.inr (2, 0, 0)), .inl (nI n1)] [] ⟨_, rfl⟩ f_1_ahead v_1_ahead l_5_159 ⟨rfl, by decide⟩ rfl (Nat.le_of_ble_eq_true rfl) rfl (Nat.le_of_ble_eq_true rfl) (c1_ahead F.1 σ hS hO n1 (by omega)) ?_
      rintro _ τ26 ⟨rfl, hM26, b26⟩
      refine AW.run 7 [true, false] (62, [(4, .inr (.inr (2, 3, 0))), (3, .inl 0), (0, .inr (.inr (4, 0, 0))), (1, .inl (nI n1)), (2, .inl 1)], [.inr (.inr (2, 3, 0))], τ26) [icP .ne (1 : Int32) 0, ¬ icP .ne (1 : Int32) 1] rfl ?_ ?_
      · exact ⟨(by decide : (¬ (1 : Int32) = 0)), allP1 (by decide : ¬ (¬ (1 : Int32) = 1))⟩
      refine AW.callVI (d' := 1) [] [] ⟨_, rfl⟩ f_3_pressOfWhole v_3_pressOfWhole l_5_163 ⟨rfl, by decide⟩ rfl (Nat.le_of_ble_eq_true rfl) rfl (Nat.le_of_ble_eq_true rfl) (c3_pressOfWhole 3 (passS n1 F.1) τ26 b26 (SOK_pass _ hO)) ?_
      rintro _ _ ⟨rfl, rfl⟩
      refine AW.run 1 [] (76, [(4, .inr (.inr (2, 3, 0))), (3, .inl 0), (0, .inr (.inr (4, 0, 0))), (1, .inl (nI n1)), (2, .inl 1)], [.inl (nI (psum (passS n1 F.1) 8))], τ26) [] rfl ?_ ?_
      · exact trivial
      refine AW.reti ⟨_, rfl⟩ rfl ?_
      exact ⟨F, (by unfold thenP; rw [maxP_e0 en1 (by omega), if_neg (by decide : ¬ (1 : Int32) = 0), if_pos rfl]; try rfl), RepA_mind (onlyM_of hM26) hA⟩
    by_cases hw2 : w = 2
    · subst hw2
      refine AW.run 1 [] (1, [(0, .inr (.inr (4, 0, 0))), (1, .inl (nI n1)), (2, .inl 2)], [.inl (nI n1)], σ) [] rfl ?_ ?_
      · exact trivial
      refine AW.callSI (d' := 0) [.inl (nI n1)] [] ⟨_, rfl⟩ f_5_aheadFault s_5_aheadFault l_5_156 rfl (Nat.le_of_ble_eq_true rfl) rfl (Nat.le_of_ble_eq_true rfl) (c5_aheadFault0 n1 hn1 σ) ?_
      rintro _ _ ⟨rfl, rfl⟩
      refine AW.run 13 [true, false, true] (40, [(3, .inl 0), (0, .inr (.inr (4, 0, 0))), (1, .inl (nI n1)), (2, .inl 2)], [.inl (nI n1), .inr (.inr (2, 0, 0)), .inr (.inr (0, 0, 0))], σ) [icP .eq (0 : Int32) 0, ¬ icP .lt (2 : Int32) 0, icP .le (2 : Int32) 2] rfl ?_ ?_
      · exact ⟨(by decide : ((0 : Int32) = 0)), (by decide : ¬ ((2 : Int32) < 0)), allP1 (by decide : ((2 : Int32) ≤ 2))⟩
      refine AW.callVR (d' := 4) [.inr (.inr (2, 0, 0)), .inl (nI n1)] [] ⟨_, rfl⟩ f_1_ahead v_1_ahead l_5_159 ⟨rfl, by decide⟩ rfl (Nat.le_of_ble_eq_true rfl) rfl (Nat.le_of_ble_eq_true rfl) (c1_ahead F.1 σ hS hO n1 (by omega)) ?_
      rintro _ τ27 ⟨rfl, hM27, b27⟩
      refine AW.run 8 [true, true] (73, [(4, .inr (.inr (2, 3, 0))), (3, .inl 0), (0, .inr (.inr (4, 0, 0))), (1, .inl (nI n1)), (2, .inl 2)], [.inl (τ27 2 3 0 8)], τ27) [icP .ne (2 : Int32) 0, icP .ne (2 : Int32) 1] rfl ?_ ?_
      · exact ⟨(by decide : (¬ (2 : Int32) = 0)), allP1 (by decide : (¬ (2 : Int32) = 1))⟩
      rw [(b27).1.2.1]
      refine AW.callSI (d' := 0) [.inl (bI (Sw (passS n1 F.1)))] [] ⟨_, rfl⟩ f_J_bitCount s_J_bitCount l_5_145 rfl (Nat.le_of_ble_eq_true rfl) rfl (Nat.le_of_ble_eq_true rfl) (cJ_bitCount (bI (Sw (passS n1 F.1))) τ27) ?_
      rintro _ _ ⟨rfl, rfl⟩
      rw [bcV_bI]
      refine AW.reti ⟨_, rfl⟩ rfl ?_
      exact ⟨F, (by unfold thenP; rw [maxP_e0 en1 (by omega), if_neg (by decide : ¬ (2 : Int32) = 0), if_neg (by decide : ¬ (2 : Int32) = 1), if_pos rfl]; try rfl), RepA_mind (onlyM_of hM27) hA⟩
    · skip
      rcases fMax_or 2 (by decide) w with ⟨q4, -⟩ | ⟨q4, q6, -⟩ | ⟨j, hj, rfl, -⟩
      · skip
        refine AW.run 1 [] (1, [(0, .inr (.inr (4, 0, 0))), (1, .inl (nI n1)), (2, .inl w)], [.inl (nI n1)], σ) [] rfl ?_ ?_
        · exact trivial
        refine AW.callSI (d' := 0) [.inl (nI n1)] [] ⟨_, rfl⟩ f_5_aheadFault s_5_aheadFault l_5_156 rfl (Nat.le_of_ble_eq_true rfl) rfl (Nat.le_of_ble_eq_true rfl) (c5_aheadFault0 n1 hn1 σ) ?_
        rintro _ _ ⟨rfl, rfl⟩
        refine AW.run 7 [true, true] (27, [(3, .inl 0), (0, .inr (.inr (4, 0, 0))), (1, .inl (nI n1)), (2, .inl w)], [.inl (-2), .inr (.inr (4, 0, 0))], σ) [icP .eq (0 : Int32) 0, icP .lt w 0] rfl ?_ ?_
        · exact ⟨(by decide : ((0 : Int32) = 0)), allP1 (q4)⟩
        refine AW.callVI (d' := 0) [.inl (-2)] [] ⟨_, rfl⟩ f_5_refuse v_5_refuse l_5_50 ⟨rfl, by decide⟩ rfl (Nat.le_of_ble_eq_true rfl) rfl (Nat.le_of_ble_eq_true rfl) (c5_refuse2 σ) ?_
        rintro _ _ ⟨rfl, rfl⟩
        refine AW.reti ⟨_, rfl⟩ rfl ?_
        exact ⟨rfuF F 2, (by unfold thenP; rw [maxP_e0 en1 (by omega), if_neg hw0, if_neg hw1, if_neg hw2]; try rfl), RepA_ref hA (by decide) (by decide)⟩
      · skip
        refine AW.run 1 [] (1, [(0, .inr (.inr (4, 0, 0))), (1, .inl (nI n1)), (2, .inl w)], [.inl (nI n1)], σ) [] rfl ?_ ?_
        · exact trivial
        refine AW.callSI (d' := 0) [.inl (nI n1)] [] ⟨_, rfl⟩ f_5_aheadFault s_5_aheadFault l_5_156 rfl (Nat.le_of_ble_eq_true rfl) rfl (Nat.le_of_ble_eq_true rfl) (c5_aheadFault0 n1 hn1 σ) ?_
        rintro _ _ ⟨rfl, rfl⟩
        refine AW.run 10 [true, false, false] (27, [(3, .inl 0), (0, .inr (.inr (4, 0, 0))), (1, .inl (nI n1)), (2, .inl w)], [.inl (-2), .inr (.inr (4, 0, 0))], σ) [icP .eq (0 : Int32) 0, ¬ icP .lt w 0, ¬ icP .le w 2] rfl ?_ ?_
        · exact ⟨(by decide : ((0 : Int32) = 0)), (q4), allP1 (nge_of q6)⟩
        refine AW.callVI (d' := 0) [.inl (-2)] [] ⟨_, rfl⟩ f_5_refuse v_5_refuse l_5_50 ⟨rfl, by decide⟩ rfl (Nat.le_of_ble_eq_true rfl) rfl (Nat.le_of_ble_eq_true rfl) (c5_refuse2 σ) ?_
        rintro _ _ ⟨rfl, rfl⟩
        refine AW.reti ⟨_, rfl⟩ rfl ?_
        exact ⟨rfuF F 2, (by unfold thenP; rw [maxP_e0 en1 (by omega), if_neg hw0, if_neg hw1, if_neg hw2]; try rfl), RepA_ref hA (by decide) (by decide)⟩
      · rcases (show j = 0 ∨ j = 1 ∨ j = 2 by omega) with rfl | rfl | rfl
        · exact absurd rfl hw0
        · exact absurd rfl hw1
        · exact absurd rfl hw2
set_option maxHeartbeats 4000000 in
set_option maxRecDepth 100000 in
theorem c5_officers (F : Gv) (σ : St) (hA : RepA σ F) (hF : FOK F) (k : Int32) : Ct M5_officers 3 [.inr (.inr (4, 0, 0)), .inl k] σ (QA σ (officersP F k)) := by
  refine Ct.of f_5_officers (Nat.le_of_ble_eq_true rfl) ?_
  show AW M5_officers 3 _ (0, [(0, .inr (.inr (4, 0, 0))), (1, .inl k)], [], σ)
  have hS : RepS (σ 2 0) F.1 := hA.1
  have hO : SOK F.1 := hF.1.1
  have hn8 : Sn F.1 ≤ 8 := hO.1
  rcases bot_or 6 k with ⟨j, hj, rfl⟩ | hno
  · skip
    refine AW.run 8 [false, true] (22, [(0, .inr (.inr (4, 0, 0))), (1, .inl (nI j))], [.inl (nI j), .inr (.inr (2, 0, 0))], σ) [¬ icP .lt (nI j) 0, icP .lt (nI j) 6] rfl ?_ ?_
    · exact ⟨(nlt0 (by omega)), allP1 (nI_lt (b := 6) hj (by decide))⟩
    refine AW.callVI (d' := 1) [.inl (nI j)] [] ⟨_, rfl⟩ f_3_wholeOfKind v_3_wholeOfKind l_5_273 ⟨rfl, by decide⟩ rfl (Nat.le_of_ble_eq_true rfl) rfl (Nat.le_of_ble_eq_true rfl) (c3_wholeOfKind 0 F.1 σ hS hO j (by omega)) ?_
    rintro _ _ ⟨rfl, rfl⟩
    refine AW.reti ⟨_, rfl⟩ rfl ?_
    exact ⟨F, (by unfold officersP; rw [botI_some hj (by decide)]; try rfl), RepA_mind onlyM_rfl hA⟩
  · by_cases hz : k < 0
    · skip
      refine AW.run 4 [true] (13, [(0, .inr (.inr (4, 0, 0))), (1, .inl k)], [.inl (-2), .inr (.inr (4, 0, 0))], σ) [icP .lt k 0] rfl ?_ ?_
      · exact allP1 (hz)
      refine AW.callVI (d' := 0) [.inl (-2)] [] ⟨_, rfl⟩ f_5_refuse v_5_refuse l_5_50 ⟨rfl, by decide⟩ rfl (Nat.le_of_ble_eq_true rfl) rfl (Nat.le_of_ble_eq_true rfl) (c5_refuse2 σ) ?_
      rintro _ _ ⟨rfl, rfl⟩
      refine AW.reti ⟨_, rfl⟩ rfl ?_
      exact ⟨rfuF F 2, (by unfold officersP; rw [botI_none hno]; try rfl), RepA_ref hA (by decide) (by decide)⟩
    · skip
      refine AW.run 7 [false, false] (13, [(0, .inr (.inr (4, 0, 0))), (1, .inl k)], [.inl (-2), .inr (.inr (4, 0, 0))], σ) [¬ icP .lt k 0, ¬ icP .lt k 6] rfl ?_ ?_
      · exact ⟨(hz), allP1 (Int32.not_lt.mpr (bot_out (by decide) hno hz))⟩
      refine AW.callVI (d' := 0) [.inl (-2)] [] ⟨_, rfl⟩ f_5_refuse v_5_refuse l_5_50 ⟨rfl, by decide⟩ rfl (Nat.le_of_ble_eq_true rfl) rfl (Nat.le_of_ble_eq_true rfl) (c5_refuse2 σ) ?_
      rintro _ _ ⟨rfl, rfl⟩
      refine AW.reti ⟨_, rfl⟩ rfl ?_
      exact ⟨rfuF F 2, (by unfold officersP; rw [botI_none hno]; try rfl), RepA_ref hA (by decide) (by decide)⟩
set_option maxHeartbeats 4000000 in
set_option maxRecDepth 100000 in
theorem c5_at (F : Gv) (σ : St) (hA : RepA σ F) (hF : FOK F) (p : Int32) : Ct M5_at 3 [.inr (.inr (4, 0, 0)), .inl p] σ (QA σ (atP F p)) := by
  refine Ct.of f_5_at (Nat.le_of_ble_eq_true rfl) ?_
  show AW M5_at 3 _ (0, [(0, .inr (.inr (4, 0, 0))), (1, .inl p)], [], σ)
  have hS : RepS (σ 2 0) F.1 := hA.1
  have hO : SOK F.1 := hF.1.1
  have hn8 : Sn F.1 ≤ 8 := hO.1
  rcases bot_or 15 p with ⟨j, hj, rfl⟩ | hno
  · skip
    refine AW.run 8 [false, true] (21, [(0, .inr (.inr (4, 0, 0))), (1, .inl (nI j))], [.inl (nI j), .inr (.inr (2, 0, 0))], σ) [¬ icP .lt (nI j) 0, icP .lt (nI j) 15] rfl ?_ ?_
    · exact ⟨(nlt0 (by omega)), allP1 (nI_lt (b := 15) hj (by decide))⟩
    refine AW.callVI (d' := 1) [.inl (nI j)] [] ⟨_, rfl⟩ f_3_wholeAt v_3_wholeAt l_5_105 ⟨rfl, by decide⟩ rfl (Nat.le_of_ble_eq_true rfl) rfl (Nat.le_of_ble_eq_true rfl) (c3_wholeAt 0 F.1 σ hS hO j (by omega)) ?_
    rintro _ _ ⟨rfl, rfl⟩
    refine AW.reti ⟨_, rfl⟩ rfl ?_
    exact ⟨F, (by unfold atP; rw [botI_some hj (by decide)]; try rfl), RepA_mind onlyM_rfl hA⟩
  · by_cases hz : p < 0
    · skip
      refine AW.run 4 [true] (12, [(0, .inr (.inr (4, 0, 0))), (1, .inl p)], [.inl (-1), .inr (.inr (4, 0, 0))], σ) [icP .lt p 0] rfl ?_ ?_
      · exact allP1 (hz)
      refine AW.callVI (d' := 0) [.inl (-1)] [] ⟨_, rfl⟩ f_5_refuse v_5_refuse l_5_50 ⟨rfl, by decide⟩ rfl (Nat.le_of_ble_eq_true rfl) rfl (Nat.le_of_ble_eq_true rfl) (c5_refuse1 σ) ?_
      rintro _ _ ⟨rfl, rfl⟩
      refine AW.reti ⟨_, rfl⟩ rfl ?_
      exact ⟨rfuF F 1, (by unfold atP; rw [botI_none hno]; try rfl), RepA_ref hA (by decide) (by decide)⟩
    · skip
      refine AW.run 7 [false, false] (12, [(0, .inr (.inr (4, 0, 0))), (1, .inl p)], [.inl (-1), .inr (.inr (4, 0, 0))], σ) [¬ icP .lt p 0, ¬ icP .lt p 15] rfl ?_ ?_
      · exact ⟨(hz), allP1 (Int32.not_lt.mpr (bot_out (by decide) hno hz))⟩
      refine AW.callVI (d' := 0) [.inl (-1)] [] ⟨_, rfl⟩ f_5_refuse v_5_refuse l_5_50 ⟨rfl, by decide⟩ rfl (Nat.le_of_ble_eq_true rfl) rfl (Nat.le_of_ble_eq_true rfl) (c5_refuse1 σ) ?_
      rintro _ _ ⟨rfl, rfl⟩
      refine AW.reti ⟨_, rfl⟩ rfl ?_
      exact ⟨rfuF F 1, (by unfold atP; rw [botI_none hno]; try rfl), RepA_ref hA (by decide) (by decide)⟩
set_option maxHeartbeats 4000000 in
set_option maxRecDepth 100000 in
theorem c5_bottleOf (F : Gv) (σ : St) (hA : RepA σ F) (hF : FOK F) (b : Int32) (w : Int32) : Ct M5_bottleOf 3 [.inr (.inr (4, 0, 0)), .inl b, .inl w] σ (QA σ (bottleOfP F b w)) := by
  refine Ct.of f_5_bottleOf (Nat.le_of_ble_eq_true rfl) ?_
  show AW M5_bottleOf 3 _ (0, [(0, .inr (.inr (4, 0, 0))), (1, .inl b), (2, .inl w)], [], σ)
  have hS : RepS (σ 2 0) F.1 := hA.1
  have hO : SOK F.1 := hF.1.1
  have hn8 : Sn F.1 ≤ 8 := hO.1
  rcases bot_or (Sn F.1) b with ⟨k, hk, rfl⟩ | hnok
  · skip
    by_cases hw0 : w = 0
    · subst hw0
      refine AW.run 3 [] (5, [(0, .inr (.inr (4, 0, 0))), (1, .inl (nI k)), (2, .inl 0)], [.inl (nI k), .inr (.inr (2, 0, 0))], σ) [] rfl ?_ ?_
      · exact trivial
      refine AW.callVI (d' := 0) [.inl (nI k)] [] ⟨_, rfl⟩ f_3_has v_3_has l_5_74 ⟨rfl, by decide⟩ rfl (Nat.le_of_ble_eq_true rfl) rfl (Nat.le_of_ble_eq_true rfl) (c3_has 0 F.1 σ hS hO (nI k)) ?_
      rintro v _ ⟨rfl, hv⟩
      obtain rfl : v = 1 := by
        rcases hv with h | h
        · exact h.1
        · exact absurd rfl (h.2 k hk)
      refine AW.run 2 [true] (18, [(0, .inr (.inr (4, 0, 0))), (1, .inl (nI k)), (2, .inl 0)], [.inl 0], σ) [icP .ne (1 : Int32) 0] rfl ?_ ?_
      · exact allP1 (by decide : (¬ (1 : Int32) = 0))
      refine AW.tswIn (k := 0) (tgt := 68) ⟨_, rfl⟩ (by decide) (by decide) rfl (by decide) ?_
      refine AW.run 3 [] (73, [(0, .inr (.inr (4, 0, 0))), (1, .inl (nI k)), (2, .inl 0)], [.inl (nI k), .inr (.inr (2, 0, 0))], σ) [] rfl ?_ ?_
      · exact trivial
      refine AW.callVI (d' := 1) [.inl (nI k)] [] ⟨_, rfl⟩ f_3_kindOf v_3_kindOf l_5_78 ⟨rfl, by decide⟩ rfl (Nat.le_of_ble_eq_true rfl) rfl (Nat.le_of_ble_eq_true rfl) (c3_kindOf 0 F.1 σ hS hO k hk) ?_
      rintro _ _ ⟨rfl, rfl⟩
      refine AW.reti ⟨_, rfl⟩ rfl ?_
      exact ⟨F, (by unfold bottleOfP; rw [botP_some hk hn8, if_pos rfl]; try rfl), RepA_mind onlyM_rfl hA⟩
    by_cases hw1 : w = 1
    · subst hw1
      refine AW.run 3 [] (5, [(0, .inr (.inr (4, 0, 0))), (1, .inl (nI k)), (2, .inl 1)], [.inl (nI k), .inr (.inr (2, 0, 0))], σ) [] rfl ?_ ?_
      · exact trivial
      refine AW.callVI (d' := 0) [.inl (nI k)] [] ⟨_, rfl⟩ f_3_has v_3_has l_5_74 ⟨rfl, by decide⟩ rfl (Nat.le_of_ble_eq_true rfl) rfl (Nat.le_of_ble_eq_true rfl) (c3_has 0 F.1 σ hS hO (nI k)) ?_
      rintro v _ ⟨rfl, hv⟩
      obtain rfl : v = 1 := by
        rcases hv with h | h
        · exact h.1
        · exact absurd rfl (h.2 k hk)
      refine AW.run 2 [true] (18, [(0, .inr (.inr (4, 0, 0))), (1, .inl (nI k)), (2, .inl 1)], [.inl 1], σ) [icP .ne (1 : Int32) 0] rfl ?_ ?_
      · exact allP1 (by decide : (¬ (1 : Int32) = 0))
      refine AW.tswIn (k := 1) (tgt := 77) ⟨_, rfl⟩ (by decide) (by decide) rfl (by decide) ?_
      refine AW.run 3 [] (82, [(0, .inr (.inr (4, 0, 0))), (1, .inl (nI k)), (2, .inl 1)], [.inl (nI k), .inr (.inr (2, 0, 0))], σ) [] rfl ?_ ?_
      · exact trivial
      refine AW.callVI (d' := 1) [.inl (nI k)] [] ⟨_, rfl⟩ f_3_figureOf v_3_figureOf l_5_81 ⟨rfl, by decide⟩ rfl (Nat.le_of_ble_eq_true rfl) rfl (Nat.le_of_ble_eq_true rfl) (c3_figureOf 0 F.1 σ hS hO k hk) ?_
      rintro _ _ ⟨rfl, rfl⟩
      refine AW.reti ⟨_, rfl⟩ rfl ?_
      exact ⟨F, (by unfold bottleOfP; rw [botP_some hk hn8, if_neg (by decide : ¬ (1 : Int32) = 0), if_pos rfl]; try rfl), RepA_mind onlyM_rfl hA⟩
    by_cases hw2 : w = 2
    · subst hw2
      refine AW.run 3 [] (5, [(0, .inr (.inr (4, 0, 0))), (1, .inl (nI k)), (2, .inl 2)], [.inl (nI k), .inr (.inr (2, 0, 0))], σ) [] rfl ?_ ?_
      · exact trivial
      refine AW.callVI (d' := 0) [.inl (nI k)] [] ⟨_, rfl⟩ f_3_has v_3_has l_5_74 ⟨rfl, by decide⟩ rfl (Nat.le_of_ble_eq_true rfl) rfl (Nat.le_of_ble_eq_true rfl) (c3_has 0 F.1 σ hS hO (nI k)) ?_
      rintro v _ ⟨rfl, hv⟩
      obtain rfl : v = 1 := by
        rcases hv with h | h
        · exact h.1
        · exact absurd rfl (h.2 k hk)
      refine AW.run 2 [true] (18, [(0, .inr (.inr (4, 0, 0))), (1, .inl (nI k)), (2, .inl 2)], [.inl 2], σ) [icP .ne (1 : Int32) 0] rfl ?_ ?_
      · exact allP1 (by decide : (¬ (1 : Int32) = 0))
      refine AW.tswIn (k := 2) (tgt := 86) ⟨_, rfl⟩ (by decide) (by decide) rfl (by decide) ?_
      refine AW.run 3 [] (91, [(0, .inr (.inr (4, 0, 0))), (1, .inl (nI k)), (2, .inl 2)], [.inl (nI k), .inr (.inr (2, 0, 0))], σ) [] rfl ?_ ?_
      · exact trivial
      refine AW.callVI (d' := 1) [.inl (nI k)] [] ⟨_, rfl⟩ f_3_placeOf v_3_placeOf l_5_84 ⟨rfl, by decide⟩ rfl (Nat.le_of_ble_eq_true rfl) rfl (Nat.le_of_ble_eq_true rfl) (c3_placeOf 0 F.1 σ hS hO k hk) ?_
      rintro _ _ ⟨rfl, rfl⟩
      refine AW.reti ⟨_, rfl⟩ rfl ?_
      exact ⟨F, (by unfold bottleOfP; rw [botP_some hk hn8, if_neg (by decide : ¬ (2 : Int32) = 0), if_neg (by decide : ¬ (2 : Int32) = 1), if_pos rfl]; try rfl), RepA_mind onlyM_rfl hA⟩
    by_cases hw3 : w = 3
    · subst hw3
      refine AW.run 3 [] (5, [(0, .inr (.inr (4, 0, 0))), (1, .inl (nI k)), (2, .inl 3)], [.inl (nI k), .inr (.inr (2, 0, 0))], σ) [] rfl ?_ ?_
      · exact trivial
      refine AW.callVI (d' := 0) [.inl (nI k)] [] ⟨_, rfl⟩ f_3_has v_3_has l_5_74 ⟨rfl, by decide⟩ rfl (Nat.le_of_ble_eq_true rfl) rfl (Nat.le_of_ble_eq_true rfl) (c3_has 0 F.1 σ hS hO (nI k)) ?_
      rintro v _ ⟨rfl, hv⟩
      obtain rfl : v = 1 := by
        rcases hv with h | h
        · exact h.1
        · exact absurd rfl (h.2 k hk)
      refine AW.run 2 [true] (18, [(0, .inr (.inr (4, 0, 0))), (1, .inl (nI k)), (2, .inl 3)], [.inl 3], σ) [icP .ne (1 : Int32) 0] rfl ?_ ?_
      · exact allP1 (by decide : (¬ (1 : Int32) = 0))
      refine AW.tswIn (k := 3) (tgt := 95) ⟨_, rfl⟩ (by decide) (by decide) rfl (by decide) ?_
      refine AW.run 3 [] (100, [(0, .inr (.inr (4, 0, 0))), (1, .inl (nI k)), (2, .inl 3)], [.inl (nI k), .inr (.inr (2, 0, 0))], σ) [] rfl ?_ ?_
      · exact trivial
      refine AW.callVI (d' := 1) [.inl (nI k)] [] ⟨_, rfl⟩ f_3_pressOf v_3_pressOf l_5_87 ⟨rfl, by decide⟩ rfl (Nat.le_of_ble_eq_true rfl) rfl (Nat.le_of_ble_eq_true rfl) (c3_pressOf 0 F.1 σ hS hO k hk) ?_
      rintro _ _ ⟨rfl, rfl⟩
      refine AW.reti ⟨_, rfl⟩ rfl ?_
      exact ⟨F, (by unfold bottleOfP; rw [botP_some hk hn8, if_neg (by decide : ¬ (3 : Int32) = 0), if_neg (by decide : ¬ (3 : Int32) = 1), if_neg (by decide : ¬ (3 : Int32) = 2), if_pos rfl]; try rfl), RepA_mind onlyM_rfl hA⟩
    by_cases hw4 : w = 4
    · subst hw4
      refine AW.run 3 [] (5, [(0, .inr (.inr (4, 0, 0))), (1, .inl (nI k)), (2, .inl 4)], [.inl (nI k), .inr (.inr (2, 0, 0))], σ) [] rfl ?_ ?_
      · exact trivial
      refine AW.callVI (d' := 0) [.inl (nI k)] [] ⟨_, rfl⟩ f_3_has v_3_has l_5_74 ⟨rfl, by decide⟩ rfl (Nat.le_of_ble_eq_true rfl) rfl (Nat.le_of_ble_eq_true rfl) (c3_has 0 F.1 σ hS hO (nI k)) ?_
      rintro v _ ⟨rfl, hv⟩
      obtain rfl : v = 1 := by
        rcases hv with h | h
        · exact h.1
        · exact absurd rfl (h.2 k hk)
      refine AW.run 2 [true] (18, [(0, .inr (.inr (4, 0, 0))), (1, .inl (nI k)), (2, .inl 4)], [.inl 4], σ) [icP .ne (1 : Int32) 0] rfl ?_ ?_
      · exact allP1 (by decide : (¬ (1 : Int32) = 0))
      refine AW.tswIn (k := 4) (tgt := 104) ⟨_, rfl⟩ (by decide) (by decide) rfl (by decide) ?_
      refine AW.run 3 [] (109, [(0, .inr (.inr (4, 0, 0))), (1, .inl (nI k)), (2, .inl 4)], [.inl (nI k), .inr (.inr (2, 0, 0))], σ) [] rfl ?_ ?_
      · exact trivial
      refine AW.callVI (d' := 0) [.inl (nI k)] [] ⟨_, rfl⟩ f_3_isWhole v_3_isWhole l_5_90 ⟨rfl, by decide⟩ rfl (Nat.le_of_ble_eq_true rfl) rfl (Nat.le_of_ble_eq_true rfl) (c3_isWhole 0 F.1 σ hS hO k (by omega)) ?_
      rintro v _ ⟨rfl, hv⟩
      rcases hv with ⟨rfl, hp109⟩ | ⟨rfl, hp109⟩
      · skip
        refine AW.run 3 [false] (120, [(0, .inr (.inr (4, 0, 0))), (1, .inl (nI k)), (2, .inl 4)], [.inl 1], σ) [¬ icP .eq (1 : Int32) 0] rfl ?_ ?_
        · exact allP1 (by decide : ¬ ((1 : Int32) = 0))
        refine AW.reti ⟨_, rfl⟩ rfl ?_
        exact ⟨F, (by unfold bottleOfP; rw [botP_some hk hn8, if_neg (by decide : ¬ (4 : Int32) = 0), if_neg (by decide : ¬ (4 : Int32) = 1), if_neg (by decide : ¬ (4 : Int32) = 2), if_neg (by decide : ¬ (4 : Int32) = 3), if_pos rfl]; rw [if_pos hp109]; try rfl), RepA_mind onlyM_rfl hA⟩
      · skip
        refine AW.run 2 [true] (120, [(0, .inr (.inr (4, 0, 0))), (1, .inl (nI k)), (2, .inl 4)], [.inl 0], σ) [icP .eq (0 : Int32) 0] rfl ?_ ?_
        · exact allP1 (by decide : ((0 : Int32) = 0))
        refine AW.reti ⟨_, rfl⟩ rfl ?_
        exact ⟨F, (by unfold bottleOfP; rw [botP_some hk hn8, if_neg (by decide : ¬ (4 : Int32) = 0), if_neg (by decide : ¬ (4 : Int32) = 1), if_neg (by decide : ¬ (4 : Int32) = 2), if_neg (by decide : ¬ (4 : Int32) = 3), if_pos rfl]; rw [if_neg (by rw [hp109]; decide)]; try rfl), RepA_mind onlyM_rfl hA⟩
    by_cases hw5 : w = 5
    · subst hw5
      refine AW.run 3 [] (5, [(0, .inr (.inr (4, 0, 0))), (1, .inl (nI k)), (2, .inl 5)], [.inl (nI k), .inr (.inr (2, 0, 0))], σ) [] rfl ?_ ?_
      · exact trivial
      refine AW.callVI (d' := 0) [.inl (nI k)] [] ⟨_, rfl⟩ f_3_has v_3_has l_5_74 ⟨rfl, by decide⟩ rfl (Nat.le_of_ble_eq_true rfl) rfl (Nat.le_of_ble_eq_true rfl) (c3_has 0 F.1 σ hS hO (nI k)) ?_
      rintro v _ ⟨rfl, hv⟩
      obtain rfl : v = 1 := by
        rcases hv with h | h
        · exact h.1
        · exact absurd rfl (h.2 k hk)
      refine AW.run 2 [true] (18, [(0, .inr (.inr (4, 0, 0))), (1, .inl (nI k)), (2, .inl 5)], [.inl 5], σ) [icP .ne (1 : Int32) 0] rfl ?_ ?_
      · exact allP1 (by decide : (¬ (1 : Int32) = 0))
      refine AW.tswIn (k := 5) (tgt := 121) ⟨_, rfl⟩ (by decide) (by decide) rfl (by decide) ?_
      refine AW.run 3 [] (126, [(0, .inr (.inr (4, 0, 0))), (1, .inl (nI k)), (2, .inl 5)], [.inl (nI k), .inr (.inr (2, 0, 0))], σ) [] rfl ?_ ?_
      · exact trivial
      refine AW.callVI (d' := 0) [.inl (nI k)] [] ⟨_, rfl⟩ f_3_isCovered v_3_isCovered l_5_93 ⟨rfl, by decide⟩ rfl (Nat.le_of_ble_eq_true rfl) rfl (Nat.le_of_ble_eq_true rfl) (c3_isCovered 0 F.1 σ hS hO k (by omega)) ?_
      rintro v _ ⟨rfl, hv⟩
      rcases hv with ⟨rfl, hp126⟩ | ⟨rfl, hp126⟩
      · skip
        refine AW.run 3 [false] (137, [(0, .inr (.inr (4, 0, 0))), (1, .inl (nI k)), (2, .inl 5)], [.inl 1], σ) [¬ icP .eq (1 : Int32) 0] rfl ?_ ?_
        · exact allP1 (by decide : ¬ ((1 : Int32) = 0))
        refine AW.reti ⟨_, rfl⟩ rfl ?_
        exact ⟨F, (by unfold bottleOfP; rw [botP_some hk hn8, if_neg (by decide : ¬ (5 : Int32) = 0), if_neg (by decide : ¬ (5 : Int32) = 1), if_neg (by decide : ¬ (5 : Int32) = 2), if_neg (by decide : ¬ (5 : Int32) = 3), if_neg (by decide : ¬ (5 : Int32) = 4), if_pos rfl]; rw [if_pos hp126]; try rfl), RepA_mind onlyM_rfl hA⟩
      · skip
        refine AW.run 2 [true] (137, [(0, .inr (.inr (4, 0, 0))), (1, .inl (nI k)), (2, .inl 5)], [.inl 0], σ) [icP .eq (0 : Int32) 0] rfl ?_ ?_
        · exact allP1 (by decide : ((0 : Int32) = 0))
        refine AW.reti ⟨_, rfl⟩ rfl ?_
        exact ⟨F, (by unfold bottleOfP; rw [botP_some hk hn8, if_neg (by decide : ¬ (5 : Int32) = 0), if_neg (by decide : ¬ (5 : Int32) = 1), if_neg (by decide : ¬ (5 : Int32) = 2), if_neg (by decide : ¬ (5 : Int32) = 3), if_neg (by decide : ¬ (5 : Int32) = 4), if_pos rfl]; rw [if_neg (by rw [hp126]; decide)]; try rfl), RepA_mind onlyM_rfl hA⟩
    by_cases hw6 : w = 6
    · subst hw6
      refine AW.run 3 [] (5, [(0, .inr (.inr (4, 0, 0))), (1, .inl (nI k)), (2, .inl 6)], [.inl (nI k), .inr (.inr (2, 0, 0))], σ) [] rfl ?_ ?_
      · exact trivial
      refine AW.callVI (d' := 0) [.inl (nI k)] [] ⟨_, rfl⟩ f_3_has v_3_has l_5_74 ⟨rfl, by decide⟩ rfl (Nat.le_of_ble_eq_true rfl) rfl (Nat.le_of_ble_eq_true rfl) (c3_has 0 F.1 σ hS hO (nI k)) ?_
      rintro v _ ⟨rfl, hv⟩
      obtain rfl : v = 1 := by
        rcases hv with h | h
        · exact h.1
        · exact absurd rfl (h.2 k hk)
      refine AW.run 2 [true] (18, [(0, .inr (.inr (4, 0, 0))), (1, .inl (nI k)), (2, .inl 6)], [.inl 6], σ) [icP .ne (1 : Int32) 0] rfl ?_ ?_
      · exact allP1 (by decide : (¬ (1 : Int32) = 0))
      refine AW.tswIn (k := 6) (tgt := 138) ⟨_, rfl⟩ (by decide) (by decide) rfl (by decide) ?_
      refine AW.run 3 [] (143, [(0, .inr (.inr (4, 0, 0))), (1, .inl (nI k)), (2, .inl 6)], [.inl (nI k), .inr (.inr (2, 0, 0))], σ) [] rfl ?_ ?_
      · exact trivial
      refine AW.callVI (d' := 1) [.inl (nI k)] [] ⟨_, rfl⟩ f_3_riseOf v_3_riseOf l_5_96 ⟨rfl, by decide⟩ rfl (Nat.le_of_ble_eq_true rfl) rfl (Nat.le_of_ble_eq_true rfl) (c3_riseOf 0 F.1 σ hS hO k hk) ?_
      rintro _ _ ⟨rfl, rfl⟩
      refine AW.reti ⟨_, rfl⟩ rfl ?_
      exact ⟨F, (by unfold bottleOfP; rw [botP_some hk hn8, if_neg (by decide : ¬ (6 : Int32) = 0), if_neg (by decide : ¬ (6 : Int32) = 1), if_neg (by decide : ¬ (6 : Int32) = 2), if_neg (by decide : ¬ (6 : Int32) = 3), if_neg (by decide : ¬ (6 : Int32) = 4), if_neg (by decide : ¬ (6 : Int32) = 5), if_pos rfl]; try rfl), RepA_mind onlyM_rfl hA⟩
    by_cases hw7 : w = 7
    · subst hw7
      refine AW.run 3 [] (5, [(0, .inr (.inr (4, 0, 0))), (1, .inl (nI k)), (2, .inl 7)], [.inl (nI k), .inr (.inr (2, 0, 0))], σ) [] rfl ?_ ?_
      · exact trivial
      refine AW.callVI (d' := 0) [.inl (nI k)] [] ⟨_, rfl⟩ f_3_has v_3_has l_5_74 ⟨rfl, by decide⟩ rfl (Nat.le_of_ble_eq_true rfl) rfl (Nat.le_of_ble_eq_true rfl) (c3_has 0 F.1 σ hS hO (nI k)) ?_
      rintro v _ ⟨rfl, hv⟩
      obtain rfl : v = 1 := by
        rcases hv with h | h
        · exact h.1
        · exact absurd rfl (h.2 k hk)
      refine AW.run 2 [true] (18, [(0, .inr (.inr (4, 0, 0))), (1, .inl (nI k)), (2, .inl 7)], [.inl 7], σ) [icP .ne (1 : Int32) 0] rfl ?_ ?_
      · exact allP1 (by decide : (¬ (1 : Int32) = 0))
      refine AW.tswIn (k := 7) (tgt := 147) ⟨_, rfl⟩ (by decide) (by decide) rfl (by decide) ?_
      refine AW.run 3 [] (152, [(0, .inr (.inr (4, 0, 0))), (1, .inl (nI k)), (2, .inl 7)], [.inl (nI k), .inr (.inr (2, 0, 0))], σ) [] rfl ?_ ?_
      · exact trivial
      refine AW.callVI (d' := 1) [.inl (nI k)] [] ⟨_, rfl⟩ f_3_bearOf v_3_bearOf l_5_99 ⟨rfl, by decide⟩ rfl (Nat.le_of_ble_eq_true rfl) rfl (Nat.le_of_ble_eq_true rfl) (c3_bearOf 0 F.1 σ hS hO k hk) ?_
      rintro _ _ ⟨rfl, rfl⟩
      refine AW.reti ⟨_, rfl⟩ rfl ?_
      exact ⟨F, (by unfold bottleOfP; rw [botP_some hk hn8, if_neg (by decide : ¬ (7 : Int32) = 0), if_neg (by decide : ¬ (7 : Int32) = 1), if_neg (by decide : ¬ (7 : Int32) = 2), if_neg (by decide : ¬ (7 : Int32) = 3), if_neg (by decide : ¬ (7 : Int32) = 4), if_neg (by decide : ¬ (7 : Int32) = 5), if_neg (by decide : ¬ (7 : Int32) = 6), if_pos rfl]; try rfl), RepA_mind onlyM_rfl hA⟩
    by_cases hw8 : w = 8
    · subst hw8
      refine AW.run 3 [] (5, [(0, .inr (.inr (4, 0, 0))), (1, .inl (nI k)), (2, .inl 8)], [.inl (nI k), .inr (.inr (2, 0, 0))], σ) [] rfl ?_ ?_
      · exact trivial
      refine AW.callVI (d' := 0) [.inl (nI k)] [] ⟨_, rfl⟩ f_3_has v_3_has l_5_74 ⟨rfl, by decide⟩ rfl (Nat.le_of_ble_eq_true rfl) rfl (Nat.le_of_ble_eq_true rfl) (c3_has 0 F.1 σ hS hO (nI k)) ?_
      rintro v _ ⟨rfl, hv⟩
      obtain rfl : v = 1 := by
        rcases hv with h | h
        · exact h.1
        · exact absurd rfl (h.2 k hk)
      refine AW.run 2 [true] (18, [(0, .inr (.inr (4, 0, 0))), (1, .inl (nI k)), (2, .inl 8)], [.inl 8], σ) [icP .ne (1 : Int32) 0] rfl ?_ ?_
      · exact allP1 (by decide : (¬ (1 : Int32) = 0))
      refine AW.tswIn (k := 8) (tgt := 156) ⟨_, rfl⟩ (by decide) (by decide) rfl (by decide) ?_
      refine AW.run 3 [] (161, [(0, .inr (.inr (4, 0, 0))), (1, .inl (nI k)), (2, .inl 8)], [.inl (nI k), .inr (.inr (2, 0, 0))], σ) [] rfl ?_ ?_
      · exact trivial
      refine AW.callVI (d' := 1) [.inl (nI k)] [] ⟨_, rfl⟩ f_3_shockOf v_3_shockOf l_5_102 ⟨rfl, by decide⟩ rfl (Nat.le_of_ble_eq_true rfl) rfl (Nat.le_of_ble_eq_true rfl) (c3_shockOf 0 F.1 σ hS hO k hk) ?_
      rintro _ _ ⟨rfl, rfl⟩
      refine AW.reti ⟨_, rfl⟩ rfl ?_
      exact ⟨F, (by unfold bottleOfP; rw [botP_some hk hn8, if_neg (by decide : ¬ (8 : Int32) = 0), if_neg (by decide : ¬ (8 : Int32) = 1), if_neg (by decide : ¬ (8 : Int32) = 2), if_neg (by decide : ¬ (8 : Int32) = 3), if_neg (by decide : ¬ (8 : Int32) = 4), if_neg (by decide : ¬ (8 : Int32) = 5), if_neg (by decide : ¬ (8 : Int32) = 6), if_neg (by decide : ¬ (8 : Int32) = 7), if_pos rfl]; try rfl), RepA_mind onlyM_rfl hA⟩
    · skip
      refine AW.run 3 [] (5, [(0, .inr (.inr (4, 0, 0))), (1, .inl (nI k)), (2, .inl w)], [.inl (nI k), .inr (.inr (2, 0, 0))], σ) [] rfl ?_ ?_
      · exact trivial
      refine AW.callVI (d' := 0) [.inl (nI k)] [] ⟨_, rfl⟩ f_3_has v_3_has l_5_74 ⟨rfl, by decide⟩ rfl (Nat.le_of_ble_eq_true rfl) rfl (Nat.le_of_ble_eq_true rfl) (c3_has 0 F.1 σ hS hO (nI k)) ?_
      rintro v _ ⟨rfl, hv⟩
      obtain rfl : v = 1 := by
        rcases hv with h | h
        · exact h.1
        · exact absurd rfl (h.2 k hk)
      refine AW.run 2 [true] (18, [(0, .inr (.inr (4, 0, 0))), (1, .inl (nI k)), (2, .inl w)], [.inl w], σ) [icP .ne (1 : Int32) 0] rfl ?_ ?_
      · exact allP1 (by decide : (¬ (1 : Int32) = 0))
      have ehw0 := lv_neT (a := 0) hw0 rfl
      have ehw1 := lv_neT (a := 1) hw1 rfl
      have ehw2 := lv_neT (a := 2) hw2 rfl
      have ehw3 := lv_neT (a := 3) hw3 rfl
      have ehw4 := lv_neT (a := 4) hw4 rfl
      have ehw5 := lv_neT (a := 5) hw5 rfl
      have ehw6 := lv_neT (a := 6) hw6 rfl
      have ehw7 := lv_neT (a := 7) hw7 rfl
      have ehw8 := lv_neT (a := 8) hw8 rfl
      refine AW.tswOut (tgt := 165) ⟨_, rfl⟩ (by omega) (by decide) ?_
      refine AW.run 2 [] (168, [(0, .inr (.inr (4, 0, 0))), (1, .inl (nI k)), (2, .inl w)], [.inl (-2), .inr (.inr (4, 0, 0))], σ) [] rfl ?_ ?_
      · exact trivial
      refine AW.callVI (d' := 0) [.inl (-2)] [] ⟨_, rfl⟩ f_5_refuse v_5_refuse l_5_50 ⟨rfl, by decide⟩ rfl (Nat.le_of_ble_eq_true rfl) rfl (Nat.le_of_ble_eq_true rfl) (c5_refuse2 σ) ?_
      rintro _ _ ⟨rfl, rfl⟩
      refine AW.reti ⟨_, rfl⟩ rfl ?_
      exact ⟨rfuF F 2, (by unfold bottleOfP; rw [botP_some hk hn8, if_neg hw0, if_neg hw1, if_neg hw2, if_neg hw3, if_neg hw4, if_neg hw5, if_neg hw6, if_neg hw7, if_neg hw8]; try rfl), RepA_ref hA (by decide) (by decide)⟩
  · skip
    refine AW.run 3 [] (5, [(0, .inr (.inr (4, 0, 0))), (1, .inl b), (2, .inl w)], [.inl b, .inr (.inr (2, 0, 0))], σ) [] rfl ?_ ?_
    · exact trivial
    refine AW.callVI (d' := 0) [.inl b] [] ⟨_, rfl⟩ f_3_has v_3_has l_5_74 ⟨rfl, by decide⟩ rfl (Nat.le_of_ble_eq_true rfl) rfl (Nat.le_of_ble_eq_true rfl) (c3_has 0 F.1 σ hS hO b) ?_
    rintro v _ ⟨rfl, hv⟩
    obtain rfl : v = 0 := by
      rcases hv with h | h
      · exact absurd h.2.choose_spec.2 (hnok _ h.2.choose_spec.1)
      · exact h.1
    refine AW.run 3 [false] (13, [(0, .inr (.inr (4, 0, 0))), (1, .inl b), (2, .inl w)], [.inl (-1), .inr (.inr (4, 0, 0))], σ) [¬ icP .ne (0 : Int32) 0] rfl ?_ ?_
    · exact allP1 (by decide : ¬ (¬ (0 : Int32) = 0))
    refine AW.callVI (d' := 0) [.inl (-1)] [] ⟨_, rfl⟩ f_5_refuse v_5_refuse l_5_50 ⟨rfl, by decide⟩ rfl (Nat.le_of_ble_eq_true rfl) rfl (Nat.le_of_ble_eq_true rfl) (c5_refuse1 σ) ?_
    rintro _ _ ⟨rfl, rfl⟩
    refine AW.reti ⟨_, rfl⟩ rfl ?_
    exact ⟨rfuF F 1, (by unfold bottleOfP; rw [botP_none hnok]; try rfl), RepA_ref hA (by decide) (by decide)⟩
set_option maxHeartbeats 4000000 in
set_option maxRecDepth 100000 in
theorem c5_spoon (F : Gv) (σ : St) (hA : RepA σ F) (hF : FOK F) (n : Int32) (w : Int32) : Ct M5_spoon 6 [.inr (.inr (4, 0, 0)), .inl n, .inl w] σ (QA σ (spoonP F n w)) := by
  refine Ct.of f_5_spoon (Nat.le_of_ble_eq_true rfl) ?_
  show AW M5_spoon 6 _ (0, [(0, .inr (.inr (4, 0, 0))), (1, .inl n), (2, .inl w)], [], σ)
  have hS : RepS (σ 2 0) F.1 := hA.1
  have hO : SOK F.1 := hF.1.1
  have hn8 : Sn F.1 ≤ 8 := hO.1
  rcases fMax_or 60 (by decide) n with ⟨h4n1, en1⟩ | ⟨h4n1, h6n1, en1⟩ | ⟨n1, hn1, rfl, en1⟩
  · skip
    refine AW.run 1 [] (1, [(0, .inr (.inr (4, 0, 0))), (1, .inl n), (2, .inl w)], [.inl n], σ) [] rfl ?_ ?_
    · exact trivial
    refine AW.callSI (d' := 0) [.inl n] [] ⟨_, rfl⟩ f_5_aheadFault s_5_aheadFault l_5_156 rfl (Nat.le_of_ble_eq_true rfl) rfl (Nat.le_of_ble_eq_true rfl) (c5_aheadFault4 n h4n1 σ) ?_
    rintro _ _ ⟨rfl, rfl⟩
    refine AW.run 5 [false] (11, [(3, .inl (-4)), (0, .inr (.inr (4, 0, 0))), (1, .inl n), (2, .inl w)], [.inl (-4), .inr (.inr (4, 0, 0))], σ) [¬ icP .eq ((-4) : Int32) 0] rfl ?_ ?_
    · exact allP1 (by decide : ¬ (((-4) : Int32) = 0))
    refine AW.callVI (d' := 0) [.inl (-4)] [] ⟨_, rfl⟩ f_5_refuse v_5_refuse l_5_50 ⟨rfl, by decide⟩ rfl (Nat.le_of_ble_eq_true rfl) rfl (Nat.le_of_ble_eq_true rfl) (c5_refuse4 σ) ?_
    rintro _ _ ⟨rfl, rfl⟩
    refine AW.reti ⟨_, rfl⟩ rfl ?_
    exact ⟨rfuF F 4, (by unfold spoonP; rw [maxP_e4 en1]; try rfl), RepA_ref hA (by decide) (by decide)⟩
  · skip
    refine AW.run 1 [] (1, [(0, .inr (.inr (4, 0, 0))), (1, .inl n), (2, .inl w)], [.inl n], σ) [] rfl ?_ ?_
    · exact trivial
    refine AW.callSI (d' := 0) [.inl n] [] ⟨_, rfl⟩ f_5_aheadFault s_5_aheadFault l_5_156 rfl (Nat.le_of_ble_eq_true rfl) rfl (Nat.le_of_ble_eq_true rfl) (c5_aheadFault6 n h4n1 h6n1 σ) ?_
    rintro _ _ ⟨rfl, rfl⟩
    refine AW.run 5 [false] (11, [(3, .inl (-6)), (0, .inr (.inr (4, 0, 0))), (1, .inl n), (2, .inl w)], [.inl (-6), .inr (.inr (4, 0, 0))], σ) [¬ icP .eq ((-6) : Int32) 0] rfl ?_ ?_
    · exact allP1 (by decide : ¬ (((-6) : Int32) = 0))
    refine AW.callVI (d' := 0) [.inl (-6)] [] ⟨_, rfl⟩ f_5_refuse v_5_refuse l_5_50 ⟨rfl, by decide⟩ rfl (Nat.le_of_ble_eq_true rfl) rfl (Nat.le_of_ble_eq_true rfl) (c5_refuse6 σ) ?_
    rintro _ _ ⟨rfl, rfl⟩
    refine AW.reti ⟨_, rfl⟩ rfl ?_
    exact ⟨rfuF F 6, (by unfold spoonP; rw [maxP_e6 en1]; try rfl), RepA_ref hA (by decide) (by decide)⟩
  · skip
    have hbs := bsug_9 F.1 n1
    by_cases h0w : w = 0
    · subst h0w
      refine AW.run 1 [] (1, [(0, .inr (.inr (4, 0, 0))), (1, .inl (nI n1)), (2, .inl 0)], [.inl (nI n1)], σ) [] rfl ?_ ?_
      · exact trivial
      refine AW.callSI (d' := 0) [.inl (nI n1)] [] ⟨_, rfl⟩ f_5_aheadFault s_5_aheadFault l_5_156 rfl (Nat.le_of_ble_eq_true rfl) rfl (Nat.le_of_ble_eq_true rfl) (c5_aheadFault0 n1 hn1 σ) ?_
      rintro _ _ ⟨rfl, rfl⟩
      refine AW.run 4 [true] (16, [(3, .inl 0), (0, .inr (.inr (4, 0, 0))), (1, .inl (nI n1)), (2, .inl 0)], [.inl 0], σ) [icP .eq (0 : Int32) 0] rfl ?_ ?_
      · exact allP1 (by decide : ((0 : Int32) = 0))
      refine AW.callSI (d' := 0) [.inl 0] [] ⟨_, rfl⟩ f_5_isNoTwo s_5_isNoTwo l_5_114 rfl (Nat.le_of_ble_eq_true rfl) rfl (Nat.le_of_ble_eq_true rfl) (c5_isNoTwo0 σ) ?_
      rintro _ _ ⟨rfl, rfl⟩
      refine AW.run 6 [true] (38, [(3, .inl 0), (0, .inr (.inr (4, 0, 0))), (1, .inl (nI n1)), (2, .inl 0)], [.inl (nI n1), .inr (.inr (2, 0, 0)), .inr (.inr (0, 0, 0))], σ) [icP .eq (0 : Int32) 0] rfl ?_ ?_
      · exact allP1 (by decide : ((0 : Int32) = 0))
      refine AW.callVI (d' := 5) [.inr (.inr (2, 0, 0)), .inl (nI n1)] [] ⟨_, rfl⟩ f_1_bestSugar v_1_bestSugar l_5_190 ⟨rfl, by decide⟩ rfl (Nat.le_of_ble_eq_true rfl) rfl (Nat.le_of_ble_eq_true rfl) (c1_bestSugar F.1 σ hS hO n1 (by omega)) ?_
      rintro _ τ28 ⟨rfl, hM28⟩
      refine AW.run 5 [false] (66, [(4, .inl (nI (bsug F.1 n1 10).1)), (3, .inl 0), (0, .inr (.inr (4, 0, 0))), (1, .inl (nI n1)), (2, .inl 0)], [.inl (nI (bsug F.1 n1 10).1)], τ28) [¬ icP .ne (0 : Int32) 0] rfl ?_ ?_
      · exact allP1 (by decide : ¬ (¬ (0 : Int32) = 0))
      refine AW.reti ⟨_, rfl⟩ rfl ?_
      exact ⟨F, (by unfold spoonP; rw [maxP_e0 en1 (by omega), twoP_0]; try rfl), RepA_mind (onlyM_of hM28) hA⟩
    by_cases h1w : w = 1
    · subst h1w
      refine AW.run 1 [] (1, [(0, .inr (.inr (4, 0, 0))), (1, .inl (nI n1)), (2, .inl 1)], [.inl (nI n1)], σ) [] rfl ?_ ?_
      · exact trivial
      refine AW.callSI (d' := 0) [.inl (nI n1)] [] ⟨_, rfl⟩ f_5_aheadFault s_5_aheadFault l_5_156 rfl (Nat.le_of_ble_eq_true rfl) rfl (Nat.le_of_ble_eq_true rfl) (c5_aheadFault0 n1 hn1 σ) ?_
      rintro _ _ ⟨rfl, rfl⟩
      refine AW.run 4 [true] (16, [(3, .inl 0), (0, .inr (.inr (4, 0, 0))), (1, .inl (nI n1)), (2, .inl 1)], [.inl 1], σ) [icP .eq (0 : Int32) 0] rfl ?_ ?_
      · exact allP1 (by decide : ((0 : Int32) = 0))
      refine AW.callSI (d' := 0) [.inl 1] [] ⟨_, rfl⟩ f_5_isNoTwo s_5_isNoTwo l_5_114 rfl (Nat.le_of_ble_eq_true rfl) rfl (Nat.le_of_ble_eq_true rfl) (c5_isNoTwo1 σ) ?_
      rintro _ _ ⟨rfl, rfl⟩
      refine AW.run 6 [true] (38, [(3, .inl 0), (0, .inr (.inr (4, 0, 0))), (1, .inl (nI n1)), (2, .inl 1)], [.inl (nI n1), .inr (.inr (2, 0, 0)), .inr (.inr (0, 0, 0))], σ) [icP .eq (0 : Int32) 0] rfl ?_ ?_
      · exact allP1 (by decide : ((0 : Int32) = 0))
      refine AW.callVI (d' := 5) [.inr (.inr (2, 0, 0)), .inl (nI n1)] [] ⟨_, rfl⟩ f_1_bestSugar v_1_bestSugar l_5_190 ⟨rfl, by decide⟩ rfl (Nat.le_of_ble_eq_true rfl) rfl (Nat.le_of_ble_eq_true rfl) (c1_bestSugar F.1 σ hS hO n1 (by omega)) ?_
      rintro _ τ29 ⟨rfl, hM29⟩
      refine AW.run 9 [true] (63, [(4, .inl (nI (bsug F.1 n1 10).1)), (3, .inl 0), (0, .inr (.inr (4, 0, 0))), (1, .inl (nI n1)), (2, .inl 1)], [.inl (nI n1), .inl (nI (bsug F.1 n1 10).1), .inr (.inr (2, 0, 0)), .inr (.inr (0, 0, 0))], τ29) [icP .ne (1 : Int32) 0] rfl ?_ ?_
      · exact allP1 (by decide : (¬ (1 : Int32) = 0))
      refine AW.callVI (d' := 4) [.inr (.inr (2, 0, 0)), .inl (nI (bsug F.1 n1 10).1), .inl (nI n1)] [] ⟨_, rfl⟩ f_1_leftWithSugar v_1_leftWithSugar l_5_193 ⟨rfl, by decide⟩ rfl (Nat.le_of_ble_eq_true rfl) rfl (Nat.le_of_ble_eq_true rfl) (c1_leftWithSugar F.1 τ29 (onlyM_rep (onlyM_of hM29) hS) hO ((bsug F.1 n1 10).1) n1 hbs (by omega)) ?_
      rintro _ τ30 ⟨rfl, hM30⟩
      refine AW.reti ⟨_, rfl⟩ rfl ?_
      exact ⟨F, (by unfold spoonP; rw [maxP_e0 en1 (by omega), twoP_1]; try rfl), RepA_mind (onlyM_trans (onlyM_of hM29) hM30) hA⟩
    · skip
      refine AW.run 1 [] (1, [(0, .inr (.inr (4, 0, 0))), (1, .inl (nI n1)), (2, .inl w)], [.inl (nI n1)], σ) [] rfl ?_ ?_
      · exact trivial
      refine AW.callSI (d' := 0) [.inl (nI n1)] [] ⟨_, rfl⟩ f_5_aheadFault s_5_aheadFault l_5_156 rfl (Nat.le_of_ble_eq_true rfl) rfl (Nat.le_of_ble_eq_true rfl) (c5_aheadFault0 n1 hn1 σ) ?_
      rintro _ _ ⟨rfl, rfl⟩
      refine AW.run 4 [true] (16, [(3, .inl 0), (0, .inr (.inr (4, 0, 0))), (1, .inl (nI n1)), (2, .inl w)], [.inl w], σ) [icP .eq (0 : Int32) 0] rfl ?_ ?_
      · exact allP1 (by decide : ((0 : Int32) = 0))
      refine AW.callSI (d' := 0) [.inl w] [] ⟨_, rfl⟩ f_5_isNoTwo s_5_isNoTwo l_5_114 rfl (Nat.le_of_ble_eq_true rfl) rfl (Nat.le_of_ble_eq_true rfl) (c5_isNoTwoN w h0w h1w σ) ?_
      rintro _ _ ⟨rfl, rfl⟩
      refine AW.run 3 [false] (25, [(3, .inl 0), (0, .inr (.inr (4, 0, 0))), (1, .inl (nI n1)), (2, .inl w)], [.inl (-2), .inr (.inr (4, 0, 0))], σ) [¬ icP .eq (1 : Int32) 0] rfl ?_ ?_
      · exact allP1 (by decide : ¬ ((1 : Int32) = 0))
      refine AW.callVI (d' := 0) [.inl (-2)] [] ⟨_, rfl⟩ f_5_refuse v_5_refuse l_5_50 ⟨rfl, by decide⟩ rfl (Nat.le_of_ble_eq_true rfl) rfl (Nat.le_of_ble_eq_true rfl) (c5_refuse2 σ) ?_
      rintro _ _ ⟨rfl, rfl⟩
      refine AW.reti ⟨_, rfl⟩ rfl ?_
      exact ⟨rfuF F 2, (by unfold spoonP; rw [maxP_e0 en1 (by omega), twoP_N h0w h1w]; try rfl), RepA_ref hA (by decide) (by decide)⟩
set_option maxHeartbeats 4000000 in
set_option maxRecDepth 100000 in
theorem c5_ready (F : Gv) (σ : St) (hA : RepA σ F) (hF : FOK F) (b : Int32) (v : Int32) (n : Int32) : Ct M5_ready 5 [.inr (.inr (4, 0, 0)), .inl b, .inl v, .inl n] σ (QA σ (readyP F b v n)) := by
  refine Ct.of f_5_ready (Nat.le_of_ble_eq_true rfl) ?_
  show AW M5_ready 5 _ (0, [(0, .inr (.inr (4, 0, 0))), (1, .inl b), (2, .inl v), (3, .inl n)], [], σ)
  have hS : RepS (σ 2 0) F.1 := hA.1
  have hO : SOK F.1 := hF.1.1
  have hn8 : Sn F.1 ≤ 8 := hO.1
  rcases bot_or (Sn F.1) b with ⟨k, hk, rfl⟩ | hnok
  · skip
    by_cases hv0 : v < 0
    · skip
      refine AW.run 3 [] (5, [(0, .inr (.inr (4, 0, 0))), (1, .inl (nI k)), (2, .inl v), (3, .inl n)], [.inl (nI k), .inr (.inr (2, 0, 0))], σ) [] rfl ?_ ?_
      · exact trivial
      refine AW.callVI (d' := 0) [.inl (nI k)] [] ⟨_, rfl⟩ f_3_has v_3_has l_5_74 ⟨rfl, by decide⟩ rfl (Nat.le_of_ble_eq_true rfl) rfl (Nat.le_of_ble_eq_true rfl) (c3_has 0 F.1 σ hS hO (nI k)) ?_
      rintro v _ ⟨rfl, hv⟩
      obtain rfl : v = 1 := by
        rcases hv with h | h
        · exact h.1
        · exact absurd rfl (h.2 k hk)
      refine AW.run 5 [true, true] (28, [(0, .inr (.inr (4, 0, 0))), (1, .inl (nI k)), (2, .inl v), (3, .inl n)], [.inl (-4), .inr (.inr (4, 0, 0))], σ) [icP .ne (1 : Int32) 0, icP .lt v 0] rfl ?_ ?_
      · exact ⟨(by decide : (¬ (1 : Int32) = 0)), allP1 (hv0)⟩
      refine AW.callVI (d' := 0) [.inl (-4)] [] ⟨_, rfl⟩ f_5_refuse v_5_refuse l_5_50 ⟨rfl, by decide⟩ rfl (Nat.le_of_ble_eq_true rfl) rfl (Nat.le_of_ble_eq_true rfl) (c5_refuse4 σ) ?_
      rintro _ _ ⟨rfl, rfl⟩
      refine AW.reti ⟨_, rfl⟩ rfl ?_
      exact ⟨rfuF F 4, (by unfold readyP; rw [botP_some hk hn8, if_pos (Or.inl hv0)]; try rfl), RepA_ref hA (by decide) (by decide)⟩
    by_cases hn0 : n < 0
    · skip
      refine AW.run 3 [] (5, [(0, .inr (.inr (4, 0, 0))), (1, .inl (nI k)), (2, .inl v), (3, .inl n)], [.inl (nI k), .inr (.inr (2, 0, 0))], σ) [] rfl ?_ ?_
      · exact trivial
      refine AW.callVI (d' := 0) [.inl (nI k)] [] ⟨_, rfl⟩ f_3_has v_3_has l_5_74 ⟨rfl, by decide⟩ rfl (Nat.le_of_ble_eq_true rfl) rfl (Nat.le_of_ble_eq_true rfl) (c3_has 0 F.1 σ hS hO (nI k)) ?_
      rintro v _ ⟨rfl, hv⟩
      obtain rfl : v = 1 := by
        rcases hv with h | h
        · exact h.1
        · exact absurd rfl (h.2 k hk)
      refine AW.run 7 [true, false, false] (28, [(0, .inr (.inr (4, 0, 0))), (1, .inl (nI k)), (2, .inl v), (3, .inl n)], [.inl (-4), .inr (.inr (4, 0, 0))], σ) [icP .ne (1 : Int32) 0, ¬ icP .lt v 0, ¬ icP .ge n 0] rfl ?_ ?_
      · exact ⟨(by decide : (¬ (1 : Int32) = 0)), (hv0), allP1 (nge_of hn0)⟩
      refine AW.callVI (d' := 0) [.inl (-4)] [] ⟨_, rfl⟩ f_5_refuse v_5_refuse l_5_50 ⟨rfl, by decide⟩ rfl (Nat.le_of_ble_eq_true rfl) rfl (Nat.le_of_ble_eq_true rfl) (c5_refuse4 σ) ?_
      rintro _ _ ⟨rfl, rfl⟩
      refine AW.reti ⟨_, rfl⟩ rfl ?_
      exact ⟨rfuF F 4, (by unfold readyP; rw [botP_some hk hn8, if_pos (Or.inr hn0)]; try rfl), RepA_ref hA (by decide) (by decide)⟩
    by_cases hv1 : nI 99 < v
    · skip
      refine AW.run 3 [] (5, [(0, .inr (.inr (4, 0, 0))), (1, .inl (nI k)), (2, .inl v), (3, .inl n)], [.inl (nI k), .inr (.inr (2, 0, 0))], σ) [] rfl ?_ ?_
      · exact trivial
      refine AW.callVI (d' := 0) [.inl (nI k)] [] ⟨_, rfl⟩ f_3_has v_3_has l_5_74 ⟨rfl, by decide⟩ rfl (Nat.le_of_ble_eq_true rfl) rfl (Nat.le_of_ble_eq_true rfl) (c3_has 0 F.1 σ hS hO (nI k)) ?_
      rintro v _ ⟨rfl, hv⟩
      obtain rfl : v = 1 := by
        rcases hv with h | h
        · exact h.1
        · exact absurd rfl (h.2 k hk)
      refine AW.run 10 [true, false, true, true] (47, [(0, .inr (.inr (4, 0, 0))), (1, .inl (nI k)), (2, .inl v), (3, .inl n)], [.inl (-6), .inr (.inr (4, 0, 0))], σ) [icP .ne (1 : Int32) 0, ¬ icP .lt v 0, icP .ge n 0, icP .gt v 99] rfl ?_ ?_
      · exact ⟨(by decide : (¬ (1 : Int32) = 0)), (hv0), (ge_of hn0), allP1 (hv1)⟩
      refine AW.callVI (d' := 0) [.inl (-6)] [] ⟨_, rfl⟩ f_5_refuse v_5_refuse l_5_50 ⟨rfl, by decide⟩ rfl (Nat.le_of_ble_eq_true rfl) rfl (Nat.le_of_ble_eq_true rfl) (c5_refuse6 σ) ?_
      rintro _ _ ⟨rfl, rfl⟩
      refine AW.reti ⟨_, rfl⟩ rfl ?_
      exact ⟨rfuF F 6, (by unfold readyP; rw [botP_some hk hn8, if_neg (fun h => h.elim hv0 hn0), if_pos (Or.inl hv1)]; try rfl), RepA_ref hA (by decide) (by decide)⟩
    by_cases hn1 : nI 60 < n
    · skip
      refine AW.run 3 [] (5, [(0, .inr (.inr (4, 0, 0))), (1, .inl (nI k)), (2, .inl v), (3, .inl n)], [.inl (nI k), .inr (.inr (2, 0, 0))], σ) [] rfl ?_ ?_
      · exact trivial
      refine AW.callVI (d' := 0) [.inl (nI k)] [] ⟨_, rfl⟩ f_3_has v_3_has l_5_74 ⟨rfl, by decide⟩ rfl (Nat.le_of_ble_eq_true rfl) rfl (Nat.le_of_ble_eq_true rfl) (c3_has 0 F.1 σ hS hO (nI k)) ?_
      rintro v _ ⟨rfl, hv⟩
      obtain rfl : v = 1 := by
        rcases hv with h | h
        · exact h.1
        · exact absurd rfl (h.2 k hk)
      refine AW.run 13 [true, false, true, false, false] (47, [(0, .inr (.inr (4, 0, 0))), (1, .inl (nI k)), (2, .inl v), (3, .inl n)], [.inl (-6), .inr (.inr (4, 0, 0))], σ) [icP .ne (1 : Int32) 0, ¬ icP .lt v 0, icP .ge n 0, ¬ icP .gt v 99, ¬ icP .le n 60] rfl ?_ ?_
      · exact ⟨(by decide : (¬ (1 : Int32) = 0)), (hv0), (ge_of hn0), (hv1), allP1 (nge_of hn1)⟩
      refine AW.callVI (d' := 0) [.inl (-6)] [] ⟨_, rfl⟩ f_5_refuse v_5_refuse l_5_50 ⟨rfl, by decide⟩ rfl (Nat.le_of_ble_eq_true rfl) rfl (Nat.le_of_ble_eq_true rfl) (c5_refuse6 σ) ?_
      rintro _ _ ⟨rfl, rfl⟩
      refine AW.reti ⟨_, rfl⟩ rfl ?_
      exact ⟨rfuF F 6, (by unfold readyP; rw [botP_some hk hn8, if_neg (fun h => h.elim hv0 hn0), if_pos (Or.inr hn1)]; try rfl), RepA_ref hA (by decide) (by decide)⟩
    obtain ⟨v1, hv31, rfl⟩ := nI_of hv0
    obtain ⟨n1, hn31, rfl⟩ := nI_of hn0
    refine AW.run 3 [] (5, [(0, .inr (.inr (4, 0, 0))), (1, .inl (nI k)), (2, .inl (nI v1)), (3, .inl (nI n1))], [.inl (nI k), .inr (.inr (2, 0, 0))], σ) [] rfl ?_ ?_
    · exact trivial
    refine AW.callVI (d' := 0) [.inl (nI k)] [] ⟨_, rfl⟩ f_3_has v_3_has l_5_74 ⟨rfl, by decide⟩ rfl (Nat.le_of_ble_eq_true rfl) rfl (Nat.le_of_ble_eq_true rfl) (c3_has 0 F.1 σ hS hO (nI k)) ?_
    rintro v _ ⟨rfl, hv⟩
    obtain rfl : v = 1 := by
      rcases hv with h | h
      · exact h.1
      · exact absurd rfl (h.2 k hk)
    refine AW.run 18 [true, false, true, false, true] (62, [(0, .inr (.inr (4, 0, 0))), (1, .inl (nI k)), (2, .inl (nI v1)), (3, .inl (nI n1))], [.inl (nI n1), .inl (nI v1), .inl (nI k), .inr (.inr (2, 0, 0)), .inr (.inr (0, 0, 0))], σ) [icP .ne (1 : Int32) 0, ¬ icP .lt (nI v1) 0, icP .ge (nI n1) 0, ¬ icP .gt (nI v1) 99, icP .le (nI n1) 60] rfl ?_ ?_
    · exact ⟨(by decide : (¬ (1 : Int32) = 0)), (hv0), (ge_of hn0), (hv1), allP1 (ge_of hn1)⟩
    refine AW.callVI (d' := 4) [.inr (.inr (2, 0, 0)), .inl (nI k), .inl (nI v1), .inl (nI n1)] [] ⟨_, rfl⟩ f_1_leastSugarFor v_1_leastSugarFor l_5_199 ⟨rfl, by decide⟩ rfl (Nat.le_of_ble_eq_true rfl) rfl (Nat.le_of_ble_eq_true rfl) (c1_leastSugarFor F.1 σ hS hO k v1 n1 hk (by omega) (by omega)) ?_
    rintro _ τ31 ⟨rfl, hM31⟩
    refine AW.reti ⟨_, rfl⟩ rfl ?_
    exact ⟨F, (by unfold readyP; rw [botP_some hk hn8, if_neg (fun h => h.elim hv0 hn0), if_neg (fun h => h.elim hv1 hn1), nI_clamp hv31, nI_clamp hn31]; try rfl), RepA_mind (onlyM_of hM31) hA⟩
  · skip
    refine AW.run 3 [] (5, [(0, .inr (.inr (4, 0, 0))), (1, .inl b), (2, .inl v), (3, .inl n)], [.inl b, .inr (.inr (2, 0, 0))], σ) [] rfl ?_ ?_
    · exact trivial
    refine AW.callVI (d' := 0) [.inl b] [] ⟨_, rfl⟩ f_3_has v_3_has l_5_74 ⟨rfl, by decide⟩ rfl (Nat.le_of_ble_eq_true rfl) rfl (Nat.le_of_ble_eq_true rfl) (c3_has 0 F.1 σ hS hO b) ?_
    rintro v _ ⟨rfl, hv⟩
    obtain rfl : v = 0 := by
      rcases hv with h | h
      · exact absurd h.2.choose_spec.2 (hnok _ h.2.choose_spec.1)
      · exact h.1
    refine AW.run 3 [false] (13, [(0, .inr (.inr (4, 0, 0))), (1, .inl b), (2, .inl v), (3, .inl n)], [.inl (-1), .inr (.inr (4, 0, 0))], σ) [¬ icP .ne (0 : Int32) 0] rfl ?_ ?_
    · exact allP1 (by decide : ¬ (¬ (0 : Int32) = 0))
    refine AW.callVI (d' := 0) [.inl (-1)] [] ⟨_, rfl⟩ f_5_refuse v_5_refuse l_5_50 ⟨rfl, by decide⟩ rfl (Nat.le_of_ble_eq_true rfl) rfl (Nat.le_of_ble_eq_true rfl) (c5_refuse1 σ) ?_
    rintro _ _ ⟨rfl, rfl⟩
    refine AW.reti ⟨_, rfl⟩ rfl ?_
    exact ⟨rfuF F 1, (by unfold readyP; rw [botP_none hnok]; try rfl), RepA_ref hA (by decide) (by decide)⟩
