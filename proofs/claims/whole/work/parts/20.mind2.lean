/-! THE MIND, SECOND PART -/
theorem worstF_le {S : Sv} : ∀ i v, worstF S i = some v → v ≤ 8 := by
  intro i v h
  unfold worstF at h
  split at h
  · cases h; exact cN_le _
  · cases h
theorem none_le : ∀ m, (none : Option Nat) = some m → m ≤ 8 := fun m h => by cases h
set_option maxHeartbeats 4000000 in
set_option maxRecDepth 100000 in
theorem c1_worstOne (S : Sv) (σ : St) (hR : RepS (σ 2 0) S) (hO : SOK S) : Ct M1_worstOne 3 [.inr (.inr (0, 0, 0)), .inr (.inr (2, 0, 0))] σ (PI fun r9 σ' => optI (worstS S) = r9 ∧ Only 2 3 σ σ') := by
  refine Ct.of f_1_worstOne (Nat.le_of_ble_eq_true rfl) ?_
  show AW M1_worstOne 3 _ (0, [(0, .inr (.inr (0, 0, 0))), (1, .inr (.inr (2, 0, 0)))], [], σ)
  refine AW.run 6 [] (8, [(4, .inl 0), (3, .inl (-1)), (2, .inl (-9)), (0, .inr (.inr (0, 0, 0))), (1, .inr (.inr (2, 0, 0)))], [], σ) [] rfl ?_ ?_
  · exact trivial
  refine AW.pick [3, 4, 2, 1, 0] (ls' := [(0, .inr (.inr (0, 0, 0))), (1, .inr (.inr (2, 0, 0))), (2, .inl (optI (amax (worstF S) (none) 0).1)), (3, .inl (optM (amax (worstF S) (none) 0).2)), (4, .inl (nI 0))]) rfl ?_
  refine AW.loop (α := Unit) 8 8 (fun i _ => [(0, .inr (.inr (0, 0, 0))), (1, .inr (.inr (2, 0, 0))), (2, .inl (optI (amax (worstF S) (none) i).1)), (3, .inl (optM (amax (worstF S) (none) i).2)), (4, .inl (nI i))]) (fun i _ τ => Only 2 3 σ τ) ?_ ?_ 8 0 () _ (by omega) only_rfl
  · intro i _ τ hi hA hk
    have hlim := amax_le (f := worstF S) (m0 := none) (worstF_le) (none_le) i
    by_cases hw : Sw S i = true
    · have hfi : worstF S i = some (cN (takenS S i)) := by simp [worstF, hw]
      have hle := cN_le (takenS S i)
      by_cases hab : above (amax (worstF S) (none) i).2 (cN (takenS S i)) = true
      · have hs : amax (worstF S) (none) (i + 1) = (some i, some (cN (takenS S i))) := by simp only [amax, hfi]; rw [if_pos hab]
        refine AW.run 5 [false] (18, [(0, .inr (.inr (0, 0, 0))), (1, .inr (.inr (2, 0, 0))), (2, .inl (optI (amax (worstF S) (none) i).1)), (3, .inl (optM (amax (worstF S) (none) i).2)), (4, .inl (nI i))], [.inl (nI i), .inr (.inr (2, 0, 0))], τ) [¬ icP .ge (nI i) 8] rfl ?_ ?_
        · exact allP1 (nle_lit (a := 8) hi (by decide))
        refine AW.callVI (d' := 0) [.inl (nI i)] [] ⟨_, rfl⟩ f_3_isWhole v_3_isWhole l_1_43 ⟨rfl, by decide⟩ rfl (Nat.le_of_ble_eq_true rfl) rfl (Nat.le_of_ble_eq_true rfl) (c3_isWhole 0 S τ (only_rep hA hR) hO i (by omega)) ?_
        rintro v _ ⟨rfl, hv⟩
        obtain rfl : v = 1 := by
          rcases hv with h | h
          · exact h.1
          · exact absurd (h.2.symm.trans hw) (by decide)
        refine AW.run 4 [true] (31, [(0, .inr (.inr (0, 0, 0))), (1, .inr (.inr (2, 0, 0))), (2, .inl (optI (amax (worstF S) (none) i).1)), (3, .inl (optM (amax (worstF S) (none) i).2)), (4, .inl (nI i))], [.inl (nI i), .inr (.inr (2, 0, 0)), .inr (.inr (0, 0, 0))], τ) [icP .ne (1 : Int32) 0] rfl ?_ ?_
        · exact allP1 (by decide : (¬ (1 : Int32) = 0))
        refine AW.callVI (d' := 2) [.inr (.inr (2, 0, 0)), .inl (nI i)] [] ⟨_, rfl⟩ f_1_takenBy v_1_takenBy l_1_62 ⟨rfl, by decide⟩ rfl (Nat.le_of_ble_eq_true rfl) rfl (Nat.le_of_ble_eq_true rfl) (c1_takenBy S τ (only_rep hA hR) hO i (SOK_lt hO hw)) ?_
        rintro _ τ9 ⟨rfl, a9⟩
        refine AW.callSI (d' := 0) [.inl (bI (takenS S i))] [] ⟨_, rfl⟩ f_J_bitCount s_J_bitCount l_1_37 rfl (Nat.le_of_ble_eq_true rfl) rfl (Nat.le_of_ble_eq_true rfl) (cJ_bitCount (bI (takenS S i)) τ9) ?_
        rintro _ _ ⟨rfl, rfl⟩
        rw [bcV_bI]
        refine AW.run 10 [false] (8, [(4, .inl ((nI i) + 1)), (2, .inl (nI i)), (3, .inl (nI (cN (takenS S i)))), (5, .inl (nI (cN (takenS S i)))), (0, .inr (.inr (0, 0, 0))), (1, .inr (.inr (2, 0, 0)))], [], τ9) [¬ icP .le (nI (cN (takenS S i))) (optM (amax (worstF S) (none) i).2)] rfl ?_ ?_
        · exact allP1 (fun q9 => by rw [(above_cmp (hle) hlim).mp q9] at hab; cases hab)
        have hx := hk () τ9 (only_trans hA a9)
        rw [hs, ← nI_1 i] at hx
        refine AW.pick [4, 5, 1, 2, 0] (ls' := _) rfl ?_
        exact hx
      · have hs : amax (worstF S) (none) (i + 1) = amax (worstF S) (none) i := by simp only [amax, hfi]; rw [if_neg hab]
        refine AW.run 5 [false] (18, [(0, .inr (.inr (0, 0, 0))), (1, .inr (.inr (2, 0, 0))), (2, .inl (optI (amax (worstF S) (none) i).1)), (3, .inl (optM (amax (worstF S) (none) i).2)), (4, .inl (nI i))], [.inl (nI i), .inr (.inr (2, 0, 0))], τ) [¬ icP .ge (nI i) 8] rfl ?_ ?_
        · exact allP1 (nle_lit (a := 8) hi (by decide))
        refine AW.callVI (d' := 0) [.inl (nI i)] [] ⟨_, rfl⟩ f_3_isWhole v_3_isWhole l_1_43 ⟨rfl, by decide⟩ rfl (Nat.le_of_ble_eq_true rfl) rfl (Nat.le_of_ble_eq_true rfl) (c3_isWhole 0 S τ (only_rep hA hR) hO i (by omega)) ?_
        rintro v _ ⟨rfl, hv⟩
        obtain rfl : v = 1 := by
          rcases hv with h | h
          · exact h.1
          · exact absurd (h.2.symm.trans hw) (by decide)
        refine AW.run 4 [true] (31, [(0, .inr (.inr (0, 0, 0))), (1, .inr (.inr (2, 0, 0))), (2, .inl (optI (amax (worstF S) (none) i).1)), (3, .inl (optM (amax (worstF S) (none) i).2)), (4, .inl (nI i))], [.inl (nI i), .inr (.inr (2, 0, 0)), .inr (.inr (0, 0, 0))], τ) [icP .ne (1 : Int32) 0] rfl ?_ ?_
        · exact allP1 (by decide : (¬ (1 : Int32) = 0))
        refine AW.callVI (d' := 2) [.inr (.inr (2, 0, 0)), .inl (nI i)] [] ⟨_, rfl⟩ f_1_takenBy v_1_takenBy l_1_62 ⟨rfl, by decide⟩ rfl (Nat.le_of_ble_eq_true rfl) rfl (Nat.le_of_ble_eq_true rfl) (c1_takenBy S τ (only_rep hA hR) hO i (SOK_lt hO hw)) ?_
        rintro _ τ10 ⟨rfl, a10⟩
        refine AW.callSI (d' := 0) [.inl (bI (takenS S i))] [] ⟨_, rfl⟩ f_J_bitCount s_J_bitCount l_1_37 rfl (Nat.le_of_ble_eq_true rfl) rfl (Nat.le_of_ble_eq_true rfl) (cJ_bitCount (bI (takenS S i)) τ10) ?_
        rintro _ _ ⟨rfl, rfl⟩
        rw [bcV_bI]
        refine AW.run 6 [true] (8, [(4, .inl ((nI i) + 1)), (5, .inl (nI (cN (takenS S i)))), (0, .inr (.inr (0, 0, 0))), (1, .inr (.inr (2, 0, 0))), (2, .inl (optI (amax (worstF S) (none) i).1)), (3, .inl (optM (amax (worstF S) (none) i).2))], [], τ10) [icP .le (nI (cN (takenS S i))) (optM (amax (worstF S) (none) i).2)] rfl ?_ ?_
        · exact allP1 ((above_cmp (hle) hlim).mpr (by cases hb9 : above (amax (worstF S) (none) i).2 (cN (takenS S i)); rfl; exact absurd hb9 hab))
        have hx := hk () τ10 (only_trans hA a10)
        rw [hs, ← nI_1 i] at hx
        refine AW.pick [2, 3, 4, 5, 0] (ls' := _) rfl ?_
        exact hx
    · have hfi : worstF S i = none := by simp [worstF, hw]
      have hwf : Sw S i = false := by cases hb : Sw S i; rfl; exact absurd hb hw
      have hs : amax (worstF S) (none) (i + 1) = amax (worstF S) (none) i := by simp only [amax, hfi]
      refine AW.run 5 [false] (18, [(0, .inr (.inr (0, 0, 0))), (1, .inr (.inr (2, 0, 0))), (2, .inl (optI (amax (worstF S) (none) i).1)), (3, .inl (optM (amax (worstF S) (none) i).2)), (4, .inl (nI i))], [.inl (nI i), .inr (.inr (2, 0, 0))], τ) [¬ icP .ge (nI i) 8] rfl ?_ ?_
      · exact allP1 (nle_lit (a := 8) hi (by decide))
      refine AW.callVI (d' := 0) [.inl (nI i)] [] ⟨_, rfl⟩ f_3_isWhole v_3_isWhole l_1_43 ⟨rfl, by decide⟩ rfl (Nat.le_of_ble_eq_true rfl) rfl (Nat.le_of_ble_eq_true rfl) (c3_isWhole 0 S τ (only_rep hA hR) hO i (by omega)) ?_
      rintro v _ ⟨rfl, hv⟩
      obtain rfl : v = 0 := by
        rcases hv with h | h
        · exact absurd (h.2.symm.trans hwf) (by decide)
        · exact h.1
      refine AW.run 4 [false] (8, [(4, .inl ((nI i) + 1)), (0, .inr (.inr (0, 0, 0))), (1, .inr (.inr (2, 0, 0))), (2, .inl (optI (amax (worstF S) (none) i).1)), (3, .inl (optM (amax (worstF S) (none) i).2))], [], τ) [¬ icP .ne (0 : Int32) 0] rfl ?_ ?_
      · exact allP1 (by decide : ¬ (¬ (0 : Int32) = 0))
      have hx := hk () τ hA
      rw [hs, ← nI_1 i] at hx
      refine AW.pick [1, 2, 3, 4, 0] (ls' := _) rfl ?_
      exact hx
  · intro _ τ hI
    refine AW.run 4 [true] (58, [(0, .inr (.inr (0, 0, 0))), (1, .inr (.inr (2, 0, 0))), (2, .inl (optI (amax (worstF S) (none) 8).1)), (3, .inl (optM (amax (worstF S) (none) 8).2)), (4, .inl (nI 8))], [.inl (optI (amax (worstF S) (none) 8).1)], τ) [icP .ge (nI 8) 8] rfl ?_ ?_
    · exact allP1 (le_lit (a := 8) (b := 8) (by decide) (by decide))
    refine AW.reti ⟨_, rfl⟩ rfl ?_
    exact ⟨rfl, hI⟩
theorem safeF_le {S : Sv} {b n : Nat} : ∀ i v, safeF S b n i = some v → v ≤ 8 := by
  intro i v h
  unfold safeF at h
  split at h
  · cases h; exact leftS_le _ _
  · split at h
    · cases h; exact leftS_le _ _
    · cases h
set_option maxHeartbeats 4000000 in
set_option maxRecDepth 100000 in
theorem c1_safestPlace (S : Sv) (σ : St) (hR : RepS (σ 2 0) S) (hO : SOK S) (b n : Nat) (hb : b < Sn S) (hn : n < 2 ^ 31) : Ct M1_safestPlace 5 [.inr (.inr (0, 0, 0)), .inr (.inr (2, 0, 0)), .inl (nI b), .inl (nI n)] σ (PI fun r9 σ' => optI (safeS S b n) = r9 ∧ Only 2 3 σ σ') := by
  refine Ct.of f_1_safestPlace (Nat.le_of_ble_eq_true rfl) ?_
  show AW M1_safestPlace 5 _ (0, [(0, .inr (.inr (0, 0, 0))), (1, .inr (.inr (2, 0, 0))), (2, .inl (nI b)), (3, .inl (nI n))], [], σ)
  refine AW.run 6 [] (10, [(6, .inl 0), (5, .inl (-1)), (4, .inl (-9)), (0, .inr (.inr (0, 0, 0))), (1, .inr (.inr (2, 0, 0))), (2, .inl (nI b)), (3, .inl (nI n))], [], σ) [] rfl ?_ ?_
  · exact trivial
  refine AW.pick [3, 4, 5, 6, 2, 1, 0] (ls' := [(0, .inr (.inr (0, 0, 0))), (1, .inr (.inr (2, 0, 0))), (2, .inl (nI b)), (3, .inl (nI n)), (4, .inl (optI (amax (safeF S b n) (none) 0).1)), (5, .inl (optM (amax (safeF S b n) (none) 0).2)), (6, .inl (nI 0))]) rfl ?_
  refine AW.loop (α := Unit) 10 15 (fun i _ => [(0, .inr (.inr (0, 0, 0))), (1, .inr (.inr (2, 0, 0))), (2, .inl (nI b)), (3, .inl (nI n)), (4, .inl (optI (amax (safeF S b n) (none) i).1)), (5, .inl (optM (amax (safeF S b n) (none) i).2)), (6, .inl (nI i))]) (fun i _ τ => Only 2 3 σ τ) ?_ ?_ 15 0 () _ (by omega) only_rfl
  · intro i _ τ hi hA hk
    have hlim := amax_le (f := safeF S b n) (m0 := none) (safeF_le) (none_le) i
    rcases hat : atS S i with _ | h
    · have hfi : safeF S b n i = some (leftS (withP S (fu (Sp S) b i)) n) := by simp [safeF, hat]
      have hle := leftS_le (withP S (fu (Sp S) b i)) n
      by_cases hab : above (amax (safeF S b n) (none) i).2 (leftS (withP S (fu (Sp S) b i)) n) = true
      · have hs : amax (safeF S b n) (none) (i + 1) = (some i, some (leftS (withP S (fu (Sp S) b i)) n)) := by simp only [amax, hfi]; rw [if_pos hab]
        refine AW.run 5 [false] (20, [(0, .inr (.inr (0, 0, 0))), (1, .inr (.inr (2, 0, 0))), (2, .inl (nI b)), (3, .inl (nI n)), (4, .inl (optI (amax (safeF S b n) (none) i).1)), (5, .inl (optM (amax (safeF S b n) (none) i).2)), (6, .inl (nI i))], [.inl (nI i), .inr (.inr (2, 0, 0))], τ) [¬ icP .ge (nI i) 15] rfl ?_ ?_
        · exact allP1 (nle_lit (a := 15) hi (by decide))
        refine AW.callVI (d' := 1) [.inl (nI i)] [] ⟨_, rfl⟩ f_3_wholeAt v_3_wholeAt l_1_66 ⟨rfl, by decide⟩ rfl (Nat.le_of_ble_eq_true rfl) rfl (Nat.le_of_ble_eq_true rfl) (c3_wholeAt 0 S τ (only_rep hA hR) hO i (by omega)) ?_
        rintro _ _ ⟨rfl, rfl⟩
        rw [hat]
        dsimp only [optI]
        refine AW.run 7 [true] (46, [(7, .inl (-9)), (0, .inr (.inr (0, 0, 0))), (1, .inr (.inr (2, 0, 0))), (2, .inl (nI b)), (3, .inl (nI n)), (4, .inl (optI (amax (safeF S b n) (none) i).1)), (5, .inl (optM (amax (safeF S b n) (none) i).2)), (6, .inl (nI i))], [.inr (.inr (2, 0, 0)), .inr (.inr (2, 3, 0))], τ) [icP .eq (-9 : Int32) (-9)] rfl ?_ ?_
        · exact allP1 (by decide : ((-9 : Int32) = (-9)))
        refine AW.callVV (d' := 1) [.inr (.inr (2, 0, 0))] [] ⟨_, rfl⟩ f_3_copyFrom v_3_copyFrom l_1_25 ⟨rfl, by decide⟩ rfl (Nat.le_of_ble_eq_true rfl) rfl (Nat.le_of_ble_eq_true rfl) (c3_copyFrom 3 0 (by decide) S τ (only_rep hA hR) hO) ?_
        rintro τ11 ⟨a11, b11⟩
        refine AW.run 4 [] (56, [(7, .inl (-9)), (0, .inr (.inr (0, 0, 0))), (1, .inr (.inr (2, 0, 0))), (2, .inl (nI b)), (3, .inl (nI n)), (4, .inl (optI (amax (safeF S b n) (none) i).1)), (5, .inl (optM (amax (safeF S b n) (none) i).2)), (6, .inl (nI i))], [.inl (nI i), .inl (nI b), .inr (.inr (2, 3, 0))], τ11) [] rfl ?_ ?_
        · exact trivial
        refine AW.callVV (d' := 1) [.inl (nI b), .inl (nI i)] [] ⟨_, rfl⟩ f_3_setPlace v_3_setPlace l_1_69 ⟨rfl, by decide⟩ rfl (Nat.le_of_ble_eq_true rfl) rfl (Nat.le_of_ble_eq_true rfl) (c3_setPlace 3 S τ11 b11 hO b i hb) ?_
        rintro τ12 ⟨a12, b12⟩
        refine AW.run 2 [] (61, [(7, .inl (-9)), (0, .inr (.inr (0, 0, 0))), (1, .inr (.inr (2, 0, 0))), (2, .inl (nI b)), (3, .inl (nI n)), (4, .inl (optI (amax (safeF S b n) (none) i).1)), (5, .inl (optM (amax (safeF S b n) (none) i).2)), (6, .inl (nI i))], [.inl (nI n), .inr (.inr (0, 0, 0))], τ12) [] rfl ?_ ?_
        · exact trivial
        refine AW.callVI (d' := 4) [.inl (nI n)] [] ⟨_, rfl⟩ f_1_leftBehind v_1_leftBehind l_1_73 ⟨rfl, by decide⟩ rfl (Nat.le_of_ble_eq_true rfl) rfl (Nat.le_of_ble_eq_true rfl) (c1_leftBehind (withP S (fu (Sp S) b i)) τ12 b12 (SOK_p hO hb (by omega)) n (by omega)) ?_
        rintro _ τ13 ⟨rfl, a13⟩
        refine AW.run 10 [false] (10, [(6, .inl ((nI i) + 1)), (4, .inl (nI i)), (5, .inl (nI (leftS (withP S (fu (Sp S) b i)) n))), (8, .inl (nI (leftS (withP S (fu (Sp S) b i)) n))), (7, .inl (-9)), (0, .inr (.inr (0, 0, 0))), (1, .inr (.inr (2, 0, 0))), (2, .inl (nI b)), (3, .inl (nI n))], [], τ13) [¬ icP .le (nI (leftS (withP S (fu (Sp S) b i)) n)) (optM (amax (safeF S b n) (none) i).2)] rfl ?_ ?_
        · exact allP1 (fun q9 => by rw [(above_cmp (hle) hlim).mp q9] at hab; cases hab)
        have hx := hk () τ13 (only_trans (only_trans (only_trans hA a11) a12) a13)
        rw [hs, ← nI_1 i] at hx
        refine AW.pick [5, 6, 7, 8, 1, 2, 0] (ls' := _) rfl ?_
        exact hx
      · have hs : amax (safeF S b n) (none) (i + 1) = amax (safeF S b n) (none) i := by simp only [amax, hfi]; rw [if_neg hab]
        refine AW.run 5 [false] (20, [(0, .inr (.inr (0, 0, 0))), (1, .inr (.inr (2, 0, 0))), (2, .inl (nI b)), (3, .inl (nI n)), (4, .inl (optI (amax (safeF S b n) (none) i).1)), (5, .inl (optM (amax (safeF S b n) (none) i).2)), (6, .inl (nI i))], [.inl (nI i), .inr (.inr (2, 0, 0))], τ) [¬ icP .ge (nI i) 15] rfl ?_ ?_
        · exact allP1 (nle_lit (a := 15) hi (by decide))
        refine AW.callVI (d' := 1) [.inl (nI i)] [] ⟨_, rfl⟩ f_3_wholeAt v_3_wholeAt l_1_66 ⟨rfl, by decide⟩ rfl (Nat.le_of_ble_eq_true rfl) rfl (Nat.le_of_ble_eq_true rfl) (c3_wholeAt 0 S τ (only_rep hA hR) hO i (by omega)) ?_
        rintro _ _ ⟨rfl, rfl⟩
        rw [hat]
        dsimp only [optI]
        refine AW.run 7 [true] (46, [(7, .inl (-9)), (0, .inr (.inr (0, 0, 0))), (1, .inr (.inr (2, 0, 0))), (2, .inl (nI b)), (3, .inl (nI n)), (4, .inl (optI (amax (safeF S b n) (none) i).1)), (5, .inl (optM (amax (safeF S b n) (none) i).2)), (6, .inl (nI i))], [.inr (.inr (2, 0, 0)), .inr (.inr (2, 3, 0))], τ) [icP .eq (-9 : Int32) (-9)] rfl ?_ ?_
        · exact allP1 (by decide : ((-9 : Int32) = (-9)))
        refine AW.callVV (d' := 1) [.inr (.inr (2, 0, 0))] [] ⟨_, rfl⟩ f_3_copyFrom v_3_copyFrom l_1_25 ⟨rfl, by decide⟩ rfl (Nat.le_of_ble_eq_true rfl) rfl (Nat.le_of_ble_eq_true rfl) (c3_copyFrom 3 0 (by decide) S τ (only_rep hA hR) hO) ?_
        rintro τ14 ⟨a14, b14⟩
        refine AW.run 4 [] (56, [(7, .inl (-9)), (0, .inr (.inr (0, 0, 0))), (1, .inr (.inr (2, 0, 0))), (2, .inl (nI b)), (3, .inl (nI n)), (4, .inl (optI (amax (safeF S b n) (none) i).1)), (5, .inl (optM (amax (safeF S b n) (none) i).2)), (6, .inl (nI i))], [.inl (nI i), .inl (nI b), .inr (.inr (2, 3, 0))], τ14) [] rfl ?_ ?_
        · exact trivial
        refine AW.callVV (d' := 1) [.inl (nI b), .inl (nI i)] [] ⟨_, rfl⟩ f_3_setPlace v_3_setPlace l_1_69 ⟨rfl, by decide⟩ rfl (Nat.le_of_ble_eq_true rfl) rfl (Nat.le_of_ble_eq_true rfl) (c3_setPlace 3 S τ14 b14 hO b i hb) ?_
        rintro τ15 ⟨a15, b15⟩
        refine AW.run 2 [] (61, [(7, .inl (-9)), (0, .inr (.inr (0, 0, 0))), (1, .inr (.inr (2, 0, 0))), (2, .inl (nI b)), (3, .inl (nI n)), (4, .inl (optI (amax (safeF S b n) (none) i).1)), (5, .inl (optM (amax (safeF S b n) (none) i).2)), (6, .inl (nI i))], [.inl (nI n), .inr (.inr (0, 0, 0))], τ15) [] rfl ?_ ?_
        · exact trivial
        refine AW.callVI (d' := 4) [.inl (nI n)] [] ⟨_, rfl⟩ f_1_leftBehind v_1_leftBehind l_1_73 ⟨rfl, by decide⟩ rfl (Nat.le_of_ble_eq_true rfl) rfl (Nat.le_of_ble_eq_true rfl) (c1_leftBehind (withP S (fu (Sp S) b i)) τ15 b15 (SOK_p hO hb (by omega)) n (by omega)) ?_
        rintro _ τ16 ⟨rfl, a16⟩
        refine AW.run 6 [true] (10, [(6, .inl ((nI i) + 1)), (8, .inl (nI (leftS (withP S (fu (Sp S) b i)) n))), (7, .inl (-9)), (0, .inr (.inr (0, 0, 0))), (1, .inr (.inr (2, 0, 0))), (2, .inl (nI b)), (3, .inl (nI n)), (4, .inl (optI (amax (safeF S b n) (none) i).1)), (5, .inl (optM (amax (safeF S b n) (none) i).2))], [], τ16) [icP .le (nI (leftS (withP S (fu (Sp S) b i)) n)) (optM (amax (safeF S b n) (none) i).2)] rfl ?_ ?_
        · exact allP1 ((above_cmp (hle) hlim).mpr (by cases hb9 : above (amax (safeF S b n) (none) i).2 (leftS (withP S (fu (Sp S) b i)) n); rfl; exact absurd hb9 hab))
        have hx := hk () τ16 (only_trans (only_trans (only_trans hA a14) a15) a16)
        rw [hs, ← nI_1 i] at hx
        refine AW.pick [3, 4, 5, 6, 7, 8, 0] (ls' := _) rfl ?_
        exact hx
    · have hh8 := (atS_lt hat).1
      have hn8 := hO.1
      by_cases hhb : h = b
      · have hfi : safeF S b n i = some (leftS (withP S (fu (Sp S) b i)) n) := by simp [safeF, hat, hhb]
        have hle := leftS_le (withP S (fu (Sp S) b i)) n
        by_cases hab : above (amax (safeF S b n) (none) i).2 (leftS (withP S (fu (Sp S) b i)) n) = true
        · have hs : amax (safeF S b n) (none) (i + 1) = (some i, some (leftS (withP S (fu (Sp S) b i)) n)) := by simp only [amax, hfi]; rw [if_pos hab]
          refine AW.run 5 [false] (20, [(0, .inr (.inr (0, 0, 0))), (1, .inr (.inr (2, 0, 0))), (2, .inl (nI b)), (3, .inl (nI n)), (4, .inl (optI (amax (safeF S b n) (none) i).1)), (5, .inl (optM (amax (safeF S b n) (none) i).2)), (6, .inl (nI i))], [.inl (nI i), .inr (.inr (2, 0, 0))], τ) [¬ icP .ge (nI i) 15] rfl ?_ ?_
          · exact allP1 (nle_lit (a := 15) hi (by decide))
          refine AW.callVI (d' := 1) [.inl (nI i)] [] ⟨_, rfl⟩ f_3_wholeAt v_3_wholeAt l_1_66 ⟨rfl, by decide⟩ rfl (Nat.le_of_ble_eq_true rfl) rfl (Nat.le_of_ble_eq_true rfl) (c3_wholeAt 0 S τ (only_rep hA hR) hO i (by omega)) ?_
          rintro _ _ ⟨rfl, rfl⟩
          rw [hat]
          dsimp only [optI]
          refine AW.run 10 [false, true] (46, [(7, .inl (nI h)), (0, .inr (.inr (0, 0, 0))), (1, .inr (.inr (2, 0, 0))), (2, .inl (nI b)), (3, .inl (nI n)), (4, .inl (optI (amax (safeF S b n) (none) i).1)), (5, .inl (optM (amax (safeF S b n) (none) i).2)), (6, .inl (nI i))], [.inr (.inr (2, 0, 0)), .inr (.inr (2, 3, 0))], τ) [¬ icP .eq (nI h) (-9), icP .eq (nI h) (nI b)] rfl ?_ ?_
          · exact ⟨(nI_m9 (by omega)), allP1 (by rw [hhb]; exact (rfl : nI b = nI b))⟩
          refine AW.callVV (d' := 1) [.inr (.inr (2, 0, 0))] [] ⟨_, rfl⟩ f_3_copyFrom v_3_copyFrom l_1_25 ⟨rfl, by decide⟩ rfl (Nat.le_of_ble_eq_true rfl) rfl (Nat.le_of_ble_eq_true rfl) (c3_copyFrom 3 0 (by decide) S τ (only_rep hA hR) hO) ?_
          rintro τ17 ⟨a17, b17⟩
          refine AW.run 4 [] (56, [(7, .inl (nI h)), (0, .inr (.inr (0, 0, 0))), (1, .inr (.inr (2, 0, 0))), (2, .inl (nI b)), (3, .inl (nI n)), (4, .inl (optI (amax (safeF S b n) (none) i).1)), (5, .inl (optM (amax (safeF S b n) (none) i).2)), (6, .inl (nI i))], [.inl (nI i), .inl (nI b), .inr (.inr (2, 3, 0))], τ17) [] rfl ?_ ?_
          · exact trivial
          refine AW.callVV (d' := 1) [.inl (nI b), .inl (nI i)] [] ⟨_, rfl⟩ f_3_setPlace v_3_setPlace l_1_69 ⟨rfl, by decide⟩ rfl (Nat.le_of_ble_eq_true rfl) rfl (Nat.le_of_ble_eq_true rfl) (c3_setPlace 3 S τ17 b17 hO b i hb) ?_
          rintro τ18 ⟨a18, b18⟩
          refine AW.run 2 [] (61, [(7, .inl (nI h)), (0, .inr (.inr (0, 0, 0))), (1, .inr (.inr (2, 0, 0))), (2, .inl (nI b)), (3, .inl (nI n)), (4, .inl (optI (amax (safeF S b n) (none) i).1)), (5, .inl (optM (amax (safeF S b n) (none) i).2)), (6, .inl (nI i))], [.inl (nI n), .inr (.inr (0, 0, 0))], τ18) [] rfl ?_ ?_
          · exact trivial
          refine AW.callVI (d' := 4) [.inl (nI n)] [] ⟨_, rfl⟩ f_1_leftBehind v_1_leftBehind l_1_73 ⟨rfl, by decide⟩ rfl (Nat.le_of_ble_eq_true rfl) rfl (Nat.le_of_ble_eq_true rfl) (c1_leftBehind (withP S (fu (Sp S) b i)) τ18 b18 (SOK_p hO hb (by omega)) n (by omega)) ?_
          rintro _ τ19 ⟨rfl, a19⟩
          refine AW.run 10 [false] (10, [(6, .inl ((nI i) + 1)), (4, .inl (nI i)), (5, .inl (nI (leftS (withP S (fu (Sp S) b i)) n))), (8, .inl (nI (leftS (withP S (fu (Sp S) b i)) n))), (7, .inl (nI h)), (0, .inr (.inr (0, 0, 0))), (1, .inr (.inr (2, 0, 0))), (2, .inl (nI b)), (3, .inl (nI n))], [], τ19) [¬ icP .le (nI (leftS (withP S (fu (Sp S) b i)) n)) (optM (amax (safeF S b n) (none) i).2)] rfl ?_ ?_
          · exact allP1 (fun q9 => by rw [(above_cmp (hle) hlim).mp q9] at hab; cases hab)
          have hx := hk () τ19 (only_trans (only_trans (only_trans hA a17) a18) a19)
          rw [hs, ← nI_1 i] at hx
          refine AW.pick [5, 6, 7, 8, 1, 2, 0] (ls' := _) rfl ?_
          exact hx
        · have hs : amax (safeF S b n) (none) (i + 1) = amax (safeF S b n) (none) i := by simp only [amax, hfi]; rw [if_neg hab]
          refine AW.run 5 [false] (20, [(0, .inr (.inr (0, 0, 0))), (1, .inr (.inr (2, 0, 0))), (2, .inl (nI b)), (3, .inl (nI n)), (4, .inl (optI (amax (safeF S b n) (none) i).1)), (5, .inl (optM (amax (safeF S b n) (none) i).2)), (6, .inl (nI i))], [.inl (nI i), .inr (.inr (2, 0, 0))], τ) [¬ icP .ge (nI i) 15] rfl ?_ ?_
          · exact allP1 (nle_lit (a := 15) hi (by decide))
          refine AW.callVI (d' := 1) [.inl (nI i)] [] ⟨_, rfl⟩ f_3_wholeAt v_3_wholeAt l_1_66 ⟨rfl, by decide⟩ rfl (Nat.le_of_ble_eq_true rfl) rfl (Nat.le_of_ble_eq_true rfl) (c3_wholeAt 0 S τ (only_rep hA hR) hO i (by omega)) ?_
          rintro _ _ ⟨rfl, rfl⟩
          rw [hat]
          dsimp only [optI]
          refine AW.run 10 [false, true] (46, [(7, .inl (nI h)), (0, .inr (.inr (0, 0, 0))), (1, .inr (.inr (2, 0, 0))), (2, .inl (nI b)), (3, .inl (nI n)), (4, .inl (optI (amax (safeF S b n) (none) i).1)), (5, .inl (optM (amax (safeF S b n) (none) i).2)), (6, .inl (nI i))], [.inr (.inr (2, 0, 0)), .inr (.inr (2, 3, 0))], τ) [¬ icP .eq (nI h) (-9), icP .eq (nI h) (nI b)] rfl ?_ ?_
          · exact ⟨(nI_m9 (by omega)), allP1 (by rw [hhb]; exact (rfl : nI b = nI b))⟩
          refine AW.callVV (d' := 1) [.inr (.inr (2, 0, 0))] [] ⟨_, rfl⟩ f_3_copyFrom v_3_copyFrom l_1_25 ⟨rfl, by decide⟩ rfl (Nat.le_of_ble_eq_true rfl) rfl (Nat.le_of_ble_eq_true rfl) (c3_copyFrom 3 0 (by decide) S τ (only_rep hA hR) hO) ?_
          rintro τ20 ⟨a20, b20⟩
          refine AW.run 4 [] (56, [(7, .inl (nI h)), (0, .inr (.inr (0, 0, 0))), (1, .inr (.inr (2, 0, 0))), (2, .inl (nI b)), (3, .inl (nI n)), (4, .inl (optI (amax (safeF S b n) (none) i).1)), (5, .inl (optM (amax (safeF S b n) (none) i).2)), (6, .inl (nI i))], [.inl (nI i), .inl (nI b), .inr (.inr (2, 3, 0))], τ20) [] rfl ?_ ?_
          · exact trivial
          refine AW.callVV (d' := 1) [.inl (nI b), .inl (nI i)] [] ⟨_, rfl⟩ f_3_setPlace v_3_setPlace l_1_69 ⟨rfl, by decide⟩ rfl (Nat.le_of_ble_eq_true rfl) rfl (Nat.le_of_ble_eq_true rfl) (c3_setPlace 3 S τ20 b20 hO b i hb) ?_
          rintro τ21 ⟨a21, b21⟩
          refine AW.run 2 [] (61, [(7, .inl (nI h)), (0, .inr (.inr (0, 0, 0))), (1, .inr (.inr (2, 0, 0))), (2, .inl (nI b)), (3, .inl (nI n)), (4, .inl (optI (amax (safeF S b n) (none) i).1)), (5, .inl (optM (amax (safeF S b n) (none) i).2)), (6, .inl (nI i))], [.inl (nI n), .inr (.inr (0, 0, 0))], τ21) [] rfl ?_ ?_
          · exact trivial
          refine AW.callVI (d' := 4) [.inl (nI n)] [] ⟨_, rfl⟩ f_1_leftBehind v_1_leftBehind l_1_73 ⟨rfl, by decide⟩ rfl (Nat.le_of_ble_eq_true rfl) rfl (Nat.le_of_ble_eq_true rfl) (c1_leftBehind (withP S (fu (Sp S) b i)) τ21 b21 (SOK_p hO hb (by omega)) n (by omega)) ?_
          rintro _ τ22 ⟨rfl, a22⟩
          refine AW.run 6 [true] (10, [(6, .inl ((nI i) + 1)), (8, .inl (nI (leftS (withP S (fu (Sp S) b i)) n))), (7, .inl (nI h)), (0, .inr (.inr (0, 0, 0))), (1, .inr (.inr (2, 0, 0))), (2, .inl (nI b)), (3, .inl (nI n)), (4, .inl (optI (amax (safeF S b n) (none) i).1)), (5, .inl (optM (amax (safeF S b n) (none) i).2))], [], τ22) [icP .le (nI (leftS (withP S (fu (Sp S) b i)) n)) (optM (amax (safeF S b n) (none) i).2)] rfl ?_ ?_
          · exact allP1 ((above_cmp (hle) hlim).mpr (by cases hb9 : above (amax (safeF S b n) (none) i).2 (leftS (withP S (fu (Sp S) b i)) n); rfl; exact absurd hb9 hab))
          have hx := hk () τ22 (only_trans (only_trans (only_trans hA a20) a21) a22)
          rw [hs, ← nI_1 i] at hx
          refine AW.pick [3, 4, 5, 6, 7, 8, 0] (ls' := _) rfl ?_
          exact hx
      · have hfi : safeF S b n i = none := by simp [safeF, hat, hhb]
        have hs : amax (safeF S b n) (none) (i + 1) = amax (safeF S b n) (none) i := by simp only [amax, hfi]
        refine AW.run 5 [false] (20, [(0, .inr (.inr (0, 0, 0))), (1, .inr (.inr (2, 0, 0))), (2, .inl (nI b)), (3, .inl (nI n)), (4, .inl (optI (amax (safeF S b n) (none) i).1)), (5, .inl (optM (amax (safeF S b n) (none) i).2)), (6, .inl (nI i))], [.inl (nI i), .inr (.inr (2, 0, 0))], τ) [¬ icP .ge (nI i) 15] rfl ?_ ?_
        · exact allP1 (nle_lit (a := 15) hi (by decide))
        refine AW.callVI (d' := 1) [.inl (nI i)] [] ⟨_, rfl⟩ f_3_wholeAt v_3_wholeAt l_1_66 ⟨rfl, by decide⟩ rfl (Nat.le_of_ble_eq_true rfl) rfl (Nat.le_of_ble_eq_true rfl) (c3_wholeAt 0 S τ (only_rep hA hR) hO i (by omega)) ?_
        rintro _ _ ⟨rfl, rfl⟩
        rw [hat]
        dsimp only [optI]
        refine AW.run 10 [false, false] (10, [(6, .inl ((nI i) + 1)), (7, .inl (nI h)), (0, .inr (.inr (0, 0, 0))), (1, .inr (.inr (2, 0, 0))), (2, .inl (nI b)), (3, .inl (nI n)), (4, .inl (optI (amax (safeF S b n) (none) i).1)), (5, .inl (optM (amax (safeF S b n) (none) i).2))], [], τ) [¬ icP .eq (nI h) (-9), ¬ icP .eq (nI h) (nI b)] rfl ?_ ?_
        · exact ⟨(nI_m9 (by omega)), allP1 (fun q => hhb (nI_lit q (by omega) (by omega)))⟩
        have hx := hk () τ hA
        rw [hs, ← nI_1 i] at hx
        refine AW.pick [2, 3, 4, 5, 6, 7, 0] (ls' := _) rfl ?_
        exact hx
  · intro _ τ hI
    refine AW.run 4 [true] (89, [(0, .inr (.inr (0, 0, 0))), (1, .inr (.inr (2, 0, 0))), (2, .inl (nI b)), (3, .inl (nI n)), (4, .inl (optI (amax (safeF S b n) (none) 15).1)), (5, .inl (optM (amax (safeF S b n) (none) 15).2)), (6, .inl (nI 15))], [.inl (optI (amax (safeF S b n) (none) 15).1)], τ) [icP .ge (nI 15) 15] rfl ?_ ?_
    · exact allP1 (le_lit (a := 15) (b := 15) (by decide) (by decide))
    refine AW.reti ⟨_, rfl⟩ rfl ?_
    exact ⟨rfl, hI⟩
theorem coverF_le {S : Sv} {n : Nat} : ∀ i v, coverF S n i = some v → v ≤ 8 := by
  intro i v h
  unfold coverF at h
  split at h
  · cases h; exact leftS_le _ _
  · cases h
set_option maxHeartbeats 4000000 in
set_option maxRecDepth 100000 in
theorem c1_oneToCover (S : Sv) (σ : St) (hR : RepS (σ 2 0) S) (hO : SOK S) (n : Nat) (hn : n < 2 ^ 31) : Ct M1_oneToCover 5 [.inr (.inr (0, 0, 0)), .inr (.inr (2, 0, 0)), .inl (nI n)] σ (PI fun r9 σ' => optI (coverS S n) = r9 ∧ Only 2 3 σ σ') := by
  refine Ct.of f_1_oneToCover (Nat.le_of_ble_eq_true rfl) ?_
  show AW M1_oneToCover 5 _ (0, [(0, .inr (.inr (0, 0, 0))), (1, .inr (.inr (2, 0, 0))), (2, .inl (nI n))], [], σ)
  refine AW.run 5 [] (6, [(3, .inl (-9)), (0, .inr (.inr (0, 0, 0))), (1, .inr (.inr (2, 0, 0))), (2, .inl (nI n))], [.inl (nI n), .inr (.inr (2, 0, 0)), .inr (.inr (0, 0, 0))], σ) [] rfl ?_ ?_
  · exact trivial
  refine AW.callVR (d' := 4) [.inr (.inr (2, 0, 0)), .inl (nI n)] [] ⟨_, rfl⟩ f_1_ahead v_1_ahead l_1_76 ⟨rfl, by decide⟩ rfl (Nat.le_of_ble_eq_true rfl) rfl (Nat.le_of_ble_eq_true rfl) (c1_ahead S σ hR hO n (by omega)) ?_
  rintro _ τ23 ⟨rfl, a23, b23⟩
  refine AW.run 1 [] (12, [(3, .inl (-9)), (0, .inr (.inr (0, 0, 0))), (1, .inr (.inr (2, 0, 0))), (2, .inl (nI n))], [.inl (τ23 2 3 0 8)], τ23) [] rfl ?_ ?_
  · exact trivial
  rw [b23.1.2.1]
  refine AW.callSI (d' := 0) [.inl (bI (Sw (passS n S)))] [] ⟨_, rfl⟩ f_J_bitCount s_J_bitCount l_1_37 rfl (Nat.le_of_ble_eq_true rfl) rfl (Nat.le_of_ble_eq_true rfl) (cJ_bitCount (bI (Sw (passS n S))) τ23) ?_
  rintro _ _ ⟨rfl, rfl⟩
  rw [bcV_bI]
  refine AW.run 3 [] (20, [(5, .inl 0), (4, .inl (nI (leftS S n))), (3, .inl (-9)), (0, .inr (.inr (0, 0, 0))), (1, .inr (.inr (2, 0, 0))), (2, .inl (nI n))], [], τ23) [] rfl ?_ ?_
  · exact trivial
  refine AW.pick [3, 4, 5, 2, 1, 0] (ls' := [(0, .inr (.inr (0, 0, 0))), (1, .inr (.inr (2, 0, 0))), (2, .inl (nI n)), (3, .inl (optI (amax (coverF S n) (some (leftS S n)) 0).1)), (4, .inl (optM (amax (coverF S n) (some (leftS S n)) 0).2)), (5, .inl (nI 0))]) rfl ?_
  refine AW.loop (α := Unit) 20 8 (fun i _ => [(0, .inr (.inr (0, 0, 0))), (1, .inr (.inr (2, 0, 0))), (2, .inl (nI n)), (3, .inl (optI (amax (coverF S n) (some (leftS S n)) i).1)), (4, .inl (optM (amax (coverF S n) (some (leftS S n)) i).2)), (5, .inl (nI i))]) (fun i _ τ => Only 2 3 σ τ) ?_ ?_ 8 0 () _ (by omega) (only_trans only_rfl a23)
  · intro i _ τ hi hA hk
    have hlim := amax_le (f := coverF S n) (m0 := some (leftS S n)) (coverF_le) (fun m h => by cases h; exact leftS_le S n) i
    by_cases hw : Sw S i = true
    · cases hc : Stw S i with
      | false =>
        have hfi : coverF S n i = some (leftS (withT S (fu (Stw S) i true)) n) := by simp [coverF, hw, hc]
        have hle := leftS_le (withT S (fu (Stw S) i true)) n
        by_cases hab : above (amax (coverF S n) (some (leftS S n)) i).2 (leftS (withT S (fu (Stw S) i true)) n) = true
        · have hs : amax (coverF S n) (some (leftS S n)) (i + 1) = (some i, some (leftS (withT S (fu (Stw S) i true)) n)) := by simp only [amax, hfi]; rw [if_pos hab]
          refine AW.run 5 [false] (30, [(0, .inr (.inr (0, 0, 0))), (1, .inr (.inr (2, 0, 0))), (2, .inl (nI n)), (3, .inl (optI (amax (coverF S n) (some (leftS S n)) i).1)), (4, .inl (optM (amax (coverF S n) (some (leftS S n)) i).2)), (5, .inl (nI i))], [.inl (nI i), .inr (.inr (2, 0, 0))], τ) [¬ icP .ge (nI i) 8] rfl ?_ ?_
          · exact allP1 (nle_lit (a := 8) hi (by decide))
          refine AW.callVI (d' := 0) [.inl (nI i)] [] ⟨_, rfl⟩ f_3_isWhole v_3_isWhole l_1_43 ⟨rfl, by decide⟩ rfl (Nat.le_of_ble_eq_true rfl) rfl (Nat.le_of_ble_eq_true rfl) (c3_isWhole 0 S τ (only_rep hA hR) hO i (by omega)) ?_
          rintro v _ ⟨rfl, hv⟩
          obtain rfl : v = 1 := by
            rcases hv with h | h
            · exact h.1
            · exact absurd (h.2.symm.trans hw) (by decide)
          refine AW.run 3 [false] (39, [(0, .inr (.inr (0, 0, 0))), (1, .inr (.inr (2, 0, 0))), (2, .inl (nI n)), (3, .inl (optI (amax (coverF S n) (some (leftS S n)) i).1)), (4, .inl (optM (amax (coverF S n) (some (leftS S n)) i).2)), (5, .inl (nI i))], [.inl (nI i), .inr (.inr (2, 0, 0))], τ) [¬ icP .eq (1 : Int32) 0] rfl ?_ ?_
          · exact allP1 (by decide : ¬ ((1 : Int32) = 0))
          refine AW.callVI (d' := 0) [.inl (nI i)] [] ⟨_, rfl⟩ f_3_isCovered v_3_isCovered l_1_80 ⟨rfl, by decide⟩ rfl (Nat.le_of_ble_eq_true rfl) rfl (Nat.le_of_ble_eq_true rfl) (c3_isCovered 0 S τ (only_rep hA hR) hO i (by omega)) ?_
          rintro v _ ⟨rfl, hv⟩
          obtain rfl : v = 0 := by
            rcases hv with h | h
            · exact absurd (h.2.symm.trans hc) (by decide)
            · exact h.1
          refine AW.run 4 [true] (53, [(0, .inr (.inr (0, 0, 0))), (1, .inr (.inr (2, 0, 0))), (2, .inl (nI n)), (3, .inl (optI (amax (coverF S n) (some (leftS S n)) i).1)), (4, .inl (optM (amax (coverF S n) (some (leftS S n)) i).2)), (5, .inl (nI i))], [.inr (.inr (2, 0, 0)), .inr (.inr (2, 3, 0))], τ) [icP .eq (0 : Int32) 0] rfl ?_ ?_
          · exact allP1 (by decide : ((0 : Int32) = 0))
          refine AW.callVV (d' := 1) [.inr (.inr (2, 0, 0))] [] ⟨_, rfl⟩ f_3_copyFrom v_3_copyFrom l_1_25 ⟨rfl, by decide⟩ rfl (Nat.le_of_ble_eq_true rfl) rfl (Nat.le_of_ble_eq_true rfl) (c3_copyFrom 3 0 (by decide) S τ (only_rep hA hR) hO) ?_
          rintro τ24 ⟨a24, b24⟩
          refine AW.run 3 [] (62, [(0, .inr (.inr (0, 0, 0))), (1, .inr (.inr (2, 0, 0))), (2, .inl (nI n)), (3, .inl (optI (amax (coverF S n) (some (leftS S n)) i).1)), (4, .inl (optM (amax (coverF S n) (some (leftS S n)) i).2)), (5, .inl (nI i))], [.inl (nI i), .inr (.inr (2, 3, 0))], τ24) [] rfl ?_ ?_
          · exact trivial
          refine AW.callVV (d' := 1) [.inl (nI i)] [] ⟨_, rfl⟩ f_3_turnTowel v_3_turnTowel l_1_83 ⟨rfl, by decide⟩ rfl (Nat.le_of_ble_eq_true rfl) rfl (Nat.le_of_ble_eq_true rfl) (c3_turnTowel 3 S τ24 b24 hO i (SOK_lt hO hw)) ?_
          rintro τ25 ⟨a25, b25⟩
          replace b25 : RepS (τ25 2 3) (withT S (fu (Stw S) i true)) := by rw [hc] at b25; exact b25 -- b25
          refine AW.run 2 [] (67, [(0, .inr (.inr (0, 0, 0))), (1, .inr (.inr (2, 0, 0))), (2, .inl (nI n)), (3, .inl (optI (amax (coverF S n) (some (leftS S n)) i).1)), (4, .inl (optM (amax (coverF S n) (some (leftS S n)) i).2)), (5, .inl (nI i))], [.inl (nI n), .inr (.inr (0, 0, 0))], τ25) [] rfl ?_ ?_
          · exact trivial
          refine AW.callVI (d' := 4) [.inl (nI n)] [] ⟨_, rfl⟩ f_1_leftBehind v_1_leftBehind l_1_73 ⟨rfl, by decide⟩ rfl (Nat.le_of_ble_eq_true rfl) rfl (Nat.le_of_ble_eq_true rfl) (c1_leftBehind (withT S (fu (Stw S) i true)) τ25 b25 (SOK_t hO (SOK_lt hO hw)) n (by omega)) ?_
          rintro _ τ26 ⟨rfl, a26⟩
          refine AW.run 10 [false] (20, [(5, .inl ((nI i) + 1)), (3, .inl (nI i)), (4, .inl (nI (leftS (withT S (fu (Stw S) i true)) n))), (6, .inl (nI (leftS (withT S (fu (Stw S) i true)) n))), (0, .inr (.inr (0, 0, 0))), (1, .inr (.inr (2, 0, 0))), (2, .inl (nI n))], [], τ26) [¬ icP .le (nI (leftS (withT S (fu (Stw S) i true)) n)) (optM (amax (coverF S n) (some (leftS S n)) i).2)] rfl ?_ ?_
          · exact allP1 (fun q9 => by rw [(above_cmp (hle) hlim).mp q9] at hab; cases hab)
          have hx := hk () τ26 (only_trans (only_trans (only_trans hA a24) a25) a26)
          rw [hs, ← nI_1 i] at hx
          refine AW.pick [4, 5, 6, 1, 2, 0] (ls' := _) rfl ?_
          exact hx
        · have hs : amax (coverF S n) (some (leftS S n)) (i + 1) = amax (coverF S n) (some (leftS S n)) i := by simp only [amax, hfi]; rw [if_neg hab]
          refine AW.run 5 [false] (30, [(0, .inr (.inr (0, 0, 0))), (1, .inr (.inr (2, 0, 0))), (2, .inl (nI n)), (3, .inl (optI (amax (coverF S n) (some (leftS S n)) i).1)), (4, .inl (optM (amax (coverF S n) (some (leftS S n)) i).2)), (5, .inl (nI i))], [.inl (nI i), .inr (.inr (2, 0, 0))], τ) [¬ icP .ge (nI i) 8] rfl ?_ ?_
          · exact allP1 (nle_lit (a := 8) hi (by decide))
          refine AW.callVI (d' := 0) [.inl (nI i)] [] ⟨_, rfl⟩ f_3_isWhole v_3_isWhole l_1_43 ⟨rfl, by decide⟩ rfl (Nat.le_of_ble_eq_true rfl) rfl (Nat.le_of_ble_eq_true rfl) (c3_isWhole 0 S τ (only_rep hA hR) hO i (by omega)) ?_
          rintro v _ ⟨rfl, hv⟩
          obtain rfl : v = 1 := by
            rcases hv with h | h
            · exact h.1
            · exact absurd (h.2.symm.trans hw) (by decide)
          refine AW.run 3 [false] (39, [(0, .inr (.inr (0, 0, 0))), (1, .inr (.inr (2, 0, 0))), (2, .inl (nI n)), (3, .inl (optI (amax (coverF S n) (some (leftS S n)) i).1)), (4, .inl (optM (amax (coverF S n) (some (leftS S n)) i).2)), (5, .inl (nI i))], [.inl (nI i), .inr (.inr (2, 0, 0))], τ) [¬ icP .eq (1 : Int32) 0] rfl ?_ ?_
          · exact allP1 (by decide : ¬ ((1 : Int32) = 0))
          refine AW.callVI (d' := 0) [.inl (nI i)] [] ⟨_, rfl⟩ f_3_isCovered v_3_isCovered l_1_80 ⟨rfl, by decide⟩ rfl (Nat.le_of_ble_eq_true rfl) rfl (Nat.le_of_ble_eq_true rfl) (c3_isCovered 0 S τ (only_rep hA hR) hO i (by omega)) ?_
          rintro v _ ⟨rfl, hv⟩
          obtain rfl : v = 0 := by
            rcases hv with h | h
            · exact absurd (h.2.symm.trans hc) (by decide)
            · exact h.1
          refine AW.run 4 [true] (53, [(0, .inr (.inr (0, 0, 0))), (1, .inr (.inr (2, 0, 0))), (2, .inl (nI n)), (3, .inl (optI (amax (coverF S n) (some (leftS S n)) i).1)), (4, .inl (optM (amax (coverF S n) (some (leftS S n)) i).2)), (5, .inl (nI i))], [.inr (.inr (2, 0, 0)), .inr (.inr (2, 3, 0))], τ) [icP .eq (0 : Int32) 0] rfl ?_ ?_
          · exact allP1 (by decide : ((0 : Int32) = 0))
          refine AW.callVV (d' := 1) [.inr (.inr (2, 0, 0))] [] ⟨_, rfl⟩ f_3_copyFrom v_3_copyFrom l_1_25 ⟨rfl, by decide⟩ rfl (Nat.le_of_ble_eq_true rfl) rfl (Nat.le_of_ble_eq_true rfl) (c3_copyFrom 3 0 (by decide) S τ (only_rep hA hR) hO) ?_
          rintro τ27 ⟨a27, b27⟩
          refine AW.run 3 [] (62, [(0, .inr (.inr (0, 0, 0))), (1, .inr (.inr (2, 0, 0))), (2, .inl (nI n)), (3, .inl (optI (amax (coverF S n) (some (leftS S n)) i).1)), (4, .inl (optM (amax (coverF S n) (some (leftS S n)) i).2)), (5, .inl (nI i))], [.inl (nI i), .inr (.inr (2, 3, 0))], τ27) [] rfl ?_ ?_
          · exact trivial
          refine AW.callVV (d' := 1) [.inl (nI i)] [] ⟨_, rfl⟩ f_3_turnTowel v_3_turnTowel l_1_83 ⟨rfl, by decide⟩ rfl (Nat.le_of_ble_eq_true rfl) rfl (Nat.le_of_ble_eq_true rfl) (c3_turnTowel 3 S τ27 b27 hO i (SOK_lt hO hw)) ?_
          rintro τ28 ⟨a28, b28⟩
          replace b28 : RepS (τ28 2 3) (withT S (fu (Stw S) i true)) := by rw [hc] at b28; exact b28 -- b28
          refine AW.run 2 [] (67, [(0, .inr (.inr (0, 0, 0))), (1, .inr (.inr (2, 0, 0))), (2, .inl (nI n)), (3, .inl (optI (amax (coverF S n) (some (leftS S n)) i).1)), (4, .inl (optM (amax (coverF S n) (some (leftS S n)) i).2)), (5, .inl (nI i))], [.inl (nI n), .inr (.inr (0, 0, 0))], τ28) [] rfl ?_ ?_
          · exact trivial
          refine AW.callVI (d' := 4) [.inl (nI n)] [] ⟨_, rfl⟩ f_1_leftBehind v_1_leftBehind l_1_73 ⟨rfl, by decide⟩ rfl (Nat.le_of_ble_eq_true rfl) rfl (Nat.le_of_ble_eq_true rfl) (c1_leftBehind (withT S (fu (Stw S) i true)) τ28 b28 (SOK_t hO (SOK_lt hO hw)) n (by omega)) ?_
          rintro _ τ29 ⟨rfl, a29⟩
          refine AW.run 6 [true] (20, [(5, .inl ((nI i) + 1)), (6, .inl (nI (leftS (withT S (fu (Stw S) i true)) n))), (0, .inr (.inr (0, 0, 0))), (1, .inr (.inr (2, 0, 0))), (2, .inl (nI n)), (3, .inl (optI (amax (coverF S n) (some (leftS S n)) i).1)), (4, .inl (optM (amax (coverF S n) (some (leftS S n)) i).2))], [], τ29) [icP .le (nI (leftS (withT S (fu (Stw S) i true)) n)) (optM (amax (coverF S n) (some (leftS S n)) i).2)] rfl ?_ ?_
          · exact allP1 ((above_cmp (hle) hlim).mpr (by cases hb9 : above (amax (coverF S n) (some (leftS S n)) i).2 (leftS (withT S (fu (Stw S) i true)) n); rfl; exact absurd hb9 hab))
          have hx := hk () τ29 (only_trans (only_trans (only_trans hA a27) a28) a29)
          rw [hs, ← nI_1 i] at hx
          refine AW.pick [2, 3, 4, 5, 6, 0] (ls' := _) rfl ?_
          exact hx
      | true =>
        have hfi : coverF S n i = none := by simp [coverF, hc]
        have hs : amax (coverF S n) (some (leftS S n)) (i + 1) = amax (coverF S n) (some (leftS S n)) i := by simp only [amax, hfi]
        refine AW.run 5 [false] (30, [(0, .inr (.inr (0, 0, 0))), (1, .inr (.inr (2, 0, 0))), (2, .inl (nI n)), (3, .inl (optI (amax (coverF S n) (some (leftS S n)) i).1)), (4, .inl (optM (amax (coverF S n) (some (leftS S n)) i).2)), (5, .inl (nI i))], [.inl (nI i), .inr (.inr (2, 0, 0))], τ) [¬ icP .ge (nI i) 8] rfl ?_ ?_
        · exact allP1 (nle_lit (a := 8) hi (by decide))
        refine AW.callVI (d' := 0) [.inl (nI i)] [] ⟨_, rfl⟩ f_3_isWhole v_3_isWhole l_1_43 ⟨rfl, by decide⟩ rfl (Nat.le_of_ble_eq_true rfl) rfl (Nat.le_of_ble_eq_true rfl) (c3_isWhole 0 S τ (only_rep hA hR) hO i (by omega)) ?_
        rintro v _ ⟨rfl, hv⟩
        obtain rfl : v = 1 := by
          rcases hv with h | h
          · exact h.1
          · exact absurd (h.2.symm.trans hw) (by decide)
        refine AW.run 3 [false] (39, [(0, .inr (.inr (0, 0, 0))), (1, .inr (.inr (2, 0, 0))), (2, .inl (nI n)), (3, .inl (optI (amax (coverF S n) (some (leftS S n)) i).1)), (4, .inl (optM (amax (coverF S n) (some (leftS S n)) i).2)), (5, .inl (nI i))], [.inl (nI i), .inr (.inr (2, 0, 0))], τ) [¬ icP .eq (1 : Int32) 0] rfl ?_ ?_
        · exact allP1 (by decide : ¬ ((1 : Int32) = 0))
        refine AW.callVI (d' := 0) [.inl (nI i)] [] ⟨_, rfl⟩ f_3_isCovered v_3_isCovered l_1_80 ⟨rfl, by decide⟩ rfl (Nat.le_of_ble_eq_true rfl) rfl (Nat.le_of_ble_eq_true rfl) (c3_isCovered 0 S τ (only_rep hA hR) hO i (by omega)) ?_
        rintro v _ ⟨rfl, hv⟩
        obtain rfl : v = 1 := by
          rcases hv with h | h
          · exact h.1
          · exact absurd (h.2.symm.trans hc) (by decide)
        refine AW.run 4 [false] (20, [(5, .inl ((nI i) + 1)), (0, .inr (.inr (0, 0, 0))), (1, .inr (.inr (2, 0, 0))), (2, .inl (nI n)), (3, .inl (optI (amax (coverF S n) (some (leftS S n)) i).1)), (4, .inl (optM (amax (coverF S n) (some (leftS S n)) i).2))], [], τ) [¬ icP .eq (1 : Int32) 0] rfl ?_ ?_
        · exact allP1 (by decide : ¬ ((1 : Int32) = 0))
        have hx := hk () τ hA
        rw [hs, ← nI_1 i] at hx
        refine AW.pick [1, 2, 3, 4, 5, 0] (ls' := _) rfl ?_
        exact hx
    · have hfi : coverF S n i = none := by simp [coverF, hw]
      have hwf : Sw S i = false := by cases hb : Sw S i; rfl; exact absurd hb hw
      have hs : amax (coverF S n) (some (leftS S n)) (i + 1) = amax (coverF S n) (some (leftS S n)) i := by simp only [amax, hfi]
      refine AW.run 5 [false] (30, [(0, .inr (.inr (0, 0, 0))), (1, .inr (.inr (2, 0, 0))), (2, .inl (nI n)), (3, .inl (optI (amax (coverF S n) (some (leftS S n)) i).1)), (4, .inl (optM (amax (coverF S n) (some (leftS S n)) i).2)), (5, .inl (nI i))], [.inl (nI i), .inr (.inr (2, 0, 0))], τ) [¬ icP .ge (nI i) 8] rfl ?_ ?_
      · exact allP1 (nle_lit (a := 8) hi (by decide))
      refine AW.callVI (d' := 0) [.inl (nI i)] [] ⟨_, rfl⟩ f_3_isWhole v_3_isWhole l_1_43 ⟨rfl, by decide⟩ rfl (Nat.le_of_ble_eq_true rfl) rfl (Nat.le_of_ble_eq_true rfl) (c3_isWhole 0 S τ (only_rep hA hR) hO i (by omega)) ?_
      rintro v _ ⟨rfl, hv⟩
      obtain rfl : v = 0 := by
        rcases hv with h | h
        · exact absurd (h.2.symm.trans hwf) (by decide)
        · exact h.1
      refine AW.run 3 [true] (20, [(5, .inl ((nI i) + 1)), (0, .inr (.inr (0, 0, 0))), (1, .inr (.inr (2, 0, 0))), (2, .inl (nI n)), (3, .inl (optI (amax (coverF S n) (some (leftS S n)) i).1)), (4, .inl (optM (amax (coverF S n) (some (leftS S n)) i).2))], [], τ) [icP .eq (0 : Int32) 0] rfl ?_ ?_
      · exact allP1 (by decide : ((0 : Int32) = 0))
      have hx := hk () τ hA
      rw [hs, ← nI_1 i] at hx
      refine AW.pick [1, 2, 3, 4, 5, 0] (ls' := _) rfl ?_
      exact hx
  · intro _ τ hI
    refine AW.run 4 [true] (93, [(0, .inr (.inr (0, 0, 0))), (1, .inr (.inr (2, 0, 0))), (2, .inl (nI n)), (3, .inl (optI (amax (coverF S n) (some (leftS S n)) 8).1)), (4, .inl (optM (amax (coverF S n) (some (leftS S n)) 8).2)), (5, .inl (nI 8))], [.inl (optI (amax (coverF S n) (some (leftS S n)) 8).1)], τ) [icP .ge (nI 8) 8] rfl ?_ ?_
    · exact allP1 (le_lit (a := 8) (b := 8) (by decide) (by decide))
    refine AW.reti ⟨_, rfl⟩ rfl ?_
    exact ⟨rfl, hI⟩
theorem outF_le {S : Sv} {n : Nat} : ∀ i v, outF S n i = some v → v ≤ 8 := by
  intro i v h
  unfold outF at h
  split at h
  · cases h; exact leftS_le _ _
  · cases h
set_option maxHeartbeats 4000000 in
set_option maxRecDepth 100000 in
theorem c1_oneToLetOut (S : Sv) (σ : St) (hR : RepS (σ 2 0) S) (hO : SOK S) (n : Nat) (hn : n < 2 ^ 31) : Ct M1_oneToLetOut 5 [.inr (.inr (0, 0, 0)), .inr (.inr (2, 0, 0)), .inl (nI n)] σ (PI fun r9 σ' => optI (outS S n) = r9 ∧ Only 2 3 σ σ') := by
  refine Ct.of f_1_oneToLetOut (Nat.le_of_ble_eq_true rfl) ?_
  show AW M1_oneToLetOut 5 _ (0, [(0, .inr (.inr (0, 0, 0))), (1, .inr (.inr (2, 0, 0))), (2, .inl (nI n))], [], σ)
  refine AW.run 5 [] (6, [(3, .inl (-9)), (0, .inr (.inr (0, 0, 0))), (1, .inr (.inr (2, 0, 0))), (2, .inl (nI n))], [.inl (nI n), .inr (.inr (2, 0, 0)), .inr (.inr (0, 0, 0))], σ) [] rfl ?_ ?_
  · exact trivial
  refine AW.callVR (d' := 4) [.inr (.inr (2, 0, 0)), .inl (nI n)] [] ⟨_, rfl⟩ f_1_ahead v_1_ahead l_1_76 ⟨rfl, by decide⟩ rfl (Nat.le_of_ble_eq_true rfl) rfl (Nat.le_of_ble_eq_true rfl) (c1_ahead S σ hR hO n (by omega)) ?_
  rintro _ τ30 ⟨rfl, a30, b30⟩
  refine AW.run 1 [] (12, [(3, .inl (-9)), (0, .inr (.inr (0, 0, 0))), (1, .inr (.inr (2, 0, 0))), (2, .inl (nI n))], [.inl (τ30 2 3 0 8)], τ30) [] rfl ?_ ?_
  · exact trivial
  rw [b30.1.2.1]
  refine AW.callSI (d' := 0) [.inl (bI (Sw (passS n S)))] [] ⟨_, rfl⟩ f_J_bitCount s_J_bitCount l_1_37 rfl (Nat.le_of_ble_eq_true rfl) rfl (Nat.le_of_ble_eq_true rfl) (cJ_bitCount (bI (Sw (passS n S))) τ30) ?_
  rintro _ _ ⟨rfl, rfl⟩
  rw [bcV_bI]
  refine AW.run 3 [] (20, [(5, .inl 0), (4, .inl (nI (leftS S n))), (3, .inl (-9)), (0, .inr (.inr (0, 0, 0))), (1, .inr (.inr (2, 0, 0))), (2, .inl (nI n))], [], τ30) [] rfl ?_ ?_
  · exact trivial
  refine AW.pick [3, 4, 5, 2, 1, 0] (ls' := [(0, .inr (.inr (0, 0, 0))), (1, .inr (.inr (2, 0, 0))), (2, .inl (nI n)), (3, .inl (optI (amax (outF S n) (some (leftS S n)) 0).1)), (4, .inl (optM (amax (outF S n) (some (leftS S n)) 0).2)), (5, .inl (nI 0))]) rfl ?_
  refine AW.loop (α := Unit) 20 8 (fun i _ => [(0, .inr (.inr (0, 0, 0))), (1, .inr (.inr (2, 0, 0))), (2, .inl (nI n)), (3, .inl (optI (amax (outF S n) (some (leftS S n)) i).1)), (4, .inl (optM (amax (outF S n) (some (leftS S n)) i).2)), (5, .inl (nI i))]) (fun i _ τ => Only 2 3 σ τ) ?_ ?_ 8 0 () _ (by omega) (only_trans only_rfl a30)
  · intro i _ τ hi hA hk
    have hlim := amax_le (f := outF S n) (m0 := some (leftS S n)) (outF_le) (fun m h => by cases h; exact leftS_le S n) i
    by_cases hw : Sw S i = true
    · have hfi : outF S n i = some (leftS (withQ S (fu (Sq S) i 0)) n) := by simp [outF, hw]
      have hle := leftS_le (withQ S (fu (Sq S) i 0)) n
      by_cases hab : above (amax (outF S n) (some (leftS S n)) i).2 (leftS (withQ S (fu (Sq S) i 0)) n) = true
      · have hs : amax (outF S n) (some (leftS S n)) (i + 1) = (some i, some (leftS (withQ S (fu (Sq S) i 0)) n)) := by simp only [amax, hfi]; rw [if_pos hab]
        refine AW.run 5 [false] (30, [(0, .inr (.inr (0, 0, 0))), (1, .inr (.inr (2, 0, 0))), (2, .inl (nI n)), (3, .inl (optI (amax (outF S n) (some (leftS S n)) i).1)), (4, .inl (optM (amax (outF S n) (some (leftS S n)) i).2)), (5, .inl (nI i))], [.inl (nI i), .inr (.inr (2, 0, 0))], τ) [¬ icP .ge (nI i) 8] rfl ?_ ?_
        · exact allP1 (nle_lit (a := 8) hi (by decide))
        refine AW.callVI (d' := 0) [.inl (nI i)] [] ⟨_, rfl⟩ f_3_isWhole v_3_isWhole l_1_43 ⟨rfl, by decide⟩ rfl (Nat.le_of_ble_eq_true rfl) rfl (Nat.le_of_ble_eq_true rfl) (c3_isWhole 0 S τ (only_rep hA hR) hO i (by omega)) ?_
        rintro v _ ⟨rfl, hv⟩
        obtain rfl : v = 1 := by
          rcases hv with h | h
          · exact h.1
          · exact absurd (h.2.symm.trans hw) (by decide)
        refine AW.run 4 [true] (44, [(0, .inr (.inr (0, 0, 0))), (1, .inr (.inr (2, 0, 0))), (2, .inl (nI n)), (3, .inl (optI (amax (outF S n) (some (leftS S n)) i).1)), (4, .inl (optM (amax (outF S n) (some (leftS S n)) i).2)), (5, .inl (nI i))], [.inr (.inr (2, 0, 0)), .inr (.inr (2, 3, 0))], τ) [icP .ne (1 : Int32) 0] rfl ?_ ?_
        · exact allP1 (by decide : (¬ (1 : Int32) = 0))
        refine AW.callVV (d' := 1) [.inr (.inr (2, 0, 0))] [] ⟨_, rfl⟩ f_3_copyFrom v_3_copyFrom l_1_25 ⟨rfl, by decide⟩ rfl (Nat.le_of_ble_eq_true rfl) rfl (Nat.le_of_ble_eq_true rfl) (c3_copyFrom 3 0 (by decide) S τ (only_rep hA hR) hO) ?_
        rintro τ31 ⟨a31, b31⟩
        refine AW.run 4 [] (54, [(0, .inr (.inr (0, 0, 0))), (1, .inr (.inr (2, 0, 0))), (2, .inl (nI n)), (3, .inl (optI (amax (outF S n) (some (leftS S n)) i).1)), (4, .inl (optM (amax (outF S n) (some (leftS S n)) i).2)), (5, .inl (nI i))], [.inl 0, .inl (nI i), .inr (.inr (2, 3, 0))], τ31) [] rfl ?_ ?_
        · exact trivial
        refine AW.callVV (d' := 1) [.inl (nI i), .inl 0] [] ⟨_, rfl⟩ f_3_setPress v_3_setPress l_1_86 ⟨rfl, by decide⟩ rfl (Nat.le_of_ble_eq_true rfl) rfl (Nat.le_of_ble_eq_true rfl) (c3_setPress 3 S τ31 b31 hO i 0 (SOK_lt hO hw)) ?_
        rintro τ32 ⟨a32, b32⟩
        refine AW.run 2 [] (59, [(0, .inr (.inr (0, 0, 0))), (1, .inr (.inr (2, 0, 0))), (2, .inl (nI n)), (3, .inl (optI (amax (outF S n) (some (leftS S n)) i).1)), (4, .inl (optM (amax (outF S n) (some (leftS S n)) i).2)), (5, .inl (nI i))], [.inl (nI n), .inr (.inr (0, 0, 0))], τ32) [] rfl ?_ ?_
        · exact trivial
        refine AW.callVI (d' := 4) [.inl (nI n)] [] ⟨_, rfl⟩ f_1_leftBehind v_1_leftBehind l_1_73 ⟨rfl, by decide⟩ rfl (Nat.le_of_ble_eq_true rfl) rfl (Nat.le_of_ble_eq_true rfl) (c1_leftBehind (withQ S (fu (Sq S) i 0)) τ32 b32 (SOK_q hO (SOK_lt hO hw) (by omega)) n (by omega)) ?_
        rintro _ τ33 ⟨rfl, a33⟩
        refine AW.run 10 [false] (20, [(5, .inl ((nI i) + 1)), (3, .inl (nI i)), (4, .inl (nI (leftS (withQ S (fu (Sq S) i 0)) n))), (6, .inl (nI (leftS (withQ S (fu (Sq S) i 0)) n))), (0, .inr (.inr (0, 0, 0))), (1, .inr (.inr (2, 0, 0))), (2, .inl (nI n))], [], τ33) [¬ icP .le (nI (leftS (withQ S (fu (Sq S) i 0)) n)) (optM (amax (outF S n) (some (leftS S n)) i).2)] rfl ?_ ?_
        · exact allP1 (fun q9 => by rw [(above_cmp (hle) hlim).mp q9] at hab; cases hab)
        have hx := hk () τ33 (only_trans (only_trans (only_trans hA a31) a32) a33)
        rw [hs, ← nI_1 i] at hx
        refine AW.pick [4, 5, 6, 1, 2, 0] (ls' := _) rfl ?_
        exact hx
      · have hs : amax (outF S n) (some (leftS S n)) (i + 1) = amax (outF S n) (some (leftS S n)) i := by simp only [amax, hfi]; rw [if_neg hab]
        refine AW.run 5 [false] (30, [(0, .inr (.inr (0, 0, 0))), (1, .inr (.inr (2, 0, 0))), (2, .inl (nI n)), (3, .inl (optI (amax (outF S n) (some (leftS S n)) i).1)), (4, .inl (optM (amax (outF S n) (some (leftS S n)) i).2)), (5, .inl (nI i))], [.inl (nI i), .inr (.inr (2, 0, 0))], τ) [¬ icP .ge (nI i) 8] rfl ?_ ?_
        · exact allP1 (nle_lit (a := 8) hi (by decide))
        refine AW.callVI (d' := 0) [.inl (nI i)] [] ⟨_, rfl⟩ f_3_isWhole v_3_isWhole l_1_43 ⟨rfl, by decide⟩ rfl (Nat.le_of_ble_eq_true rfl) rfl (Nat.le_of_ble_eq_true rfl) (c3_isWhole 0 S τ (only_rep hA hR) hO i (by omega)) ?_
        rintro v _ ⟨rfl, hv⟩
        obtain rfl : v = 1 := by
          rcases hv with h | h
          · exact h.1
          · exact absurd (h.2.symm.trans hw) (by decide)
        refine AW.run 4 [true] (44, [(0, .inr (.inr (0, 0, 0))), (1, .inr (.inr (2, 0, 0))), (2, .inl (nI n)), (3, .inl (optI (amax (outF S n) (some (leftS S n)) i).1)), (4, .inl (optM (amax (outF S n) (some (leftS S n)) i).2)), (5, .inl (nI i))], [.inr (.inr (2, 0, 0)), .inr (.inr (2, 3, 0))], τ) [icP .ne (1 : Int32) 0] rfl ?_ ?_
        · exact allP1 (by decide : (¬ (1 : Int32) = 0))
        refine AW.callVV (d' := 1) [.inr (.inr (2, 0, 0))] [] ⟨_, rfl⟩ f_3_copyFrom v_3_copyFrom l_1_25 ⟨rfl, by decide⟩ rfl (Nat.le_of_ble_eq_true rfl) rfl (Nat.le_of_ble_eq_true rfl) (c3_copyFrom 3 0 (by decide) S τ (only_rep hA hR) hO) ?_
        rintro τ34 ⟨a34, b34⟩
        refine AW.run 4 [] (54, [(0, .inr (.inr (0, 0, 0))), (1, .inr (.inr (2, 0, 0))), (2, .inl (nI n)), (3, .inl (optI (amax (outF S n) (some (leftS S n)) i).1)), (4, .inl (optM (amax (outF S n) (some (leftS S n)) i).2)), (5, .inl (nI i))], [.inl 0, .inl (nI i), .inr (.inr (2, 3, 0))], τ34) [] rfl ?_ ?_
        · exact trivial
        refine AW.callVV (d' := 1) [.inl (nI i), .inl 0] [] ⟨_, rfl⟩ f_3_setPress v_3_setPress l_1_86 ⟨rfl, by decide⟩ rfl (Nat.le_of_ble_eq_true rfl) rfl (Nat.le_of_ble_eq_true rfl) (c3_setPress 3 S τ34 b34 hO i 0 (SOK_lt hO hw)) ?_
        rintro τ35 ⟨a35, b35⟩
        refine AW.run 2 [] (59, [(0, .inr (.inr (0, 0, 0))), (1, .inr (.inr (2, 0, 0))), (2, .inl (nI n)), (3, .inl (optI (amax (outF S n) (some (leftS S n)) i).1)), (4, .inl (optM (amax (outF S n) (some (leftS S n)) i).2)), (5, .inl (nI i))], [.inl (nI n), .inr (.inr (0, 0, 0))], τ35) [] rfl ?_ ?_
        · exact trivial
        refine AW.callVI (d' := 4) [.inl (nI n)] [] ⟨_, rfl⟩ f_1_leftBehind v_1_leftBehind l_1_73 ⟨rfl, by decide⟩ rfl (Nat.le_of_ble_eq_true rfl) rfl (Nat.le_of_ble_eq_true rfl) (c1_leftBehind (withQ S (fu (Sq S) i 0)) τ35 b35 (SOK_q hO (SOK_lt hO hw) (by omega)) n (by omega)) ?_
        rintro _ τ36 ⟨rfl, a36⟩
        refine AW.run 6 [true] (20, [(5, .inl ((nI i) + 1)), (6, .inl (nI (leftS (withQ S (fu (Sq S) i 0)) n))), (0, .inr (.inr (0, 0, 0))), (1, .inr (.inr (2, 0, 0))), (2, .inl (nI n)), (3, .inl (optI (amax (outF S n) (some (leftS S n)) i).1)), (4, .inl (optM (amax (outF S n) (some (leftS S n)) i).2))], [], τ36) [icP .le (nI (leftS (withQ S (fu (Sq S) i 0)) n)) (optM (amax (outF S n) (some (leftS S n)) i).2)] rfl ?_ ?_
        · exact allP1 ((above_cmp (hle) hlim).mpr (by cases hb9 : above (amax (outF S n) (some (leftS S n)) i).2 (leftS (withQ S (fu (Sq S) i 0)) n); rfl; exact absurd hb9 hab))
        have hx := hk () τ36 (only_trans (only_trans (only_trans hA a34) a35) a36)
        rw [hs, ← nI_1 i] at hx
        refine AW.pick [2, 3, 4, 5, 6, 0] (ls' := _) rfl ?_
        exact hx
    · have hfi : outF S n i = none := by simp [outF, hw]
      have hwf : Sw S i = false := by cases hb : Sw S i; rfl; exact absurd hb hw
      have hs : amax (outF S n) (some (leftS S n)) (i + 1) = amax (outF S n) (some (leftS S n)) i := by simp only [amax, hfi]
      refine AW.run 5 [false] (30, [(0, .inr (.inr (0, 0, 0))), (1, .inr (.inr (2, 0, 0))), (2, .inl (nI n)), (3, .inl (optI (amax (outF S n) (some (leftS S n)) i).1)), (4, .inl (optM (amax (outF S n) (some (leftS S n)) i).2)), (5, .inl (nI i))], [.inl (nI i), .inr (.inr (2, 0, 0))], τ) [¬ icP .ge (nI i) 8] rfl ?_ ?_
      · exact allP1 (nle_lit (a := 8) hi (by decide))
      refine AW.callVI (d' := 0) [.inl (nI i)] [] ⟨_, rfl⟩ f_3_isWhole v_3_isWhole l_1_43 ⟨rfl, by decide⟩ rfl (Nat.le_of_ble_eq_true rfl) rfl (Nat.le_of_ble_eq_true rfl) (c3_isWhole 0 S τ (only_rep hA hR) hO i (by omega)) ?_
      rintro v _ ⟨rfl, hv⟩
      obtain rfl : v = 0 := by
        rcases hv with h | h
        · exact absurd (h.2.symm.trans hwf) (by decide)
        · exact h.1
      refine AW.run 4 [false] (20, [(5, .inl ((nI i) + 1)), (0, .inr (.inr (0, 0, 0))), (1, .inr (.inr (2, 0, 0))), (2, .inl (nI n)), (3, .inl (optI (amax (outF S n) (some (leftS S n)) i).1)), (4, .inl (optM (amax (outF S n) (some (leftS S n)) i).2))], [], τ) [¬ icP .ne (0 : Int32) 0] rfl ?_ ?_
      · exact allP1 (by decide : ¬ (¬ (0 : Int32) = 0))
      have hx := hk () τ hA
      rw [hs, ← nI_1 i] at hx
      refine AW.pick [1, 2, 3, 4, 5, 0] (ls' := _) rfl ?_
      exact hx
  · intro _ τ hI
    refine AW.run 4 [true] (85, [(0, .inr (.inr (0, 0, 0))), (1, .inr (.inr (2, 0, 0))), (2, .inl (nI n)), (3, .inl (optI (amax (outF S n) (some (leftS S n)) 8).1)), (4, .inl (optM (amax (outF S n) (some (leftS S n)) 8).2)), (5, .inl (nI 8))], [.inl (optI (amax (outF S n) (some (leftS S n)) 8).1)], τ) [icP .ge (nI 8) 8] rfl ?_ ?_
    · exact allP1 (le_lit (a := 8) (b := 8) (by decide) (by decide))
    refine AW.reti ⟨_, rfl⟩ rfl ?_
    exact ⟨rfl, hI⟩
