/-! SETTLE, A DAY, DAYS -/
theorem nextS_some {S : Sv} {k : Nat} : ∀ (n i : Nat), nextS S n i = some k → k < i + n ∧ Sw S k = true ∧ bearS S k < Sq S k
  | 0, _, h => by cases h
  | n + 1, i, h => by
    unfold nextS at h
    split at h
    · rename_i hc
      cases h
      exact ⟨by omega, hc⟩
    · obtain ⟨h1, h2⟩ := nextS_some n (i + 1) h
      exact ⟨by omega, h2⟩
theorem SOK_lt {S : Sv} (hO : SOK S) {k : Nat} (h : Sw S k = true) : k < Sn S := by
  rcases Nat.lt_or_ge k (Sn S) with h1 | h1
  · exact h1
  · have := (hO.2.2.1 k h1).1
    rw [h] at this
    cases this
theorem SOK_burst {S : Sv} (hO : SOK S) {b : Nat} : SOK (burstS S b) := by
  obtain ⟨h1, h2, h3, h4, h5⟩ := hO
  refine ⟨h1, fun i => ?_, fun i hi => ?_, h4, h5⟩
  · refine ⟨(h2 i).1, (h2 i).2.1, (h2 i).2.2.1, ?_⟩
    show burstQ S b 8 i ≤ 99
    unfold burstQ
    split
    · exact Nat.min_le_left _ _
    · exact (h2 i).2.2.2
  · obtain ⟨g1, g2, g3, g4⟩ := h3 i hi
    refine ⟨?_, g2, ?_, g4⟩
    · show fu (Sw S) b false i = false
      by_cases h : i = b
      · simp [fu, h]
      · simp [fu, h, g1]
    · show burstQ S b 8 i = 0
      unfold burstQ
      rw [if_neg, g3]
      rintro ⟨-, -, h, -⟩
      rw [g1] at h
      cases h
theorem SOK_settle : ∀ (n : Nat) {S : Sv}, SOK S → SOK (settleS n S)
  | 0, _, h => h
  | n + 1, S, h => by
    unfold settleS
    split
    · exact h
    · exact SOK_settle n (SOK_burst h)
theorem nI_m9 {k : Nat} (h : k < 2 ^ 31) : ¬ nI k = (-9 : Int32) := fun e => by
  have h1 := nI_toInt h
  rw [e] at h1
  have : (-9 : Int32).toInt = -9 := by decide
  omega
theorem bear_le {S : Sv} (hO : SOK S) (i : Nat) : bearS S i ≤ 99 := by
  have h := (hO.2.1 i)
  unfold bearS bearN
  split <;> omega
theorem rise_le {S : Sv} (hO : SOK S) (i : Nat) : riseS S i ≤ 40 := by
  have h := (hO.2.1 i)
  have := hO.2.2.2
  unfold riseS riseN
  split <;> first | omega | (split <;> omega)

set_option maxHeartbeats 4000000 in
set_option maxRecDepth 100000 in
theorem c3_settle (a : Nat) (S : Sv) (σ : St) (hR : RepS (σ 2 a) S) (hO : SOK S) : Ct M3_settle 1 [.inr (.inr (2, a, 0))] σ (PV fun σ' => Only 2 a σ σ' ∧ RepS (σ' 2 a) (settleS 8 S)) := by
  refine Ct.of f_3_settle (Nat.le_of_ble_eq_true rfl) ?_
  show AW M3_settle 1 _ (0, [(0, .inr (.inr (2, a, 0)))], [], σ)
  refine AW.run 2 [] (2, [(1, .inl 0), (0, .inr (.inr (2, a, 0)))], [], σ) [] rfl ?_ ?_
  · exact trivial
  refine AW.pick [1, 0] (ls' := [(0, .inr (.inr (2, a, 0))), (1, .inl (nI 0))]) rfl ?_
  refine AW.loop (α := Sv) 2 8 (fun t _ => [(0, .inr (.inr (2, a, 0))), (1, .inl (nI t))]) (fun t S1 τ => Only 2 a σ τ ∧ RepS (τ 2 a) S1 ∧ SOK S1 ∧ settleS (8 - t) S1 = settleS 8 S) ?_ ?_ 8 0 S _ rfl ⟨only_rfl, hR, hO, rfl⟩
  · intro t S1 τ ht hI hk
    obtain ⟨hS1, hR1, hO1, hse⟩ := hI
    have hn1 := hO1.1
    have c0 : ∀ i, nextS S1 8 0 = none → AW M3_settle 1 (PV fun σ' => Only 2 a σ σ' ∧ RepS (σ' 2 a) (settleS 8 S)) (59, [(0, .inr (.inr (2, a, 0))), (1, .inl (nI t)), (2, .inl (-9)), (3, .inl (nI i))], [], τ) := by
      intro i hnx
      have he : settleS (8 - t) S1 = S1 := by
        obtain ⟨m, hm⟩ : ∃ m, 8 - t = m + 1 := ⟨7 - t, by omega⟩
        rw [hm]; unfold settleS; rw [hnx]
      rw [he] at hse
      refine AW.run 3 [false] (65, [(0, .inr (.inr (2, a, 0))), (1, .inl (nI t)), (2, .inl (-9)), (3, .inl (nI i))], [], τ) [¬ icP .ne (-9 : Int32) (-9)] rfl ?_ ?_
      · exact allP1 (by decide : ¬ (¬ (-9 : Int32) = (-9)))
      refine AW.retv ⟨_, rfl⟩ rfl ?_
      exact ⟨hS1, by rw [← hse]; exact hR1⟩
    have c1 : ∀ i k, nextS S1 8 0 = some k → AW M3_settle 1 (PV fun σ' => Only 2 a σ σ' ∧ RepS (σ' 2 a) (settleS 8 S)) (59, [(0, .inr (.inr (2, a, 0))), (1, .inl (nI t)), (2, .inl (nI k)), (3, .inl (nI i))], [], τ) := by
      intro i k hnx
      obtain ⟨hk8, hkw, hkb⟩ := nextS_some 8 0 hnx
      have hkn := SOK_lt hO1 hkw
      refine AW.run 5 [true] (68, [(0, .inr (.inr (2, a, 0))), (1, .inl (nI t)), (2, .inl (nI k)), (3, .inl (nI i))], [.inl (nI k), .inr (.inr (2, a, 0))], τ) [icP .ne (nI k) (-9)] rfl ?_ ?_
      · exact allP1 (nI_m9 (by omega))
      refine AW.callVV (d' := 0) [.inl (nI k)] [] ⟨_, rfl⟩ f_3_burst v_3_burst l_3_88 ⟨rfl, by decide⟩ rfl (Nat.le_of_ble_eq_true rfl) rfl (Nat.le_of_ble_eq_true rfl) (c3_burst a S1 τ hR1 hO1 k hkn) ?_
      rintro τ1 ⟨hB1, hB2⟩
      refine AW.run 2 [] (2, [(1, .inl ((nI t) + 1)), (0, .inr (.inr (2, a, 0))), (2, .inl (nI k)), (3, .inl (nI i))], [], τ1) [] rfl ?_ ?_
      · exact trivial
      rw [nI_1 t]
      refine AW.pick [1, 0] (ls' := [(0, .inr (.inr (2, a, 0))), (1, .inl (nI (t + 1)))]) rfl ?_
      refine hk (burstS S1 k) _ ⟨only_trans hS1 hB1, hB2, SOK_burst hO1, ?_⟩
      rw [← hse]
      obtain ⟨m, hm⟩ : ∃ m, 8 - t = m + 1 := ⟨7 - t, by omega⟩
      rw [hm, show 8 - (t + 1) = m by omega]
      conv => rhs; unfold settleS; rw [hnx]
    refine AW.run 7 [false] (13, [(3, .inl 0), (2, .inl (-9)), (0, .inr (.inr (2, a, 0))), (1, .inl (nI t))], [], τ) [¬ icP .ge (nI t) 8] rfl ?_ ?_
    · exact allP1 (nle_lit (a := 8) ht (by decide))
    refine AW.pick [2, 3, 1, 0] (ls' := [(0, .inr (.inr (2, a, 0))), (1, .inl (nI t)), (2, .inl (-9)), (3, .inl (nI 0))]) rfl ?_
    refine AW.loop (α := Option Nat) 13 8 (fun i o => [(0, .inr (.inr (2, a, 0))), (1, .inl (nI t)), (2, .inl (match o with | none => -9 | some k => nI k)), (3, .inl (nI i))]) (fun i o τ' => τ = τ' ∧ match o with | none => nextS S1 (8 - i) i = nextS S1 8 0 | some k => nextS S1 8 0 = some k) ?_ ?_ 8 0 none _ rfl ⟨rfl, rfl⟩
    · intro i o τ' hi hI2 hk2
      obtain ⟨rfl, hI2⟩ := hI2
      cases o with
      | some k =>
        show AW M3_settle 1 _ (13, [(0, .inr (.inr (2, a, 0))), (1, .inl (nI t)), (2, .inl (nI k)), (3, .inl (nI i))], [], τ)
        refine AW.run 6 [false, true] (59, [(0, .inr (.inr (2, a, 0))), (1, .inl (nI t)), (2, .inl (nI k)), (3, .inl (nI i))], [], τ) [¬ icP .ge (nI i) 8, icP .ne (nI k) (-9)] rfl ?_ ?_
        · exact ⟨(nle_lit (a := 8) hi (by decide)), allP1 (nI_m9 (by have := (nextS_some 8 0 hI2).1; omega))⟩
        refine AW.pick [0, 1, 2, 3] (ls' := [(0, .inr (.inr (2, a, 0))), (1, .inl (nI t)), (2, .inl (nI k)), (3, .inl (nI i))]) rfl ?_
        exact c1 i k hI2
      | none =>
        show AW M3_settle 1 _ (13, [(0, .inr (.inr (2, a, 0))), (1, .inl (nI t)), (2, .inl (-9)), (3, .inl (nI i))], [], τ)
        have g1 := hR1.2.1 i hi
        have q1 : τ 2 a 4 (nI i).toNatClampNeg = nI (Sq S1 i) := by rw [cl8 hi, g1.2.2.2]
        have q4 : (τ 2 a 0 8 >>> (nI i &&& 31)) &&& 1 = if Sw S1 i = true then 1 else 0 := by rw [hR1.1.2.1]; exact bI_bit _ hi
        have hu : nextS S1 (8 - i) i = if Sw S1 i = true ∧ bearS S1 i < Sq S1 i then some i else nextS S1 (8 - (i + 1)) (i + 1) := by
          obtain ⟨m, hm⟩ : ∃ m, 8 - i = m + 1 := ⟨7 - i, by omega⟩
          rw [hm, show 8 - (i + 1) = m by omega]; rfl
        rw [hI2] at hu
        by_cases hw : Sw S1 i = true
        · have hin := SOK_lt hO1 hw
          have q2 : τ 2 a 6 (nI i).toNatClampNeg = nI (bearS S1 i) := by rw [cl8 hi]; exact (hR1.2.2 i hin).2.1
          have hbl := bear_le hO1 i
          have hql := (hO1.2.1 i).2.2.2
          by_cases hb : bearS S1 i < Sq S1 i
          · skip
            refine AW.run 12 [false, false] (33, [(0, .inr (.inr (2, a, 0))), (1, .inl (nI t)), (2, .inl (-9)), (3, .inl (nI i))], [.inl (((τ 2 a 0 8) >>> ((nI i) &&& 31)) &&& 1)], τ) [¬ icP .ge (nI i) 8, ¬ icP .ne (-9 : Int32) (-9)] rfl ?_ ?_
            · exact ⟨(nle_lit (a := 8) hi (by decide)), allP1 (by decide : ¬ (¬ (-9 : Int32) = (-9)))⟩
            rw [q4]
            refine AW.run 5 [false] (42, [(0, .inr (.inr (2, a, 0))), (1, .inl (nI t)), (2, .inl (-9)), (3, .inl (nI i))], [.inl (τ 2 a 4 (nI i).toNatClampNeg)], τ) [¬ icP .eq (if Sw S1 i = true then 1 else 0) 0, vp_in (nI i) 8] rfl ?_ ?_
            · exact ⟨(by rw [if_pos hw]; exact (by decide : ¬ (1 : Int32) = 0)), allP1 (by exact in8 hi)⟩
            rw [q1]
            refine AW.run 4 [] (48, [(0, .inr (.inr (2, a, 0))), (1, .inl (nI t)), (2, .inl (-9)), (3, .inl (nI i))], [.inl (τ 2 a 6 (nI i).toNatClampNeg), .inl (nI (Sq S1 i))], τ) [vp_in (nI i) 8] rfl ?_ ?_
            · exact allP1 (by exact in8 hi)
            rw [q2]
            refine AW.run 5 [false] (13, [(3, .inl ((nI i) + 1)), (2, .inl (nI i)), (0, .inr (.inr (2, a, 0))), (1, .inl (nI t))], [], τ) [¬ icP .le (nI (Sq S1 i)) (nI (bearS S1 i))] rfl ?_ ?_
            · exact allP1 (nI_ge hb (by omega))
            rw [nI_1 i]
            refine AW.pick [2, 3, 1, 0] (ls' := [(0, .inr (.inr (2, a, 0))), (1, .inl (nI t)), (2, .inl (nI i)), (3, .inl (nI (i + 1)))]) rfl ?_
            exact hk2 (some i) τ ⟨rfl, by rw [hu, if_pos ⟨hw, hb⟩]⟩
          · have hno : ¬ (Sw S1 i = true ∧ bearS S1 i < Sq S1 i) := fun h => hb h.2
            refine AW.run 12 [false, false] (33, [(0, .inr (.inr (2, a, 0))), (1, .inl (nI t)), (2, .inl (-9)), (3, .inl (nI i))], [.inl (((τ 2 a 0 8) >>> ((nI i) &&& 31)) &&& 1)], τ) [¬ icP .ge (nI i) 8, ¬ icP .ne (-9 : Int32) (-9)] rfl ?_ ?_
            · exact ⟨(nle_lit (a := 8) hi (by decide)), allP1 (by decide : ¬ (¬ (-9 : Int32) = (-9)))⟩
            rw [q4]
            refine AW.run 5 [false] (42, [(0, .inr (.inr (2, a, 0))), (1, .inl (nI t)), (2, .inl (-9)), (3, .inl (nI i))], [.inl (τ 2 a 4 (nI i).toNatClampNeg)], τ) [¬ icP .eq (if Sw S1 i = true then 1 else 0) 0, vp_in (nI i) 8] rfl ?_ ?_
            · exact ⟨(by rw [if_pos hw]; exact (by decide : ¬ (1 : Int32) = 0)), allP1 (by exact in8 hi)⟩
            rw [q1]
            refine AW.run 4 [] (48, [(0, .inr (.inr (2, a, 0))), (1, .inl (nI t)), (2, .inl (-9)), (3, .inl (nI i))], [.inl (τ 2 a 6 (nI i).toNatClampNeg), .inl (nI (Sq S1 i))], τ) [vp_in (nI i) 8] rfl ?_ ?_
            · exact allP1 (by exact in8 hi)
            rw [q2]
            refine AW.run 3 [true] (13, [(3, .inl ((nI i) + 1)), (0, .inr (.inr (2, a, 0))), (1, .inl (nI t)), (2, .inl (-9))], [], τ) [icP .le (nI (Sq S1 i)) (nI (bearS S1 i))] rfl ?_ ?_
            · exact allP1 (nI_le (by omega) (by omega))
            rw [nI_1 i]
            refine AW.pick [1, 2, 3, 0] (ls' := [(0, .inr (.inr (2, a, 0))), (1, .inl (nI t)), (2, .inl (-9)), (3, .inl (nI (i + 1)))]) rfl ?_
            exact hk2 none τ ⟨rfl, by rw [hu, if_neg hno]⟩
        · have hno : ¬ (Sw S1 i = true ∧ bearS S1 i < Sq S1 i) := fun h => hw h.1
          refine AW.run 12 [false, false] (33, [(0, .inr (.inr (2, a, 0))), (1, .inl (nI t)), (2, .inl (-9)), (3, .inl (nI i))], [.inl (((τ 2 a 0 8) >>> ((nI i) &&& 31)) &&& 1)], τ) [¬ icP .ge (nI i) 8, ¬ icP .ne (-9 : Int32) (-9)] rfl ?_ ?_
          · exact ⟨(nle_lit (a := 8) hi (by decide)), allP1 (by decide : ¬ (¬ (-9 : Int32) = (-9)))⟩
          rw [q4]
          refine AW.run 3 [true] (13, [(3, .inl ((nI i) + 1)), (0, .inr (.inr (2, a, 0))), (1, .inl (nI t)), (2, .inl (-9))], [], τ) [icP .eq (if Sw S1 i = true then 1 else 0) 0] rfl ?_ ?_
          · exact allP1 (by rw [if_neg hw]; exact (rfl : (0 : Int32) = 0))
          rw [nI_1 i]
          refine AW.pick [1, 2, 3, 0] (ls' := [(0, .inr (.inr (2, a, 0))), (1, .inl (nI t)), (2, .inl (-9)), (3, .inl (nI (i + 1)))]) rfl ?_
          exact hk2 none τ ⟨rfl, by rw [hu, if_neg hno]⟩
    · intro o τ' hI2
      obtain ⟨rfl, hI2⟩ := hI2
      cases o with
      | some k =>
        show AW M3_settle 1 _ (13, [(0, .inr (.inr (2, a, 0))), (1, .inl (nI t)), (2, .inl (nI k)), (3, .inl (nI 8))], [], τ)
        refine AW.run 3 [true] (59, [(0, .inr (.inr (2, a, 0))), (1, .inl (nI t)), (2, .inl (nI k)), (3, .inl (nI 8))], [], τ) [icP .ge (nI 8) 8] rfl ?_ ?_
        · exact allP1 (le_lit (a := 8) (b := 8) (by decide) (by decide))
        refine AW.pick [0, 1, 2, 3] (ls' := [(0, .inr (.inr (2, a, 0))), (1, .inl (nI t)), (2, .inl (nI k)), (3, .inl (nI 8))]) rfl ?_
        exact c1 8 k hI2
      | none =>
        show AW M3_settle 1 _ (13, [(0, .inr (.inr (2, a, 0))), (1, .inl (nI t)), (2, .inl (-9)), (3, .inl (nI 8))], [], τ)
        refine AW.run 3 [true] (59, [(0, .inr (.inr (2, a, 0))), (1, .inl (nI t)), (2, .inl (-9)), (3, .inl (nI 8))], [], τ) [icP .ge (nI 8) 8] rfl ?_ ?_
        · exact allP1 (le_lit (a := 8) (b := 8) (by decide) (by decide))
        refine AW.pick [0, 1, 2, 3] (ls' := [(0, .inr (.inr (2, a, 0))), (1, .inl (nI t)), (2, .inl (-9)), (3, .inl (nI 8))]) rfl ?_
        exact c0 8 hI2.symm
  · intro S1 τ hI
    obtain ⟨hS1, hR1, hO1, hse⟩ := hI
    have he : S1 = settleS 8 S := hse
    refine AW.run 3 [true] (77, [(0, .inr (.inr (2, a, 0))), (1, .inl (nI 8))], [], τ) [icP .ge (nI 8) 8] rfl ?_ ?_
    · exact allP1 (le_lit (a := 8) (b := 8) (by decide) (by decide))
    refine AW.retv ⟨_, rfl⟩ rfl ?_
    exact ⟨hS1, by rw [← he]; exact hR1⟩
