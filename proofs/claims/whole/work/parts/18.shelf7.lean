/-! PAIRS, TIGHTEST, GAP -/
def esum (S : Sv) : Nat → Nat
  | 0 => 0
  | i + 1 => esum S i + if Sw S i = true then cN (nearW S i 8) else 0
theorem esum_le {S : Sv} : ∀ i, esum S i ≤ 8 * i
  | 0 => Nat.le_refl _
  | i + 1 => by
    have := esum_le (S := S) i
    have := cN_le (nearW S i 8)
    unfold esum
    split <;> omega
theorem half_e : ∀ q < 65, nI q / 2 = nI (q / 2) := by decide +kernel
/-- the tightest of those ahead of i -/
def tightN (S : Sv) : Nat → Option Nat
  | 0 => none
  | i + 1 => if Sw S i = true then match tightN S i with
      | none => some i
      | some t => if bearS S i + Sq S t < bearS S t + Sq S i then some i else some t
    else tightN S i
theorem tightN_lt {S : Sv} {t : Nat} : ∀ i, tightN S i = some t → t < i ∧ Sw S t = true
  | 0, h => by cases h
  | i + 1, h => by
    unfold tightN at h
    split at h
    · rename_i hw
      split at h
      · cases h; exact ⟨Nat.lt_succ_self _, hw⟩
      · rename_i t2 ht2
        split at h
        · cases h; exact ⟨Nat.lt_succ_self _, hw⟩
        · cases h
          have := tightN_lt i ht2
          exact ⟨by omega, this.2⟩
    · have := tightN_lt i h
      exact ⟨by omega, this.2⟩
def leastI (S : Sv) (o : Option Nat) : Int32 := match o with
  | none => 0
  | some t => nI (bearS S t) - nI (Sq S t)
theorem sub_toInt {a b : Nat} (ha : a ≤ 99) (hb : b ≤ 99) : (nI a - nI b).toInt = (a : Int) - (b : Int) := by
  have h : ∀ a < 100, ∀ b < 100, (nI a - nI b).toInt = (a : Int) - (b : Int) := by decide +kernel
  exact h a (by omega) b (by omega)
theorem sub_le {a b c d : Nat} (ha : a ≤ 99) (hb : b ≤ 99) (hc : c ≤ 99) (hd : d ≤ 99) : nI a - nI b ≤ nI c - nI d ↔ a + d ≤ c + b := by
  rw [Int32.le_iff_toInt_le, sub_toInt ha hb, sub_toInt hc hd]
  omega
/-- the longest run of free places ahead of i, and the run that is open -/
def gapN (S : Sv) : Nat → Nat × Nat
  | 0 => (0, 0)
  | i + 1 => match atS S i with
    | none => (Nat.max (gapN S i).1 ((gapN S i).2 + 1), (gapN S i).2 + 1)
    | some _ => (Nat.max (gapN S i).1 0, 0)
theorem gapN_le {S : Sv} : ∀ i, (gapN S i).1 ≤ i ∧ (gapN S i).2 ≤ i
  | 0 => ⟨Nat.le_refl _, Nat.le_refl _⟩
  | i + 1 => by
    have := gapN_le (S := S) i
    unfold gapN
    split
    · exact ⟨Nat.max_le.mpr ⟨by omega, by omega⟩, by omega⟩
    · exact ⟨Nat.max_le.mpr ⟨by omega, by omega⟩, by omega⟩
theorem max_nI {a b : Nat} (ha : a < 2 ^ 31) (hb : b < 2 ^ 31) : (if nI a < nI b then nI b else nI a) = nI (Nat.max a b) := by
  by_cases h : a < b
  · rw [if_pos ((nI_ltI ha hb).mpr h), show Nat.max a b = b from Nat.max_eq_right (Nat.le_of_lt h)]
  · rw [if_neg (fun q => h ((nI_ltI ha hb).mp q)), show Nat.max a b = a from Nat.max_eq_left (Nat.le_of_not_lt h)]
theorem max_n0 {a : Nat} (ha : a < 2 ^ 31) : (if nI a < 0 then 0 else nI a) = nI (Nat.max a 0) := by
  rw [if_neg (nI_pos ha), show Nat.max a 0 = a from Nat.max_eq_left (Nat.zero_le _)]
theorem atN_lt {S : Sv} {p k : Nat} : ∀ (n i : Nat), atN S p n i = some k → k < i + n ∧ Sw S k = true ∧ Sp S k = p
  | 0, _, h => by cases h
  | n + 1, i, h => by
    unfold atN at h
    split at h
    · rename_i hc
      cases h
      exact ⟨by omega, hc⟩
    · obtain ⟨h1, h2⟩ := atN_lt n (i + 1) h
      exact ⟨by omega, h2⟩
theorem atS_lt {S : Sv} {p k : Nat} (h : atS S p = some k) : k < 8 ∧ Sw S k = true ∧ Sp S k = p := by
  have := atN_lt 8 0 h
  simpa using this

set_option maxHeartbeats 4000000 in
set_option maxRecDepth 100000 in
theorem c3_pairsNear (a : Nat) (S : Sv) (σ : St) (hR : RepS (σ 2 a) S) (hO : SOK S) : Ct M3_pairsNear 2 [.inr (.inr (2, a, 0))] σ (PI fun v σ' => nI (esum S 8 / 2) = v ∧ σ = σ') := by
  refine Ct.of f_3_pairsNear (Nat.le_of_ble_eq_true rfl) ?_
  show AW M3_pairsNear 2 _ (0, [(0, .inr (.inr (2, a, 0)))], [], σ)
  refine AW.run 4 [] (4, [(2, .inl 0), (1, .inl 0), (0, .inr (.inr (2, a, 0)))], [], σ) [] rfl ?_ ?_
  · exact trivial
  refine AW.pick [2, 1, 0] (ls' := [(0, .inr (.inr (2, a, 0))), (1, .inl (nI (esum S 0))), (2, .inl (nI 0))]) rfl ?_
  refine AW.loop (α := Unit) 4 8 (fun i _ => [(0, .inr (.inr (2, a, 0))), (1, .inl (nI (esum S i))), (2, .inl (nI i))]) (fun i _ τ => σ = τ) ?_ ?_ 8 0 () _ (by omega) rfl
  · intro i _ τ hi hI hk
    obtain rfl := hI
    skip
    refine AW.run 5 [false] (12, [(0, .inr (.inr (2, a, 0))), (1, .inl (nI (esum S i))), (2, .inl (nI i))], [.inl (nI i), .inr (.inr (2, a, 0))], σ) [¬ icP .ge (nI i) 8] rfl ?_ ?_
    · exact allP1 (nle_lit (a := 8) hi (by decide))
    refine AW.callVI (d' := 0) [.inl (nI i)] [] ⟨_, rfl⟩ f_3_isWhole v_3_isWhole l_3_79 ⟨rfl, by decide⟩ rfl (Nat.le_of_ble_eq_true rfl) rfl (Nat.le_of_ble_eq_true rfl) (c3_isWhole a S σ hR hO i (by omega)) ?_
    rintro v _ ⟨rfl, hv⟩
    rcases hv with ⟨rfl, hp12⟩ | ⟨rfl, hp12⟩
    · skip
      refine AW.run 4 [false] (21, [(0, .inr (.inr (2, a, 0))), (1, .inl (nI (esum S i))), (2, .inl (nI i))], [.inl (nI i), .inr (.inr (2, a, 0)), .inl (nI (esum S i))], σ) [¬ icP .eq (1 : Int32) 0] rfl ?_ ?_
      · exact allP1 (by decide : ¬ ((1 : Int32) = 0))
      refine AW.callVI (d' := 1) [.inl (nI i)] [.inl (nI (esum S i))] ⟨_, rfl⟩ f_3_nearTo v_3_nearTo l_3_98 ⟨rfl, by decide⟩ rfl (Nat.le_of_ble_eq_true rfl) rfl (Nat.le_of_ble_eq_true rfl) (c3_nearTo a S σ hR hO i (SOK_lt hO hp12)) ?_
      rintro _ _ ⟨rfl, rfl⟩
      refine AW.callSI (d' := 0) [.inl (bI (nearW S i 8))] [.inl (nI (esum S i))] ⟨_, rfl⟩ f_J_bitCount s_J_bitCount l_3_101 rfl (Nat.le_of_ble_eq_true rfl) rfl (Nat.le_of_ble_eq_true rfl) (cJ_bitCount (bI (nearW S i 8)) σ) ?_
      rintro _ _ ⟨rfl, rfl⟩
      rw [bcV_bI]
      refine AW.run 1 [] (28, [(0, .inr (.inr (2, a, 0))), (1, .inl (nI (esum S i))), (2, .inl (nI i))], [.inl ((nI (esum S i)) + (nI (cN (nearW S i 8))))], σ) [] rfl ?_ ?_
      · exact trivial
      rw [nI_add]
      refine AW.run 3 [] (4, [(2, .inl ((nI i) + 1)), (1, .inl (nI (esum S i + cN (nearW S i 8)))), (0, .inr (.inr (2, a, 0)))], [], σ) [] rfl ?_ ?_
      · exact trivial
      have hs : esum S (i + 1) = esum S i + cN (nearW S i 8) := by simp [esum, hp12]
      rw [← hs, nI_1 i]
      refine AW.pick [2, 1, 0] (ls' := [(0, .inr (.inr (2, a, 0))), (1, .inl (nI (esum S (i + 1)))), (2, .inl (nI (i + 1)))]) rfl ?_
      exact hk () _ rfl
    · skip
      refine AW.run 3 [true] (4, [(2, .inl ((nI i) + 1)), (0, .inr (.inr (2, a, 0))), (1, .inl (nI (esum S i)))], [], σ) [icP .eq (0 : Int32) 0] rfl ?_ ?_
      · exact allP1 (by decide : ((0 : Int32) = 0))
      have hs : esum S (i + 1) = esum S i := by simp [esum, hp12]
      rw [← hs, nI_1 i]
      refine AW.pick [1, 2, 0] (ls' := [(0, .inr (.inr (2, a, 0))), (1, .inl (nI (esum S (i + 1)))), (2, .inl (nI (i + 1)))]) rfl ?_
      exact hk () _ rfl
  · intro _ τ hI
    obtain rfl := hI
    have he := esum_le (S := S) 8
    refine AW.run 6 [true] (38, [(0, .inr (.inr (2, a, 0))), (1, .inl (nI (esum S 8))), (2, .inl (nI 8))], [.inl ((nI (esum S 8)) / 2)], σ) [icP .ge (nI 8) 8, ¬ (2 : Int32) = 0] rfl ?_ ?_
    · exact ⟨(le_lit (a := 8) (b := 8) (by decide) (by decide)), allP1 (by decide)⟩
    refine AW.reti ⟨_, rfl⟩ rfl ?_
    exact ⟨(half_e _ (by omega)).symm, rfl⟩
set_option maxHeartbeats 4000000 in
set_option maxRecDepth 100000 in
theorem c3_tightestOne (a : Nat) (S : Sv) (σ : St) (hR : RepS (σ 2 a) S) (hO : SOK S) : Ct M3_tightestOne 1 [.inr (.inr (2, a, 0))] σ (PI fun v σ' => optI (tightN S 8) = v ∧ σ = σ') := by
  refine Ct.of f_3_tightestOne (Nat.le_of_ble_eq_true rfl) ?_
  show AW M3_tightestOne 1 _ (0, [(0, .inr (.inr (2, a, 0)))], [], σ)
  have q : ∀ i, i < 8 → Sw S i = true → σ 2 a 6 (nI i).toNatClampNeg = nI (bearS S i) ∧ σ 2 a 4 (nI i).toNatClampNeg = nI (Sq S i) := fun i hi hw => by
    rw [cl8 hi]; exact ⟨(hR.2.2 i (SOK_lt hO hw)).2.1, (hR.2.1 i hi).2.2.2⟩
  refine AW.run 6 [] (7, [(3, .inl 0), (2, .inl 0), (1, .inl (-9)), (0, .inr (.inr (2, a, 0)))], [], σ) [] rfl ?_ ?_
  · exact trivial
  refine AW.pick [3, 2, 1, 0] (ls' := [(0, .inr (.inr (2, a, 0))), (1, .inl (optI (tightN S 0))), (2, .inl (leastI S (tightN S 0))), (3, .inl (nI 0))]) rfl ?_
  refine AW.loop (α := Unit) 7 8 (fun i _ => [(0, .inr (.inr (2, a, 0))), (1, .inl (optI (tightN S i))), (2, .inl (leastI S (tightN S i))), (3, .inl (nI i))]) (fun i _ τ => σ = τ) ?_ ?_ 8 0 () _ (by omega) rfl
  · intro i _ τ hi hI hk
    subst hI
    have hbi := bear_le hO i
    have hqi := (hO.2.1 i).2.2.2
    by_cases hw : Sw S i = true
    · cases ht : tightN S i with
      | none =>
        have hs : tightN S (i + 1) = some i := by simp only [tightN, if_pos hw, ht]
        show AW M3_tightestOne 1 _ (7, [(0, .inr (.inr (2, a, 0))), (1, .inl (-9)), (2, .inl 0), (3, .inl (nI i))], [], σ)
        refine AW.run 5 [false] (15, [(0, .inr (.inr (2, a, 0))), (1, .inl (-9)), (2, .inl 0), (3, .inl (nI i))], [.inl (nI i), .inr (.inr (2, a, 0))], σ) [¬ icP .ge (nI i) 8] rfl ?_ ?_
        · exact allP1 (nle_lit (a := 8) hi (by decide))
        refine AW.callVI (d' := 0) [.inl (nI i)] [] ⟨_, rfl⟩ f_3_isWhole v_3_isWhole l_3_79 ⟨rfl, by decide⟩ rfl (Nat.le_of_ble_eq_true rfl) rfl (Nat.le_of_ble_eq_true rfl) (c3_isWhole a S σ hR hO i (by omega)) ?_
        rintro v _ ⟨rfl, hv⟩
        obtain rfl : v = 1 := by
          rcases hv with h | h
          · exact h.1
          · exact absurd (hw.symm.trans h.2) (by decide)
        refine AW.run 15 [false, true] (59, [(1, .inl (nI i)), (0, .inr (.inr (2, a, 0))), (2, .inl 0), (3, .inl (nI i))], [.inl ((σ 2 a 6 (nI i).toNatClampNeg) - (σ 2 a 4 (nI i).toNatClampNeg))], σ) [¬ icP .eq (1 : Int32) 0, icP .eq (-9 : Int32) (-9), vp_in (nI i) 8, vp_in (nI i) 8] rfl ?_ ?_
        · exact ⟨(by decide : ¬ ((1 : Int32) = 0)), (by decide : ((-9 : Int32) = (-9))), (by exact in8 hi), allP1 (by exact in8 hi)⟩
        rw [(q i hi hw).1, (q i hi hw).2]
        refine AW.run 3 [] (7, [(3, .inl ((nI i) + 1)), (2, .inl (nI (bearS S i) - nI (Sq S i))), (1, .inl (nI i)), (0, .inr (.inr (2, a, 0)))], [], σ) [] rfl ?_ ?_
        · exact trivial
        have hx := hk () σ rfl
        rw [hs, ← nI_1 i] at hx
        refine AW.pick [3, 2, 1, 0] (ls' := _) rfl ?_
        exact hx
      | some t =>
        obtain ⟨ht1, ht2⟩ := tightN_lt i ht
        have hbt := bear_le hO t
        have hqt := (hO.2.1 t).2.2.2
        by_cases hb : bearS S i + Sq S t < bearS S t + Sq S i
        · have hs : tightN S (i + 1) = some i := by simp only [tightN, if_pos hw, ht]; rw [if_pos hb]
          show AW M3_tightestOne 1 _ (7, [(0, .inr (.inr (2, a, 0))), (1, .inl (nI t)), (2, .inl (nI (bearS S t) - nI (Sq S t))), (3, .inl (nI i))], [], σ)
          refine AW.run 5 [false] (15, [(0, .inr (.inr (2, a, 0))), (1, .inl (nI t)), (2, .inl (nI (bearS S t) - nI (Sq S t))), (3, .inl (nI i))], [.inl (nI i), .inr (.inr (2, a, 0))], σ) [¬ icP .ge (nI i) 8] rfl ?_ ?_
          · exact allP1 (nle_lit (a := 8) hi (by decide))
          refine AW.callVI (d' := 0) [.inl (nI i)] [] ⟨_, rfl⟩ f_3_isWhole v_3_isWhole l_3_79 ⟨rfl, by decide⟩ rfl (Nat.le_of_ble_eq_true rfl) rfl (Nat.le_of_ble_eq_true rfl) (c3_isWhole a S σ hR hO i (by omega)) ?_
          rintro v _ ⟨rfl, hv⟩
          obtain rfl : v = 1 := by
            rcases hv with h | h
            · exact h.1
            · exact absurd (hw.symm.trans h.2) (by decide)
          refine AW.run 13 [false, false] (40, [(0, .inr (.inr (2, a, 0))), (1, .inl (nI t)), (2, .inl (nI (bearS S t) - nI (Sq S t))), (3, .inl (nI i))], [.inl ((σ 2 a 6 (nI i).toNatClampNeg) - (σ 2 a 4 (nI i).toNatClampNeg))], σ) [¬ icP .eq (1 : Int32) 0, ¬ icP .eq (nI t) (-9), vp_in (nI i) 8, vp_in (nI i) 8] rfl ?_ ?_
          · exact ⟨(by decide : ¬ ((1 : Int32) = 0)), (nI_m9 (by omega)), (by exact in8 hi), allP1 (by exact in8 hi)⟩
          rw [(q i hi hw).1, (q i hi hw).2]
          refine AW.run 13 [false] (59, [(1, .inl (nI i)), (0, .inr (.inr (2, a, 0))), (2, .inl (nI (bearS S t) - nI (Sq S t))), (3, .inl (nI i))], [.inl ((σ 2 a 6 (nI i).toNatClampNeg) - (σ 2 a 4 (nI i).toNatClampNeg))], σ) [¬ icP .ge (nI (bearS S i) - nI (Sq S i)) (nI (bearS S t) - nI (Sq S t)), vp_in (nI i) 8, vp_in (nI i) 8] rfl ?_ ?_
          · exact ⟨(fun q9 => absurd ((sub_le hbt hqt hbi hqi).mp q9) (by omega)), (by exact in8 hi), allP1 (by exact in8 hi)⟩
          rw [(q i hi hw).1, (q i hi hw).2]
          refine AW.run 3 [] (7, [(3, .inl ((nI i) + 1)), (2, .inl (nI (bearS S i) - nI (Sq S i))), (1, .inl (nI i)), (0, .inr (.inr (2, a, 0)))], [], σ) [] rfl ?_ ?_
          · exact trivial
          have hx := hk () σ rfl
          rw [hs, ← nI_1 i] at hx
          refine AW.pick [3, 2, 1, 0] (ls' := _) rfl ?_
          exact hx
        · have hs : tightN S (i + 1) = some t := by simp only [tightN, if_pos hw, ht]; rw [if_neg hb]
          show AW M3_tightestOne 1 _ (7, [(0, .inr (.inr (2, a, 0))), (1, .inl (nI t)), (2, .inl (nI (bearS S t) - nI (Sq S t))), (3, .inl (nI i))], [], σ)
          refine AW.run 5 [false] (15, [(0, .inr (.inr (2, a, 0))), (1, .inl (nI t)), (2, .inl (nI (bearS S t) - nI (Sq S t))), (3, .inl (nI i))], [.inl (nI i), .inr (.inr (2, a, 0))], σ) [¬ icP .ge (nI i) 8] rfl ?_ ?_
          · exact allP1 (nle_lit (a := 8) hi (by decide))
          refine AW.callVI (d' := 0) [.inl (nI i)] [] ⟨_, rfl⟩ f_3_isWhole v_3_isWhole l_3_79 ⟨rfl, by decide⟩ rfl (Nat.le_of_ble_eq_true rfl) rfl (Nat.le_of_ble_eq_true rfl) (c3_isWhole a S σ hR hO i (by omega)) ?_
          rintro v _ ⟨rfl, hv⟩
          obtain rfl : v = 1 := by
            rcases hv with h | h
            · exact h.1
            · exact absurd (hw.symm.trans h.2) (by decide)
          refine AW.run 13 [false, false] (40, [(0, .inr (.inr (2, a, 0))), (1, .inl (nI t)), (2, .inl (nI (bearS S t) - nI (Sq S t))), (3, .inl (nI i))], [.inl ((σ 2 a 6 (nI i).toNatClampNeg) - (σ 2 a 4 (nI i).toNatClampNeg))], σ) [¬ icP .eq (1 : Int32) 0, ¬ icP .eq (nI t) (-9), vp_in (nI i) 8, vp_in (nI i) 8] rfl ?_ ?_
          · exact ⟨(by decide : ¬ ((1 : Int32) = 0)), (nI_m9 (by omega)), (by exact in8 hi), allP1 (by exact in8 hi)⟩
          rw [(q i hi hw).1, (q i hi hw).2]
          refine AW.run 4 [true] (7, [(3, .inl ((nI i) + 1)), (0, .inr (.inr (2, a, 0))), (1, .inl (nI t)), (2, .inl (nI (bearS S t) - nI (Sq S t)))], [], σ) [icP .ge (nI (bearS S i) - nI (Sq S i)) (nI (bearS S t) - nI (Sq S t))] rfl ?_ ?_
          · exact allP1 ((sub_le hbt hqt hbi hqi).mpr (by omega))
          have hx := hk () σ rfl
          rw [hs, ← nI_1 i] at hx
          refine AW.pick [1, 2, 3, 0] (ls' := _) rfl ?_
          exact hx
    · have hs : tightN S (i + 1) = tightN S i := by simp only [tightN]; rw [if_neg hw]
      refine AW.run 5 [false] (15, [(0, .inr (.inr (2, a, 0))), (1, .inl (optI (tightN S i))), (2, .inl (leastI S (tightN S i))), (3, .inl (nI i))], [.inl (nI i), .inr (.inr (2, a, 0))], σ) [¬ icP .ge (nI i) 8] rfl ?_ ?_
      · exact allP1 (nle_lit (a := 8) hi (by decide))
      refine AW.callVI (d' := 0) [.inl (nI i)] [] ⟨_, rfl⟩ f_3_isWhole v_3_isWhole l_3_79 ⟨rfl, by decide⟩ rfl (Nat.le_of_ble_eq_true rfl) rfl (Nat.le_of_ble_eq_true rfl) (c3_isWhole a S σ hR hO i (by omega)) ?_
      rintro v _ ⟨rfl, hv⟩
      obtain rfl : v = 0 := by
        rcases hv with h | h
        · exact absurd h.2 hw
        · exact h.1
      refine AW.run 3 [true] (7, [(3, .inl ((nI i) + 1)), (0, .inr (.inr (2, a, 0))), (1, .inl (optI (tightN S i))), (2, .inl (leastI S (tightN S i)))], [], σ) [icP .eq (0 : Int32) 0] rfl ?_ ?_
      · exact allP1 (by decide : ((0 : Int32) = 0))
      have hx := hk () σ rfl
      rw [hs, ← nI_1 i] at hx
      refine AW.pick [1, 2, 3, 0] (ls' := _) rfl ?_
      exact hx
  · intro _ τ hI
    subst hI
    refine AW.run 4 [true] (67, [(0, .inr (.inr (2, a, 0))), (1, .inl (optI (tightN S 8))), (2, .inl (leastI S (tightN S 8))), (3, .inl (nI 8))], [.inl (optI (tightN S 8))], σ) [icP .ge (nI 8) 8] rfl ?_ ?_
    · exact allP1 (le_lit (a := 8) (b := 8) (by decide) (by decide))
    refine AW.reti ⟨_, rfl⟩ rfl ?_
    exact ⟨rfl, rfl⟩
set_option maxHeartbeats 4000000 in
set_option maxRecDepth 100000 in
theorem c3_longestGap (a : Nat) (S : Sv) (σ : St) (hR : RepS (σ 2 a) S) (hO : SOK S) : Ct M3_longestGap 2 [.inr (.inr (2, a, 0))] σ (PI fun v σ' => nI (gapN S 15).1 = v ∧ σ = σ') := by
  refine Ct.of f_3_longestGap (Nat.le_of_ble_eq_true rfl) ?_
  show AW M3_longestGap 2 _ (0, [(0, .inr (.inr (2, a, 0)))], [], σ)
  refine AW.run 6 [] (6, [(3, .inl 0), (2, .inl 0), (1, .inl 0), (0, .inr (.inr (2, a, 0)))], [], σ) [] rfl ?_ ?_
  · exact trivial
  refine AW.pick [3, 2, 1, 0] (ls' := [(0, .inr (.inr (2, a, 0))), (1, .inl (nI (gapN S 0).1)), (2, .inl (nI (gapN S 0).2)), (3, .inl (nI 0))]) rfl ?_
  refine AW.loop (α := Unit) 6 15 (fun i _ => [(0, .inr (.inr (2, a, 0))), (1, .inl (nI (gapN S i).1)), (2, .inl (nI (gapN S i).2)), (3, .inl (nI i))]) (fun i _ τ => σ = τ) ?_ ?_ 15 0 () _ (by omega) rfl
  · intro i _ τ hi hI hk
    subst hI
    obtain ⟨l1, l2⟩ := gapN_le (S := S) i
    cases ht : atS S i with
    | none =>
      have hs : gapN S (i + 1) = (Nat.max (gapN S i).1 ((gapN S i).2 + 1), (gapN S i).2 + 1) := by simp only [gapN, ht]
      refine AW.run 5 [false] (14, [(0, .inr (.inr (2, a, 0))), (1, .inl (nI (gapN S i).1)), (2, .inl (nI (gapN S i).2)), (3, .inl (nI i))], [.inl (nI i), .inr (.inr (2, a, 0))], σ) [¬ icP .ge (nI i) 15] rfl ?_ ?_
      · exact allP1 (nle_lit (a := 15) hi (by decide))
      refine AW.callVI (d' := 1) [.inl (nI i)] [] ⟨_, rfl⟩ f_3_wholeAt v_3_wholeAt l_3_106 ⟨rfl, by decide⟩ rfl (Nat.le_of_ble_eq_true rfl) rfl (Nat.le_of_ble_eq_true rfl) (c3_wholeAt a S σ hR hO i (by omega)) ?_
      rintro _ _ ⟨rfl, rfl⟩
      rw [ht]
      dsimp only [optI]
      refine AW.run 6 [false] (29, [(0, .inr (.inr (2, a, 0))), (1, .inl (nI (gapN S i).1)), (2, .inl (nI (gapN S i).2)), (3, .inl (nI i))], [.inl ((nI (gapN S i).2) + 1)], σ) [¬ icP .ne (-9 : Int32) (-9)] rfl ?_ ?_
      · exact allP1 (by decide : ¬ (¬ (-9 : Int32) = (-9)))
      rw [nI_1]
      refine AW.run 3 [] (32, [(2, .inl (nI ((gapN S i).2 + 1))), (0, .inr (.inr (2, a, 0))), (1, .inl (nI (gapN S i).1)), (3, .inl (nI i))], [.inl (nI ((gapN S i).2 + 1)), .inl (nI (gapN S i).1)], σ) [] rfl ?_ ?_
      · exact trivial
      refine AW.max ⟨_, rfl⟩ l_3_109 (Nat.le_of_ble_eq_true rfl) (Nat.le_of_ble_eq_true rfl) ?_
      rw [max_nI (by omega) (by omega)]
      refine AW.run 3 [] (6, [(3, .inl ((nI i) + 1)), (1, .inl (nI (Nat.max (gapN S i).1 ((gapN S i).2 + 1)))), (2, .inl (nI ((gapN S i).2 + 1))), (0, .inr (.inr (2, a, 0)))], [], σ) [] rfl ?_ ?_
      · exact trivial
      have hx := hk () σ rfl
      rw [hs, ← nI_1 i] at hx
      refine AW.pick [3, 1, 2, 0] (ls' := _) rfl ?_
      exact hx
    | some t =>
      have htl := (atS_lt ht).1
      have hs : gapN S (i + 1) = (Nat.max (gapN S i).1 0, 0) := by simp only [gapN, ht]
      refine AW.run 5 [false] (14, [(0, .inr (.inr (2, a, 0))), (1, .inl (nI (gapN S i).1)), (2, .inl (nI (gapN S i).2)), (3, .inl (nI i))], [.inl (nI i), .inr (.inr (2, a, 0))], σ) [¬ icP .ge (nI i) 15] rfl ?_ ?_
      · exact allP1 (nle_lit (a := 15) hi (by decide))
      refine AW.callVI (d' := 1) [.inl (nI i)] [] ⟨_, rfl⟩ f_3_wholeAt v_3_wholeAt l_3_106 ⟨rfl, by decide⟩ rfl (Nat.le_of_ble_eq_true rfl) rfl (Nat.le_of_ble_eq_true rfl) (c3_wholeAt a S σ hR hO i (by omega)) ?_
      rintro _ _ ⟨rfl, rfl⟩
      rw [ht]
      dsimp only [optI]
      refine AW.run 6 [true] (32, [(2, .inl 0), (0, .inr (.inr (2, a, 0))), (1, .inl (nI (gapN S i).1)), (3, .inl (nI i))], [.inl 0, .inl (nI (gapN S i).1)], σ) [icP .ne (nI t) (-9)] rfl ?_ ?_
      · exact allP1 (nI_m9 (by omega))
      refine AW.max ⟨_, rfl⟩ l_3_109 (Nat.le_of_ble_eq_true rfl) (Nat.le_of_ble_eq_true rfl) ?_
      rw [max_n0 (by omega)]
      refine AW.run 3 [] (6, [(3, .inl ((nI i) + 1)), (1, .inl (nI (Nat.max (gapN S i).1 0))), (2, .inl 0), (0, .inr (.inr (2, a, 0)))], [], σ) [] rfl ?_ ?_
      · exact trivial
      have hx := hk () σ rfl
      rw [hs, ← nI_1 i] at hx
      refine AW.pick [3, 1, 2, 0] (ls' := _) rfl ?_
      exact hx
  · intro _ τ hI
    subst hI
    refine AW.run 4 [true] (43, [(0, .inr (.inr (2, a, 0))), (1, .inl (nI (gapN S 15).1)), (2, .inl (nI (gapN S 15).2)), (3, .inl (nI 15))], [.inl (nI (gapN S 15).1)], σ) [icP .ge (nI 15) 15] rfl ?_ ?_
    · exact allP1 (le_lit (a := 15) (b := 15) (by decide) (by decide))
    refine AW.reti ⟨_, rfl⟩ rfl ?_
    exact ⟨rfl, rfl⟩
