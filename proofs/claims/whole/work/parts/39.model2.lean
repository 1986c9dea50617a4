/-! THE MODEL'S SHELF -/
def pre (f : Nat → Bool) (i : Nat) : Nat → Bool := fun j => decide (j < i) && f j
theorem pre_t {f : Nat → Bool} {i : Nat} (h : f i = true) (hi : i < 8) : bI (pre f i) ||| (1 <<< (nI i &&& 31)) = bI (pre f (i + 1)) := by
  rw [bI_set _ hi]
  apply bI_congr
  intro j _
  unfold fu pre
  by_cases hj : j = i
  · subst hj; rw [if_pos rfl, h, decide_eq_true (Nat.lt_succ_self j)]; rfl
  · rw [if_neg hj, show decide (j < i + 1) = decide (j < i) from decide_eq_decide.mpr (by omega)]
theorem pre_f {f : Nat → Bool} {i : Nat} (h : f i = false) : bI (pre f i) ||| 0 = bI (pre f (i + 1)) := by
  rw [show ∀ x : Int32, x ||| 0 = x from fun x => Int32.or_zero]
  apply bI_congr
  intro j _
  unfold pre
  by_cases hj : j = i
  · subst hj; rw [h, Bool.and_false, Bool.and_false]
  · rw [show decide (j < i + 1) = decide (j < i) from decide_eq_decide.mpr (by omega)]
theorem pre_0 {f : Nat → Bool} : bI (pre f 0) = 0 := by
  rw [← bI_0]; apply bI_congr; intro j _; rfl
theorem pre_end {f : Nat → Bool} {n : Nat} (h : ∀ j, n ≤ j → f j = false) : bI (pre f n) = bI f := by
  apply bI_congr
  intro j _
  unfold pre
  by_cases hj : j < n
  · rw [decide_eq_true hj]; rfl
  · rw [h j (by omega), Bool.and_false]
theorem w_out {S : Sv} (hO : SOK S) : ∀ j, Sn S ≤ j → Sw S j = false := fun j h => (hO.2.2.1 j h).1
theorem atN_out {S : Sv} {p : Nat} (hO : SOK S) : ∀ k i, Sn S ≤ i → atN S p k i = none
  | 0, _, _ => rfl
  | k + 1, i, h => by
    unfold atN
    rw [if_neg (fun q => by rw [w_out hO i h] at q; cases q.1)]
    exact atN_out hO k (i + 1) (by omega)
theorem nextS_out {S : Sv} (hO : SOK S) : ∀ k i, Sn S ≤ i → nextS S k i = none
  | 0, _, _ => rfl
  | k + 1, i, h => by
    unfold nextS
    rw [if_neg (fun q => by rw [w_out hO i h] at q; cases q.1)]
    exact nextS_out hO k (i + 1) (by omega)
theorem psum_out {S : Sv} (hO : SOK S) : ∀ m, Sn S ≤ m → psum S m = psum S (Sn S)
  | 0, h => by rw [show Sn S = 0 by omega]
  | m + 1, h => by
    by_cases he : Sn S = m + 1
    · rw [he]
    · have := psum_out hO m (by omega)
      show psum S m + (if Sw S m = true then Sq S m else 0) = psum S (Sn S)
      rw [w_out hO m (by omega), this]; rfl
theorem ksum_out {S : Sv} (hO : SOK S) {k : Nat} : ∀ m, Sn S ≤ m → ksum S k m = ksum S k (Sn S)
  | 0, h => by rw [show Sn S = 0 by omega]
  | m + 1, h => by
    by_cases he : Sn S = m + 1
    · rw [he]
    · have := ksum_out hO (k := k) m (by omega)
      show ksum S k m + (if Sw S m = true ∧ Sk S m = k then 1 else 0) = ksum S k (Sn S)
      rw [w_out hO m (by omega), this]; rfl
theorem sz_near : ∀ p < 15, ∀ q < 15, (szI (nI p - nI q) ≤ 2) ↔ nearN p q = true := by decide +kernel
theorem burstQ_out {S : Sv} {b : Nat} (hO : SOK S) {m : Nat} (h : Sn S ≤ m) (h8 : Sn S ≤ 8) : burstQ S b m = burstQ S b 8 := by
  funext j
  unfold burstQ
  by_cases hj : Sn S ≤ j
  · have hw := w_out hO j hj
    rw [if_neg (fun q => by rw [hw] at q; cases q.2.2.1), if_neg (fun q => by rw [hw] at q; cases q.2.2.1)]
  · have h1 : j < m := by omega
    have h2 : j < 8 := by omega
    simp only [h1, h2, true_and]
theorem addQ_out {S : Sv} (hO : SOK S) {m : Nat} (h : Sn S ≤ m) (h8 : Sn S ≤ 8) : addQ S m = addQ S 8 := by
  funext j
  unfold addQ
  by_cases hj : Sn S ≤ j
  · have hw := w_out hO j hj
    rw [if_neg (fun q => by rw [hw] at q; cases q.2), if_neg (fun q => by rw [hw] at q; cases q.2)]
  · have h1 : j < m := by omega
    have h2 : j < 8 := by omega
    simp only [h1, h2, true_and]

set_option maxHeartbeats 4000000 in
set_option maxRecDepth 100000 in
theorem c6_wholeAt (S : Sv) (σ : St) (hR : RepM (σ 5 0) S) (hO : SOK S) (x : Int32) (p : Nat) (hx : x = nI p) (hp : p < 2 ^ 31) : Ct M6_wholeAt 1 [.inr (.inr (5, 0, 0)), .inl x] σ (PI fun r9 σ' => optI (atS S p) = r9 ∧ σ = σ') := by
  refine Ct.of f_6_wholeAt (Nat.le_of_ble_eq_true rfl) ?_
  show AW M6_wholeAt 1 _ (0, [(0, .inr (.inr (5, 0, 0))), (1, .inl x)], [], σ)
  subst hx
  have hn8 : Sn S ≤ 8 := hO.1
  refine AW.run 2 [] (2, [(2, .inl 0), (0, .inr (.inr (5, 0, 0))), (1, .inl (nI p))], [], σ) [] rfl ?_ ?_
  · exact trivial
  refine AW.pick [1, 2, 0] (ls' := [(0, .inr (.inr (5, 0, 0))), (1, .inl (nI p)), (2, .inl (nI 0))]) rfl ?_
  refine AW.loop (α := Unit) 2 (Sn S) (fun i _ => [(0, .inr (.inr (5, 0, 0))), (1, .inl (nI p)), (2, .inl (nI i))]) (fun i _ τ => σ = τ ∧ atS S p = atN S p (8 - i) i) ?_ ?_ (Sn S) 0 () _ (by omega) ⟨rfl, rfl⟩
  · intro i _ τ hi hI hk
    obtain ⟨rfl, hg⟩ := hI
    have e7 := hR.1.1
    have e3 : σ 5 0 4 (nI i).toNatClampNeg = nI (Sp S i) := by rw [cl8 (by omega)]; exact (hR.2 i hi).2.2.1
    have hpb := (hO.2.1 i).2.2.1
    have hu : atN S p (8 - i) i = if Sw S i = true ∧ Sp S i = p then some i else atN S p (8 - (i + 1)) (i + 1) := by
      obtain ⟨m, hm⟩ : ∃ m, 8 - i = m + 1 := ⟨7 - i, by omega⟩
      rw [hm, show 8 - (i + 1) = m by omega]; rfl
    skip
    refine AW.run 3 [] (7, [(0, .inr (.inr (5, 0, 0))), (1, .inl (nI p)), (2, .inl (nI i))], [.inl (σ 5 0 0 7), .inl (nI i)], σ) [] rfl ?_ ?_
    · exact trivial
    rw [e7]
    refine AW.run 3 [false] (12, [(0, .inr (.inr (5, 0, 0))), (1, .inl (nI p)), (2, .inl (nI i))], [.inl (nI i), .inr (.inr (5, 0, 0))], σ) [¬ icP .ge (nI i) (nI (Sn S))] rfl ?_ ?_
    · exact allP1 (nI_ge hi (by omega))
    refine AW.callVI (d' := 0) [.inl (nI i)] [] ⟨_, rfl⟩ f_6_isWhole v_6_isWhole l_6_108 ⟨rfl, by decide⟩ rfl (Nat.le_of_ble_eq_true rfl) rfl (Nat.le_of_ble_eq_true rfl) (c6_isWhole S σ hR (by first | exact hO.1 | exact hn8) i hi) ?_
    rintro v _ ⟨rfl, hv⟩
    rcases hv with ⟨rfl, hp12⟩ | ⟨rfl, hp12⟩
    · skip
      refine AW.run 6 [false] (25, [(0, .inr (.inr (5, 0, 0))), (1, .inl (nI p)), (2, .inl (nI i))], [.inl (nI p), .inl (σ 5 0 4 (nI i).toNatClampNeg)], σ) [¬ icP .eq (1 : Int32) 0, vp_in (nI i) 8] rfl ?_ ?_
      · exact ⟨(by decide : ¬ ((1 : Int32) = 0)), allP1 (by exact in8 (by omega))⟩
      rw [e3]
      by_cases h25_1 : Sp S i = p
      · skip
        refine AW.run 2 [false] (29, [(0, .inr (.inr (5, 0, 0))), (1, .inl (nI p)), (2, .inl (nI i))], [.inl (nI i)], σ) [¬ icP .ne (nI (Sp S i)) (nI p)] rfl ?_ ?_
        · exact allP1 (fun q => q (by rw [h25_1]))
        refine AW.reti ⟨_, rfl⟩ rfl ?_
        exact ⟨by rw [hg, hu, if_pos ⟨hp12, by assumption⟩]; rfl, rfl⟩
      · skip
        refine AW.run 3 [true] (2, [(2, .inl ((nI i) + 1)), (0, .inr (.inr (5, 0, 0))), (1, .inl (nI p))], [], σ) [icP .ne (nI (Sp S i)) (nI p)] rfl ?_ ?_
        · exact allP1 (fun q => h25_1 (nI_lit q (by omega) hp))
        rw [nI_1 i]
        refine AW.pick [1, 2, 0] (ls' := [(0, .inr (.inr (5, 0, 0))), (1, .inl (nI p)), (2, .inl (nI (i + 1)))]) rfl ?_
        exact hk () _ ⟨rfl, by rw [hg, hu, if_neg]; intro q; first | exact absurd (hp12.symm.trans q.1) (by decide) | exact absurd q.2 (by assumption)⟩
    · skip
      refine AW.run 3 [true] (2, [(2, .inl ((nI i) + 1)), (0, .inr (.inr (5, 0, 0))), (1, .inl (nI p))], [], σ) [icP .eq (0 : Int32) 0] rfl ?_ ?_
      · exact allP1 (by decide : ((0 : Int32) = 0))
      rw [nI_1 i]
      refine AW.pick [1, 2, 0] (ls' := [(0, .inr (.inr (5, 0, 0))), (1, .inl (nI p)), (2, .inl (nI (i + 1)))]) rfl ?_
      exact hk () _ ⟨rfl, by rw [hg, hu, if_neg]; intro q; first | exact absurd (hp12.symm.trans q.1) (by decide) | exact absurd q.2 (by assumption)⟩
  · intro _ τ hI
    obtain ⟨rfl, hg⟩ := hI
    have e7 := hR.1.1
    rw [show atN S p (8 - Sn S) (Sn S) = none from atN_out hO _ _ (Nat.le_refl _)] at hg
    refine AW.run 3 [] (7, [(0, .inr (.inr (5, 0, 0))), (1, .inl (nI p)), (2, .inl (nI (Sn S)))], [.inl (σ 5 0 0 7), .inl (nI (Sn S))], σ) [] rfl ?_ ?_
    · exact trivial
    rw [e7]
    refine AW.run 2 [true] (38, [(0, .inr (.inr (5, 0, 0))), (1, .inl (nI p)), (2, .inl (nI (Sn S)))], [.inl (-9)], σ) [icP .ge (nI (Sn S)) (nI (Sn S))] rfl ?_ ?_
    · exact allP1 (nI_le (Nat.le_refl _) (by omega))
    refine AW.reti ⟨_, rfl⟩ rfl ?_
    exact ⟨by rw [hg]; rfl, rfl⟩
set_option maxHeartbeats 4000000 in
set_option maxRecDepth 100000 in
theorem c6_bears (S : Sv) (σ : St) (hR : RepM (σ 5 0) S) (hO : SOK S) (k : Nat) (hk : k < Sn S) : Ct M6_bears 0 [.inr (.inr (5, 0, 0)), .inl (nI k)] σ (PI fun r9 σ' => nI (bearS S k) = r9 ∧ σ = σ') := by
  refine Ct.of f_6_bears (Nat.le_of_ble_eq_true rfl) ?_
  show AW M6_bears 0 _ (0, [(0, .inr (.inr (5, 0, 0))), (1, .inl (nI k))], [], σ)
  have hn8 : Sn S ≤ 8 := hO.1
  have hk8 : k < 8 := by omega
  have hf9 := (hO.2.1 k).2.1
  have hk5 := (hO.2.1 k).1
  have ef : σ 5 0 3 (nI k).toNatClampNeg = nI (Sf S k) := by rw [cl8 hk8]; exact (hR.2 k hk).2.1
  have ek : σ 5 0 2 (nI k).toNatClampNeg = nI (Sk S k) := by rw [cl8 hk8]; exact (hR.2 k hk).1
  rcases (show Sk S k = 0 ∨ Sk S k = 1 ∨ Sk S k = 2 ∨ Sk S k = 3 ∨ Sk S k = 4 ∨ Sk S k = 5 by omega) with h0 | h0 | h0 | h0 | h0 | h0 <;> rw [h0] at ek
  · skip
    refine AW.run 6 [] (9, [(0, .inr (.inr (5, 0, 0))), (1, .inl (nI k))], [.inl (σ 5 0 3 (nI k).toNatClampNeg), .inl 10, .inl 2], σ) [vp_in (nI k) 8] rfl ?_ ?_
    · exact allP1 (by first | exact in8 hk8 | decide)
    rw [ef]
    refine AW.run 7 [] (18, [(2, .inl (2 * (10 + (nI (Sf S k))))), (0, .inr (.inr (5, 0, 0))), (1, .inl (nI k))], [.inl (σ 5 0 2 (nI k).toNatClampNeg)], σ) [vp_in (nI k) 8] rfl ?_ ?_
    · exact allP1 (by first | exact in8 hk8 | decide)
    rw [ek]
    refine AW.tswOut (tgt := 72) ⟨_, rfl⟩ (by decide) (by decide) ?_
    refine AW.run 5 [] (80, [(2, .inl (2 * (10 + (nI (Sf S k))))), (0, .inr (.inr (5, 0, 0))), (1, .inl (nI k))], [.inl (σ 5 0 3 (nI k).toNatClampNeg), .inl 10], σ) [vp_in (nI k) 8] rfl ?_ ?_
    · exact allP1 (by first | exact in8 hk8 | decide)
    rw [ef]
    refine AW.run 1 [] (81, [(2, .inl (2 * (10 + (nI (Sf S k))))), (0, .inr (.inr (5, 0, 0))), (1, .inl (nI k))], [.inl (10 + (nI (Sf S k)))], σ) [] rfl ?_ ?_
    · exact trivial
    refine AW.reti ⟨_, rfl⟩ rfl ?_
    refine ⟨?_, rfl⟩
    unfold bearS
    rw [h0]
    have h : ∀ f < 10, nI (bearN 0 f) = 10 + (nI (f)) := by decide +kernel
    exact h _ (by omega)
  · skip
    refine AW.run 6 [] (9, [(0, .inr (.inr (5, 0, 0))), (1, .inl (nI k))], [.inl (σ 5 0 3 (nI k).toNatClampNeg), .inl 10, .inl 2], σ) [vp_in (nI k) 8] rfl ?_ ?_
    · exact allP1 (by first | exact in8 hk8 | decide)
    rw [ef]
    refine AW.run 7 [] (18, [(2, .inl (2 * (10 + (nI (Sf S k))))), (0, .inr (.inr (5, 0, 0))), (1, .inl (nI k))], [.inl (σ 5 0 2 (nI k).toNatClampNeg)], σ) [vp_in (nI k) 8] rfl ?_ ?_
    · exact allP1 (by first | exact in8 hk8 | decide)
    rw [ek]
    refine AW.tswIn (k := 0) (tgt := 52) ⟨_, rfl⟩ (by decide) (by decide) rfl (by decide) ?_
    refine AW.run 1 [] (53, [(2, .inl (2 * (10 + (nI (Sf S k))))), (0, .inr (.inr (5, 0, 0))), (1, .inl (nI k))], [.inl (2 * (10 + (nI (Sf S k))))], σ) [] rfl ?_ ?_
    · exact trivial
    refine AW.reti ⟨_, rfl⟩ rfl ?_
    refine ⟨?_, rfl⟩
    unfold bearS
    rw [h0]
    have h : ∀ f < 10, nI (bearN 1 f) = 2 * (10 + (nI (f))) := by decide +kernel
    exact h _ (by omega)
  · skip
    refine AW.run 6 [] (9, [(0, .inr (.inr (5, 0, 0))), (1, .inl (nI k))], [.inl (σ 5 0 3 (nI k).toNatClampNeg), .inl 10, .inl 2], σ) [vp_in (nI k) 8] rfl ?_ ?_
    · exact allP1 (by first | exact in8 hk8 | decide)
    rw [ef]
    refine AW.run 7 [] (18, [(2, .inl (2 * (10 + (nI (Sf S k))))), (0, .inr (.inr (5, 0, 0))), (1, .inl (nI k))], [.inl (σ 5 0 2 (nI k).toNatClampNeg)], σ) [vp_in (nI k) 8] rfl ?_ ?_
    · exact allP1 (by first | exact in8 hk8 | decide)
    rw [ek]
    refine AW.tswIn (k := 1) (tgt := 54) ⟨_, rfl⟩ (by decide) (by decide) rfl (by decide) ?_
    refine AW.run 1 [] (56, [(2, .inl (2 * (10 + (nI (Sf S k))))), (0, .inr (.inr (5, 0, 0))), (1, .inl (nI k))], [.inl 99], σ) [] rfl ?_ ?_
    · exact trivial
    refine AW.reti ⟨_, rfl⟩ rfl ?_
    refine ⟨?_, rfl⟩
    unfold bearS
    rw [h0]
    have h : ∀ f < 10, nI (bearN 2 f) = 99 := by decide +kernel
    exact h _ (by omega)
  · skip
    refine AW.run 6 [] (9, [(0, .inr (.inr (5, 0, 0))), (1, .inl (nI k))], [.inl (σ 5 0 3 (nI k).toNatClampNeg), .inl 10, .inl 2], σ) [vp_in (nI k) 8] rfl ?_ ?_
    · exact allP1 (by first | exact in8 hk8 | decide)
    rw [ef]
    refine AW.run 7 [] (18, [(2, .inl (2 * (10 + (nI (Sf S k))))), (0, .inr (.inr (5, 0, 0))), (1, .inl (nI k))], [.inl (σ 5 0 2 (nI k).toNatClampNeg)], σ) [vp_in (nI k) 8] rfl ?_ ?_
    · exact allP1 (by first | exact in8 hk8 | decide)
    rw [ek]
    refine AW.tswIn (k := 2) (tgt := 57) ⟨_, rfl⟩ (by decide) (by decide) rfl (by decide) ?_
    refine AW.run 3 [] (60, [(2, .inl (2 * (10 + (nI (Sf S k))))), (0, .inr (.inr (5, 0, 0))), (1, .inl (nI k))], [.inl ((2 * (10 + (nI (Sf S k)))) - 5)], σ) [] rfl ?_ ?_
    · exact trivial
    refine AW.reti ⟨_, rfl⟩ rfl ?_
    refine ⟨?_, rfl⟩
    unfold bearS
    rw [h0]
    have h : ∀ f < 10, nI (bearN 3 f) = (2 * (10 + (nI (f)))) - 5 := by decide +kernel
    exact h _ (by omega)
  · skip
    refine AW.run 6 [] (9, [(0, .inr (.inr (5, 0, 0))), (1, .inl (nI k))], [.inl (σ 5 0 3 (nI k).toNatClampNeg), .inl 10, .inl 2], σ) [vp_in (nI k) 8] rfl ?_ ?_
    · exact allP1 (by first | exact in8 hk8 | decide)
    rw [ef]
    refine AW.run 7 [] (18, [(2, .inl (2 * (10 + (nI (Sf S k))))), (0, .inr (.inr (5, 0, 0))), (1, .inl (nI k))], [.inl (σ 5 0 2 (nI k).toNatClampNeg)], σ) [vp_in (nI k) 8] rfl ?_ ?_
    · exact allP1 (by first | exact in8 hk8 | decide)
    rw [ek]
    refine AW.tswIn (k := 3) (tgt := 54) ⟨_, rfl⟩ (by decide) (by decide) rfl (by decide) ?_
    refine AW.run 1 [] (56, [(2, .inl (2 * (10 + (nI (Sf S k))))), (0, .inr (.inr (5, 0, 0))), (1, .inl (nI k))], [.inl 99], σ) [] rfl ?_ ?_
    · exact trivial
    refine AW.reti ⟨_, rfl⟩ rfl ?_
    refine ⟨?_, rfl⟩
    unfold bearS
    rw [h0]
    have h : ∀ f < 10, nI (bearN 4 f) = 99 := by decide +kernel
    exact h _ (by omega)
  · skip
    refine AW.run 6 [] (9, [(0, .inr (.inr (5, 0, 0))), (1, .inl (nI k))], [.inl (σ 5 0 3 (nI k).toNatClampNeg), .inl 10, .inl 2], σ) [vp_in (nI k) 8] rfl ?_ ?_
    · exact allP1 (by first | exact in8 hk8 | decide)
    rw [ef]
    refine AW.run 7 [] (18, [(2, .inl (2 * (10 + (nI (Sf S k))))), (0, .inr (.inr (5, 0, 0))), (1, .inl (nI k))], [.inl (σ 5 0 2 (nI k).toNatClampNeg)], σ) [vp_in (nI k) 8] rfl ?_ ?_
    · exact allP1 (by first | exact in8 hk8 | decide)
    rw [ek]
    refine AW.tswIn (k := 4) (tgt := 61) ⟨_, rfl⟩ (by decide) (by decide) rfl (by decide) ?_
    refine AW.run 7 [] (70, [(2, .inl (2 * (10 + (nI (Sf S k))))), (0, .inr (.inr (5, 0, 0))), (1, .inl (nI k))], [.inl (σ 5 0 3 (nI k).toNatClampNeg), .inl ((2 * (10 + (nI (Sf S k)))) - 5)], σ) [vp_in (nI k) 8] rfl ?_ ?_
    · exact allP1 (by first | exact in8 hk8 | decide)
    rw [ef]
    refine AW.run 1 [] (71, [(2, .inl (2 * (10 + (nI (Sf S k))))), (0, .inr (.inr (5, 0, 0))), (1, .inl (nI k))], [.inl (((2 * (10 + (nI (Sf S k)))) - 5) + (nI (Sf S k)))], σ) [] rfl ?_ ?_
    · exact trivial
    refine AW.reti ⟨_, rfl⟩ rfl ?_
    refine ⟨?_, rfl⟩
    unfold bearS
    rw [h0]
    have h : ∀ f < 10, nI (bearN 5 f) = ((2 * (10 + (nI (f)))) - 5) + (nI (f)) := by decide +kernel
    exact h _ (by omega)
set_option maxHeartbeats 4000000 in
set_option maxRecDepth 100000 in
theorem c6_shocks (S : Sv) (σ : St) (hR : RepM (σ 5 0) S) (hO : SOK S) (k : Nat) (hk : k < Sn S) : Ct M6_shocks 0 [.inr (.inr (5, 0, 0)), .inl (nI k)] σ (PI fun r9 σ' => nI (shockS S k) = r9 ∧ σ = σ') := by
  refine Ct.of f_6_shocks (Nat.le_of_ble_eq_true rfl) ?_
  show AW M6_shocks 0 _ (0, [(0, .inr (.inr (5, 0, 0))), (1, .inl (nI k))], [], σ)
  have hn8 : Sn S ≤ 8 := hO.1
  have hk8 : k < 8 := by omega
  have hf9 := (hO.2.1 k).2.1
  have hk5 := (hO.2.1 k).1
  have ef : σ 5 0 3 (nI k).toNatClampNeg = nI (Sf S k) := by rw [cl8 hk8]; exact (hR.2 k hk).2.1
  have ek : σ 5 0 2 (nI k).toNatClampNeg = nI (Sk S k) := by rw [cl8 hk8]; exact (hR.2 k hk).1
  rcases (show Sk S k = 0 ∨ Sk S k = 1 ∨ Sk S k = 2 ∨ Sk S k = 3 ∨ Sk S k = 4 ∨ Sk S k = 5 by omega) with h0 | h0 | h0 | h0 | h0 | h0 <;> rw [h0] at ek
  · skip
    refine AW.run 4 [] (6, [(0, .inr (.inr (5, 0, 0))), (1, .inl (nI k))], [.inl (σ 5 0 2 (nI k).toNatClampNeg)], σ) [vp_in (nI k) 8] rfl ?_ ?_
    · exact allP1 (by first | exact in8 hk8 | decide)
    rw [ek]
    refine AW.tswOut (tgt := 55) ⟨_, rfl⟩ (by decide) (by decide) ?_
    refine AW.run 1 [] (57, [(0, .inr (.inr (5, 0, 0))), (1, .inl (nI k))], [.inl 6], σ) [] rfl ?_ ?_
    · exact trivial
    refine AW.reti ⟨_, rfl⟩ rfl ?_
    refine ⟨?_, rfl⟩
    unfold shockS
    rw [h0]
    have h : ∀ f < 10, nI (shockN 0 f) = 6 := by decide +kernel
    exact h _ (by omega)
  · skip
    refine AW.run 4 [] (6, [(0, .inr (.inr (5, 0, 0))), (1, .inl (nI k))], [.inl (σ 5 0 2 (nI k).toNatClampNeg)], σ) [vp_in (nI k) 8] rfl ?_ ?_
    · exact allP1 (by first | exact in8 hk8 | decide)
    rw [ek]
    refine AW.tswIn (k := 0) (tgt := 40) ⟨_, rfl⟩ (by decide) (by decide) rfl (by decide) ?_
    refine AW.run 1 [] (42, [(0, .inr (.inr (5, 0, 0))), (1, .inl (nI k))], [.inl 10], σ) [] rfl ?_ ?_
    · exact trivial
    refine AW.reti ⟨_, rfl⟩ rfl ?_
    refine ⟨?_, rfl⟩
    unfold shockS
    rw [h0]
    have h : ∀ f < 10, nI (shockN 1 f) = 10 := by decide +kernel
    exact h _ (by omega)
  · skip
    refine AW.run 4 [] (6, [(0, .inr (.inr (5, 0, 0))), (1, .inl (nI k))], [.inl (σ 5 0 2 (nI k).toNatClampNeg)], σ) [vp_in (nI k) 8] rfl ?_ ?_
    · exact allP1 (by first | exact in8 hk8 | decide)
    rw [ek]
    refine AW.tswIn (k := 1) (tgt := 43) ⟨_, rfl⟩ (by decide) (by decide) rfl (by decide) ?_
    refine AW.run 1 [] (44, [(0, .inr (.inr (5, 0, 0))), (1, .inl (nI k))], [.inl 0], σ) [] rfl ?_ ?_
    · exact trivial
    refine AW.reti ⟨_, rfl⟩ rfl ?_
    refine ⟨?_, rfl⟩
    unfold shockS
    rw [h0]
    have h : ∀ f < 10, nI (shockN 2 f) = 0 := by decide +kernel
    exact h _ (by omega)
  · skip
    refine AW.run 4 [] (6, [(0, .inr (.inr (5, 0, 0))), (1, .inl (nI k))], [.inl (σ 5 0 2 (nI k).toNatClampNeg)], σ) [vp_in (nI k) 8] rfl ?_ ?_
    · exact allP1 (by first | exact in8 hk8 | decide)
    rw [ek]
    refine AW.tswIn (k := 2) (tgt := 52) ⟨_, rfl⟩ (by decide) (by decide) rfl (by decide) ?_
    refine AW.run 1 [] (54, [(0, .inr (.inr (5, 0, 0))), (1, .inl (nI k))], [.inl 20], σ) [] rfl ?_ ?_
    · exact trivial
    refine AW.reti ⟨_, rfl⟩ rfl ?_
    refine ⟨?_, rfl⟩
    unfold shockS
    rw [h0]
    have h : ∀ f < 10, nI (shockN 3 f) = 20 := by decide +kernel
    exact h _ (by omega)
  · skip
    refine AW.run 4 [] (6, [(0, .inr (.inr (5, 0, 0))), (1, .inl (nI k))], [.inl (σ 5 0 2 (nI k).toNatClampNeg)], σ) [vp_in (nI k) 8] rfl ?_ ?_
    · exact allP1 (by first | exact in8 hk8 | decide)
    rw [ek]
    refine AW.tswIn (k := 3) (tgt := 45) ⟨_, rfl⟩ (by decide) (by decide) rfl (by decide) ?_
    refine AW.run 4 [] (51, [(0, .inr (.inr (5, 0, 0))), (1, .inl (nI k))], [.inl (σ 5 0 3 (nI k).toNatClampNeg)], σ) [vp_in (nI k) 8] rfl ?_ ?_
    · exact allP1 (by first | exact in8 hk8 | decide)
    rw [ef]
    refine AW.reti ⟨_, rfl⟩ rfl ?_
    refine ⟨?_, rfl⟩
    unfold shockS
    rw [h0]
    have h : ∀ f < 10, nI (shockN 4 f) = nI (f) := by decide +kernel
    exact h _ (by omega)
  · skip
    refine AW.run 4 [] (6, [(0, .inr (.inr (5, 0, 0))), (1, .inl (nI k))], [.inl (σ 5 0 2 (nI k).toNatClampNeg)], σ) [vp_in (nI k) 8] rfl ?_ ?_
    · exact allP1 (by first | exact in8 hk8 | decide)
    rw [ek]
    refine AW.tswIn (k := 4) (tgt := 52) ⟨_, rfl⟩ (by decide) (by decide) rfl (by decide) ?_
    refine AW.run 1 [] (54, [(0, .inr (.inr (5, 0, 0))), (1, .inl (nI k))], [.inl 20], σ) [] rfl ?_ ?_
    · exact trivial
    refine AW.reti ⟨_, rfl⟩ rfl ?_
    refine ⟨?_, rfl⟩
    unfold shockS
    rw [h0]
    have h : ∀ f < 10, nI (shockN 5 f) = 20 := by decide +kernel
    exact h _ (by omega)
theorem nI_sb {b : Nat} (h : 0 < b) : nI b - 1 = nI (b - 1) := by
  obtain ⟨k, rfl⟩ : ∃ k, b = k + 1 := ⟨b - 1, by omega⟩
  rw [nI_pred]; rfl
set_option maxHeartbeats 4000000 in
set_option maxRecDepth 100000 in
theorem c6_rises (S : Sv) (σ : St) (hR : RepM (σ 5 0) S) (hO : SOK S) (k : Nat) (hk : k < Sn S) : Ct M6_rises 0 [.inr (.inr (5, 0, 0)), .inl (nI k)] σ (PI fun r9 σ' => nI (riseS S k) = r9 ∧ σ = σ') := by
  refine Ct.of f_6_rises (Nat.le_of_ble_eq_true rfl) ?_
  show AW M6_rises 0 _ (0, [(0, .inr (.inr (5, 0, 0))), (1, .inl (nI k))], [], σ)
  have hn8 : Sn S ≤ 8 := hO.1
  have hk8 : k < 8 := by omega
  have hf9 := (hO.2.1 k).2.1
  have hk5 := (hO.2.1 k).1
  have ef : σ 5 0 3 (nI k).toNatClampNeg = nI (Sf S k) := by rw [cl8 hk8]; exact (hR.2 k hk).2.1
  have ek : σ 5 0 2 (nI k).toNatClampNeg = nI (Sk S k) := by rw [cl8 hk8]; exact (hR.2 k hk).1
  rcases (show Sk S k = 0 ∨ Sk S k = 1 ∨ Sk S k = 2 ∨ Sk S k = 3 ∨ Sk S k = 4 ∨ Sk S k = 5 by omega) with h0 | h0 | h0 | h0 | h0 | h0 <;> rw [h0] at ek
  · have hu9 := hO.2.2.2.1
    have hh9 := hO.2.2.2.2
    have hb := rise_b (fg := 0) hu9 hh9
    by_cases hB : Su S + She S / 2 = 0
    · rw [hB] at hb
      have hs0 : Su S = 0 := by omega
      skip
      refine AW.run 2 [] (4, [(0, .inr (.inr (5, 0, 0))), (1, .inl (nI k))], [.inl (σ 5 0 0 8)], σ) [] rfl ?_ ?_
      · exact trivial
      rw [hR.1.2.1]
      refine AW.run 2 [] (8, [(0, .inr (.inr (5, 0, 0))), (1, .inl (nI k))], [.inl (σ 5 0 0 9), .inl (nI (Su S))], σ) [] rfl ?_ ?_
      · exact trivial
      rw [hR.1.2.2.1]
      refine AW.run 3 [] (11, [(0, .inr (.inr (5, 0, 0))), (1, .inl (nI k))], [.inl ((nI (Su S)) + ((nI (She S)) / 2))], σ) [¬ (2 : Int32) = 0] rfl ?_ ?_
      · exact allP1 (by decide)
      rw [hb]
      refine AW.run 10 [true] (31, [(3, .inl 0), (2, .inl (nI 0)), (0, .inr (.inr (5, 0, 0))), (1, .inl (nI k))], [.inl (σ 5 0 3 (nI k).toNatClampNeg), .inl 0], σ) [icP .le (nI 0) 0, vp_in (nI k) 8] rfl ?_ ?_
      · exact ⟨((by decide : nI 0 ≤ (0 : Int32))), allP1 (by first | exact in8 hk8 | decide)⟩
      rw [ef]
      refine AW.run 8 [] (42, [(4, .inl (0 + ((nI (Sf S k)) / 3))), (3, .inl 0), (2, .inl (nI 0)), (0, .inr (.inr (5, 0, 0))), (1, .inl (nI k))], [.inl (σ 5 0 2 (nI k).toNatClampNeg)], σ) [¬ (3 : Int32) = 0, vp_in (nI k) 8] rfl ?_ ?_
      · exact ⟨(by decide), allP1 (by first | exact in8 hk8 | decide)⟩
      rw [ek]
      refine AW.tswOut (tgt := 101) ⟨_, rfl⟩ (by decide) (by decide) ?_
      refine AW.run 1 [] (102, [(4, .inl (0 + ((nI (Sf S k)) / 3))), (3, .inl 0), (2, .inl (nI 0)), (0, .inr (.inr (5, 0, 0))), (1, .inl (nI k))], [.inl (nI 0)], σ) [] rfl ?_ ?_
      · exact trivial
      refine AW.reti ⟨_, rfl⟩ rfl ?_
      refine ⟨?_, rfl⟩
      rw [show riseS S k = Su S + She S / 2 from by unfold riseS; rw [h0]; rfl]
      rw [hB]
    · have hBp : 0 < Su S + She S / 2 := by omega
      skip
      refine AW.run 2 [] (4, [(0, .inr (.inr (5, 0, 0))), (1, .inl (nI k))], [.inl (σ 5 0 0 8)], σ) [] rfl ?_ ?_
      · exact trivial
      rw [hR.1.2.1]
      refine AW.run 2 [] (8, [(0, .inr (.inr (5, 0, 0))), (1, .inl (nI k))], [.inl (σ 5 0 0 9), .inl (nI (Su S))], σ) [] rfl ?_ ?_
      · exact trivial
      rw [hR.1.2.2.1]
      refine AW.run 3 [] (11, [(0, .inr (.inr (5, 0, 0))), (1, .inl (nI k))], [.inl ((nI (Su S)) + ((nI (She S)) / 2))], σ) [¬ (2 : Int32) = 0] rfl ?_ ?_
      · exact allP1 (by decide)
      rw [hb]
      refine AW.run 6 [false] (19, [(2, .inl (nI (Su S + She S / 2))), (0, .inr (.inr (5, 0, 0))), (1, .inl (nI k))], [.inl ((nI (Su S + She S / 2)) - 1)], σ) [¬ icP .le (nI (Su S + She S / 2)) 0] rfl ?_ ?_
      · exact allP1 (nI_nle hBp (by omega))
      rw [nI_sb hBp]
      refine AW.run 7 [] (31, [(3, .inl (nI (Su S + She S / 2 - 1))), (2, .inl (nI (Su S + She S / 2))), (0, .inr (.inr (5, 0, 0))), (1, .inl (nI k))], [.inl (σ 5 0 3 (nI k).toNatClampNeg), .inl (nI (Su S + She S / 2 - 1))], σ) [vp_in (nI k) 8] rfl ?_ ?_
      · exact allP1 (by first | exact in8 hk8 | decide)
      rw [ef]
      refine AW.run 8 [] (42, [(4, .inl ((nI (Su S + She S / 2 - 1)) + ((nI (Sf S k)) / 3))), (3, .inl (nI (Su S + She S / 2 - 1))), (2, .inl (nI (Su S + She S / 2))), (0, .inr (.inr (5, 0, 0))), (1, .inl (nI k))], [.inl (σ 5 0 2 (nI k).toNatClampNeg)], σ) [¬ (3 : Int32) = 0, vp_in (nI k) 8] rfl ?_ ?_
      · exact ⟨(by decide), allP1 (by first | exact in8 hk8 | decide)⟩
      rw [ek]
      refine AW.tswOut (tgt := 101) ⟨_, rfl⟩ (by decide) (by decide) ?_
      refine AW.run 1 [] (102, [(4, .inl ((nI (Su S + She S / 2 - 1)) + ((nI (Sf S k)) / 3))), (3, .inl (nI (Su S + She S / 2 - 1))), (2, .inl (nI (Su S + She S / 2))), (0, .inr (.inr (5, 0, 0))), (1, .inl (nI k))], [.inl (nI (Su S + She S / 2))], σ) [] rfl ?_ ?_
      · exact trivial
      refine AW.reti ⟨_, rfl⟩ rfl ?_
      refine ⟨?_, rfl⟩
      rw [show riseS S k = Su S + She S / 2 from by unfold riseS; rw [h0]; rfl]
  · have hu9 := hO.2.2.2.1
    have hh9 := hO.2.2.2.2
    have hb := rise_b (fg := 0) hu9 hh9
    by_cases hB : Su S + She S / 2 = 0
    · rw [hB] at hb
      have hs0 : Su S = 0 := by omega
      skip
      refine AW.run 2 [] (4, [(0, .inr (.inr (5, 0, 0))), (1, .inl (nI k))], [.inl (σ 5 0 0 8)], σ) [] rfl ?_ ?_
      · exact trivial
      rw [hR.1.2.1]
      refine AW.run 2 [] (8, [(0, .inr (.inr (5, 0, 0))), (1, .inl (nI k))], [.inl (σ 5 0 0 9), .inl (nI (Su S))], σ) [] rfl ?_ ?_
      · exact trivial
      rw [hR.1.2.2.1]
      refine AW.run 3 [] (11, [(0, .inr (.inr (5, 0, 0))), (1, .inl (nI k))], [.inl ((nI (Su S)) + ((nI (She S)) / 2))], σ) [¬ (2 : Int32) = 0] rfl ?_ ?_
      · exact allP1 (by decide)
      rw [hb]
      refine AW.run 10 [true] (31, [(3, .inl 0), (2, .inl (nI 0)), (0, .inr (.inr (5, 0, 0))), (1, .inl (nI k))], [.inl (σ 5 0 3 (nI k).toNatClampNeg), .inl 0], σ) [icP .le (nI 0) 0, vp_in (nI k) 8] rfl ?_ ?_
      · exact ⟨((by decide : nI 0 ≤ (0 : Int32))), allP1 (by first | exact in8 hk8 | decide)⟩
      rw [ef]
      refine AW.run 8 [] (42, [(4, .inl (0 + ((nI (Sf S k)) / 3))), (3, .inl 0), (2, .inl (nI 0)), (0, .inr (.inr (5, 0, 0))), (1, .inl (nI k))], [.inl (σ 5 0 2 (nI k).toNatClampNeg)], σ) [¬ (3 : Int32) = 0, vp_in (nI k) 8] rfl ?_ ?_
      · exact ⟨(by decide), allP1 (by first | exact in8 hk8 | decide)⟩
      rw [ek]
      refine AW.tswIn (k := 0) (tgt := 76) ⟨_, rfl⟩ (by decide) (by decide) rfl (by decide) ?_
      refine AW.run 1 [] (77, [(4, .inl (0 + ((nI (Sf S k)) / 3))), (3, .inl 0), (2, .inl (nI 0)), (0, .inr (.inr (5, 0, 0))), (1, .inl (nI k))], [.inl 0], σ) [] rfl ?_ ?_
      · exact trivial
      refine AW.reti ⟨_, rfl⟩ rfl ?_
      refine ⟨?_, rfl⟩
      rw [show riseS S k = Su S + She S / 2 - 1 from by unfold riseS; rw [h0]; rfl]
      rw [hB]
      have h : ∀ f < 10, nI (0 - 1) = 0 := by decide +kernel
      exact h (Sf S k) (by omega)
    · have hBp : 0 < Su S + She S / 2 := by omega
      skip
      refine AW.run 2 [] (4, [(0, .inr (.inr (5, 0, 0))), (1, .inl (nI k))], [.inl (σ 5 0 0 8)], σ) [] rfl ?_ ?_
      · exact trivial
      rw [hR.1.2.1]
      refine AW.run 2 [] (8, [(0, .inr (.inr (5, 0, 0))), (1, .inl (nI k))], [.inl (σ 5 0 0 9), .inl (nI (Su S))], σ) [] rfl ?_ ?_
      · exact trivial
      rw [hR.1.2.2.1]
      refine AW.run 3 [] (11, [(0, .inr (.inr (5, 0, 0))), (1, .inl (nI k))], [.inl ((nI (Su S)) + ((nI (She S)) / 2))], σ) [¬ (2 : Int32) = 0] rfl ?_ ?_
      · exact allP1 (by decide)
      rw [hb]
      refine AW.run 6 [false] (19, [(2, .inl (nI (Su S + She S / 2))), (0, .inr (.inr (5, 0, 0))), (1, .inl (nI k))], [.inl ((nI (Su S + She S / 2)) - 1)], σ) [¬ icP .le (nI (Su S + She S / 2)) 0] rfl ?_ ?_
      · exact allP1 (nI_nle hBp (by omega))
      rw [nI_sb hBp]
      refine AW.run 7 [] (31, [(3, .inl (nI (Su S + She S / 2 - 1))), (2, .inl (nI (Su S + She S / 2))), (0, .inr (.inr (5, 0, 0))), (1, .inl (nI k))], [.inl (σ 5 0 3 (nI k).toNatClampNeg), .inl (nI (Su S + She S / 2 - 1))], σ) [vp_in (nI k) 8] rfl ?_ ?_
      · exact allP1 (by first | exact in8 hk8 | decide)
      rw [ef]
      refine AW.run 8 [] (42, [(4, .inl ((nI (Su S + She S / 2 - 1)) + ((nI (Sf S k)) / 3))), (3, .inl (nI (Su S + She S / 2 - 1))), (2, .inl (nI (Su S + She S / 2))), (0, .inr (.inr (5, 0, 0))), (1, .inl (nI k))], [.inl (σ 5 0 2 (nI k).toNatClampNeg)], σ) [¬ (3 : Int32) = 0, vp_in (nI k) 8] rfl ?_ ?_
      · exact ⟨(by decide), allP1 (by first | exact in8 hk8 | decide)⟩
      rw [ek]
      refine AW.tswIn (k := 0) (tgt := 76) ⟨_, rfl⟩ (by decide) (by decide) rfl (by decide) ?_
      refine AW.run 1 [] (77, [(4, .inl ((nI (Su S + She S / 2 - 1)) + ((nI (Sf S k)) / 3))), (3, .inl (nI (Su S + She S / 2 - 1))), (2, .inl (nI (Su S + She S / 2))), (0, .inr (.inr (5, 0, 0))), (1, .inl (nI k))], [.inl (nI (Su S + She S / 2 - 1))], σ) [] rfl ?_ ?_
      · exact trivial
      refine AW.reti ⟨_, rfl⟩ rfl ?_
      refine ⟨?_, rfl⟩
      rw [show riseS S k = Su S + She S / 2 - 1 from by unfold riseS; rw [h0]; rfl]
  · have hu9 := hO.2.2.2.1
    have hh9 := hO.2.2.2.2
    have hb := rise_b (fg := 0) hu9 hh9
    by_cases hB : Su S + She S / 2 = 0
    · rw [hB] at hb
      have hs0 : Su S = 0 := by omega
      skip
      refine AW.run 2 [] (4, [(0, .inr (.inr (5, 0, 0))), (1, .inl (nI k))], [.inl (σ 5 0 0 8)], σ) [] rfl ?_ ?_
      · exact trivial
      rw [hR.1.2.1]
      refine AW.run 2 [] (8, [(0, .inr (.inr (5, 0, 0))), (1, .inl (nI k))], [.inl (σ 5 0 0 9), .inl (nI (Su S))], σ) [] rfl ?_ ?_
      · exact trivial
      rw [hR.1.2.2.1]
      refine AW.run 3 [] (11, [(0, .inr (.inr (5, 0, 0))), (1, .inl (nI k))], [.inl ((nI (Su S)) + ((nI (She S)) / 2))], σ) [¬ (2 : Int32) = 0] rfl ?_ ?_
      · exact allP1 (by decide)
      rw [hb]
      refine AW.run 10 [true] (31, [(3, .inl 0), (2, .inl (nI 0)), (0, .inr (.inr (5, 0, 0))), (1, .inl (nI k))], [.inl (σ 5 0 3 (nI k).toNatClampNeg), .inl 0], σ) [icP .le (nI 0) 0, vp_in (nI k) 8] rfl ?_ ?_
      · exact ⟨((by decide : nI 0 ≤ (0 : Int32))), allP1 (by first | exact in8 hk8 | decide)⟩
      rw [ef]
      refine AW.run 8 [] (42, [(4, .inl (0 + ((nI (Sf S k)) / 3))), (3, .inl 0), (2, .inl (nI 0)), (0, .inr (.inr (5, 0, 0))), (1, .inl (nI k))], [.inl (σ 5 0 2 (nI k).toNatClampNeg)], σ) [¬ (3 : Int32) = 0, vp_in (nI k) 8] rfl ?_ ?_
      · exact ⟨(by decide), allP1 (by first | exact in8 hk8 | decide)⟩
      rw [ek]
      refine AW.tswIn (k := 1) (tgt := 78) ⟨_, rfl⟩ (by decide) (by decide) rfl (by decide) ?_
      refine AW.run 1 [] (79, [(4, .inl (0 + ((nI (Sf S k)) / 3))), (3, .inl 0), (2, .inl (nI 0)), (0, .inr (.inr (5, 0, 0))), (1, .inl (nI k))], [.inl 0], σ) [] rfl ?_ ?_
      · exact trivial
      refine AW.reti ⟨_, rfl⟩ rfl ?_
      refine ⟨?_, rfl⟩
      rw [show riseS S k = 0 from by unfold riseS; rw [h0]; rfl]
      rfl
    · have hBp : 0 < Su S + She S / 2 := by omega
      skip
      refine AW.run 2 [] (4, [(0, .inr (.inr (5, 0, 0))), (1, .inl (nI k))], [.inl (σ 5 0 0 8)], σ) [] rfl ?_ ?_
      · exact trivial
      rw [hR.1.2.1]
      refine AW.run 2 [] (8, [(0, .inr (.inr (5, 0, 0))), (1, .inl (nI k))], [.inl (σ 5 0 0 9), .inl (nI (Su S))], σ) [] rfl ?_ ?_
      · exact trivial
      rw [hR.1.2.2.1]
      refine AW.run 3 [] (11, [(0, .inr (.inr (5, 0, 0))), (1, .inl (nI k))], [.inl ((nI (Su S)) + ((nI (She S)) / 2))], σ) [¬ (2 : Int32) = 0] rfl ?_ ?_
      · exact allP1 (by decide)
      rw [hb]
      refine AW.run 6 [false] (19, [(2, .inl (nI (Su S + She S / 2))), (0, .inr (.inr (5, 0, 0))), (1, .inl (nI k))], [.inl ((nI (Su S + She S / 2)) - 1)], σ) [¬ icP .le (nI (Su S + She S / 2)) 0] rfl ?_ ?_
      · exact allP1 (nI_nle hBp (by omega))
      rw [nI_sb hBp]
      refine AW.run 7 [] (31, [(3, .inl (nI (Su S + She S / 2 - 1))), (2, .inl (nI (Su S + She S / 2))), (0, .inr (.inr (5, 0, 0))), (1, .inl (nI k))], [.inl (σ 5 0 3 (nI k).toNatClampNeg), .inl (nI (Su S + She S / 2 - 1))], σ) [vp_in (nI k) 8] rfl ?_ ?_
      · exact allP1 (by first | exact in8 hk8 | decide)
      rw [ef]
      refine AW.run 8 [] (42, [(4, .inl ((nI (Su S + She S / 2 - 1)) + ((nI (Sf S k)) / 3))), (3, .inl (nI (Su S + She S / 2 - 1))), (2, .inl (nI (Su S + She S / 2))), (0, .inr (.inr (5, 0, 0))), (1, .inl (nI k))], [.inl (σ 5 0 2 (nI k).toNatClampNeg)], σ) [¬ (3 : Int32) = 0, vp_in (nI k) 8] rfl ?_ ?_
      · exact ⟨(by decide), allP1 (by first | exact in8 hk8 | decide)⟩
      rw [ek]
      refine AW.tswIn (k := 1) (tgt := 78) ⟨_, rfl⟩ (by decide) (by decide) rfl (by decide) ?_
      refine AW.run 1 [] (79, [(4, .inl ((nI (Su S + She S / 2 - 1)) + ((nI (Sf S k)) / 3))), (3, .inl (nI (Su S + She S / 2 - 1))), (2, .inl (nI (Su S + She S / 2))), (0, .inr (.inr (5, 0, 0))), (1, .inl (nI k))], [.inl 0], σ) [] rfl ?_ ?_
      · exact trivial
      refine AW.reti ⟨_, rfl⟩ rfl ?_
      refine ⟨?_, rfl⟩
      rw [show riseS S k = 0 from by unfold riseS; rw [h0]; rfl]
      rfl
  · have hu9 := hO.2.2.2.1
    have hh9 := hO.2.2.2.2
    have hb := rise_b (fg := 0) hu9 hh9
    by_cases hB : Su S + She S / 2 = 0
    · rw [hB] at hb
      have hs0 : Su S = 0 := by omega
      skip
      refine AW.run 2 [] (4, [(0, .inr (.inr (5, 0, 0))), (1, .inl (nI k))], [.inl (σ 5 0 0 8)], σ) [] rfl ?_ ?_
      · exact trivial
      rw [hR.1.2.1]
      refine AW.run 2 [] (8, [(0, .inr (.inr (5, 0, 0))), (1, .inl (nI k))], [.inl (σ 5 0 0 9), .inl (nI (Su S))], σ) [] rfl ?_ ?_
      · exact trivial
      rw [hR.1.2.2.1]
      refine AW.run 3 [] (11, [(0, .inr (.inr (5, 0, 0))), (1, .inl (nI k))], [.inl ((nI (Su S)) + ((nI (She S)) / 2))], σ) [¬ (2 : Int32) = 0] rfl ?_ ?_
      · exact allP1 (by decide)
      rw [hb]
      refine AW.run 10 [true] (31, [(3, .inl 0), (2, .inl (nI 0)), (0, .inr (.inr (5, 0, 0))), (1, .inl (nI k))], [.inl (σ 5 0 3 (nI k).toNatClampNeg), .inl 0], σ) [icP .le (nI 0) 0, vp_in (nI k) 8] rfl ?_ ?_
      · exact ⟨((by decide : nI 0 ≤ (0 : Int32))), allP1 (by first | exact in8 hk8 | decide)⟩
      rw [ef]
      refine AW.run 8 [] (42, [(4, .inl (0 + ((nI (Sf S k)) / 3))), (3, .inl 0), (2, .inl (nI 0)), (0, .inr (.inr (5, 0, 0))), (1, .inl (nI k))], [.inl (σ 5 0 2 (nI k).toNatClampNeg)], σ) [¬ (3 : Int32) = 0, vp_in (nI k) 8] rfl ?_ ?_
      · exact ⟨(by decide), allP1 (by first | exact in8 hk8 | decide)⟩
      rw [ek]
      refine AW.tswIn (k := 2) (tgt := 80) ⟨_, rfl⟩ (by decide) (by decide) rfl (by decide) ?_
      refine AW.run 1 [] (82, [(4, .inl (0 + ((nI (Sf S k)) / 3))), (3, .inl 0), (2, .inl (nI 0)), (0, .inr (.inr (5, 0, 0))), (1, .inl (nI k))], [.inl (0 + ((nI (Sf S k)) / 3))], σ) [] rfl ?_ ?_
      · exact trivial
      refine AW.reti ⟨_, rfl⟩ rfl ?_
      refine ⟨?_, rfl⟩
      rw [show riseS S k = Su S + She S / 2 - 1 + Sf S k / 3 from by unfold riseS; rw [h0]; rfl]
      rw [hB]
      have h : ∀ f < 10, nI (0 - 1 + f / 3) = 0 + ((nI (f)) / 3) := by decide +kernel
      exact h (Sf S k) (by omega)
    · have hBp : 0 < Su S + She S / 2 := by omega
      skip
      refine AW.run 2 [] (4, [(0, .inr (.inr (5, 0, 0))), (1, .inl (nI k))], [.inl (σ 5 0 0 8)], σ) [] rfl ?_ ?_
      · exact trivial
      rw [hR.1.2.1]
      refine AW.run 2 [] (8, [(0, .inr (.inr (5, 0, 0))), (1, .inl (nI k))], [.inl (σ 5 0 0 9), .inl (nI (Su S))], σ) [] rfl ?_ ?_
      · exact trivial
      rw [hR.1.2.2.1]
      refine AW.run 3 [] (11, [(0, .inr (.inr (5, 0, 0))), (1, .inl (nI k))], [.inl ((nI (Su S)) + ((nI (She S)) / 2))], σ) [¬ (2 : Int32) = 0] rfl ?_ ?_
      · exact allP1 (by decide)
      rw [hb]
      refine AW.run 6 [false] (19, [(2, .inl (nI (Su S + She S / 2))), (0, .inr (.inr (5, 0, 0))), (1, .inl (nI k))], [.inl ((nI (Su S + She S / 2)) - 1)], σ) [¬ icP .le (nI (Su S + She S / 2)) 0] rfl ?_ ?_
      · exact allP1 (nI_nle hBp (by omega))
      rw [nI_sb hBp]
      refine AW.run 7 [] (31, [(3, .inl (nI (Su S + She S / 2 - 1))), (2, .inl (nI (Su S + She S / 2))), (0, .inr (.inr (5, 0, 0))), (1, .inl (nI k))], [.inl (σ 5 0 3 (nI k).toNatClampNeg), .inl (nI (Su S + She S / 2 - 1))], σ) [vp_in (nI k) 8] rfl ?_ ?_
      · exact allP1 (by first | exact in8 hk8 | decide)
      rw [ef]
      refine AW.run 8 [] (42, [(4, .inl ((nI (Su S + She S / 2 - 1)) + ((nI (Sf S k)) / 3))), (3, .inl (nI (Su S + She S / 2 - 1))), (2, .inl (nI (Su S + She S / 2))), (0, .inr (.inr (5, 0, 0))), (1, .inl (nI k))], [.inl (σ 5 0 2 (nI k).toNatClampNeg)], σ) [¬ (3 : Int32) = 0, vp_in (nI k) 8] rfl ?_ ?_
      · exact ⟨(by decide), allP1 (by first | exact in8 hk8 | decide)⟩
      rw [ek]
      refine AW.tswIn (k := 2) (tgt := 80) ⟨_, rfl⟩ (by decide) (by decide) rfl (by decide) ?_
      refine AW.run 1 [] (82, [(4, .inl ((nI (Su S + She S / 2 - 1)) + ((nI (Sf S k)) / 3))), (3, .inl (nI (Su S + She S / 2 - 1))), (2, .inl (nI (Su S + She S / 2))), (0, .inr (.inr (5, 0, 0))), (1, .inl (nI k))], [.inl ((nI (Su S + She S / 2 - 1)) + ((nI (Sf S k)) / 3))], σ) [] rfl ?_ ?_
      · exact trivial
      refine AW.reti ⟨_, rfl⟩ rfl ?_
      refine ⟨?_, rfl⟩
      rw [show riseS S k = Su S + She S / 2 - 1 + Sf S k / 3 from by unfold riseS; rw [h0]; rfl]
      have h : ∀ b < 14, ∀ f < 10, nI (b - 1 + f / 3) = (nI (b - 1)) + ((nI (f)) / 3) := by decide +kernel
      exact h _ (by omega) (Sf S k) (by omega)
  · have hu9 := hO.2.2.2.1
    have hh9 := hO.2.2.2.2
    have hb := rise_b (fg := 0) hu9 hh9
    by_cases hB : Su S + She S / 2 = 0
    · rw [hB] at hb
      have hs0 : Su S = 0 := by omega
      skip
      refine AW.run 2 [] (4, [(0, .inr (.inr (5, 0, 0))), (1, .inl (nI k))], [.inl (σ 5 0 0 8)], σ) [] rfl ?_ ?_
      · exact trivial
      rw [hR.1.2.1]
      refine AW.run 2 [] (8, [(0, .inr (.inr (5, 0, 0))), (1, .inl (nI k))], [.inl (σ 5 0 0 9), .inl (nI (Su S))], σ) [] rfl ?_ ?_
      · exact trivial
      rw [hR.1.2.2.1]
      refine AW.run 3 [] (11, [(0, .inr (.inr (5, 0, 0))), (1, .inl (nI k))], [.inl ((nI (Su S)) + ((nI (She S)) / 2))], σ) [¬ (2 : Int32) = 0] rfl ?_ ?_
      · exact allP1 (by decide)
      rw [hb]
      refine AW.run 10 [true] (31, [(3, .inl 0), (2, .inl (nI 0)), (0, .inr (.inr (5, 0, 0))), (1, .inl (nI k))], [.inl (σ 5 0 3 (nI k).toNatClampNeg), .inl 0], σ) [icP .le (nI 0) 0, vp_in (nI k) 8] rfl ?_ ?_
      · exact ⟨((by decide : nI 0 ≤ (0 : Int32))), allP1 (by first | exact in8 hk8 | decide)⟩
      rw [ef]
      refine AW.run 8 [] (42, [(4, .inl (0 + ((nI (Sf S k)) / 3))), (3, .inl 0), (2, .inl (nI 0)), (0, .inr (.inr (5, 0, 0))), (1, .inl (nI k))], [.inl (σ 5 0 2 (nI k).toNatClampNeg)], σ) [¬ (3 : Int32) = 0, vp_in (nI k) 8] rfl ?_ ?_
      · exact ⟨(by decide), allP1 (by first | exact in8 hk8 | decide)⟩
      rw [ek]
      refine AW.tswIn (k := 3) (tgt := 83) ⟨_, rfl⟩ (by decide) (by decide) rfl (by decide) ?_
      refine AW.run 2 [] (87, [(4, .inl (0 + ((nI (Sf S k)) / 3))), (3, .inl 0), (2, .inl (nI 0)), (0, .inr (.inr (5, 0, 0))), (1, .inl (nI k))], [.inl (σ 5 0 0 8)], σ) [] rfl ?_ ?_
      · exact trivial
      rw [hR.1.2.1]
      refine AW.run 2 [true] (95, [(4, .inl (0 + ((nI (Sf S k)) / 3))), (3, .inl 0), (2, .inl (nI 0)), (0, .inr (.inr (5, 0, 0))), (1, .inl (nI k))], [.inl 0], σ) [icP .le (nI (Su S)) 0] rfl ?_ ?_
      · exact allP1 (by rw [hs0]; exact (by decide : nI 0 ≤ (0 : Int32)))
      refine AW.reti ⟨_, rfl⟩ rfl ?_
      refine ⟨?_, rfl⟩
      unfold riseS
      rw [h0]
      show nI (if 0 < Su S then 1 else 0) = _
      rw [if_neg (by omega)]; rfl
    · have hBp : 0 < Su S + She S / 2 := by omega
      skip
      refine AW.run 2 [] (4, [(0, .inr (.inr (5, 0, 0))), (1, .inl (nI k))], [.inl (σ 5 0 0 8)], σ) [] rfl ?_ ?_
      · exact trivial
      rw [hR.1.2.1]
      refine AW.run 2 [] (8, [(0, .inr (.inr (5, 0, 0))), (1, .inl (nI k))], [.inl (σ 5 0 0 9), .inl (nI (Su S))], σ) [] rfl ?_ ?_
      · exact trivial
      rw [hR.1.2.2.1]
      refine AW.run 3 [] (11, [(0, .inr (.inr (5, 0, 0))), (1, .inl (nI k))], [.inl ((nI (Su S)) + ((nI (She S)) / 2))], σ) [¬ (2 : Int32) = 0] rfl ?_ ?_
      · exact allP1 (by decide)
      rw [hb]
      refine AW.run 6 [false] (19, [(2, .inl (nI (Su S + She S / 2))), (0, .inr (.inr (5, 0, 0))), (1, .inl (nI k))], [.inl ((nI (Su S + She S / 2)) - 1)], σ) [¬ icP .le (nI (Su S + She S / 2)) 0] rfl ?_ ?_
      · exact allP1 (nI_nle hBp (by omega))
      rw [nI_sb hBp]
      refine AW.run 7 [] (31, [(3, .inl (nI (Su S + She S / 2 - 1))), (2, .inl (nI (Su S + She S / 2))), (0, .inr (.inr (5, 0, 0))), (1, .inl (nI k))], [.inl (σ 5 0 3 (nI k).toNatClampNeg), .inl (nI (Su S + She S / 2 - 1))], σ) [vp_in (nI k) 8] rfl ?_ ?_
      · exact allP1 (by first | exact in8 hk8 | decide)
      rw [ef]
      refine AW.run 8 [] (42, [(4, .inl ((nI (Su S + She S / 2 - 1)) + ((nI (Sf S k)) / 3))), (3, .inl (nI (Su S + She S / 2 - 1))), (2, .inl (nI (Su S + She S / 2))), (0, .inr (.inr (5, 0, 0))), (1, .inl (nI k))], [.inl (σ 5 0 2 (nI k).toNatClampNeg)], σ) [¬ (3 : Int32) = 0, vp_in (nI k) 8] rfl ?_ ?_
      · exact ⟨(by decide), allP1 (by first | exact in8 hk8 | decide)⟩
      rw [ek]
      refine AW.tswIn (k := 3) (tgt := 83) ⟨_, rfl⟩ (by decide) (by decide) rfl (by decide) ?_
      refine AW.run 2 [] (87, [(4, .inl ((nI (Su S + She S / 2 - 1)) + ((nI (Sf S k)) / 3))), (3, .inl (nI (Su S + She S / 2 - 1))), (2, .inl (nI (Su S + She S / 2))), (0, .inr (.inr (5, 0, 0))), (1, .inl (nI k))], [.inl (σ 5 0 0 8)], σ) [] rfl ?_ ?_
      · exact trivial
      rw [hR.1.2.1]
      by_cases h87_1 : Su S = 0
      · skip
        refine AW.run 2 [true] (95, [(4, .inl ((nI (Su S + She S / 2 - 1)) + ((nI (Sf S k)) / 3))), (3, .inl (nI (Su S + She S / 2 - 1))), (2, .inl (nI (Su S + She S / 2))), (0, .inr (.inr (5, 0, 0))), (1, .inl (nI k))], [.inl 0], σ) [icP .le (nI (Su S)) 0] rfl ?_ ?_
        · exact allP1 (by rw [h87_1]; exact (by decide : nI 0 ≤ (0 : Int32)))
        refine AW.reti ⟨_, rfl⟩ rfl ?_
        refine ⟨?_, rfl⟩
        unfold riseS
        rw [h0]
        show nI (if 0 < Su S then 1 else 0) = _
        rw [if_neg (by omega)]; rfl
      · skip
        refine AW.run 3 [false] (95, [(4, .inl ((nI (Su S + She S / 2 - 1)) + ((nI (Sf S k)) / 3))), (3, .inl (nI (Su S + She S / 2 - 1))), (2, .inl (nI (Su S + She S / 2))), (0, .inr (.inr (5, 0, 0))), (1, .inl (nI k))], [.inl 1], σ) [¬ icP .le (nI (Su S)) 0] rfl ?_ ?_
        · exact allP1 (nI_nle (Nat.pos_of_ne_zero h87_1) (by omega))
        refine AW.reti ⟨_, rfl⟩ rfl ?_
        refine ⟨?_, rfl⟩
        unfold riseS
        rw [h0]
        show nI (if 0 < Su S then 1 else 0) = _
        rw [if_pos (Nat.pos_of_ne_zero (by first | assumption | omega))]; rfl
  · have hu9 := hO.2.2.2.1
    have hh9 := hO.2.2.2.2
    have hb := rise_b (fg := 0) hu9 hh9
    by_cases hB : Su S + She S / 2 = 0
    · rw [hB] at hb
      have hs0 : Su S = 0 := by omega
      skip
      refine AW.run 2 [] (4, [(0, .inr (.inr (5, 0, 0))), (1, .inl (nI k))], [.inl (σ 5 0 0 8)], σ) [] rfl ?_ ?_
      · exact trivial
      rw [hR.1.2.1]
      refine AW.run 2 [] (8, [(0, .inr (.inr (5, 0, 0))), (1, .inl (nI k))], [.inl (σ 5 0 0 9), .inl (nI (Su S))], σ) [] rfl ?_ ?_
      · exact trivial
      rw [hR.1.2.2.1]
      refine AW.run 3 [] (11, [(0, .inr (.inr (5, 0, 0))), (1, .inl (nI k))], [.inl ((nI (Su S)) + ((nI (She S)) / 2))], σ) [¬ (2 : Int32) = 0] rfl ?_ ?_
      · exact allP1 (by decide)
      rw [hb]
      refine AW.run 10 [true] (31, [(3, .inl 0), (2, .inl (nI 0)), (0, .inr (.inr (5, 0, 0))), (1, .inl (nI k))], [.inl (σ 5 0 3 (nI k).toNatClampNeg), .inl 0], σ) [icP .le (nI 0) 0, vp_in (nI k) 8] rfl ?_ ?_
      · exact ⟨((by decide : nI 0 ≤ (0 : Int32))), allP1 (by first | exact in8 hk8 | decide)⟩
      rw [ef]
      refine AW.run 8 [] (42, [(4, .inl (0 + ((nI (Sf S k)) / 3))), (3, .inl 0), (2, .inl (nI 0)), (0, .inr (.inr (5, 0, 0))), (1, .inl (nI k))], [.inl (σ 5 0 2 (nI k).toNatClampNeg)], σ) [¬ (3 : Int32) = 0, vp_in (nI k) 8] rfl ?_ ?_
      · exact ⟨(by decide), allP1 (by first | exact in8 hk8 | decide)⟩
      rw [ek]
      refine AW.tswIn (k := 4) (tgt := 96) ⟨_, rfl⟩ (by decide) (by decide) rfl (by decide) ?_
      refine AW.run 3 [] (100, [(4, .inl (0 + ((nI (Sf S k)) / 3))), (3, .inl 0), (2, .inl (nI 0)), (0, .inr (.inr (5, 0, 0))), (1, .inl (nI k))], [.inl (2 * (0 + ((nI (Sf S k)) / 3)))], σ) [] rfl ?_ ?_
      · exact trivial
      refine AW.reti ⟨_, rfl⟩ rfl ?_
      refine ⟨?_, rfl⟩
      rw [show riseS S k = 2 * (Su S + She S / 2 - 1 + Sf S k / 3) from by unfold riseS; rw [h0]; rfl]
      rw [hB]
      have h : ∀ f < 10, nI (2 * (0 - 1 + f / 3)) = 2 * (0 + ((nI (f)) / 3)) := by decide +kernel
      exact h (Sf S k) (by omega)
    · have hBp : 0 < Su S + She S / 2 := by omega
      skip
      refine AW.run 2 [] (4, [(0, .inr (.inr (5, 0, 0))), (1, .inl (nI k))], [.inl (σ 5 0 0 8)], σ) [] rfl ?_ ?_
      · exact trivial
      rw [hR.1.2.1]
      refine AW.run 2 [] (8, [(0, .inr (.inr (5, 0, 0))), (1, .inl (nI k))], [.inl (σ 5 0 0 9), .inl (nI (Su S))], σ) [] rfl ?_ ?_
      · exact trivial
      rw [hR.1.2.2.1]
      refine AW.run 3 [] (11, [(0, .inr (.inr (5, 0, 0))), (1, .inl (nI k))], [.inl ((nI (Su S)) + ((nI (She S)) / 2))], σ) [¬ (2 : Int32) = 0] rfl ?_ ?_
      · exact allP1 (by decide)
      rw [hb]
      refine AW.run 6 [false] (19, [(2, .inl (nI (Su S + She S / 2))), (0, .inr (.inr (5, 0, 0))), (1, .inl (nI k))], [.inl ((nI (Su S + She S / 2)) - 1)], σ) [¬ icP .le (nI (Su S + She S / 2)) 0] rfl ?_ ?_
      · exact allP1 (nI_nle hBp (by omega))
      rw [nI_sb hBp]
      refine AW.run 7 [] (31, [(3, .inl (nI (Su S + She S / 2 - 1))), (2, .inl (nI (Su S + She S / 2))), (0, .inr (.inr (5, 0, 0))), (1, .inl (nI k))], [.inl (σ 5 0 3 (nI k).toNatClampNeg), .inl (nI (Su S + She S / 2 - 1))], σ) [vp_in (nI k) 8] rfl ?_ ?_
      · exact allP1 (by first | exact in8 hk8 | decide)
      rw [ef]
      refine AW.run 8 [] (42, [(4, .inl ((nI (Su S + She S / 2 - 1)) + ((nI (Sf S k)) / 3))), (3, .inl (nI (Su S + She S / 2 - 1))), (2, .inl (nI (Su S + She S / 2))), (0, .inr (.inr (5, 0, 0))), (1, .inl (nI k))], [.inl (σ 5 0 2 (nI k).toNatClampNeg)], σ) [¬ (3 : Int32) = 0, vp_in (nI k) 8] rfl ?_ ?_
      · exact ⟨(by decide), allP1 (by first | exact in8 hk8 | decide)⟩
      rw [ek]
      refine AW.tswIn (k := 4) (tgt := 96) ⟨_, rfl⟩ (by decide) (by decide) rfl (by decide) ?_
      refine AW.run 3 [] (100, [(4, .inl ((nI (Su S + She S / 2 - 1)) + ((nI (Sf S k)) / 3))), (3, .inl (nI (Su S + She S / 2 - 1))), (2, .inl (nI (Su S + She S / 2))), (0, .inr (.inr (5, 0, 0))), (1, .inl (nI k))], [.inl (2 * ((nI (Su S + She S / 2 - 1)) + ((nI (Sf S k)) / 3)))], σ) [] rfl ?_ ?_
      · exact trivial
      refine AW.reti ⟨_, rfl⟩ rfl ?_
      refine ⟨?_, rfl⟩
      rw [show riseS S k = 2 * (Su S + She S / 2 - 1 + Sf S k / 3) from by unfold riseS; rw [h0]; rfl]
      have h : ∀ b < 14, ∀ f < 10, nI (2 * (b - 1 + f / 3)) = 2 * ((nI (b - 1)) + ((nI (f)) / 3)) := by decide +kernel
      exact h _ (by omega) (Sf S k) (by omega)
