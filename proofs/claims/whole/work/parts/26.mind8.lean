/-! THE MIND, EIGHTH PART: odds, lots -/
theorem q_div {a d : Nat} (ha : a < 2 ^ 31) (h0 : 0 < d) (hd : d < 2 ^ 31) : nI a / nI d = nI (a / d) := by
  apply Int32.toInt_inj.mp
  rw [lg_idiv_nonneg (by rw [nI_toInt ha]; omega) (by rw [nI_toInt hd]; omega), nI_toInt ha, nI_toInt hd, nI_toInt (Nat.lt_of_le_of_lt (Nat.div_le_self _ _) ha)]
  rfl
theorem q_rem {a d : Nat} (ha : a < 2 ^ 31) (h0 : 0 < d) (hd : d < 2 ^ 31) : nI a - nI a / nI d * nI d = nI (a % d) := by
  apply Int32.toInt_inj.mp
  rw [rem_toInt, nI_toInt ha, nI_toInt hd, nI_toInt (Nat.lt_of_le_of_lt (Nat.mod_le _ _) ha), Int.tmod_eq_emod_of_nonneg (by omega)]
  rfl
def lotZ (z : Int32) : Int32 := z * 1103515245 + 12345
def drw (z : Int32) : Nat := (z &&& 2147483647).toNatClampNeg / 65536 % 10
theorem and_pos (z : Int32) : ¬ (z &&& 2147483647) < 0 := by
  intro h
  have h1 : (z &&& 2147483647).toBitVec.msb = true := by
    have := Int32.lt_iff_toInt_lt.mp h
    rw [show (0 : Int32).toInt = 0 from rfl] at this
    rw [BitVec.msb_eq_toInt]
    exact decide_eq_true this
  rw [show (z &&& 2147483647).toBitVec = z.toBitVec &&& (2147483647 : Int32).toBitVec from rfl, BitVec.msb_and] at h1
  rw [show ((2147483647 : Int32).toBitVec).msb = false by decide] at h1
  simp at h1
theorem drw_eq (z : Int32) : (z &&& 2147483647) / 65536 - (z &&& 2147483647) / 65536 / 10 * 10 = nI (drw z) := by
  obtain ⟨j, hj, e⟩ := nI_of (and_pos z)
  unfold drw
  rw [e, nI_clamp hj]
  have h1 : nI j / 65536 = nI (j / 65536) := q_div (d := 65536) hj (by decide) (by decide)
  rw [h1]
  exact q_rem (d := 10) (Nat.lt_of_le_of_lt (Nat.div_le_self _ _) hj) (by decide) (by decide)
theorem drw_le (z : Int32) : drw z ≤ 9 := by
  unfold drw
  omega
def smr (S : Sv) : Nat → Int32 → Sv → Int32 × Sv
  | 0, z, T => (z, T)
  | k + 1, z, T => smr S k (lotZ z) (dayS (withU T (Su S) (drw (lotZ z))))
def tally (wt : Nat) (T : Sv) : Nat := if wt = 0 then cN (Sw T) else psum T 8
def lotN (S : Sv) (wt : Nat) : Nat → Int32 → Nat → Nat
  | 0, _, s => s
  | k + 1, z, s => lotN S wt k (smr S 10 z S).1 (s + tally wt (smr S 10 z S).2)
def styN (S : Sv) (b : Nat) (m : Int64) (c : Nat) : Nat → Nat → Sv → Int64 → Int64
  | 0, _, T, w => if Sw T b = true then w else 0
  | k + 1, d, T, w => if Sw T b = true then styN S b m c k (d + 1) (dayS (withU T (Su S) (if c.testBit d = true then 9 else She S))) (if c.testBit d = true then w else w * m) else 0
def wayN (S : Sv) (b : Nat) (m : Int64) (n : Nat) : Nat → Int64
  | 0 => 0
  | c + 1 => wayN S b m n c + styN S b m c n 0 S 1
theorem sty_burst {S : Sv} {b : Nat} {m : Int64} {c k d : Nat} {T : Sv} {w : Int64} (h : ¬ Sw T b = true) : styN S b m c k d T w = 0 := by
  cases k <;> simp [styN, h]
theorem pow_n : ∀ n < 8, (1 : Int32) <<< ((if 7 < nI n then 7 else nI n) &&& 31) = nI (2 ^ n) := by decide
theorem bit_c : ∀ c < 128, ∀ d < 7, (nI c >>> (nI d &&& 31)) &&& 1 = if c.testBit d = true then 1 else 0 := by decide +kernel

set_option maxHeartbeats 4000000 in
set_option maxRecDepth 100000 in
theorem c1_summersByLot (S : Sv) (σ : St) (hR : RepS (σ 2 0) S) (hO : SOK S) (n wt : Nat) (z0 : Int32) (hn : n ≤ 20) (hwt : wt ≤ 1) : Ct M1_summersByLot 4 [.inr (.inr (0, 0, 0)), .inr (.inr (2, 0, 0)), .inl (nI n), .inl z0, .inl (nI wt)] σ (PI fun r9 σ' => nI (lotN S wt n z0 0) = r9 ∧ Only 2 3 σ σ') := by
  refine Ct.of f_1_summersByLot (Nat.le_of_ble_eq_true rfl) ?_
  show AW M1_summersByLot 4 _ (0, [(0, .inr (.inr (0, 0, 0))), (1, .inr (.inr (2, 0, 0))), (2, .inl (nI n)), (3, .inl z0), (4, .inl (nI wt))], [], σ)
  refine AW.run 6 [] (9, [(7, .inl 0), (6, .inl 0), (5, .inl z0), (0, .inr (.inr (0, 0, 0))), (1, .inr (.inr (2, 0, 0))), (2, .inl (nI n)), (3, .inl z0), (4, .inl (nI wt))], [], σ) [] rfl ?_ ?_
  · exact trivial
  refine AW.pick [3, 4, 5, 7, 2, 1, 0] (ls' := [(0, .inr (.inr (0, 0, 0))), (1, .inr (.inr (2, 0, 0))), (2, .inl (nI n)), (4, .inl (nI wt)), (5, .inl z0), (6, .inl (nI 0)), (7, .inl (nI 0))]) rfl ?_
  refine AW.loop (α := Int32 × Nat) 9 n (fun i q => [(0, .inr (.inr (0, 0, 0))), (1, .inr (.inr (2, 0, 0))), (2, .inl (nI n)), (4, .inl (nI wt)), (5, .inl q.1), (6, .inl (nI q.2)), (7, .inl (nI i))]) (fun i q τ => Only 2 3 σ τ ∧ lotN S wt n z0 0 = lotN S wt (n - i) q.1 q.2) ?_ ?_ n 0 (z0, 0) _ (by omega) ⟨only_rfl, rfl⟩
  · intro i q τ hi hI hk
    obtain ⟨hA, hg⟩ := hI
    have hu : lotN S wt (n - i) q.1 q.2 = lotN S wt (n - (i + 1)) (smr S 10 q.1 S).1 (q.2 + tally wt (smr S 10 q.1 S).2) := by
      obtain ⟨k, hk⟩ : ∃ k, n - i = k + 1 := ⟨n - i - 1, by omega⟩
      rw [hk, show n - (i + 1) = k by omega]; rfl
    rw [hu] at hg
    refine AW.run 6 [false] (20, [(0, .inr (.inr (0, 0, 0))), (1, .inr (.inr (2, 0, 0))), (2, .inl (nI n)), (4, .inl (nI wt)), (5, .inl q.1), (6, .inl (nI q.2)), (7, .inl (nI i))], [.inr (.inr (2, 0, 0)), .inr (.inr (2, 3, 0))], τ) [¬ icP .ge (nI i) (nI n)] rfl ?_ ?_
    · exact allP1 (nI_ge hi (by omega))
    refine AW.callVV (d' := 1) [.inr (.inr (2, 0, 0))] [] ⟨_, rfl⟩ f_3_copyFrom v_3_copyFrom l_1_25 ⟨rfl, by decide⟩ rfl (Nat.le_of_ble_eq_true rfl) rfl (Nat.le_of_ble_eq_true rfl) (c3_copyFrom 3 0 (by decide) S τ (only_rep hA hR) hO) ?_
    rintro τ124 ⟨a124, b124⟩
    refine AW.run 2 [] (26, [(8, .inl 0), (0, .inr (.inr (0, 0, 0))), (1, .inr (.inr (2, 0, 0))), (2, .inl (nI n)), (4, .inl (nI wt)), (5, .inl q.1), (6, .inl (nI q.2)), (7, .inl (nI i))], [], τ124) [] rfl ?_ ?_
    · exact trivial
    refine AW.pick [1, 2, 3, 4, 5, 6, 7, 0] (ls' := [(0, .inr (.inr (0, 0, 0))), (1, .inr (.inr (2, 0, 0))), (2, .inl (nI n)), (4, .inl (nI wt)), (5, .inl q.1), (6, .inl (nI q.2)), (7, .inl (nI i)), (8, .inl (nI 0))]) rfl ?_
    refine AW.loop (α := Int32 × Sv) 26 10 (fun d y => [(0, .inr (.inr (0, 0, 0))), (1, .inr (.inr (2, 0, 0))), (2, .inl (nI n)), (4, .inl (nI wt)), (5, .inl y.1), (6, .inl (nI q.2)), (7, .inl (nI i)), (8, .inl (nI d))]) (fun d y τ => Only 2 3 σ τ ∧ RepS (τ 2 3) y.2 ∧ SOK y.2 ∧ smr S 10 q.1 S = smr S (10 - d) y.1 y.2) ?_ ?_ 10 0 (q.1, S) _ (by omega) ⟨(only_trans hA a124), b124, hO, rfl⟩
    · intro d y τ hd hI hk9
      obtain ⟨hA, hT, hOT, hs⟩ := hI
      have hu9 : smr S (10 - d) y.1 y.2 = smr S (10 - (d + 1)) (lotZ y.1) (dayS (withU y.2 (Su S) (drw (lotZ y.1)))) := by
        obtain ⟨k, hk⟩ : ∃ k, 10 - d = k + 1 := ⟨9 - d, by omega⟩
        rw [hk, show 10 - (d + 1) = k by omega]; rfl
      rw [hu9] at hs
      refine AW.run 8 [false] (42, [(0, .inr (.inr (0, 0, 0))), (1, .inr (.inr (2, 0, 0))), (2, .inl (nI n)), (4, .inl (nI wt)), (5, .inl y.1), (6, .inl (nI q.2)), (7, .inl (nI i)), (8, .inl (nI d))], [.inl ((y.1 * 1103515245) + 12345)], τ) [¬ icP .ge (nI d) 10] rfl ?_ ?_
      · exact allP1 (nle_lit (a := 10) hd (by decide))
      rw [show y.1 * 1103515245 + 12345 = lotZ y.1 from rfl]
      refine AW.run 5 [] (52, [(5, .inl (lotZ y.1)), (0, .inr (.inr (0, 0, 0))), (1, .inr (.inr (2, 0, 0))), (2, .inl (nI n)), (4, .inl (nI wt)), (6, .inl (nI q.2)), (7, .inl (nI i)), (8, .inl (nI d))], [.inl (τ 2 0 0 10), .inr (.inr (2, 3, 0))], τ) [] rfl ?_ ?_
      · exact trivial
      rw [(only_rep hA hR).1.2.2.2.1]
      refine AW.run 7 [] (63, [(5, .inl (lotZ y.1)), (0, .inr (.inr (0, 0, 0))), (1, .inr (.inr (2, 0, 0))), (2, .inl (nI n)), (4, .inl (nI wt)), (6, .inl (nI q.2)), (7, .inl (nI i)), (8, .inl (nI d))], [.inl ((((lotZ y.1) &&& 2147483647) / 65536) - (((lotZ y.1) &&& 2147483647) / 65536) / 10 * 10), .inl (nI (Su S)), .inr (.inr (2, 3, 0))], τ) [¬ (65536 : Int32) = 0, ¬ (10 : Int32) = 0] rfl ?_ ?_
      · exact ⟨(by decide), allP1 (by decide)⟩
      rw [drw_eq]
      refine AW.callVV (d' := 2) [.inl (nI (Su S)), .inl (nI (drw (lotZ y.1)))] [] ⟨_, rfl⟩ f_3_nourish v_3_nourish l_1_95 ⟨rfl, by decide⟩ rfl (Nat.le_of_ble_eq_true rfl) rfl (Nat.le_of_ble_eq_true rfl) (c3_nourish 3 y.2 τ hT hOT (Su S) (drw (lotZ y.1)) hO.2.2.2.1 (drw_le _)) ?_
      rintro τ125 ⟨a125, b125⟩
      refine AW.run 2 [] (70, [(5, .inl (lotZ y.1)), (0, .inr (.inr (0, 0, 0))), (1, .inr (.inr (2, 0, 0))), (2, .inl (nI n)), (4, .inl (nI wt)), (6, .inl (nI q.2)), (7, .inl (nI i)), (8, .inl (nI d))], [.inr (.inr (2, 3, 0))], τ125) [] rfl ?_ ?_
      · exact trivial
      refine AW.callVV (d' := 2) [] [] ⟨_, rfl⟩ f_3_dayGoesBy v_3_dayGoesBy l_1_47 ⟨rfl, by decide⟩ rfl (Nat.le_of_ble_eq_true rfl) rfl (Nat.le_of_ble_eq_true rfl) (c3_dayGoesBy 3 (withU y.2 (Su S) (drw (lotZ y.1))) τ125 b125 (SOK_U hOT hO.2.2.2.1 (drw_le _)) ) ?_
      rintro τ126 ⟨a126, b126⟩
      refine AW.run 2 [] (26, [(8, .inl ((nI d) + 1)), (5, .inl (lotZ y.1)), (0, .inr (.inr (0, 0, 0))), (1, .inr (.inr (2, 0, 0))), (2, .inl (nI n)), (4, .inl (nI wt)), (6, .inl (nI q.2)), (7, .inl (nI i))], [], τ126) [] rfl ?_ ?_
      · exact trivial
      rw [nI_1 d]
      refine AW.pick [2, 3, 4, 5, 1, 6, 7, 0] (ls' := [(0, .inr (.inr (0, 0, 0))), (1, .inr (.inr (2, 0, 0))), (2, .inl (nI n)), (4, .inl (nI wt)), (5, .inl (lotZ y.1)), (6, .inl (nI q.2)), (7, .inl (nI i)), (8, .inl (nI (d + 1)))]) rfl ?_
      exact hk9 (lotZ y.1, _) _ ⟨(only_trans (only_trans hA a125) a126), b126, (SOK_day (SOK_U hOT hO.2.2.2.1 (drw_le _))), hs⟩
    · intro y τ hI
      obtain ⟨hA, hT, hOT, hs⟩ := hI
      have hs : smr S 10 q.1 S = (y.1, y.2) := hs
      rw [hs] at hg
      by_cases h83_1 : wt = 0
      · skip
        refine AW.run 9 [true, false] (93, [(0, .inr (.inr (0, 0, 0))), (1, .inr (.inr (2, 0, 0))), (2, .inl (nI n)), (4, .inl (nI wt)), (5, .inl y.1), (6, .inl (nI q.2)), (7, .inl (nI i)), (8, .inl (nI 10))], [.inl (τ 2 3 0 8), .inl (nI q.2)], τ) [icP .ge (nI 10) 10, ¬ icP .ne (nI wt) 0] rfl ?_ ?_
        · exact ⟨(le_lit (a := 10) (b := 10) (by decide) (by decide)), allP1 (fun q => q (by rw [h83_1]; rfl))⟩
        rw [hT.1.2.1]
        refine AW.callSI (d' := 0) [.inl (bI (Sw y.2))] [.inl (nI q.2)] ⟨_, rfl⟩ f_J_bitCount s_J_bitCount l_1_37 rfl (Nat.le_of_ble_eq_true rfl) rfl (Nat.le_of_ble_eq_true rfl) (cJ_bitCount (bI (Sw y.2)) τ) ?_
        rintro _ _ ⟨rfl, rfl⟩
        rw [bcV_bI]
        refine AW.run 2 [] (107, [(0, .inr (.inr (0, 0, 0))), (1, .inr (.inr (2, 0, 0))), (2, .inl (nI n)), (4, .inl (nI wt)), (5, .inl y.1), (6, .inl (nI q.2)), (7, .inl (nI i)), (8, .inl (nI 10))], [.inl ((nI q.2) + (nI (cN (Sw y.2))))], τ) [] rfl ?_ ?_
        · exact trivial
        rw [show (nI q.2) + (nI (cN (Sw y.2))) = nI (q.2 + tally wt y.2) by rw [nI_add]; simp [tally, *]]
        refine AW.run 3 [] (9, [(7, .inl ((nI i) + 1)), (6, .inl (nI (q.2 + tally wt y.2))), (0, .inr (.inr (0, 0, 0))), (1, .inr (.inr (2, 0, 0))), (2, .inl (nI n)), (4, .inl (nI wt)), (5, .inl y.1), (8, .inl (nI 10))], [], τ) [] rfl ?_ ?_
        · exact trivial
        rw [nI_1 i]
        refine AW.pick [2, 3, 4, 5, 6, 1, 0] (ls' := [(0, .inr (.inr (0, 0, 0))), (1, .inr (.inr (2, 0, 0))), (2, .inl (nI n)), (4, .inl (nI wt)), (5, .inl y.1), (6, .inl (nI (q.2 + tally wt y.2))), (7, .inl (nI (i + 1)))]) rfl ?_
        exact hk (y.1, q.2 + tally wt y.2) _ ⟨hA, hg⟩
      · skip
        refine AW.run 8 [true, true] (103, [(0, .inr (.inr (0, 0, 0))), (1, .inr (.inr (2, 0, 0))), (2, .inl (nI n)), (4, .inl (nI wt)), (5, .inl y.1), (6, .inl (nI q.2)), (7, .inl (nI i)), (8, .inl (nI 10))], [.inr (.inr (2, 3, 0)), .inl (nI q.2)], τ) [icP .ge (nI 10) 10, icP .ne (nI wt) 0] rfl ?_ ?_
        · exact ⟨(le_lit (a := 10) (b := 10) (by decide) (by decide)), allP1 (fun q => h83_1 (nI_lit (n := 0) q (by omega) (by decide)))⟩
        refine AW.callVI (d' := 1) [] [.inl (nI q.2)] ⟨_, rfl⟩ f_3_pressOfWhole v_3_pressOfWhole l_1_145 ⟨rfl, by decide⟩ rfl (Nat.le_of_ble_eq_true rfl) rfl (Nat.le_of_ble_eq_true rfl) (c3_pressOfWhole 3 y.2 τ hT hOT ) ?_
        rintro _ _ ⟨rfl, rfl⟩
        refine AW.run 1 [] (107, [(0, .inr (.inr (0, 0, 0))), (1, .inr (.inr (2, 0, 0))), (2, .inl (nI n)), (4, .inl (nI wt)), (5, .inl y.1), (6, .inl (nI q.2)), (7, .inl (nI i)), (8, .inl (nI 10))], [.inl ((nI q.2) + (nI (psum y.2 8)))], τ) [] rfl ?_ ?_
        · exact trivial
        rw [show (nI q.2) + (nI (psum y.2 8)) = nI (q.2 + tally wt y.2) by rw [nI_add]; simp [tally, *]]
        refine AW.run 3 [] (9, [(7, .inl ((nI i) + 1)), (6, .inl (nI (q.2 + tally wt y.2))), (0, .inr (.inr (0, 0, 0))), (1, .inr (.inr (2, 0, 0))), (2, .inl (nI n)), (4, .inl (nI wt)), (5, .inl y.1), (8, .inl (nI 10))], [], τ) [] rfl ?_ ?_
        · exact trivial
        rw [nI_1 i]
        refine AW.pick [2, 3, 4, 5, 6, 1, 0] (ls' := [(0, .inr (.inr (0, 0, 0))), (1, .inr (.inr (2, 0, 0))), (2, .inl (nI n)), (4, .inl (nI wt)), (5, .inl y.1), (6, .inl (nI (q.2 + tally wt y.2))), (7, .inl (nI (i + 1)))]) rfl ?_
        exact hk (y.1, q.2 + tally wt y.2) _ ⟨hA, hg⟩
  · intro q τ hI
    obtain ⟨hA, hg⟩ := hI
    rw [Nat.sub_self] at hg
    refine AW.run 4 [true] (117, [(0, .inr (.inr (0, 0, 0))), (1, .inr (.inr (2, 0, 0))), (2, .inl (nI n)), (4, .inl (nI wt)), (5, .inl q.1), (6, .inl (nI q.2)), (7, .inl (nI n))], [.inl (nI q.2)], τ) [icP .ge (nI n) (nI n)] rfl ?_ ?_
    · exact allP1 (nI_le (Nat.le_refl _) (by omega))
    refine AW.reti ⟨_, rfl⟩ rfl ?_
    exact ⟨by rw [hg]; rfl, hA⟩
set_option maxHeartbeats 4000000 in
set_option maxRecDepth 100000 in
theorem c1_waysToStay (S : Sv) (σ : St) (hR : RepS (σ 2 0) S) (hO : SOK S) (b n t : Nat) (hb : b < Sn S) (hn : n ≤ 7) : Ct M1_waysToStay 3 [.inr (.inr (0, 0, 0)), .inr (.inr (2, 0, 0)), .inl (nI b), .inl (nI n), .inl (nI t)] σ (PL fun r9 σ' => wayN S b (nI t - 1).toInt64 n (2 ^ n) = r9 ∧ Only 2 3 σ σ') := by
  refine Ct.of f_1_waysToStay (Nat.le_of_ble_eq_true rfl) ?_
  show AW M1_waysToStay 3 _ (0, [(0, .inr (.inr (0, 0, 0))), (1, .inr (.inr (2, 0, 0))), (2, .inl (nI b)), (3, .inl (nI n)), (4, .inl (nI t))], [], σ)
  have hp7 : 2 ^ n ≤ 128 := by
    have := Nat.pow_le_pow_right (n := 2) (by decide) hn
    simpa using this
  have hpn := pow_n n (by omega)
  have hnn := hO.1
  refine AW.run 5 [] (7, [(5, .inr (.inl (Int64.ofNat 0))), (0, .inr (.inr (0, 0, 0))), (1, .inr (.inr (2, 0, 0))), (2, .inl (nI b)), (3, .inl (nI n)), (4, .inl (nI t))], [.inl 7, .inl (nI n), .inl 1], σ) [] rfl ?_ ?_
  · exact trivial
  refine AW.min ⟨_, rfl⟩ l_1_133 (Nat.le_of_ble_eq_true rfl) (Nat.le_of_ble_eq_true rfl) ?_
  refine AW.run 1 [] (11, [(5, .inr (.inl (Int64.ofNat 0))), (0, .inr (.inr (0, 0, 0))), (1, .inr (.inr (2, 0, 0))), (2, .inl (nI b)), (3, .inl (nI n)), (4, .inl (nI t))], [.inl (1 <<< ((if 7 < (nI n) then 7 else (nI n)) &&& 31))], σ) [] rfl ?_ ?_
  · exact trivial
  rw [hpn]
  refine AW.run 3 [] (16, [(8, .inl 0), (7, .inl (nI (2 ^ n))), (5, .inr (.inl (Int64.ofNat 0))), (0, .inr (.inr (0, 0, 0))), (1, .inr (.inr (2, 0, 0))), (2, .inl (nI b)), (3, .inl (nI n)), (4, .inl (nI t))], [], σ) [] rfl ?_ ?_
  · exact trivial
  rw [show (Int64.ofNat 0 : Int64) = wayN S b (nI t - 1).toInt64 n 0 from rfl]
  refine AW.pick [3, 4, 5, 6, 7, 2, 1, 0] (ls' := [(0, .inr (.inr (0, 0, 0))), (1, .inr (.inr (2, 0, 0))), (2, .inl (nI b)), (3, .inl (nI n)), (4, .inl (nI t)), (5, .inr (.inl (wayN S b (nI t - 1).toInt64 n 0))), (7, .inl (nI (2 ^ n))), (8, .inl (nI 0))]) rfl ?_
  refine AW.loop (α := Unit) 16 (2 ^ n) (fun c _ => [(0, .inr (.inr (0, 0, 0))), (1, .inr (.inr (2, 0, 0))), (2, .inl (nI b)), (3, .inl (nI n)), (4, .inl (nI t)), (5, .inr (.inl (wayN S b (nI t - 1).toInt64 n c))), (7, .inl (nI (2 ^ n))), (8, .inl (nI c))]) (fun c _ τ => Only 2 3 σ τ) ?_ ?_ (2 ^ n) 0 () _ (by omega) only_rfl
  · intro c _ τ hc hA hk
    refine AW.run 6 [false] (28, [(0, .inr (.inr (0, 0, 0))), (1, .inr (.inr (2, 0, 0))), (2, .inl (nI b)), (3, .inl (nI n)), (4, .inl (nI t)), (5, .inr (.inl (wayN S b (nI t - 1).toInt64 n c))), (7, .inl (nI (2 ^ n))), (8, .inl (nI c))], [.inr (.inr (2, 0, 0)), .inr (.inr (2, 3, 0))], τ) [¬ icP .ge (nI c) (nI (2 ^ n))] rfl ?_ ?_
    · exact allP1 (nI_ge hc (by omega))
    refine AW.callVV (d' := 1) [.inr (.inr (2, 0, 0))] [] ⟨_, rfl⟩ f_3_copyFrom v_3_copyFrom l_1_25 ⟨rfl, by decide⟩ rfl (Nat.le_of_ble_eq_true rfl) rfl (Nat.le_of_ble_eq_true rfl) (c3_copyFrom 3 0 (by decide) S τ (only_rep hA hR) hO) ?_
    rintro τ127 ⟨a127, b127⟩
    refine AW.run 4 [] (37, [(11, .inl 0), (9, .inr (.inl (Int64.ofNat 1))), (0, .inr (.inr (0, 0, 0))), (1, .inr (.inr (2, 0, 0))), (2, .inl (nI b)), (3, .inl (nI n)), (4, .inl (nI t)), (5, .inr (.inl (wayN S b (nI t - 1).toInt64 n c))), (7, .inl (nI (2 ^ n))), (8, .inl (nI c))], [], τ127) [] rfl ?_ ?_
    · exact trivial
    refine AW.pick [2, 3, 4, 5, 6, 7, 8, 9, 1, 0] (ls' := [(0, .inr (.inr (0, 0, 0))), (1, .inr (.inr (2, 0, 0))), (2, .inl (nI b)), (3, .inl (nI n)), (4, .inl (nI t)), (5, .inr (.inl (wayN S b (nI t - 1).toInt64 n c))), (7, .inl (nI (2 ^ n))), (8, .inl (nI c)), (9, .inr (.inl (Int64.ofNat 1))), (11, .inl (nI 0))]) rfl ?_
    have fin : ∀ (T : Sv) (w : Int64) (d : Nat) (τ : St), Only 2 3 σ τ → RepS (τ 2 3) T → SOK T → styN S b (nI t - 1).toInt64 c n 0 S 1 = (if Sw T b = true then w else 0) → AW M1_waysToStay 3 (PL fun r9 σ' => wayN S b (nI t - 1).toInt64 n (2 ^ n) = r9 ∧ Only 2 3 σ σ') (124, [(0, .inr (.inr (0, 0, 0))), (1, .inr (.inr (2, 0, 0))), (2, .inl (nI b)), (3, .inl (nI n)), (4, .inl (nI t)), (5, .inr (.inl (wayN S b (nI t - 1).toInt64 n c))), (7, .inl (nI (2 ^ n))), (8, .inl (nI c)), (9, .inr (.inl w)), (11, .inl (nI d))], [], τ) := by
      intro T w d τ hA hT hOT hs
      refine AW.run 3 [] (129, [(0, .inr (.inr (0, 0, 0))), (1, .inr (.inr (2, 0, 0))), (2, .inl (nI b)), (3, .inl (nI n)), (4, .inl (nI t)), (5, .inr (.inl (wayN S b (nI t - 1).toInt64 n c))), (7, .inl (nI (2 ^ n))), (8, .inl (nI c)), (9, .inr (.inl w)), (11, .inl (nI d))], [.inl (nI b), .inr (.inr (2, 3, 0))], τ) [] rfl ?_ ?_
      · exact trivial
      refine AW.callVI (d' := 0) [.inl (nI b)] [] ⟨_, rfl⟩ f_3_isWhole v_3_isWhole l_1_43 ⟨rfl, by decide⟩ rfl (Nat.le_of_ble_eq_true rfl) rfl (Nat.le_of_ble_eq_true rfl) (c3_isWhole 3 T τ hT hOT b (by omega)) ?_
      rintro v _ ⟨rfl, hv⟩
      rcases hv with ⟨rfl, hp129⟩ | ⟨rfl, hp129⟩
      · skip
        refine AW.run 7 [false] (16, [(8, .inl ((nI c) + 1)), (5, .inr (.inl ((wayN S b (nI t - 1).toInt64 n c) + w))), (0, .inr (.inr (0, 0, 0))), (1, .inr (.inr (2, 0, 0))), (2, .inl (nI b)), (3, .inl (nI n)), (4, .inl (nI t)), (7, .inl (nI (2 ^ n))), (9, .inr (.inl w)), (11, .inl (nI d))], [], τ) [¬ icP .eq (1 : Int32) 0] rfl ?_ ?_
        · exact allP1 (by decide : ¬ ((1 : Int32) = 0))
        have he : wayN S b (nI t - 1).toInt64 n (c + 1) = (wayN S b (nI t - 1).toInt64 n c) + w := by
          show wayN S b (nI t - 1).toInt64 n c + styN S b (nI t - 1).toInt64 c n 0 S 1 = _
          rw [hs, if_pos (by assumption)]
        have hx := hk () τ hA
        rw [he, ← nI_1 c] at hx
        refine AW.pick [2, 3, 4, 5, 6, 1, 7, 0] (ls' := _) rfl ?_
        exact hx
      · skip
        refine AW.run 3 [true] (16, [(8, .inl ((nI c) + 1)), (0, .inr (.inr (0, 0, 0))), (1, .inr (.inr (2, 0, 0))), (2, .inl (nI b)), (3, .inl (nI n)), (4, .inl (nI t)), (5, .inr (.inl (wayN S b (nI t - 1).toInt64 n c))), (7, .inl (nI (2 ^ n))), (9, .inr (.inl w)), (11, .inl (nI d))], [], τ) [icP .eq (0 : Int32) 0] rfl ?_ ?_
        · exact allP1 (by decide : ((0 : Int32) = 0))
        have he : wayN S b (nI t - 1).toInt64 n (c + 1) = wayN S b (nI t - 1).toInt64 n c := by
          show wayN S b (nI t - 1).toInt64 n c + styN S b (nI t - 1).toInt64 c n 0 S 1 = _
          rw [hs, if_neg (by rw [hp129]; decide)]; exact Int64.add_zero _
        have hx := hk () τ hA
        rw [he, ← nI_1 c] at hx
        refine AW.pick [1, 2, 3, 4, 5, 6, 7, 0] (ls' := _) rfl ?_
        exact hx
    refine AW.loop (α := Sv × Int64) 37 n (fun d y => [(0, .inr (.inr (0, 0, 0))), (1, .inr (.inr (2, 0, 0))), (2, .inl (nI b)), (3, .inl (nI n)), (4, .inl (nI t)), (5, .inr (.inl (wayN S b (nI t - 1).toInt64 n c))), (7, .inl (nI (2 ^ n))), (8, .inl (nI c)), (9, .inr (.inl y.2)), (11, .inl (nI d))]) (fun d y τ => Only 2 3 σ τ ∧ RepS (τ 2 3) y.1 ∧ SOK y.1 ∧ styN S b (nI t - 1).toInt64 c n 0 S 1 = styN S b (nI t - 1).toInt64 c (n - d) d y.1 y.2) ?_ ?_ n 0 (S, 1) _ (by omega) ⟨(only_trans hA a127), b127, hO, rfl⟩
    · intro d y τ hd hI hk9
      obtain ⟨hA, hT, hOT, hs⟩ := hI
      have hbit := bit_c c (by omega) d (by omega)
      have hu9 : styN S b (nI t - 1).toInt64 c (n - d) d y.1 y.2 = if Sw y.1 b = true then styN S b (nI t - 1).toInt64 c (n - (d + 1)) (d + 1) (dayS (withU y.1 (Su S) (if c.testBit d = true then 9 else She S))) (if c.testBit d = true then y.2 else y.2 * (nI t - 1).toInt64) else 0 := by
        obtain ⟨k, hk⟩ : ∃ k, n - d = k + 1 := ⟨n - d - 1, by omega⟩
        rw [hk, show n - (d + 1) = k by omega]; rfl
      cases hbt : c.testBit d
      · rw [hbt] at hbit
        refine AW.run 6 [false] (48, [(0, .inr (.inr (0, 0, 0))), (1, .inr (.inr (2, 0, 0))), (2, .inl (nI b)), (3, .inl (nI n)), (4, .inl (nI t)), (5, .inr (.inl (wayN S b (nI t - 1).toInt64 n c))), (7, .inl (nI (2 ^ n))), (8, .inl (nI c)), (9, .inr (.inl y.2)), (11, .inl (nI d))], [.inl (nI b), .inr (.inr (2, 3, 0))], τ) [¬ icP .ge (nI d) (nI n)] rfl ?_ ?_
        · exact allP1 (nI_ge hd (by omega))
        refine AW.callVI (d' := 0) [.inl (nI b)] [] ⟨_, rfl⟩ f_3_isWhole v_3_isWhole l_1_43 ⟨rfl, by decide⟩ rfl (Nat.le_of_ble_eq_true rfl) rfl (Nat.le_of_ble_eq_true rfl) (c3_isWhole 3 y.1 τ hT hOT b (by omega)) ?_
        rintro v _ ⟨rfl, hv⟩
        rcases hv with ⟨rfl, hp48⟩ | ⟨rfl, hp48⟩
        · skip
          refine AW.run 13 [false, true] (79, [(12, .inl 0), (0, .inr (.inr (0, 0, 0))), (1, .inr (.inr (2, 0, 0))), (2, .inl (nI b)), (3, .inl (nI n)), (4, .inl (nI t)), (5, .inr (.inl (wayN S b (nI t - 1).toInt64 n c))), (7, .inl (nI (2 ^ n))), (8, .inl (nI c)), (9, .inr (.inl y.2)), (11, .inl (nI d))], [.inl (τ 2 0 0 10), .inr (.inr (2, 3, 0))], τ) [¬ icP .eq (1 : Int32) 0, icP .eq (((nI c) >>> ((nI d) &&& 31)) &&& 1) 0] rfl ?_ ?_
          · exact ⟨(by decide : ¬ ((1 : Int32) = 0)), allP1 (hbit)⟩
          rw [(only_rep hA hR).1.2.2.2.1]
          refine AW.run 4 [true] (93, [(12, .inl 0), (0, .inr (.inr (0, 0, 0))), (1, .inr (.inr (2, 0, 0))), (2, .inl (nI b)), (3, .inl (nI n)), (4, .inl (nI t)), (5, .inr (.inl (wayN S b (nI t - 1).toInt64 n c))), (7, .inl (nI (2 ^ n))), (8, .inl (nI c)), (9, .inr (.inl y.2)), (11, .inl (nI d))], [.inl (τ 2 0 0 11), .inl (nI (Su S)), .inr (.inr (2, 3, 0))], τ) [icP .eq (0 : Int32) 0] rfl ?_ ?_
          · exact allP1 (by decide : ((0 : Int32) = 0))
          rw [(only_rep hA hR).1.2.2.2.2.1]
          refine AW.callVV (d' := 2) [.inl (nI (Su S)), .inl (nI (She S))] [] ⟨_, rfl⟩ f_3_nourish v_3_nourish l_1_95 ⟨rfl, by decide⟩ rfl (Nat.le_of_ble_eq_true rfl) rfl (Nat.le_of_ble_eq_true rfl) (c3_nourish 3 y.1 τ hT hOT (Su S) (She S) hO.2.2.2.1 hO.2.2.2.2) ?_
          rintro τ128 ⟨a128, b128⟩
          refine AW.run 2 [] (100, [(12, .inl 0), (0, .inr (.inr (0, 0, 0))), (1, .inr (.inr (2, 0, 0))), (2, .inl (nI b)), (3, .inl (nI n)), (4, .inl (nI t)), (5, .inr (.inl (wayN S b (nI t - 1).toInt64 n c))), (7, .inl (nI (2 ^ n))), (8, .inl (nI c)), (9, .inr (.inl y.2)), (11, .inl (nI d))], [.inr (.inr (2, 3, 0))], τ128) [] rfl ?_ ?_
          · exact trivial
          refine AW.callVV (d' := 2) [] [] ⟨_, rfl⟩ f_3_dayGoesBy v_3_dayGoesBy l_1_47 ⟨rfl, by decide⟩ rfl (Nat.le_of_ble_eq_true rfl) rfl (Nat.le_of_ble_eq_true rfl) (c3_dayGoesBy 3 (withU y.1 (Su S) (She S)) τ128 b128 (SOK_U hOT hO.2.2.2.1 hO.2.2.2.2) ) ?_
          rintro τ129 ⟨a129, b129⟩
          refine AW.run 11 [false] (37, [(11, .inl ((nI d) + 1)), (9, .inr (.inl (y.2 * (((nI t) - 1).toInt64)))), (12, .inl 0), (0, .inr (.inr (0, 0, 0))), (1, .inr (.inr (2, 0, 0))), (2, .inl (nI b)), (3, .inl (nI n)), (4, .inl (nI t)), (5, .inr (.inl (wayN S b (nI t - 1).toInt64 n c))), (7, .inl (nI (2 ^ n))), (8, .inl (nI c))], [], τ129) [¬ icP .ne (0 : Int32) 0] rfl ?_ ?_
          · exact allP1 (by decide : ¬ (¬ (0 : Int32) = 0))
          rw [nI_1 d]
          refine AW.pick [3, 4, 5, 6, 7, 8, 9, 10, 1, 0] (ls' := [(0, .inr (.inr (0, 0, 0))), (1, .inr (.inr (2, 0, 0))), (2, .inl (nI b)), (3, .inl (nI n)), (4, .inl (nI t)), (5, .inr (.inl (wayN S b (nI t - 1).toInt64 n c))), (7, .inl (nI (2 ^ n))), (8, .inl (nI c)), (9, .inr (.inl (y.2 * (nI t - 1).toInt64))), (11, .inl (nI (d + 1)))]) rfl ?_
          refine hk9 ((dayS (withU y.1 (Su S) (She S))), y.2 * (nI t - 1).toInt64) _ ⟨(only_trans (only_trans hA a128) a129), b129, (SOK_day (SOK_U hOT hO.2.2.2.1 hO.2.2.2.2)), ?_⟩
          rw [hs, hu9, if_pos hp48]
          simp only [hbt, if_true, if_false, Bool.false_eq_true]
        · skip
          refine AW.run 1 [true] (124, [(0, .inr (.inr (0, 0, 0))), (1, .inr (.inr (2, 0, 0))), (2, .inl (nI b)), (3, .inl (nI n)), (4, .inl (nI t)), (5, .inr (.inl (wayN S b (nI t - 1).toInt64 n c))), (7, .inl (nI (2 ^ n))), (8, .inl (nI c)), (9, .inr (.inl y.2)), (11, .inl (nI d))], [], τ) [icP .eq (0 : Int32) 0] rfl ?_ ?_
          · exact allP1 (by decide : ((0 : Int32) = 0))
          refine AW.pick [0, 1, 2, 3, 4, 5, 6, 7, 8, 9] (ls' := [(0, .inr (.inr (0, 0, 0))), (1, .inr (.inr (2, 0, 0))), (2, .inl (nI b)), (3, .inl (nI n)), (4, .inl (nI t)), (5, .inr (.inl (wayN S b (nI t - 1).toInt64 n c))), (7, .inl (nI (2 ^ n))), (8, .inl (nI c)), (9, .inr (.inl y.2)), (11, .inl (nI d))]) rfl ?_
          exact fin y.1 y.2 d τ hA hT hOT (by rw [hs, sty_burst (by rw [hp48]; decide), if_neg (by rw [hp48]; decide)])
      · rw [hbt] at hbit
        refine AW.run 6 [false] (48, [(0, .inr (.inr (0, 0, 0))), (1, .inr (.inr (2, 0, 0))), (2, .inl (nI b)), (3, .inl (nI n)), (4, .inl (nI t)), (5, .inr (.inl (wayN S b (nI t - 1).toInt64 n c))), (7, .inl (nI (2 ^ n))), (8, .inl (nI c)), (9, .inr (.inl y.2)), (11, .inl (nI d))], [.inl (nI b), .inr (.inr (2, 3, 0))], τ) [¬ icP .ge (nI d) (nI n)] rfl ?_ ?_
        · exact allP1 (nI_ge hd (by omega))
        refine AW.callVI (d' := 0) [.inl (nI b)] [] ⟨_, rfl⟩ f_3_isWhole v_3_isWhole l_1_43 ⟨rfl, by decide⟩ rfl (Nat.le_of_ble_eq_true rfl) rfl (Nat.le_of_ble_eq_true rfl) (c3_isWhole 3 y.1 τ hT hOT b (by omega)) ?_
        rintro v _ ⟨rfl, hv⟩
        rcases hv with ⟨rfl, hp48⟩ | ⟨rfl, hp48⟩
        · skip
          refine AW.run 14 [false, false] (79, [(12, .inl 1), (0, .inr (.inr (0, 0, 0))), (1, .inr (.inr (2, 0, 0))), (2, .inl (nI b)), (3, .inl (nI n)), (4, .inl (nI t)), (5, .inr (.inl (wayN S b (nI t - 1).toInt64 n c))), (7, .inl (nI (2 ^ n))), (8, .inl (nI c)), (9, .inr (.inl y.2)), (11, .inl (nI d))], [.inl (τ 2 0 0 10), .inr (.inr (2, 3, 0))], τ) [¬ icP .eq (1 : Int32) 0, ¬ icP .eq (((nI c) >>> ((nI d) &&& 31)) &&& 1) 0] rfl ?_ ?_
          · exact ⟨(by decide : ¬ ((1 : Int32) = 0)), allP1 (by rw [hbit]; exact (by decide : ¬ (1 : Int32) = 0))⟩
          rw [(only_rep hA hR).1.2.2.2.1]
          refine AW.run 4 [false] (93, [(12, .inl 1), (0, .inr (.inr (0, 0, 0))), (1, .inr (.inr (2, 0, 0))), (2, .inl (nI b)), (3, .inl (nI n)), (4, .inl (nI t)), (5, .inr (.inl (wayN S b (nI t - 1).toInt64 n c))), (7, .inl (nI (2 ^ n))), (8, .inl (nI c)), (9, .inr (.inl y.2)), (11, .inl (nI d))], [.inl 9, .inl (nI (Su S)), .inr (.inr (2, 3, 0))], τ) [¬ icP .eq (1 : Int32) 0] rfl ?_ ?_
          · exact allP1 (by decide : ¬ ((1 : Int32) = 0))
          refine AW.callVV (d' := 2) [.inl (nI (Su S)), .inl 9] [] ⟨_, rfl⟩ f_3_nourish v_3_nourish l_1_95 ⟨rfl, by decide⟩ rfl (Nat.le_of_ble_eq_true rfl) rfl (Nat.le_of_ble_eq_true rfl) (c3_nourish 3 y.1 τ hT hOT (Su S) 9 hO.2.2.2.1 (by omega)) ?_
          rintro τ130 ⟨a130, b130⟩
          refine AW.run 2 [] (100, [(12, .inl 1), (0, .inr (.inr (0, 0, 0))), (1, .inr (.inr (2, 0, 0))), (2, .inl (nI b)), (3, .inl (nI n)), (4, .inl (nI t)), (5, .inr (.inl (wayN S b (nI t - 1).toInt64 n c))), (7, .inl (nI (2 ^ n))), (8, .inl (nI c)), (9, .inr (.inl y.2)), (11, .inl (nI d))], [.inr (.inr (2, 3, 0))], τ130) [] rfl ?_ ?_
          · exact trivial
          refine AW.callVV (d' := 2) [] [] ⟨_, rfl⟩ f_3_dayGoesBy v_3_dayGoesBy l_1_47 ⟨rfl, by decide⟩ rfl (Nat.le_of_ble_eq_true rfl) rfl (Nat.le_of_ble_eq_true rfl) (c3_dayGoesBy 3 (withU y.1 (Su S) 9) τ130 b130 (SOK_U hOT hO.2.2.2.1 (by omega)) ) ?_
          rintro τ131 ⟨a131, b131⟩
          refine AW.run 4 [true] (37, [(11, .inl ((nI d) + 1)), (12, .inl 1), (0, .inr (.inr (0, 0, 0))), (1, .inr (.inr (2, 0, 0))), (2, .inl (nI b)), (3, .inl (nI n)), (4, .inl (nI t)), (5, .inr (.inl (wayN S b (nI t - 1).toInt64 n c))), (7, .inl (nI (2 ^ n))), (8, .inl (nI c)), (9, .inr (.inl y.2))], [], τ131) [icP .ne (1 : Int32) 0] rfl ?_ ?_
          · exact allP1 (by decide : (¬ (1 : Int32) = 0))
          rw [nI_1 d]
          refine AW.pick [2, 3, 4, 5, 6, 7, 8, 9, 10, 0] (ls' := [(0, .inr (.inr (0, 0, 0))), (1, .inr (.inr (2, 0, 0))), (2, .inl (nI b)), (3, .inl (nI n)), (4, .inl (nI t)), (5, .inr (.inl (wayN S b (nI t - 1).toInt64 n c))), (7, .inl (nI (2 ^ n))), (8, .inl (nI c)), (9, .inr (.inl y.2)), (11, .inl (nI (d + 1)))]) rfl ?_
          refine hk9 ((dayS (withU y.1 (Su S) 9)), y.2) _ ⟨(only_trans (only_trans hA a130) a131), b131, (SOK_day (SOK_U hOT hO.2.2.2.1 (by omega))), ?_⟩
          rw [hs, hu9, if_pos hp48]
          simp only [hbt, if_true, if_false, Bool.false_eq_true]
        · skip
          refine AW.run 1 [true] (124, [(0, .inr (.inr (0, 0, 0))), (1, .inr (.inr (2, 0, 0))), (2, .inl (nI b)), (3, .inl (nI n)), (4, .inl (nI t)), (5, .inr (.inl (wayN S b (nI t - 1).toInt64 n c))), (7, .inl (nI (2 ^ n))), (8, .inl (nI c)), (9, .inr (.inl y.2)), (11, .inl (nI d))], [], τ) [icP .eq (0 : Int32) 0] rfl ?_ ?_
          · exact allP1 (by decide : ((0 : Int32) = 0))
          refine AW.pick [0, 1, 2, 3, 4, 5, 6, 7, 8, 9] (ls' := [(0, .inr (.inr (0, 0, 0))), (1, .inr (.inr (2, 0, 0))), (2, .inl (nI b)), (3, .inl (nI n)), (4, .inl (nI t)), (5, .inr (.inl (wayN S b (nI t - 1).toInt64 n c))), (7, .inl (nI (2 ^ n))), (8, .inl (nI c)), (9, .inr (.inl y.2)), (11, .inl (nI d))]) rfl ?_
          exact fin y.1 y.2 d τ hA hT hOT (by rw [hs, sty_burst (by rw [hp48]; decide), if_neg (by rw [hp48]; decide)])
    · intro y τ hI
      obtain ⟨hA, hT, hOT, hs⟩ := hI
      rw [Nat.sub_self] at hs
      refine AW.run 3 [true] (124, [(0, .inr (.inr (0, 0, 0))), (1, .inr (.inr (2, 0, 0))), (2, .inl (nI b)), (3, .inl (nI n)), (4, .inl (nI t)), (5, .inr (.inl (wayN S b (nI t - 1).toInt64 n c))), (7, .inl (nI (2 ^ n))), (8, .inl (nI c)), (9, .inr (.inl y.2)), (11, .inl (nI n))], [], τ) [icP .ge (nI n) (nI n)] rfl ?_ ?_
      · exact allP1 (nI_le (Nat.le_refl _) (by omega))
      refine AW.pick [0, 1, 2, 3, 4, 5, 6, 7, 8, 9] (ls' := [(0, .inr (.inr (0, 0, 0))), (1, .inr (.inr (2, 0, 0))), (2, .inl (nI b)), (3, .inl (nI n)), (4, .inl (nI t)), (5, .inr (.inl (wayN S b (nI t - 1).toInt64 n c))), (7, .inl (nI (2 ^ n))), (8, .inl (nI c)), (9, .inr (.inl y.2)), (11, .inl (nI n))]) rfl ?_
      exact fin y.1 y.2 n τ hA hT hOT hs
  · intro _ τ hI
    refine AW.run 4 [true] (150, [(0, .inr (.inr (0, 0, 0))), (1, .inr (.inr (2, 0, 0))), (2, .inl (nI b)), (3, .inl (nI n)), (4, .inl (nI t)), (5, .inr (.inl (wayN S b (nI t - 1).toInt64 n (2 ^ n)))), (7, .inl (nI (2 ^ n))), (8, .inl (nI (2 ^ n)))], [.inr (.inl (wayN S b (nI t - 1).toInt64 n (2 ^ n)))], τ) [icP .ge (nI (2 ^ n)) (nI (2 ^ n))] rfl ?_ ?_
    · exact allP1 (nI_le (Nat.le_refl _) (by omega))
    refine AW.retl ⟨_, rfl⟩ rfl ?_
    exact ⟨rfl, hI⟩
