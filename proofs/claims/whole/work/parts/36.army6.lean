/-! LONG NUMBERS; EUCLID; TWO, EASED, THUNDERS, MEAN -/
theorem lW_toInt {n : Nat} (h : n < 2 ^ 62) : (lN n).toInt = (n : Int) := lg_ofNat_toInt (by omega)
theorem lW_eq {a b : Nat} (ha : a < 2 ^ 62) (hb : b < 2 ^ 62) : lN a = lN b ↔ a = b := by
  rw [← Int64.toInt_inj, lW_toInt ha, lW_toInt hb]; omega
theorem lW_div {a b : Nat} (ha : a < 2 ^ 62) (hb : b < 2 ^ 62) (h0 : 0 < b) : lN a / lN b = lN (a / b) := by
  apply Int64.toInt_inj.mp
  rw [lg_ldiv_nonneg (by rw [lW_toInt ha]; omega) (by rw [lW_toInt hb]; omega), lW_toInt ha, lW_toInt hb, lW_toInt (Nat.lt_of_le_of_lt (Nat.div_le_self a b) ha)]
  exact (Int.natCast_ediv a b).symm
theorem lW_mod {a b : Nat} (ha : a < 2 ^ 62) (hb : b < 2 ^ 62) (h0 : 0 < b) : lN a - lN a / lN b * lN b = lN (a % b) := by
  have h := Nat.div_add_mod a b
  have hle : a / b * b ≤ a := Nat.div_mul_le_self a b
  rw [lW_div ha hb h0, lN_mul, lN_sub hle]
  congr 1
  rw [Nat.mul_comm] at h
  omega
theorem lW_0 {a : Nat} (ha : a < 2 ^ 62) : lN a = (0 : Int64) ↔ a = 0 := lW_eq (b := 0) ha (by decide)
theorem lcm_0 {a : Nat} (ha : a < 2 ^ 62) : lg_cmp (lN a) 0 = 0 ↔ a = 0 := (lg_cmp_eq _ _).trans (lW_0 ha)
/-- Euclid's steps -/
def cmT : Nat → Nat → Nat → Nat
  | 0, g, _ => g
  | k + 1, g, l => if l = 0 then g else cmT k l (g % l)
theorem cmT_0 (k g : Nat) : cmT k g 0 = g := by cases k <;> rfl
theorem mod_half {l r : Nat} (h0 : 0 < r) (h : r < l) : 2 * (l % r) < l := by
  · have h1 := Nat.mod_lt l h0
    have h2 := Nat.div_add_mod l r
    have h3 : 0 < l / r := Nat.div_pos (Nat.le_of_lt h) h0
    have h4 : r ≤ r * (l / r) := Nat.le_mul_of_pos_right r h3
    omega
theorem cmT_gcd : ∀ (j k g l : Nat), l < 2 ^ j → 2 * j ≤ k → cmT k g l = Nat.gcd g l
  | 0, k, g, l, h, _ => by
    obtain rfl : l = 0 := by omega
    rw [cmT_0, Nat.gcd_zero_right]
  | j + 1, k, g, l, h, hk => by
    rcases Nat.eq_zero_or_pos l with h0 | h0
    · subst h0; rw [cmT_0, Nat.gcd_zero_right]
    · obtain ⟨k2, rfl⟩ : ∃ k2, k = k2 + 1 + 1 := ⟨k - 2, by omega⟩
      have hr := Nat.mod_lt g h0
      show (if l = 0 then g else if g % l = 0 then l else cmT k2 (g % l) (l % (g % l))) = _
      rw [if_neg (by omega)]
      by_cases hz : g % l = 0
      · rw [if_pos hz, Nat.gcd_comm, Nat.gcd_rec, hz, Nat.gcd_zero_left]
      · rw [if_neg hz, cmT_gcd j k2 _ _ ?_ (by omega), Nat.gcd_comm (g % l), ← Nat.gcd_rec (g % l) l, ← Nat.gcd_rec l g, Nat.gcd_comm]
        have := mod_half (Nat.pos_of_ne_zero hz) hr
        rw [Nat.pow_succ] at h
        omega
def paT (x y p : Nat) : Int64 := if x = 0 then lN p else lN ((if p = 0 then x else y) / Nat.gcd x y)
/-- a loop by a measure -/
theorem AW.wloop {M : MethT} {d : Nat} {Q : Option AV → St → Prop} {α : Type} (head : Nat) (LS : α → List (Nat × AV)) (I : α → St → Prop) (μ : α → Nat)
    (hstep : ∀ a σ, I a σ → (∀ a' σ', μ a' < μ a → I a' σ' → AW M d Q (head, LS a', [], σ')) → AW M d Q (head, LS a, [], σ)) (a : α) (σ : St) (h : I a σ) : AW M d Q (head, LS a, [], σ) := by
  have key : ∀ n a σ, μ a < n → I a σ → AW M d Q (head, LS a, [], σ) := by
    intro n
    induction n with
    | zero => intro a σ h _; exact absurd h (Nat.not_lt_zero _)
    | succ n ih => intro a σ hn hI; exact hstep a σ hI (fun a' σ' hl hI' => ih a' σ' (by omega) hI')
  exact key (μ a + 1) a σ (Nat.lt_succ_self _) h

set_option maxHeartbeats 4000000 in
set_option maxRecDepth 100000 in
theorem c5_commonMeasure (x y : Nat) (hx : x < 2 ^ 62) (hy : y < 2 ^ 62) (σ : St) : Ct M5_commonMeasure 0 [.inr (.inl (lN x)), .inr (.inl (lN y))] σ (PL fun r9 σ' => lN (Nat.gcd x y) = r9 ∧ σ = σ') := by
  refine Ct.of f_5_commonMeasure (Nat.le_of_ble_eq_true rfl) ?_
  show AW M5_commonMeasure 0 _ (0, [(0, .inr (.inl (lN x))), (2, .inr (.inl (lN y)))], [], σ)
  rw [← cmT_gcd 62 128 x y hy (by decide)]
  refine AW.run 6 [] (9, [(8, .inl 0), (6, .inr (.inl (lN y))), (4, .inr (.inl (lN x))), (0, .inr (.inl (lN x))), (2, .inr (.inl (lN y)))], [], σ) [] rfl ?_ ?_
  · exact trivial
  refine AW.pick [2, 1, 0] (ls' := [(4, .inr (.inl (lN x))), (6, .inr (.inl (lN y))), (8, .inl (nI 0))]) rfl ?_
  refine AW.loop (α := Nat × Nat) 9 128 (fun i q => [(4, .inr (.inl (lN q.1))), (6, .inr (.inl (lN q.2))), (8, .inl (nI i))]) (fun i q τ => σ = τ ∧ q.1 < 2 ^ 62 ∧ q.2 < 2 ^ 62 ∧ cmT 128 x y = cmT (128 - i) q.1 q.2) ?_ ?_ 128 0 (x, y) _ (by omega) ⟨rfl, hx, hy, rfl⟩
  · intro i q τ hi hI hk
    obtain ⟨rfl, hg, hl, hc⟩ := hI
    have hu : cmT (128 - i) q.1 q.2 = if q.2 = 0 then q.1 else cmT (128 - (i + 1)) q.2 (q.1 % q.2) := by
      obtain ⟨k, hk⟩ : ∃ k, 128 - i = k + 1 := ⟨127 - i, by omega⟩
      rw [hk, show 128 - (i + 1) = k by omega]; rfl
    rw [hu] at hc
    by_cases h0 : q.2 = 0
    · have hz := (lcm_0 hl).mpr h0
      refine AW.run 8 [false, true] (47, [(4, .inr (.inl (lN q.1))), (6, .inr (.inl (lN q.2))), (8, .inl (nI i))], [.inr (.inl (lN q.1))], σ) [¬ icP .ge (nI i) 128, icP .eq (lg_cmp (lN q.2) (Int64.ofNat 0)) 0] rfl ?_ ?_
      · exact ⟨(nle_lit (a := 128) hi (by decide)), allP1 (hz)⟩
      refine AW.retl ⟨_, rfl⟩ rfl ?_
      exact ⟨by rw [hc, if_pos h0], rfl⟩
    · have hz := fun h => h0 ((lcm_0 hl).mp h)
      have hnz : ¬ lN q.2 = 0 := fun h => h0 ((lW_0 hl).mp h)
      refine AW.run 10 [false, false] (29, [(4, .inr (.inl (lN q.1))), (6, .inr (.inl (lN q.2))), (8, .inl (nI i))], [.inr (.inl ((lN q.1) - (lN q.1) / (lN q.2) * (lN q.2)))], σ) [¬ icP .ge (nI i) 128, ¬ icP .eq (lg_cmp (lN q.2) (Int64.ofNat 0)) 0, ¬ ((lN q.2) : Int64) = 0] rfl ?_ ?_
      · exact ⟨(nle_lit (a := 128) hi (by decide)), (hz), allP1 (by assumption)⟩
      rw [lW_mod hg hl (Nat.pos_of_ne_zero h0)]
      refine AW.run 7 [] (9, [(8, .inl ((nI i) + 1)), (6, .inr (.inl (lN (q.1 % q.2)))), (4, .inr (.inl (lN q.2))), (9, .inr (.inl (lN (q.1 % q.2))))], [], σ) [] rfl ?_ ?_
      · exact trivial
      rw [nI_1 i]
      refine AW.pick [2, 1, 0] (ls' := [(4, .inr (.inl (lN q.2))), (6, .inr (.inl (lN (q.1 % q.2)))), (8, .inl (nI (i + 1)))]) rfl ?_
      exact hk (q.2, q.1 % q.2) _ ⟨rfl, hl, Nat.lt_of_le_of_lt (Nat.mod_le _ _) hg, by rw [hc, if_neg h0]⟩
  · intro q τ hI
    obtain ⟨rfl, hg, hl, hc⟩ := hI
    refine AW.run 4 [true] (47, [(4, .inr (.inl (lN q.1))), (6, .inr (.inl (lN q.2))), (8, .inl (nI 128))], [.inr (.inl (lN q.1))], σ) [icP .ge (nI 128) 128] rfl ?_ ?_
    · exact allP1 (le_lit (a := 128) (b := 128) (by decide) (by decide))
    refine AW.retl ⟨_, rfl⟩ rfl ?_
    exact ⟨by rw [hc]; rfl, rfl⟩
set_option maxHeartbeats 4000000 in
set_option maxRecDepth 100000 in
theorem c5_partOf (x y p : Nat) (hx : x < 2 ^ 62) (hy : y < 2 ^ 62) (hp : p ≤ 1) (σ : St) : Ct M5_partOf 1 [.inr (.inl (lN x)), .inr (.inl (lN y)), .inl (nI p)] σ (PL fun r9 σ' => paT x y p = r9 ∧ σ = σ') := by
  refine Ct.of f_5_partOf (Nat.le_of_ble_eq_true rfl) ?_
  show AW M5_partOf 1 _ (0, [(0, .inr (.inl (lN x))), (2, .inr (.inl (lN y))), (4, .inl (nI p))], [], σ)
  have hg : Nat.gcd x y < 2 ^ 62 := by
    rcases Nat.eq_zero_or_pos x with h | h
    · subst h; rw [Nat.gcd_zero_left]; exact hy
    · exact Nat.lt_of_le_of_lt (Nat.gcd_le_left y h) hx
  have e1 := nI_l (n := p) (by omega)
  have hc1 := lcm_0 hx
  have hc2 := lcm_0 hg
  have hn1 : x = 0 → p = 0 ∨ p = 1 := fun _ => by omega
  have hg0 : ¬ x = 0 → 0 < Nat.gcd x y := fun h => Nat.gcd_pos_of_pos_left y (Nat.pos_of_ne_zero h)
  by_cases h0 : x = 0
  · skip
    refine AW.run 2 [] (2, [(0, .inr (.inl (lN x))), (2, .inr (.inl (lN y))), (4, .inl (nI p))], [.inr (.inl (lN y)), .inr (.inl (lN x))], σ) [] rfl ?_ ?_
    · exact trivial
    refine AW.callSL (d' := 0) [.inr (.inl (lN x)), .inr (.inl (lN y))] [] ⟨_, rfl⟩ f_5_commonMeasure s_5_commonMeasure l_5_288 rfl (Nat.le_of_ble_eq_true rfl) rfl (Nat.le_of_ble_eq_true rfl) (c5_commonMeasure x y hx hy σ) ?_
    rintro _ _ ⟨rfl, rfl⟩
    refine AW.run 7 [true] (23, [(5, .inr (.inl (lN (Nat.gcd x y)))), (0, .inr (.inl (lN x))), (2, .inr (.inl (lN y))), (4, .inl (nI p))], [.inr (.inl ((nI p).toInt64))], σ) [icP .eq (lg_cmp (lN x) (Int64.ofNat 0)) 0] rfl ?_ ?_
    · exact allP1 (hc1.mpr h0)
    refine AW.retl ⟨_, rfl⟩ rfl ?_
    exact ⟨by unfold paT; rw [if_pos h0, e1], rfl⟩
  · have hgp := hg0 h0
    have hnz : ¬ lN (Nat.gcd x y) = 0 := fun h => absurd ((lW_0 hg).mp h) (Nat.ne_of_gt hgp)
    rcases (show p = 0 ∨ p = 1 by omega) with rfl | rfl
    · skip
      refine AW.run 2 [] (2, [(0, .inr (.inl (lN x))), (2, .inr (.inl (lN y))), (4, .inl (nI 0))], [.inr (.inl (lN y)), .inr (.inl (lN x))], σ) [] rfl ?_ ?_
      · exact trivial
      refine AW.callSL (d' := 0) [.inr (.inl (lN x)), .inr (.inl (lN y))] [] ⟨_, rfl⟩ f_5_commonMeasure s_5_commonMeasure l_5_288 rfl (Nat.le_of_ble_eq_true rfl) rfl (Nat.le_of_ble_eq_true rfl) (c5_commonMeasure x y hx hy σ) ?_
      rintro _ _ ⟨rfl, rfl⟩
      refine AW.run 15 [false, true, false] (40, [(5, .inr (.inl (lN (Nat.gcd x y)))), (0, .inr (.inl (lN x))), (2, .inr (.inl (lN y))), (4, .inl (nI 0))], [.inr (.inl ((lN x) / (lN (Nat.gcd x y))))], σ) [¬ icP .eq (lg_cmp (lN x) (Int64.ofNat 0)) 0, icP .ne (lg_cmp (lN (Nat.gcd x y)) (Int64.ofNat 0)) 0, ¬ icP .ne (nI 0) 0, ¬ ((lN (Nat.gcd x y)) : Int64) = 0] rfl ?_ ?_
      · exact ⟨(fun h => h0 (hc1.mp h)), (fun h => absurd (hc2.mp h) (Nat.ne_of_gt hgp)), (fun q => q rfl), allP1 (by assumption)⟩
      refine AW.retl ⟨_, rfl⟩ rfl ?_
      exact ⟨by unfold paT; rw [if_neg h0, lW_div hx hg hgp]; rfl, rfl⟩
    · skip
      refine AW.run 2 [] (2, [(0, .inr (.inl (lN x))), (2, .inr (.inl (lN y))), (4, .inl (nI 1))], [.inr (.inl (lN y)), .inr (.inl (lN x))], σ) [] rfl ?_ ?_
      · exact trivial
      refine AW.callSL (d' := 0) [.inr (.inl (lN x)), .inr (.inl (lN y))] [] ⟨_, rfl⟩ f_5_commonMeasure s_5_commonMeasure l_5_288 rfl (Nat.le_of_ble_eq_true rfl) rfl (Nat.le_of_ble_eq_true rfl) (c5_commonMeasure x y hx hy σ) ?_
      rintro _ _ ⟨rfl, rfl⟩
      refine AW.run 14 [false, true, true] (40, [(5, .inr (.inl (lN (Nat.gcd x y)))), (0, .inr (.inl (lN x))), (2, .inr (.inl (lN y))), (4, .inl (nI 1))], [.inr (.inl ((lN y) / (lN (Nat.gcd x y))))], σ) [¬ icP .eq (lg_cmp (lN x) (Int64.ofNat 0)) 0, icP .ne (lg_cmp (lN (Nat.gcd x y)) (Int64.ofNat 0)) 0, icP .ne (nI 1) 0, ¬ ((lN (Nat.gcd x y)) : Int64) = 0] rfl ?_ ?_
      · exact ⟨(fun h => h0 (hc1.mp h)), (fun h => absurd (hc2.mp h) (Nat.ne_of_gt hgp)), ((by decide : ¬ nI 1 = 0)), allP1 (by assumption)⟩
      refine AW.retl ⟨_, rfl⟩ rfl ?_
      exact ⟨by unfold paT; rw [if_neg h0, lW_div hy hg hgp]; rfl, rfl⟩
def rfuL (F : Gv) (k : Nat) : Int64 × Gv := (Int64.ofNat 4000000000000000000 - (cod k).toInt64, rfuF F k)
def QL (σ : St) (r : Int64 × Gv) : Option AV → St → Prop := PL fun v σ' => ∃ F', r = (v, F') ∧ RepA σ' F' ∧ Oth σ σ'
/-- ways as numbers -/
def styT (S : Sv) (b m c : Nat) : Nat → Nat → Sv → Nat → Nat
  | 0, _, T, w => if Sw T b = true then w else 0
  | k + 1, d, T, w => if Sw T b = true then styT S b m c k (d + 1) (dayS (withU T (Su S) (if c.testBit d = true then 9 else She S))) (if c.testBit d = true then w else w * m) else 0
def wayT (S : Sv) (b m n : Nat) : Nat → Nat
  | 0 => 0
  | c + 1 => wayT S b m n c + styT S b m c n 0 S 1
theorem sty_T {S : Sv} {b m c : Nat} : ∀ (k d : Nat) (T : Sv) (w : Nat), styN S b (lN m) c k d T (lN w) = lN (styT S b m c k d T w)
  | 0, d, T, w => by
    unfold styN styT
    split <;> rfl
  | k + 1, d, T, w => by
    unfold styN styT
    split
    · cases c.testBit d
      · show styN S b (lN m) c k (d + 1) _ (lN w * lN m) = lN (styT S b m c k (d + 1) _ (w * m))
        rw [lN_mul]; exact sty_T k (d + 1) _ _
      · exact sty_T k (d + 1) _ _
    · rfl
theorem way_T {S : Sv} {b m n : Nat} : ∀ c, wayN S b (lN m) n c = lN (wayT S b m n c)
  | 0 => rfl
  | c + 1 => by
    unfold wayN wayT
    rw [way_T c, show (1 : Int64) = lN 1 from rfl, sty_T, lN_add]
theorem sty_le {S : Sv} {b m c : Nat} (hm : 1 ≤ m) : ∀ (k d : Nat) (T : Sv) (w : Nat), styT S b m c k d T w ≤ w * m ^ k
  | 0, d, T, w => by
    unfold styT
    split
    · rw [Nat.pow_zero, Nat.mul_one]; exact Nat.le_refl _
    · exact Nat.zero_le _
  | k + 1, d, T, w => by
    unfold styT
    split
    · cases c.testBit d
      · refine Nat.le_trans (sty_le hm k (d + 1) _ (w * m)) ?_
        rw [Nat.pow_succ, Nat.mul_assoc, Nat.mul_comm m]; exact Nat.le_refl _
      · refine Nat.le_trans (sty_le hm k (d + 1) _ w) (Nat.mul_le_mul_left w ?_)
        rw [Nat.pow_succ]; exact Nat.le_mul_of_pos_right _ hm
    · exact Nat.zero_le _
theorem way_le {S : Sv} {b m n : Nat} (hm : 1 ≤ m) : ∀ c, wayT S b m n c ≤ c * m ^ n
  | 0 => Nat.zero_le _
  | c + 1 => by
    unfold wayT
    have h1 := way_le (S := S) (b := b) (n := n) hm c
    have h2 := sty_le (S := S) (b := b) (c := c) hm n 0 S 1
    rw [Nat.one_mul] at h2
    rw [Nat.succ_mul]
    exact Nat.add_le_add h1 h2
theorem way_lt {S : Sv} {b m n c : Nat} (hm : 1 ≤ m) (hm2 : m ≤ 19) (hn : n ≤ 7) (hc : c ≤ 128) : wayT S b m n c < 2 ^ 62 := by
  have h1 := way_le (S := S) (b := b) (n := n) hm c
  have h2 : m ^ n ≤ 19 ^ 7 := Nat.le_trans (Nat.pow_le_pow_left hm2 n) (Nat.pow_le_pow_right (by decide) hn)
  have h3 : c * m ^ n ≤ 128 * 19 ^ 7 := Nat.mul_le_mul hc h2
  have h4 : (128 * 19 ^ 7 : Nat) < 2 ^ 62 := by decide
  omega
def thundersP (F : Gv) (b n t p : Int32) : Int64 × Gv := match botI (Sn F.1) b with
  | none => rfuL F 1
  | some k => if n < 0 ∨ t < 2 then rfuL F 4 else if nI 7 < n ∨ nI 20 < t then rfuL F 6 else if p = 0 ∨ p = 1 then (paT (wayT F.1 k (t.toNatClampNeg - 1) n.toNatClampNeg (2 ^ n.toNatClampNeg)) (t.toNatClampNeg ^ n.toNatClampNeg) p.toNatClampNeg, F) else rfuL F 2
def meanP (F : Gv) (p : Int32) : Int64 × Gv := if p = 0 ∨ p = 1 then (if cN (Sw F.1) = 0 then lN p.toNatClampNeg else paT (psum F.1 8) (cN (Sw F.1)) p.toNatClampNeg, F) else rfuL F 2

set_option maxHeartbeats 4000000 in
set_option maxRecDepth 100000 in
theorem c5_refuseLong1 (σ : St) : Ct M5_refuseLong 1 [.inr (.inr (4, 0, 0)), .inl (-1)] σ (PL fun r9 σ' => Int64.ofNat 4000000000000000000 - (-1 : Int32).toInt64 = r9 ∧ setM σ 4 0 8 1 (σ 4 0 8 1 + 1) = σ') := by
  refine Ct.of f_5_refuseLong (Nat.le_of_ble_eq_true rfl) ?_
  show AW M5_refuseLong 1 _ (0, [(0, .inr (.inr (4, 0, 0))), (1, .inl (-1))], [], σ)
  refine AW.run 3 [] (5, [(0, .inr (.inr (4, 0, 0))), (1, .inl (-1))], [.inl (-1), .inr (.inr (4, 0, 0)), .inr (.inl (Int64.ofNat 4000000000000000000))], σ) [] rfl ?_ ?_
  · exact trivial
  refine AW.callVI (d' := 0) [.inl (-1)] [.inr (.inl (Int64.ofNat 4000000000000000000))] ⟨_, rfl⟩ f_5_refuse v_5_refuse l_5_50 ⟨rfl, by decide⟩ rfl (Nat.le_of_ble_eq_true rfl) rfl (Nat.le_of_ble_eq_true rfl) (c5_refuse1 σ) ?_
  rintro _ _ ⟨rfl, rfl⟩
  refine AW.run 2 [] (10, [(0, .inr (.inr (4, 0, 0))), (1, .inl (-1))], [.inr (.inl ((Int64.ofNat 4000000000000000000) - (((-1) : Int32).toInt64)))], (setM σ 4 0 8 1 (σ 4 0 8 1 + 1))) [] rfl ?_ ?_
  · exact trivial
  refine AW.retl ⟨_, rfl⟩ rfl ?_
  exact ⟨rfl, rfl⟩
set_option maxHeartbeats 4000000 in
set_option maxRecDepth 100000 in
theorem c5_refuseLong2 (σ : St) : Ct M5_refuseLong 1 [.inr (.inr (4, 0, 0)), .inl (-2)] σ (PL fun r9 σ' => Int64.ofNat 4000000000000000000 - (-2 : Int32).toInt64 = r9 ∧ setM σ 4 0 8 2 (σ 4 0 8 2 + 1) = σ') := by
  refine Ct.of f_5_refuseLong (Nat.le_of_ble_eq_true rfl) ?_
  show AW M5_refuseLong 1 _ (0, [(0, .inr (.inr (4, 0, 0))), (1, .inl (-2))], [], σ)
  refine AW.run 3 [] (5, [(0, .inr (.inr (4, 0, 0))), (1, .inl (-2))], [.inl (-2), .inr (.inr (4, 0, 0)), .inr (.inl (Int64.ofNat 4000000000000000000))], σ) [] rfl ?_ ?_
  · exact trivial
  refine AW.callVI (d' := 0) [.inl (-2)] [.inr (.inl (Int64.ofNat 4000000000000000000))] ⟨_, rfl⟩ f_5_refuse v_5_refuse l_5_50 ⟨rfl, by decide⟩ rfl (Nat.le_of_ble_eq_true rfl) rfl (Nat.le_of_ble_eq_true rfl) (c5_refuse2 σ) ?_
  rintro _ _ ⟨rfl, rfl⟩
  refine AW.run 2 [] (10, [(0, .inr (.inr (4, 0, 0))), (1, .inl (-2))], [.inr (.inl ((Int64.ofNat 4000000000000000000) - (((-2) : Int32).toInt64)))], (setM σ 4 0 8 2 (σ 4 0 8 2 + 1))) [] rfl ?_ ?_
  · exact trivial
  refine AW.retl ⟨_, rfl⟩ rfl ?_
  exact ⟨rfl, rfl⟩
set_option maxHeartbeats 4000000 in
set_option maxRecDepth 100000 in
theorem c5_refuseLong4 (σ : St) : Ct M5_refuseLong 1 [.inr (.inr (4, 0, 0)), .inl (-4)] σ (PL fun r9 σ' => Int64.ofNat 4000000000000000000 - (-4 : Int32).toInt64 = r9 ∧ setM σ 4 0 8 4 (σ 4 0 8 4 + 1) = σ') := by
  refine Ct.of f_5_refuseLong (Nat.le_of_ble_eq_true rfl) ?_
  show AW M5_refuseLong 1 _ (0, [(0, .inr (.inr (4, 0, 0))), (1, .inl (-4))], [], σ)
  refine AW.run 3 [] (5, [(0, .inr (.inr (4, 0, 0))), (1, .inl (-4))], [.inl (-4), .inr (.inr (4, 0, 0)), .inr (.inl (Int64.ofNat 4000000000000000000))], σ) [] rfl ?_ ?_
  · exact trivial
  refine AW.callVI (d' := 0) [.inl (-4)] [.inr (.inl (Int64.ofNat 4000000000000000000))] ⟨_, rfl⟩ f_5_refuse v_5_refuse l_5_50 ⟨rfl, by decide⟩ rfl (Nat.le_of_ble_eq_true rfl) rfl (Nat.le_of_ble_eq_true rfl) (c5_refuse4 σ) ?_
  rintro _ _ ⟨rfl, rfl⟩
  refine AW.run 2 [] (10, [(0, .inr (.inr (4, 0, 0))), (1, .inl (-4))], [.inr (.inl ((Int64.ofNat 4000000000000000000) - (((-4) : Int32).toInt64)))], (setM σ 4 0 8 4 (σ 4 0 8 4 + 1))) [] rfl ?_ ?_
  · exact trivial
  refine AW.retl ⟨_, rfl⟩ rfl ?_
  exact ⟨rfl, rfl⟩
set_option maxHeartbeats 4000000 in
set_option maxRecDepth 100000 in
theorem c5_refuseLong6 (σ : St) : Ct M5_refuseLong 1 [.inr (.inr (4, 0, 0)), .inl (-6)] σ (PL fun r9 σ' => Int64.ofNat 4000000000000000000 - (-6 : Int32).toInt64 = r9 ∧ setM σ 4 0 8 6 (σ 4 0 8 6 + 1) = σ') := by
  refine Ct.of f_5_refuseLong (Nat.le_of_ble_eq_true rfl) ?_
  show AW M5_refuseLong 1 _ (0, [(0, .inr (.inr (4, 0, 0))), (1, .inl (-6))], [], σ)
  refine AW.run 3 [] (5, [(0, .inr (.inr (4, 0, 0))), (1, .inl (-6))], [.inl (-6), .inr (.inr (4, 0, 0)), .inr (.inl (Int64.ofNat 4000000000000000000))], σ) [] rfl ?_ ?_
  · exact trivial
  refine AW.callVI (d' := 0) [.inl (-6)] [.inr (.inl (Int64.ofNat 4000000000000000000))] ⟨_, rfl⟩ f_5_refuse v_5_refuse l_5_50 ⟨rfl, by decide⟩ rfl (Nat.le_of_ble_eq_true rfl) rfl (Nat.le_of_ble_eq_true rfl) (c5_refuse6 σ) ?_
  rintro _ _ ⟨rfl, rfl⟩
  refine AW.run 2 [] (10, [(0, .inr (.inr (4, 0, 0))), (1, .inl (-6))], [.inr (.inl ((Int64.ofNat 4000000000000000000) - (((-6) : Int32).toInt64)))], (setM σ 4 0 8 6 (σ 4 0 8 6 + 1))) [] rfl ?_ ?_
  · exact trivial
  refine AW.retl ⟨_, rfl⟩ rfl ?_
  exact ⟨rfl, rfl⟩
theorem psum_lt (S : Sv) (hO : SOK S) : psum S 8 < 2 ^ 31 := by
  have h : ∀ k, psum S k ≤ 99 * k := by
    intro k
    induction k with
    | zero => exact Nat.zero_le _
    | succ k ih =>
      have := (hO.2.1 k).2.2.2
      unfold psum
      split <;> omega
  have := h 8
  omega
set_option maxHeartbeats 4000000 in
set_option maxRecDepth 100000 in
theorem c5_mean (F : Gv) (σ : St) (hA : RepA σ F) (hF : FOK F) (p : Int32) : Ct M5_mean 2 [.inr (.inr (4, 0, 0)), .inl p] σ (QL σ (meanP F p)) := by
  refine Ct.of f_5_mean (Nat.le_of_ble_eq_true rfl) ?_
  show AW M5_mean 2 _ (0, [(0, .inr (.inr (4, 0, 0))), (1, .inl p)], [], σ)
  have hS : RepS (σ 2 0) F.1 := hA.1
  have hO : SOK F.1 := hF.1.1
  have hn8 : Sn F.1 ≤ 8 := hO.1
  have hps := psum_lt F.1 hO
  have hcn := cN_le (Sw F.1)
  have hmz : ∀ p, paT (psum F.1 8) (cN (Sw F.1)) p = if cN (Sw F.1) = 0 then lN p else paT (psum F.1 8) (cN (Sw F.1)) p := by
    intro p
    split
    · rename_i h
      have hw : ∀ i, i < 8 → Sw F.1 i = false := by
        intro i hi
        unfold cN c8 at h
        rcases lt8 hi with rfl | rfl | rfl | rfl | rfl | rfl | rfl | rfl <;> (cases hx : Sw F.1 _ <;> simp_all)
      have : psum F.1 8 = 0 := by
        simp [psum, hw]
      unfold paT
      rw [if_pos this]
    · rfl
  by_cases h0 : p = 0
  · subst h0
    refine AW.run 1 [] (1, [(0, .inr (.inr (4, 0, 0))), (1, .inl 0)], [.inl 0], σ) [] rfl ?_ ?_
    · exact trivial
    refine AW.callSI (d' := 0) [.inl 0] [] ⟨_, rfl⟩ f_5_isNoTwo s_5_isNoTwo l_5_114 rfl (Nat.le_of_ble_eq_true rfl) rfl (Nat.le_of_ble_eq_true rfl) (c5_isNoTwo0 σ) ?_
    rintro _ _ ⟨rfl, rfl⟩
    refine AW.run 3 [true] (18, [(0, .inr (.inr (4, 0, 0))), (1, .inl 0)], [.inr (.inr (2, 0, 0))], σ) [icP .eq (0 : Int32) 0] rfl ?_ ?_
    · exact allP1 (by decide : ((0 : Int32) = 0))
    refine AW.callVI (d' := 1) [] [] ⟨_, rfl⟩ f_3_pressOfWhole v_3_pressOfWhole l_5_163 ⟨rfl, by decide⟩ rfl (Nat.le_of_ble_eq_true rfl) rfl (Nat.le_of_ble_eq_true rfl) (c3_pressOfWhole 0 F.1 σ hS hO) ?_
    rintro _ _ ⟨rfl, rfl⟩
    refine AW.run 1 [] (22, [(0, .inr (.inr (4, 0, 0))), (1, .inl 0)], [.inr (.inl ((nI (psum F.1 8)).toInt64))], σ) [] rfl ?_ ?_
    · exact trivial
    rw [nI_l hps]
    refine AW.run 3 [] (29, [(0, .inr (.inr (4, 0, 0))), (1, .inl 0)], [.inl (σ 2 0 0 8), .inr (.inl (lN (psum F.1 8)))], σ) [] rfl ?_ ?_
    · exact trivial
    rw [(hS).1.2.1]
    refine AW.callSI (d' := 0) [.inl (bI (Sw F.1))] [.inr (.inl (lN (psum F.1 8)))] ⟨_, rfl⟩ f_J_bitCount s_J_bitCount l_5_145 rfl (Nat.le_of_ble_eq_true rfl) rfl (Nat.le_of_ble_eq_true rfl) (cJ_bitCount (bI (Sw F.1)) σ) ?_
    rintro _ _ ⟨rfl, rfl⟩
    rw [bcV_bI]
    refine AW.run 1 [] (33, [(0, .inr (.inr (4, 0, 0))), (1, .inl 0)], [.inr (.inl ((nI (cN (Sw F.1))).toInt64)), .inr (.inl (lN (psum F.1 8)))], σ) [] rfl ?_ ?_
    · exact trivial
    rw [nI_l (by omega)]
    refine AW.run 1 [] (34, [(0, .inr (.inr (4, 0, 0))), (1, .inl 0)], [.inl 0, .inr (.inl (lN (cN (Sw F.1)))), .inr (.inl (lN (psum F.1 8)))], σ) [] rfl ?_ ?_
    · exact trivial
    refine AW.callSL (d' := 1) [.inr (.inl (lN (psum F.1 8))), .inr (.inl (lN (cN (Sw F.1)))), .inl 0] [] ⟨_, rfl⟩ f_5_partOf s_5_partOf l_5_241 rfl (Nat.le_of_ble_eq_true rfl) rfl (Nat.le_of_ble_eq_true rfl) (c5_partOf (psum F.1 8) (cN (Sw F.1)) 0 (by omega) (by omega) (by decide) σ) ?_
    rintro _ _ ⟨rfl, rfl⟩
    refine AW.retl ⟨_, rfl⟩ rfl ?_
    exact ⟨F, by unfold meanP; rw [if_pos (by decide), ← hmz]; rfl, RepA_mind onlyM_rfl hA⟩
  by_cases h1 : p = 1
  · subst h1
    refine AW.run 1 [] (1, [(0, .inr (.inr (4, 0, 0))), (1, .inl 1)], [.inl 1], σ) [] rfl ?_ ?_
    · exact trivial
    refine AW.callSI (d' := 0) [.inl 1] [] ⟨_, rfl⟩ f_5_isNoTwo s_5_isNoTwo l_5_114 rfl (Nat.le_of_ble_eq_true rfl) rfl (Nat.le_of_ble_eq_true rfl) (c5_isNoTwo1 σ) ?_
    rintro _ _ ⟨rfl, rfl⟩
    refine AW.run 3 [true] (18, [(0, .inr (.inr (4, 0, 0))), (1, .inl 1)], [.inr (.inr (2, 0, 0))], σ) [icP .eq (0 : Int32) 0] rfl ?_ ?_
    · exact allP1 (by decide : ((0 : Int32) = 0))
    refine AW.callVI (d' := 1) [] [] ⟨_, rfl⟩ f_3_pressOfWhole v_3_pressOfWhole l_5_163 ⟨rfl, by decide⟩ rfl (Nat.le_of_ble_eq_true rfl) rfl (Nat.le_of_ble_eq_true rfl) (c3_pressOfWhole 0 F.1 σ hS hO) ?_
    rintro _ _ ⟨rfl, rfl⟩
    refine AW.run 1 [] (22, [(0, .inr (.inr (4, 0, 0))), (1, .inl 1)], [.inr (.inl ((nI (psum F.1 8)).toInt64))], σ) [] rfl ?_ ?_
    · exact trivial
    rw [nI_l hps]
    refine AW.run 3 [] (29, [(0, .inr (.inr (4, 0, 0))), (1, .inl 1)], [.inl (σ 2 0 0 8), .inr (.inl (lN (psum F.1 8)))], σ) [] rfl ?_ ?_
    · exact trivial
    rw [(hS).1.2.1]
    refine AW.callSI (d' := 0) [.inl (bI (Sw F.1))] [.inr (.inl (lN (psum F.1 8)))] ⟨_, rfl⟩ f_J_bitCount s_J_bitCount l_5_145 rfl (Nat.le_of_ble_eq_true rfl) rfl (Nat.le_of_ble_eq_true rfl) (cJ_bitCount (bI (Sw F.1)) σ) ?_
    rintro _ _ ⟨rfl, rfl⟩
    rw [bcV_bI]
    refine AW.run 1 [] (33, [(0, .inr (.inr (4, 0, 0))), (1, .inl 1)], [.inr (.inl ((nI (cN (Sw F.1))).toInt64)), .inr (.inl (lN (psum F.1 8)))], σ) [] rfl ?_ ?_
    · exact trivial
    rw [nI_l (by omega)]
    refine AW.run 1 [] (34, [(0, .inr (.inr (4, 0, 0))), (1, .inl 1)], [.inl 1, .inr (.inl (lN (cN (Sw F.1)))), .inr (.inl (lN (psum F.1 8)))], σ) [] rfl ?_ ?_
    · exact trivial
    refine AW.callSL (d' := 1) [.inr (.inl (lN (psum F.1 8))), .inr (.inl (lN (cN (Sw F.1)))), .inl 1] [] ⟨_, rfl⟩ f_5_partOf s_5_partOf l_5_241 rfl (Nat.le_of_ble_eq_true rfl) rfl (Nat.le_of_ble_eq_true rfl) (c5_partOf (psum F.1 8) (cN (Sw F.1)) 1 (by omega) (by omega) (by decide) σ) ?_
    rintro _ _ ⟨rfl, rfl⟩
    refine AW.retl ⟨_, rfl⟩ rfl ?_
    exact ⟨F, by unfold meanP; rw [if_pos (by decide), ← hmz]; rfl, RepA_mind onlyM_rfl hA⟩
  · skip
    refine AW.run 1 [] (1, [(0, .inr (.inr (4, 0, 0))), (1, .inl p)], [.inl p], σ) [] rfl ?_ ?_
    · exact trivial
    refine AW.callSI (d' := 0) [.inl p] [] ⟨_, rfl⟩ f_5_isNoTwo s_5_isNoTwo l_5_114 rfl (Nat.le_of_ble_eq_true rfl) rfl (Nat.le_of_ble_eq_true rfl) (c5_isNoTwoN p h0 h1 σ) ?_
    rintro _ _ ⟨rfl, rfl⟩
    refine AW.run 3 [false] (10, [(0, .inr (.inr (4, 0, 0))), (1, .inl p)], [.inl (-2), .inr (.inr (4, 0, 0))], σ) [¬ icP .eq (1 : Int32) 0] rfl ?_ ?_
    · exact allP1 (by decide : ¬ ((1 : Int32) = 0))
    refine AW.callVL (d' := 1) [.inl (-2)] [] ⟨_, rfl⟩ f_5_refuseLong v_5_refuseLong l_5_233 ⟨rfl, by decide⟩ rfl (Nat.le_of_ble_eq_true rfl) rfl (Nat.le_of_ble_eq_true rfl) (c5_refuseLong2 σ) ?_
    rintro _ _ ⟨rfl, rfl⟩
    refine AW.retl ⟨_, rfl⟩ rfl ?_
    exact ⟨rfuF F 2, by unfold meanP; rw [if_neg (fun h => h.elim h0 h1)]; rfl, RepA_ref hA (by decide) (by decide)⟩
