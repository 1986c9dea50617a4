/-! LOTS, THUNDERS -/
/-- ways, all days gone through -/
def styM (S : Sv) (b m c : Nat) : Nat → Nat → Sv → Nat → Nat
  | 0, _, T, w => if Sw T b = true then w else 0
  | k + 1, d, T, w => styM S b m c k (d + 1) (dayS (withU T (Su S) (if c.testBit d = true then 9 else She S))) (if c.testBit d = true then w else w * m)
theorem styM_0 {S : Sv} {b m c : Nat} : ∀ (k d : Nat) (T : Sv) (w : Nat), Sw T b = false → styM S b m c k d T w = 0
  | 0, d, T, w, h => if_neg (by rw [h]; decide)
  | k + 1, d, T, w, h => by
    unfold styM
    refine styM_0 k (d + 1) _ _ ?_
    cases hx : Sw (dayS (withU T (Su S) (if c.testBit d = true then 9 else She S))) b with
    | false => rfl
    | true =>
      have h9 : Sw T b = true := day_w (S := withU T (Su S) (if c.testBit d = true then 9 else She S)) hx
      rw [h] at h9; cases h9
theorem styM_T {S : Sv} {b m c : Nat} : ∀ (k d : Nat) (T : Sv) (w : Nat), styM S b m c k d T w = styT S b m c k d T w
  | 0, _, _, _ => rfl
  | k + 1, d, T, w => by
    unfold styT
    by_cases h : Sw T b = true
    · rw [if_pos h, ← styM_T k (d + 1)]; rfl
    · rw [if_neg h, styM_0 (k + 1) d T w (Bool.eq_false_iff.mpr h)]
theorem has_t {c d : Nat} (hc : c < 128) (hd : d < 7) (h : c.testBit d = true) : (if (nI c >>> (nI d &&& 31)) &&& 1 = 1 then 1 else 0) = (1 : Int32) := by
  rw [bit_c c hc d hd, if_pos h, if_pos rfl]
theorem has_f {c d : Nat} (hc : c < 128) (hd : d < 7) (h : c.testBit d = false) : (if (nI c >>> (nI d &&& 31)) &&& 1 = 1 then 1 else 0) = (0 : Int32) := by
  rw [bit_c c hc d hd, h]; rfl
theorem shl_n {n : Nat} (h : n ≤ 7) : (1 : Int32) <<< (nI n &&& 31) = nI (2 ^ n) := by
  have h9 : ∀ n < 8, (1 : Int32) <<< (nI n &&& 31) = nI (2 ^ n) := by decide +kernel
  exact h9 n (by omega)
theorem smr_s (S : Sv) (z : Int32) (T : Sv) {d : Nat} (hd : d < 10) : smr S (10 - d) z T = smr S (10 - (d + 1)) (lotZ z) (dayS (withU T (Su S) (drw (lotZ z)))) := by
  obtain ⟨m, hm⟩ : ∃ m, 10 - d = m + 1 := ⟨9 - d, by omega⟩
  rw [hm, show 10 - (d + 1) = m by omega]; rfl
theorem lot_s (S : Sv) (w : Nat) (z : Int32) (s : Nat) {n i : Nat} (hi : i < n) : lotN S w (n - i) z s = lotN S w (n - (i + 1)) (smr S 10 z S).1 (s + tally w (smr S 10 z S).2) := by
  obtain ⟨m, hm⟩ : ∃ m, n - i = m + 1 := ⟨n - i - 1, by omega⟩
  rw [hm, show n - (i + 1) = m by omega]; rfl
theorem smr_e {S : Sv} {x z : Int32} {U T : Sv} (h : smr S 10 x U = smr S (10 - 10) z T) : smr S 10 x U = (z, T) := h
theorem RepDL_ref {σ : St} {F : Gv} {k : Nat} {r : Int64 × Gv} (hF : FOK F) (hD : RepD σ F) (hk : 1 ≤ k) (hk2 : k ≤ 6) (h : r = rfuL F k) : ∃ F', r = (Int64.ofNat 4000000000000000000 - (cod k).toInt64, F') ∧ RepD (setM σ 5 0 1 k (σ 5 0 1 k + 1)) F' ∧ Fr TT σ (setM σ 5 0 1 k (σ 5 0 1 k + 1)) := ⟨rfuF F k, h, RepD_ref hF hD hk hk2⟩

set_option maxHeartbeats 4000000 in
set_option maxRecDepth 100000 in
theorem d6_lots (F : Gv) (σ : St) (hD : RepD σ F) (hG : GOK F) (n : Int32) (z : Int32) (w : Int32) : Ct M6_lots 7 [.inr (.inr (5, 0, 0)), .inl n, .inl z, .inl w] σ (QD σ (lotsP F n z w)) := by
  refine Ct.of f_6_lots (Nat.le_of_ble_eq_true rfl) ?_
  show AW M6_lots 7 _ (0, [(0, .inr (.inr (5, 0, 0))), (1, .inl n), (2, .inl z), (3, .inl w)], [], σ)
  have hF : FOK F := hG.1
  have hR : RepM (σ 5 0) F.1 := hD.1
  have hO : SOK F.1 := hF.1.1
  have hn8 : Sn F.1 ≤ 8 := hO.1
  have e7 := hR.1.1
  rcases lt1_or n with hl | ⟨n1, h1n1, h31, rfl, hl⟩
  · skip
    refine AW.run 3 [] (4, [(0, .inr (.inr (5, 0, 0))), (1, .inl n), (2, .inl z), (3, .inl w)], [.inl 20, .inl 1, .inl n], σ) [] rfl ?_ ?_
    · exact trivial
    refine AW.callSI (d' := 0) [.inl n, .inl 1, .inl 20] [] ⟨_, rfl⟩ f_6_bound s_6_bound l_6_62 rfl (Nat.le_of_ble_eq_true rfl) rfl (Nat.le_of_ble_eq_true rfl) (c6_bound4 n 1 20 hl σ) ?_
    rintro _ _ ⟨rfl, rfl⟩
    refine AW.run 7 [true, false] (35, [(4, .inl (-4)), (0, .inr (.inr (5, 0, 0))), (1, .inl n), (2, .inl z), (3, .inl w)], [.inl (-4), .inr (.inr (5, 0, 0))], σ) [icP .ne ((-4) : Int32) 0, ¬ icP .eq ((-4) : Int32) 0] rfl ?_ ?_
    · exact ⟨(by decide : (¬ ((-4) : Int32) = 0)), allP1 (by decide : ¬ (((-4) : Int32) = 0))⟩
    refine AW.callVI (d' := 0) [.inl (-4)] [] ⟨_, rfl⟩ f_6_no v_6_no l_6_69 ⟨rfl, by decide⟩ rfl (Nat.le_of_ble_eq_true rfl) rfl (Nat.le_of_ble_eq_true rfl) (c6_no4 σ) ?_
    rintro _ _ ⟨rfl, rfl⟩
    refine AW.reti ⟨_, rfl⟩ rfl ?_
    exact ⟨rfuF F 4, (by unfold lotsP; rw [if_pos hl]; try rfl), RepD_ref hF hD (by decide) (by decide)⟩
  · skip
    by_cases hn1 : n1 ≤ 20
    · skip
      by_cases h0w : w = 0
      · subst h0w
        refine AW.run 3 [] (4, [(0, .inr (.inr (5, 0, 0))), (1, .inl (nI n1)), (2, .inl z), (3, .inl 0)], [.inl 20, .inl 1, .inl (nI n1)], σ) [] rfl ?_ ?_
        · exact trivial
        refine AW.callSI (d' := 0) [.inl (nI n1), .inl 1, .inl 20] [] ⟨_, rfl⟩ f_6_bound s_6_bound l_6_62 rfl (Nat.le_of_ble_eq_true rfl) rfl (Nat.le_of_ble_eq_true rfl) (c6_bound0 (nI n1) 1 20 hl (nI_nlt (a := 20) hn1 (by decide)) σ) ?_
        rintro _ _ ⟨rfl, rfl⟩
        refine AW.run 6 [false] (17, [(4, .inl 0), (0, .inr (.inr (5, 0, 0))), (1, .inl (nI n1)), (2, .inl z), (3, .inl 0)], [.inl 1, .inl 0, .inl 0], σ) [¬ icP .ne (0 : Int32) 0] rfl ?_ ?_
        · exact allP1 (by decide : ¬ (¬ (0 : Int32) = 0))
        refine AW.callSI (d' := 0) [.inl 0, .inl 0, .inl 1] [] ⟨_, rfl⟩ f_6_isIn s_6_isIn l_6_80 rfl (Nat.le_of_ble_eq_true rfl) rfl (Nat.le_of_ble_eq_true rfl) (c6_isIn1 0 0 1 (by decide) (by decide) σ) ?_
        rintro _ _ ⟨rfl, rfl⟩
        refine AW.run 10 [true, true] (50, [(6, .inl 0), (5, .inl 0), (4, .inl 0), (0, .inr (.inr (5, 0, 0))), (1, .inl (nI n1)), (2, .inl z), (3, .inl 0)], [], (setM σ 5 0 0 26 z)) [icP .ne (1 : Int32) 0, icP .eq (0 : Int32) 0] rfl ?_ ?_
        · exact ⟨(by decide : (¬ (1 : Int32) = 0)), allP1 (by decide : ((0 : Int32) = 0))⟩
        refine AW.pick [3, 4, 6, 1, 0] (ls' := [(0, .inr (.inr (5, 0, 0))), (1, .inl (nI n1)), (3, .inl 0), (5, .inl (nI 0)), (6, .inl (nI 0))]) rfl ?_
        refine AW.loop (α := Int32 × Nat) 50 n1 (fun i q => [(0, .inr (.inr (5, 0, 0))), (1, .inl (nI n1)), (3, .inl 0), (5, .inl (nI q.2)), (6, .inl (nI i))]) (fun i q τ => Fr P4 σ τ ∧ RepM (τ 5 0) F.1 ∧ τ 5 0 0 26 = q.1 ∧ lotN F.1 0 n1 z 0 = lotN F.1 0 (n1 - i) q.1 q.2) ?_ ?_ n1 0 (z, 0) _ (by omega) ⟨fr_set fr_rfl (Or.inr (Or.inr ⟨rfl, rfl⟩)), repM_026 hR, by rw [setM_at, if_pos ⟨rfl, rfl⟩], rfl⟩
        · intro i q τ hi hI hk
          obtain ⟨hS1, hR1, hz, hg⟩ := hI
          have hu := lot_s F.1 0 q.1 q.2 hi
          refine AW.run 4 [false] (57, [(0, .inr (.inr (5, 0, 0))), (1, .inl (nI n1)), (3, .inl 0), (5, .inl (nI q.2)), (6, .inl (nI i))], [.inr (.inr (5, 0, 0))], τ) [¬ icP .ge (nI i) (nI n1)] rfl ?_ ?_
          · exact allP1 (nI_ge hi (by omega))
          refine AW.callVV (d' := 2) [] [] ⟨_, rfl⟩ f_6_thinks v_6_thinks l_6_203 ⟨rfl, by decide⟩ rfl (Nat.le_of_ble_eq_true rfl) rfl (Nat.le_of_ble_eq_true rfl) (c6_thinks F.1 τ hR1 hO.1) ?_
          rintro τ169 ⟨f169, r169, k169⟩
          refine AW.run 2 [] (63, [(7, .inl 0), (0, .inr (.inr (5, 0, 0))), (1, .inl (nI n1)), (3, .inl 0), (5, .inl (nI q.2)), (6, .inl (nI i))], [], τ169) [] rfl ?_ ?_
          · exact trivial
          refine AW.pick [1, 2, 3, 4, 5, 0] (ls' := [(0, .inr (.inr (5, 0, 0))), (1, .inl (nI n1)), (3, .inl 0), (5, .inl (nI q.2)), (6, .inl (nI i)), (7, .inl (nI 0))]) rfl ?_
          refine AW.loop (α := Int32 × Sv) 63 10 (fun d _ => [(0, .inr (.inr (5, 0, 0))), (1, .inl (nI n1)), (3, .inl 0), (5, .inl (nI q.2)), (6, .inl (nI i)), (7, .inl (nI d))]) (fun d y υ => Fr P5 τ169 υ ∧ RepM (υ 5 0) y.2 ∧ SOK y.2 ∧ Sn y.2 = Sn F.1 ∧ Su y.2 = Su F.1 ∧ υ 5 0 0 26 = y.1 ∧ smr F.1 10 q.1 F.1 = smr F.1 (10 - d) y.1 y.2) ?_ ?_ 10 0 (q.1, F.1) _ (by omega) ⟨fr_rfl, r169, hO, rfl, rfl, by rw [fr_at f169 (by unfold P2 P1; omega)]; exact hz, rfl⟩
          · intro d y υ hd hI hk9
            obtain ⟨hF9, hT, hOT, hTn, hSu, hz9, hs⟩ := hI
            have hus := smr_s F.1 y.1 y.2 hd
            have hdr := drw_le (lotZ y.1)
            obtain ⟨zz, hzz⟩ : ∃ x, x = lotZ y.1 := ⟨_, rfl⟩
            obtain ⟨hh, hhh⟩ : ∃ x, x = drw zz := ⟨_, rfl⟩
            rw [← hzz, ← hhh] at hus
            rw [← hzz, ← hhh] at hdr
            refine AW.run 6 [false] (74, [(0, .inr (.inr (5, 0, 0))), (1, .inl (nI n1)), (3, .inl 0), (5, .inl (nI q.2)), (6, .inl (nI i)), (7, .inl (nI d))], [.inl 10, .inr (.inr (5, 0, 0)), .inr (.inr (5, 0, 0))], υ) [¬ icP .ge (nI d) 10] rfl ?_ ?_
            · exact allP1 (nle_lit (a := 10) hd (by decide))
            refine AW.callVI (d' := 0) [.inl 10] [.inr (.inr (5, 0, 0))] ⟨_, rfl⟩ f_6_draw v_6_draw l_6_302 ⟨rfl, by decide⟩ rfl (Nat.le_of_ble_eq_true rfl) rfl (Nat.le_of_ble_eq_true rfl) (c6_draw y.1 υ hz9) ?_
            rintro _ _ ⟨rfl, rfl⟩
            rw [← hzz, ← hhh]
            refine AW.run 1 [] (80, [(0, .inr (.inr (5, 0, 0))), (1, .inl (nI n1)), (3, .inl 0), (5, .inl (nI q.2)), (6, .inl (nI i)), (7, .inl (nI d))], [], (setM (setM υ 5 0 0 26 zz) 5 0 0 9 (nI hh))) [] rfl ?_ ?_
            · exact trivial
            obtain ⟨υ1, e9⟩ : ∃ x, x = (setM (setM υ 5 0 0 26 zz) 5 0 0 9 (nI hh)) := ⟨_, rfl⟩
            rw [← e9]
            have r9 : RepM (υ1 5 0) (withU y.2 (Su F.1) hh) := by rw [e9]; have h9 := repM_h (u := hh) (repM_026 (v := zz) hT); rw [hSu] at h9; exact h9
            have f9 : Fr P5 υ υ1 := by rw [e9]; exact fr_set (fr_set fr_rfl (Or.inr (Or.inr ⟨rfl, rfl⟩))) (Or.inl (p1_f (by omega) (by omega)))
            have z9 : υ1 5 0 0 26 = zz := by rw [e9, setM_at, if_neg (by omega), setM_at, if_pos ⟨rfl, rfl⟩]
            refine AW.run 1 [] (81, [(0, .inr (.inr (5, 0, 0))), (1, .inl (nI n1)), (3, .inl 0), (5, .inl (nI q.2)), (6, .inl (nI i)), (7, .inl (nI d))], [.inr (.inr (5, 0, 0))], υ1) [] rfl ?_ ?_
            · exact trivial
            refine AW.callVV (d' := 4) [] [] ⟨_, rfl⟩ f_6_goesDay v_6_goesDay l_6_188 ⟨rfl, by decide⟩ rfl (Nat.le_of_ble_eq_true rfl) rfl (Nat.le_of_ble_eq_true rfl) (c6_goesDay (withU y.2 (Su F.1) hh) υ1 r9 (SOK_U hOT hO.2.2.2.1 hdr) ) ?_
            rintro τ170 ⟨f170, r170⟩
            refine AW.run 2 [] (63, [(7, .inl ((nI d) + 1)), (0, .inr (.inr (5, 0, 0))), (1, .inl (nI n1)), (3, .inl 0), (5, .inl (nI q.2)), (6, .inl (nI i))], [], τ170) [] rfl ?_ ?_
            · exact trivial
            rw [nI_1 d]
            refine AW.pick [1, 2, 3, 4, 5, 0] (ls' := [(0, .inr (.inr (5, 0, 0))), (1, .inl (nI n1)), (3, .inl 0), (5, .inl (nI q.2)), (6, .inl (nI i)), (7, .inl (nI (d + 1)))]) rfl ?_
            exact hk9 (zz, dayS (withU y.2 (Su F.1) hh)) τ170 ⟨(fr_trans (fr_trans hF9 f9) (fr_15 f170)), r170, (SOK_day (SOK_U hOT hO.2.2.2.1 hdr)), (day_n _).trans hTn, (day_uh _).1, by rw [fr_at f170 (by unfold P1; omega)]; exact z9, by rw [hs, hus]⟩
          · intro y υ hI
            obtain ⟨hF9, hT, hOT, hTn, hSu, hz9, hs⟩ := hI
            have hs := smr_e hs
            refine AW.run 7 [true, false] (97, [(0, .inr (.inr (5, 0, 0))), (1, .inl (nI n1)), (3, .inl 0), (5, .inl (nI q.2)), (6, .inl (nI i)), (7, .inl (nI 10))], [.inr (.inr (5, 0, 0)), .inl (nI q.2)], υ) [icP .ge (nI 10) 10, ¬ icP .ne (0 : Int32) 0] rfl ?_ ?_
            · exact ⟨(le_lit (a := 10) (b := 10) (by decide) (by decide)), allP1 (by decide : ¬ (¬ (0 : Int32) = 0))⟩
            refine AW.callVI (d' := 1) [] [.inl (nI q.2)] ⟨_, rfl⟩ f_6_whole v_6_whole l_6_197 ⟨rfl, by decide⟩ rfl (Nat.le_of_ble_eq_true rfl) rfl (Nat.le_of_ble_eq_true rfl) (c6_whole y.2 υ hT hOT) ?_
            rintro _ _ ⟨rfl, rfl⟩
            refine AW.callSI (d' := 0) [.inl (bI (Sw y.2))] [.inl (nI q.2)] ⟨_, rfl⟩ f_6_bits s_6_bits l_6_200 rfl (Nat.le_of_ble_eq_true rfl) rfl (Nat.le_of_ble_eq_true rfl) (c6_bits (bI (Sw y.2)) υ) ?_
            rintro _ _ ⟨rfl, rfl⟩
            rw [btV_bI]
            refine AW.run 2 [] (111, [(0, .inr (.inr (5, 0, 0))), (1, .inl (nI n1)), (3, .inl 0), (5, .inl (nI q.2)), (6, .inl (nI i)), (7, .inl (nI 10))], [.inl ((nI q.2) + (nI (cN (Sw y.2))))], υ) [] rfl ?_ ?_
            · exact trivial
            rw [nI_add]
            refine AW.run 2 [] (114, [(5, .inl (nI (q.2 + cN (Sw y.2)))), (0, .inr (.inr (5, 0, 0))), (1, .inl (nI n1)), (3, .inl 0), (6, .inl (nI i)), (7, .inl (nI 10))], [.inr (.inr (5, 0, 0))], υ) [] rfl ?_ ?_
            · exact trivial
            refine AW.callVV (d' := 2) [] [] ⟨_, rfl⟩ f_6_forgets v_6_forgets l_6_206 ⟨rfl, by decide⟩ rfl (Nat.le_of_ble_eq_true rfl) rfl (Nat.le_of_ble_eq_true rfl) (c6_forgets F.1 υ (repK_fr hO.1 hF9 (fun k _ _ q => by unfold P5 P1 at q; omega) k169) hO.1) ?_
            rintro τ171 ⟨f171, r171⟩
            refine AW.run 2 [] (50, [(6, .inl ((nI i) + 1)), (5, .inl (nI (q.2 + cN (Sw y.2)))), (0, .inr (.inr (5, 0, 0))), (1, .inl (nI n1)), (3, .inl 0), (7, .inl (nI 10))], [], τ171) [] rfl ?_ ?_
            · exact trivial
            rw [nI_1 i]
            refine AW.pick [2, 3, 4, 1, 0] (ls' := [(0, .inr (.inr (5, 0, 0))), (1, .inl (nI n1)), (3, .inl 0), (5, .inl (nI (q.2 + tally 0 y.2))), (6, .inl (nI (i + 1)))]) rfl ?_
            exact hk (y.1, q.2 + tally 0 y.2) τ171 ⟨(fr_trans (fr_trans (fr_trans hS1 (fr_24 f169)) (fr_54 hF9)) (fr_24 f171)), r171, by rw [fr_at f171 (by unfold P2 P1; omega)]; exact hz9, by rw [hg, hu, hs]⟩
        · intro q τ hI
          obtain ⟨hS1, hR1, hz, hg⟩ := hI
          refine AW.run 4 [true] (125, [(0, .inr (.inr (5, 0, 0))), (1, .inl (nI n1)), (3, .inl 0), (5, .inl (nI q.2)), (6, .inl (nI n1))], [.inl (nI q.2)], τ) [icP .ge (nI n1) (nI n1)] rfl ?_ ?_
          · exact allP1 (nI_le (Nat.le_refl _) (by omega))
          refine AW.reti ⟨_, rfl⟩ rfl ?_
          exact ⟨F, (by unfold lotsP; rw [if_neg hl, maxP_e0 (fM0 (M := 20) hn1 (by decide)) (by omega), twoP_0, hg, Nat.sub_self]; rfl), QD_fr4 hF hS1 hD hR1⟩
      by_cases h1w : w = 1
      · subst h1w
        refine AW.run 3 [] (4, [(0, .inr (.inr (5, 0, 0))), (1, .inl (nI n1)), (2, .inl z), (3, .inl 1)], [.inl 20, .inl 1, .inl (nI n1)], σ) [] rfl ?_ ?_
        · exact trivial
        refine AW.callSI (d' := 0) [.inl (nI n1), .inl 1, .inl 20] [] ⟨_, rfl⟩ f_6_bound s_6_bound l_6_62 rfl (Nat.le_of_ble_eq_true rfl) rfl (Nat.le_of_ble_eq_true rfl) (c6_bound0 (nI n1) 1 20 hl (nI_nlt (a := 20) hn1 (by decide)) σ) ?_
        rintro _ _ ⟨rfl, rfl⟩
        refine AW.run 6 [false] (17, [(4, .inl 0), (0, .inr (.inr (5, 0, 0))), (1, .inl (nI n1)), (2, .inl z), (3, .inl 1)], [.inl 1, .inl 0, .inl 1], σ) [¬ icP .ne (0 : Int32) 0] rfl ?_ ?_
        · exact allP1 (by decide : ¬ (¬ (0 : Int32) = 0))
        refine AW.callSI (d' := 0) [.inl 1, .inl 0, .inl 1] [] ⟨_, rfl⟩ f_6_isIn s_6_isIn l_6_80 rfl (Nat.le_of_ble_eq_true rfl) rfl (Nat.le_of_ble_eq_true rfl) (c6_isIn1 1 0 1 (by decide) (by decide) σ) ?_
        rintro _ _ ⟨rfl, rfl⟩
        refine AW.run 10 [true, true] (50, [(6, .inl 0), (5, .inl 0), (4, .inl 0), (0, .inr (.inr (5, 0, 0))), (1, .inl (nI n1)), (2, .inl z), (3, .inl 1)], [], (setM σ 5 0 0 26 z)) [icP .ne (1 : Int32) 0, icP .eq (0 : Int32) 0] rfl ?_ ?_
        · exact ⟨(by decide : (¬ (1 : Int32) = 0)), allP1 (by decide : ((0 : Int32) = 0))⟩
        refine AW.pick [3, 4, 6, 1, 0] (ls' := [(0, .inr (.inr (5, 0, 0))), (1, .inl (nI n1)), (3, .inl 1), (5, .inl (nI 0)), (6, .inl (nI 0))]) rfl ?_
        refine AW.loop (α := Int32 × Nat) 50 n1 (fun i q => [(0, .inr (.inr (5, 0, 0))), (1, .inl (nI n1)), (3, .inl 1), (5, .inl (nI q.2)), (6, .inl (nI i))]) (fun i q τ => Fr P4 σ τ ∧ RepM (τ 5 0) F.1 ∧ τ 5 0 0 26 = q.1 ∧ lotN F.1 1 n1 z 0 = lotN F.1 1 (n1 - i) q.1 q.2) ?_ ?_ n1 0 (z, 0) _ (by omega) ⟨fr_set fr_rfl (Or.inr (Or.inr ⟨rfl, rfl⟩)), repM_026 hR, by rw [setM_at, if_pos ⟨rfl, rfl⟩], rfl⟩
        · intro i q τ hi hI hk
          obtain ⟨hS1, hR1, hz, hg⟩ := hI
          have hu := lot_s F.1 1 q.1 q.2 hi
          refine AW.run 4 [false] (57, [(0, .inr (.inr (5, 0, 0))), (1, .inl (nI n1)), (3, .inl 1), (5, .inl (nI q.2)), (6, .inl (nI i))], [.inr (.inr (5, 0, 0))], τ) [¬ icP .ge (nI i) (nI n1)] rfl ?_ ?_
          · exact allP1 (nI_ge hi (by omega))
          refine AW.callVV (d' := 2) [] [] ⟨_, rfl⟩ f_6_thinks v_6_thinks l_6_203 ⟨rfl, by decide⟩ rfl (Nat.le_of_ble_eq_true rfl) rfl (Nat.le_of_ble_eq_true rfl) (c6_thinks F.1 τ hR1 hO.1) ?_
          rintro τ172 ⟨f172, r172, k172⟩
          refine AW.run 2 [] (63, [(7, .inl 0), (0, .inr (.inr (5, 0, 0))), (1, .inl (nI n1)), (3, .inl 1), (5, .inl (nI q.2)), (6, .inl (nI i))], [], τ172) [] rfl ?_ ?_
          · exact trivial
          refine AW.pick [1, 2, 3, 4, 5, 0] (ls' := [(0, .inr (.inr (5, 0, 0))), (1, .inl (nI n1)), (3, .inl 1), (5, .inl (nI q.2)), (6, .inl (nI i)), (7, .inl (nI 0))]) rfl ?_
          refine AW.loop (α := Int32 × Sv) 63 10 (fun d _ => [(0, .inr (.inr (5, 0, 0))), (1, .inl (nI n1)), (3, .inl 1), (5, .inl (nI q.2)), (6, .inl (nI i)), (7, .inl (nI d))]) (fun d y υ => Fr P5 τ172 υ ∧ RepM (υ 5 0) y.2 ∧ SOK y.2 ∧ Sn y.2 = Sn F.1 ∧ Su y.2 = Su F.1 ∧ υ 5 0 0 26 = y.1 ∧ smr F.1 10 q.1 F.1 = smr F.1 (10 - d) y.1 y.2) ?_ ?_ 10 0 (q.1, F.1) _ (by omega) ⟨fr_rfl, r172, hO, rfl, rfl, by rw [fr_at f172 (by unfold P2 P1; omega)]; exact hz, rfl⟩
          · intro d y υ hd hI hk9
            obtain ⟨hF9, hT, hOT, hTn, hSu, hz9, hs⟩ := hI
            have hus := smr_s F.1 y.1 y.2 hd
            have hdr := drw_le (lotZ y.1)
            obtain ⟨zz, hzz⟩ : ∃ x, x = lotZ y.1 := ⟨_, rfl⟩
            obtain ⟨hh, hhh⟩ : ∃ x, x = drw zz := ⟨_, rfl⟩
            rw [← hzz, ← hhh] at hus
            rw [← hzz, ← hhh] at hdr
            refine AW.run 6 [false] (74, [(0, .inr (.inr (5, 0, 0))), (1, .inl (nI n1)), (3, .inl 1), (5, .inl (nI q.2)), (6, .inl (nI i)), (7, .inl (nI d))], [.inl 10, .inr (.inr (5, 0, 0)), .inr (.inr (5, 0, 0))], υ) [¬ icP .ge (nI d) 10] rfl ?_ ?_
            · exact allP1 (nle_lit (a := 10) hd (by decide))
            refine AW.callVI (d' := 0) [.inl 10] [.inr (.inr (5, 0, 0))] ⟨_, rfl⟩ f_6_draw v_6_draw l_6_302 ⟨rfl, by decide⟩ rfl (Nat.le_of_ble_eq_true rfl) rfl (Nat.le_of_ble_eq_true rfl) (c6_draw y.1 υ hz9) ?_
            rintro _ _ ⟨rfl, rfl⟩
            rw [← hzz, ← hhh]
            refine AW.run 1 [] (80, [(0, .inr (.inr (5, 0, 0))), (1, .inl (nI n1)), (3, .inl 1), (5, .inl (nI q.2)), (6, .inl (nI i)), (7, .inl (nI d))], [], (setM (setM υ 5 0 0 26 zz) 5 0 0 9 (nI hh))) [] rfl ?_ ?_
            · exact trivial
            obtain ⟨υ1, e9⟩ : ∃ x, x = (setM (setM υ 5 0 0 26 zz) 5 0 0 9 (nI hh)) := ⟨_, rfl⟩
            rw [← e9]
            have r9 : RepM (υ1 5 0) (withU y.2 (Su F.1) hh) := by rw [e9]; have h9 := repM_h (u := hh) (repM_026 (v := zz) hT); rw [hSu] at h9; exact h9
            have f9 : Fr P5 υ υ1 := by rw [e9]; exact fr_set (fr_set fr_rfl (Or.inr (Or.inr ⟨rfl, rfl⟩))) (Or.inl (p1_f (by omega) (by omega)))
            have z9 : υ1 5 0 0 26 = zz := by rw [e9, setM_at, if_neg (by omega), setM_at, if_pos ⟨rfl, rfl⟩]
            refine AW.run 1 [] (81, [(0, .inr (.inr (5, 0, 0))), (1, .inl (nI n1)), (3, .inl 1), (5, .inl (nI q.2)), (6, .inl (nI i)), (7, .inl (nI d))], [.inr (.inr (5, 0, 0))], υ1) [] rfl ?_ ?_
            · exact trivial
            refine AW.callVV (d' := 4) [] [] ⟨_, rfl⟩ f_6_goesDay v_6_goesDay l_6_188 ⟨rfl, by decide⟩ rfl (Nat.le_of_ble_eq_true rfl) rfl (Nat.le_of_ble_eq_true rfl) (c6_goesDay (withU y.2 (Su F.1) hh) υ1 r9 (SOK_U hOT hO.2.2.2.1 hdr) ) ?_
            rintro τ173 ⟨f173, r173⟩
            refine AW.run 2 [] (63, [(7, .inl ((nI d) + 1)), (0, .inr (.inr (5, 0, 0))), (1, .inl (nI n1)), (3, .inl 1), (5, .inl (nI q.2)), (6, .inl (nI i))], [], τ173) [] rfl ?_ ?_
            · exact trivial
            rw [nI_1 d]
            refine AW.pick [1, 2, 3, 4, 5, 0] (ls' := [(0, .inr (.inr (5, 0, 0))), (1, .inl (nI n1)), (3, .inl 1), (5, .inl (nI q.2)), (6, .inl (nI i)), (7, .inl (nI (d + 1)))]) rfl ?_
            exact hk9 (zz, dayS (withU y.2 (Su F.1) hh)) τ173 ⟨(fr_trans (fr_trans hF9 f9) (fr_15 f173)), r173, (SOK_day (SOK_U hOT hO.2.2.2.1 hdr)), (day_n _).trans hTn, (day_uh _).1, by rw [fr_at f173 (by unfold P1; omega)]; exact z9, by rw [hs, hus]⟩
          · intro y υ hI
            obtain ⟨hF9, hT, hOT, hTn, hSu, hz9, hs⟩ := hI
            have hs := smr_e hs
            refine AW.run 7 [true, true] (107, [(0, .inr (.inr (5, 0, 0))), (1, .inl (nI n1)), (3, .inl 1), (5, .inl (nI q.2)), (6, .inl (nI i)), (7, .inl (nI 10))], [.inr (.inr (5, 0, 0)), .inl (nI q.2)], υ) [icP .ge (nI 10) 10, icP .ne (1 : Int32) 0] rfl ?_ ?_
            · exact ⟨(le_lit (a := 10) (b := 10) (by decide) (by decide)), allP1 (by decide : (¬ (1 : Int32) = 0))⟩
            refine AW.callVI (d' := 1) [] [.inl (nI q.2)] ⟨_, rfl⟩ f_6_allPress v_6_allPress l_6_216 ⟨rfl, by decide⟩ rfl (Nat.le_of_ble_eq_true rfl) rfl (Nat.le_of_ble_eq_true rfl) (c6_allPress y.2 υ hT hOT) ?_
            rintro _ _ ⟨rfl, rfl⟩
            refine AW.run 1 [] (111, [(0, .inr (.inr (5, 0, 0))), (1, .inl (nI n1)), (3, .inl 1), (5, .inl (nI q.2)), (6, .inl (nI i)), (7, .inl (nI 10))], [.inl ((nI q.2) + (nI (psum y.2 8)))], υ) [] rfl ?_ ?_
            · exact trivial
            rw [nI_add]
            refine AW.run 2 [] (114, [(5, .inl (nI (q.2 + psum y.2 8))), (0, .inr (.inr (5, 0, 0))), (1, .inl (nI n1)), (3, .inl 1), (6, .inl (nI i)), (7, .inl (nI 10))], [.inr (.inr (5, 0, 0))], υ) [] rfl ?_ ?_
            · exact trivial
            refine AW.callVV (d' := 2) [] [] ⟨_, rfl⟩ f_6_forgets v_6_forgets l_6_206 ⟨rfl, by decide⟩ rfl (Nat.le_of_ble_eq_true rfl) rfl (Nat.le_of_ble_eq_true rfl) (c6_forgets F.1 υ (repK_fr hO.1 hF9 (fun k _ _ q => by unfold P5 P1 at q; omega) k172) hO.1) ?_
            rintro τ174 ⟨f174, r174⟩
            refine AW.run 2 [] (50, [(6, .inl ((nI i) + 1)), (5, .inl (nI (q.2 + psum y.2 8))), (0, .inr (.inr (5, 0, 0))), (1, .inl (nI n1)), (3, .inl 1), (7, .inl (nI 10))], [], τ174) [] rfl ?_ ?_
            · exact trivial
            rw [nI_1 i]
            refine AW.pick [2, 3, 4, 1, 0] (ls' := [(0, .inr (.inr (5, 0, 0))), (1, .inl (nI n1)), (3, .inl 1), (5, .inl (nI (q.2 + tally 1 y.2))), (6, .inl (nI (i + 1)))]) rfl ?_
            exact hk (y.1, q.2 + tally 1 y.2) τ174 ⟨(fr_trans (fr_trans (fr_trans hS1 (fr_24 f172)) (fr_54 hF9)) (fr_24 f174)), r174, by rw [fr_at f174 (by unfold P2 P1; omega)]; exact hz9, by rw [hg, hu, hs]⟩
        · intro q τ hI
          obtain ⟨hS1, hR1, hz, hg⟩ := hI
          refine AW.run 4 [true] (125, [(0, .inr (.inr (5, 0, 0))), (1, .inl (nI n1)), (3, .inl 1), (5, .inl (nI q.2)), (6, .inl (nI n1))], [.inl (nI q.2)], τ) [icP .ge (nI n1) (nI n1)] rfl ?_ ?_
          · exact allP1 (nI_le (Nat.le_refl _) (by omega))
          refine AW.reti ⟨_, rfl⟩ rfl ?_
          exact ⟨F, (by unfold lotsP; rw [if_neg hl, maxP_e0 (fM0 (M := 20) hn1 (by decide)) (by omega), twoP_1, hg, Nat.sub_self]; rfl), QD_fr4 hF hS1 hD hR1⟩
      · skip
        refine AW.run 3 [] (4, [(0, .inr (.inr (5, 0, 0))), (1, .inl (nI n1)), (2, .inl z), (3, .inl w)], [.inl 20, .inl 1, .inl (nI n1)], σ) [] rfl ?_ ?_
        · exact trivial
        refine AW.callSI (d' := 0) [.inl (nI n1), .inl 1, .inl 20] [] ⟨_, rfl⟩ f_6_bound s_6_bound l_6_62 rfl (Nat.le_of_ble_eq_true rfl) rfl (Nat.le_of_ble_eq_true rfl) (c6_bound0 (nI n1) 1 20 hl (nI_nlt (a := 20) hn1 (by decide)) σ) ?_
        rintro _ _ ⟨rfl, rfl⟩
        refine AW.run 6 [false] (17, [(4, .inl 0), (0, .inr (.inr (5, 0, 0))), (1, .inl (nI n1)), (2, .inl z), (3, .inl w)], [.inl 1, .inl 0, .inl w], σ) [¬ icP .ne (0 : Int32) 0] rfl ?_ ?_
        · exact allP1 (by decide : ¬ (¬ (0 : Int32) = 0))
        refine AW.callSI (d' := 0) [.inl w, .inl 0, .inl 1] [] ⟨_, rfl⟩ f_6_isIn s_6_isIn l_6_80 rfl (Nat.le_of_ble_eq_true rfl) rfl (Nat.le_of_ble_eq_true rfl) (c6_isIn0 w 0 1 (in_01 h0w h1w) σ) ?_
        rintro _ _ ⟨rfl, rfl⟩
        refine AW.run 7 [false, false] (35, [(4, .inl (-2)), (0, .inr (.inr (5, 0, 0))), (1, .inl (nI n1)), (2, .inl z), (3, .inl w)], [.inl (-2), .inr (.inr (5, 0, 0))], σ) [¬ icP .ne (0 : Int32) 0, ¬ icP .eq ((-2) : Int32) 0] rfl ?_ ?_
        · exact ⟨(by decide : ¬ (¬ (0 : Int32) = 0)), allP1 (by decide : ¬ (((-2) : Int32) = 0))⟩
        refine AW.callVI (d' := 0) [.inl (-2)] [] ⟨_, rfl⟩ f_6_no v_6_no l_6_69 ⟨rfl, by decide⟩ rfl (Nat.le_of_ble_eq_true rfl) rfl (Nat.le_of_ble_eq_true rfl) (c6_no2 σ) ?_
        rintro _ _ ⟨rfl, rfl⟩
        refine AW.reti ⟨_, rfl⟩ rfl ?_
        exact ⟨rfuF F 2, (by unfold lotsP; rw [if_neg hl, maxP_e0 (fM0 (M := 20) hn1 (by decide)) (by omega), twoP_N h0w h1w]; try rfl), RepD_ref hF hD (by decide) (by decide)⟩
    · skip
      refine AW.run 3 [] (4, [(0, .inr (.inr (5, 0, 0))), (1, .inl (nI n1)), (2, .inl z), (3, .inl w)], [.inl 20, .inl 1, .inl (nI n1)], σ) [] rfl ?_ ?_
      · exact trivial
      refine AW.callSI (d' := 0) [.inl (nI n1), .inl 1, .inl 20] [] ⟨_, rfl⟩ f_6_bound s_6_bound l_6_62 rfl (Nat.le_of_ble_eq_true rfl) rfl (Nat.le_of_ble_eq_true rfl) (c6_bound6 (nI n1) 1 20 hl (nI_lt (a := 20) (by omega) (by omega)) σ) ?_
      rintro _ _ ⟨rfl, rfl⟩
      refine AW.run 7 [true, false] (35, [(4, .inl (-6)), (0, .inr (.inr (5, 0, 0))), (1, .inl (nI n1)), (2, .inl z), (3, .inl w)], [.inl (-6), .inr (.inr (5, 0, 0))], σ) [icP .ne ((-6) : Int32) 0, ¬ icP .eq ((-6) : Int32) 0] rfl ?_ ?_
      · exact ⟨(by decide : (¬ ((-6) : Int32) = 0)), allP1 (by decide : ¬ (((-6) : Int32) = 0))⟩
      refine AW.callVI (d' := 0) [.inl (-6)] [] ⟨_, rfl⟩ f_6_no v_6_no l_6_69 ⟨rfl, by decide⟩ rfl (Nat.le_of_ble_eq_true rfl) rfl (Nat.le_of_ble_eq_true rfl) (c6_no6 σ) ?_
      rintro _ _ ⟨rfl, rfl⟩
      refine AW.reti ⟨_, rfl⟩ rfl ?_
      exact ⟨rfuF F 6, (by unfold lotsP; rw [if_neg hl, maxP_e6 (fM6 (M := 20) (by omega) h31)]; try rfl), RepD_ref hF hD (by decide) (by decide)⟩
set_option maxHeartbeats 4000000 in
set_option maxRecDepth 100000 in
theorem d6_thunders (F : Gv) (σ : St) (hD : RepD σ F) (hG : GOK F) (b n t p : Int32) : Ct M6_thunders 7 [.inr (.inr (5, 0, 0)), .inl b, .inl n, .inl t, .inl p] σ (QDL σ (thundersP F b n t p)) := by
  refine Ct.of f_6_thunders (Nat.le_of_ble_eq_true rfl) ?_
  show AW M6_thunders 7 _ (0, [(0, .inr (.inr (5, 0, 0))), (1, .inl b), (2, .inl n), (3, .inl t), (4, .inl p)], [], σ)
  have hF : FOK F := hG.1
  have hR : RepM (σ 5 0) F.1 := hD.1
  have hO : SOK F.1 := hF.1.1
  have hn8 : Sn F.1 ≤ 8 := hO.1
  have e7 := hR.1.1
  rcases bot_or (Sn F.1) b with ⟨k, hk, rfl⟩ | hno
  · have hbk : botI (Sn F.1) (nI k) = some k := botI_some hk (by omega)
    by_cases hn0 : n < 0
    · skip
      refine AW.run 2 [] (2, [(0, .inr (.inr (5, 0, 0))), (1, .inl (nI k)), (2, .inl n), (3, .inl t), (4, .inl p)], [.inl (nI k), .inr (.inr (5, 0, 0))], σ) [] rfl ?_ ?_
      · exact trivial
      refine AW.callVI (d' := 0) [.inl (nI k)] [] ⟨_, rfl⟩ f_6_isBottle v_6_isBottle l_6_105 ⟨rfl, by decide⟩ rfl (Nat.le_of_ble_eq_true rfl) rfl (Nat.le_of_ble_eq_true rfl) (c6_isBottle1 (Sn F.1) σ e7 hn8 k hk) ?_
      rintro _ _ ⟨rfl, rfl⟩
      refine AW.run 10 [true, true, false] (69, [(5, .inl (-4)), (0, .inr (.inr (5, 0, 0))), (1, .inl (nI k)), (2, .inl n), (3, .inl t), (4, .inl p)], [.inl (-4), .inr (.inr (5, 0, 0))], σ) [icP .ne (1 : Int32) 0, icP .lt n 0, ¬ icP .eq ((-4) : Int32) 0] rfl ?_ ?_
      · exact ⟨(by decide : (¬ (1 : Int32) = 0)), (hn0), allP1 (by decide : ¬ (((-4) : Int32) = 0))⟩
      refine AW.callVL (d' := 0) [.inl (-4)] [] ⟨_, rfl⟩ f_6_lowestOf v_6_lowestOf l_6_267 ⟨rfl, by decide⟩ rfl (Nat.le_of_ble_eq_true rfl) rfl (Nat.le_of_ble_eq_true rfl) (c6_lowestOf4 σ) ?_
      rintro _ _ ⟨rfl, rfl⟩
      refine AW.retl ⟨_, rfl⟩ rfl ?_
      exact RepDL_ref (k := 4) hF hD (by decide) (by decide) (by unfold thundersP; rw [hbk]; dsimp only; rw [if_pos (Or.inl hn0)])
    rcases lt2_or t with ht2 | ⟨t1, ht2, ht31, rfl, htn⟩
    · skip
      refine AW.run 2 [] (2, [(0, .inr (.inr (5, 0, 0))), (1, .inl (nI k)), (2, .inl n), (3, .inl t), (4, .inl p)], [.inl (nI k), .inr (.inr (5, 0, 0))], σ) [] rfl ?_ ?_
      · exact trivial
      refine AW.callVI (d' := 0) [.inl (nI k)] [] ⟨_, rfl⟩ f_6_isBottle v_6_isBottle l_6_105 ⟨rfl, by decide⟩ rfl (Nat.le_of_ble_eq_true rfl) rfl (Nat.le_of_ble_eq_true rfl) (c6_isBottle1 (Sn F.1) σ e7 hn8 k hk) ?_
      rintro _ _ ⟨rfl, rfl⟩
      refine AW.run 13 [true, false, false, false] (69, [(5, .inl (-4)), (0, .inr (.inr (5, 0, 0))), (1, .inl (nI k)), (2, .inl n), (3, .inl t), (4, .inl p)], [.inl (-4), .inr (.inr (5, 0, 0))], σ) [icP .ne (1 : Int32) 0, ¬ icP .lt n 0, ¬ icP .ge t 2, ¬ icP .eq ((-4) : Int32) 0] rfl ?_ ?_
      · exact ⟨(by decide : (¬ (1 : Int32) = 0)), (hn0), (nge_of ht2), allP1 (by decide : ¬ (((-4) : Int32) = 0))⟩
      refine AW.callVL (d' := 0) [.inl (-4)] [] ⟨_, rfl⟩ f_6_lowestOf v_6_lowestOf l_6_267 ⟨rfl, by decide⟩ rfl (Nat.le_of_ble_eq_true rfl) rfl (Nat.le_of_ble_eq_true rfl) (c6_lowestOf4 σ) ?_
      rintro _ _ ⟨rfl, rfl⟩
      refine AW.retl ⟨_, rfl⟩ rfl ?_
      exact RepDL_ref (k := 4) hF hD (by decide) (by decide) (by unfold thundersP; rw [hbk]; dsimp only; rw [if_pos (Or.inr ht2)])
    obtain ⟨n1, hn31, rfl⟩ := nI_of hn0
    have hneg : ¬ (nI n1 < 0 ∨ nI t1 < 2) := fun h => h.elim hn0 htn
    by_cases hn7 : n1 ≤ 7
    · by_cases ht20 : t1 ≤ 20
      · have hneg2 : ¬ (nI 7 < nI n1 ∨ nI 20 < nI t1) := fun h => h.elim (nI_nlt hn7 (by decide)) (nI_nlt ht20 (by decide))
        have h128 := p2_128 hn7
        by_cases hp0 : p = 0
        · subst hp0
          refine AW.run 2 [] (2, [(0, .inr (.inr (5, 0, 0))), (1, .inl (nI k)), (2, .inl (nI n1)), (3, .inl (nI t1)), (4, .inl 0)], [.inl (nI k), .inr (.inr (5, 0, 0))], σ) [] rfl ?_ ?_
          · exact trivial
          refine AW.callVI (d' := 0) [.inl (nI k)] [] ⟨_, rfl⟩ f_6_isBottle v_6_isBottle l_6_105 ⟨rfl, by decide⟩ rfl (Nat.le_of_ble_eq_true rfl) rfl (Nat.le_of_ble_eq_true rfl) (c6_isBottle1 (Sn F.1) σ e7 hn8 k hk) ?_
          rintro _ _ ⟨rfl, rfl⟩
          refine AW.run 15 [true, false, true, false, true] (47, [(0, .inr (.inr (5, 0, 0))), (1, .inl (nI k)), (2, .inl (nI n1)), (3, .inl (nI t1)), (4, .inl 0)], [.inl 1, .inl 0, .inl 0], σ) [icP .ne (1 : Int32) 0, ¬ icP .lt (nI n1) 0, icP .ge (nI t1) 2, ¬ icP .gt (nI n1) 7, icP .le (nI t1) 20] rfl ?_ ?_
          · exact ⟨(by decide : (¬ (1 : Int32) = 0)), (hn0), (ge_of htn), (nI_nlt (a := 7) hn7 (by decide)), allP1 (nI_le (b := 20) ht20 (by decide))⟩
          refine AW.callSI (d' := 0) [.inl 0, .inl 0, .inl 1] [] ⟨_, rfl⟩ f_6_isIn s_6_isIn l_6_80 rfl (Nat.le_of_ble_eq_true rfl) rfl (Nat.le_of_ble_eq_true rfl) (c6_isIn1 0 0 1 (by decide) (by decide) σ) ?_
          rintro _ _ ⟨rfl, rfl⟩
          refine AW.run 7 [true, true] (77, [(5, .inl 0), (0, .inr (.inr (5, 0, 0))), (1, .inl (nI k)), (2, .inl (nI n1)), (3, .inl (nI t1)), (4, .inl 0)], [.inl (σ 5 0 0 9)], σ) [icP .ne (1 : Int32) 0, icP .eq (0 : Int32) 0] rfl ?_ ?_
          · exact ⟨(by decide : (¬ (1 : Int32) = 0)), allP1 (by decide : ((0 : Int32) = 0))⟩
          rw [hR.1.2.2.1]
          refine AW.run 7 [] (88, [(11, .inl 0), (9, .inr (.inl (Int64.ofNat 1))), (7, .inr (.inl (Int64.ofNat 0))), (6, .inl (nI (She F.1))), (5, .inl 0), (0, .inr (.inr (5, 0, 0))), (1, .inl (nI k)), (2, .inl (nI n1)), (3, .inl (nI t1)), (4, .inl 0)], [], σ) [] rfl ?_ ?_
          · exact trivial
          refine AW.pick [5, 6, 7, 8, 9, 3, 2, 1, 0] (ls' := [(0, .inr (.inr (5, 0, 0))), (1, .inl (nI k)), (2, .inl (nI n1)), (3, .inl (nI t1)), (4, .inl 0), (6, .inl (nI (She F.1))), (7, .inr (.inl (lN 0))), (9, .inr (.inl (lN (t1 ^ 0)))), (11, .inl (nI 0))]) rfl ?_
          refine AW.loop (α := Unit) 88 n1 (fun i _ => [(0, .inr (.inr (5, 0, 0))), (1, .inl (nI k)), (2, .inl (nI n1)), (3, .inl (nI t1)), (4, .inl 0), (6, .inl (nI (She F.1))), (7, .inr (.inl (lN 0))), (9, .inr (.inl (lN (t1 ^ i)))), (11, .inl (nI i))]) (fun i _ τ => σ = τ) ?_ ?_ n1 0 () _ (by omega) rfl
          · intro i _ τ hi hI hk9
            subst hI
            refine AW.run 7 [false] (99, [(0, .inr (.inr (5, 0, 0))), (1, .inl (nI k)), (2, .inl (nI n1)), (3, .inl (nI t1)), (4, .inl 0), (6, .inl (nI (She F.1))), (7, .inr (.inl (lN 0))), (9, .inr (.inl (lN (t1 ^ i)))), (11, .inl (nI i))], [.inr (.inl ((lN (t1 ^ i)) * ((nI t1).toInt64)))], σ) [¬ icP .ge (nI i) (nI n1)] rfl ?_ ?_
            · exact allP1 (nI_ge hi (by omega))
            rw [nI_l (by omega), lN_mul, ← Nat.pow_succ]
            refine AW.run 3 [] (88, [(11, .inl ((nI i) + 1)), (9, .inr (.inl (lN (t1 ^ (i + 1))))), (0, .inr (.inr (5, 0, 0))), (1, .inl (nI k)), (2, .inl (nI n1)), (3, .inl (nI t1)), (4, .inl 0), (6, .inl (nI (She F.1))), (7, .inr (.inl (lN 0)))], [], σ) [] rfl ?_ ?_
            · exact trivial
            rw [nI_1 i]
            refine AW.pick [2, 3, 4, 5, 6, 7, 8, 1, 0] (ls' := [(0, .inr (.inr (5, 0, 0))), (1, .inl (nI k)), (2, .inl (nI n1)), (3, .inl (nI t1)), (4, .inl 0), (6, .inl (nI (She F.1))), (7, .inr (.inl (lN 0))), (9, .inr (.inl (lN (t1 ^ (i + 1))))), (11, .inl (nI (i + 1)))]) rfl ?_
            exact hk9 () _ rfl
          · intro _ τ hI
            subst hI
            refine AW.run 5 [true] (110, [(11, .inl 0), (0, .inr (.inr (5, 0, 0))), (1, .inl (nI k)), (2, .inl (nI n1)), (3, .inl (nI t1)), (4, .inl 0), (6, .inl (nI (She F.1))), (7, .inr (.inl (lN 0))), (9, .inr (.inl (lN (t1 ^ n1))))], [], σ) [icP .ge (nI n1) (nI n1)] rfl ?_ ?_
            · exact allP1 (nI_le (Nat.le_refl _) (by omega))
            refine AW.pick [1, 2, 3, 4, 5, 6, 7, 8, 0] (ls' := [(0, .inr (.inr (5, 0, 0))), (1, .inl (nI k)), (2, .inl (nI n1)), (3, .inl (nI t1)), (4, .inl 0), (6, .inl (nI (She F.1))), (7, .inr (.inl (lN (wayT F.1 k (t1 - 1) n1 0)))), (9, .inr (.inl (lN (t1 ^ n1)))), (11, .inl (nI 0))]) rfl ?_
            refine AW.loop (α := Unit) 110 (2 ^ n1) (fun c _ => [(0, .inr (.inr (5, 0, 0))), (1, .inl (nI k)), (2, .inl (nI n1)), (3, .inl (nI t1)), (4, .inl 0), (6, .inl (nI (She F.1))), (7, .inr (.inl (lN (wayT F.1 k (t1 - 1) n1 c)))), (9, .inr (.inl (lN (t1 ^ n1)))), (11, .inl (nI c))]) (fun c _ τ => Fr P2 σ τ ∧ RepM (τ 5 0) F.1) ?_ ?_ (2 ^ n1) 0 () _ (by omega) ⟨fr_rfl, hR⟩
            · intro c _ τ hc hI hkc
              obtain ⟨hS1, hR1⟩ := hI
              have hcs : (wayT F.1 k (t1 - 1) n1 (c + 1)) = (wayT F.1 k (t1 - 1) n1 c) + styT F.1 k (t1 - 1) c n1 0 F.1 1 := rfl
              rw [← styM_T] at hcs
              refine AW.run 4 [] (115, [(0, .inr (.inr (5, 0, 0))), (1, .inl (nI k)), (2, .inl (nI n1)), (3, .inl (nI t1)), (4, .inl 0), (6, .inl (nI (She F.1))), (7, .inr (.inl (lN (wayT F.1 k (t1 - 1) n1 c)))), (9, .inr (.inl (lN (t1 ^ n1)))), (11, .inl (nI c))], [.inl (1 <<< ((nI n1) &&& 31)), .inl (nI c)], τ) [] rfl ?_ ?_
              · exact trivial
              rw [shl_n hn7]
              refine AW.run 2 [false] (119, [(0, .inr (.inr (5, 0, 0))), (1, .inl (nI k)), (2, .inl (nI n1)), (3, .inl (nI t1)), (4, .inl 0), (6, .inl (nI (She F.1))), (7, .inr (.inl (lN (wayT F.1 k (t1 - 1) n1 c)))), (9, .inr (.inl (lN (t1 ^ n1)))), (11, .inl (nI c))], [.inr (.inr (5, 0, 0))], τ) [¬ icP .ge (nI c) (nI (2 ^ n1))] rfl ?_ ?_
              · exact allP1 (nI_ge hc (by omega))
              refine AW.callVV (d' := 2) [] [] ⟨_, rfl⟩ f_6_thinks v_6_thinks l_6_203 ⟨rfl, by decide⟩ rfl (Nat.le_of_ble_eq_true rfl) rfl (Nat.le_of_ble_eq_true rfl) (c6_thinks F.1 τ hR1 hO.1) ?_
              rintro τ175 ⟨f175, r175, k175⟩
              refine AW.run 4 [] (128, [(14, .inl 0), (12, .inr (.inl (Int64.ofNat 1))), (0, .inr (.inr (5, 0, 0))), (1, .inl (nI k)), (2, .inl (nI n1)), (3, .inl (nI t1)), (4, .inl 0), (6, .inl (nI (She F.1))), (7, .inr (.inl (lN (wayT F.1 k (t1 - 1) n1 c)))), (9, .inr (.inl (lN (t1 ^ n1)))), (11, .inl (nI c))], [], τ175) [] rfl ?_ ?_
              · exact trivial
              refine AW.pick [2, 3, 4, 5, 6, 7, 8, 9, 10, 1, 0] (ls' := [(0, .inr (.inr (5, 0, 0))), (1, .inl (nI k)), (2, .inl (nI n1)), (3, .inl (nI t1)), (4, .inl 0), (6, .inl (nI (She F.1))), (7, .inr (.inl (lN (wayT F.1 k (t1 - 1) n1 c)))), (9, .inr (.inl (lN (t1 ^ n1)))), (11, .inl (nI c)), (12, .inr (.inl (lN 1))), (14, .inl (nI 0))]) rfl ?_
              refine AW.loop (α := Sv × Nat) 128 n1 (fun d y => [(0, .inr (.inr (5, 0, 0))), (1, .inl (nI k)), (2, .inl (nI n1)), (3, .inl (nI t1)), (4, .inl 0), (6, .inl (nI (She F.1))), (7, .inr (.inl (lN (wayT F.1 k (t1 - 1) n1 c)))), (9, .inr (.inl (lN (t1 ^ n1)))), (11, .inl (nI c)), (12, .inr (.inl (lN y.2))), (14, .inl (nI d))]) (fun d y υ => Fr P1 τ175 υ ∧ RepM (υ 5 0) y.1 ∧ SOK y.1 ∧ Sn y.1 = Sn F.1 ∧ Su y.1 = Su F.1 ∧ styM F.1 k (t1 - 1) c n1 0 F.1 1 = styM F.1 k (t1 - 1) c (n1 - d) d y.1 y.2) ?_ ?_ n1 0 (F.1, 1) _ (by omega) ⟨fr_rfl, r175, hO, rfl, rfl, rfl⟩
              · intro d y υ hd hI hk9
                obtain ⟨hF9, hT, hOT, hTn, hSu, hs⟩ := hI
                have hus : styM F.1 k (t1 - 1) c (n1 - d) d y.1 y.2 = styM F.1 k (t1 - 1) c (n1 - (d + 1)) (d + 1) (dayS (withU y.1 (Su F.1) (if c.testBit d = true then 9 else She F.1))) (if c.testBit d = true then y.2 else y.2 * (t1 - 1)) := by
                  obtain ⟨m, hm⟩ : ∃ m, n1 - d = m + 1 := ⟨n1 - d - 1, by omega⟩
                  rw [hm, show n1 - (d + 1) = m by omega]; rfl
                cases hb : c.testBit d
                · skip
                  rw [if_neg (by rw [hb]; decide), if_neg (by rw [hb]; decide)] at hus
                  refine AW.run 6 [false] (140, [(0, .inr (.inr (5, 0, 0))), (1, .inl (nI k)), (2, .inl (nI n1)), (3, .inl (nI t1)), (4, .inl 0), (6, .inl (nI (She F.1))), (7, .inr (.inl (lN (wayT F.1 k (t1 - 1) n1 c)))), (9, .inr (.inl (lN (t1 ^ n1)))), (11, .inl (nI c)), (12, .inr (.inl (lN y.2))), (14, .inl (nI d))], [.inl (nI d), .inl (nI c), .inr (.inl (lN y.2))], υ) [¬ icP .ge (nI d) (nI n1)] rfl ?_ ?_
                  · exact allP1 (nI_ge hd (by omega))
                  refine AW.callSI (d' := 0) [.inl (nI c), .inl (nI d)] [.inr (.inl (lN y.2))] ⟨_, rfl⟩ f_6_has s_6_has l_6_271 rfl (Nat.le_of_ble_eq_true rfl) rfl (Nat.le_of_ble_eq_true rfl) (c6_has (nI c) (nI d) υ) ?_
                  rintro _ _ ⟨rfl, rfl⟩
                  rw [has_f (by omega) (by omega) hb]
                  refine AW.run 4 [true] (153, [(0, .inr (.inr (5, 0, 0))), (1, .inl (nI k)), (2, .inl (nI n1)), (3, .inl (nI t1)), (4, .inl 0), (6, .inl (nI (She F.1))), (7, .inr (.inl (lN (wayT F.1 k (t1 - 1) n1 c)))), (9, .inr (.inl (lN (t1 ^ n1)))), (11, .inl (nI c)), (12, .inr (.inl (lN y.2))), (14, .inl (nI d))], [.inl ((nI t1) - 1), .inr (.inl (lN y.2))], υ) [icP .eq (0 : Int32) 0] rfl ?_ ?_
                  · exact allP1 (by decide : ((0 : Int32) = 0))
                  rw [nI_prd2 ht2]
                  refine AW.run 1 [] (154, [(0, .inr (.inr (5, 0, 0))), (1, .inl (nI k)), (2, .inl (nI n1)), (3, .inl (nI t1)), (4, .inl 0), (6, .inl (nI (She F.1))), (7, .inr (.inl (lN (wayT F.1 k (t1 - 1) n1 c)))), (9, .inr (.inl (lN (t1 ^ n1)))), (11, .inl (nI c)), (12, .inr (.inl (lN y.2))), (14, .inl (nI d))], [.inr (.inl ((nI (t1 - 1)).toInt64)), .inr (.inl (lN y.2))], υ) [] rfl ?_ ?_
                  · exact trivial
                  rw [nI_l (by omega)]
                  refine AW.run 1 [] (155, [(0, .inr (.inr (5, 0, 0))), (1, .inl (nI k)), (2, .inl (nI n1)), (3, .inl (nI t1)), (4, .inl 0), (6, .inl (nI (She F.1))), (7, .inr (.inl (lN (wayT F.1 k (t1 - 1) n1 c)))), (9, .inr (.inl (lN (t1 ^ n1)))), (11, .inl (nI c)), (12, .inr (.inl (lN y.2))), (14, .inl (nI d))], [.inr (.inl ((lN y.2) * (lN (t1 - 1))))], υ) [] rfl ?_ ?_
                  · exact trivial
                  rw [lN_mul]
                  refine AW.run 4 [] (162, [(12, .inr (.inl (lN (y.2 * (t1 - 1))))), (0, .inr (.inr (5, 0, 0))), (1, .inl (nI k)), (2, .inl (nI n1)), (3, .inl (nI t1)), (4, .inl 0), (6, .inl (nI (She F.1))), (7, .inr (.inl (lN (wayT F.1 k (t1 - 1) n1 c)))), (9, .inr (.inl (lN (t1 ^ n1)))), (11, .inl (nI c)), (14, .inl (nI d))], [.inl (nI d), .inl (nI c), .inr (.inr (5, 0, 0))], υ) [] rfl ?_ ?_
                  · exact trivial
                  refine AW.callSI (d' := 0) [.inl (nI c), .inl (nI d)] [.inr (.inr (5, 0, 0))] ⟨_, rfl⟩ f_6_has s_6_has l_6_271 rfl (Nat.le_of_ble_eq_true rfl) rfl (Nat.le_of_ble_eq_true rfl) (c6_has (nI c) (nI d) υ) ?_
                  rintro _ _ ⟨rfl, rfl⟩
                  rw [has_f (by omega) (by omega) hb]
                  refine AW.run 3 [true] (178, [(12, .inr (.inl (lN (y.2 * (t1 - 1))))), (0, .inr (.inr (5, 0, 0))), (1, .inl (nI k)), (2, .inl (nI n1)), (3, .inl (nI t1)), (4, .inl 0), (6, .inl (nI (She F.1))), (7, .inr (.inl (lN (wayT F.1 k (t1 - 1) n1 c)))), (9, .inr (.inl (lN (t1 ^ n1)))), (11, .inl (nI c)), (14, .inl (nI d))], [], (setM υ 5 0 0 9 (nI (She F.1)))) [icP .eq (0 : Int32) 0] rfl ?_ ?_
                  · exact allP1 (by decide : ((0 : Int32) = 0))
                  obtain ⟨τ176, e176⟩ : ∃ x, x = setM υ 5 0 0 9 (nI (She F.1)) := ⟨_, rfl⟩
                  rw [← e176]
                  have r176 : RepM (τ176 5 0) (withU y.1 (Su F.1) (She F.1)) := by rw [e176]; exact (by have h9 := repM_h (u := (She F.1)) hT; rw [hSu] at h9; exact h9)
                  have f176 : Fr P1 υ τ176 := by rw [e176]; exact fr_set fr_rfl (by unfold P1; omega)
                  refine AW.run 1 [] (179, [(12, .inr (.inl (lN (y.2 * (t1 - 1))))), (0, .inr (.inr (5, 0, 0))), (1, .inl (nI k)), (2, .inl (nI n1)), (3, .inl (nI t1)), (4, .inl 0), (6, .inl (nI (She F.1))), (7, .inr (.inl (lN (wayT F.1 k (t1 - 1) n1 c)))), (9, .inr (.inl (lN (t1 ^ n1)))), (11, .inl (nI c)), (14, .inl (nI d))], [.inr (.inr (5, 0, 0))], τ176) [] rfl ?_ ?_
                  · exact trivial
                  refine AW.callVV (d' := 4) [] [] ⟨_, rfl⟩ f_6_goesDay v_6_goesDay l_6_188 ⟨rfl, by decide⟩ rfl (Nat.le_of_ble_eq_true rfl) rfl (Nat.le_of_ble_eq_true rfl) (c6_goesDay (withU y.1 (Su F.1) (She F.1)) τ176 r176 (SOK_U hOT hO.2.2.2.1 (hO.2.2.2.2)) ) ?_
                  rintro τ177 ⟨f177, r177⟩
                  refine AW.run 2 [] (128, [(14, .inl ((nI d) + 1)), (12, .inr (.inl (lN (y.2 * (t1 - 1))))), (0, .inr (.inr (5, 0, 0))), (1, .inl (nI k)), (2, .inl (nI n1)), (3, .inl (nI t1)), (4, .inl 0), (6, .inl (nI (She F.1))), (7, .inr (.inl (lN (wayT F.1 k (t1 - 1) n1 c)))), (9, .inr (.inl (lN (t1 ^ n1)))), (11, .inl (nI c))], [], τ177) [] rfl ?_ ?_
                  · exact trivial
                  rw [nI_1 d]
                  refine AW.pick [2, 3, 4, 5, 6, 7, 8, 9, 10, 1, 0] (ls' := [(0, .inr (.inr (5, 0, 0))), (1, .inl (nI k)), (2, .inl (nI n1)), (3, .inl (nI t1)), (4, .inl 0), (6, .inl (nI (She F.1))), (7, .inr (.inl (lN (wayT F.1 k (t1 - 1) n1 c)))), (9, .inr (.inl (lN (t1 ^ n1)))), (11, .inl (nI c)), (12, .inr (.inl (lN (y.2 * (t1 - 1))))), (14, .inl (nI (d + 1)))]) rfl ?_
                  exact hk9 (dayS (withU y.1 (Su F.1) (She F.1)), (y.2 * (t1 - 1))) τ177 ⟨(fr_trans (fr_trans hF9 f176) f177), r177, (SOK_day (SOK_U hOT hO.2.2.2.1 (hO.2.2.2.2))), (day_n _).trans hTn, (day_uh _).1, by rw [hs, hus]⟩
                · skip
                  rw [if_pos hb, if_pos hb] at hus
                  refine AW.run 6 [false] (140, [(0, .inr (.inr (5, 0, 0))), (1, .inl (nI k)), (2, .inl (nI n1)), (3, .inl (nI t1)), (4, .inl 0), (6, .inl (nI (She F.1))), (7, .inr (.inl (lN (wayT F.1 k (t1 - 1) n1 c)))), (9, .inr (.inl (lN (t1 ^ n1)))), (11, .inl (nI c)), (12, .inr (.inl (lN y.2))), (14, .inl (nI d))], [.inl (nI d), .inl (nI c), .inr (.inl (lN y.2))], υ) [¬ icP .ge (nI d) (nI n1)] rfl ?_ ?_
                  · exact allP1 (nI_ge hd (by omega))
                  refine AW.callSI (d' := 0) [.inl (nI c), .inl (nI d)] [.inr (.inl (lN y.2))] ⟨_, rfl⟩ f_6_has s_6_has l_6_271 rfl (Nat.le_of_ble_eq_true rfl) rfl (Nat.le_of_ble_eq_true rfl) (c6_has (nI c) (nI d) υ) ?_
                  rintro _ _ ⟨rfl, rfl⟩
                  rw [has_t (by omega) (by omega) hb]
                  refine AW.run 3 [false] (154, [(0, .inr (.inr (5, 0, 0))), (1, .inl (nI k)), (2, .inl (nI n1)), (3, .inl (nI t1)), (4, .inl 0), (6, .inl (nI (She F.1))), (7, .inr (.inl (lN (wayT F.1 k (t1 - 1) n1 c)))), (9, .inr (.inl (lN (t1 ^ n1)))), (11, .inl (nI c)), (12, .inr (.inl (lN y.2))), (14, .inl (nI d))], [.inr (.inl (Int64.ofNat 1)), .inr (.inl (lN y.2))], υ) [¬ icP .eq (1 : Int32) 0] rfl ?_ ?_
                  · exact allP1 (by decide : ¬ ((1 : Int32) = 0))
                  refine AW.run 1 [] (155, [(0, .inr (.inr (5, 0, 0))), (1, .inl (nI k)), (2, .inl (nI n1)), (3, .inl (nI t1)), (4, .inl 0), (6, .inl (nI (She F.1))), (7, .inr (.inl (lN (wayT F.1 k (t1 - 1) n1 c)))), (9, .inr (.inl (lN (t1 ^ n1)))), (11, .inl (nI c)), (12, .inr (.inl (lN y.2))), (14, .inl (nI d))], [.inr (.inl ((lN y.2) * (Int64.ofNat 1)))], υ) [] rfl ?_ ?_
                  · exact trivial
                  rw [show lN y.2 * Int64.ofNat 1 = lN y.2 from by rw [show Int64.ofNat 1 = lN 1 from rfl, lN_mul, Nat.mul_one]]
                  refine AW.run 4 [] (162, [(12, .inr (.inl (lN y.2))), (0, .inr (.inr (5, 0, 0))), (1, .inl (nI k)), (2, .inl (nI n1)), (3, .inl (nI t1)), (4, .inl 0), (6, .inl (nI (She F.1))), (7, .inr (.inl (lN (wayT F.1 k (t1 - 1) n1 c)))), (9, .inr (.inl (lN (t1 ^ n1)))), (11, .inl (nI c)), (14, .inl (nI d))], [.inl (nI d), .inl (nI c), .inr (.inr (5, 0, 0))], υ) [] rfl ?_ ?_
                  · exact trivial
                  refine AW.callSI (d' := 0) [.inl (nI c), .inl (nI d)] [.inr (.inr (5, 0, 0))] ⟨_, rfl⟩ f_6_has s_6_has l_6_271 rfl (Nat.le_of_ble_eq_true rfl) rfl (Nat.le_of_ble_eq_true rfl) (c6_has (nI c) (nI d) υ) ?_
                  rintro _ _ ⟨rfl, rfl⟩
                  rw [has_t (by omega) (by omega) hb]
                  refine AW.run 4 [false] (178, [(12, .inr (.inl (lN y.2))), (0, .inr (.inr (5, 0, 0))), (1, .inl (nI k)), (2, .inl (nI n1)), (3, .inl (nI t1)), (4, .inl 0), (6, .inl (nI (She F.1))), (7, .inr (.inl (lN (wayT F.1 k (t1 - 1) n1 c)))), (9, .inr (.inl (lN (t1 ^ n1)))), (11, .inl (nI c)), (14, .inl (nI d))], [], (setM υ 5 0 0 9 9)) [¬ icP .eq (1 : Int32) 0] rfl ?_ ?_
                  · exact allP1 (by decide : ¬ ((1 : Int32) = 0))
                  obtain ⟨τ178, e178⟩ : ∃ x, x = setM υ 5 0 0 9 9 := ⟨_, rfl⟩
                  rw [← e178]
                  have r178 : RepM (τ178 5 0) (withU y.1 (Su F.1) 9) := by rw [e178]; exact (by have h9 := repM_h (u := 9) hT; rw [hSu] at h9; exact h9)
                  have f178 : Fr P1 υ τ178 := by rw [e178]; exact fr_set fr_rfl (by unfold P1; omega)
                  refine AW.run 1 [] (179, [(12, .inr (.inl (lN y.2))), (0, .inr (.inr (5, 0, 0))), (1, .inl (nI k)), (2, .inl (nI n1)), (3, .inl (nI t1)), (4, .inl 0), (6, .inl (nI (She F.1))), (7, .inr (.inl (lN (wayT F.1 k (t1 - 1) n1 c)))), (9, .inr (.inl (lN (t1 ^ n1)))), (11, .inl (nI c)), (14, .inl (nI d))], [.inr (.inr (5, 0, 0))], τ178) [] rfl ?_ ?_
                  · exact trivial
                  refine AW.callVV (d' := 4) [] [] ⟨_, rfl⟩ f_6_goesDay v_6_goesDay l_6_188 ⟨rfl, by decide⟩ rfl (Nat.le_of_ble_eq_true rfl) rfl (Nat.le_of_ble_eq_true rfl) (c6_goesDay (withU y.1 (Su F.1) 9) τ178 r178 (SOK_U hOT hO.2.2.2.1 (by decide)) ) ?_
                  rintro τ179 ⟨f179, r179⟩
                  refine AW.run 2 [] (128, [(14, .inl ((nI d) + 1)), (12, .inr (.inl (lN y.2))), (0, .inr (.inr (5, 0, 0))), (1, .inl (nI k)), (2, .inl (nI n1)), (3, .inl (nI t1)), (4, .inl 0), (6, .inl (nI (She F.1))), (7, .inr (.inl (lN (wayT F.1 k (t1 - 1) n1 c)))), (9, .inr (.inl (lN (t1 ^ n1)))), (11, .inl (nI c))], [], τ179) [] rfl ?_ ?_
                  · exact trivial
                  rw [nI_1 d]
                  refine AW.pick [2, 3, 4, 5, 6, 7, 8, 9, 10, 1, 0] (ls' := [(0, .inr (.inr (5, 0, 0))), (1, .inl (nI k)), (2, .inl (nI n1)), (3, .inl (nI t1)), (4, .inl 0), (6, .inl (nI (She F.1))), (7, .inr (.inl (lN (wayT F.1 k (t1 - 1) n1 c)))), (9, .inr (.inl (lN (t1 ^ n1)))), (11, .inl (nI c)), (12, .inr (.inl (lN y.2))), (14, .inl (nI (d + 1)))]) rfl ?_
                  exact hk9 (dayS (withU y.1 (Su F.1) 9), y.2) τ179 ⟨(fr_trans (fr_trans hF9 f178) f179), r179, (SOK_day (SOK_U hOT hO.2.2.2.1 (by decide))), (day_n _).trans hTn, (day_uh _).1, by rw [hs, hus]⟩
              · intro y υ hI
                obtain ⟨hF9, hT, hOT, hTn, hSu, hs⟩ := hI
                rw [hs, Nat.sub_self] at hcs
                have hcs : (wayT F.1 k (t1 - 1) n1 (c + 1)) = (wayT F.1 k (t1 - 1) n1 c) + (if Sw y.1 k = true then y.2 else 0) := hcs
                cases hw : Sw y.1 k
                · skip
                  rw [if_neg (by rw [hw]; decide)] at hcs
                  refine AW.run 6 [true] (192, [(0, .inr (.inr (5, 0, 0))), (1, .inl (nI k)), (2, .inl (nI n1)), (3, .inl (nI t1)), (4, .inl 0), (6, .inl (nI (She F.1))), (7, .inr (.inl (lN (wayT F.1 k (t1 - 1) n1 c)))), (9, .inr (.inl (lN (t1 ^ n1)))), (11, .inl (nI c)), (12, .inr (.inl (lN y.2))), (14, .inl (nI n1))], [.inl (nI k), .inr (.inr (5, 0, 0)), .inr (.inl (lN (wayT F.1 k (t1 - 1) n1 c)))], υ) [icP .ge (nI n1) (nI n1)] rfl ?_ ?_
                  · exact allP1 (nI_le (Nat.le_refl _) (by omega))
                  refine AW.callVI (d' := 0) [.inl (nI k)] [.inr (.inl (lN (wayT F.1 k (t1 - 1) n1 c)))] ⟨_, rfl⟩ f_6_isWhole v_6_isWhole l_6_108 ⟨rfl, by decide⟩ rfl (Nat.le_of_ble_eq_true rfl) rfl (Nat.le_of_ble_eq_true rfl) (c6_isWhole y.1 υ hT hOT.1 k (by rw [hTn]; exact hk)) ?_
                  rintro v _ ⟨rfl, hv⟩
                  obtain rfl : v = 0 := by
                    rcases hv with h | h
                    · exact absurd (hw.symm.trans h.2) (by decide)
                    · exact h.1
                  refine AW.run 3 [true] (205, [(0, .inr (.inr (5, 0, 0))), (1, .inl (nI k)), (2, .inl (nI n1)), (3, .inl (nI t1)), (4, .inl 0), (6, .inl (nI (She F.1))), (7, .inr (.inl (lN (wayT F.1 k (t1 - 1) n1 c)))), (9, .inr (.inl (lN (t1 ^ n1)))), (11, .inl (nI c)), (12, .inr (.inl (lN y.2))), (14, .inl (nI n1))], [.inr (.inl ((lN (wayT F.1 k (t1 - 1) n1 c)) + (Int64.ofNat 0)))], υ) [icP .eq (0 : Int32) 0] rfl ?_ ?_
                  · exact allP1 (by decide : ((0 : Int32) = 0))
                  rw [show lN (wayT F.1 k (t1 - 1) n1 c) + Int64.ofNat 0 = lN ((wayT F.1 k (t1 - 1) n1 c) + 0) from lN_add _ 0, ← hcs]
                  refine AW.run 2 [] (208, [(7, .inr (.inl (lN (wayT F.1 k (t1 - 1) n1 (c + 1))))), (0, .inr (.inr (5, 0, 0))), (1, .inl (nI k)), (2, .inl (nI n1)), (3, .inl (nI t1)), (4, .inl 0), (6, .inl (nI (She F.1))), (9, .inr (.inl (lN (t1 ^ n1)))), (11, .inl (nI c)), (12, .inr (.inl (lN y.2))), (14, .inl (nI n1))], [.inr (.inr (5, 0, 0))], υ) [] rfl ?_ ?_
                  · exact trivial
                  refine AW.callVV (d' := 2) [] [] ⟨_, rfl⟩ f_6_forgets v_6_forgets l_6_206 ⟨rfl, by decide⟩ rfl (Nat.le_of_ble_eq_true rfl) rfl (Nat.le_of_ble_eq_true rfl) (c6_forgets F.1 υ (repK_fr hO.1 hF9 (fun k _ _ q => by unfold P1 at q; omega) k175) hO.1) ?_
                  rintro τ180 ⟨f180, r180⟩
                  refine AW.run 2 [] (110, [(11, .inl ((nI c) + 1)), (7, .inr (.inl (lN (wayT F.1 k (t1 - 1) n1 (c + 1))))), (0, .inr (.inr (5, 0, 0))), (1, .inl (nI k)), (2, .inl (nI n1)), (3, .inl (nI t1)), (4, .inl 0), (6, .inl (nI (She F.1))), (9, .inr (.inl (lN (t1 ^ n1)))), (12, .inr (.inl (lN y.2))), (14, .inl (nI n1))], [], τ180) [] rfl ?_ ?_
                  · exact trivial
                  rw [nI_1 c]
                  refine AW.pick [2, 3, 4, 5, 6, 7, 1, 8, 0] (ls' := [(0, .inr (.inr (5, 0, 0))), (1, .inl (nI k)), (2, .inl (nI n1)), (3, .inl (nI t1)), (4, .inl 0), (6, .inl (nI (She F.1))), (7, .inr (.inl (lN (wayT F.1 k (t1 - 1) n1 (c + 1))))), (9, .inr (.inl (lN (t1 ^ n1)))), (11, .inl (nI (c + 1)))]) rfl ?_
                  exact hkc () τ180 ⟨(fr_trans (fr_trans (fr_trans hS1 f175) (fr_12 hF9)) f180), r180⟩
                · skip
                  rw [if_pos hw] at hcs
                  refine AW.run 6 [true] (192, [(0, .inr (.inr (5, 0, 0))), (1, .inl (nI k)), (2, .inl (nI n1)), (3, .inl (nI t1)), (4, .inl 0), (6, .inl (nI (She F.1))), (7, .inr (.inl (lN (wayT F.1 k (t1 - 1) n1 c)))), (9, .inr (.inl (lN (t1 ^ n1)))), (11, .inl (nI c)), (12, .inr (.inl (lN y.2))), (14, .inl (nI n1))], [.inl (nI k), .inr (.inr (5, 0, 0)), .inr (.inl (lN (wayT F.1 k (t1 - 1) n1 c)))], υ) [icP .ge (nI n1) (nI n1)] rfl ?_ ?_
                  · exact allP1 (nI_le (Nat.le_refl _) (by omega))
                  refine AW.callVI (d' := 0) [.inl (nI k)] [.inr (.inl (lN (wayT F.1 k (t1 - 1) n1 c)))] ⟨_, rfl⟩ f_6_isWhole v_6_isWhole l_6_108 ⟨rfl, by decide⟩ rfl (Nat.le_of_ble_eq_true rfl) rfl (Nat.le_of_ble_eq_true rfl) (c6_isWhole y.1 υ hT hOT.1 k (by rw [hTn]; exact hk)) ?_
                  rintro v _ ⟨rfl, hv⟩
                  obtain rfl : v = 1 := by
                    rcases hv with h | h
                    · exact h.1
                    · exact absurd (hw.symm.trans h.2) (by decide)
                  refine AW.run 4 [false] (205, [(0, .inr (.inr (5, 0, 0))), (1, .inl (nI k)), (2, .inl (nI n1)), (3, .inl (nI t1)), (4, .inl 0), (6, .inl (nI (She F.1))), (7, .inr (.inl (lN (wayT F.1 k (t1 - 1) n1 c)))), (9, .inr (.inl (lN (t1 ^ n1)))), (11, .inl (nI c)), (12, .inr (.inl (lN y.2))), (14, .inl (nI n1))], [.inr (.inl ((lN (wayT F.1 k (t1 - 1) n1 c)) + (lN y.2)))], υ) [¬ icP .eq (1 : Int32) 0] rfl ?_ ?_
                  · exact allP1 (by decide : ¬ ((1 : Int32) = 0))
                  rw [lN_add, ← hcs]
                  refine AW.run 2 [] (208, [(7, .inr (.inl (lN (wayT F.1 k (t1 - 1) n1 (c + 1))))), (0, .inr (.inr (5, 0, 0))), (1, .inl (nI k)), (2, .inl (nI n1)), (3, .inl (nI t1)), (4, .inl 0), (6, .inl (nI (She F.1))), (9, .inr (.inl (lN (t1 ^ n1)))), (11, .inl (nI c)), (12, .inr (.inl (lN y.2))), (14, .inl (nI n1))], [.inr (.inr (5, 0, 0))], υ) [] rfl ?_ ?_
                  · exact trivial
                  refine AW.callVV (d' := 2) [] [] ⟨_, rfl⟩ f_6_forgets v_6_forgets l_6_206 ⟨rfl, by decide⟩ rfl (Nat.le_of_ble_eq_true rfl) rfl (Nat.le_of_ble_eq_true rfl) (c6_forgets F.1 υ (repK_fr hO.1 hF9 (fun k _ _ q => by unfold P1 at q; omega) k175) hO.1) ?_
                  rintro τ181 ⟨f181, r181⟩
                  refine AW.run 2 [] (110, [(11, .inl ((nI c) + 1)), (7, .inr (.inl (lN (wayT F.1 k (t1 - 1) n1 (c + 1))))), (0, .inr (.inr (5, 0, 0))), (1, .inl (nI k)), (2, .inl (nI n1)), (3, .inl (nI t1)), (4, .inl 0), (6, .inl (nI (She F.1))), (9, .inr (.inl (lN (t1 ^ n1)))), (12, .inr (.inl (lN y.2))), (14, .inl (nI n1))], [], τ181) [] rfl ?_ ?_
                  · exact trivial
                  rw [nI_1 c]
                  refine AW.pick [2, 3, 4, 5, 6, 7, 1, 8, 0] (ls' := [(0, .inr (.inr (5, 0, 0))), (1, .inl (nI k)), (2, .inl (nI n1)), (3, .inl (nI t1)), (4, .inl 0), (6, .inl (nI (She F.1))), (7, .inr (.inl (lN (wayT F.1 k (t1 - 1) n1 (c + 1))))), (9, .inr (.inl (lN (t1 ^ n1)))), (11, .inl (nI (c + 1)))]) rfl ?_
                  exact hkc () τ181 ⟨(fr_trans (fr_trans (fr_trans hS1 f175) (fr_12 hF9)) f181), r181⟩
            · intro _ τ hI
              obtain ⟨hS1, hR1⟩ := hI
              refine AW.run 4 [] (115, [(0, .inr (.inr (5, 0, 0))), (1, .inl (nI k)), (2, .inl (nI n1)), (3, .inl (nI t1)), (4, .inl 0), (6, .inl (nI (She F.1))), (7, .inr (.inl (lN (wayT F.1 k (t1 - 1) n1 (2 ^ n1))))), (9, .inr (.inl (lN (t1 ^ n1)))), (11, .inl (nI (2 ^ n1)))], [.inl (1 <<< ((nI n1) &&& 31)), .inl (nI (2 ^ n1))], τ) [] rfl ?_ ?_
              · exact trivial
              rw [shl_n hn7]
              refine AW.run 4 [true] (223, [(0, .inr (.inr (5, 0, 0))), (1, .inl (nI k)), (2, .inl (nI n1)), (3, .inl (nI t1)), (4, .inl 0), (6, .inl (nI (She F.1))), (7, .inr (.inl (lN (wayT F.1 k (t1 - 1) n1 (2 ^ n1))))), (9, .inr (.inl (lN (t1 ^ n1)))), (11, .inl (nI (2 ^ n1)))], [.inl 0, .inr (.inl (lN (t1 ^ n1))), .inr (.inl (lN (wayT F.1 k (t1 - 1) n1 (2 ^ n1))))], τ) [icP .ge (nI (2 ^ n1)) (nI (2 ^ n1))] rfl ?_ ?_
              · exact allP1 (nI_le (Nat.le_refl _) (by omega))
              refine AW.callSL (d' := 1) [.inr (.inl (lN (wayT F.1 k (t1 - 1) n1 (2 ^ n1)))), .inr (.inl (lN (t1 ^ n1))), .inl 0] [] ⟨_, rfl⟩ f_6_partOf s_6_partOf l_6_274 rfl (Nat.le_of_ble_eq_true rfl) rfl (Nat.le_of_ble_eq_true rfl) (c6_partOf (wayT F.1 k (t1 - 1) n1 (2 ^ n1)) (t1 ^ n1) 0 (way_lt (by omega) (by omega) hn7 h128) (t_pow ht20 hn7) (by decide) (Nat.pow_pos (by omega)) τ) ?_
              rintro _ _ ⟨rfl, rfl⟩
              refine AW.retl ⟨_, rfl⟩ rfl ?_
              refine ⟨F, ?_, QD_fr hF hS1 hD hR1⟩
              unfold thundersP; rw [hbk]; dsimp only; rw [if_neg hneg, if_neg hneg2, if_pos (by decide), nI_clamp ht31, nI_clamp hn31]; rfl
        by_cases hp1 : p = 1
        · subst hp1
          refine AW.run 2 [] (2, [(0, .inr (.inr (5, 0, 0))), (1, .inl (nI k)), (2, .inl (nI n1)), (3, .inl (nI t1)), (4, .inl 1)], [.inl (nI k), .inr (.inr (5, 0, 0))], σ) [] rfl ?_ ?_
          · exact trivial
          refine AW.callVI (d' := 0) [.inl (nI k)] [] ⟨_, rfl⟩ f_6_isBottle v_6_isBottle l_6_105 ⟨rfl, by decide⟩ rfl (Nat.le_of_ble_eq_true rfl) rfl (Nat.le_of_ble_eq_true rfl) (c6_isBottle1 (Sn F.1) σ e7 hn8 k hk) ?_
          rintro _ _ ⟨rfl, rfl⟩
          refine AW.run 15 [true, false, true, false, true] (47, [(0, .inr (.inr (5, 0, 0))), (1, .inl (nI k)), (2, .inl (nI n1)), (3, .inl (nI t1)), (4, .inl 1)], [.inl 1, .inl 0, .inl 1], σ) [icP .ne (1 : Int32) 0, ¬ icP .lt (nI n1) 0, icP .ge (nI t1) 2, ¬ icP .gt (nI n1) 7, icP .le (nI t1) 20] rfl ?_ ?_
          · exact ⟨(by decide : (¬ (1 : Int32) = 0)), (hn0), (ge_of htn), (nI_nlt (a := 7) hn7 (by decide)), allP1 (nI_le (b := 20) ht20 (by decide))⟩
          refine AW.callSI (d' := 0) [.inl 1, .inl 0, .inl 1] [] ⟨_, rfl⟩ f_6_isIn s_6_isIn l_6_80 rfl (Nat.le_of_ble_eq_true rfl) rfl (Nat.le_of_ble_eq_true rfl) (c6_isIn1 1 0 1 (by decide) (by decide) σ) ?_
          rintro _ _ ⟨rfl, rfl⟩
          refine AW.run 7 [true, true] (77, [(5, .inl 0), (0, .inr (.inr (5, 0, 0))), (1, .inl (nI k)), (2, .inl (nI n1)), (3, .inl (nI t1)), (4, .inl 1)], [.inl (σ 5 0 0 9)], σ) [icP .ne (1 : Int32) 0, icP .eq (0 : Int32) 0] rfl ?_ ?_
          · exact ⟨(by decide : (¬ (1 : Int32) = 0)), allP1 (by decide : ((0 : Int32) = 0))⟩
          rw [hR.1.2.2.1]
          refine AW.run 7 [] (88, [(11, .inl 0), (9, .inr (.inl (Int64.ofNat 1))), (7, .inr (.inl (Int64.ofNat 0))), (6, .inl (nI (She F.1))), (5, .inl 0), (0, .inr (.inr (5, 0, 0))), (1, .inl (nI k)), (2, .inl (nI n1)), (3, .inl (nI t1)), (4, .inl 1)], [], σ) [] rfl ?_ ?_
          · exact trivial
          refine AW.pick [5, 6, 7, 8, 9, 3, 2, 1, 0] (ls' := [(0, .inr (.inr (5, 0, 0))), (1, .inl (nI k)), (2, .inl (nI n1)), (3, .inl (nI t1)), (4, .inl 1), (6, .inl (nI (She F.1))), (7, .inr (.inl (lN 0))), (9, .inr (.inl (lN (t1 ^ 0)))), (11, .inl (nI 0))]) rfl ?_
          refine AW.loop (α := Unit) 88 n1 (fun i _ => [(0, .inr (.inr (5, 0, 0))), (1, .inl (nI k)), (2, .inl (nI n1)), (3, .inl (nI t1)), (4, .inl 1), (6, .inl (nI (She F.1))), (7, .inr (.inl (lN 0))), (9, .inr (.inl (lN (t1 ^ i)))), (11, .inl (nI i))]) (fun i _ τ => σ = τ) ?_ ?_ n1 0 () _ (by omega) rfl
          · intro i _ τ hi hI hk9
            subst hI
            refine AW.run 7 [false] (99, [(0, .inr (.inr (5, 0, 0))), (1, .inl (nI k)), (2, .inl (nI n1)), (3, .inl (nI t1)), (4, .inl 1), (6, .inl (nI (She F.1))), (7, .inr (.inl (lN 0))), (9, .inr (.inl (lN (t1 ^ i)))), (11, .inl (nI i))], [.inr (.inl ((lN (t1 ^ i)) * ((nI t1).toInt64)))], σ) [¬ icP .ge (nI i) (nI n1)] rfl ?_ ?_
            · exact allP1 (nI_ge hi (by omega))
            rw [nI_l (by omega), lN_mul, ← Nat.pow_succ]
            refine AW.run 3 [] (88, [(11, .inl ((nI i) + 1)), (9, .inr (.inl (lN (t1 ^ (i + 1))))), (0, .inr (.inr (5, 0, 0))), (1, .inl (nI k)), (2, .inl (nI n1)), (3, .inl (nI t1)), (4, .inl 1), (6, .inl (nI (She F.1))), (7, .inr (.inl (lN 0)))], [], σ) [] rfl ?_ ?_
            · exact trivial
            rw [nI_1 i]
            refine AW.pick [2, 3, 4, 5, 6, 7, 8, 1, 0] (ls' := [(0, .inr (.inr (5, 0, 0))), (1, .inl (nI k)), (2, .inl (nI n1)), (3, .inl (nI t1)), (4, .inl 1), (6, .inl (nI (She F.1))), (7, .inr (.inl (lN 0))), (9, .inr (.inl (lN (t1 ^ (i + 1))))), (11, .inl (nI (i + 1)))]) rfl ?_
            exact hk9 () _ rfl
          · intro _ τ hI
            subst hI
            refine AW.run 5 [true] (110, [(11, .inl 0), (0, .inr (.inr (5, 0, 0))), (1, .inl (nI k)), (2, .inl (nI n1)), (3, .inl (nI t1)), (4, .inl 1), (6, .inl (nI (She F.1))), (7, .inr (.inl (lN 0))), (9, .inr (.inl (lN (t1 ^ n1))))], [], σ) [icP .ge (nI n1) (nI n1)] rfl ?_ ?_
            · exact allP1 (nI_le (Nat.le_refl _) (by omega))
            refine AW.pick [1, 2, 3, 4, 5, 6, 7, 8, 0] (ls' := [(0, .inr (.inr (5, 0, 0))), (1, .inl (nI k)), (2, .inl (nI n1)), (3, .inl (nI t1)), (4, .inl 1), (6, .inl (nI (She F.1))), (7, .inr (.inl (lN (wayT F.1 k (t1 - 1) n1 0)))), (9, .inr (.inl (lN (t1 ^ n1)))), (11, .inl (nI 0))]) rfl ?_
            refine AW.loop (α := Unit) 110 (2 ^ n1) (fun c _ => [(0, .inr (.inr (5, 0, 0))), (1, .inl (nI k)), (2, .inl (nI n1)), (3, .inl (nI t1)), (4, .inl 1), (6, .inl (nI (She F.1))), (7, .inr (.inl (lN (wayT F.1 k (t1 - 1) n1 c)))), (9, .inr (.inl (lN (t1 ^ n1)))), (11, .inl (nI c))]) (fun c _ τ => Fr P2 σ τ ∧ RepM (τ 5 0) F.1) ?_ ?_ (2 ^ n1) 0 () _ (by omega) ⟨fr_rfl, hR⟩
            · intro c _ τ hc hI hkc
              obtain ⟨hS1, hR1⟩ := hI
              have hcs : (wayT F.1 k (t1 - 1) n1 (c + 1)) = (wayT F.1 k (t1 - 1) n1 c) + styT F.1 k (t1 - 1) c n1 0 F.1 1 := rfl
              rw [← styM_T] at hcs
              refine AW.run 4 [] (115, [(0, .inr (.inr (5, 0, 0))), (1, .inl (nI k)), (2, .inl (nI n1)), (3, .inl (nI t1)), (4, .inl 1), (6, .inl (nI (She F.1))), (7, .inr (.inl (lN (wayT F.1 k (t1 - 1) n1 c)))), (9, .inr (.inl (lN (t1 ^ n1)))), (11, .inl (nI c))], [.inl (1 <<< ((nI n1) &&& 31)), .inl (nI c)], τ) [] rfl ?_ ?_
              · exact trivial
              rw [shl_n hn7]
              refine AW.run 2 [false] (119, [(0, .inr (.inr (5, 0, 0))), (1, .inl (nI k)), (2, .inl (nI n1)), (3, .inl (nI t1)), (4, .inl 1), (6, .inl (nI (She F.1))), (7, .inr (.inl (lN (wayT F.1 k (t1 - 1) n1 c)))), (9, .inr (.inl (lN (t1 ^ n1)))), (11, .inl (nI c))], [.inr (.inr (5, 0, 0))], τ) [¬ icP .ge (nI c) (nI (2 ^ n1))] rfl ?_ ?_
              · exact allP1 (nI_ge hc (by omega))
              refine AW.callVV (d' := 2) [] [] ⟨_, rfl⟩ f_6_thinks v_6_thinks l_6_203 ⟨rfl, by decide⟩ rfl (Nat.le_of_ble_eq_true rfl) rfl (Nat.le_of_ble_eq_true rfl) (c6_thinks F.1 τ hR1 hO.1) ?_
              rintro τ182 ⟨f182, r182, k182⟩
              refine AW.run 4 [] (128, [(14, .inl 0), (12, .inr (.inl (Int64.ofNat 1))), (0, .inr (.inr (5, 0, 0))), (1, .inl (nI k)), (2, .inl (nI n1)), (3, .inl (nI t1)), (4, .inl 1), (6, .inl (nI (She F.1))), (7, .inr (.inl (lN (wayT F.1 k (t1 - 1) n1 c)))), (9, .inr (.inl (lN (t1 ^ n1)))), (11, .inl (nI c))], [], τ182) [] rfl ?_ ?_
              · exact trivial
              refine AW.pick [2, 3, 4, 5, 6, 7, 8, 9, 10, 1, 0] (ls' := [(0, .inr (.inr (5, 0, 0))), (1, .inl (nI k)), (2, .inl (nI n1)), (3, .inl (nI t1)), (4, .inl 1), (6, .inl (nI (She F.1))), (7, .inr (.inl (lN (wayT F.1 k (t1 - 1) n1 c)))), (9, .inr (.inl (lN (t1 ^ n1)))), (11, .inl (nI c)), (12, .inr (.inl (lN 1))), (14, .inl (nI 0))]) rfl ?_
              refine AW.loop (α := Sv × Nat) 128 n1 (fun d y => [(0, .inr (.inr (5, 0, 0))), (1, .inl (nI k)), (2, .inl (nI n1)), (3, .inl (nI t1)), (4, .inl 1), (6, .inl (nI (She F.1))), (7, .inr (.inl (lN (wayT F.1 k (t1 - 1) n1 c)))), (9, .inr (.inl (lN (t1 ^ n1)))), (11, .inl (nI c)), (12, .inr (.inl (lN y.2))), (14, .inl (nI d))]) (fun d y υ => Fr P1 τ182 υ ∧ RepM (υ 5 0) y.1 ∧ SOK y.1 ∧ Sn y.1 = Sn F.1 ∧ Su y.1 = Su F.1 ∧ styM F.1 k (t1 - 1) c n1 0 F.1 1 = styM F.1 k (t1 - 1) c (n1 - d) d y.1 y.2) ?_ ?_ n1 0 (F.1, 1) _ (by omega) ⟨fr_rfl, r182, hO, rfl, rfl, rfl⟩
              · intro d y υ hd hI hk9
                obtain ⟨hF9, hT, hOT, hTn, hSu, hs⟩ := hI
                have hus : styM F.1 k (t1 - 1) c (n1 - d) d y.1 y.2 = styM F.1 k (t1 - 1) c (n1 - (d + 1)) (d + 1) (dayS (withU y.1 (Su F.1) (if c.testBit d = true then 9 else She F.1))) (if c.testBit d = true then y.2 else y.2 * (t1 - 1)) := by
                  obtain ⟨m, hm⟩ : ∃ m, n1 - d = m + 1 := ⟨n1 - d - 1, by omega⟩
                  rw [hm, show n1 - (d + 1) = m by omega]; rfl
                cases hb : c.testBit d
                · skip
                  rw [if_neg (by rw [hb]; decide), if_neg (by rw [hb]; decide)] at hus
                  refine AW.run 6 [false] (140, [(0, .inr (.inr (5, 0, 0))), (1, .inl (nI k)), (2, .inl (nI n1)), (3, .inl (nI t1)), (4, .inl 1), (6, .inl (nI (She F.1))), (7, .inr (.inl (lN (wayT F.1 k (t1 - 1) n1 c)))), (9, .inr (.inl (lN (t1 ^ n1)))), (11, .inl (nI c)), (12, .inr (.inl (lN y.2))), (14, .inl (nI d))], [.inl (nI d), .inl (nI c), .inr (.inl (lN y.2))], υ) [¬ icP .ge (nI d) (nI n1)] rfl ?_ ?_
                  · exact allP1 (nI_ge hd (by omega))
                  refine AW.callSI (d' := 0) [.inl (nI c), .inl (nI d)] [.inr (.inl (lN y.2))] ⟨_, rfl⟩ f_6_has s_6_has l_6_271 rfl (Nat.le_of_ble_eq_true rfl) rfl (Nat.le_of_ble_eq_true rfl) (c6_has (nI c) (nI d) υ) ?_
                  rintro _ _ ⟨rfl, rfl⟩
                  rw [has_f (by omega) (by omega) hb]
                  refine AW.run 4 [true] (153, [(0, .inr (.inr (5, 0, 0))), (1, .inl (nI k)), (2, .inl (nI n1)), (3, .inl (nI t1)), (4, .inl 1), (6, .inl (nI (She F.1))), (7, .inr (.inl (lN (wayT F.1 k (t1 - 1) n1 c)))), (9, .inr (.inl (lN (t1 ^ n1)))), (11, .inl (nI c)), (12, .inr (.inl (lN y.2))), (14, .inl (nI d))], [.inl ((nI t1) - 1), .inr (.inl (lN y.2))], υ) [icP .eq (0 : Int32) 0] rfl ?_ ?_
                  · exact allP1 (by decide : ((0 : Int32) = 0))
                  rw [nI_prd2 ht2]
                  refine AW.run 1 [] (154, [(0, .inr (.inr (5, 0, 0))), (1, .inl (nI k)), (2, .inl (nI n1)), (3, .inl (nI t1)), (4, .inl 1), (6, .inl (nI (She F.1))), (7, .inr (.inl (lN (wayT F.1 k (t1 - 1) n1 c)))), (9, .inr (.inl (lN (t1 ^ n1)))), (11, .inl (nI c)), (12, .inr (.inl (lN y.2))), (14, .inl (nI d))], [.inr (.inl ((nI (t1 - 1)).toInt64)), .inr (.inl (lN y.2))], υ) [] rfl ?_ ?_
                  · exact trivial
                  rw [nI_l (by omega)]
                  refine AW.run 1 [] (155, [(0, .inr (.inr (5, 0, 0))), (1, .inl (nI k)), (2, .inl (nI n1)), (3, .inl (nI t1)), (4, .inl 1), (6, .inl (nI (She F.1))), (7, .inr (.inl (lN (wayT F.1 k (t1 - 1) n1 c)))), (9, .inr (.inl (lN (t1 ^ n1)))), (11, .inl (nI c)), (12, .inr (.inl (lN y.2))), (14, .inl (nI d))], [.inr (.inl ((lN y.2) * (lN (t1 - 1))))], υ) [] rfl ?_ ?_
                  · exact trivial
                  rw [lN_mul]
                  refine AW.run 4 [] (162, [(12, .inr (.inl (lN (y.2 * (t1 - 1))))), (0, .inr (.inr (5, 0, 0))), (1, .inl (nI k)), (2, .inl (nI n1)), (3, .inl (nI t1)), (4, .inl 1), (6, .inl (nI (She F.1))), (7, .inr (.inl (lN (wayT F.1 k (t1 - 1) n1 c)))), (9, .inr (.inl (lN (t1 ^ n1)))), (11, .inl (nI c)), (14, .inl (nI d))], [.inl (nI d), .inl (nI c), .inr (.inr (5, 0, 0))], υ) [] rfl ?_ ?_
                  · exact trivial
                  refine AW.callSI (d' := 0) [.inl (nI c), .inl (nI d)] [.inr (.inr (5, 0, 0))] ⟨_, rfl⟩ f_6_has s_6_has l_6_271 rfl (Nat.le_of_ble_eq_true rfl) rfl (Nat.le_of_ble_eq_true rfl) (c6_has (nI c) (nI d) υ) ?_
                  rintro _ _ ⟨rfl, rfl⟩
                  rw [has_f (by omega) (by omega) hb]
                  refine AW.run 3 [true] (178, [(12, .inr (.inl (lN (y.2 * (t1 - 1))))), (0, .inr (.inr (5, 0, 0))), (1, .inl (nI k)), (2, .inl (nI n1)), (3, .inl (nI t1)), (4, .inl 1), (6, .inl (nI (She F.1))), (7, .inr (.inl (lN (wayT F.1 k (t1 - 1) n1 c)))), (9, .inr (.inl (lN (t1 ^ n1)))), (11, .inl (nI c)), (14, .inl (nI d))], [], (setM υ 5 0 0 9 (nI (She F.1)))) [icP .eq (0 : Int32) 0] rfl ?_ ?_
                  · exact allP1 (by decide : ((0 : Int32) = 0))
                  obtain ⟨τ183, e183⟩ : ∃ x, x = setM υ 5 0 0 9 (nI (She F.1)) := ⟨_, rfl⟩
                  rw [← e183]
                  have r183 : RepM (τ183 5 0) (withU y.1 (Su F.1) (She F.1)) := by rw [e183]; exact (by have h9 := repM_h (u := (She F.1)) hT; rw [hSu] at h9; exact h9)
                  have f183 : Fr P1 υ τ183 := by rw [e183]; exact fr_set fr_rfl (by unfold P1; omega)
                  refine AW.run 1 [] (179, [(12, .inr (.inl (lN (y.2 * (t1 - 1))))), (0, .inr (.inr (5, 0, 0))), (1, .inl (nI k)), (2, .inl (nI n1)), (3, .inl (nI t1)), (4, .inl 1), (6, .inl (nI (She F.1))), (7, .inr (.inl (lN (wayT F.1 k (t1 - 1) n1 c)))), (9, .inr (.inl (lN (t1 ^ n1)))), (11, .inl (nI c)), (14, .inl (nI d))], [.inr (.inr (5, 0, 0))], τ183) [] rfl ?_ ?_
                  · exact trivial
                  refine AW.callVV (d' := 4) [] [] ⟨_, rfl⟩ f_6_goesDay v_6_goesDay l_6_188 ⟨rfl, by decide⟩ rfl (Nat.le_of_ble_eq_true rfl) rfl (Nat.le_of_ble_eq_true rfl) (c6_goesDay (withU y.1 (Su F.1) (She F.1)) τ183 r183 (SOK_U hOT hO.2.2.2.1 (hO.2.2.2.2)) ) ?_
                  rintro τ184 ⟨f184, r184⟩
                  refine AW.run 2 [] (128, [(14, .inl ((nI d) + 1)), (12, .inr (.inl (lN (y.2 * (t1 - 1))))), (0, .inr (.inr (5, 0, 0))), (1, .inl (nI k)), (2, .inl (nI n1)), (3, .inl (nI t1)), (4, .inl 1), (6, .inl (nI (She F.1))), (7, .inr (.inl (lN (wayT F.1 k (t1 - 1) n1 c)))), (9, .inr (.inl (lN (t1 ^ n1)))), (11, .inl (nI c))], [], τ184) [] rfl ?_ ?_
                  · exact trivial
                  rw [nI_1 d]
                  refine AW.pick [2, 3, 4, 5, 6, 7, 8, 9, 10, 1, 0] (ls' := [(0, .inr (.inr (5, 0, 0))), (1, .inl (nI k)), (2, .inl (nI n1)), (3, .inl (nI t1)), (4, .inl 1), (6, .inl (nI (She F.1))), (7, .inr (.inl (lN (wayT F.1 k (t1 - 1) n1 c)))), (9, .inr (.inl (lN (t1 ^ n1)))), (11, .inl (nI c)), (12, .inr (.inl (lN (y.2 * (t1 - 1))))), (14, .inl (nI (d + 1)))]) rfl ?_
                  exact hk9 (dayS (withU y.1 (Su F.1) (She F.1)), (y.2 * (t1 - 1))) τ184 ⟨(fr_trans (fr_trans hF9 f183) f184), r184, (SOK_day (SOK_U hOT hO.2.2.2.1 (hO.2.2.2.2))), (day_n _).trans hTn, (day_uh _).1, by rw [hs, hus]⟩
                · skip
                  rw [if_pos hb, if_pos hb] at hus
                  refine AW.run 6 [false] (140, [(0, .inr (.inr (5, 0, 0))), (1, .inl (nI k)), (2, .inl (nI n1)), (3, .inl (nI t1)), (4, .inl 1), (6, .inl (nI (She F.1))), (7, .inr (.inl (lN (wayT F.1 k (t1 - 1) n1 c)))), (9, .inr (.inl (lN (t1 ^ n1)))), (11, .inl (nI c)), (12, .inr (.inl (lN y.2))), (14, .inl (nI d))], [.inl (nI d), .inl (nI c), .inr (.inl (lN y.2))], υ) [¬ icP .ge (nI d) (nI n1)] rfl ?_ ?_
                  · exact allP1 (nI_ge hd (by omega))
                  refine AW.callSI (d' := 0) [.inl (nI c), .inl (nI d)] [.inr (.inl (lN y.2))] ⟨_, rfl⟩ f_6_has s_6_has l_6_271 rfl (Nat.le_of_ble_eq_true rfl) rfl (Nat.le_of_ble_eq_true rfl) (c6_has (nI c) (nI d) υ) ?_
                  rintro _ _ ⟨rfl, rfl⟩
                  rw [has_t (by omega) (by omega) hb]
                  refine AW.run 3 [false] (154, [(0, .inr (.inr (5, 0, 0))), (1, .inl (nI k)), (2, .inl (nI n1)), (3, .inl (nI t1)), (4, .inl 1), (6, .inl (nI (She F.1))), (7, .inr (.inl (lN (wayT F.1 k (t1 - 1) n1 c)))), (9, .inr (.inl (lN (t1 ^ n1)))), (11, .inl (nI c)), (12, .inr (.inl (lN y.2))), (14, .inl (nI d))], [.inr (.inl (Int64.ofNat 1)), .inr (.inl (lN y.2))], υ) [¬ icP .eq (1 : Int32) 0] rfl ?_ ?_
                  · exact allP1 (by decide : ¬ ((1 : Int32) = 0))
                  refine AW.run 1 [] (155, [(0, .inr (.inr (5, 0, 0))), (1, .inl (nI k)), (2, .inl (nI n1)), (3, .inl (nI t1)), (4, .inl 1), (6, .inl (nI (She F.1))), (7, .inr (.inl (lN (wayT F.1 k (t1 - 1) n1 c)))), (9, .inr (.inl (lN (t1 ^ n1)))), (11, .inl (nI c)), (12, .inr (.inl (lN y.2))), (14, .inl (nI d))], [.inr (.inl ((lN y.2) * (Int64.ofNat 1)))], υ) [] rfl ?_ ?_
                  · exact trivial
                  rw [show lN y.2 * Int64.ofNat 1 = lN y.2 from by rw [show Int64.ofNat 1 = lN 1 from rfl, lN_mul, Nat.mul_one]]
                  refine AW.run 4 [] (162, [(12, .inr (.inl (lN y.2))), (0, .inr (.inr (5, 0, 0))), (1, .inl (nI k)), (2, .inl (nI n1)), (3, .inl (nI t1)), (4, .inl 1), (6, .inl (nI (She F.1))), (7, .inr (.inl (lN (wayT F.1 k (t1 - 1) n1 c)))), (9, .inr (.inl (lN (t1 ^ n1)))), (11, .inl (nI c)), (14, .inl (nI d))], [.inl (nI d), .inl (nI c), .inr (.inr (5, 0, 0))], υ) [] rfl ?_ ?_
                  · exact trivial
                  refine AW.callSI (d' := 0) [.inl (nI c), .inl (nI d)] [.inr (.inr (5, 0, 0))] ⟨_, rfl⟩ f_6_has s_6_has l_6_271 rfl (Nat.le_of_ble_eq_true rfl) rfl (Nat.le_of_ble_eq_true rfl) (c6_has (nI c) (nI d) υ) ?_
                  rintro _ _ ⟨rfl, rfl⟩
                  rw [has_t (by omega) (by omega) hb]
                  refine AW.run 4 [false] (178, [(12, .inr (.inl (lN y.2))), (0, .inr (.inr (5, 0, 0))), (1, .inl (nI k)), (2, .inl (nI n1)), (3, .inl (nI t1)), (4, .inl 1), (6, .inl (nI (She F.1))), (7, .inr (.inl (lN (wayT F.1 k (t1 - 1) n1 c)))), (9, .inr (.inl (lN (t1 ^ n1)))), (11, .inl (nI c)), (14, .inl (nI d))], [], (setM υ 5 0 0 9 9)) [¬ icP .eq (1 : Int32) 0] rfl ?_ ?_
                  · exact allP1 (by decide : ¬ ((1 : Int32) = 0))
                  obtain ⟨τ185, e185⟩ : ∃ x, x = setM υ 5 0 0 9 9 := ⟨_, rfl⟩
                  rw [← e185]
                  have r185 : RepM (τ185 5 0) (withU y.1 (Su F.1) 9) := by rw [e185]; exact (by have h9 := repM_h (u := 9) hT; rw [hSu] at h9; exact h9)
                  have f185 : Fr P1 υ τ185 := by rw [e185]; exact fr_set fr_rfl (by unfold P1; omega)
                  refine AW.run 1 [] (179, [(12, .inr (.inl (lN y.2))), (0, .inr (.inr (5, 0, 0))), (1, .inl (nI k)), (2, .inl (nI n1)), (3, .inl (nI t1)), (4, .inl 1), (6, .inl (nI (She F.1))), (7, .inr (.inl (lN (wayT F.1 k (t1 - 1) n1 c)))), (9, .inr (.inl (lN (t1 ^ n1)))), (11, .inl (nI c)), (14, .inl (nI d))], [.inr (.inr (5, 0, 0))], τ185) [] rfl ?_ ?_
                  · exact trivial
                  refine AW.callVV (d' := 4) [] [] ⟨_, rfl⟩ f_6_goesDay v_6_goesDay l_6_188 ⟨rfl, by decide⟩ rfl (Nat.le_of_ble_eq_true rfl) rfl (Nat.le_of_ble_eq_true rfl) (c6_goesDay (withU y.1 (Su F.1) 9) τ185 r185 (SOK_U hOT hO.2.2.2.1 (by decide)) ) ?_
                  rintro τ186 ⟨f186, r186⟩
                  refine AW.run 2 [] (128, [(14, .inl ((nI d) + 1)), (12, .inr (.inl (lN y.2))), (0, .inr (.inr (5, 0, 0))), (1, .inl (nI k)), (2, .inl (nI n1)), (3, .inl (nI t1)), (4, .inl 1), (6, .inl (nI (She F.1))), (7, .inr (.inl (lN (wayT F.1 k (t1 - 1) n1 c)))), (9, .inr (.inl (lN (t1 ^ n1)))), (11, .inl (nI c))], [], τ186) [] rfl ?_ ?_
                  · exact trivial
                  rw [nI_1 d]
                  refine AW.pick [2, 3, 4, 5, 6, 7, 8, 9, 10, 1, 0] (ls' := [(0, .inr (.inr (5, 0, 0))), (1, .inl (nI k)), (2, .inl (nI n1)), (3, .inl (nI t1)), (4, .inl 1), (6, .inl (nI (She F.1))), (7, .inr (.inl (lN (wayT F.1 k (t1 - 1) n1 c)))), (9, .inr (.inl (lN (t1 ^ n1)))), (11, .inl (nI c)), (12, .inr (.inl (lN y.2))), (14, .inl (nI (d + 1)))]) rfl ?_
                  exact hk9 (dayS (withU y.1 (Su F.1) 9), y.2) τ186 ⟨(fr_trans (fr_trans hF9 f185) f186), r186, (SOK_day (SOK_U hOT hO.2.2.2.1 (by decide))), (day_n _).trans hTn, (day_uh _).1, by rw [hs, hus]⟩
              · intro y υ hI
                obtain ⟨hF9, hT, hOT, hTn, hSu, hs⟩ := hI
                rw [hs, Nat.sub_self] at hcs
                have hcs : (wayT F.1 k (t1 - 1) n1 (c + 1)) = (wayT F.1 k (t1 - 1) n1 c) + (if Sw y.1 k = true then y.2 else 0) := hcs
                cases hw : Sw y.1 k
                · skip
                  rw [if_neg (by rw [hw]; decide)] at hcs
                  refine AW.run 6 [true] (192, [(0, .inr (.inr (5, 0, 0))), (1, .inl (nI k)), (2, .inl (nI n1)), (3, .inl (nI t1)), (4, .inl 1), (6, .inl (nI (She F.1))), (7, .inr (.inl (lN (wayT F.1 k (t1 - 1) n1 c)))), (9, .inr (.inl (lN (t1 ^ n1)))), (11, .inl (nI c)), (12, .inr (.inl (lN y.2))), (14, .inl (nI n1))], [.inl (nI k), .inr (.inr (5, 0, 0)), .inr (.inl (lN (wayT F.1 k (t1 - 1) n1 c)))], υ) [icP .ge (nI n1) (nI n1)] rfl ?_ ?_
                  · exact allP1 (nI_le (Nat.le_refl _) (by omega))
                  refine AW.callVI (d' := 0) [.inl (nI k)] [.inr (.inl (lN (wayT F.1 k (t1 - 1) n1 c)))] ⟨_, rfl⟩ f_6_isWhole v_6_isWhole l_6_108 ⟨rfl, by decide⟩ rfl (Nat.le_of_ble_eq_true rfl) rfl (Nat.le_of_ble_eq_true rfl) (c6_isWhole y.1 υ hT hOT.1 k (by rw [hTn]; exact hk)) ?_
                  rintro v _ ⟨rfl, hv⟩
                  obtain rfl : v = 0 := by
                    rcases hv with h | h
                    · exact absurd (hw.symm.trans h.2) (by decide)
                    · exact h.1
                  refine AW.run 3 [true] (205, [(0, .inr (.inr (5, 0, 0))), (1, .inl (nI k)), (2, .inl (nI n1)), (3, .inl (nI t1)), (4, .inl 1), (6, .inl (nI (She F.1))), (7, .inr (.inl (lN (wayT F.1 k (t1 - 1) n1 c)))), (9, .inr (.inl (lN (t1 ^ n1)))), (11, .inl (nI c)), (12, .inr (.inl (lN y.2))), (14, .inl (nI n1))], [.inr (.inl ((lN (wayT F.1 k (t1 - 1) n1 c)) + (Int64.ofNat 0)))], υ) [icP .eq (0 : Int32) 0] rfl ?_ ?_
                  · exact allP1 (by decide : ((0 : Int32) = 0))
                  rw [show lN (wayT F.1 k (t1 - 1) n1 c) + Int64.ofNat 0 = lN ((wayT F.1 k (t1 - 1) n1 c) + 0) from lN_add _ 0, ← hcs]
                  refine AW.run 2 [] (208, [(7, .inr (.inl (lN (wayT F.1 k (t1 - 1) n1 (c + 1))))), (0, .inr (.inr (5, 0, 0))), (1, .inl (nI k)), (2, .inl (nI n1)), (3, .inl (nI t1)), (4, .inl 1), (6, .inl (nI (She F.1))), (9, .inr (.inl (lN (t1 ^ n1)))), (11, .inl (nI c)), (12, .inr (.inl (lN y.2))), (14, .inl (nI n1))], [.inr (.inr (5, 0, 0))], υ) [] rfl ?_ ?_
                  · exact trivial
                  refine AW.callVV (d' := 2) [] [] ⟨_, rfl⟩ f_6_forgets v_6_forgets l_6_206 ⟨rfl, by decide⟩ rfl (Nat.le_of_ble_eq_true rfl) rfl (Nat.le_of_ble_eq_true rfl) (c6_forgets F.1 υ (repK_fr hO.1 hF9 (fun k _ _ q => by unfold P1 at q; omega) k182) hO.1) ?_
                  rintro τ187 ⟨f187, r187⟩
                  refine AW.run 2 [] (110, [(11, .inl ((nI c) + 1)), (7, .inr (.inl (lN (wayT F.1 k (t1 - 1) n1 (c + 1))))), (0, .inr (.inr (5, 0, 0))), (1, .inl (nI k)), (2, .inl (nI n1)), (3, .inl (nI t1)), (4, .inl 1), (6, .inl (nI (She F.1))), (9, .inr (.inl (lN (t1 ^ n1)))), (12, .inr (.inl (lN y.2))), (14, .inl (nI n1))], [], τ187) [] rfl ?_ ?_
                  · exact trivial
                  rw [nI_1 c]
                  refine AW.pick [2, 3, 4, 5, 6, 7, 1, 8, 0] (ls' := [(0, .inr (.inr (5, 0, 0))), (1, .inl (nI k)), (2, .inl (nI n1)), (3, .inl (nI t1)), (4, .inl 1), (6, .inl (nI (She F.1))), (7, .inr (.inl (lN (wayT F.1 k (t1 - 1) n1 (c + 1))))), (9, .inr (.inl (lN (t1 ^ n1)))), (11, .inl (nI (c + 1)))]) rfl ?_
                  exact hkc () τ187 ⟨(fr_trans (fr_trans (fr_trans hS1 f182) (fr_12 hF9)) f187), r187⟩
                · skip
                  rw [if_pos hw] at hcs
                  refine AW.run 6 [true] (192, [(0, .inr (.inr (5, 0, 0))), (1, .inl (nI k)), (2, .inl (nI n1)), (3, .inl (nI t1)), (4, .inl 1), (6, .inl (nI (She F.1))), (7, .inr (.inl (lN (wayT F.1 k (t1 - 1) n1 c)))), (9, .inr (.inl (lN (t1 ^ n1)))), (11, .inl (nI c)), (12, .inr (.inl (lN y.2))), (14, .inl (nI n1))], [.inl (nI k), .inr (.inr (5, 0, 0)), .inr (.inl (lN (wayT F.1 k (t1 - 1) n1 c)))], υ) [icP .ge (nI n1) (nI n1)] rfl ?_ ?_
                  · exact allP1 (nI_le (Nat.le_refl _) (by omega))
                  refine AW.callVI (d' := 0) [.inl (nI k)] [.inr (.inl (lN (wayT F.1 k (t1 - 1) n1 c)))] ⟨_, rfl⟩ f_6_isWhole v_6_isWhole l_6_108 ⟨rfl, by decide⟩ rfl (Nat.le_of_ble_eq_true rfl) rfl (Nat.le_of_ble_eq_true rfl) (c6_isWhole y.1 υ hT hOT.1 k (by rw [hTn]; exact hk)) ?_
                  rintro v _ ⟨rfl, hv⟩
                  obtain rfl : v = 1 := by
                    rcases hv with h | h
                    · exact h.1
                    · exact absurd (hw.symm.trans h.2) (by decide)
                  refine AW.run 4 [false] (205, [(0, .inr (.inr (5, 0, 0))), (1, .inl (nI k)), (2, .inl (nI n1)), (3, .inl (nI t1)), (4, .inl 1), (6, .inl (nI (She F.1))), (7, .inr (.inl (lN (wayT F.1 k (t1 - 1) n1 c)))), (9, .inr (.inl (lN (t1 ^ n1)))), (11, .inl (nI c)), (12, .inr (.inl (lN y.2))), (14, .inl (nI n1))], [.inr (.inl ((lN (wayT F.1 k (t1 - 1) n1 c)) + (lN y.2)))], υ) [¬ icP .eq (1 : Int32) 0] rfl ?_ ?_
                  · exact allP1 (by decide : ¬ ((1 : Int32) = 0))
                  rw [lN_add, ← hcs]
                  refine AW.run 2 [] (208, [(7, .inr (.inl (lN (wayT F.1 k (t1 - 1) n1 (c + 1))))), (0, .inr (.inr (5, 0, 0))), (1, .inl (nI k)), (2, .inl (nI n1)), (3, .inl (nI t1)), (4, .inl 1), (6, .inl (nI (She F.1))), (9, .inr (.inl (lN (t1 ^ n1)))), (11, .inl (nI c)), (12, .inr (.inl (lN y.2))), (14, .inl (nI n1))], [.inr (.inr (5, 0, 0))], υ) [] rfl ?_ ?_
                  · exact trivial
                  refine AW.callVV (d' := 2) [] [] ⟨_, rfl⟩ f_6_forgets v_6_forgets l_6_206 ⟨rfl, by decide⟩ rfl (Nat.le_of_ble_eq_true rfl) rfl (Nat.le_of_ble_eq_true rfl) (c6_forgets F.1 υ (repK_fr hO.1 hF9 (fun k _ _ q => by unfold P1 at q; omega) k182) hO.1) ?_
                  rintro τ188 ⟨f188, r188⟩
                  refine AW.run 2 [] (110, [(11, .inl ((nI c) + 1)), (7, .inr (.inl (lN (wayT F.1 k (t1 - 1) n1 (c + 1))))), (0, .inr (.inr (5, 0, 0))), (1, .inl (nI k)), (2, .inl (nI n1)), (3, .inl (nI t1)), (4, .inl 1), (6, .inl (nI (She F.1))), (9, .inr (.inl (lN (t1 ^ n1)))), (12, .inr (.inl (lN y.2))), (14, .inl (nI n1))], [], τ188) [] rfl ?_ ?_
                  · exact trivial
                  rw [nI_1 c]
                  refine AW.pick [2, 3, 4, 5, 6, 7, 1, 8, 0] (ls' := [(0, .inr (.inr (5, 0, 0))), (1, .inl (nI k)), (2, .inl (nI n1)), (3, .inl (nI t1)), (4, .inl 1), (6, .inl (nI (She F.1))), (7, .inr (.inl (lN (wayT F.1 k (t1 - 1) n1 (c + 1))))), (9, .inr (.inl (lN (t1 ^ n1)))), (11, .inl (nI (c + 1)))]) rfl ?_
                  exact hkc () τ188 ⟨(fr_trans (fr_trans (fr_trans hS1 f182) (fr_12 hF9)) f188), r188⟩
            · intro _ τ hI
              obtain ⟨hS1, hR1⟩ := hI
              refine AW.run 4 [] (115, [(0, .inr (.inr (5, 0, 0))), (1, .inl (nI k)), (2, .inl (nI n1)), (3, .inl (nI t1)), (4, .inl 1), (6, .inl (nI (She F.1))), (7, .inr (.inl (lN (wayT F.1 k (t1 - 1) n1 (2 ^ n1))))), (9, .inr (.inl (lN (t1 ^ n1)))), (11, .inl (nI (2 ^ n1)))], [.inl (1 <<< ((nI n1) &&& 31)), .inl (nI (2 ^ n1))], τ) [] rfl ?_ ?_
              · exact trivial
              rw [shl_n hn7]
              refine AW.run 4 [true] (223, [(0, .inr (.inr (5, 0, 0))), (1, .inl (nI k)), (2, .inl (nI n1)), (3, .inl (nI t1)), (4, .inl 1), (6, .inl (nI (She F.1))), (7, .inr (.inl (lN (wayT F.1 k (t1 - 1) n1 (2 ^ n1))))), (9, .inr (.inl (lN (t1 ^ n1)))), (11, .inl (nI (2 ^ n1)))], [.inl 1, .inr (.inl (lN (t1 ^ n1))), .inr (.inl (lN (wayT F.1 k (t1 - 1) n1 (2 ^ n1))))], τ) [icP .ge (nI (2 ^ n1)) (nI (2 ^ n1))] rfl ?_ ?_
              · exact allP1 (nI_le (Nat.le_refl _) (by omega))
              refine AW.callSL (d' := 1) [.inr (.inl (lN (wayT F.1 k (t1 - 1) n1 (2 ^ n1)))), .inr (.inl (lN (t1 ^ n1))), .inl 1] [] ⟨_, rfl⟩ f_6_partOf s_6_partOf l_6_274 rfl (Nat.le_of_ble_eq_true rfl) rfl (Nat.le_of_ble_eq_true rfl) (c6_partOf (wayT F.1 k (t1 - 1) n1 (2 ^ n1)) (t1 ^ n1) 1 (way_lt (by omega) (by omega) hn7 h128) (t_pow ht20 hn7) (by decide) (Nat.pow_pos (by omega)) τ) ?_
              rintro _ _ ⟨rfl, rfl⟩
              refine AW.retl ⟨_, rfl⟩ rfl ?_
              refine ⟨F, ?_, QD_fr hF hS1 hD hR1⟩
              unfold thundersP; rw [hbk]; dsimp only; rw [if_neg hneg, if_neg hneg2, if_pos (by decide), nI_clamp ht31, nI_clamp hn31]; rfl
        · skip
          refine AW.run 2 [] (2, [(0, .inr (.inr (5, 0, 0))), (1, .inl (nI k)), (2, .inl (nI n1)), (3, .inl (nI t1)), (4, .inl p)], [.inl (nI k), .inr (.inr (5, 0, 0))], σ) [] rfl ?_ ?_
          · exact trivial
          refine AW.callVI (d' := 0) [.inl (nI k)] [] ⟨_, rfl⟩ f_6_isBottle v_6_isBottle l_6_105 ⟨rfl, by decide⟩ rfl (Nat.le_of_ble_eq_true rfl) rfl (Nat.le_of_ble_eq_true rfl) (c6_isBottle1 (Sn F.1) σ e7 hn8 k hk) ?_
          rintro _ _ ⟨rfl, rfl⟩
          refine AW.run 15 [true, false, true, false, true] (47, [(0, .inr (.inr (5, 0, 0))), (1, .inl (nI k)), (2, .inl (nI n1)), (3, .inl (nI t1)), (4, .inl p)], [.inl 1, .inl 0, .inl p], σ) [icP .ne (1 : Int32) 0, ¬ icP .lt (nI n1) 0, icP .ge (nI t1) 2, ¬ icP .gt (nI n1) 7, icP .le (nI t1) 20] rfl ?_ ?_
          · exact ⟨(by decide : (¬ (1 : Int32) = 0)), (hn0), (ge_of htn), (nI_nlt (a := 7) hn7 (by decide)), allP1 (nI_le (b := 20) ht20 (by decide))⟩
          refine AW.callSI (d' := 0) [.inl p, .inl 0, .inl 1] [] ⟨_, rfl⟩ f_6_isIn s_6_isIn l_6_80 rfl (Nat.le_of_ble_eq_true rfl) rfl (Nat.le_of_ble_eq_true rfl) (c6_isIn0 p 0 1 (in_01 hp0 hp1) σ) ?_
          rintro _ _ ⟨rfl, rfl⟩
          refine AW.run 8 [false, false] (69, [(5, .inl (-2)), (0, .inr (.inr (5, 0, 0))), (1, .inl (nI k)), (2, .inl (nI n1)), (3, .inl (nI t1)), (4, .inl p)], [.inl (-2), .inr (.inr (5, 0, 0))], σ) [¬ icP .ne (0 : Int32) 0, ¬ icP .eq ((-2) : Int32) 0] rfl ?_ ?_
          · exact ⟨(by decide : ¬ (¬ (0 : Int32) = 0)), allP1 (by decide : ¬ (((-2) : Int32) = 0))⟩
          refine AW.callVL (d' := 0) [.inl (-2)] [] ⟨_, rfl⟩ f_6_lowestOf v_6_lowestOf l_6_267 ⟨rfl, by decide⟩ rfl (Nat.le_of_ble_eq_true rfl) rfl (Nat.le_of_ble_eq_true rfl) (c6_lowestOf2 σ) ?_
          rintro _ _ ⟨rfl, rfl⟩
          refine AW.retl ⟨_, rfl⟩ rfl ?_
          exact RepDL_ref (k := 2) hF hD (by decide) (by decide) (by unfold thundersP; rw [hbk]; dsimp only; rw [if_neg hneg, if_neg hneg2, if_neg (fun h => h.elim hp0 hp1)])
      · skip
        refine AW.run 2 [] (2, [(0, .inr (.inr (5, 0, 0))), (1, .inl (nI k)), (2, .inl (nI n1)), (3, .inl (nI t1)), (4, .inl p)], [.inl (nI k), .inr (.inr (5, 0, 0))], σ) [] rfl ?_ ?_
        · exact trivial
        refine AW.callVI (d' := 0) [.inl (nI k)] [] ⟨_, rfl⟩ f_6_isBottle v_6_isBottle l_6_105 ⟨rfl, by decide⟩ rfl (Nat.le_of_ble_eq_true rfl) rfl (Nat.le_of_ble_eq_true rfl) (c6_isBottle1 (Sn F.1) σ e7 hn8 k hk) ?_
        rintro _ _ ⟨rfl, rfl⟩
        refine AW.run 19 [true, false, true, false, false, false] (69, [(5, .inl (-6)), (0, .inr (.inr (5, 0, 0))), (1, .inl (nI k)), (2, .inl (nI n1)), (3, .inl (nI t1)), (4, .inl p)], [.inl (-6), .inr (.inr (5, 0, 0))], σ) [icP .ne (1 : Int32) 0, ¬ icP .lt (nI n1) 0, icP .ge (nI t1) 2, ¬ icP .gt (nI n1) 7, ¬ icP .le (nI t1) 20, ¬ icP .eq ((-6) : Int32) 0] rfl ?_ ?_
        · exact ⟨(by decide : (¬ (1 : Int32) = 0)), (hn0), (ge_of htn), (nI_nlt (a := 7) hn7 (by decide)), (nle_lit (b := 20) (by omega) ht31), allP1 (by decide : ¬ (((-6) : Int32) = 0))⟩
        refine AW.callVL (d' := 0) [.inl (-6)] [] ⟨_, rfl⟩ f_6_lowestOf v_6_lowestOf l_6_267 ⟨rfl, by decide⟩ rfl (Nat.le_of_ble_eq_true rfl) rfl (Nat.le_of_ble_eq_true rfl) (c6_lowestOf6 σ) ?_
        rintro _ _ ⟨rfl, rfl⟩
        refine AW.retl ⟨_, rfl⟩ rfl ?_
        exact RepDL_ref (k := 6) hF hD (by decide) (by decide) (by unfold thundersP; rw [hbk]; dsimp only; rw [if_neg hneg, if_pos (Or.inr (nI_lt (by omega) ht31))])
    · skip
      refine AW.run 2 [] (2, [(0, .inr (.inr (5, 0, 0))), (1, .inl (nI k)), (2, .inl (nI n1)), (3, .inl (nI t1)), (4, .inl p)], [.inl (nI k), .inr (.inr (5, 0, 0))], σ) [] rfl ?_ ?_
      · exact trivial
      refine AW.callVI (d' := 0) [.inl (nI k)] [] ⟨_, rfl⟩ f_6_isBottle v_6_isBottle l_6_105 ⟨rfl, by decide⟩ rfl (Nat.le_of_ble_eq_true rfl) rfl (Nat.le_of_ble_eq_true rfl) (c6_isBottle1 (Sn F.1) σ e7 hn8 k hk) ?_
      rintro _ _ ⟨rfl, rfl⟩
      refine AW.run 16 [true, false, true, true, false] (69, [(5, .inl (-6)), (0, .inr (.inr (5, 0, 0))), (1, .inl (nI k)), (2, .inl (nI n1)), (3, .inl (nI t1)), (4, .inl p)], [.inl (-6), .inr (.inr (5, 0, 0))], σ) [icP .ne (1 : Int32) 0, ¬ icP .lt (nI n1) 0, icP .ge (nI t1) 2, icP .gt (nI n1) 7, ¬ icP .eq ((-6) : Int32) 0] rfl ?_ ?_
      · exact ⟨(by decide : (¬ (1 : Int32) = 0)), (hn0), (ge_of htn), (nI_lt (a := 7) (by omega) hn31), allP1 (by decide : ¬ (((-6) : Int32) = 0))⟩
      refine AW.callVL (d' := 0) [.inl (-6)] [] ⟨_, rfl⟩ f_6_lowestOf v_6_lowestOf l_6_267 ⟨rfl, by decide⟩ rfl (Nat.le_of_ble_eq_true rfl) rfl (Nat.le_of_ble_eq_true rfl) (c6_lowestOf6 σ) ?_
      rintro _ _ ⟨rfl, rfl⟩
      refine AW.retl ⟨_, rfl⟩ rfl ?_
      exact RepDL_ref (k := 6) hF hD (by decide) (by decide) (by unfold thundersP; rw [hbk]; dsimp only; rw [if_neg hneg, if_pos (Or.inl (nI_lt (by omega) hn31))])
  · skip
    refine AW.run 2 [] (2, [(0, .inr (.inr (5, 0, 0))), (1, .inl b), (2, .inl n), (3, .inl t), (4, .inl p)], [.inl b, .inr (.inr (5, 0, 0))], σ) [] rfl ?_ ?_
    · exact trivial
    refine AW.callVI (d' := 0) [.inl b] [] ⟨_, rfl⟩ f_6_isBottle v_6_isBottle l_6_105 ⟨rfl, by decide⟩ rfl (Nat.le_of_ble_eq_true rfl) rfl (Nat.le_of_ble_eq_true rfl) (c6_isBottle0 (Sn F.1) σ e7 hn8 b hno) ?_
    rintro _ _ ⟨rfl, rfl⟩
    refine AW.run 8 [false, false] (69, [(5, .inl (-1)), (0, .inr (.inr (5, 0, 0))), (1, .inl b), (2, .inl n), (3, .inl t), (4, .inl p)], [.inl (-1), .inr (.inr (5, 0, 0))], σ) [¬ icP .ne (0 : Int32) 0, ¬ icP .eq ((-1) : Int32) 0] rfl ?_ ?_
    · exact ⟨(by decide : ¬ (¬ (0 : Int32) = 0)), allP1 (by decide : ¬ (((-1) : Int32) = 0))⟩
    refine AW.callVL (d' := 0) [.inl (-1)] [] ⟨_, rfl⟩ f_6_lowestOf v_6_lowestOf l_6_267 ⟨rfl, by decide⟩ rfl (Nat.le_of_ble_eq_true rfl) rfl (Nat.le_of_ble_eq_true rfl) (c6_lowestOf1 σ) ?_
    rintro _ _ ⟨rfl, rfl⟩
    refine AW.retl ⟨_, rfl⟩ rfl ?_
    exact RepDL_ref (k := 1) hF hD (by decide) (by decide) (by unfold thundersP; rw [botI_none hno])
