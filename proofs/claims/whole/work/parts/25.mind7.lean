/-! THE MIND, SEVENTH PART: rows, odds, lots -/
/-- a told row -/
def RowR (σ : St) (w : Nat → Nat) (m : Nat) : Prop := m ≤ 12 ∧ (∀ i, w i ≤ 99) ∧ ∀ i, i < m → σ 4 0 7 i = nI (w i)
theorem RowR.mv {σ τ : St} {w : Nat → Nat} {m : Nat} (h : RowR σ w m) (ho : Only 2 3 σ τ) : RowR τ w m := ⟨h.1, h.2.1, fun i hi => by rw [ho 4 0 (by decide)]; exact h.2.2 i hi⟩
def lvN (w : Nat → Nat) : Nat → Nat → Sv → Bool
  | 0, _, _ => true
  | k + 1, d, T => if cN (Sw T) = w d then lvN w k (d + 1) (dayS T) else false
def prN (w : Nat → Nat) (b : Nat) : Nat → Nat → Sv → Bool
  | 0, _, _ => true
  | k + 1, d, T => if Sq T b = w d then prN w b k (d + 1) (dayS T) else false
def orI (f : Nat → Bool) : Nat → Int32
  | 0 => 0
  | k + 1 => if f k = true then orI f k ||| (1 <<< (nI k &&& 31)) else orI f k
def whoF (S : Sv) (w : Nat → Nat) (m : Nat) : Nat → Bool := fun i => Sw S i && lvN w m 0 (settleS 8 (burstS S i))
def knF (S : Sv) (b : Nat) (w : Nat → Nat) (m : Nat) : Nat → Bool := fun k => prN w b m 0 (withK S (fu (Sk S) b k) (fu (Sf S) b (Sf S b)))
def fgF (S : Sv) (b : Nat) (w : Nat → Nat) (m : Nat) : Nat → Bool := fun k => prN w b m 0 (withK S (fu (Sk S) b (Sk S b)) (fu (Sf S) b k))
def PBM (σ : St) (p : Bool) : Option AV → St → Prop := PI fun v σ' => Only 2 3 σ σ' ∧ ((v = 1 ∧ p = true) ∨ (v = 0 ∧ p = false))

set_option maxHeartbeats 4000000 in
set_option maxRecDepth 100000 in
theorem c1_leavesAsTold (T : Sv) (σ : St) (hT : RepS (σ 2 3) T) (hOT : SOK T) (w : Nat → Nat) (m : Nat) (hW : RowR σ w m) : Ct M1_leavesAsTold 3 [.inr (.inr (0, 0, 0)), .inr (.inr (4, 0, 7)), .inl (nI m)] σ (PBM σ (lvN w m 0 T)) := by
  refine Ct.of f_1_leavesAsTold (Nat.le_of_ble_eq_true rfl) ?_
  show AW M1_leavesAsTold 3 _ (0, [(0, .inr (.inr (0, 0, 0))), (1, .inr (.inr (4, 0, 7))), (2, .inl (nI m))], [], σ)
  refine AW.run 2 [] (2, [(3, .inl 0), (0, .inr (.inr (0, 0, 0))), (1, .inr (.inr (4, 0, 7))), (2, .inl (nI m))], [], σ) [] rfl ?_ ?_
  · exact trivial
  refine AW.pick [1, 2, 3, 0] (ls' := [(0, .inr (.inr (0, 0, 0))), (1, .inr (.inr (4, 0, 7))), (2, .inl (nI m)), (3, .inl (nI 0))]) rfl ?_
  refine AW.loop (α := Sv) 2 m (fun d T' => [(0, .inr (.inr (0, 0, 0))), (1, .inr (.inr (4, 0, 7))), (2, .inl (nI m)), (3, .inl (nI d))]) (fun d T' τ => Only 2 3 σ τ ∧ RepS (τ 2 3) T' ∧ SOK T' ∧ Sn T' = Sn T ∧ lvN w m 0 T = lvN w (m - d) d T') ?_ ?_ m 0 T _ (by omega) ⟨only_rfl, hT, hOT, rfl, rfl⟩
  · intro d T' τ hd hI hk
    obtain ⟨hA, hT, hOT, hTn, hg⟩ := hI
    have hm12 := hW.1
    have hu : lvN w (m - d) d T' = if cN (Sw T') = w d then lvN w (m - (d + 1)) (d + 1) (dayS T') else false := by
      obtain ⟨k, hk⟩ : ∃ k, m - d = k + 1 := ⟨m - d - 1, by omega⟩
      rw [hk, show m - (d + 1) = k by omega]; rfl
    rw [hu] at hg
    have hrow : τ 4 0 7 (nI d).toNatClampNeg = nI (w d) := by rw [cl31 (by omega)]; exact (hW.mv hA).2.2 d hd
    have hwl := hW.2.1 d
    have hcl := cN_le (Sw T')
    refine AW.run 10 [false, false] (20, [(0, .inr (.inr (0, 0, 0))), (1, .inr (.inr (4, 0, 7))), (2, .inl (nI m)), (3, .inl (nI d))], [.inl (τ 2 3 0 8)], τ) [¬ icP .ge (nI d) (nI m), ¬ icP .ge (nI d) (Int32.ofNat 12)] rfl ?_ ?_
    · exact ⟨(nI_ge hd (by omega)), allP1 (nI_ge (b := 12) (a := d) (by omega) (by decide))⟩
    rw [hT.1.2.1]
    refine AW.callSI (d' := 0) [.inl (bI (Sw T'))] [] ⟨_, rfl⟩ f_J_bitCount s_J_bitCount l_1_37 rfl (Nat.le_of_ble_eq_true rfl) rfl (Nat.le_of_ble_eq_true rfl) (cJ_bitCount (bI (Sw T')) τ) ?_
    rintro _ _ ⟨rfl, rfl⟩
    rw [bcV_bI]
    refine AW.run 3 [] (26, [(0, .inr (.inr (0, 0, 0))), (1, .inr (.inr (4, 0, 7))), (2, .inl (nI m)), (3, .inl (nI d))], [.inl (τ 4 0 7 (nI d).toNatClampNeg), .inl (nI (cN (Sw T')))], τ) [vp_in (nI d) 12] rfl ?_ ?_
    · exact allP1 (by exact vp_in_nI (by omega) (by decide))
    rw [hrow]
    by_cases h26_1 : cN (Sw T') = w d
    · skip
      refine AW.run 3 [true] (35, [(0, .inr (.inr (0, 0, 0))), (1, .inr (.inr (4, 0, 7))), (2, .inl (nI m)), (3, .inl (nI d))], [.inr (.inr (2, 3, 0))], τ) [icP .eq (nI (cN (Sw T'))) (nI (w d))] rfl ?_ ?_
      · exact allP1 (by rw [h26_1]; exact rfl)
      refine AW.callVV (d' := 2) [] [] ⟨_, rfl⟩ f_3_dayGoesBy v_3_dayGoesBy l_1_47 ⟨rfl, by decide⟩ rfl (Nat.le_of_ble_eq_true rfl) rfl (Nat.le_of_ble_eq_true rfl) (c3_dayGoesBy 3 T' τ hT hOT ) ?_
      rintro τ112 ⟨a112, b112⟩
      refine AW.run 2 [] (2, [(3, .inl ((nI d) + 1)), (0, .inr (.inr (0, 0, 0))), (1, .inr (.inr (4, 0, 7))), (2, .inl (nI m))], [], τ112) [] rfl ?_ ?_
      · exact trivial
      rw [nI_1 d]
      refine AW.pick [1, 2, 3, 0] (ls' := [(0, .inr (.inr (0, 0, 0))), (1, .inr (.inr (4, 0, 7))), (2, .inl (nI m)), (3, .inl (nI (d + 1)))]) rfl ?_
      exact hk (dayS T') _ ⟨(only_trans hA a112), b112, (SOK_day hOT), (day_n _).trans hTn, by rw [hg, if_pos (by assumption)]⟩
    · skip
      refine AW.run 2 [false] (30, [(0, .inr (.inr (0, 0, 0))), (1, .inr (.inr (4, 0, 7))), (2, .inl (nI m)), (3, .inl (nI d))], [.inl 0], τ) [¬ icP .eq (nI (cN (Sw T'))) (nI (w d))] rfl ?_ ?_
      · exact allP1 (fun q => h26_1 (nI_lit q (by omega) (by omega)))
      refine AW.retz ⟨_, rfl⟩ rfl (by decide) ?_
      rw [if_neg (by assumption)] at hg
      exact ⟨hA, Or.inr ⟨rfl, hg⟩⟩
  · intro T' τ hI
    obtain ⟨hA, hT, hOT, hTn, hg⟩ := hI
    rw [Nat.sub_self] at hg
    refine AW.run 4 [true] (45, [(0, .inr (.inr (0, 0, 0))), (1, .inr (.inr (4, 0, 7))), (2, .inl (nI m)), (3, .inl (nI m))], [.inl 1], τ) [icP .ge (nI m) (nI m)] rfl ?_ ?_
    · exact allP1 (nI_le (Nat.le_refl _) (by have := hW.1; omega))
    refine AW.retz ⟨_, rfl⟩ rfl (by decide) ?_
    exact ⟨hA, Or.inl ⟨rfl, hg⟩⟩
set_option maxHeartbeats 4000000 in
set_option maxRecDepth 100000 in
theorem c1_pressesAsTold (T : Sv) (σ : St) (hT : RepS (σ 2 3) T) (hOT : SOK T) (b : Nat) (hb : b < Sn T) (w : Nat → Nat) (m : Nat) (hW : RowR σ w m) : Ct M1_pressesAsTold 3 [.inr (.inr (0, 0, 0)), .inl (nI b), .inr (.inr (4, 0, 7)), .inl (nI m)] σ (PBM σ (prN w b m 0 T)) := by
  refine Ct.of f_1_pressesAsTold (Nat.le_of_ble_eq_true rfl) ?_
  show AW M1_pressesAsTold 3 _ (0, [(0, .inr (.inr (0, 0, 0))), (1, .inl (nI b)), (2, .inr (.inr (4, 0, 7))), (3, .inl (nI m))], [], σ)
  refine AW.run 2 [] (3, [(4, .inl 0), (0, .inr (.inr (0, 0, 0))), (1, .inl (nI b)), (2, .inr (.inr (4, 0, 7))), (3, .inl (nI m))], [], σ) [] rfl ?_ ?_
  · exact trivial
  refine AW.pick [1, 2, 3, 4, 0] (ls' := [(0, .inr (.inr (0, 0, 0))), (1, .inl (nI b)), (2, .inr (.inr (4, 0, 7))), (3, .inl (nI m)), (4, .inl (nI 0))]) rfl ?_
  refine AW.loop (α := Sv) 3 m (fun d T' => [(0, .inr (.inr (0, 0, 0))), (1, .inl (nI b)), (2, .inr (.inr (4, 0, 7))), (3, .inl (nI m)), (4, .inl (nI d))]) (fun d T' τ => Only 2 3 σ τ ∧ RepS (τ 2 3) T' ∧ SOK T' ∧ Sn T' = Sn T ∧ prN w b m 0 T = prN w b (m - d) d T') ?_ ?_ m 0 T _ (by omega) ⟨only_rfl, hT, hOT, rfl, rfl⟩
  · intro d T' τ hd hI hk
    obtain ⟨hA, hT, hOT, hTn, hg⟩ := hI
    have hm12 := hW.1
    have hu : prN w b (m - d) d T' = if Sq T' b = w d then prN w b (m - (d + 1)) (d + 1) (dayS T') else false := by
      obtain ⟨k, hk⟩ : ∃ k, m - d = k + 1 := ⟨m - d - 1, by omega⟩
      rw [hk, show m - (d + 1) = k by omega]; rfl
    rw [hu] at hg
    have hrow : τ 4 0 7 (nI d).toNatClampNeg = nI (w d) := by rw [cl31 (by omega)]; exact (hW.mv hA).2.2 d hd
    have hwl := hW.2.1 d
    have hcl := (hOT.2.1 b).2.2.2
    refine AW.run 10 [false, false] (21, [(0, .inr (.inr (0, 0, 0))), (1, .inl (nI b)), (2, .inr (.inr (4, 0, 7))), (3, .inl (nI m)), (4, .inl (nI d))], [.inl (nI b), .inr (.inr (2, 3, 0))], τ) [¬ icP .ge (nI d) (nI m), ¬ icP .ge (nI d) (Int32.ofNat 12)] rfl ?_ ?_
    · exact ⟨(nI_ge hd (by omega)), allP1 (nI_ge (b := 12) (a := d) (by omega) (by decide))⟩
    refine AW.callVI (d' := 1) [.inl (nI b)] [] ⟨_, rfl⟩ f_3_pressOf v_3_pressOf l_1_106 ⟨rfl, by decide⟩ rfl (Nat.le_of_ble_eq_true rfl) rfl (Nat.le_of_ble_eq_true rfl) (c3_pressOf 3 T' τ hT hOT b (by rw [hTn]; exact hb)) ?_
    rintro _ _ ⟨rfl, rfl⟩
    refine AW.run 3 [] (28, [(0, .inr (.inr (0, 0, 0))), (1, .inl (nI b)), (2, .inr (.inr (4, 0, 7))), (3, .inl (nI m)), (4, .inl (nI d))], [.inl (τ 4 0 7 (nI d).toNatClampNeg), .inl (nI (Sq T' b))], τ) [vp_in (nI d) 12] rfl ?_ ?_
    · exact allP1 (by exact vp_in_nI (by omega) (by decide))
    rw [hrow]
    by_cases h28_1 : Sq T' b = w d
    · skip
      refine AW.run 3 [true] (37, [(0, .inr (.inr (0, 0, 0))), (1, .inl (nI b)), (2, .inr (.inr (4, 0, 7))), (3, .inl (nI m)), (4, .inl (nI d))], [.inr (.inr (2, 3, 0))], τ) [icP .eq (nI (Sq T' b)) (nI (w d))] rfl ?_ ?_
      · exact allP1 (by rw [h28_1]; exact rfl)
      refine AW.callVV (d' := 2) [] [] ⟨_, rfl⟩ f_3_dayGoesBy v_3_dayGoesBy l_1_47 ⟨rfl, by decide⟩ rfl (Nat.le_of_ble_eq_true rfl) rfl (Nat.le_of_ble_eq_true rfl) (c3_dayGoesBy 3 T' τ hT hOT ) ?_
      rintro τ113 ⟨a113, b113⟩
      refine AW.run 2 [] (3, [(4, .inl ((nI d) + 1)), (0, .inr (.inr (0, 0, 0))), (1, .inl (nI b)), (2, .inr (.inr (4, 0, 7))), (3, .inl (nI m))], [], τ113) [] rfl ?_ ?_
      · exact trivial
      rw [nI_1 d]
      refine AW.pick [1, 2, 3, 4, 0] (ls' := [(0, .inr (.inr (0, 0, 0))), (1, .inl (nI b)), (2, .inr (.inr (4, 0, 7))), (3, .inl (nI m)), (4, .inl (nI (d + 1)))]) rfl ?_
      exact hk (dayS T') _ ⟨(only_trans hA a113), b113, (SOK_day hOT), (day_n _).trans hTn, by rw [hg, if_pos (by assumption)]⟩
    · skip
      refine AW.run 2 [false] (32, [(0, .inr (.inr (0, 0, 0))), (1, .inl (nI b)), (2, .inr (.inr (4, 0, 7))), (3, .inl (nI m)), (4, .inl (nI d))], [.inl 0], τ) [¬ icP .eq (nI (Sq T' b)) (nI (w d))] rfl ?_ ?_
      · exact allP1 (fun q => h28_1 (nI_lit q (by omega) (by omega)))
      refine AW.retz ⟨_, rfl⟩ rfl (by decide) ?_
      rw [if_neg (by assumption)] at hg
      exact ⟨hA, Or.inr ⟨rfl, hg⟩⟩
  · intro T' τ hI
    obtain ⟨hA, hT, hOT, hTn, hg⟩ := hI
    rw [Nat.sub_self] at hg
    refine AW.run 4 [true] (47, [(0, .inr (.inr (0, 0, 0))), (1, .inl (nI b)), (2, .inr (.inr (4, 0, 7))), (3, .inl (nI m)), (4, .inl (nI m))], [.inl 1], τ) [icP .ge (nI m) (nI m)] rfl ?_ ?_
    · exact allP1 (nI_le (Nat.le_refl _) (by have := hW.1; omega))
    refine AW.retz ⟨_, rfl⟩ rfl (by decide) ?_
    exact ⟨hA, Or.inl ⟨rfl, hg⟩⟩
set_option maxHeartbeats 4000000 in
set_option maxRecDepth 100000 in
theorem c1_whoLeaves (S : Sv) (σ : St) (hR : RepS (σ 2 0) S) (hO : SOK S) (w : Nat → Nat) (m : Nat) (hW : RowR σ w m) : Ct M1_whoLeaves 4 [.inr (.inr (0, 0, 0)), .inr (.inr (2, 0, 0)), .inr (.inr (4, 0, 7)), .inl (nI m)] σ (PI fun r9 σ' => orI (whoF S w m) 8 = r9 ∧ Only 2 3 σ σ') := by
  refine Ct.of f_1_whoLeaves (Nat.le_of_ble_eq_true rfl) ?_
  show AW M1_whoLeaves 4 _ (0, [(0, .inr (.inr (0, 0, 0))), (1, .inr (.inr (2, 0, 0))), (2, .inr (.inr (4, 0, 7))), (3, .inl (nI m))], [], σ)
  refine AW.run 4 [] (6, [(5, .inl 0), (4, .inl 0), (0, .inr (.inr (0, 0, 0))), (1, .inr (.inr (2, 0, 0))), (2, .inr (.inr (4, 0, 7))), (3, .inl (nI m))], [], σ) [] rfl ?_ ?_
  · exact trivial
  refine AW.pick [2, 3, 4, 5, 1, 0] (ls' := [(0, .inr (.inr (0, 0, 0))), (1, .inr (.inr (2, 0, 0))), (2, .inr (.inr (4, 0, 7))), (3, .inl (nI m)), (4, .inl (orI (whoF S w m) 0)), (5, .inl (nI 0))]) rfl ?_
  refine AW.loop (α := Unit) 6 8 (fun i _ => [(0, .inr (.inr (0, 0, 0))), (1, .inr (.inr (2, 0, 0))), (2, .inr (.inr (4, 0, 7))), (3, .inl (nI m)), (4, .inl (orI (whoF S w m) i)), (5, .inl (nI i))]) (fun i _ τ => Only 2 3 σ τ) ?_ ?_ 8 0 () _ (by omega) only_rfl
  · intro i _ τ hi hA hk
    refine AW.run 5 [false] (16, [(0, .inr (.inr (0, 0, 0))), (1, .inr (.inr (2, 0, 0))), (2, .inr (.inr (4, 0, 7))), (3, .inl (nI m)), (4, .inl (orI (whoF S w m) i)), (5, .inl (nI i))], [.inl (nI i), .inr (.inr (2, 0, 0))], τ) [¬ icP .ge (nI i) 8] rfl ?_ ?_
    · exact allP1 (nle_lit (a := 8) hi (by decide))
    refine AW.callVI (d' := 0) [.inl (nI i)] [] ⟨_, rfl⟩ f_3_isWhole v_3_isWhole l_1_43 ⟨rfl, by decide⟩ rfl (Nat.le_of_ble_eq_true rfl) rfl (Nat.le_of_ble_eq_true rfl) (c3_isWhole 0 S τ (only_rep hA hR) hO i (by omega)) ?_
    rintro v _ ⟨rfl, hv⟩
    rcases hv with ⟨rfl, hp16⟩ | ⟨rfl, hp16⟩
    · skip
      refine AW.run 4 [true] (30, [(0, .inr (.inr (0, 0, 0))), (1, .inr (.inr (2, 0, 0))), (2, .inr (.inr (4, 0, 7))), (3, .inl (nI m)), (4, .inl (orI (whoF S w m) i)), (5, .inl (nI i))], [.inr (.inr (2, 0, 0)), .inr (.inr (2, 3, 0))], τ) [icP .ne (1 : Int32) 0] rfl ?_ ?_
      · exact allP1 (by decide : (¬ (1 : Int32) = 0))
      refine AW.callVV (d' := 1) [.inr (.inr (2, 0, 0))] [] ⟨_, rfl⟩ f_3_copyFrom v_3_copyFrom l_1_25 ⟨rfl, by decide⟩ rfl (Nat.le_of_ble_eq_true rfl) rfl (Nat.le_of_ble_eq_true rfl) (c3_copyFrom 3 0 (by decide) S τ (only_rep hA hR) hO) ?_
      rintro τ114 ⟨a114, b114⟩
      refine AW.run 3 [] (39, [(0, .inr (.inr (0, 0, 0))), (1, .inr (.inr (2, 0, 0))), (2, .inr (.inr (4, 0, 7))), (3, .inl (nI m)), (4, .inl (orI (whoF S w m) i)), (5, .inl (nI i))], [.inl (nI i), .inr (.inr (2, 3, 0))], τ114) [] rfl ?_ ?_
      · exact trivial
      refine AW.callVV (d' := 0) [.inl (nI i)] [] ⟨_, rfl⟩ f_3_burst v_3_burst l_1_56 ⟨rfl, by decide⟩ rfl (Nat.le_of_ble_eq_true rfl) rfl (Nat.le_of_ble_eq_true rfl) (c3_burst 3 S τ114 b114 hO i (SOK_lt hO hp16)) ?_
      rintro τ115 ⟨a115, b115⟩
      refine AW.run 2 [] (46, [(0, .inr (.inr (0, 0, 0))), (1, .inr (.inr (2, 0, 0))), (2, .inr (.inr (4, 0, 7))), (3, .inl (nI m)), (4, .inl (orI (whoF S w m) i)), (5, .inl (nI i))], [.inr (.inr (2, 3, 0))], τ115) [] rfl ?_ ?_
      · exact trivial
      refine AW.callVV (d' := 1) [] [] ⟨_, rfl⟩ f_3_settle v_3_settle l_1_59 ⟨rfl, by decide⟩ rfl (Nat.le_of_ble_eq_true rfl) rfl (Nat.le_of_ble_eq_true rfl) (c3_settle 3 (burstS S i) τ115 b115 (SOK_burst (b := i) hO) ) ?_
      rintro τ116 ⟨a116, b116⟩
      refine AW.run 3 [] (52, [(0, .inr (.inr (0, 0, 0))), (1, .inr (.inr (2, 0, 0))), (2, .inr (.inr (4, 0, 7))), (3, .inl (nI m)), (4, .inl (orI (whoF S w m) i)), (5, .inl (nI i))], [.inl (nI m), .inr (.inr (4, 0, 7)), .inr (.inr (0, 0, 0))], τ116) [] rfl ?_ ?_
      · exact trivial
      refine AW.callVI (d' := 3) [.inr (.inr (4, 0, 7)), .inl (nI m)] [] ⟨_, rfl⟩ f_1_leavesAsTold v_1_leavesAsTold l_1_112 ⟨rfl, by decide⟩ rfl (Nat.le_of_ble_eq_true rfl) rfl (Nat.le_of_ble_eq_true rfl) (c1_leavesAsTold (settleS 8 (burstS S i)) τ116 b116 (SOK_settle 8 (SOK_burst (b := i) hO))  w m (hW.mv (only_trans (only_trans (only_trans hA a114) a115) a116))) ?_
      rintro v9 τ117 ⟨a117, hv9⟩
      rcases hv9 with ⟨rfl, hp52⟩ | ⟨rfl, hp52⟩
      · skip
        refine AW.run 9 [false] (6, [(5, .inl ((nI i) + 1)), (4, .inl ((orI (whoF S w m) i) ||| (1 <<< ((nI i) &&& 31)))), (0, .inr (.inr (0, 0, 0))), (1, .inr (.inr (2, 0, 0))), (2, .inr (.inr (4, 0, 7))), (3, .inl (nI m))], [], τ117) [¬ icP .eq (1 : Int32) 0] rfl ?_ ?_
        · exact allP1 (by decide : ¬ ((1 : Int32) = 0))
        have hfp : (whoF S w m) i = true := by simp only [whoF]; simp [*]
        have hs : orI (whoF S w m) (i + 1) = orI (whoF S w m) i ||| (1 <<< (nI i &&& 31)) := by
          simp only [orI]
          rw [if_pos hfp]
        have hx := hk () τ117 (only_trans (only_trans (only_trans (only_trans hA a114) a115) a116) a117)
        rw [hs, ← nI_1 i] at hx
        refine AW.pick [2, 3, 4, 5, 1, 0] (ls' := _) rfl ?_
        exact hx
      · skip
        refine AW.run 3 [true] (6, [(5, .inl ((nI i) + 1)), (0, .inr (.inr (0, 0, 0))), (1, .inr (.inr (2, 0, 0))), (2, .inr (.inr (4, 0, 7))), (3, .inl (nI m)), (4, .inl (orI (whoF S w m) i))], [], τ117) [icP .eq (0 : Int32) 0] rfl ?_ ?_
        · exact allP1 (by decide : ((0 : Int32) = 0))
        have hfn : ¬ (whoF S w m) i = true := by simp only [whoF]; simp [*]
        have hs : orI (whoF S w m) (i + 1) = orI (whoF S w m) i := by
          simp only [orI]
          rw [if_neg hfn]
        have hx := hk () τ117 (only_trans (only_trans (only_trans (only_trans hA a114) a115) a116) a117)
        rw [hs, ← nI_1 i] at hx
        refine AW.pick [1, 2, 3, 4, 5, 0] (ls' := _) rfl ?_
        exact hx
    · skip
      refine AW.run 4 [false] (6, [(5, .inl ((nI i) + 1)), (0, .inr (.inr (0, 0, 0))), (1, .inr (.inr (2, 0, 0))), (2, .inr (.inr (4, 0, 7))), (3, .inl (nI m)), (4, .inl (orI (whoF S w m) i))], [], τ) [¬ icP .ne (0 : Int32) 0] rfl ?_ ?_
      · exact allP1 (by decide : ¬ (¬ (0 : Int32) = 0))
      have hfn : ¬ (whoF S w m) i = true := by simp only [whoF]; simp [*]
      have hs : orI (whoF S w m) (i + 1) = orI (whoF S w m) i := by
        simp only [orI]
        rw [if_neg hfn]
      have hx := hk () τ hA
      rw [hs, ← nI_1 i] at hx
      refine AW.pick [1, 2, 3, 4, 5, 0] (ls' := _) rfl ?_
      exact hx
  · intro _ τ hI
    refine AW.run 4 [true] (75, [(0, .inr (.inr (0, 0, 0))), (1, .inr (.inr (2, 0, 0))), (2, .inr (.inr (4, 0, 7))), (3, .inl (nI m)), (4, .inl (orI (whoF S w m) 8)), (5, .inl (nI 8))], [.inl (orI (whoF S w m) 8)], τ) [icP .ge (nI 8) 8] rfl ?_ ?_
    · exact allP1 (le_lit (a := 8) (b := 8) (by decide) (by decide))
    refine AW.reti ⟨_, rfl⟩ rfl ?_
    exact ⟨rfl, hI⟩
set_option maxHeartbeats 4000000 in
set_option maxRecDepth 100000 in
theorem c1_kindsThatPress (S : Sv) (σ : St) (hR : RepS (σ 2 0) S) (hO : SOK S) (b : Nat) (hb : b < Sn S) (w : Nat → Nat) (m : Nat) (hW : RowR σ w m) : Ct M1_kindsThatPress 4 [.inr (.inr (0, 0, 0)), .inr (.inr (2, 0, 0)), .inl (nI b), .inr (.inr (4, 0, 7)), .inl (nI m)] σ (PI fun r9 σ' => orI (knF S b w m) 6 = r9 ∧ Only 2 3 σ σ') := by
  refine Ct.of f_1_kindsThatPress (Nat.le_of_ble_eq_true rfl) ?_
  show AW M1_kindsThatPress 4 _ (0, [(0, .inr (.inr (0, 0, 0))), (1, .inr (.inr (2, 0, 0))), (2, .inl (nI b)), (3, .inr (.inr (4, 0, 7))), (4, .inl (nI m))], [], σ)
  refine AW.run 4 [] (6, [(6, .inl 0), (5, .inl 0), (0, .inr (.inr (0, 0, 0))), (1, .inr (.inr (2, 0, 0))), (2, .inl (nI b)), (3, .inr (.inr (4, 0, 7))), (4, .inl (nI m))], [], σ) [] rfl ?_ ?_
  · exact trivial
  refine AW.pick [2, 3, 4, 5, 6, 1, 0] (ls' := [(0, .inr (.inr (0, 0, 0))), (1, .inr (.inr (2, 0, 0))), (2, .inl (nI b)), (3, .inr (.inr (4, 0, 7))), (4, .inl (nI m)), (5, .inl (orI (knF S b w m) 0)), (6, .inl (nI 0))]) rfl ?_
  refine AW.loop (α := Unit) 6 6 (fun i _ => [(0, .inr (.inr (0, 0, 0))), (1, .inr (.inr (2, 0, 0))), (2, .inl (nI b)), (3, .inr (.inr (4, 0, 7))), (4, .inl (nI m)), (5, .inl (orI (knF S b w m) i)), (6, .inl (nI i))]) (fun i _ τ => Only 2 3 σ τ) ?_ ?_ 6 0 () _ (by omega) only_rfl
  · intro i _ τ hi hA hk
    refine AW.run 6 [false] (18, [(0, .inr (.inr (0, 0, 0))), (1, .inr (.inr (2, 0, 0))), (2, .inl (nI b)), (3, .inr (.inr (4, 0, 7))), (4, .inl (nI m)), (5, .inl (orI (knF S b w m) i)), (6, .inl (nI i))], [.inr (.inr (2, 0, 0)), .inr (.inr (2, 3, 0))], τ) [¬ icP .ge (nI i) 6] rfl ?_ ?_
    · exact allP1 (nle_lit (a := 6) hi (by decide))
    refine AW.callVV (d' := 1) [.inr (.inr (2, 0, 0))] [] ⟨_, rfl⟩ f_3_copyFrom v_3_copyFrom l_1_25 ⟨rfl, by decide⟩ rfl (Nat.le_of_ble_eq_true rfl) rfl (Nat.le_of_ble_eq_true rfl) (c3_copyFrom 3 0 (by decide) S τ (only_rep hA hR) hO) ?_
    rintro τ118 ⟨a118, b118⟩
    refine AW.run 6 [] (30, [(0, .inr (.inr (0, 0, 0))), (1, .inr (.inr (2, 0, 0))), (2, .inl (nI b)), (3, .inr (.inr (4, 0, 7))), (4, .inl (nI m)), (5, .inl (orI (knF S b w m) i)), (6, .inl (nI i))], [.inl (nI b), .inr (.inr (2, 0, 0)), .inl (nI i), .inl (nI b), .inr (.inr (2, 3, 0))], τ118) [] rfl ?_ ?_
    · exact trivial
    refine AW.callVI (d' := 1) [.inl (nI b)] [.inl (nI i), .inl (nI b), .inr (.inr (2, 3, 0))] ⟨_, rfl⟩ f_3_figureOf v_3_figureOf l_1_116 ⟨rfl, by decide⟩ rfl (Nat.le_of_ble_eq_true rfl) rfl (Nat.le_of_ble_eq_true rfl) (c3_figureOf 0 S τ118 (only_rep (only_trans hA a118) hR) hO b hb) ?_
    rintro _ _ ⟨rfl, rfl⟩
    refine AW.callVV (d' := 2) [.inl (nI b), .inl (nI i), .inl (nI (Sf S b))] [] ⟨_, rfl⟩ f_3_become v_3_become l_1_119 ⟨rfl, by decide⟩ rfl (Nat.le_of_ble_eq_true rfl) rfl (Nat.le_of_ble_eq_true rfl) (c3_become 3 S τ118 b i (Sf S b) (RepS_E b118) hO.1 hb (by omega) (hO.2.1 b).2.1 hO.2.2.2.1 hO.2.2.2.2) ?_
    rintro τ119 ⟨a119, b119⟩
    refine AW.run 4 [] (41, [(0, .inr (.inr (0, 0, 0))), (1, .inr (.inr (2, 0, 0))), (2, .inl (nI b)), (3, .inr (.inr (4, 0, 7))), (4, .inl (nI m)), (5, .inl (orI (knF S b w m) i)), (6, .inl (nI i))], [.inl (nI m), .inr (.inr (4, 0, 7)), .inl (nI b), .inr (.inr (0, 0, 0))], τ119) [] rfl ?_ ?_
    · exact trivial
    refine AW.callVI (d' := 3) [.inl (nI b), .inr (.inr (4, 0, 7)), .inl (nI m)] [] ⟨_, rfl⟩ f_1_pressesAsTold v_1_pressesAsTold l_1_123 ⟨rfl, by decide⟩ rfl (Nat.le_of_ble_eq_true rfl) rfl (Nat.le_of_ble_eq_true rfl) (c1_pressesAsTold (withK S (fu (Sk S) b i) (fu (Sf S) b (Sf S b))) τ119 b119 (SOK_k hO hb (by omega) (hO.2.1 b).2.1) b hb w m (hW.mv (only_trans (only_trans hA a118) a119))) ?_
    rintro v9 τ120 ⟨a120, hv9⟩
    rcases hv9 with ⟨rfl, hp41⟩ | ⟨rfl, hp41⟩
    · skip
      refine AW.run 9 [false] (6, [(6, .inl ((nI i) + 1)), (5, .inl ((orI (knF S b w m) i) ||| (1 <<< ((nI i) &&& 31)))), (0, .inr (.inr (0, 0, 0))), (1, .inr (.inr (2, 0, 0))), (2, .inl (nI b)), (3, .inr (.inr (4, 0, 7))), (4, .inl (nI m))], [], τ120) [¬ icP .eq (1 : Int32) 0] rfl ?_ ?_
      · exact allP1 (by decide : ¬ ((1 : Int32) = 0))
      have hfp : (knF S b w m) i = true := by simp only [knF]; simp [*]
      have hs : orI (knF S b w m) (i + 1) = orI (knF S b w m) i ||| (1 <<< (nI i &&& 31)) := by
        simp only [orI]
        rw [if_pos hfp]
      have hx := hk () τ120 (only_trans (only_trans (only_trans hA a118) a119) a120)
      rw [hs, ← nI_1 i] at hx
      refine AW.pick [2, 3, 4, 5, 6, 1, 0] (ls' := _) rfl ?_
      exact hx
    · skip
      refine AW.run 3 [true] (6, [(6, .inl ((nI i) + 1)), (0, .inr (.inr (0, 0, 0))), (1, .inr (.inr (2, 0, 0))), (2, .inl (nI b)), (3, .inr (.inr (4, 0, 7))), (4, .inl (nI m)), (5, .inl (orI (knF S b w m) i))], [], τ120) [icP .eq (0 : Int32) 0] rfl ?_ ?_
      · exact allP1 (by decide : ((0 : Int32) = 0))
      have hfn : ¬ (knF S b w m) i = true := by simp only [knF]; simp [*]
      have hs : orI (knF S b w m) (i + 1) = orI (knF S b w m) i := by
        simp only [orI]
        rw [if_neg hfn]
      have hx := hk () τ120 (only_trans (only_trans (only_trans hA a118) a119) a120)
      rw [hs, ← nI_1 i] at hx
      refine AW.pick [1, 2, 3, 4, 5, 6, 0] (ls' := _) rfl ?_
      exact hx
  · intro _ τ hI
    refine AW.run 4 [true] (64, [(0, .inr (.inr (0, 0, 0))), (1, .inr (.inr (2, 0, 0))), (2, .inl (nI b)), (3, .inr (.inr (4, 0, 7))), (4, .inl (nI m)), (5, .inl (orI (knF S b w m) 6)), (6, .inl (nI 6))], [.inl (orI (knF S b w m) 6)], τ) [icP .ge (nI 6) 6] rfl ?_ ?_
    · exact allP1 (le_lit (a := 6) (b := 6) (by decide) (by decide))
    refine AW.reti ⟨_, rfl⟩ rfl ?_
    exact ⟨rfl, hI⟩
set_option maxHeartbeats 4000000 in
set_option maxRecDepth 100000 in
theorem c1_figuresThatPress (S : Sv) (σ : St) (hR : RepS (σ 2 0) S) (hO : SOK S) (b : Nat) (hb : b < Sn S) (w : Nat → Nat) (m : Nat) (hW : RowR σ w m) : Ct M1_figuresThatPress 4 [.inr (.inr (0, 0, 0)), .inr (.inr (2, 0, 0)), .inl (nI b), .inr (.inr (4, 0, 7)), .inl (nI m)] σ (PI fun r9 σ' => orI (fgF S b w m) 10 = r9 ∧ Only 2 3 σ σ') := by
  refine Ct.of f_1_figuresThatPress (Nat.le_of_ble_eq_true rfl) ?_
  show AW M1_figuresThatPress 4 _ (0, [(0, .inr (.inr (0, 0, 0))), (1, .inr (.inr (2, 0, 0))), (2, .inl (nI b)), (3, .inr (.inr (4, 0, 7))), (4, .inl (nI m))], [], σ)
  refine AW.run 4 [] (6, [(6, .inl 0), (5, .inl 0), (0, .inr (.inr (0, 0, 0))), (1, .inr (.inr (2, 0, 0))), (2, .inl (nI b)), (3, .inr (.inr (4, 0, 7))), (4, .inl (nI m))], [], σ) [] rfl ?_ ?_
  · exact trivial
  refine AW.pick [2, 3, 4, 5, 6, 1, 0] (ls' := [(0, .inr (.inr (0, 0, 0))), (1, .inr (.inr (2, 0, 0))), (2, .inl (nI b)), (3, .inr (.inr (4, 0, 7))), (4, .inl (nI m)), (5, .inl (orI (fgF S b w m) 0)), (6, .inl (nI 0))]) rfl ?_
  refine AW.loop (α := Unit) 6 10 (fun i _ => [(0, .inr (.inr (0, 0, 0))), (1, .inr (.inr (2, 0, 0))), (2, .inl (nI b)), (3, .inr (.inr (4, 0, 7))), (4, .inl (nI m)), (5, .inl (orI (fgF S b w m) i)), (6, .inl (nI i))]) (fun i _ τ => Only 2 3 σ τ) ?_ ?_ 10 0 () _ (by omega) only_rfl
  · intro i _ τ hi hA hk
    refine AW.run 6 [false] (18, [(0, .inr (.inr (0, 0, 0))), (1, .inr (.inr (2, 0, 0))), (2, .inl (nI b)), (3, .inr (.inr (4, 0, 7))), (4, .inl (nI m)), (5, .inl (orI (fgF S b w m) i)), (6, .inl (nI i))], [.inr (.inr (2, 0, 0)), .inr (.inr (2, 3, 0))], τ) [¬ icP .ge (nI i) 10] rfl ?_ ?_
    · exact allP1 (nle_lit (a := 10) hi (by decide))
    refine AW.callVV (d' := 1) [.inr (.inr (2, 0, 0))] [] ⟨_, rfl⟩ f_3_copyFrom v_3_copyFrom l_1_25 ⟨rfl, by decide⟩ rfl (Nat.le_of_ble_eq_true rfl) rfl (Nat.le_of_ble_eq_true rfl) (c3_copyFrom 3 0 (by decide) S τ (only_rep hA hR) hO) ?_
    rintro τ121 ⟨a121, b121⟩
    refine AW.run 5 [] (28, [(0, .inr (.inr (0, 0, 0))), (1, .inr (.inr (2, 0, 0))), (2, .inl (nI b)), (3, .inr (.inr (4, 0, 7))), (4, .inl (nI m)), (5, .inl (orI (fgF S b w m) i)), (6, .inl (nI i))], [.inl (nI b), .inr (.inr (2, 0, 0)), .inl (nI b), .inr (.inr (2, 3, 0))], τ121) [] rfl ?_ ?_
    · exact trivial
    refine AW.callVI (d' := 1) [.inl (nI b)] [.inl (nI b), .inr (.inr (2, 3, 0))] ⟨_, rfl⟩ f_3_kindOf v_3_kindOf l_1_127 ⟨rfl, by decide⟩ rfl (Nat.le_of_ble_eq_true rfl) rfl (Nat.le_of_ble_eq_true rfl) (c3_kindOf 0 S τ121 (only_rep (only_trans hA a121) hR) hO b hb) ?_
    rintro _ _ ⟨rfl, rfl⟩
    refine AW.run 1 [] (33, [(0, .inr (.inr (0, 0, 0))), (1, .inr (.inr (2, 0, 0))), (2, .inl (nI b)), (3, .inr (.inr (4, 0, 7))), (4, .inl (nI m)), (5, .inl (orI (fgF S b w m) i)), (6, .inl (nI i))], [.inl (nI i), .inl (nI (Sk S b)), .inl (nI b), .inr (.inr (2, 3, 0))], τ121) [] rfl ?_ ?_
    · exact trivial
    refine AW.callVV (d' := 2) [.inl (nI b), .inl (nI (Sk S b)), .inl (nI i)] [] ⟨_, rfl⟩ f_3_become v_3_become l_1_119 ⟨rfl, by decide⟩ rfl (Nat.le_of_ble_eq_true rfl) rfl (Nat.le_of_ble_eq_true rfl) (c3_become 3 S τ121 b (Sk S b) i (RepS_E b121) hO.1 hb (hO.2.1 b).1 (by omega) hO.2.2.2.1 hO.2.2.2.2) ?_
    rintro τ122 ⟨a122, b122⟩
    refine AW.run 4 [] (41, [(0, .inr (.inr (0, 0, 0))), (1, .inr (.inr (2, 0, 0))), (2, .inl (nI b)), (3, .inr (.inr (4, 0, 7))), (4, .inl (nI m)), (5, .inl (orI (fgF S b w m) i)), (6, .inl (nI i))], [.inl (nI m), .inr (.inr (4, 0, 7)), .inl (nI b), .inr (.inr (0, 0, 0))], τ122) [] rfl ?_ ?_
    · exact trivial
    refine AW.callVI (d' := 3) [.inl (nI b), .inr (.inr (4, 0, 7)), .inl (nI m)] [] ⟨_, rfl⟩ f_1_pressesAsTold v_1_pressesAsTold l_1_123 ⟨rfl, by decide⟩ rfl (Nat.le_of_ble_eq_true rfl) rfl (Nat.le_of_ble_eq_true rfl) (c1_pressesAsTold (withK S (fu (Sk S) b (Sk S b)) (fu (Sf S) b i)) τ122 b122 (SOK_k hO hb (hO.2.1 b).1 (by omega)) b hb w m (hW.mv (only_trans (only_trans hA a121) a122))) ?_
    rintro v9 τ123 ⟨a123, hv9⟩
    rcases hv9 with ⟨rfl, hp41⟩ | ⟨rfl, hp41⟩
    · skip
      refine AW.run 9 [false] (6, [(6, .inl ((nI i) + 1)), (5, .inl ((orI (fgF S b w m) i) ||| (1 <<< ((nI i) &&& 31)))), (0, .inr (.inr (0, 0, 0))), (1, .inr (.inr (2, 0, 0))), (2, .inl (nI b)), (3, .inr (.inr (4, 0, 7))), (4, .inl (nI m))], [], τ123) [¬ icP .eq (1 : Int32) 0] rfl ?_ ?_
      · exact allP1 (by decide : ¬ ((1 : Int32) = 0))
      have hfp : (fgF S b w m) i = true := by simp only [fgF]; simp [*]
      have hs : orI (fgF S b w m) (i + 1) = orI (fgF S b w m) i ||| (1 <<< (nI i &&& 31)) := by
        simp only [orI]
        rw [if_pos hfp]
      have hx := hk () τ123 (only_trans (only_trans (only_trans hA a121) a122) a123)
      rw [hs, ← nI_1 i] at hx
      refine AW.pick [2, 3, 4, 5, 6, 1, 0] (ls' := _) rfl ?_
      exact hx
    · skip
      refine AW.run 3 [true] (6, [(6, .inl ((nI i) + 1)), (0, .inr (.inr (0, 0, 0))), (1, .inr (.inr (2, 0, 0))), (2, .inl (nI b)), (3, .inr (.inr (4, 0, 7))), (4, .inl (nI m)), (5, .inl (orI (fgF S b w m) i))], [], τ123) [icP .eq (0 : Int32) 0] rfl ?_ ?_
      · exact allP1 (by decide : ((0 : Int32) = 0))
      have hfn : ¬ (fgF S b w m) i = true := by simp only [fgF]; simp [*]
      have hs : orI (fgF S b w m) (i + 1) = orI (fgF S b w m) i := by
        simp only [orI]
        rw [if_neg hfn]
      have hx := hk () τ123 (only_trans (only_trans (only_trans hA a121) a122) a123)
      rw [hs, ← nI_1 i] at hx
      refine AW.pick [1, 2, 3, 4, 5, 6, 0] (ls' := _) rfl ?_
      exact hx
  · intro _ τ hI
    refine AW.run 4 [true] (64, [(0, .inr (.inr (0, 0, 0))), (1, .inr (.inr (2, 0, 0))), (2, .inl (nI b)), (3, .inr (.inr (4, 0, 7))), (4, .inl (nI m)), (5, .inl (orI (fgF S b w m) 10)), (6, .inl (nI 10))], [.inl (orI (fgF S b w m) 10)], τ) [icP .ge (nI 10) 10] rfl ?_ ?_
    · exact allP1 (le_lit (a := 10) (b := 10) (by decide) (by decide))
    refine AW.reti ⟨_, rfl⟩ rfl ?_
    exact ⟨rfl, hI⟩
