/-! THE MODEL'S CELLAR -/
theorem POM_01 {σ σ' : St} {o : Option Sv} {v : Int32} (h : POMd σ σ' o v) : v = 0 ∨ v = 1 := by
  obtain ⟨-, h⟩ := h
  cases o with
  | none => exact Or.inl h
  | some S => exact Or.inr h.1

set_option maxHeartbeats 4000000 in
set_option maxRecDepth 100000 in
theorem c6_comesTold (S : Sv) (σ : St) (hR : RepM (σ 5 0) S) (hO : SOK S) (hd9 : Sd S ≤ 999) (tp : Nat → Nat) (len : Nat) (k r q : Nat) (hk : k ≤ 40) (e13 : σ 5 0 13 k = nI (ltN tp len r)) (hto : ToldD (σ 5 0) (3 * k) tp len r (ltN tp len r)) (hst : stN tp len r = (true, q)) : Ct M6_comesTold 7 [.inr (.inr (5, 0, 0)), .inl (nI k)] σ (POM σ (cryN tp len r S)) := by
  refine Ct.of f_6_comesTold (Nat.le_of_ble_eq_true rfl) ?_
  show AW M6_comesTold 7 _ (0, [(0, .inr (.inr (5, 0, 0))), (1, .inl (nI k))], [], σ)
  obtain ⟨-, hd0, hds⟩ := stN_true hst
  obtain ⟨t98, t112, t117, t100, t116, t111⟩ := hto
  rcases dg_n0 (Nat.ne_of_gt hd0) with h | h | h | h | h | h
  · have hl9 : ∀ j, j < 4 → isDg (ltN tp len (r + 1 + j)) = true := fun j hj => hds j (by rw [h]; exact hj)
    have hb1 := dig_le (tp := tp) (len := len) (k := r + 1) (hl9 0 (by decide))
    have hb2 := dig_le (tp := tp) (len := len) (k := r + 2) (hl9 1 (by decide))
    have hb3 := num_le (tp := tp) (len := len) (k := r + 3) (hl9 2 (by decide)) (hl9 3 (by decide))
    refine AW.run 3 [] (3, [(0, .inr (.inr (5, 0, 0))), (1, .inl (nI k))], [.inl (3 * (nI k))], σ) [] rfl ?_ ?_
    · exact trivial
    rw [show (3 : Int32) * nI k = nI (3 * k) from (Int32.ofNat_mul 3 k).symm]
    refine AW.run 5 [] (10, [(2, .inl (nI (3 * k))), (0, .inr (.inr (5, 0, 0))), (1, .inl (nI k))], [.inl (σ 5 0 13 (nI k).toNatClampNeg)], σ) [vp_in (nI k) 48] rfl ?_ ?_
    · exact allP1 (by exact vp_in_nI (by omega) (by decide))
    rw [nI_clamp (n := k) (by omega), e13, h, show nI 98 = (98 : Int32) from rfl]
    refine AW.lsw (tgt := 44) (off := 34) ⟨_, rfl⟩ (by decide) (by rfl) (by decide) ?_
    refine AW.run 2 [] (46, [(2, .inl (nI (3 * k))), (0, .inr (.inr (5, 0, 0))), (1, .inl (nI k))], [.inl (nI (3 * k)), .inr (.inr (5, 0, 0))], σ) [] rfl ?_ ?_
    · exact trivial
    refine AW.callVI (d' := 2) [.inl (nI (3 * k))] [] ⟨_, rfl⟩ f_6_comesBottle v_6_comesBottle l_6_118 ⟨rfl, by decide⟩ rfl (Nat.le_of_ble_eq_true rfl) rfl (Nat.le_of_ble_eq_true rfl) (c6_comesBottle S σ hR hO (dig tp len (r + 1)) (dig tp len (r + 2)) (num tp len (r + 3)) (3 * k) hb1 hb2 hb3 (by omega) (t98 h).1 (t98 h).2.1 (t98 h).2.2) ?_
    rintro v σ1 hp
    refine AW.retz ⟨_, rfl⟩ rfl (POM_01 hp) ?_
    exact (by unfold cryN; rw [h]; exact hp)
  · have hl9 : ∀ j, j < 3 → isDg (ltN tp len (r + 1 + j)) = true := fun j hj => hds j (by rw [h]; exact hj)
    have hb1 := dig_le (tp := tp) (len := len) (k := r + 1) (hl9 0 (by decide))
    refine AW.run 3 [] (3, [(0, .inr (.inr (5, 0, 0))), (1, .inl (nI k))], [.inl (3 * (nI k))], σ) [] rfl ?_ ?_
    · exact trivial
    rw [show (3 : Int32) * nI k = nI (3 * k) from (Int32.ofNat_mul 3 k).symm]
    refine AW.run 5 [] (10, [(2, .inl (nI (3 * k))), (0, .inr (.inr (5, 0, 0))), (1, .inl (nI k))], [.inl (σ 5 0 13 (nI k).toNatClampNeg)], σ) [vp_in (nI k) 48] rfl ?_ ?_
    · exact allP1 (by exact vp_in_nI (by omega) (by decide))
    rw [nI_clamp (n := k) (by omega), e13, h, show nI 112 = (112 : Int32) from rfl]
    refine AW.lsw (tgt := 85) (off := 75) ⟨_, rfl⟩ (by decide) (by rfl) (by decide) ?_
    refine AW.run 5 [] (92, [(2, .inl (nI (3 * k))), (0, .inr (.inr (5, 0, 0))), (1, .inl (nI k))], [.inl (σ 5 0 13 (nI k).toNatClampNeg), .inr (.inr (5, 0, 0))], σ) [vp_in (nI k) 48] rfl ?_ ?_
    · exact allP1 (by exact vp_in_nI (by omega) (by decide))
    rw [nI_clamp (n := k) (by omega), e13, h, show nI 112 = (112 : Int32) from rfl]
    refine AW.run 4 [] (98, [(2, .inl (nI (3 * k))), (0, .inr (.inr (5, 0, 0))), (1, .inl (nI k))], [.inl (σ 5 0 15 (nI (3 * k)).toNatClampNeg), .inl 112, .inr (.inr (5, 0, 0))], σ) [vp_in (nI (3 * k)) 144] rfl ?_ ?_
    · exact allP1 (by exact vp_in_nI (by omega) (by decide))
    rw [nI_clamp (n := 3 * k) (by omega), (t112 h).1]
    refine AW.run 5 [] (105, [(2, .inl (nI (3 * k))), (0, .inr (.inr (5, 0, 0))), (1, .inl (nI k))], [.inl ((nI (3 * k)) + 1), .inr (.inr (5, 0, 15)), .inl (nI (dig tp len (r + 1))), .inl 112, .inr (.inr (5, 0, 0))], σ) [] rfl ?_ ?_
    · exact trivial
    rw [show nI (3 * k) + 1 = nI (3 * k + 1) from nI_add _ 1]
    refine AW.run 1 [] (106, [(2, .inl (nI (3 * k))), (0, .inr (.inr (5, 0, 0))), (1, .inl (nI k))], [.inl (σ 5 0 15 (nI (3 * k + 1)).toNatClampNeg), .inl (nI (dig tp len (r + 1))), .inl 112, .inr (.inr (5, 0, 0))], σ) [vp_in (nI (3 * k + 1)) 144] rfl ?_ ?_
    · exact allP1 (by exact vp_in_nI (by omega) (by decide))
    rw [nI_clamp (n := 3 * k + 1) (by omega), (t112 h).2]
    refine AW.callVI (d' := 2) [.inl 112, .inl (nI (dig tp len (r + 1))), .inl (nI (num tp len (r + 2)))] [] ⟨_, rfl⟩ f_6_comesOf v_6_comesOf l_6_127 ⟨rfl, by decide⟩ rfl (Nat.le_of_ble_eq_true rfl) rfl (Nat.le_of_ble_eq_true rfl) (c6_comesOf112 S σ hR hO (dig tp len (r + 1)) hb1 (num tp len (r + 2))) ?_
    rintro v σ1 hp
    refine AW.retz ⟨_, rfl⟩ rfl (POM_01 hp) ?_
    exact (by unfold cryN; rw [h]; exact hp)
  · have hl9 : ∀ j, j < 1 → isDg (ltN tp len (r + 1 + j)) = true := fun j hj => hds j (by rw [h]; exact hj)
    have hb1 := dig_le (tp := tp) (len := len) (k := r + 1) (hl9 0 (by decide))
    refine AW.run 3 [] (3, [(0, .inr (.inr (5, 0, 0))), (1, .inl (nI k))], [.inl (3 * (nI k))], σ) [] rfl ?_ ?_
    · exact trivial
    rw [show (3 : Int32) * nI k = nI (3 * k) from (Int32.ofNat_mul 3 k).symm]
    refine AW.run 5 [] (10, [(2, .inl (nI (3 * k))), (0, .inr (.inr (5, 0, 0))), (1, .inl (nI k))], [.inl (σ 5 0 13 (nI k).toNatClampNeg)], σ) [vp_in (nI k) 48] rfl ?_ ?_
    · exact allP1 (by exact vp_in_nI (by omega) (by decide))
    rw [nI_clamp (n := k) (by omega), e13, h, show nI 116 = (116 : Int32) from rfl]
    refine AW.lsw (tgt := 85) (off := 75) ⟨_, rfl⟩ (by decide) (by rfl) (by decide) ?_
    refine AW.run 5 [] (92, [(2, .inl (nI (3 * k))), (0, .inr (.inr (5, 0, 0))), (1, .inl (nI k))], [.inl (σ 5 0 13 (nI k).toNatClampNeg), .inr (.inr (5, 0, 0))], σ) [vp_in (nI k) 48] rfl ?_ ?_
    · exact allP1 (by exact vp_in_nI (by omega) (by decide))
    rw [nI_clamp (n := k) (by omega), e13, h, show nI 116 = (116 : Int32) from rfl]
    refine AW.run 4 [] (98, [(2, .inl (nI (3 * k))), (0, .inr (.inr (5, 0, 0))), (1, .inl (nI k))], [.inl (σ 5 0 15 (nI (3 * k)).toNatClampNeg), .inl 116, .inr (.inr (5, 0, 0))], σ) [vp_in (nI (3 * k)) 144] rfl ?_ ?_
    · exact allP1 (by exact vp_in_nI (by omega) (by decide))
    rw [nI_clamp (n := 3 * k) (by omega), t116 h]
    refine AW.run 5 [] (105, [(2, .inl (nI (3 * k))), (0, .inr (.inr (5, 0, 0))), (1, .inl (nI k))], [.inl ((nI (3 * k)) + 1), .inr (.inr (5, 0, 15)), .inl (nI (dig tp len (r + 1))), .inl 116, .inr (.inr (5, 0, 0))], σ) [] rfl ?_ ?_
    · exact trivial
    rw [show nI (3 * k) + 1 = nI (3 * k + 1) from nI_add _ 1]
    refine AW.run 1 [] (106, [(2, .inl (nI (3 * k))), (0, .inr (.inr (5, 0, 0))), (1, .inl (nI k))], [.inl (σ 5 0 15 (nI (3 * k + 1)).toNatClampNeg), .inl (nI (dig tp len (r + 1))), .inl 116, .inr (.inr (5, 0, 0))], σ) [vp_in (nI (3 * k + 1)) 144] rfl ?_ ?_
    · exact allP1 (by exact vp_in_nI (by omega) (by decide))
    refine AW.callVI (d' := 2) [.inl 116, .inl (nI (dig tp len (r + 1))), .inl (σ 5 0 15 (nI (3 * k + 1)).toNatClampNeg)] [] ⟨_, rfl⟩ f_6_comesOf v_6_comesOf l_6_127 ⟨rfl, by decide⟩ rfl (Nat.le_of_ble_eq_true rfl) rfl (Nat.le_of_ble_eq_true rfl) (c6_comesOf116 S σ hR hO (dig tp len (r + 1)) hb1 (σ 5 0 15 (nI (3 * k + 1)).toNatClampNeg)) ?_
    rintro v σ1 hp
    refine AW.retz ⟨_, rfl⟩ rfl (POM_01 hp) ?_
    exact (by unfold cryN; rw [h]; exact hp)
  · have hl9 : ∀ j, j < 2 → isDg (ltN tp len (r + 1 + j)) = true := fun j hj => hds j (by rw [h]; exact hj)
    have hb1 := dig_le (tp := tp) (len := len) (k := r + 1) (hl9 0 (by decide))
    have hb2 := dig_le (tp := tp) (len := len) (k := r + 2) (hl9 1 (by decide))
    refine AW.run 3 [] (3, [(0, .inr (.inr (5, 0, 0))), (1, .inl (nI k))], [.inl (3 * (nI k))], σ) [] rfl ?_ ?_
    · exact trivial
    rw [show (3 : Int32) * nI k = nI (3 * k) from (Int32.ofNat_mul 3 k).symm]
    refine AW.run 5 [] (10, [(2, .inl (nI (3 * k))), (0, .inr (.inr (5, 0, 0))), (1, .inl (nI k))], [.inl (σ 5 0 13 (nI k).toNatClampNeg)], σ) [vp_in (nI k) 48] rfl ?_ ?_
    · exact allP1 (by exact vp_in_nI (by omega) (by decide))
    rw [nI_clamp (n := k) (by omega), e13, h, show nI 117 = (117 : Int32) from rfl]
    refine AW.lsw (tgt := 50) (off := 40) ⟨_, rfl⟩ (by decide) (by rfl) (by decide) ?_
    refine AW.run 5 [] (57, [(2, .inl (nI (3 * k))), (0, .inr (.inr (5, 0, 0))), (1, .inl (nI k))], [.inl (σ 5 0 15 (nI (3 * k)).toNatClampNeg), .inr (.inr (5, 0, 0))], σ) [vp_in (nI (3 * k)) 144] rfl ?_ ?_
    · exact allP1 (by exact vp_in_nI (by omega) (by decide))
    rw [nI_clamp (n := 3 * k) (by omega), (t117 h).1]
    refine AW.run 7 [] (68, [(2, .inl (nI (3 * k))), (0, .inr (.inr (5, 0, 0))), (1, .inl (nI k))], [.inl ((nI (3 * k)) + 1), .inr (.inr (5, 0, 15)), .inr (.inr (5, 0, 0))], (setM σ 5 0 0 8 (nI (dig tp len (r + 1))))) [] rfl ?_ ?_
    · exact trivial
    rw [show nI (3 * k) + 1 = nI (3 * k + 1) from nI_add _ 1]
    refine AW.run 1 [] (69, [(2, .inl (nI (3 * k))), (0, .inr (.inr (5, 0, 0))), (1, .inl (nI k))], [.inl ((setM σ 5 0 0 8 (nI (dig tp len (r + 1)))) 5 0 15 (nI (3 * k + 1)).toNatClampNeg), .inr (.inr (5, 0, 0))], (setM σ 5 0 0 8 (nI (dig tp len (r + 1))))) [vp_in (nI (3 * k + 1)) 144] rfl ?_ ?_
    · exact allP1 (by exact vp_in_nI (by omega) (by decide))
    rw [nI_clamp (n := 3 * k + 1) (by omega), setM_at, if_neg (by omega), (t117 h).2]
    refine AW.run 2 [] (73, [(2, .inl (nI (3 * k))), (0, .inr (.inr (5, 0, 0))), (1, .inl (nI k))], [.inl 1], (setM (setM σ 5 0 0 8 (nI (dig tp len (r + 1)))) 5 0 0 9 (nI (dig tp len (r + 2))))) [] rfl ?_ ?_
    · exact trivial
    refine AW.retz ⟨_, rfl⟩ rfl (by decide) ?_
    exact POM_y (o := cryN tp len r S) (S' := withU S (dig tp len (r + 1)) (dig tp len (r + 2))) (by unfold cryN; rw [h]; rfl) (fr_set (fr_set fr_rfl (p1_f (by omega) (by omega))) (p1_f (by omega) (by omega))) (repM_h (S := withU S (dig tp len (r + 1)) (She S)) (repM_s hR))
  · have hl9 : ∀ j, j < 1 → isDg (ltN tp len (r + 1 + j)) = true := fun j hj => hds j (by rw [h]; exact hj)
    have hb1 := dig_le (tp := tp) (len := len) (k := r + 1) (hl9 0 (by decide))
    refine AW.run 3 [] (3, [(0, .inr (.inr (5, 0, 0))), (1, .inl (nI k))], [.inl (3 * (nI k))], σ) [] rfl ?_ ?_
    · exact trivial
    rw [show (3 : Int32) * nI k = nI (3 * k) from (Int32.ofNat_mul 3 k).symm]
    refine AW.run 5 [] (10, [(2, .inl (nI (3 * k))), (0, .inr (.inr (5, 0, 0))), (1, .inl (nI k))], [.inl (σ 5 0 13 (nI k).toNatClampNeg)], σ) [vp_in (nI k) 48] rfl ?_ ?_
    · exact allP1 (by exact vp_in_nI (by omega) (by decide))
    rw [nI_clamp (n := k) (by omega), e13, h, show nI 111 = (111 : Int32) from rfl]
    refine AW.lsw (tgt := 85) (off := 75) ⟨_, rfl⟩ (by decide) (by rfl) (by decide) ?_
    refine AW.run 5 [] (92, [(2, .inl (nI (3 * k))), (0, .inr (.inr (5, 0, 0))), (1, .inl (nI k))], [.inl (σ 5 0 13 (nI k).toNatClampNeg), .inr (.inr (5, 0, 0))], σ) [vp_in (nI k) 48] rfl ?_ ?_
    · exact allP1 (by exact vp_in_nI (by omega) (by decide))
    rw [nI_clamp (n := k) (by omega), e13, h, show nI 111 = (111 : Int32) from rfl]
    refine AW.run 4 [] (98, [(2, .inl (nI (3 * k))), (0, .inr (.inr (5, 0, 0))), (1, .inl (nI k))], [.inl (σ 5 0 15 (nI (3 * k)).toNatClampNeg), .inl 111, .inr (.inr (5, 0, 0))], σ) [vp_in (nI (3 * k)) 144] rfl ?_ ?_
    · exact allP1 (by exact vp_in_nI (by omega) (by decide))
    rw [nI_clamp (n := 3 * k) (by omega), t111 h]
    refine AW.run 5 [] (105, [(2, .inl (nI (3 * k))), (0, .inr (.inr (5, 0, 0))), (1, .inl (nI k))], [.inl ((nI (3 * k)) + 1), .inr (.inr (5, 0, 15)), .inl (nI (dig tp len (r + 1))), .inl 111, .inr (.inr (5, 0, 0))], σ) [] rfl ?_ ?_
    · exact trivial
    rw [show nI (3 * k) + 1 = nI (3 * k + 1) from nI_add _ 1]
    refine AW.run 1 [] (106, [(2, .inl (nI (3 * k))), (0, .inr (.inr (5, 0, 0))), (1, .inl (nI k))], [.inl (σ 5 0 15 (nI (3 * k + 1)).toNatClampNeg), .inl (nI (dig tp len (r + 1))), .inl 111, .inr (.inr (5, 0, 0))], σ) [vp_in (nI (3 * k + 1)) 144] rfl ?_ ?_
    · exact allP1 (by exact vp_in_nI (by omega) (by decide))
    refine AW.callVI (d' := 2) [.inl 111, .inl (nI (dig tp len (r + 1))), .inl (σ 5 0 15 (nI (3 * k + 1)).toNatClampNeg)] [] ⟨_, rfl⟩ f_6_comesOf v_6_comesOf l_6_127 ⟨rfl, by decide⟩ rfl (Nat.le_of_ble_eq_true rfl) rfl (Nat.le_of_ble_eq_true rfl) (c6_comesOf111 S σ hR hO (dig tp len (r + 1)) hb1 (σ 5 0 15 (nI (3 * k + 1)).toNatClampNeg)) ?_
    rintro v σ1 hp
    refine AW.retz ⟨_, rfl⟩ rfl (POM_01 hp) ?_
    exact (by unfold cryN; rw [h]; exact hp)
  · have hl9 : ∀ j, j < 2 → isDg (ltN tp len (r + 1 + j)) = true := fun j hj => hds j (by rw [h]; exact hj)
    have hb3 := num_le (tp := tp) (len := len) (k := r + 1) (hl9 0 (by decide)) (hl9 1 (by decide))
    refine AW.run 3 [] (3, [(0, .inr (.inr (5, 0, 0))), (1, .inl (nI k))], [.inl (3 * (nI k))], σ) [] rfl ?_ ?_
    · exact trivial
    rw [show (3 : Int32) * nI k = nI (3 * k) from (Int32.ofNat_mul 3 k).symm]
    refine AW.run 5 [] (10, [(2, .inl (nI (3 * k))), (0, .inr (.inr (5, 0, 0))), (1, .inl (nI k))], [.inl (σ 5 0 13 (nI k).toNatClampNeg)], σ) [vp_in (nI k) 48] rfl ?_ ?_
    · exact allP1 (by exact vp_in_nI (by omega) (by decide))
    rw [nI_clamp (n := k) (by omega), e13, h, show nI 100 = (100 : Int32) from rfl]
    refine AW.lsw (tgt := 74) (off := 64) ⟨_, rfl⟩ (by decide) (by rfl) (by decide) ?_
    refine AW.run 5 [] (81, [(2, .inl (nI (3 * k))), (0, .inr (.inr (5, 0, 0))), (1, .inl (nI k))], [.inl (σ 5 0 15 (nI (3 * k)).toNatClampNeg), .inr (.inr (5, 0, 0))], σ) [vp_in (nI (3 * k)) 144] rfl ?_ ?_
    · exact allP1 (by exact vp_in_nI (by omega) (by decide))
    rw [nI_clamp (n := 3 * k) (by omega), t100 h]
    refine AW.callVI (d' := 6) [.inl (nI (num tp len (r + 1)))] [] ⟨_, rfl⟩ f_6_comesDays v_6_comesDays l_6_124 ⟨rfl, by decide⟩ rfl (Nat.le_of_ble_eq_true rfl) rfl (Nat.le_of_ble_eq_true rfl) (c6_comesDays S σ hR hO hd9 (num tp len (r + 1)) hb3) ?_
    rintro v σ1 hp
    refine AW.retz ⟨_, rfl⟩ rfl (POM_01 hp) ?_
    exact (by unfold cryN; rw [h]; exact hp)
def posN (tp : Nat → Nat) (len : Nat) : Nat → Nat
  | 0 => 0
  | k + 1 => posN tp len k + (dgN (ltN tp len (posN tp len k)) + 2)
def P10 (j k : Nat) : Prop := (j = 0 ∧ (k = 16 ∨ k = 17)) ∨ j = 13 ∨ j = 14 ∨ j = 15
def P12 (j k : Nat) : Prop := (2 ≤ j ∧ j ≤ 7) ∨ (j = 0 ∧ (k = 15 ∨ k = 16 ∨ k = 17 ∨ k = 20 ∨ k = 21 ∨ (7 ≤ k ∧ k ≤ 10))) ∨ j = 13 ∨ j = 14 ∨ j = 15 ∨ (j = 19 ∧ 52 ≤ k ∧ k < 104)
def P13 (j k : Nat) : Prop := P12 j k ∨ (j = 0 ∧ k = 22)
theorem RepD_tale {σ τ : St} {F : Gv} {S : Sv} (hF : FOK F) (h : Fr P12 σ τ) (hD : RepD σ F) (hR : RepM (τ 5 0) S) (h15 : τ 5 0 0 15 = 0) : RepD τ (S, (0, F.2.1.2), F.2.2) ∧ Fr TT σ τ := by
  obtain ⟨-, -, hw, hr, hb, hi⟩ := hD
  have e : ∀ j k, ((j = 0 ∧ (k = 19 ∨ k = 22 ∨ k = 24)) ∨ j = 24 ∨ j = 1 ∨ (j = 19 ∧ (k < 52 ∨ 156 ≤ k))) → τ 5 0 j k = σ 5 0 j k := fun j k hj => fr_at h (fun q => by unfold P12 at q; omega)
  exact ⟨⟨hR, ⟨h15, fun i hi => absurd hi (Nat.not_lt_zero i)⟩, RowM_mv hw (e 0 24 (by omega)) (fun i => e 24 i (by omega)), fun k h1 h2 => by rw [e 1 k (by omega)]; exact hr k h1 h2, RepB_mv (fun j hj => (hF.2.2.2.1.2 j hj).1.1) (e 0 22 (by omega)) (fun k hk => e 19 k (by omega)) hb, ImgD_mv (fun I hI => (hF.2.2.2.2 I hI).1.1) (e 0 19 (by omega)) (fun t ht => e 19 t (by omega)) hi⟩, fr_tt h⟩
theorem RepD_tale2 {σ τ : St} {F : Gv} {S : Sv} (hF : FOK F) (h : Fr P13 σ τ) (hD : RepD σ F) (hR : RepM (τ 5 0) S) (h15 : τ 5 0 0 15 = 0) (h22 : τ 5 0 0 22 = 0) : RepD τ (S, (0, F.2.1.2), F.2.2.1, F.2.2.2.1, (0, F.2.2.2.2.1.2), F.2.2.2.2.2) ∧ Fr TT σ τ := by
  obtain ⟨-, -, hw, hr, -, hi⟩ := hD
  have e : ∀ j k, ((j = 0 ∧ (k = 19 ∨ k = 24)) ∨ j = 24 ∨ j = 1 ∨ (j = 19 ∧ (k < 52 ∨ 156 ≤ k))) → τ 5 0 j k = σ 5 0 j k := fun j k hj => fr_at h (fun q => by unfold P13 P12 at q; omega)
  exact ⟨⟨hR, ⟨h15, fun i hi => absurd hi (Nat.not_lt_zero i)⟩, RowM_mv hw (e 0 24 (by omega)) (fun i => e 24 i (by omega)), fun k h1 h2 => by rw [e 1 k (by omega)]; exact hr k h1 h2, RepB_0 h22, ImgD_mv (fun I hI => (hF.2.2.2.2 I hI).1.1) (e 0 19 (by omega)) (fun t ht => e 19 t (by omega)) hi⟩, fr_tt h⟩
/-- what has been read -/
def RdK (m : Nat → Nat → Int32) (tp : Nat → Nat) (len st : Nat) : Prop := ∀ k, k < st → m 13 k = nI (ltN tp len (posN tp len k)) ∧ m 14 k = nI (posN tp len k) ∧ ToldD m (3 * k) tp len (posN tp len k) (ltN tp len (posN tp len k)) ∧ stN tp len (posN tp len k) = (true, posN tp len (k + 1)) ∧ posN tp len (k + 1) ≤ len
theorem RdK_mv {m m' : Nat → Nat → Int32} {tp : Nat → Nat} {len st : Nat} (h13 : ∀ k, k < st → m' 13 k = m 13 k) (h14 : ∀ k, k < st → m' 14 k = m 14 k) (h15 : ∀ k, k < 3 * st → m' 15 k = m 15 k) (h : RdK m tp len st) : RdK m' tp len st := fun k hk => by
  obtain ⟨a1, a2, a3, a4⟩ := h k hk
  exact ⟨(h13 k hk).trans a1, (h14 k hk).trans a2, ToldD_mv (fun x hx hx2 => h15 x (by omega)) a3, a4⟩
theorem posN_lt {tp : Nat → Nat} {len k : Nat} (h : stN tp len (posN tp len k) = (true, posN tp len (k + 1))) (hle : posN tp len (k + 1) ≤ len) : posN tp len k < len := by
  have : posN tp len (k + 1) = posN tp len k + (dgN (ltN tp len (posN tp len k)) + 2) := rfl
  omega
theorem brk_s {tp : Nat → Nat} {len st p q : Nat} (h96 : st < 96) (h : p < len ∨ st = 0) (hs : stN tp len p = (true, q)) : brkN tp len (96 - st) st p = brkN tp len (96 - (st + 1)) (st + 1) q := by
  obtain ⟨m, hm⟩ : ∃ m, 96 - st = m + 1 := ⟨95 - st, by omega⟩
  rw [hm, show 96 - (st + 1) = m by omega]
  show (if 0 < st ∧ len ≤ p then none else match stN tp len p with | (false, q) => some q | (true, q) => brkN tp len m (st + 1) q) = _
  rw [if_neg (by omega), hs]
theorem brk_f {tp : Nat → Nat} {len st p q : Nat} (h96 : st < 96) (h : p < len ∨ st = 0) (hs : stN tp len p = (false, q)) : brkN tp len (96 - st) st p = some q := by
  obtain ⟨m, hm⟩ : ∃ m, 96 - st = m + 1 := ⟨95 - st, by omega⟩
  rw [hm]
  show (if 0 < st ∧ len ≤ p then none else match stN tp len p with | (false, q) => some q | (true, q) => brkN tp len m (st + 1) q) = _
  rw [if_neg (by omega), hs]
theorem brk_e {tp : Nat → Nat} {len st p : Nat} (h96 : st < 96) (h : len ≤ p) (h0 : 0 < st) : brkN tp len (96 - st) st p = none := by
  obtain ⟨m, hm⟩ : ∃ m, 96 - st = m + 1 := ⟨95 - st, by omega⟩
  rw [hm]
  show (if 0 < st ∧ len ≤ p then none else match stN tp len p with | (false, q) => some q | (true, q) => brkN tp len m (st + 1) q) = _
  rw [if_pos ⟨h0, h⟩]
theorem exe_s {tp : Nat → Nat} {len k : Nat} {S S' : Sv} (h96 : k < 96) (h : posN tp len k < len) (hc : cryN tp len (posN tp len k) S = some S') : exeN tp len (96 - k) k (posN tp len k) S = exeN tp len (96 - (k + 1)) (k + 1) (posN tp len (k + 1)) S' := by
  obtain ⟨m, hm⟩ : ∃ m, 96 - k = m + 1 := ⟨95 - k, by omega⟩
  rw [hm, show 96 - (k + 1) = m by omega]
  show (if len ≤ posN tp len k then (nI k, some S) else match cryN tp len (posN tp len k) S with | none => (-2000 - nI (posN tp len k), none) | some S' => exeN tp len m (k + 1) (posN tp len k + (dgN (ltN tp len (posN tp len k)) + 2)) S') = _
  rw [if_neg (by omega), hc]; rfl
theorem exe_f {tp : Nat → Nat} {len k : Nat} {S : Sv} (h96 : k < 96) (h : posN tp len k < len) (hc : cryN tp len (posN tp len k) S = none) : exeN tp len (96 - k) k (posN tp len k) S = (-2000 - nI (posN tp len k), none) := by
  obtain ⟨m, hm⟩ : ∃ m, 96 - k = m + 1 := ⟨95 - k, by omega⟩
  rw [hm]
  show (if len ≤ posN tp len k then (nI k, some S) else match cryN tp len (posN tp len k) S with | none => (-2000 - nI (posN tp len k), none) | some S' => exeN tp len m (k + 1) (posN tp len k + (dgN (ltN tp len (posN tp len k)) + 2)) S') = _
  rw [if_neg (by omega), hc]
theorem exe_e {tp : Nat → Nat} {len k : Nat} {S : Sv} (h96 : k < 96) (h : len ≤ posN tp len k) : exeN tp len (96 - k) k (posN tp len k) S = (nI k, some S) := by
  obtain ⟨m, hm⟩ : ∃ m, 96 - k = m + 1 := ⟨95 - k, by omega⟩
  rw [hm]
  show (if len ≤ posN tp len k then (nI k, some S) else match cryN tp len (posN tp len k) S with | none => (-2000 - nI (posN tp len k), none) | some S' => exeN tp len m (k + 1) (posN tp len k + (dgN (ltN tp len (posN tp len k)) + 2)) S') = _
  rw [if_pos h]
theorem tel_b {tp : Nat → Nat} {len q : Nat} {S : Sv} (h : brkN tp len 96 0 0 = some q) : telN tp len S = (-1000 - nI q, none) := by unfold telN; rw [h]
theorem tel_e {tp : Nat → Nat} {len : Nat} {S : Sv} (h : brkN tp len 96 0 0 = none) : telN tp len S = exeN tp len 96 0 0 S := by unfold telN; rw [h]
theorem cel_n {F : Gv} {r : Int32} (h : telN F.2.1.2 F.2.1.1 F.1 = (r, none)) : cellarP F = (r, (F.1, (0, F.2.1.2), F.2.2)) := by unfold cellarP; rw [h]
theorem cel_s {F : Gv} {r : Int32} {S : Sv} (h : telN F.2.1.2 F.2.1.1 F.1 = (r, some S)) : cellarP F = (r, (S, (0, F.2.1.2), F.2.2.1, F.2.2.2.1, (0, F.2.2.2.2.1.2), F.2.2.2.2.2)) := by unfold cellarP; rw [h]

set_option maxHeartbeats 4000000 in
set_option maxRecDepth 100000 in
theorem d6_cellar (F : Gv) (σ : St) (hD : RepD σ F) (hG : GOK F) : Ct M6_cellar 8 [.inr (.inr (5, 0, 0))] σ (QD σ (cellarP F)) := by
  refine Ct.of f_6_cellar (Nat.le_of_ble_eq_true rfl) ?_
  show AW M6_cellar 8 _ (0, [(0, .inr (.inr (5, 0, 0)))], [], σ)
  have hF : FOK F := hG.1
  have hR : RepM (σ 5 0) F.1 := hD.1
  have hO : SOK F.1 := hF.1.1
  have hn8 : Sn F.1 ≤ 8 := hO.1
  have e7 := hR.1.1
  have hl := hF.2.1.1
  have htp := hF.2.1.2
  refine AW.run 8 [] (12, [(1, .inl 1), (0, .inr (.inr (5, 0, 0)))], [], (setM (setM σ 5 0 0 16 0) 5 0 0 17 0)) [] rfl ?_ ?_
  · exact trivial
  refine AW.pick [1, 0] (ls' := [(0, .inr (.inr (5, 0, 0))), (1, .inl 1)]) rfl ?_
  refine AW.wloop (α := Nat) 12 (fun st => [(0, .inr (.inr (5, 0, 0))), (1, .inl 1)]) (fun st τ => Fr P10 σ τ ∧ τ 5 0 0 16 = nI (posN F.2.1.2 F.2.1.1 st) ∧ τ 5 0 0 17 = nI st ∧ 3 * st ≤ (posN F.2.1.2 F.2.1.1 st) ∧ (0 < st → (posN F.2.1.2 F.2.1.1 st) ≤ F.2.1.1) ∧ brkN F.2.1.2 F.2.1.1 96 0 0 = brkN F.2.1.2 F.2.1.1 (96 - st) st (posN F.2.1.2 F.2.1.1 st) ∧ RdK (τ 5 0) F.2.1.2 F.2.1.1 st) (fun st => 96 - st) ?_ 0 _ ⟨(fr_set (fr_set fr_rfl (by unfold P10; omega)) (by unfold P10; omega)), by rw [setM_at, if_neg (by omega), setM_at, if_pos ⟨rfl, rfl⟩]; rfl, by rw [setM_at, if_pos ⟨rfl, rfl⟩]; rfl, Nat.le_refl _, fun h => absurd h (Nat.lt_irrefl 0), rfl, fun k hk => absurd hk (Nat.not_lt_zero k)⟩
  intro st τ hI hk
  obtain ⟨hS1, e16, e17, h3, hle, hb, hrd⟩ := hI
  have hst32 : st ≤ 32 := by
    rcases Nat.eq_zero_or_pos st with h | h
    · omega
    · have := hle h; omega
  have hT : TapeD τ F.2.1.2 F.2.1.1 := TapeD_mv hD.2.1 (fr_at hS1 (by unfold P10; omega)) (fun i => fr_at hS1 (by unfold P10; omega))
  have hRt : RepM (τ 5 0) F.1 := repM_fr hS1 (fun j k q => by unfold P10 at q; omega) hR
  have hp96 : (posN F.2.1.2 F.2.1.1 st) ≤ 96 := by
    rcases Nat.eq_zero_or_pos st with h | h
    · subst h; exact Nat.zero_le _
    · have := hle h; omega
  by_cases hgo : (posN F.2.1.2 F.2.1.1 st) < F.2.1.1 ∨ st = 0
  · by_cases hlt : (posN F.2.1.2 F.2.1.1 st) < F.2.1.1
    · skip
      refine AW.run 4 [false] (20, [(0, .inr (.inr (5, 0, 0))), (1, .inl 1)], [.inl (τ 5 0 0 16)], τ) [¬ icP .eq (1 : Int32) 0] rfl ?_ ?_
      · exact allP1 (by decide : ¬ ((1 : Int32) = 0))
      rw [e16]
      refine AW.run 2 [] (24, [(0, .inr (.inr (5, 0, 0))), (1, .inl 1)], [.inl (τ 5 0 0 15), .inl (nI (posN F.2.1.2 F.2.1.1 st))], τ) [] rfl ?_ ?_
      · exact trivial
      rw [hT.1]
      refine AW.run 2 [true] (35, [(0, .inr (.inr (5, 0, 0))), (1, .inl 1)], [.inr (.inr (5, 0, 0))], τ) [icP .lt (nI (posN F.2.1.2 F.2.1.1 st)) (nI F.2.1.1)] rfl ?_ ?_
      · exact allP1 (nI_lt hlt (by omega))
      refine AW.callVI (d' := 5) [] [] ⟨_, rfl⟩ f_6_statement v_6_statement l_6_130 ⟨rfl, by decide⟩ rfl (Nat.le_of_ble_eq_true rfl) rfl (Nat.le_of_ble_eq_true rfl) (c6_statement F.2.1.2 F.2.1.1 hl htp τ hT (posN F.2.1.2 F.2.1.1 st) (by omega) e16 st (by omega) e17) ?_
      rintro v9 τ1 ⟨f1, hv⟩
      have u17 : τ1 5 0 0 17 = nI st := (fr_at f1 (by unfold P9; omega)).trans e17
      rcases hv with ⟨rfl, ⟨hs, hsl⟩, g16, g13, g14, gto⟩ | ⟨rfl, q9, hs, g16⟩
      · skip
        refine AW.run 4 [] (44, [(1, .inl 1), (0, .inr (.inr (5, 0, 0)))], [.inl (τ1 5 0 0 17), .inr (.inr (5, 0, 0))], τ1) [] rfl ?_ ?_
        · exact trivial
        rw [u17]
        refine AW.run 7 [false] (12, [(1, .inl 1), (0, .inr (.inr (5, 0, 0)))], [], (setM τ1 5 0 0 17 ((nI st) + 1))) [¬ icP .eq (1 : Int32) 0] rfl ?_ ?_
        · exact allP1 (by decide : ¬ ((1 : Int32) = 0))
        refine AW.pick [1, 0] (ls' := [(0, .inr (.inr (5, 0, 0))), (1, .inl 1)]) rfl ?_
        rw [nI_1]
        have hd0 := (stN_true hs).2.1
        have hp1 : (posN F.2.1.2 F.2.1.1 (st + 1)) = (posN F.2.1.2 F.2.1.1 st) + dgN (ltN F.2.1.2 F.2.1.1 (posN F.2.1.2 F.2.1.1 st)) + 2 := (Nat.add_assoc _ _ _).symm
        rw [← hp1] at hs hsl g16
        exact hk (st + 1) _ (by omega) ⟨fr_set (fr_trans hS1 (fr_mono f1 (fun j k q => by unfold P9 at q; unfold P10; omega))) (by unfold P10; omega), by rw [setM_at, if_neg (by omega)]; exact g16, by rw [setM_at, if_pos ⟨rfl, rfl⟩], by omega, fun _ => hsl, by rw [hb, brk_s (by omega) hgo hs], fun k hk9 => by
          by_cases hks : k = st
          · subst hks
            exact ⟨by rw [setM_at, if_neg (by omega)]; exact g13, by rw [setM_at, if_neg (by omega)]; exact g14, ToldD_mv (fun x _ _ => by rw [setM_at, if_neg (by omega)]) gto, hs, hsl⟩
          · exact RdK_mv (st := st) (fun x hx => by rw [setM_at, if_neg (by omega), fr_at f1 (by unfold P9; omega)]) (fun x hx => by rw [setM_at, if_neg (by omega), fr_at f1 (by unfold P9; omega)]) (fun x hx => by rw [setM_at, if_neg (by omega), fr_at f1 (by unfold P9; omega)]) hrd k (by omega)⟩
      · skip
        refine AW.run 4 [] (44, [(1, .inl 0), (0, .inr (.inr (5, 0, 0)))], [.inl (τ1 5 0 0 17), .inr (.inr (5, 0, 0))], τ1) [] rfl ?_ ?_
        · exact trivial
        rw [u17]
        refine AW.run 6 [true] (12, [(1, .inl 0), (0, .inr (.inr (5, 0, 0)))], [], (setM τ1 5 0 0 17 ((nI st) + 0))) [icP .eq (0 : Int32) 0] rfl ?_ ?_
        · exact allP1 (by decide : ((0 : Int32) = 0))
        refine AW.pick [1, 0] (ls' := [(0, .inr (.inr (5, 0, 0))), (1, .inl 0)]) rfl ?_
        refine AW.run 10 [true, false] (76, [(0, .inr (.inr (5, 0, 0))), (1, .inl 0)], [.inl ((setM (setM τ1 5 0 0 17 ((nI st) + 0)) 5 0 0 15 0) 5 0 0 16), .inl (-1000)], (setM (setM τ1 5 0 0 17 ((nI st) + 0)) 5 0 0 15 0)) [icP .eq (0 : Int32) 0, ¬ icP .ne (0 : Int32) 0] rfl ?_ ?_
        · exact ⟨(by decide : ((0 : Int32) = 0)), allP1 (by decide : ¬ (¬ (0 : Int32) = 0))⟩
        rw [show (setM (setM τ1 5 0 0 17 ((nI st) + 0)) 5 0 0 15 0) 5 0 0 16 = nI q9 from by rw [setM_at, if_neg (by omega), setM_at, if_neg (by omega)]; exact g16]
        refine AW.run 1 [] (77, [(0, .inr (.inr (5, 0, 0))), (1, .inl 0)], [.inl ((-1000) - (nI q9))], (setM (setM τ1 5 0 0 17 ((nI st) + 0)) 5 0 0 15 0)) [] rfl ?_ ?_
        · exact trivial
        refine AW.reti ⟨_, rfl⟩ rfl ?_
        exact ⟨_, cel_n (tel_b (by rw [hb, brk_f (by omega) hgo hs])), RepD_tale hF (fr_set (fr_set (fr_trans (fr_mono hS1 (fun j k q => by unfold P10 at q; unfold P12; omega)) (fr_mono f1 (fun j k q => by unfold P9 at q; unfold P12; omega))) (by unfold P12; omega)) (by unfold P12; omega)) hD (repM_fr (P := fun j k => j = 0 ∧ (k = 15 ∨ k = 17)) (fr_set (fr_set fr_rfl ⟨rfl, Or.inr rfl⟩) ⟨rfl, Or.inl rfl⟩) (fun j k q => by omega) (repM_fr f1 (fun j k q => by unfold P9 at q; omega) hRt)) (by rw [setM_at, if_pos ⟨rfl, rfl⟩])⟩
    · skip
      refine AW.run 4 [false] (20, [(0, .inr (.inr (5, 0, 0))), (1, .inl 1)], [.inl (τ 5 0 0 16)], τ) [¬ icP .eq (1 : Int32) 0] rfl ?_ ?_
      · exact allP1 (by decide : ¬ ((1 : Int32) = 0))
      rw [e16]
      refine AW.run 2 [] (24, [(0, .inr (.inr (5, 0, 0))), (1, .inl 1)], [.inl (τ 5 0 0 15), .inl (nI (posN F.2.1.2 F.2.1.1 st))], τ) [] rfl ?_ ?_
      · exact trivial
      rw [hT.1]
      refine AW.run 3 [false] (31, [(0, .inr (.inr (5, 0, 0))), (1, .inl 1)], [.inl (τ 5 0 0 17)], τ) [¬ icP .lt (nI (posN F.2.1.2 F.2.1.1 st)) (nI F.2.1.1)] rfl ?_ ?_
      · exact allP1 (nI_nlt (by omega) (by omega))
      rw [e17]
      refine AW.run 2 [false] (35, [(0, .inr (.inr (5, 0, 0))), (1, .inl 1)], [.inr (.inr (5, 0, 0))], τ) [¬ icP .ne (nI st) 0] rfl ?_ ?_
      · exact allP1 (fun q => q (congrArg nI (hgo.resolve_left hlt)))
      refine AW.callVI (d' := 5) [] [] ⟨_, rfl⟩ f_6_statement v_6_statement l_6_130 ⟨rfl, by decide⟩ rfl (Nat.le_of_ble_eq_true rfl) rfl (Nat.le_of_ble_eq_true rfl) (c6_statement F.2.1.2 F.2.1.1 hl htp τ hT (posN F.2.1.2 F.2.1.1 st) (by omega) e16 st (by omega) e17) ?_
      rintro v9 τ1 ⟨f1, hv⟩
      have u17 : τ1 5 0 0 17 = nI st := (fr_at f1 (by unfold P9; omega)).trans e17
      rcases hv with ⟨rfl, ⟨hs, hsl⟩, g16, g13, g14, gto⟩ | ⟨rfl, q9, hs, g16⟩
      · skip
        refine AW.run 4 [] (44, [(1, .inl 1), (0, .inr (.inr (5, 0, 0)))], [.inl (τ1 5 0 0 17), .inr (.inr (5, 0, 0))], τ1) [] rfl ?_ ?_
        · exact trivial
        rw [u17]
        refine AW.run 7 [false] (12, [(1, .inl 1), (0, .inr (.inr (5, 0, 0)))], [], (setM τ1 5 0 0 17 ((nI st) + 1))) [¬ icP .eq (1 : Int32) 0] rfl ?_ ?_
        · exact allP1 (by decide : ¬ ((1 : Int32) = 0))
        refine AW.pick [1, 0] (ls' := [(0, .inr (.inr (5, 0, 0))), (1, .inl 1)]) rfl ?_
        rw [nI_1]
        have hd0 := (stN_true hs).2.1
        have hp1 : (posN F.2.1.2 F.2.1.1 (st + 1)) = (posN F.2.1.2 F.2.1.1 st) + dgN (ltN F.2.1.2 F.2.1.1 (posN F.2.1.2 F.2.1.1 st)) + 2 := (Nat.add_assoc _ _ _).symm
        rw [← hp1] at hs hsl g16
        exact hk (st + 1) _ (by omega) ⟨fr_set (fr_trans hS1 (fr_mono f1 (fun j k q => by unfold P9 at q; unfold P10; omega))) (by unfold P10; omega), by rw [setM_at, if_neg (by omega)]; exact g16, by rw [setM_at, if_pos ⟨rfl, rfl⟩], by omega, fun _ => hsl, by rw [hb, brk_s (by omega) hgo hs], fun k hk9 => by
          by_cases hks : k = st
          · subst hks
            exact ⟨by rw [setM_at, if_neg (by omega)]; exact g13, by rw [setM_at, if_neg (by omega)]; exact g14, ToldD_mv (fun x _ _ => by rw [setM_at, if_neg (by omega)]) gto, hs, hsl⟩
          · exact RdK_mv (st := st) (fun x hx => by rw [setM_at, if_neg (by omega), fr_at f1 (by unfold P9; omega)]) (fun x hx => by rw [setM_at, if_neg (by omega), fr_at f1 (by unfold P9; omega)]) (fun x hx => by rw [setM_at, if_neg (by omega), fr_at f1 (by unfold P9; omega)]) hrd k (by omega)⟩
      · skip
        refine AW.run 4 [] (44, [(1, .inl 0), (0, .inr (.inr (5, 0, 0)))], [.inl (τ1 5 0 0 17), .inr (.inr (5, 0, 0))], τ1) [] rfl ?_ ?_
        · exact trivial
        rw [u17]
        refine AW.run 6 [true] (12, [(1, .inl 0), (0, .inr (.inr (5, 0, 0)))], [], (setM τ1 5 0 0 17 ((nI st) + 0))) [icP .eq (0 : Int32) 0] rfl ?_ ?_
        · exact allP1 (by decide : ((0 : Int32) = 0))
        refine AW.pick [1, 0] (ls' := [(0, .inr (.inr (5, 0, 0))), (1, .inl 0)]) rfl ?_
        refine AW.run 10 [true, false] (76, [(0, .inr (.inr (5, 0, 0))), (1, .inl 0)], [.inl ((setM (setM τ1 5 0 0 17 ((nI st) + 0)) 5 0 0 15 0) 5 0 0 16), .inl (-1000)], (setM (setM τ1 5 0 0 17 ((nI st) + 0)) 5 0 0 15 0)) [icP .eq (0 : Int32) 0, ¬ icP .ne (0 : Int32) 0] rfl ?_ ?_
        · exact ⟨(by decide : ((0 : Int32) = 0)), allP1 (by decide : ¬ (¬ (0 : Int32) = 0))⟩
        rw [show (setM (setM τ1 5 0 0 17 ((nI st) + 0)) 5 0 0 15 0) 5 0 0 16 = nI q9 from by rw [setM_at, if_neg (by omega), setM_at, if_neg (by omega)]; exact g16]
        refine AW.run 1 [] (77, [(0, .inr (.inr (5, 0, 0))), (1, .inl 0)], [.inl ((-1000) - (nI q9))], (setM (setM τ1 5 0 0 17 ((nI st) + 0)) 5 0 0 15 0)) [] rfl ?_ ?_
        · exact trivial
        refine AW.reti ⟨_, rfl⟩ rfl ?_
        exact ⟨_, cel_n (tel_b (by rw [hb, brk_f (by omega) hgo hs])), RepD_tale hF (fr_set (fr_set (fr_trans (fr_mono hS1 (fun j k q => by unfold P10 at q; unfold P12; omega)) (fr_mono f1 (fun j k q => by unfold P9 at q; unfold P12; omega))) (by unfold P12; omega)) (by unfold P12; omega)) hD (repM_fr (P := fun j k => j = 0 ∧ (k = 15 ∨ k = 17)) (fr_set (fr_set fr_rfl ⟨rfl, Or.inr rfl⟩) ⟨rfl, Or.inl rfl⟩) (fun j k q => by omega) (repM_fr f1 (fun j k q => by unfold P9 at q; omega) hRt)) (by rw [setM_at, if_pos ⟨rfl, rfl⟩])⟩
  · have hst0 : 0 < st := Nat.pos_of_ne_zero (fun q => hgo (Or.inr q))
    have hlen : F.2.1.1 ≤ (posN F.2.1.2 F.2.1.1 st) := Nat.le_of_not_lt (fun q => hgo (Or.inl q))
    have hbn : brkN F.2.1.2 F.2.1.1 96 0 0 = none := by rw [hb, brk_e (by omega) hlen hst0]
    refine AW.run 4 [false] (20, [(0, .inr (.inr (5, 0, 0))), (1, .inl 1)], [.inl (τ 5 0 0 16)], τ) [¬ icP .eq (1 : Int32) 0] rfl ?_ ?_
    · exact allP1 (by decide : ¬ ((1 : Int32) = 0))
    rw [e16]
    refine AW.run 2 [] (24, [(0, .inr (.inr (5, 0, 0))), (1, .inl 1)], [.inl (τ 5 0 0 15), .inl (nI (posN F.2.1.2 F.2.1.1 st))], τ) [] rfl ?_ ?_
    · exact trivial
    rw [hT.1]
    refine AW.run 3 [false] (31, [(0, .inr (.inr (5, 0, 0))), (1, .inl 1)], [.inl (τ 5 0 0 17)], τ) [¬ icP .lt (nI (posN F.2.1.2 F.2.1.1 st)) (nI F.2.1.1)] rfl ?_ ?_
    · exact allP1 (nI_nlt hlen (by omega))
    rw [e17]
    refine AW.run 9 [true, true] (81, [(0, .inr (.inr (5, 0, 0))), (1, .inl 1)], [.inl 1, .inl 1, .inr (.inr (5, 0, 0))], (setM τ 5 0 0 15 0)) [icP .ne (nI st) 0, icP .ne (1 : Int32) 0] rfl ?_ ?_
    · exact ⟨(nI_ne0 hst0 (by omega)), allP1 (by decide : (¬ (1 : Int32) = 0))⟩
    refine AW.callVV (d' := 1) [.inl 1, .inl 1] [] ⟨_, rfl⟩ f_6_passesAll v_6_passesAll l_6_134 ⟨rfl, by decide⟩ rfl (Nat.le_of_ble_eq_true rfl) rfl (Nat.le_of_ble_eq_true rfl) (c6_passesAllK 1 (by decide) F.1 (setM τ 5 0 0 15 0) (repM_fr (P := fun j k => j = 0 ∧ k = 15) (fr_set fr_rfl ⟨rfl, rfl⟩) (fun j k q => by omega) hRt) hn8) ?_
    rintro τ1 ⟨f1, r1, k1⟩
    refine AW.run 2 [] (86, [(2, .inl 0), (0, .inr (.inr (5, 0, 0))), (1, .inl 1)], [], τ1) [] rfl ?_ ?_
    · exact trivial
    refine AW.pick [1, 2, 0] (ls' := [(0, .inr (.inr (5, 0, 0))), (1, .inl 1), (2, .inl (nI 0))]) rfl ?_
    have g17 : τ1 5 0 0 17 = nI st := by rw [fr_at f1 (by unfold Pw; omega), setM_at, if_neg (by omega)]; exact e17
    have g15 : τ1 5 0 0 15 = 0 := by rw [fr_at f1 (by unfold Pw; omega), setM_at, if_pos ⟨rfl, rfl⟩]
    have grd : RdK (τ1 5 0) F.2.1.2 F.2.1.1 st := RdK_mv (fun x hx => by rw [fr_at f1 (by unfold Pw; omega), setM_at, if_neg (by omega)]) (fun x hx => by rw [fr_at f1 (by unfold Pw; omega), setM_at, if_neg (by omega)]) (fun x hx => by rw [fr_at f1 (by unfold Pw; omega), setM_at, if_neg (by omega)]) hrd
    have hfr1 : Fr P12 σ τ1 := fr_trans (fr_set (fr_mono hS1 (fun j k q => by unfold P10 at q; unfold P12; omega)) (by unfold P12; omega)) (fr_mono f1 (fun j k q => by unfold Pw at q; unfold P12; omega))
    refine AW.loop (α := Sv) 86 st (fun k _ => [(0, .inr (.inr (5, 0, 0))), (1, .inl 1), (2, .inl (nI k))]) (fun k S υ => Fr P1 τ1 υ ∧ RepM (υ 5 0) S ∧ SOK S ∧ Sd S ≤ 999 ∧ exeN F.2.1.2 F.2.1.1 96 0 0 F.1 = exeN F.2.1.2 F.2.1.1 (96 - k) k (posN F.2.1.2 F.2.1.1 k) S) ?_ ?_ st 0 F.1 _ (by omega) ⟨fr_rfl, r1, hO, hF.1.2, rfl⟩
    · intro k S υ hks hI hkk
      obtain ⟨hS2, hR2, hO2, hd2, hx⟩ := hI
      have v17 : υ 5 0 0 17 = nI st := (fr_at hS2 (by unfold P1; omega)).trans g17
      obtain ⟨a1, a2, a3, a4, a5⟩ := RdK_mv (st := st) (m' := υ 5 0) (fun x hx => fr_at hS2 (by unfold P1; omega)) (fun x hx => fr_at hS2 (by unfold P1; omega)) (fun x hx => fr_at hS2 (by unfold P1; omega)) grd k hks
      have hpl := posN_lt a4 a5
      cases hc : cryN F.2.1.2 F.2.1.1 (posN F.2.1.2 F.2.1.1 k) S with
      | none =>
        refine AW.run 3 [] (91, [(0, .inr (.inr (5, 0, 0))), (1, .inl 1), (2, .inl (nI k))], [.inl (υ 5 0 0 17), .inl (nI k)], υ) [] rfl ?_ ?_
        · exact trivial
        rw [v17]
        refine AW.run 3 [false] (96, [(0, .inr (.inr (5, 0, 0))), (1, .inl 1), (2, .inl (nI k))], [.inl (nI k), .inr (.inr (5, 0, 0))], υ) [¬ icP .ge (nI k) (nI st)] rfl ?_ ?_
        · exact allP1 (nI_ge hks (by omega))
        refine AW.callVI (d' := 7) [.inl (nI k)] [] ⟨_, rfl⟩ f_6_comesTold v_6_comesTold l_6_138 ⟨rfl, by decide⟩ rfl (Nat.le_of_ble_eq_true rfl) rfl (Nat.le_of_ble_eq_true rfl) (c6_comesTold S υ hR2 hO2 hd2 F.2.1.2 F.2.1.1 k (posN F.2.1.2 F.2.1.1 k) _ (by omega) a1 a3 a4) ?_
        rintro v υ1 hp
        have hp : POMd υ υ1 (cryN F.2.1.2 F.2.1.1 (posN F.2.1.2 F.2.1.1 k) S) v := hp
        rw [hc] at hp
        obtain ⟨f2, hp⟩ := hp
        obtain rfl : v = 0 := hp
        have hK9 : RepK (υ1 5 0) 1 F.1 := repK_fr hn8 (fr_trans hS2 f2) (fun k _ _ q => by unfold P1 at q; omega) k1
        refine AW.run 4 [true] (108, [(0, .inr (.inr (5, 0, 0))), (1, .inl 1), (2, .inl (nI k))], [.inl 0, .inl 1, .inr (.inr (5, 0, 0))], υ1) [icP .eq (0 : Int32) 0] rfl ?_ ?_
        · exact allP1 (by decide : ((0 : Int32) = 0))
        refine AW.callVV (d' := 1) [.inl 1, .inl 0] [] ⟨_, rfl⟩ f_6_passesAll v_6_passesAll l_6_134 ⟨rfl, by decide⟩ rfl (Nat.le_of_ble_eq_true rfl) rfl (Nat.le_of_ble_eq_true rfl) (c6_passesAllP 1 (by decide) F.1 υ1 hK9 hn8) ?_
        rintro τ3 ⟨f3, r3⟩
        refine AW.run 5 [] (120, [(0, .inr (.inr (5, 0, 0))), (1, .inl 1), (2, .inl (nI k))], [.inl (τ3 5 0 14 (nI k).toNatClampNeg), .inl (-2000)], τ3) [vp_in (nI k) 48] rfl ?_ ?_
        · exact allP1 (by exact vp_in_nI (by omega) (by decide))
        rw [nI_clamp (n := k) (by omega), fr_at f3 (by unfold Pp; omega), fr_at f2 (by unfold P1; omega), a2]
        refine AW.run 1 [] (121, [(0, .inr (.inr (5, 0, 0))), (1, .inl 1), (2, .inl (nI k))], [.inl ((-2000) - (nI (posN F.2.1.2 F.2.1.1 k)))], τ3) [] rfl ?_ ?_
        · exact trivial
        refine AW.reti ⟨_, rfl⟩ rfl ?_
        exact ⟨_, cel_n (by rw [tel_e hbn, hx, exe_f (by omega) hpl hc]), RepD_tale hF (fr_trans hfr1 (fr_trans (fr_mono (fr_trans hS2 f2) (fun j k q => by unfold P1 at q; unfold P12; omega)) (fr_mono f3 (fun j k q => by unfold Pp at q; unfold P12; omega)))) hD r3 (by rw [fr_at f3 (by unfold Pp; omega), fr_at f2 (by unfold P1; omega), fr_at hS2 (by unfold P1; omega)]; exact g15)⟩
      | some S' =>
        obtain ⟨hO3, hd3⟩ := cry_ok hO2 hd2 a4 (ltN_le htp) hc
        refine AW.run 3 [] (91, [(0, .inr (.inr (5, 0, 0))), (1, .inl 1), (2, .inl (nI k))], [.inl (υ 5 0 0 17), .inl (nI k)], υ) [] rfl ?_ ?_
        · exact trivial
        rw [v17]
        refine AW.run 3 [false] (96, [(0, .inr (.inr (5, 0, 0))), (1, .inl 1), (2, .inl (nI k))], [.inl (nI k), .inr (.inr (5, 0, 0))], υ) [¬ icP .ge (nI k) (nI st)] rfl ?_ ?_
        · exact allP1 (nI_ge hks (by omega))
        refine AW.callVI (d' := 7) [.inl (nI k)] [] ⟨_, rfl⟩ f_6_comesTold v_6_comesTold l_6_138 ⟨rfl, by decide⟩ rfl (Nat.le_of_ble_eq_true rfl) rfl (Nat.le_of_ble_eq_true rfl) (c6_comesTold S υ hR2 hO2 hd2 F.2.1.2 F.2.1.1 k (posN F.2.1.2 F.2.1.1 k) _ (by omega) a1 a3 a4) ?_
        rintro v υ1 hp
        have hp : POMd υ υ1 (cryN F.2.1.2 F.2.1.1 (posN F.2.1.2 F.2.1.1 k) S) v := hp
        rw [hc] at hp
        obtain ⟨f2, hp⟩ := hp
        obtain ⟨rfl, r2⟩ : v = 1 ∧ RepM (υ1 5 0) S' := hp
        refine AW.run 4 [false] (86, [(2, .inl ((nI k) + 1)), (0, .inr (.inr (5, 0, 0))), (1, .inl 1)], [], υ1) [¬ icP .eq (1 : Int32) 0] rfl ?_ ?_
        · exact allP1 (by decide : ¬ ((1 : Int32) = 0))
        rw [nI_1 k]
        refine AW.pick [1, 2, 0] (ls' := [(0, .inr (.inr (5, 0, 0))), (1, .inl 1), (2, .inl (nI (k + 1)))]) rfl ?_
        exact hkk S' υ1 ⟨fr_trans hS2 f2, r2, hO3, hd3, by rw [hx, exe_s (by omega) hpl hc]⟩
    · intro S υ hI
      obtain ⟨hS2, hR2, hO2, hd2, hx⟩ := hI
      have v17 : υ 5 0 0 17 = nI st := (fr_at hS2 (by unfold P1; omega)).trans g17
      refine AW.run 3 [] (91, [(0, .inr (.inr (5, 0, 0))), (1, .inl 1), (2, .inl (nI st))], [.inl (υ 5 0 0 17), .inl (nI st)], υ) [] rfl ?_ ?_
      · exact trivial
      rw [v17]
      refine AW.run 6 [true] (137, [(0, .inr (.inr (5, 0, 0))), (1, .inl 1), (2, .inl (nI st))], [.inl ((setM υ 5 0 0 22 0) 5 0 0 17)], (setM υ 5 0 0 22 0)) [icP .ge (nI st) (nI st)] rfl ?_ ?_
      · exact allP1 (nI_le (Nat.le_refl _) (by omega))
      rw [show setM υ 5 0 0 22 0 5 0 0 17 = nI st from by rw [setM_at, if_neg (by omega)]; exact v17]
      refine AW.reti ⟨_, rfl⟩ rfl ?_
      exact ⟨_, cel_s (by rw [tel_e hbn, hx, exe_e (by omega) hlen]), RepD_tale2 hF (fr_set (fr_trans (fr_mono hfr1 (fun j k q => Or.inl q)) (fr_mono hS2 (fun j k q => by unfold P1 at q; unfold P13 P12; omega))) (by unfold P13; omega)) hD (repM_fr (P := fun j k => j = 0 ∧ k = 22) (fr_set fr_rfl ⟨rfl, rfl⟩) (fun j k q => by omega) hR2) (by rw [setM_at, if_neg (by omega), fr_at hS2 (by unfold P1; omega)]; exact g15) (by rw [setM_at, if_pos ⟨rfl, rfl⟩])⟩
