/-! A STATEMENT; WHAT COMES -/
theorem dg_n0 {l : Nat} (h : ¬ dgN l = 0) : l = 98 ∨ l = 112 ∨ l = 116 ∨ l = 117 ∨ l = 111 ∨ l = 100 := by
  unfold dgN at h
  split at h
  · rename_i q; exact Or.inl q
  · split at h
    · rename_i q; exact Or.inr (Or.inl q)
    · split at h
      · rename_i q; exact Or.inr (Or.inr (Or.inl q))
      · split at h
        · rename_i q; exact Or.inr (Or.inr (Or.inr (Or.inl q)))
        · split at h
          · rename_i q; exact Or.inr (Or.inr (Or.inr (Or.inr (Or.inl q))))
          · split at h
            · rename_i q; exact Or.inr (Or.inr (Or.inr (Or.inr (Or.inr q))))
            · exact absurd rfl h
theorem ln_0 {tp : Nat → Nat} {len r : Nat} (htp : ∀ i, tp i ≤ 255) (h : dgN (ltN tp len r) = 0) (c : Nat) (hc : 0 < c) (hc2 : c ≤ 255) (hd : ¬ dgN c = 0) : ¬ lnI tp len r = nI c := fun q => hd (by rw [(ln_is htp hc hc2).mp q] at h; exact h)
theorem st_yes {tp : Nat → Nat} {len r l d : Nat} (hl : ltN tp len r = l) (hd : dgN l = d) (h0 : ¬ d = 0) (hds : dsN tp len d (r + 1) = (true, r + (1 + d))) (h59 : ltN tp len (r + (1 + d)) = 59) : stN tp len r = (true, r + dgN (ltN tp len r) + 2) ∧ r + dgN (ltN tp len r) + 2 ≤ len := by
  have hlen : r + (1 + d) < len := by
    apply Classical.byContradiction
    intro q
    rw [(ln_ge q).2] at h59
    cases h59
  rw [hl, hd]
  refine ⟨?_, by omega⟩
  unfold stN
  rw [hl, hd, if_neg h0, hds]
  show (if ltN tp len (r + (1 + d)) = 59 then (true, r + (1 + d) + 1) else (false, r + (1 + d))) = _
  rw [if_pos h59, show r + (1 + d) + 1 = r + d + 2 by omega]
theorem st_no1 {tp : Nat → Nat} {len r l d : Nat} (hl : ltN tp len r = l) (hd : dgN l = d) (h0 : ¬ d = 0) (hds : dsN tp len d (r + 1) = (true, r + (1 + d))) (h59 : ¬ ltN tp len (r + (1 + d)) = 59) : stN tp len r = (false, r + (1 + d)) := by
  unfold stN
  rw [hl, hd, if_neg h0, hds]
  show (if ltN tp len (r + (1 + d)) = 59 then (true, r + (1 + d) + 1) else (false, r + (1 + d))) = _
  rw [if_neg h59]
theorem st_no2 {tp : Nat → Nat} {len r l d q : Nat} (hl : ltN tp len r = l) (hd : dgN l = d) (h0 : ¬ d = 0) (hds : dsN tp len d (r + 1) = (false, q)) : stN tp len r = (false, q) := by
  unfold stN
  rw [hl, hd, if_neg h0, hds]
theorem ToldD_mv {m m' : Nat → Nat → Int32} {p : Nat} {tp : Nat → Nat} {len r l : Nat} (h : ∀ k, p ≤ k → k < p + 3 → m' 15 k = m 15 k) (hT : ToldD m p tp len r l) : ToldD m' p tp len r l := by
  unfold ToldD at hT ⊢
  rw [h p (by omega) (by omega), h (p + 1) (by omega) (by omega), h (p + 2) (by omega) (by omega)]
  exact hT

set_option maxHeartbeats 4000000 in
set_option maxRecDepth 100000 in
theorem c6_statement (tp : Nat → Nat) (len : Nat) (hl : len ≤ 96) (htp : ∀ i, tp i ≤ 255) (σ : St) (hT : TapeD σ tp len) (r : Nat) (hr : r ≤ 700) (e16 : σ 5 0 0 16 = nI r) (st : Nat) (hst : st ≤ 40) (e17 : σ 5 0 0 17 = nI st) : Ct M6_statement 5 [.inr (.inr (5, 0, 0))] σ (PI fun v σ' => Fr (P9 st) σ σ' ∧ ((v = 1 ∧ (stN tp len r = (true, r + dgN (ltN tp len r) + 2) ∧ r + dgN (ltN tp len r) + 2 ≤ len) ∧ σ' 5 0 0 16 = nI (r + dgN (ltN tp len r) + 2) ∧ σ' 5 0 13 st = nI (ltN tp len r) ∧ σ' 5 0 14 st = nI r ∧ ToldD (σ' 5 0) (3 * st) tp len r (ltN tp len r)) ∨ (v = 0 ∧ ∃ q, stN tp len r = (false, q) ∧ σ' 5 0 0 16 = nI q))) := by
  refine Ct.of f_6_statement (Nat.le_of_ble_eq_true rfl) ?_
  show AW M6_statement 5 _ (0, [(0, .inr (.inr (5, 0, 0)))], [], σ)
  by_cases h0 : dgN (ltN tp len r) = 0
  · skip
    refine AW.run 1 [] (1, [(0, .inr (.inr (5, 0, 0)))], [.inr (.inr (5, 0, 0))], σ) [] rfl ?_ ?_
    · exact trivial
    refine AW.callVI (d' := 0) [] [] ⟨_, rfl⟩ f_6_letterNow v_6_letterNow l_6_76 ⟨rfl, by decide⟩ rfl (Nat.le_of_ble_eq_true rfl) rfl (Nat.le_of_ble_eq_true rfl) (c6_letterNow tp len hl htp σ hT r (by omega) e16) ?_
    rintro _ _ ⟨rfl, rfl⟩
    refine AW.run 20 [false, false, false, false, false, false] (42, [(1, .inl (lnI tp len r)), (0, .inr (.inr (5, 0, 0)))], [.inl 0], σ) [¬ icP .eq (lnI tp len r) 98, ¬ icP .eq (lnI tp len r) 112, ¬ icP .eq (lnI tp len r) 116, ¬ icP .eq (lnI tp len r) 117, ¬ icP .eq (lnI tp len r) 111, ¬ icP .eq (lnI tp len r) 100] rfl ?_ ?_
    · exact ⟨(ln_0 htp h0 98 (by decide) (by decide) (by decide)), (ln_0 htp h0 112 (by decide) (by decide) (by decide)), (ln_0 htp h0 116 (by decide) (by decide) (by decide)), (ln_0 htp h0 117 (by decide) (by decide) (by decide)), (ln_0 htp h0 111 (by decide) (by decide) (by decide)), allP1 (ln_0 htp h0 100 (by decide) (by decide) (by decide))⟩
    refine AW.retz ⟨_, rfl⟩ rfl (by decide) ?_
    exact ⟨fr_rfl, Or.inr ⟨rfl, r, if_pos h0, e16⟩⟩
  · rcases dg_n0 h0 with h | h | h | h | h | h
    · have hln : lnI tp len r = (98 : Int32) := (ln_is (c := 98) htp (by decide) (by decide)).mpr h
      refine AW.run 1 [] (1, [(0, .inr (.inr (5, 0, 0)))], [.inr (.inr (5, 0, 0))], σ) [] rfl ?_ ?_
      · exact trivial
      refine AW.callVI (d' := 0) [] [] ⟨_, rfl⟩ f_6_letterNow v_6_letterNow l_6_76 ⟨rfl, by decide⟩ rfl (Nat.le_of_ble_eq_true rfl) rfl (Nat.le_of_ble_eq_true rfl) (c6_letterNow tp len hl htp σ hT r (by omega) e16) ?_
      rintro _ _ ⟨rfl, rfl⟩
      rw [hln]
      refine AW.run 8 [true] (51, [(1, .inl 98), (0, .inr (.inr (5, 0, 0)))], [.inl (σ 5 0 0 17), .inr (.inr (5, 0, 13))], σ) [icP .eq (98 : Int32) 98] rfl ?_ ?_
      · exact allP1 (by decide : ((98 : Int32) = 98))
      rw [e17]
      refine AW.run 6 [] (61, [(1, .inl 98), (0, .inr (.inr (5, 0, 0)))], [.inl ((setM σ 5 0 13 (nI st).toNatClampNeg 98) 5 0 0 17), .inr (.inr (5, 0, 14))], (setM σ 5 0 13 (nI st).toNatClampNeg 98)) [vp_in (nI st) 48] rfl ?_ ?_
      · exact allP1 (by exact vp_in_nI (by omega) (by decide))
      rw [show (setM σ 5 0 13 (nI st).toNatClampNeg 98) 5 0 0 17 = nI st from by rw [setM_at, if_neg (by omega)]; exact e17]
      refine AW.run 2 [] (65, [(1, .inl 98), (0, .inr (.inr (5, 0, 0)))], [.inl ((setM σ 5 0 13 (nI st).toNatClampNeg 98) 5 0 0 16), .inl (nI st), .inr (.inr (5, 0, 14))], (setM σ 5 0 13 (nI st).toNatClampNeg 98)) [] rfl ?_ ?_
      · exact trivial
      rw [show (setM σ 5 0 13 (nI st).toNatClampNeg 98) 5 0 0 16 = nI r from by rw [setM_at, if_neg (by omega)]; exact e16]
      refine AW.run 4 [] (71, [(1, .inl 98), (0, .inr (.inr (5, 0, 0)))], [.inl ((setM (setM σ 5 0 13 (nI st).toNatClampNeg 98) 5 0 14 (nI st).toNatClampNeg (nI r)) 5 0 0 16), .inr (.inr (5, 0, 0))], (setM (setM σ 5 0 13 (nI st).toNatClampNeg 98) 5 0 14 (nI st).toNatClampNeg (nI r))) [vp_in (nI st) 48] rfl ?_ ?_
      · exact allP1 (by exact vp_in_nI (by omega) (by decide))
      rw [show (setM (setM σ 5 0 13 (nI st).toNatClampNeg 98) 5 0 14 (nI st).toNatClampNeg (nI r)) 5 0 0 16 = nI r from by rw [setM_at, if_neg (by omega), setM_at, if_neg (by omega)]; exact e16]
      refine AW.run 2 [] (73, [(1, .inl 98), (0, .inr (.inr (5, 0, 0)))], [.inl ((nI r) + 1), .inr (.inr (5, 0, 0))], (setM (setM σ 5 0 13 (nI st).toNatClampNeg 98) 5 0 14 (nI st).toNatClampNeg (nI r))) [] rfl ?_ ?_
      · exact trivial
      rw [nI_1]
      refine AW.run 1 [] (76, [(1, .inl 98), (0, .inr (.inr (5, 0, 0)))], [], (setM (setM (setM σ 5 0 13 (nI st).toNatClampNeg 98) 5 0 14 (nI st).toNatClampNeg (nI r)) 5 0 0 16 (nI (r + 1)))) [] rfl ?_ ?_
      · exact trivial
      rw [nI_clamp (n := st) (by omega)]
      obtain ⟨υ1, eυ1⟩ : ∃ x, x = (setM (setM (setM σ 5 0 13 st 98) 5 0 14 st (nI r)) 5 0 0 16 (nI (r + 1))) := ⟨_, rfl⟩
      rw [← eυ1]
      have qυ1 : υ1 5 0 0 16 = nI (r + 1) := by rw [eυ1]; rw [setM_at, if_pos ⟨rfl, rfl⟩]
      have tυ1 : TapeD υ1 tp len := TapeD_mv hT (by rw [eυ1, setM_at, if_neg (by omega), setM_at, if_neg (by omega), setM_at, if_neg (by omega)]) (fun i => by rw [eυ1, setM_at, if_neg (by omega), setM_at, if_neg (by omega), setM_at, if_neg (by omega)])
      have gυ1 : Fr (P9 st) σ υ1 := by rw [eυ1]; exact (fr_set (fr_set (fr_set fr_rfl (by unfold P9; omega)) (by unfold P9; omega)) (by unfold P9; omega))
      have eυ117 : υ1 5 0 0 17 = nI st := by rw [eυ1, setM_at, if_neg (by omega), setM_at, if_neg (by omega), setM_at, if_neg (by omega)]; exact e17
      have lυ1 : υ1 5 0 13 st = nI 98 := by rw [eυ1, setM_at, if_neg (by omega), setM_at, if_neg (by omega), setM_at, if_pos ⟨rfl, rfl⟩]; rfl
      have aυ1 : υ1 5 0 14 st = nI r := by rw [eυ1, setM_at, if_neg (by omega), setM_at, if_pos ⟨rfl, rfl⟩]
      refine AW.run 5 [] (83, [(1, .inl 98), (0, .inr (.inr (5, 0, 0)))], [.inl (υ1 5 0 0 17), .inl 3, .inl 98, .inr (.inr (5, 0, 0))], υ1) [] rfl ?_ ?_
      · exact trivial
      rw [eυ117]
      refine AW.run 1 [] (84, [(1, .inl 98), (0, .inr (.inr (5, 0, 0)))], [.inl (3 * (nI st)), .inl 98, .inr (.inr (5, 0, 0))], υ1) [] rfl ?_ ?_
      · exact trivial
      rw [show (3 : Int32) * nI st = nI (3 * st) from (Int32.ofNat_mul 3 st).symm]
      refine AW.callVI (d' := 4) [.inl 98, .inl (nI (3 * st))] [] ⟨_, rfl⟩ f_6_readsAll v_6_readsAll l_6_91 ⟨rfl, by decide⟩ rfl (Nat.le_of_ble_eq_true rfl) rfl (Nat.le_of_ble_eq_true rfl) (c6_ra98 tp len hl htp υ1 tυ1 r (by omega) qυ1 (3 * st) (by omega)) ?_
      rintro v9 τ9 ⟨f0, hv⟩
      have hT9 : TapeD τ9 tp len := TapeD_mv tυ1 (fr_at f0 (by unfold P8; omega)) (fun i => fr_at f0 (by unfold P8; omega))
      have l9 : τ9 5 0 13 st = nI 98 := (fr_at f0 (by unfold P8; omega)).trans lυ1
      have a9 : τ9 5 0 14 st = nI r := (fr_at f0 (by unfold P8; omega)).trans aυ1
      rcases hv with ⟨rfl, hds, r0, hto⟩ | ⟨rfl, q9, hds, r9⟩
      · skip
        refine AW.run 2 [false] (91, [(1, .inl 98), (0, .inr (.inr (5, 0, 0)))], [.inr (.inr (5, 0, 0))], τ9) [¬ icP .eq (1 : Int32) 0] rfl ?_ ?_
        · exact allP1 (by decide : ¬ ((1 : Int32) = 0))
        refine AW.callVI (d' := 0) [] [] ⟨_, rfl⟩ f_6_letterNow v_6_letterNow l_6_76 ⟨rfl, by decide⟩ rfl (Nat.le_of_ble_eq_true rfl) rfl (Nat.le_of_ble_eq_true rfl) (c6_letterNow tp len hl htp τ9 hT9 (r + 5) (by omega) r0) ?_
        rintro _ _ ⟨rfl, rfl⟩
        by_cases h59 : ltN tp len (r + 5) = 59
        · skip
          refine AW.run 5 [true] (106, [(1, .inl 98), (0, .inr (.inr (5, 0, 0)))], [.inl (τ9 5 0 0 16), .inr (.inr (5, 0, 0))], τ9) [icP .eq (lnI tp len (r + 5)) 59] rfl ?_ ?_
          · exact allP1 ((ln_is (c := 59) htp (by decide) (by decide)).mpr h59)
          rw [r0]
          refine AW.run 2 [] (108, [(1, .inl 98), (0, .inr (.inr (5, 0, 0)))], [.inl ((nI (r + 5)) + 1), .inr (.inr (5, 0, 0))], τ9) [] rfl ?_ ?_
          · exact trivial
          rw [nI_1]
          refine AW.run 2 [] (112, [(1, .inl 98), (0, .inr (.inr (5, 0, 0)))], [.inl 1], (setM τ9 5 0 0 16 (nI (r + 5 + 1)))) [] rfl ?_ ?_
          · exact trivial
          refine AW.retz ⟨_, rfl⟩ rfl (by decide) ?_
          obtain ⟨hs1, hs2⟩ := st_yes h (show dgN 98 = 4 from rfl) (by decide) hds h59
          have hdn : dgN (ltN tp len r) = 4 := by rw [h]; rfl
          exact ⟨fr_set (fr_trans gυ1 (fr_mono f0 (fun j k q => by unfold P8 at q; unfold P9; omega))) (by unfold P9; omega), Or.inl ⟨rfl, ⟨hs1, hs2⟩, by rw [setM_at, if_pos ⟨rfl, rfl⟩, hdn], by rw [setM_at, if_neg (by omega), h]; exact l9, by rw [setM_at, if_neg (by omega)]; exact a9, by rw [h]; exact ToldD_mv (fun k _ _ => by rw [setM_at, if_neg (by omega)]) hto⟩⟩
        · skip
          refine AW.run 3 [false] (100, [(1, .inl 98), (0, .inr (.inr (5, 0, 0)))], [.inl 0], τ9) [¬ icP .eq (lnI tp len (r + 5)) 59] rfl ?_ ?_
          · exact allP1 (fun q => h59 ((ln_is (c := 59) htp (by decide) (by decide)).mp q))
          refine AW.retz ⟨_, rfl⟩ rfl (by decide) ?_
          first | exact ⟨(fr_trans gυ1 (fr_mono f0 (fun j k q => by unfold P8 at q; unfold P9; omega))), Or.inr ⟨rfl, _, st_no1 h (show dgN 98 = 4 from rfl) (by decide) hds h59, r0⟩⟩ | exact ⟨(fr_trans gυ1 (fr_mono f0 (fun j k q => by unfold P8 at q; unfold P9; omega))), Or.inr ⟨rfl, _, st_no2 h (show dgN 98 = 4 from rfl) (by decide) hds, r9⟩⟩
      · skip
        refine AW.run 2 [true] (100, [(1, .inl 98), (0, .inr (.inr (5, 0, 0)))], [.inl 0], τ9) [icP .eq (0 : Int32) 0] rfl ?_ ?_
        · exact allP1 (by decide : ((0 : Int32) = 0))
        refine AW.retz ⟨_, rfl⟩ rfl (by decide) ?_
        first | exact ⟨(fr_trans gυ1 (fr_mono f0 (fun j k q => by unfold P8 at q; unfold P9; omega))), Or.inr ⟨rfl, _, st_no1 h (show dgN 98 = 4 from rfl) (by decide) hds h59, r0⟩⟩ | exact ⟨(fr_trans gυ1 (fr_mono f0 (fun j k q => by unfold P8 at q; unfold P9; omega))), Or.inr ⟨rfl, _, st_no2 h (show dgN 98 = 4 from rfl) (by decide) hds, r9⟩⟩
    · have hln : lnI tp len r = (112 : Int32) := (ln_is (c := 112) htp (by decide) (by decide)).mpr h
      refine AW.run 1 [] (1, [(0, .inr (.inr (5, 0, 0)))], [.inr (.inr (5, 0, 0))], σ) [] rfl ?_ ?_
      · exact trivial
      refine AW.callVI (d' := 0) [] [] ⟨_, rfl⟩ f_6_letterNow v_6_letterNow l_6_76 ⟨rfl, by decide⟩ rfl (Nat.le_of_ble_eq_true rfl) rfl (Nat.le_of_ble_eq_true rfl) (c6_letterNow tp len hl htp σ hT r (by omega) e16) ?_
      rintro _ _ ⟨rfl, rfl⟩
      rw [hln]
      refine AW.run 11 [false, true] (51, [(1, .inl 112), (0, .inr (.inr (5, 0, 0)))], [.inl (σ 5 0 0 17), .inr (.inr (5, 0, 13))], σ) [¬ icP .eq (112 : Int32) 98, icP .eq (112 : Int32) 112] rfl ?_ ?_
      · exact ⟨(by decide : ¬ ((112 : Int32) = 98)), allP1 (by decide : ((112 : Int32) = 112))⟩
      rw [e17]
      refine AW.run 6 [] (61, [(1, .inl 112), (0, .inr (.inr (5, 0, 0)))], [.inl ((setM σ 5 0 13 (nI st).toNatClampNeg 112) 5 0 0 17), .inr (.inr (5, 0, 14))], (setM σ 5 0 13 (nI st).toNatClampNeg 112)) [vp_in (nI st) 48] rfl ?_ ?_
      · exact allP1 (by exact vp_in_nI (by omega) (by decide))
      rw [show (setM σ 5 0 13 (nI st).toNatClampNeg 112) 5 0 0 17 = nI st from by rw [setM_at, if_neg (by omega)]; exact e17]
      refine AW.run 2 [] (65, [(1, .inl 112), (0, .inr (.inr (5, 0, 0)))], [.inl ((setM σ 5 0 13 (nI st).toNatClampNeg 112) 5 0 0 16), .inl (nI st), .inr (.inr (5, 0, 14))], (setM σ 5 0 13 (nI st).toNatClampNeg 112)) [] rfl ?_ ?_
      · exact trivial
      rw [show (setM σ 5 0 13 (nI st).toNatClampNeg 112) 5 0 0 16 = nI r from by rw [setM_at, if_neg (by omega)]; exact e16]
      refine AW.run 4 [] (71, [(1, .inl 112), (0, .inr (.inr (5, 0, 0)))], [.inl ((setM (setM σ 5 0 13 (nI st).toNatClampNeg 112) 5 0 14 (nI st).toNatClampNeg (nI r)) 5 0 0 16), .inr (.inr (5, 0, 0))], (setM (setM σ 5 0 13 (nI st).toNatClampNeg 112) 5 0 14 (nI st).toNatClampNeg (nI r))) [vp_in (nI st) 48] rfl ?_ ?_
      · exact allP1 (by exact vp_in_nI (by omega) (by decide))
      rw [show (setM (setM σ 5 0 13 (nI st).toNatClampNeg 112) 5 0 14 (nI st).toNatClampNeg (nI r)) 5 0 0 16 = nI r from by rw [setM_at, if_neg (by omega), setM_at, if_neg (by omega)]; exact e16]
      refine AW.run 2 [] (73, [(1, .inl 112), (0, .inr (.inr (5, 0, 0)))], [.inl ((nI r) + 1), .inr (.inr (5, 0, 0))], (setM (setM σ 5 0 13 (nI st).toNatClampNeg 112) 5 0 14 (nI st).toNatClampNeg (nI r))) [] rfl ?_ ?_
      · exact trivial
      rw [nI_1]
      refine AW.run 1 [] (76, [(1, .inl 112), (0, .inr (.inr (5, 0, 0)))], [], (setM (setM (setM σ 5 0 13 (nI st).toNatClampNeg 112) 5 0 14 (nI st).toNatClampNeg (nI r)) 5 0 0 16 (nI (r + 1)))) [] rfl ?_ ?_
      · exact trivial
      rw [nI_clamp (n := st) (by omega)]
      obtain ⟨υ1, eυ1⟩ : ∃ x, x = (setM (setM (setM σ 5 0 13 st 112) 5 0 14 st (nI r)) 5 0 0 16 (nI (r + 1))) := ⟨_, rfl⟩
      rw [← eυ1]
      have qυ1 : υ1 5 0 0 16 = nI (r + 1) := by rw [eυ1]; rw [setM_at, if_pos ⟨rfl, rfl⟩]
      have tυ1 : TapeD υ1 tp len := TapeD_mv hT (by rw [eυ1, setM_at, if_neg (by omega), setM_at, if_neg (by omega), setM_at, if_neg (by omega)]) (fun i => by rw [eυ1, setM_at, if_neg (by omega), setM_at, if_neg (by omega), setM_at, if_neg (by omega)])
      have gυ1 : Fr (P9 st) σ υ1 := by rw [eυ1]; exact (fr_set (fr_set (fr_set fr_rfl (by unfold P9; omega)) (by unfold P9; omega)) (by unfold P9; omega))
      have eυ117 : υ1 5 0 0 17 = nI st := by rw [eυ1, setM_at, if_neg (by omega), setM_at, if_neg (by omega), setM_at, if_neg (by omega)]; exact e17
      have lυ1 : υ1 5 0 13 st = nI 112 := by rw [eυ1, setM_at, if_neg (by omega), setM_at, if_neg (by omega), setM_at, if_pos ⟨rfl, rfl⟩]; rfl
      have aυ1 : υ1 5 0 14 st = nI r := by rw [eυ1, setM_at, if_neg (by omega), setM_at, if_pos ⟨rfl, rfl⟩]
      refine AW.run 5 [] (83, [(1, .inl 112), (0, .inr (.inr (5, 0, 0)))], [.inl (υ1 5 0 0 17), .inl 3, .inl 112, .inr (.inr (5, 0, 0))], υ1) [] rfl ?_ ?_
      · exact trivial
      rw [eυ117]
      refine AW.run 1 [] (84, [(1, .inl 112), (0, .inr (.inr (5, 0, 0)))], [.inl (3 * (nI st)), .inl 112, .inr (.inr (5, 0, 0))], υ1) [] rfl ?_ ?_
      · exact trivial
      rw [show (3 : Int32) * nI st = nI (3 * st) from (Int32.ofNat_mul 3 st).symm]
      refine AW.callVI (d' := 4) [.inl 112, .inl (nI (3 * st))] [] ⟨_, rfl⟩ f_6_readsAll v_6_readsAll l_6_91 ⟨rfl, by decide⟩ rfl (Nat.le_of_ble_eq_true rfl) rfl (Nat.le_of_ble_eq_true rfl) (c6_ra112 tp len hl htp υ1 tυ1 r (by omega) qυ1 (3 * st) (by omega)) ?_
      rintro v9 τ9 ⟨f0, hv⟩
      have hT9 : TapeD τ9 tp len := TapeD_mv tυ1 (fr_at f0 (by unfold P8; omega)) (fun i => fr_at f0 (by unfold P8; omega))
      have l9 : τ9 5 0 13 st = nI 112 := (fr_at f0 (by unfold P8; omega)).trans lυ1
      have a9 : τ9 5 0 14 st = nI r := (fr_at f0 (by unfold P8; omega)).trans aυ1
      rcases hv with ⟨rfl, hds, r0, hto⟩ | ⟨rfl, q9, hds, r9⟩
      · skip
        refine AW.run 2 [false] (91, [(1, .inl 112), (0, .inr (.inr (5, 0, 0)))], [.inr (.inr (5, 0, 0))], τ9) [¬ icP .eq (1 : Int32) 0] rfl ?_ ?_
        · exact allP1 (by decide : ¬ ((1 : Int32) = 0))
        refine AW.callVI (d' := 0) [] [] ⟨_, rfl⟩ f_6_letterNow v_6_letterNow l_6_76 ⟨rfl, by decide⟩ rfl (Nat.le_of_ble_eq_true rfl) rfl (Nat.le_of_ble_eq_true rfl) (c6_letterNow tp len hl htp τ9 hT9 (r + 4) (by omega) r0) ?_
        rintro _ _ ⟨rfl, rfl⟩
        by_cases h59 : ltN tp len (r + 4) = 59
        · skip
          refine AW.run 5 [true] (106, [(1, .inl 112), (0, .inr (.inr (5, 0, 0)))], [.inl (τ9 5 0 0 16), .inr (.inr (5, 0, 0))], τ9) [icP .eq (lnI tp len (r + 4)) 59] rfl ?_ ?_
          · exact allP1 ((ln_is (c := 59) htp (by decide) (by decide)).mpr h59)
          rw [r0]
          refine AW.run 2 [] (108, [(1, .inl 112), (0, .inr (.inr (5, 0, 0)))], [.inl ((nI (r + 4)) + 1), .inr (.inr (5, 0, 0))], τ9) [] rfl ?_ ?_
          · exact trivial
          rw [nI_1]
          refine AW.run 2 [] (112, [(1, .inl 112), (0, .inr (.inr (5, 0, 0)))], [.inl 1], (setM τ9 5 0 0 16 (nI (r + 4 + 1)))) [] rfl ?_ ?_
          · exact trivial
          refine AW.retz ⟨_, rfl⟩ rfl (by decide) ?_
          obtain ⟨hs1, hs2⟩ := st_yes h (show dgN 112 = 3 from rfl) (by decide) hds h59
          have hdn : dgN (ltN tp len r) = 3 := by rw [h]; rfl
          exact ⟨fr_set (fr_trans gυ1 (fr_mono f0 (fun j k q => by unfold P8 at q; unfold P9; omega))) (by unfold P9; omega), Or.inl ⟨rfl, ⟨hs1, hs2⟩, by rw [setM_at, if_pos ⟨rfl, rfl⟩, hdn], by rw [setM_at, if_neg (by omega), h]; exact l9, by rw [setM_at, if_neg (by omega)]; exact a9, by rw [h]; exact ToldD_mv (fun k _ _ => by rw [setM_at, if_neg (by omega)]) hto⟩⟩
        · skip
          refine AW.run 3 [false] (100, [(1, .inl 112), (0, .inr (.inr (5, 0, 0)))], [.inl 0], τ9) [¬ icP .eq (lnI tp len (r + 4)) 59] rfl ?_ ?_
          · exact allP1 (fun q => h59 ((ln_is (c := 59) htp (by decide) (by decide)).mp q))
          refine AW.retz ⟨_, rfl⟩ rfl (by decide) ?_
          first | exact ⟨(fr_trans gυ1 (fr_mono f0 (fun j k q => by unfold P8 at q; unfold P9; omega))), Or.inr ⟨rfl, _, st_no1 h (show dgN 112 = 3 from rfl) (by decide) hds h59, r0⟩⟩ | exact ⟨(fr_trans gυ1 (fr_mono f0 (fun j k q => by unfold P8 at q; unfold P9; omega))), Or.inr ⟨rfl, _, st_no2 h (show dgN 112 = 3 from rfl) (by decide) hds, r9⟩⟩
      · skip
        refine AW.run 2 [true] (100, [(1, .inl 112), (0, .inr (.inr (5, 0, 0)))], [.inl 0], τ9) [icP .eq (0 : Int32) 0] rfl ?_ ?_
        · exact allP1 (by decide : ((0 : Int32) = 0))
        refine AW.retz ⟨_, rfl⟩ rfl (by decide) ?_
        first | exact ⟨(fr_trans gυ1 (fr_mono f0 (fun j k q => by unfold P8 at q; unfold P9; omega))), Or.inr ⟨rfl, _, st_no1 h (show dgN 112 = 3 from rfl) (by decide) hds h59, r0⟩⟩ | exact ⟨(fr_trans gυ1 (fr_mono f0 (fun j k q => by unfold P8 at q; unfold P9; omega))), Or.inr ⟨rfl, _, st_no2 h (show dgN 112 = 3 from rfl) (by decide) hds, r9⟩⟩
    · have hln : lnI tp len r = (116 : Int32) := (ln_is (c := 116) htp (by decide) (by decide)).mpr h
      refine AW.run 1 [] (1, [(0, .inr (.inr (5, 0, 0)))], [.inr (.inr (5, 0, 0))], σ) [] rfl ?_ ?_
      · exact trivial
      refine AW.callVI (d' := 0) [] [] ⟨_, rfl⟩ f_6_letterNow v_6_letterNow l_6_76 ⟨rfl, by decide⟩ rfl (Nat.le_of_ble_eq_true rfl) rfl (Nat.le_of_ble_eq_true rfl) (c6_letterNow tp len hl htp σ hT r (by omega) e16) ?_
      rintro _ _ ⟨rfl, rfl⟩
      rw [hln]
      refine AW.run 14 [false, false, true] (51, [(1, .inl 116), (0, .inr (.inr (5, 0, 0)))], [.inl (σ 5 0 0 17), .inr (.inr (5, 0, 13))], σ) [¬ icP .eq (116 : Int32) 98, ¬ icP .eq (116 : Int32) 112, icP .eq (116 : Int32) 116] rfl ?_ ?_
      · exact ⟨(by decide : ¬ ((116 : Int32) = 98)), (by decide : ¬ ((116 : Int32) = 112)), allP1 (by decide : ((116 : Int32) = 116))⟩
      rw [e17]
      refine AW.run 6 [] (61, [(1, .inl 116), (0, .inr (.inr (5, 0, 0)))], [.inl ((setM σ 5 0 13 (nI st).toNatClampNeg 116) 5 0 0 17), .inr (.inr (5, 0, 14))], (setM σ 5 0 13 (nI st).toNatClampNeg 116)) [vp_in (nI st) 48] rfl ?_ ?_
      · exact allP1 (by exact vp_in_nI (by omega) (by decide))
      rw [show (setM σ 5 0 13 (nI st).toNatClampNeg 116) 5 0 0 17 = nI st from by rw [setM_at, if_neg (by omega)]; exact e17]
      refine AW.run 2 [] (65, [(1, .inl 116), (0, .inr (.inr (5, 0, 0)))], [.inl ((setM σ 5 0 13 (nI st).toNatClampNeg 116) 5 0 0 16), .inl (nI st), .inr (.inr (5, 0, 14))], (setM σ 5 0 13 (nI st).toNatClampNeg 116)) [] rfl ?_ ?_
      · exact trivial
      rw [show (setM σ 5 0 13 (nI st).toNatClampNeg 116) 5 0 0 16 = nI r from by rw [setM_at, if_neg (by omega)]; exact e16]
      refine AW.run 4 [] (71, [(1, .inl 116), (0, .inr (.inr (5, 0, 0)))], [.inl ((setM (setM σ 5 0 13 (nI st).toNatClampNeg 116) 5 0 14 (nI st).toNatClampNeg (nI r)) 5 0 0 16), .inr (.inr (5, 0, 0))], (setM (setM σ 5 0 13 (nI st).toNatClampNeg 116) 5 0 14 (nI st).toNatClampNeg (nI r))) [vp_in (nI st) 48] rfl ?_ ?_
      · exact allP1 (by exact vp_in_nI (by omega) (by decide))
      rw [show (setM (setM σ 5 0 13 (nI st).toNatClampNeg 116) 5 0 14 (nI st).toNatClampNeg (nI r)) 5 0 0 16 = nI r from by rw [setM_at, if_neg (by omega), setM_at, if_neg (by omega)]; exact e16]
      refine AW.run 2 [] (73, [(1, .inl 116), (0, .inr (.inr (5, 0, 0)))], [.inl ((nI r) + 1), .inr (.inr (5, 0, 0))], (setM (setM σ 5 0 13 (nI st).toNatClampNeg 116) 5 0 14 (nI st).toNatClampNeg (nI r))) [] rfl ?_ ?_
      · exact trivial
      rw [nI_1]
      refine AW.run 1 [] (76, [(1, .inl 116), (0, .inr (.inr (5, 0, 0)))], [], (setM (setM (setM σ 5 0 13 (nI st).toNatClampNeg 116) 5 0 14 (nI st).toNatClampNeg (nI r)) 5 0 0 16 (nI (r + 1)))) [] rfl ?_ ?_
      · exact trivial
      rw [nI_clamp (n := st) (by omega)]
      obtain ⟨υ1, eυ1⟩ : ∃ x, x = (setM (setM (setM σ 5 0 13 st 116) 5 0 14 st (nI r)) 5 0 0 16 (nI (r + 1))) := ⟨_, rfl⟩
      rw [← eυ1]
      have qυ1 : υ1 5 0 0 16 = nI (r + 1) := by rw [eυ1]; rw [setM_at, if_pos ⟨rfl, rfl⟩]
      have tυ1 : TapeD υ1 tp len := TapeD_mv hT (by rw [eυ1, setM_at, if_neg (by omega), setM_at, if_neg (by omega), setM_at, if_neg (by omega)]) (fun i => by rw [eυ1, setM_at, if_neg (by omega), setM_at, if_neg (by omega), setM_at, if_neg (by omega)])
      have gυ1 : Fr (P9 st) σ υ1 := by rw [eυ1]; exact (fr_set (fr_set (fr_set fr_rfl (by unfold P9; omega)) (by unfold P9; omega)) (by unfold P9; omega))
      have eυ117 : υ1 5 0 0 17 = nI st := by rw [eυ1, setM_at, if_neg (by omega), setM_at, if_neg (by omega), setM_at, if_neg (by omega)]; exact e17
      have lυ1 : υ1 5 0 13 st = nI 116 := by rw [eυ1, setM_at, if_neg (by omega), setM_at, if_neg (by omega), setM_at, if_pos ⟨rfl, rfl⟩]; rfl
      have aυ1 : υ1 5 0 14 st = nI r := by rw [eυ1, setM_at, if_neg (by omega), setM_at, if_pos ⟨rfl, rfl⟩]
      refine AW.run 5 [] (83, [(1, .inl 116), (0, .inr (.inr (5, 0, 0)))], [.inl (υ1 5 0 0 17), .inl 3, .inl 116, .inr (.inr (5, 0, 0))], υ1) [] rfl ?_ ?_
      · exact trivial
      rw [eυ117]
      refine AW.run 1 [] (84, [(1, .inl 116), (0, .inr (.inr (5, 0, 0)))], [.inl (3 * (nI st)), .inl 116, .inr (.inr (5, 0, 0))], υ1) [] rfl ?_ ?_
      · exact trivial
      rw [show (3 : Int32) * nI st = nI (3 * st) from (Int32.ofNat_mul 3 st).symm]
      refine AW.callVI (d' := 4) [.inl 116, .inl (nI (3 * st))] [] ⟨_, rfl⟩ f_6_readsAll v_6_readsAll l_6_91 ⟨rfl, by decide⟩ rfl (Nat.le_of_ble_eq_true rfl) rfl (Nat.le_of_ble_eq_true rfl) (c6_ra116 tp len hl htp υ1 tυ1 r (by omega) qυ1 (3 * st) (by omega)) ?_
      rintro v9 τ9 ⟨f0, hv⟩
      have hT9 : TapeD τ9 tp len := TapeD_mv tυ1 (fr_at f0 (by unfold P8; omega)) (fun i => fr_at f0 (by unfold P8; omega))
      have l9 : τ9 5 0 13 st = nI 116 := (fr_at f0 (by unfold P8; omega)).trans lυ1
      have a9 : τ9 5 0 14 st = nI r := (fr_at f0 (by unfold P8; omega)).trans aυ1
      rcases hv with ⟨rfl, hds, r0, hto⟩ | ⟨rfl, q9, hds, r9⟩
      · skip
        refine AW.run 2 [false] (91, [(1, .inl 116), (0, .inr (.inr (5, 0, 0)))], [.inr (.inr (5, 0, 0))], τ9) [¬ icP .eq (1 : Int32) 0] rfl ?_ ?_
        · exact allP1 (by decide : ¬ ((1 : Int32) = 0))
        refine AW.callVI (d' := 0) [] [] ⟨_, rfl⟩ f_6_letterNow v_6_letterNow l_6_76 ⟨rfl, by decide⟩ rfl (Nat.le_of_ble_eq_true rfl) rfl (Nat.le_of_ble_eq_true rfl) (c6_letterNow tp len hl htp τ9 hT9 (r + 2) (by omega) r0) ?_
        rintro _ _ ⟨rfl, rfl⟩
        by_cases h59 : ltN tp len (r + 2) = 59
        · skip
          refine AW.run 5 [true] (106, [(1, .inl 116), (0, .inr (.inr (5, 0, 0)))], [.inl (τ9 5 0 0 16), .inr (.inr (5, 0, 0))], τ9) [icP .eq (lnI tp len (r + 2)) 59] rfl ?_ ?_
          · exact allP1 ((ln_is (c := 59) htp (by decide) (by decide)).mpr h59)
          rw [r0]
          refine AW.run 2 [] (108, [(1, .inl 116), (0, .inr (.inr (5, 0, 0)))], [.inl ((nI (r + 2)) + 1), .inr (.inr (5, 0, 0))], τ9) [] rfl ?_ ?_
          · exact trivial
          rw [nI_1]
          refine AW.run 2 [] (112, [(1, .inl 116), (0, .inr (.inr (5, 0, 0)))], [.inl 1], (setM τ9 5 0 0 16 (nI (r + 2 + 1)))) [] rfl ?_ ?_
          · exact trivial
          refine AW.retz ⟨_, rfl⟩ rfl (by decide) ?_
          obtain ⟨hs1, hs2⟩ := st_yes h (show dgN 116 = 1 from rfl) (by decide) hds h59
          have hdn : dgN (ltN tp len r) = 1 := by rw [h]; rfl
          exact ⟨fr_set (fr_trans gυ1 (fr_mono f0 (fun j k q => by unfold P8 at q; unfold P9; omega))) (by unfold P9; omega), Or.inl ⟨rfl, ⟨hs1, hs2⟩, by rw [setM_at, if_pos ⟨rfl, rfl⟩, hdn], by rw [setM_at, if_neg (by omega), h]; exact l9, by rw [setM_at, if_neg (by omega)]; exact a9, by rw [h]; exact ToldD_mv (fun k _ _ => by rw [setM_at, if_neg (by omega)]) hto⟩⟩
        · skip
          refine AW.run 3 [false] (100, [(1, .inl 116), (0, .inr (.inr (5, 0, 0)))], [.inl 0], τ9) [¬ icP .eq (lnI tp len (r + 2)) 59] rfl ?_ ?_
          · exact allP1 (fun q => h59 ((ln_is (c := 59) htp (by decide) (by decide)).mp q))
          refine AW.retz ⟨_, rfl⟩ rfl (by decide) ?_
          first | exact ⟨(fr_trans gυ1 (fr_mono f0 (fun j k q => by unfold P8 at q; unfold P9; omega))), Or.inr ⟨rfl, _, st_no1 h (show dgN 116 = 1 from rfl) (by decide) hds h59, r0⟩⟩ | exact ⟨(fr_trans gυ1 (fr_mono f0 (fun j k q => by unfold P8 at q; unfold P9; omega))), Or.inr ⟨rfl, _, st_no2 h (show dgN 116 = 1 from rfl) (by decide) hds, r9⟩⟩
      · skip
        refine AW.run 2 [true] (100, [(1, .inl 116), (0, .inr (.inr (5, 0, 0)))], [.inl 0], τ9) [icP .eq (0 : Int32) 0] rfl ?_ ?_
        · exact allP1 (by decide : ((0 : Int32) = 0))
        refine AW.retz ⟨_, rfl⟩ rfl (by decide) ?_
        first | exact ⟨(fr_trans gυ1 (fr_mono f0 (fun j k q => by unfold P8 at q; unfold P9; omega))), Or.inr ⟨rfl, _, st_no1 h (show dgN 116 = 1 from rfl) (by decide) hds h59, r0⟩⟩ | exact ⟨(fr_trans gυ1 (fr_mono f0 (fun j k q => by unfold P8 at q; unfold P9; omega))), Or.inr ⟨rfl, _, st_no2 h (show dgN 116 = 1 from rfl) (by decide) hds, r9⟩⟩
    · have hln : lnI tp len r = (117 : Int32) := (ln_is (c := 117) htp (by decide) (by decide)).mpr h
      refine AW.run 1 [] (1, [(0, .inr (.inr (5, 0, 0)))], [.inr (.inr (5, 0, 0))], σ) [] rfl ?_ ?_
      · exact trivial
      refine AW.callVI (d' := 0) [] [] ⟨_, rfl⟩ f_6_letterNow v_6_letterNow l_6_76 ⟨rfl, by decide⟩ rfl (Nat.le_of_ble_eq_true rfl) rfl (Nat.le_of_ble_eq_true rfl) (c6_letterNow tp len hl htp σ hT r (by omega) e16) ?_
      rintro _ _ ⟨rfl, rfl⟩
      rw [hln]
      refine AW.run 17 [false, false, false, true] (51, [(1, .inl 117), (0, .inr (.inr (5, 0, 0)))], [.inl (σ 5 0 0 17), .inr (.inr (5, 0, 13))], σ) [¬ icP .eq (117 : Int32) 98, ¬ icP .eq (117 : Int32) 112, ¬ icP .eq (117 : Int32) 116, icP .eq (117 : Int32) 117] rfl ?_ ?_
      · exact ⟨(by decide : ¬ ((117 : Int32) = 98)), (by decide : ¬ ((117 : Int32) = 112)), (by decide : ¬ ((117 : Int32) = 116)), allP1 (by decide : ((117 : Int32) = 117))⟩
      rw [e17]
      refine AW.run 6 [] (61, [(1, .inl 117), (0, .inr (.inr (5, 0, 0)))], [.inl ((setM σ 5 0 13 (nI st).toNatClampNeg 117) 5 0 0 17), .inr (.inr (5, 0, 14))], (setM σ 5 0 13 (nI st).toNatClampNeg 117)) [vp_in (nI st) 48] rfl ?_ ?_
      · exact allP1 (by exact vp_in_nI (by omega) (by decide))
      rw [show (setM σ 5 0 13 (nI st).toNatClampNeg 117) 5 0 0 17 = nI st from by rw [setM_at, if_neg (by omega)]; exact e17]
      refine AW.run 2 [] (65, [(1, .inl 117), (0, .inr (.inr (5, 0, 0)))], [.inl ((setM σ 5 0 13 (nI st).toNatClampNeg 117) 5 0 0 16), .inl (nI st), .inr (.inr (5, 0, 14))], (setM σ 5 0 13 (nI st).toNatClampNeg 117)) [] rfl ?_ ?_
      · exact trivial
      rw [show (setM σ 5 0 13 (nI st).toNatClampNeg 117) 5 0 0 16 = nI r from by rw [setM_at, if_neg (by omega)]; exact e16]
      refine AW.run 4 [] (71, [(1, .inl 117), (0, .inr (.inr (5, 0, 0)))], [.inl ((setM (setM σ 5 0 13 (nI st).toNatClampNeg 117) 5 0 14 (nI st).toNatClampNeg (nI r)) 5 0 0 16), .inr (.inr (5, 0, 0))], (setM (setM σ 5 0 13 (nI st).toNatClampNeg 117) 5 0 14 (nI st).toNatClampNeg (nI r))) [vp_in (nI st) 48] rfl ?_ ?_
      · exact allP1 (by exact vp_in_nI (by omega) (by decide))
      rw [show (setM (setM σ 5 0 13 (nI st).toNatClampNeg 117) 5 0 14 (nI st).toNatClampNeg (nI r)) 5 0 0 16 = nI r from by rw [setM_at, if_neg (by omega), setM_at, if_neg (by omega)]; exact e16]
      refine AW.run 2 [] (73, [(1, .inl 117), (0, .inr (.inr (5, 0, 0)))], [.inl ((nI r) + 1), .inr (.inr (5, 0, 0))], (setM (setM σ 5 0 13 (nI st).toNatClampNeg 117) 5 0 14 (nI st).toNatClampNeg (nI r))) [] rfl ?_ ?_
      · exact trivial
      rw [nI_1]
      refine AW.run 1 [] (76, [(1, .inl 117), (0, .inr (.inr (5, 0, 0)))], [], (setM (setM (setM σ 5 0 13 (nI st).toNatClampNeg 117) 5 0 14 (nI st).toNatClampNeg (nI r)) 5 0 0 16 (nI (r + 1)))) [] rfl ?_ ?_
      · exact trivial
      rw [nI_clamp (n := st) (by omega)]
      obtain ⟨υ1, eυ1⟩ : ∃ x, x = (setM (setM (setM σ 5 0 13 st 117) 5 0 14 st (nI r)) 5 0 0 16 (nI (r + 1))) := ⟨_, rfl⟩
      rw [← eυ1]
      have qυ1 : υ1 5 0 0 16 = nI (r + 1) := by rw [eυ1]; rw [setM_at, if_pos ⟨rfl, rfl⟩]
      have tυ1 : TapeD υ1 tp len := TapeD_mv hT (by rw [eυ1, setM_at, if_neg (by omega), setM_at, if_neg (by omega), setM_at, if_neg (by omega)]) (fun i => by rw [eυ1, setM_at, if_neg (by omega), setM_at, if_neg (by omega), setM_at, if_neg (by omega)])
      have gυ1 : Fr (P9 st) σ υ1 := by rw [eυ1]; exact (fr_set (fr_set (fr_set fr_rfl (by unfold P9; omega)) (by unfold P9; omega)) (by unfold P9; omega))
      have eυ117 : υ1 5 0 0 17 = nI st := by rw [eυ1, setM_at, if_neg (by omega), setM_at, if_neg (by omega), setM_at, if_neg (by omega)]; exact e17
      have lυ1 : υ1 5 0 13 st = nI 117 := by rw [eυ1, setM_at, if_neg (by omega), setM_at, if_neg (by omega), setM_at, if_pos ⟨rfl, rfl⟩]; rfl
      have aυ1 : υ1 5 0 14 st = nI r := by rw [eυ1, setM_at, if_neg (by omega), setM_at, if_pos ⟨rfl, rfl⟩]
      refine AW.run 5 [] (83, [(1, .inl 117), (0, .inr (.inr (5, 0, 0)))], [.inl (υ1 5 0 0 17), .inl 3, .inl 117, .inr (.inr (5, 0, 0))], υ1) [] rfl ?_ ?_
      · exact trivial
      rw [eυ117]
      refine AW.run 1 [] (84, [(1, .inl 117), (0, .inr (.inr (5, 0, 0)))], [.inl (3 * (nI st)), .inl 117, .inr (.inr (5, 0, 0))], υ1) [] rfl ?_ ?_
      · exact trivial
      rw [show (3 : Int32) * nI st = nI (3 * st) from (Int32.ofNat_mul 3 st).symm]
      refine AW.callVI (d' := 4) [.inl 117, .inl (nI (3 * st))] [] ⟨_, rfl⟩ f_6_readsAll v_6_readsAll l_6_91 ⟨rfl, by decide⟩ rfl (Nat.le_of_ble_eq_true rfl) rfl (Nat.le_of_ble_eq_true rfl) (c6_ra117 tp len hl htp υ1 tυ1 r (by omega) qυ1 (3 * st) (by omega)) ?_
      rintro v9 τ9 ⟨f0, hv⟩
      have hT9 : TapeD τ9 tp len := TapeD_mv tυ1 (fr_at f0 (by unfold P8; omega)) (fun i => fr_at f0 (by unfold P8; omega))
      have l9 : τ9 5 0 13 st = nI 117 := (fr_at f0 (by unfold P8; omega)).trans lυ1
      have a9 : τ9 5 0 14 st = nI r := (fr_at f0 (by unfold P8; omega)).trans aυ1
      rcases hv with ⟨rfl, hds, r0, hto⟩ | ⟨rfl, q9, hds, r9⟩
      · skip
        refine AW.run 2 [false] (91, [(1, .inl 117), (0, .inr (.inr (5, 0, 0)))], [.inr (.inr (5, 0, 0))], τ9) [¬ icP .eq (1 : Int32) 0] rfl ?_ ?_
        · exact allP1 (by decide : ¬ ((1 : Int32) = 0))
        refine AW.callVI (d' := 0) [] [] ⟨_, rfl⟩ f_6_letterNow v_6_letterNow l_6_76 ⟨rfl, by decide⟩ rfl (Nat.le_of_ble_eq_true rfl) rfl (Nat.le_of_ble_eq_true rfl) (c6_letterNow tp len hl htp τ9 hT9 (r + 3) (by omega) r0) ?_
        rintro _ _ ⟨rfl, rfl⟩
        by_cases h59 : ltN tp len (r + 3) = 59
        · skip
          refine AW.run 5 [true] (106, [(1, .inl 117), (0, .inr (.inr (5, 0, 0)))], [.inl (τ9 5 0 0 16), .inr (.inr (5, 0, 0))], τ9) [icP .eq (lnI tp len (r + 3)) 59] rfl ?_ ?_
          · exact allP1 ((ln_is (c := 59) htp (by decide) (by decide)).mpr h59)
          rw [r0]
          refine AW.run 2 [] (108, [(1, .inl 117), (0, .inr (.inr (5, 0, 0)))], [.inl ((nI (r + 3)) + 1), .inr (.inr (5, 0, 0))], τ9) [] rfl ?_ ?_
          · exact trivial
          rw [nI_1]
          refine AW.run 2 [] (112, [(1, .inl 117), (0, .inr (.inr (5, 0, 0)))], [.inl 1], (setM τ9 5 0 0 16 (nI (r + 3 + 1)))) [] rfl ?_ ?_
          · exact trivial
          refine AW.retz ⟨_, rfl⟩ rfl (by decide) ?_
          obtain ⟨hs1, hs2⟩ := st_yes h (show dgN 117 = 2 from rfl) (by decide) hds h59
          have hdn : dgN (ltN tp len r) = 2 := by rw [h]; rfl
          exact ⟨fr_set (fr_trans gυ1 (fr_mono f0 (fun j k q => by unfold P8 at q; unfold P9; omega))) (by unfold P9; omega), Or.inl ⟨rfl, ⟨hs1, hs2⟩, by rw [setM_at, if_pos ⟨rfl, rfl⟩, hdn], by rw [setM_at, if_neg (by omega), h]; exact l9, by rw [setM_at, if_neg (by omega)]; exact a9, by rw [h]; exact ToldD_mv (fun k _ _ => by rw [setM_at, if_neg (by omega)]) hto⟩⟩
        · skip
          refine AW.run 3 [false] (100, [(1, .inl 117), (0, .inr (.inr (5, 0, 0)))], [.inl 0], τ9) [¬ icP .eq (lnI tp len (r + 3)) 59] rfl ?_ ?_
          · exact allP1 (fun q => h59 ((ln_is (c := 59) htp (by decide) (by decide)).mp q))
          refine AW.retz ⟨_, rfl⟩ rfl (by decide) ?_
          first | exact ⟨(fr_trans gυ1 (fr_mono f0 (fun j k q => by unfold P8 at q; unfold P9; omega))), Or.inr ⟨rfl, _, st_no1 h (show dgN 117 = 2 from rfl) (by decide) hds h59, r0⟩⟩ | exact ⟨(fr_trans gυ1 (fr_mono f0 (fun j k q => by unfold P8 at q; unfold P9; omega))), Or.inr ⟨rfl, _, st_no2 h (show dgN 117 = 2 from rfl) (by decide) hds, r9⟩⟩
      · skip
        refine AW.run 2 [true] (100, [(1, .inl 117), (0, .inr (.inr (5, 0, 0)))], [.inl 0], τ9) [icP .eq (0 : Int32) 0] rfl ?_ ?_
        · exact allP1 (by decide : ((0 : Int32) = 0))
        refine AW.retz ⟨_, rfl⟩ rfl (by decide) ?_
        first | exact ⟨(fr_trans gυ1 (fr_mono f0 (fun j k q => by unfold P8 at q; unfold P9; omega))), Or.inr ⟨rfl, _, st_no1 h (show dgN 117 = 2 from rfl) (by decide) hds h59, r0⟩⟩ | exact ⟨(fr_trans gυ1 (fr_mono f0 (fun j k q => by unfold P8 at q; unfold P9; omega))), Or.inr ⟨rfl, _, st_no2 h (show dgN 117 = 2 from rfl) (by decide) hds, r9⟩⟩
    · have hln : lnI tp len r = (111 : Int32) := (ln_is (c := 111) htp (by decide) (by decide)).mpr h
      refine AW.run 1 [] (1, [(0, .inr (.inr (5, 0, 0)))], [.inr (.inr (5, 0, 0))], σ) [] rfl ?_ ?_
      · exact trivial
      refine AW.callVI (d' := 0) [] [] ⟨_, rfl⟩ f_6_letterNow v_6_letterNow l_6_76 ⟨rfl, by decide⟩ rfl (Nat.le_of_ble_eq_true rfl) rfl (Nat.le_of_ble_eq_true rfl) (c6_letterNow tp len hl htp σ hT r (by omega) e16) ?_
      rintro _ _ ⟨rfl, rfl⟩
      rw [hln]
      refine AW.run 20 [false, false, false, false, true] (51, [(1, .inl 111), (0, .inr (.inr (5, 0, 0)))], [.inl (σ 5 0 0 17), .inr (.inr (5, 0, 13))], σ) [¬ icP .eq (111 : Int32) 98, ¬ icP .eq (111 : Int32) 112, ¬ icP .eq (111 : Int32) 116, ¬ icP .eq (111 : Int32) 117, icP .eq (111 : Int32) 111] rfl ?_ ?_
      · exact ⟨(by decide : ¬ ((111 : Int32) = 98)), (by decide : ¬ ((111 : Int32) = 112)), (by decide : ¬ ((111 : Int32) = 116)), (by decide : ¬ ((111 : Int32) = 117)), allP1 (by decide : ((111 : Int32) = 111))⟩
      rw [e17]
      refine AW.run 6 [] (61, [(1, .inl 111), (0, .inr (.inr (5, 0, 0)))], [.inl ((setM σ 5 0 13 (nI st).toNatClampNeg 111) 5 0 0 17), .inr (.inr (5, 0, 14))], (setM σ 5 0 13 (nI st).toNatClampNeg 111)) [vp_in (nI st) 48] rfl ?_ ?_
      · exact allP1 (by exact vp_in_nI (by omega) (by decide))
      rw [show (setM σ 5 0 13 (nI st).toNatClampNeg 111) 5 0 0 17 = nI st from by rw [setM_at, if_neg (by omega)]; exact e17]
      refine AW.run 2 [] (65, [(1, .inl 111), (0, .inr (.inr (5, 0, 0)))], [.inl ((setM σ 5 0 13 (nI st).toNatClampNeg 111) 5 0 0 16), .inl (nI st), .inr (.inr (5, 0, 14))], (setM σ 5 0 13 (nI st).toNatClampNeg 111)) [] rfl ?_ ?_
      · exact trivial
      rw [show (setM σ 5 0 13 (nI st).toNatClampNeg 111) 5 0 0 16 = nI r from by rw [setM_at, if_neg (by omega)]; exact e16]
      refine AW.run 4 [] (71, [(1, .inl 111), (0, .inr (.inr (5, 0, 0)))], [.inl ((setM (setM σ 5 0 13 (nI st).toNatClampNeg 111) 5 0 14 (nI st).toNatClampNeg (nI r)) 5 0 0 16), .inr (.inr (5, 0, 0))], (setM (setM σ 5 0 13 (nI st).toNatClampNeg 111) 5 0 14 (nI st).toNatClampNeg (nI r))) [vp_in (nI st) 48] rfl ?_ ?_
      · exact allP1 (by exact vp_in_nI (by omega) (by decide))
      rw [show (setM (setM σ 5 0 13 (nI st).toNatClampNeg 111) 5 0 14 (nI st).toNatClampNeg (nI r)) 5 0 0 16 = nI r from by rw [setM_at, if_neg (by omega), setM_at, if_neg (by omega)]; exact e16]
      refine AW.run 2 [] (73, [(1, .inl 111), (0, .inr (.inr (5, 0, 0)))], [.inl ((nI r) + 1), .inr (.inr (5, 0, 0))], (setM (setM σ 5 0 13 (nI st).toNatClampNeg 111) 5 0 14 (nI st).toNatClampNeg (nI r))) [] rfl ?_ ?_
      · exact trivial
      rw [nI_1]
      refine AW.run 1 [] (76, [(1, .inl 111), (0, .inr (.inr (5, 0, 0)))], [], (setM (setM (setM σ 5 0 13 (nI st).toNatClampNeg 111) 5 0 14 (nI st).toNatClampNeg (nI r)) 5 0 0 16 (nI (r + 1)))) [] rfl ?_ ?_
      · exact trivial
      rw [nI_clamp (n := st) (by omega)]
      obtain ⟨υ1, eυ1⟩ : ∃ x, x = (setM (setM (setM σ 5 0 13 st 111) 5 0 14 st (nI r)) 5 0 0 16 (nI (r + 1))) := ⟨_, rfl⟩
      rw [← eυ1]
      have qυ1 : υ1 5 0 0 16 = nI (r + 1) := by rw [eυ1]; rw [setM_at, if_pos ⟨rfl, rfl⟩]
      have tυ1 : TapeD υ1 tp len := TapeD_mv hT (by rw [eυ1, setM_at, if_neg (by omega), setM_at, if_neg (by omega), setM_at, if_neg (by omega)]) (fun i => by rw [eυ1, setM_at, if_neg (by omega), setM_at, if_neg (by omega), setM_at, if_neg (by omega)])
      have gυ1 : Fr (P9 st) σ υ1 := by rw [eυ1]; exact (fr_set (fr_set (fr_set fr_rfl (by unfold P9; omega)) (by unfold P9; omega)) (by unfold P9; omega))
      have eυ117 : υ1 5 0 0 17 = nI st := by rw [eυ1, setM_at, if_neg (by omega), setM_at, if_neg (by omega), setM_at, if_neg (by omega)]; exact e17
      have lυ1 : υ1 5 0 13 st = nI 111 := by rw [eυ1, setM_at, if_neg (by omega), setM_at, if_neg (by omega), setM_at, if_pos ⟨rfl, rfl⟩]; rfl
      have aυ1 : υ1 5 0 14 st = nI r := by rw [eυ1, setM_at, if_neg (by omega), setM_at, if_pos ⟨rfl, rfl⟩]
      refine AW.run 5 [] (83, [(1, .inl 111), (0, .inr (.inr (5, 0, 0)))], [.inl (υ1 5 0 0 17), .inl 3, .inl 111, .inr (.inr (5, 0, 0))], υ1) [] rfl ?_ ?_
      · exact trivial
      rw [eυ117]
      refine AW.run 1 [] (84, [(1, .inl 111), (0, .inr (.inr (5, 0, 0)))], [.inl (3 * (nI st)), .inl 111, .inr (.inr (5, 0, 0))], υ1) [] rfl ?_ ?_
      · exact trivial
      rw [show (3 : Int32) * nI st = nI (3 * st) from (Int32.ofNat_mul 3 st).symm]
      refine AW.callVI (d' := 4) [.inl 111, .inl (nI (3 * st))] [] ⟨_, rfl⟩ f_6_readsAll v_6_readsAll l_6_91 ⟨rfl, by decide⟩ rfl (Nat.le_of_ble_eq_true rfl) rfl (Nat.le_of_ble_eq_true rfl) (c6_ra111 tp len hl htp υ1 tυ1 r (by omega) qυ1 (3 * st) (by omega)) ?_
      rintro v9 τ9 ⟨f0, hv⟩
      have hT9 : TapeD τ9 tp len := TapeD_mv tυ1 (fr_at f0 (by unfold P8; omega)) (fun i => fr_at f0 (by unfold P8; omega))
      have l9 : τ9 5 0 13 st = nI 111 := (fr_at f0 (by unfold P8; omega)).trans lυ1
      have a9 : τ9 5 0 14 st = nI r := (fr_at f0 (by unfold P8; omega)).trans aυ1
      rcases hv with ⟨rfl, hds, r0, hto⟩ | ⟨rfl, q9, hds, r9⟩
      · skip
        refine AW.run 2 [false] (91, [(1, .inl 111), (0, .inr (.inr (5, 0, 0)))], [.inr (.inr (5, 0, 0))], τ9) [¬ icP .eq (1 : Int32) 0] rfl ?_ ?_
        · exact allP1 (by decide : ¬ ((1 : Int32) = 0))
        refine AW.callVI (d' := 0) [] [] ⟨_, rfl⟩ f_6_letterNow v_6_letterNow l_6_76 ⟨rfl, by decide⟩ rfl (Nat.le_of_ble_eq_true rfl) rfl (Nat.le_of_ble_eq_true rfl) (c6_letterNow tp len hl htp τ9 hT9 (r + 2) (by omega) r0) ?_
        rintro _ _ ⟨rfl, rfl⟩
        by_cases h59 : ltN tp len (r + 2) = 59
        · skip
          refine AW.run 5 [true] (106, [(1, .inl 111), (0, .inr (.inr (5, 0, 0)))], [.inl (τ9 5 0 0 16), .inr (.inr (5, 0, 0))], τ9) [icP .eq (lnI tp len (r + 2)) 59] rfl ?_ ?_
          · exact allP1 ((ln_is (c := 59) htp (by decide) (by decide)).mpr h59)
          rw [r0]
          refine AW.run 2 [] (108, [(1, .inl 111), (0, .inr (.inr (5, 0, 0)))], [.inl ((nI (r + 2)) + 1), .inr (.inr (5, 0, 0))], τ9) [] rfl ?_ ?_
          · exact trivial
          rw [nI_1]
          refine AW.run 2 [] (112, [(1, .inl 111), (0, .inr (.inr (5, 0, 0)))], [.inl 1], (setM τ9 5 0 0 16 (nI (r + 2 + 1)))) [] rfl ?_ ?_
          · exact trivial
          refine AW.retz ⟨_, rfl⟩ rfl (by decide) ?_
          obtain ⟨hs1, hs2⟩ := st_yes h (show dgN 111 = 1 from rfl) (by decide) hds h59
          have hdn : dgN (ltN tp len r) = 1 := by rw [h]; rfl
          exact ⟨fr_set (fr_trans gυ1 (fr_mono f0 (fun j k q => by unfold P8 at q; unfold P9; omega))) (by unfold P9; omega), Or.inl ⟨rfl, ⟨hs1, hs2⟩, by rw [setM_at, if_pos ⟨rfl, rfl⟩, hdn], by rw [setM_at, if_neg (by omega), h]; exact l9, by rw [setM_at, if_neg (by omega)]; exact a9, by rw [h]; exact ToldD_mv (fun k _ _ => by rw [setM_at, if_neg (by omega)]) hto⟩⟩
        · skip
          refine AW.run 3 [false] (100, [(1, .inl 111), (0, .inr (.inr (5, 0, 0)))], [.inl 0], τ9) [¬ icP .eq (lnI tp len (r + 2)) 59] rfl ?_ ?_
          · exact allP1 (fun q => h59 ((ln_is (c := 59) htp (by decide) (by decide)).mp q))
          refine AW.retz ⟨_, rfl⟩ rfl (by decide) ?_
          first | exact ⟨(fr_trans gυ1 (fr_mono f0 (fun j k q => by unfold P8 at q; unfold P9; omega))), Or.inr ⟨rfl, _, st_no1 h (show dgN 111 = 1 from rfl) (by decide) hds h59, r0⟩⟩ | exact ⟨(fr_trans gυ1 (fr_mono f0 (fun j k q => by unfold P8 at q; unfold P9; omega))), Or.inr ⟨rfl, _, st_no2 h (show dgN 111 = 1 from rfl) (by decide) hds, r9⟩⟩
      · skip
        refine AW.run 2 [true] (100, [(1, .inl 111), (0, .inr (.inr (5, 0, 0)))], [.inl 0], τ9) [icP .eq (0 : Int32) 0] rfl ?_ ?_
        · exact allP1 (by decide : ((0 : Int32) = 0))
        refine AW.retz ⟨_, rfl⟩ rfl (by decide) ?_
        first | exact ⟨(fr_trans gυ1 (fr_mono f0 (fun j k q => by unfold P8 at q; unfold P9; omega))), Or.inr ⟨rfl, _, st_no1 h (show dgN 111 = 1 from rfl) (by decide) hds h59, r0⟩⟩ | exact ⟨(fr_trans gυ1 (fr_mono f0 (fun j k q => by unfold P8 at q; unfold P9; omega))), Or.inr ⟨rfl, _, st_no2 h (show dgN 111 = 1 from rfl) (by decide) hds, r9⟩⟩
    · have hln : lnI tp len r = (100 : Int32) := (ln_is (c := 100) htp (by decide) (by decide)).mpr h
      refine AW.run 1 [] (1, [(0, .inr (.inr (5, 0, 0)))], [.inr (.inr (5, 0, 0))], σ) [] rfl ?_ ?_
      · exact trivial
      refine AW.callVI (d' := 0) [] [] ⟨_, rfl⟩ f_6_letterNow v_6_letterNow l_6_76 ⟨rfl, by decide⟩ rfl (Nat.le_of_ble_eq_true rfl) rfl (Nat.le_of_ble_eq_true rfl) (c6_letterNow tp len hl htp σ hT r (by omega) e16) ?_
      rintro _ _ ⟨rfl, rfl⟩
      rw [hln]
      refine AW.run 23 [false, false, false, false, false, true] (51, [(1, .inl 100), (0, .inr (.inr (5, 0, 0)))], [.inl (σ 5 0 0 17), .inr (.inr (5, 0, 13))], σ) [¬ icP .eq (100 : Int32) 98, ¬ icP .eq (100 : Int32) 112, ¬ icP .eq (100 : Int32) 116, ¬ icP .eq (100 : Int32) 117, ¬ icP .eq (100 : Int32) 111, icP .eq (100 : Int32) 100] rfl ?_ ?_
      · exact ⟨(by decide : ¬ ((100 : Int32) = 98)), (by decide : ¬ ((100 : Int32) = 112)), (by decide : ¬ ((100 : Int32) = 116)), (by decide : ¬ ((100 : Int32) = 117)), (by decide : ¬ ((100 : Int32) = 111)), allP1 (by decide : ((100 : Int32) = 100))⟩
      rw [e17]
      refine AW.run 6 [] (61, [(1, .inl 100), (0, .inr (.inr (5, 0, 0)))], [.inl ((setM σ 5 0 13 (nI st).toNatClampNeg 100) 5 0 0 17), .inr (.inr (5, 0, 14))], (setM σ 5 0 13 (nI st).toNatClampNeg 100)) [vp_in (nI st) 48] rfl ?_ ?_
      · exact allP1 (by exact vp_in_nI (by omega) (by decide))
      rw [show (setM σ 5 0 13 (nI st).toNatClampNeg 100) 5 0 0 17 = nI st from by rw [setM_at, if_neg (by omega)]; exact e17]
      refine AW.run 2 [] (65, [(1, .inl 100), (0, .inr (.inr (5, 0, 0)))], [.inl ((setM σ 5 0 13 (nI st).toNatClampNeg 100) 5 0 0 16), .inl (nI st), .inr (.inr (5, 0, 14))], (setM σ 5 0 13 (nI st).toNatClampNeg 100)) [] rfl ?_ ?_
      · exact trivial
      rw [show (setM σ 5 0 13 (nI st).toNatClampNeg 100) 5 0 0 16 = nI r from by rw [setM_at, if_neg (by omega)]; exact e16]
      refine AW.run 4 [] (71, [(1, .inl 100), (0, .inr (.inr (5, 0, 0)))], [.inl ((setM (setM σ 5 0 13 (nI st).toNatClampNeg 100) 5 0 14 (nI st).toNatClampNeg (nI r)) 5 0 0 16), .inr (.inr (5, 0, 0))], (setM (setM σ 5 0 13 (nI st).toNatClampNeg 100) 5 0 14 (nI st).toNatClampNeg (nI r))) [vp_in (nI st) 48] rfl ?_ ?_
      · exact allP1 (by exact vp_in_nI (by omega) (by decide))
      rw [show (setM (setM σ 5 0 13 (nI st).toNatClampNeg 100) 5 0 14 (nI st).toNatClampNeg (nI r)) 5 0 0 16 = nI r from by rw [setM_at, if_neg (by omega), setM_at, if_neg (by omega)]; exact e16]
      refine AW.run 2 [] (73, [(1, .inl 100), (0, .inr (.inr (5, 0, 0)))], [.inl ((nI r) + 1), .inr (.inr (5, 0, 0))], (setM (setM σ 5 0 13 (nI st).toNatClampNeg 100) 5 0 14 (nI st).toNatClampNeg (nI r))) [] rfl ?_ ?_
      · exact trivial
      rw [nI_1]
      refine AW.run 1 [] (76, [(1, .inl 100), (0, .inr (.inr (5, 0, 0)))], [], (setM (setM (setM σ 5 0 13 (nI st).toNatClampNeg 100) 5 0 14 (nI st).toNatClampNeg (nI r)) 5 0 0 16 (nI (r + 1)))) [] rfl ?_ ?_
      · exact trivial
      rw [nI_clamp (n := st) (by omega)]
      obtain ⟨υ1, eυ1⟩ : ∃ x, x = (setM (setM (setM σ 5 0 13 st 100) 5 0 14 st (nI r)) 5 0 0 16 (nI (r + 1))) := ⟨_, rfl⟩
      rw [← eυ1]
      have qυ1 : υ1 5 0 0 16 = nI (r + 1) := by rw [eυ1]; rw [setM_at, if_pos ⟨rfl, rfl⟩]
      have tυ1 : TapeD υ1 tp len := TapeD_mv hT (by rw [eυ1, setM_at, if_neg (by omega), setM_at, if_neg (by omega), setM_at, if_neg (by omega)]) (fun i => by rw [eυ1, setM_at, if_neg (by omega), setM_at, if_neg (by omega), setM_at, if_neg (by omega)])
      have gυ1 : Fr (P9 st) σ υ1 := by rw [eυ1]; exact (fr_set (fr_set (fr_set fr_rfl (by unfold P9; omega)) (by unfold P9; omega)) (by unfold P9; omega))
      have eυ117 : υ1 5 0 0 17 = nI st := by rw [eυ1, setM_at, if_neg (by omega), setM_at, if_neg (by omega), setM_at, if_neg (by omega)]; exact e17
      have lυ1 : υ1 5 0 13 st = nI 100 := by rw [eυ1, setM_at, if_neg (by omega), setM_at, if_neg (by omega), setM_at, if_pos ⟨rfl, rfl⟩]; rfl
      have aυ1 : υ1 5 0 14 st = nI r := by rw [eυ1, setM_at, if_neg (by omega), setM_at, if_pos ⟨rfl, rfl⟩]
      refine AW.run 5 [] (83, [(1, .inl 100), (0, .inr (.inr (5, 0, 0)))], [.inl (υ1 5 0 0 17), .inl 3, .inl 100, .inr (.inr (5, 0, 0))], υ1) [] rfl ?_ ?_
      · exact trivial
      rw [eυ117]
      refine AW.run 1 [] (84, [(1, .inl 100), (0, .inr (.inr (5, 0, 0)))], [.inl (3 * (nI st)), .inl 100, .inr (.inr (5, 0, 0))], υ1) [] rfl ?_ ?_
      · exact trivial
      rw [show (3 : Int32) * nI st = nI (3 * st) from (Int32.ofNat_mul 3 st).symm]
      refine AW.callVI (d' := 4) [.inl 100, .inl (nI (3 * st))] [] ⟨_, rfl⟩ f_6_readsAll v_6_readsAll l_6_91 ⟨rfl, by decide⟩ rfl (Nat.le_of_ble_eq_true rfl) rfl (Nat.le_of_ble_eq_true rfl) (c6_ra100 tp len hl htp υ1 tυ1 r (by omega) qυ1 (3 * st) (by omega)) ?_
      rintro v9 τ9 ⟨f0, hv⟩
      have hT9 : TapeD τ9 tp len := TapeD_mv tυ1 (fr_at f0 (by unfold P8; omega)) (fun i => fr_at f0 (by unfold P8; omega))
      have l9 : τ9 5 0 13 st = nI 100 := (fr_at f0 (by unfold P8; omega)).trans lυ1
      have a9 : τ9 5 0 14 st = nI r := (fr_at f0 (by unfold P8; omega)).trans aυ1
      rcases hv with ⟨rfl, hds, r0, hto⟩ | ⟨rfl, q9, hds, r9⟩
      · skip
        refine AW.run 2 [false] (91, [(1, .inl 100), (0, .inr (.inr (5, 0, 0)))], [.inr (.inr (5, 0, 0))], τ9) [¬ icP .eq (1 : Int32) 0] rfl ?_ ?_
        · exact allP1 (by decide : ¬ ((1 : Int32) = 0))
        refine AW.callVI (d' := 0) [] [] ⟨_, rfl⟩ f_6_letterNow v_6_letterNow l_6_76 ⟨rfl, by decide⟩ rfl (Nat.le_of_ble_eq_true rfl) rfl (Nat.le_of_ble_eq_true rfl) (c6_letterNow tp len hl htp τ9 hT9 (r + 3) (by omega) r0) ?_
        rintro _ _ ⟨rfl, rfl⟩
        by_cases h59 : ltN tp len (r + 3) = 59
        · skip
          refine AW.run 5 [true] (106, [(1, .inl 100), (0, .inr (.inr (5, 0, 0)))], [.inl (τ9 5 0 0 16), .inr (.inr (5, 0, 0))], τ9) [icP .eq (lnI tp len (r + 3)) 59] rfl ?_ ?_
          · exact allP1 ((ln_is (c := 59) htp (by decide) (by decide)).mpr h59)
          rw [r0]
          refine AW.run 2 [] (108, [(1, .inl 100), (0, .inr (.inr (5, 0, 0)))], [.inl ((nI (r + 3)) + 1), .inr (.inr (5, 0, 0))], τ9) [] rfl ?_ ?_
          · exact trivial
          rw [nI_1]
          refine AW.run 2 [] (112, [(1, .inl 100), (0, .inr (.inr (5, 0, 0)))], [.inl 1], (setM τ9 5 0 0 16 (nI (r + 3 + 1)))) [] rfl ?_ ?_
          · exact trivial
          refine AW.retz ⟨_, rfl⟩ rfl (by decide) ?_
          obtain ⟨hs1, hs2⟩ := st_yes h (show dgN 100 = 2 from rfl) (by decide) hds h59
          have hdn : dgN (ltN tp len r) = 2 := by rw [h]; rfl
          exact ⟨fr_set (fr_trans gυ1 (fr_mono f0 (fun j k q => by unfold P8 at q; unfold P9; omega))) (by unfold P9; omega), Or.inl ⟨rfl, ⟨hs1, hs2⟩, by rw [setM_at, if_pos ⟨rfl, rfl⟩, hdn], by rw [setM_at, if_neg (by omega), h]; exact l9, by rw [setM_at, if_neg (by omega)]; exact a9, by rw [h]; exact ToldD_mv (fun k _ _ => by rw [setM_at, if_neg (by omega)]) hto⟩⟩
        · skip
          refine AW.run 3 [false] (100, [(1, .inl 100), (0, .inr (.inr (5, 0, 0)))], [.inl 0], τ9) [¬ icP .eq (lnI tp len (r + 3)) 59] rfl ?_ ?_
          · exact allP1 (fun q => h59 ((ln_is (c := 59) htp (by decide) (by decide)).mp q))
          refine AW.retz ⟨_, rfl⟩ rfl (by decide) ?_
          first | exact ⟨(fr_trans gυ1 (fr_mono f0 (fun j k q => by unfold P8 at q; unfold P9; omega))), Or.inr ⟨rfl, _, st_no1 h (show dgN 100 = 2 from rfl) (by decide) hds h59, r0⟩⟩ | exact ⟨(fr_trans gυ1 (fr_mono f0 (fun j k q => by unfold P8 at q; unfold P9; omega))), Or.inr ⟨rfl, _, st_no2 h (show dgN 100 = 2 from rfl) (by decide) hds, r9⟩⟩
      · skip
        refine AW.run 2 [true] (100, [(1, .inl 100), (0, .inr (.inr (5, 0, 0)))], [.inl 0], τ9) [icP .eq (0 : Int32) 0] rfl ?_ ?_
        · exact allP1 (by decide : ((0 : Int32) = 0))
        refine AW.retz ⟨_, rfl⟩ rfl (by decide) ?_
        first | exact ⟨(fr_trans gυ1 (fr_mono f0 (fun j k q => by unfold P8 at q; unfold P9; omega))), Or.inr ⟨rfl, _, st_no1 h (show dgN 100 = 2 from rfl) (by decide) hds h59, r0⟩⟩ | exact ⟨(fr_trans gυ1 (fr_mono f0 (fun j k q => by unfold P8 at q; unfold P9; omega))), Or.inr ⟨rfl, _, st_no2 h (show dgN 100 = 2 from rfl) (by decide) hds, r9⟩⟩
def POMd (σ σ' : St) (o : Option Sv) (v : Int32) : Prop := Fr P1 σ σ' ∧ match o with
  | some S' => v = 1 ∧ RepM (σ' 5 0) S'
  | none => v = 0
def POM (σ : St) (o : Option Sv) : Option AV → St → Prop := PI fun v σ' => POMd σ σ' o v
theorem POM_y {σ σ' : St} {S' : Sv} {o : Option Sv} (h : o = some S') (h1 : Fr P1 σ σ') (h2 : RepM (σ' 5 0) S') : POMd σ σ' o 1 := by subst h; exact ⟨h1, rfl, h2⟩
theorem POM_n {σ σ' : St} {o : Option Sv} (h : o = none) (h1 : Fr P1 σ σ') : POMd σ σ' o 0 := by subst h; exact ⟨h1, rfl⟩
set_option maxHeartbeats 4000000 in
set_option maxRecDepth 100000 in
theorem c6_comesBottle (S : Sv) (σ : St) (hR : RepM (σ 5 0) S) (hO : SOK S) (k f p i : Nat) (hk : k ≤ 9) (hf : f ≤ 9) (hp : p ≤ 99) (hi : i + 3 ≤ 144) (w0 : σ 5 0 15 i = nI k) (w1 : σ 5 0 15 (i + 1) = nI f) (w2 : σ 5 0 15 (i + 2) = nI p) : Ct M6_comesBottle 2 [.inr (.inr (5, 0, 0)), .inl (nI i)] σ (POM σ (o1 S k f p)) := by
  refine Ct.of f_6_comesBottle (Nat.le_of_ble_eq_true rfl) ?_
  show AW M6_comesBottle 2 _ (0, [(0, .inr (.inr (5, 0, 0))), (1, .inl (nI i))], [], σ)
  have hn8 : Sn S ≤ 8 := hO.1
  have e7 := hR.1.1
  by_cases hk6 : k < 6
  · by_cases hp15 : p < 15
    · by_cases hs8 : Sn S < 8
      · cases ha : atS S p with
        | none =>
          refine AW.run 4 [] (6, [(0, .inr (.inr (5, 0, 0))), (1, .inl (nI i))], [.inl (σ 5 0 15 (nI i).toNatClampNeg)], σ) [vp_in (nI i) 144] rfl ?_ ?_
          · exact allP1 (by exact vp_in_nI (by omega) (by decide))
          rw [nI_clamp (n := i) (by omega), w0]
          refine AW.run 7 [false] (17, [(0, .inr (.inr (5, 0, 0))), (1, .inl (nI i))], [.inl ((nI i) + 2), .inr (.inr (5, 0, 15))], σ) [¬ icP .gt (nI k) 5] rfl ?_ ?_
          · exact allP1 (nI_nlt (a := 5) (by omega) (by decide))
          rw [show nI i + 2 = nI (i + 2) from nI_add i 2]
          refine AW.run 1 [] (18, [(0, .inr (.inr (5, 0, 0))), (1, .inl (nI i))], [.inl (σ 5 0 15 (nI (i + 2)).toNatClampNeg)], σ) [vp_in (nI (i + 2)) 144] rfl ?_ ?_
          · exact allP1 (by exact vp_in_nI (by omega) (by decide))
          rw [nI_clamp (n := i + 2) (by omega), w2]
          refine AW.callSI (d' := 0) [.inl (nI p)] [] ⟨_, rfl⟩ f_6_isPlace s_6_isPlace l_6_94 rfl (Nat.le_of_ble_eq_true rfl) rfl (Nat.le_of_ble_eq_true rfl) (c6_isPlace1 p hp15 σ) ?_
          rintro _ _ ⟨rfl, rfl⟩
          refine AW.run 3 [false] (28, [(0, .inr (.inr (5, 0, 0))), (1, .inl (nI i))], [.inl (σ 5 0 0 7)], σ) [¬ icP .eq (1 : Int32) 0] rfl ?_ ?_
          · exact allP1 (by decide : ¬ ((1 : Int32) = 0))
          rw [e7]
          refine AW.run 8 [false] (41, [(0, .inr (.inr (5, 0, 0))), (1, .inl (nI i))], [.inl ((nI i) + 2), .inr (.inr (5, 0, 15)), .inr (.inr (5, 0, 0))], σ) [¬ icP .eq (nI (Sn S)) 8] rfl ?_ ?_
          · exact allP1 (fun q => absurd (nI_lit (n := 8) q (by omega) (by decide)) (by omega))
          rw [show nI i + 2 = nI (i + 2) from nI_add i 2]
          refine AW.run 1 [] (42, [(0, .inr (.inr (5, 0, 0))), (1, .inl (nI i))], [.inl (σ 5 0 15 (nI (i + 2)).toNatClampNeg), .inr (.inr (5, 0, 0))], σ) [vp_in (nI (i + 2)) 144] rfl ?_ ?_
          · exact allP1 (by exact vp_in_nI (by omega) (by decide))
          rw [nI_clamp (n := i + 2) (by omega), w2]
          refine AW.callVI (d' := 1) [.inl (nI p)] [] ⟨_, rfl⟩ f_6_wholeAt v_6_wholeAt l_6_98 ⟨rfl, by decide⟩ rfl (Nat.le_of_ble_eq_true rfl) rfl (Nat.le_of_ble_eq_true rfl) (c6_wholeAt S σ hR hO (nI p) p rfl (by omega)) ?_
          rintro _ _ ⟨rfl, rfl⟩
          rw [ha]
          dsimp only [optI]
          refine AW.run 6 [true] (57, [(0, .inr (.inr (5, 0, 0))), (1, .inl (nI i))], [.inl (σ 5 0 15 (nI i).toNatClampNeg), .inr (.inr (5, 0, 0))], σ) [icP .lt ((-9) : Int32) 0, vp_in (nI i) 144] rfl ?_ ?_
          · exact ⟨(by decide : (((-9) : Int32) < 0)), allP1 (by exact vp_in_nI (by omega) (by decide))⟩
          rw [nI_clamp (n := i) (by omega), w0]
          refine AW.run 5 [] (64, [(0, .inr (.inr (5, 0, 0))), (1, .inl (nI i))], [.inl ((nI i) + 1), .inr (.inr (5, 0, 15)), .inl (nI k), .inr (.inr (5, 0, 0))], σ) [] rfl ?_ ?_
          · exact trivial
          rw [show nI i + 1 = nI (i + 1) from nI_add i 1]
          refine AW.run 1 [] (65, [(0, .inr (.inr (5, 0, 0))), (1, .inl (nI i))], [.inl (σ 5 0 15 (nI (i + 1)).toNatClampNeg), .inl (nI k), .inr (.inr (5, 0, 0))], σ) [vp_in (nI (i + 1)) 144] rfl ?_ ?_
          · exact allP1 (by exact vp_in_nI (by omega) (by decide))
          rw [nI_clamp (n := i + 1) (by omega), w1]
          refine AW.run 5 [] (72, [(0, .inr (.inr (5, 0, 0))), (1, .inl (nI i))], [.inl ((nI i) + 2), .inr (.inr (5, 0, 15)), .inl (nI f), .inl (nI k), .inr (.inr (5, 0, 0))], σ) [] rfl ?_ ?_
          · exact trivial
          rw [show nI i + 2 = nI (i + 2) from nI_add i 2]
          refine AW.run 1 [] (73, [(0, .inr (.inr (5, 0, 0))), (1, .inl (nI i))], [.inl (σ 5 0 15 (nI (i + 2)).toNatClampNeg), .inl (nI f), .inl (nI k), .inr (.inr (5, 0, 0))], σ) [vp_in (nI (i + 2)) 144] rfl ?_ ?_
          · exact allP1 (by exact vp_in_nI (by omega) (by decide))
          rw [nI_clamp (n := i + 2) (by omega), w2]
          refine AW.callVV (d' := 0) [.inl (nI k), .inl (nI f), .inl (nI p)] [] ⟨_, rfl⟩ f_6_adds v_6_adds l_6_101 ⟨rfl, by decide⟩ rfl (Nat.le_of_ble_eq_true rfl) rfl (Nat.le_of_ble_eq_true rfl) (c6_adds S σ hR hO k f p hs8) ?_
          rintro τ ⟨f1, r1⟩
          refine AW.run 1 [] (77, [(0, .inr (.inr (5, 0, 0))), (1, .inl (nI i))], [.inl 1], τ) [] rfl ?_ ?_
          · exact trivial
          refine AW.retz ⟨_, rfl⟩ rfl (by decide) ?_
          exact POM_y (o := o1 S k f p) (show o1 S k f p = some _ from if_pos ⟨hk6, hp15, hs8, ha⟩) f1 r1
        | some h =>
          have hh8 := (atS_lt ha).1
          refine AW.run 4 [] (6, [(0, .inr (.inr (5, 0, 0))), (1, .inl (nI i))], [.inl (σ 5 0 15 (nI i).toNatClampNeg)], σ) [vp_in (nI i) 144] rfl ?_ ?_
          · exact allP1 (by exact vp_in_nI (by omega) (by decide))
          rw [nI_clamp (n := i) (by omega), w0]
          refine AW.run 7 [false] (17, [(0, .inr (.inr (5, 0, 0))), (1, .inl (nI i))], [.inl ((nI i) + 2), .inr (.inr (5, 0, 15))], σ) [¬ icP .gt (nI k) 5] rfl ?_ ?_
          · exact allP1 (nI_nlt (a := 5) (by omega) (by decide))
          rw [show nI i + 2 = nI (i + 2) from nI_add i 2]
          refine AW.run 1 [] (18, [(0, .inr (.inr (5, 0, 0))), (1, .inl (nI i))], [.inl (σ 5 0 15 (nI (i + 2)).toNatClampNeg)], σ) [vp_in (nI (i + 2)) 144] rfl ?_ ?_
          · exact allP1 (by exact vp_in_nI (by omega) (by decide))
          rw [nI_clamp (n := i + 2) (by omega), w2]
          refine AW.callSI (d' := 0) [.inl (nI p)] [] ⟨_, rfl⟩ f_6_isPlace s_6_isPlace l_6_94 rfl (Nat.le_of_ble_eq_true rfl) rfl (Nat.le_of_ble_eq_true rfl) (c6_isPlace1 p hp15 σ) ?_
          rintro _ _ ⟨rfl, rfl⟩
          refine AW.run 3 [false] (28, [(0, .inr (.inr (5, 0, 0))), (1, .inl (nI i))], [.inl (σ 5 0 0 7)], σ) [¬ icP .eq (1 : Int32) 0] rfl ?_ ?_
          · exact allP1 (by decide : ¬ ((1 : Int32) = 0))
          rw [e7]
          refine AW.run 8 [false] (41, [(0, .inr (.inr (5, 0, 0))), (1, .inl (nI i))], [.inl ((nI i) + 2), .inr (.inr (5, 0, 15)), .inr (.inr (5, 0, 0))], σ) [¬ icP .eq (nI (Sn S)) 8] rfl ?_ ?_
          · exact allP1 (fun q => absurd (nI_lit (n := 8) q (by omega) (by decide)) (by omega))
          rw [show nI i + 2 = nI (i + 2) from nI_add i 2]
          refine AW.run 1 [] (42, [(0, .inr (.inr (5, 0, 0))), (1, .inl (nI i))], [.inl (σ 5 0 15 (nI (i + 2)).toNatClampNeg), .inr (.inr (5, 0, 0))], σ) [vp_in (nI (i + 2)) 144] rfl ?_ ?_
          · exact allP1 (by exact vp_in_nI (by omega) (by decide))
          rw [nI_clamp (n := i + 2) (by omega), w2]
          refine AW.callVI (d' := 1) [.inl (nI p)] [] ⟨_, rfl⟩ f_6_wholeAt v_6_wholeAt l_6_98 ⟨rfl, by decide⟩ rfl (Nat.le_of_ble_eq_true rfl) rfl (Nat.le_of_ble_eq_true rfl) (c6_wholeAt S σ hR hO (nI p) p rfl (by omega)) ?_
          rintro _ _ ⟨rfl, rfl⟩
          rw [ha]
          dsimp only [optI]
          refine AW.run 2 [false] (49, [(0, .inr (.inr (5, 0, 0))), (1, .inl (nI i))], [.inl 0], σ) [¬ icP .lt (nI h) 0] rfl ?_ ?_
          · exact allP1 (nlt0 (by omega))
          refine AW.retz ⟨_, rfl⟩ rfl (by decide) ?_
          exact POM_n (o := o1 S k f p) (show o1 S k f p = none from if_neg (fun q => by rw [ha] at q; cases q.2.2.2)) fr_rfl
      · skip
        refine AW.run 4 [] (6, [(0, .inr (.inr (5, 0, 0))), (1, .inl (nI i))], [.inl (σ 5 0 15 (nI i).toNatClampNeg)], σ) [vp_in (nI i) 144] rfl ?_ ?_
        · exact allP1 (by exact vp_in_nI (by omega) (by decide))
        rw [nI_clamp (n := i) (by omega), w0]
        refine AW.run 7 [false] (17, [(0, .inr (.inr (5, 0, 0))), (1, .inl (nI i))], [.inl ((nI i) + 2), .inr (.inr (5, 0, 15))], σ) [¬ icP .gt (nI k) 5] rfl ?_ ?_
        · exact allP1 (nI_nlt (a := 5) (by omega) (by decide))
        rw [show nI i + 2 = nI (i + 2) from nI_add i 2]
        refine AW.run 1 [] (18, [(0, .inr (.inr (5, 0, 0))), (1, .inl (nI i))], [.inl (σ 5 0 15 (nI (i + 2)).toNatClampNeg)], σ) [vp_in (nI (i + 2)) 144] rfl ?_ ?_
        · exact allP1 (by exact vp_in_nI (by omega) (by decide))
        rw [nI_clamp (n := i + 2) (by omega), w2]
        refine AW.callSI (d' := 0) [.inl (nI p)] [] ⟨_, rfl⟩ f_6_isPlace s_6_isPlace l_6_94 rfl (Nat.le_of_ble_eq_true rfl) rfl (Nat.le_of_ble_eq_true rfl) (c6_isPlace1 p hp15 σ) ?_
        rintro _ _ ⟨rfl, rfl⟩
        refine AW.run 3 [false] (28, [(0, .inr (.inr (5, 0, 0))), (1, .inl (nI i))], [.inl (σ 5 0 0 7)], σ) [¬ icP .eq (1 : Int32) 0] rfl ?_ ?_
        · exact allP1 (by decide : ¬ ((1 : Int32) = 0))
        rw [e7]
        refine AW.run 3 [true] (49, [(0, .inr (.inr (5, 0, 0))), (1, .inl (nI i))], [.inl 0], σ) [icP .eq (nI (Sn S)) 8] rfl ?_ ?_
        · exact allP1 (congrArg nI (show Sn S = 8 by omega))
        refine AW.retz ⟨_, rfl⟩ rfl (by decide) ?_
        exact POM_n (o := o1 S k f p) (show o1 S k f p = none from if_neg (fun q => hs8 q.2.2.1)) fr_rfl
    · skip
      refine AW.run 4 [] (6, [(0, .inr (.inr (5, 0, 0))), (1, .inl (nI i))], [.inl (σ 5 0 15 (nI i).toNatClampNeg)], σ) [vp_in (nI i) 144] rfl ?_ ?_
      · exact allP1 (by exact vp_in_nI (by omega) (by decide))
      rw [nI_clamp (n := i) (by omega), w0]
      refine AW.run 7 [false] (17, [(0, .inr (.inr (5, 0, 0))), (1, .inl (nI i))], [.inl ((nI i) + 2), .inr (.inr (5, 0, 15))], σ) [¬ icP .gt (nI k) 5] rfl ?_ ?_
      · exact allP1 (nI_nlt (a := 5) (by omega) (by decide))
      rw [show nI i + 2 = nI (i + 2) from nI_add i 2]
      refine AW.run 1 [] (18, [(0, .inr (.inr (5, 0, 0))), (1, .inl (nI i))], [.inl (σ 5 0 15 (nI (i + 2)).toNatClampNeg)], σ) [vp_in (nI (i + 2)) 144] rfl ?_ ?_
      · exact allP1 (by exact vp_in_nI (by omega) (by decide))
      rw [nI_clamp (n := i + 2) (by omega), w2]
      refine AW.callSI (d' := 0) [.inl (nI p)] [] ⟨_, rfl⟩ f_6_isPlace s_6_isPlace l_6_94 rfl (Nat.le_of_ble_eq_true rfl) rfl (Nat.le_of_ble_eq_true rfl) (c6_isPlace0 (nI p) (fun k9 hk9 q => hp15 (by rw [nI_lit q (by omega) (by omega)]; exact hk9)) σ) ?_
      rintro _ _ ⟨rfl, rfl⟩
      refine AW.run 2 [true] (49, [(0, .inr (.inr (5, 0, 0))), (1, .inl (nI i))], [.inl 0], σ) [icP .eq (0 : Int32) 0] rfl ?_ ?_
      · exact allP1 (by decide : ((0 : Int32) = 0))
      refine AW.retz ⟨_, rfl⟩ rfl (by decide) ?_
      exact POM_n (o := o1 S k f p) (show o1 S k f p = none from if_neg (fun q => hp15 q.2.1)) fr_rfl
  · skip
    refine AW.run 4 [] (6, [(0, .inr (.inr (5, 0, 0))), (1, .inl (nI i))], [.inl (σ 5 0 15 (nI i).toNatClampNeg)], σ) [vp_in (nI i) 144] rfl ?_ ?_
    · exact allP1 (by exact vp_in_nI (by omega) (by decide))
    rw [nI_clamp (n := i) (by omega), w0]
    refine AW.run 3 [true] (49, [(0, .inr (.inr (5, 0, 0))), (1, .inl (nI i))], [.inl 0], σ) [icP .gt (nI k) 5] rfl ?_ ?_
    · exact allP1 (nI_lt (a := 5) (by omega) (by omega))
    refine AW.retz ⟨_, rfl⟩ rfl (by decide) ?_
    exact POM_n (o := o1 S k f p) (show o1 S k f p = none from if_neg (fun q => hk6 q.1)) fr_rfl
set_option maxHeartbeats 4000000 in
set_option maxRecDepth 100000 in
theorem c6_comesOf112 (S : Sv) (σ : St) (hR : RepM (σ 5 0) S) (hO : SOK S) (b : Nat) (hb9 : b ≤ 9) (v : Nat) : Ct M6_comesOf 2 [.inr (.inr (5, 0, 0)), .inl 112, .inl (nI b), .inl (nI v)] σ (POM σ (o2 S b v)) := by
  refine Ct.of f_6_comesOf (Nat.le_of_ble_eq_true rfl) ?_
  show AW M6_comesOf 2 _ (0, [(0, .inr (.inr (5, 0, 0))), (1, .inl 112), (2, .inl (nI b)), (3, .inl (nI v))], [], σ)
  have hn8 : Sn S ≤ 8 := hO.1
  have e7 := hR.1.1
  by_cases hb : b < Sn S
  · have hb8 : b < 8 := by omega
    cases hw : Sw S b
    · skip
      refine AW.run 2 [] (2, [(0, .inr (.inr (5, 0, 0))), (1, .inl 112), (2, .inl (nI b)), (3, .inl (nI v))], [.inl (nI b), .inr (.inr (5, 0, 0))], σ) [] rfl ?_ ?_
      · exact trivial
      refine AW.callVI (d' := 0) [.inl (nI b)] [] ⟨_, rfl⟩ f_6_isBottle v_6_isBottle l_6_105 ⟨rfl, by decide⟩ rfl (Nat.le_of_ble_eq_true rfl) rfl (Nat.le_of_ble_eq_true rfl) (c6_isBottle1 (Sn S) σ e7 hn8 b hb) ?_
      rintro _ _ ⟨rfl, rfl⟩
      refine AW.run 3 [false] (10, [(0, .inr (.inr (5, 0, 0))), (1, .inl 112), (2, .inl (nI b)), (3, .inl (nI v))], [.inl (nI b), .inr (.inr (5, 0, 0))], σ) [¬ icP .eq (1 : Int32) 0] rfl ?_ ?_
      · exact allP1 (by decide : ¬ ((1 : Int32) = 0))
      refine AW.callVI (d' := 0) [.inl (nI b)] [] ⟨_, rfl⟩ f_6_isWhole v_6_isWhole l_6_108 ⟨rfl, by decide⟩ rfl (Nat.le_of_ble_eq_true rfl) rfl (Nat.le_of_ble_eq_true rfl) (c6_isWhole S σ hR hO.1 b hb) ?_
      rintro v _ ⟨rfl, hv⟩
      obtain rfl : v = 0 := by
        rcases hv with h | h
        · exact absurd (hw.symm.trans h.2) (by decide)
        · exact h.1
      refine AW.run 2 [false] (17, [(0, .inr (.inr (5, 0, 0))), (1, .inl 112), (2, .inl (nI b)), (3, .inl (nI v))], [.inl 0], σ) [¬ icP .ne (0 : Int32) 0] rfl ?_ ?_
      · exact allP1 (by decide : ¬ (¬ (0 : Int32) = 0))
      refine AW.retz ⟨_, rfl⟩ rfl (by decide) ?_
      exact POM_n (o := o2 S b v) (show o2 S b v = none from if_neg (by rw [hw]; decide)) fr_rfl
    · skip
      refine AW.run 2 [] (2, [(0, .inr (.inr (5, 0, 0))), (1, .inl 112), (2, .inl (nI b)), (3, .inl (nI v))], [.inl (nI b), .inr (.inr (5, 0, 0))], σ) [] rfl ?_ ?_
      · exact trivial
      refine AW.callVI (d' := 0) [.inl (nI b)] [] ⟨_, rfl⟩ f_6_isBottle v_6_isBottle l_6_105 ⟨rfl, by decide⟩ rfl (Nat.le_of_ble_eq_true rfl) rfl (Nat.le_of_ble_eq_true rfl) (c6_isBottle1 (Sn S) σ e7 hn8 b hb) ?_
      rintro _ _ ⟨rfl, rfl⟩
      refine AW.run 3 [false] (10, [(0, .inr (.inr (5, 0, 0))), (1, .inl 112), (2, .inl (nI b)), (3, .inl (nI v))], [.inl (nI b), .inr (.inr (5, 0, 0))], σ) [¬ icP .eq (1 : Int32) 0] rfl ?_ ?_
      · exact allP1 (by decide : ¬ ((1 : Int32) = 0))
      refine AW.callVI (d' := 0) [.inl (nI b)] [] ⟨_, rfl⟩ f_6_isWhole v_6_isWhole l_6_108 ⟨rfl, by decide⟩ rfl (Nat.le_of_ble_eq_true rfl) rfl (Nat.le_of_ble_eq_true rfl) (c6_isWhole S σ hR hO.1 b hb) ?_
      rintro v _ ⟨rfl, hv⟩
      obtain rfl : v = 1 := by
        rcases hv with h | h
        · exact h.1
        · exact absurd (hw.symm.trans h.2) (by decide)
      refine AW.run 9 [true, false] (31, [(0, .inr (.inr (5, 0, 0))), (1, .inl 112), (2, .inl (nI b)), (3, .inl (nI v))], [], (setM σ 5 0 5 (nI b).toNatClampNeg (nI v))) [icP .ne (1 : Int32) 0, ¬ icP .ne (112 : Int32) 112, vp_in (nI b) 8] rfl ?_ ?_
      · exact ⟨(by decide : (¬ (1 : Int32) = 0)), (by decide : ¬ (¬ (112 : Int32) = 112)), allP1 (by exact in8 hb8)⟩
      rw [cl8 (k := b) hb8]
      obtain ⟨τ194, e194⟩ : ∃ x, x = setM σ 5 0 5 b (nI v) := ⟨_, rfl⟩
      rw [← e194]
      have r194 : RepM (τ194 5 0) (withQ S (fu (Sq S) b v)) := by rw [e194]; exact (repM_q (q := v) hR)
      have f194 : Fr P1 σ τ194 := by rw [e194]; exact fr_set fr_rfl (by unfold P1; omega)
      refine AW.run 2 [] (65, [(0, .inr (.inr (5, 0, 0))), (1, .inl 112), (2, .inl (nI b)), (3, .inl (nI v))], [.inl 1], τ194) [] rfl ?_ ?_
      · exact trivial
      refine AW.retz ⟨_, rfl⟩ rfl (by decide) ?_
      exact POM_y (o := o2 S b v) (show o2 S b v = some _ from if_pos hw) f194 r194
  · skip
    refine AW.run 2 [] (2, [(0, .inr (.inr (5, 0, 0))), (1, .inl 112), (2, .inl (nI b)), (3, .inl (nI v))], [.inl (nI b), .inr (.inr (5, 0, 0))], σ) [] rfl ?_ ?_
    · exact trivial
    refine AW.callVI (d' := 0) [.inl (nI b)] [] ⟨_, rfl⟩ f_6_isBottle v_6_isBottle l_6_105 ⟨rfl, by decide⟩ rfl (Nat.le_of_ble_eq_true rfl) rfl (Nat.le_of_ble_eq_true rfl) (c6_isBottle0 (Sn S) σ e7 hn8 (nI b) (fun k hk q => hb (by rw [nI_lit q (by omega) (by omega)]; exact hk))) ?_
    rintro _ _ ⟨rfl, rfl⟩
    refine AW.run 2 [true] (17, [(0, .inr (.inr (5, 0, 0))), (1, .inl 112), (2, .inl (nI b)), (3, .inl (nI v))], [.inl 0], σ) [icP .eq (0 : Int32) 0] rfl ?_ ?_
    · exact allP1 (by decide : ((0 : Int32) = 0))
    refine AW.retz ⟨_, rfl⟩ rfl (by decide) ?_
    exact POM_n (o := o2 S b v) (show o2 S b v = none from if_neg (by rw [w_out hO b (by omega)]; decide)) fr_rfl
set_option maxHeartbeats 4000000 in
set_option maxRecDepth 100000 in
theorem c6_comesOf116 (S : Sv) (σ : St) (hR : RepM (σ 5 0) S) (hO : SOK S) (b : Nat) (hb9 : b ≤ 9) (x : Int32) : Ct M6_comesOf 2 [.inr (.inr (5, 0, 0)), .inl 116, .inl (nI b), .inl x] σ (POM σ (o3 S b)) := by
  refine Ct.of f_6_comesOf (Nat.le_of_ble_eq_true rfl) ?_
  show AW M6_comesOf 2 _ (0, [(0, .inr (.inr (5, 0, 0))), (1, .inl 116), (2, .inl (nI b)), (3, .inl x)], [], σ)
  have hn8 : Sn S ≤ 8 := hO.1
  have e7 := hR.1.1
  by_cases hb : b < Sn S
  · have hb8 : b < 8 := by omega
    cases hw : Sw S b
    · skip
      refine AW.run 2 [] (2, [(0, .inr (.inr (5, 0, 0))), (1, .inl 116), (2, .inl (nI b)), (3, .inl x)], [.inl (nI b), .inr (.inr (5, 0, 0))], σ) [] rfl ?_ ?_
      · exact trivial
      refine AW.callVI (d' := 0) [.inl (nI b)] [] ⟨_, rfl⟩ f_6_isBottle v_6_isBottle l_6_105 ⟨rfl, by decide⟩ rfl (Nat.le_of_ble_eq_true rfl) rfl (Nat.le_of_ble_eq_true rfl) (c6_isBottle1 (Sn S) σ e7 hn8 b hb) ?_
      rintro _ _ ⟨rfl, rfl⟩
      refine AW.run 3 [false] (10, [(0, .inr (.inr (5, 0, 0))), (1, .inl 116), (2, .inl (nI b)), (3, .inl x)], [.inl (nI b), .inr (.inr (5, 0, 0))], σ) [¬ icP .eq (1 : Int32) 0] rfl ?_ ?_
      · exact allP1 (by decide : ¬ ((1 : Int32) = 0))
      refine AW.callVI (d' := 0) [.inl (nI b)] [] ⟨_, rfl⟩ f_6_isWhole v_6_isWhole l_6_108 ⟨rfl, by decide⟩ rfl (Nat.le_of_ble_eq_true rfl) rfl (Nat.le_of_ble_eq_true rfl) (c6_isWhole S σ hR hO.1 b hb) ?_
      rintro v _ ⟨rfl, hv⟩
      obtain rfl : v = 0 := by
        rcases hv with h | h
        · exact absurd (hw.symm.trans h.2) (by decide)
        · exact h.1
      refine AW.run 2 [false] (17, [(0, .inr (.inr (5, 0, 0))), (1, .inl 116), (2, .inl (nI b)), (3, .inl x)], [.inl 0], σ) [¬ icP .ne (0 : Int32) 0] rfl ?_ ?_
      · exact allP1 (by decide : ¬ (¬ (0 : Int32) = 0))
      refine AW.retz ⟨_, rfl⟩ rfl (by decide) ?_
      exact POM_n (o := o3 S b) (show o3 S b = none from if_neg (by rw [hw]; decide)) fr_rfl
    · skip
      refine AW.run 2 [] (2, [(0, .inr (.inr (5, 0, 0))), (1, .inl 116), (2, .inl (nI b)), (3, .inl x)], [.inl (nI b), .inr (.inr (5, 0, 0))], σ) [] rfl ?_ ?_
      · exact trivial
      refine AW.callVI (d' := 0) [.inl (nI b)] [] ⟨_, rfl⟩ f_6_isBottle v_6_isBottle l_6_105 ⟨rfl, by decide⟩ rfl (Nat.le_of_ble_eq_true rfl) rfl (Nat.le_of_ble_eq_true rfl) (c6_isBottle1 (Sn S) σ e7 hn8 b hb) ?_
      rintro _ _ ⟨rfl, rfl⟩
      refine AW.run 3 [false] (10, [(0, .inr (.inr (5, 0, 0))), (1, .inl 116), (2, .inl (nI b)), (3, .inl x)], [.inl (nI b), .inr (.inr (5, 0, 0))], σ) [¬ icP .eq (1 : Int32) 0] rfl ?_ ?_
      · exact allP1 (by decide : ¬ ((1 : Int32) = 0))
      refine AW.callVI (d' := 0) [.inl (nI b)] [] ⟨_, rfl⟩ f_6_isWhole v_6_isWhole l_6_108 ⟨rfl, by decide⟩ rfl (Nat.le_of_ble_eq_true rfl) rfl (Nat.le_of_ble_eq_true rfl) (c6_isWhole S σ hR hO.1 b hb) ?_
      rintro v _ ⟨rfl, hv⟩
      obtain rfl : v = 1 := by
        rcases hv with h | h
        · exact h.1
        · exact absurd (hw.symm.trans h.2) (by decide)
      refine AW.run 15 [true, true, false] (52, [(0, .inr (.inr (5, 0, 0))), (1, .inl 116), (2, .inl (nI b)), (3, .inl x)], [.inl (σ 5 0 7 (nI b).toNatClampNeg), .inl 1, .inl (nI b), .inr (.inr (5, 0, 7))], σ) [icP .ne (1 : Int32) 0, icP .ne (116 : Int32) 112, ¬ icP .ne (116 : Int32) 116, vp_in (nI b) 8] rfl ?_ ?_
      · exact ⟨(by decide : (¬ (1 : Int32) = 0)), (by decide : (¬ (116 : Int32) = 112)), (by decide : ¬ (¬ (116 : Int32) = 116)), allP1 (by exact in8 hb8)⟩
      rw [cl8 (k := b) hb8, (hR.2 b hb).2.2.2.2.2]
      refine AW.run 1 [] (53, [(0, .inr (.inr (5, 0, 0))), (1, .inl 116), (2, .inl (nI b)), (3, .inl x)], [.inl (1 - (if Stw S b = true then 1 else 0)), .inl (nI b), .inr (.inr (5, 0, 7))], σ) [] rfl ?_ ?_
      · exact trivial
      rw [tw_1]
      refine AW.run 1 [] (54, [(0, .inr (.inr (5, 0, 0))), (1, .inl 116), (2, .inl (nI b)), (3, .inl x)], [], (setM σ 5 0 7 (nI b).toNatClampNeg (if (!(Stw S b)) = true then 1 else 0))) [vp_in (nI b) 8] rfl ?_ ?_
      · exact allP1 (by exact in8 hb8)
      rw [cl8 (k := b) hb8]
      obtain ⟨τ195, e195⟩ : ∃ x, x = setM σ 5 0 7 b (if (!(Stw S b)) = true then 1 else 0) := ⟨_, rfl⟩
      rw [← e195]
      have r195 : RepM (τ195 5 0) (withT S (fu (Stw S) b (!(Stw S b)))) := by rw [e195]; exact (repM_t (b := !(Stw S b)) hR)
      have f195 : Fr P1 σ τ195 := by rw [e195]; exact fr_set fr_rfl (by unfold P1; omega)
      refine AW.run 2 [] (65, [(0, .inr (.inr (5, 0, 0))), (1, .inl 116), (2, .inl (nI b)), (3, .inl x)], [.inl 1], τ195) [] rfl ?_ ?_
      · exact trivial
      refine AW.retz ⟨_, rfl⟩ rfl (by decide) ?_
      exact POM_y (o := o3 S b) (show o3 S b = some _ from if_pos hw) f195 r195
  · skip
    refine AW.run 2 [] (2, [(0, .inr (.inr (5, 0, 0))), (1, .inl 116), (2, .inl (nI b)), (3, .inl x)], [.inl (nI b), .inr (.inr (5, 0, 0))], σ) [] rfl ?_ ?_
    · exact trivial
    refine AW.callVI (d' := 0) [.inl (nI b)] [] ⟨_, rfl⟩ f_6_isBottle v_6_isBottle l_6_105 ⟨rfl, by decide⟩ rfl (Nat.le_of_ble_eq_true rfl) rfl (Nat.le_of_ble_eq_true rfl) (c6_isBottle0 (Sn S) σ e7 hn8 (nI b) (fun k hk q => hb (by rw [nI_lit q (by omega) (by omega)]; exact hk))) ?_
    rintro _ _ ⟨rfl, rfl⟩
    refine AW.run 2 [true] (17, [(0, .inr (.inr (5, 0, 0))), (1, .inl 116), (2, .inl (nI b)), (3, .inl x)], [.inl 0], σ) [icP .eq (0 : Int32) 0] rfl ?_ ?_
    · exact allP1 (by decide : ((0 : Int32) = 0))
    refine AW.retz ⟨_, rfl⟩ rfl (by decide) ?_
    exact POM_n (o := o3 S b) (show o3 S b = none from if_neg (by rw [w_out hO b (by omega)]; decide)) fr_rfl
set_option maxHeartbeats 4000000 in
set_option maxRecDepth 100000 in
theorem c6_comesOf111 (S : Sv) (σ : St) (hR : RepM (σ 5 0) S) (hO : SOK S) (b : Nat) (hb9 : b ≤ 9) (x : Int32) : Ct M6_comesOf 2 [.inr (.inr (5, 0, 0)), .inl 111, .inl (nI b), .inl x] σ (POM σ (o2 S b 0)) := by
  refine Ct.of f_6_comesOf (Nat.le_of_ble_eq_true rfl) ?_
  show AW M6_comesOf 2 _ (0, [(0, .inr (.inr (5, 0, 0))), (1, .inl 111), (2, .inl (nI b)), (3, .inl x)], [], σ)
  have hn8 : Sn S ≤ 8 := hO.1
  have e7 := hR.1.1
  by_cases hb : b < Sn S
  · have hb8 : b < 8 := by omega
    cases hw : Sw S b
    · skip
      refine AW.run 2 [] (2, [(0, .inr (.inr (5, 0, 0))), (1, .inl 111), (2, .inl (nI b)), (3, .inl x)], [.inl (nI b), .inr (.inr (5, 0, 0))], σ) [] rfl ?_ ?_
      · exact trivial
      refine AW.callVI (d' := 0) [.inl (nI b)] [] ⟨_, rfl⟩ f_6_isBottle v_6_isBottle l_6_105 ⟨rfl, by decide⟩ rfl (Nat.le_of_ble_eq_true rfl) rfl (Nat.le_of_ble_eq_true rfl) (c6_isBottle1 (Sn S) σ e7 hn8 b hb) ?_
      rintro _ _ ⟨rfl, rfl⟩
      refine AW.run 3 [false] (10, [(0, .inr (.inr (5, 0, 0))), (1, .inl 111), (2, .inl (nI b)), (3, .inl x)], [.inl (nI b), .inr (.inr (5, 0, 0))], σ) [¬ icP .eq (1 : Int32) 0] rfl ?_ ?_
      · exact allP1 (by decide : ¬ ((1 : Int32) = 0))
      refine AW.callVI (d' := 0) [.inl (nI b)] [] ⟨_, rfl⟩ f_6_isWhole v_6_isWhole l_6_108 ⟨rfl, by decide⟩ rfl (Nat.le_of_ble_eq_true rfl) rfl (Nat.le_of_ble_eq_true rfl) (c6_isWhole S σ hR hO.1 b hb) ?_
      rintro v _ ⟨rfl, hv⟩
      obtain rfl : v = 0 := by
        rcases hv with h | h
        · exact absurd (hw.symm.trans h.2) (by decide)
        · exact h.1
      refine AW.run 2 [false] (17, [(0, .inr (.inr (5, 0, 0))), (1, .inl 111), (2, .inl (nI b)), (3, .inl x)], [.inl 0], σ) [¬ icP .ne (0 : Int32) 0] rfl ?_ ?_
      · exact allP1 (by decide : ¬ (¬ (0 : Int32) = 0))
      refine AW.retz ⟨_, rfl⟩ rfl (by decide) ?_
      exact POM_n (o := o2 S b 0) (show o2 S b 0 = none from if_neg (by rw [hw]; decide)) fr_rfl
    · skip
      refine AW.run 2 [] (2, [(0, .inr (.inr (5, 0, 0))), (1, .inl 111), (2, .inl (nI b)), (3, .inl x)], [.inl (nI b), .inr (.inr (5, 0, 0))], σ) [] rfl ?_ ?_
      · exact trivial
      refine AW.callVI (d' := 0) [.inl (nI b)] [] ⟨_, rfl⟩ f_6_isBottle v_6_isBottle l_6_105 ⟨rfl, by decide⟩ rfl (Nat.le_of_ble_eq_true rfl) rfl (Nat.le_of_ble_eq_true rfl) (c6_isBottle1 (Sn S) σ e7 hn8 b hb) ?_
      rintro _ _ ⟨rfl, rfl⟩
      refine AW.run 3 [false] (10, [(0, .inr (.inr (5, 0, 0))), (1, .inl 111), (2, .inl (nI b)), (3, .inl x)], [.inl (nI b), .inr (.inr (5, 0, 0))], σ) [¬ icP .eq (1 : Int32) 0] rfl ?_ ?_
      · exact allP1 (by decide : ¬ ((1 : Int32) = 0))
      refine AW.callVI (d' := 0) [.inl (nI b)] [] ⟨_, rfl⟩ f_6_isWhole v_6_isWhole l_6_108 ⟨rfl, by decide⟩ rfl (Nat.le_of_ble_eq_true rfl) rfl (Nat.le_of_ble_eq_true rfl) (c6_isWhole S σ hR hO.1 b hb) ?_
      rintro v _ ⟨rfl, hv⟩
      obtain rfl : v = 1 := by
        rcases hv with h | h
        · exact h.1
        · exact absurd (hw.symm.trans h.2) (by decide)
      refine AW.run 12 [true, true, true] (64, [(0, .inr (.inr (5, 0, 0))), (1, .inl 111), (2, .inl (nI b)), (3, .inl x)], [], (setM σ 5 0 5 (nI b).toNatClampNeg 0)) [icP .ne (1 : Int32) 0, icP .ne (111 : Int32) 112, icP .ne (111 : Int32) 116, vp_in (nI b) 8] rfl ?_ ?_
      · exact ⟨(by decide : (¬ (1 : Int32) = 0)), (by decide : (¬ (111 : Int32) = 112)), (by decide : (¬ (111 : Int32) = 116)), allP1 (by exact in8 hb8)⟩
      rw [cl8 (k := b) hb8]
      obtain ⟨τ196, e196⟩ : ∃ x, x = setM σ 5 0 5 b 0 := ⟨_, rfl⟩
      rw [← e196]
      have r196 : RepM (τ196 5 0) (withQ S (fu (Sq S) b 0)) := by rw [e196]; exact (repM_q (q := 0) hR)
      have f196 : Fr P1 σ τ196 := by rw [e196]; exact fr_set fr_rfl (by unfold P1; omega)
      refine AW.run 1 [] (65, [(0, .inr (.inr (5, 0, 0))), (1, .inl 111), (2, .inl (nI b)), (3, .inl x)], [.inl 1], τ196) [] rfl ?_ ?_
      · exact trivial
      refine AW.retz ⟨_, rfl⟩ rfl (by decide) ?_
      exact POM_y (o := o2 S b 0) (show o2 S b 0 = some _ from if_pos hw) f196 r196
  · skip
    refine AW.run 2 [] (2, [(0, .inr (.inr (5, 0, 0))), (1, .inl 111), (2, .inl (nI b)), (3, .inl x)], [.inl (nI b), .inr (.inr (5, 0, 0))], σ) [] rfl ?_ ?_
    · exact trivial
    refine AW.callVI (d' := 0) [.inl (nI b)] [] ⟨_, rfl⟩ f_6_isBottle v_6_isBottle l_6_105 ⟨rfl, by decide⟩ rfl (Nat.le_of_ble_eq_true rfl) rfl (Nat.le_of_ble_eq_true rfl) (c6_isBottle0 (Sn S) σ e7 hn8 (nI b) (fun k hk q => hb (by rw [nI_lit q (by omega) (by omega)]; exact hk))) ?_
    rintro _ _ ⟨rfl, rfl⟩
    refine AW.run 2 [true] (17, [(0, .inr (.inr (5, 0, 0))), (1, .inl 111), (2, .inl (nI b)), (3, .inl x)], [.inl 0], σ) [icP .eq (0 : Int32) 0] rfl ?_ ?_
    · exact allP1 (by decide : ((0 : Int32) = 0))
    refine AW.retz ⟨_, rfl⟩ rfl (by decide) ?_
    exact POM_n (o := o2 S b 0) (show o2 S b 0 = none from if_neg (by rw [w_out hO b (by omega)]; decide)) fr_rfl
set_option maxHeartbeats 4000000 in
set_option maxRecDepth 100000 in
theorem c6_comesDays (S : Sv) (σ : St) (hR : RepM (σ 5 0) S) (hO : SOK S) (hd9 : Sd S ≤ 999) (n : Nat) (hn99 : n ≤ 99) : Ct M6_comesDays 6 [.inr (.inr (5, 0, 0)), .inl (nI n)] σ (POM σ (o4 S n)) := by
  refine Ct.of f_6_comesDays (Nat.le_of_ble_eq_true rfl) ?_
  show AW M6_comesDays 6 _ (0, [(0, .inr (.inr (5, 0, 0))), (1, .inl (nI n))], [], σ)
  have hn8 : Sn S ≤ 8 := hO.1
  by_cases h1 : 1 ≤ n ∧ n ≤ 60
  · by_cases h9 : Sd S + n ≤ 999
    · skip
      refine AW.run 3 [] (4, [(0, .inr (.inr (5, 0, 0))), (1, .inl (nI n))], [.inl 60, .inl 1, .inl (nI n)], σ) [] rfl ?_ ?_
      · exact trivial
      refine AW.callSI (d' := 0) [.inl (nI n), .inl 1, .inl 60] [] ⟨_, rfl⟩ f_6_isIn s_6_isIn l_6_80 rfl (Nat.le_of_ble_eq_true rfl) rfl (Nat.le_of_ble_eq_true rfl) (c6_isIn1 (nI n) 1 60 (nI_le (a := 1) h1.1 (by omega)) (nI_le (b := 60) h1.2 (by decide)) σ) ?_
      rintro _ _ ⟨rfl, rfl⟩
      refine AW.run 3 [false] (14, [(0, .inr (.inr (5, 0, 0))), (1, .inl (nI n))], [.inl (σ 5 0 0 10)], σ) [¬ icP .eq (1 : Int32) 0] rfl ?_ ?_
      · exact allP1 (by decide : ¬ ((1 : Int32) = 0))
      rw [hR.1.2.2.2]
      refine AW.run 2 [] (16, [(0, .inr (.inr (5, 0, 0))), (1, .inl (nI n))], [.inl ((nI (Sd S)) + (nI n))], σ) [] rfl ?_ ?_
      · exact trivial
      rw [nI_add]
      refine AW.run 4 [true] (26, [(0, .inr (.inr (5, 0, 0))), (1, .inl (nI n))], [.inl (nI n), .inr (.inr (5, 0, 0))], σ) [icP .le (nI (Sd S + n)) 999] rfl ?_ ?_
      · exact allP1 (nI_le h9 (by decide))
      refine AW.callVV (d' := 5) [.inl (nI n)] [] ⟨_, rfl⟩ f_6_goesAll v_6_goesAll l_6_114 ⟨rfl, by decide⟩ rfl (Nat.le_of_ble_eq_true rfl) rfl (Nat.le_of_ble_eq_true rfl) (c6_goesAll S σ hR hO n (by omega)) ?_
      rintro τ ⟨f1, r1⟩
      refine AW.run 1 [] (30, [(0, .inr (.inr (5, 0, 0))), (1, .inl (nI n))], [.inl 1], τ) [] rfl ?_ ?_
      · exact trivial
      refine AW.retz ⟨_, rfl⟩ rfl (by decide) ?_
      exact POM_y (o := o4 S n) (show o4 S n = some _ from if_pos ⟨h1.1, h1.2, h9⟩) f1 r1
    · skip
      refine AW.run 3 [] (4, [(0, .inr (.inr (5, 0, 0))), (1, .inl (nI n))], [.inl 60, .inl 1, .inl (nI n)], σ) [] rfl ?_ ?_
      · exact trivial
      refine AW.callSI (d' := 0) [.inl (nI n), .inl 1, .inl 60] [] ⟨_, rfl⟩ f_6_isIn s_6_isIn l_6_80 rfl (Nat.le_of_ble_eq_true rfl) rfl (Nat.le_of_ble_eq_true rfl) (c6_isIn1 (nI n) 1 60 (nI_le (a := 1) h1.1 (by omega)) (nI_le (b := 60) h1.2 (by decide)) σ) ?_
      rintro _ _ ⟨rfl, rfl⟩
      refine AW.run 3 [false] (14, [(0, .inr (.inr (5, 0, 0))), (1, .inl (nI n))], [.inl (σ 5 0 0 10)], σ) [¬ icP .eq (1 : Int32) 0] rfl ?_ ?_
      · exact allP1 (by decide : ¬ ((1 : Int32) = 0))
      rw [hR.1.2.2.2]
      refine AW.run 2 [] (16, [(0, .inr (.inr (5, 0, 0))), (1, .inl (nI n))], [.inl ((nI (Sd S)) + (nI n))], σ) [] rfl ?_ ?_
      · exact trivial
      rw [nI_add]
      refine AW.run 3 [false] (23, [(0, .inr (.inr (5, 0, 0))), (1, .inl (nI n))], [.inl 0], σ) [¬ icP .le (nI (Sd S + n)) 999] rfl ?_ ?_
      · exact allP1 (nle_lit (b := 999) (by omega) (by omega))
      refine AW.retz ⟨_, rfl⟩ rfl (by decide) ?_
      exact POM_n (o := o4 S n) (show o4 S n = none from if_neg (fun q => h9 q.2.2)) fr_rfl
  · skip
    refine AW.run 3 [] (4, [(0, .inr (.inr (5, 0, 0))), (1, .inl (nI n))], [.inl 60, .inl 1, .inl (nI n)], σ) [] rfl ?_ ?_
    · exact trivial
    refine AW.callSI (d' := 0) [.inl (nI n), .inl 1, .inl 60] [] ⟨_, rfl⟩ f_6_isIn s_6_isIn l_6_80 rfl (Nat.le_of_ble_eq_true rfl) rfl (Nat.le_of_ble_eq_true rfl) (c6_isIn0 (nI n) 1 60 (by
      rcases (show n < 1 ∨ 60 < n by omega) with q | q
      · exact Or.inl (nI_lt (b := 1) q (by decide))
      · exact Or.inr (nI_lt (a := 60) q (by omega))) σ) ?_
    rintro _ _ ⟨rfl, rfl⟩
    refine AW.run 2 [true] (23, [(0, .inr (.inr (5, 0, 0))), (1, .inl (nI n))], [.inl 0], σ) [icP .eq (0 : Int32) 0] rfl ?_ ?_
    · exact allP1 (by decide : ((0 : Int32) = 0))
    refine AW.retz ⟨_, rfl⟩ rfl (by decide) ?_
    exact POM_n (o := o4 S n) (show o4 S n = none from if_neg (fun q => h1 ⟨q.1, q.2.1⟩)) fr_rfl
