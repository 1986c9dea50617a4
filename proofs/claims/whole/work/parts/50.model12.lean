/-! FED, LEFT SO, PRESSED SO, GETS -/
def RowM (σ : St) (w : Nat → Nat) (m : Nat) : Prop := (m ≤ 12 ∧ ∀ i, w i ≤ 99) ∧ σ 5 0 0 24 = nI m ∧ ∀ i, i < m → σ 5 0 24 i = nI (w i)
theorem RowM.mv {σ τ : St} {w : Nat → Nat} {m : Nat} (h : RowM σ w m) (ho : Fr P2 σ τ) : RowM τ w m := ⟨h.1, by rw [fr_at ho (by unfold P2 P1; omega)]; exact h.2.1, fun i hi => by rw [fr_at ho (by unfold P2 P1; omega)]; exact h.2.2 i hi⟩
set_option maxHeartbeats 4000000 in
set_option maxRecDepth 100000 in
theorem c6_isReadyFed (S : Sv) (σ : St) (hR : RepM (σ 5 0) S) (hO : SOK S) (b v m : Nat) (hb : b < Sn S) (hv : v < 2 ^ 31) (hm : m < 2 ^ 31) : Ct M6_isReadyFed 5 [.inr (.inr (5, 0, 0)), .inl (nI b), .inl (nI v), .inl (nI m)] σ (PI fun r9 σ' => Fr P2 σ σ' ∧ RepM (σ' 5 0) S ∧ ((r9 = 1 ∧ swtN b v m 31 0 S = true) ∨ (r9 = 0 ∧ swtN b v m 31 0 S = false))) := by
  refine Ct.of f_6_isReadyFed (Nat.le_of_ble_eq_true rfl) ?_
  show AW M6_isReadyFed 5 _ (0, [(0, .inr (.inr (5, 0, 0))), (1, .inl (nI b)), (2, .inl (nI v)), (3, .inl (nI m))], [], σ)
  have hn8 : Sn S ≤ 8 := hO.1
  refine AW.run 1 [] (1, [(0, .inr (.inr (5, 0, 0))), (1, .inl (nI b)), (2, .inl (nI v)), (3, .inl (nI m))], [.inr (.inr (5, 0, 0))], σ) [] rfl ?_ ?_
  · exact trivial
  refine AW.callVV (d' := 2) [] [] ⟨_, rfl⟩ f_6_thinks v_6_thinks l_6_203 ⟨rfl, by decide⟩ rfl (Nat.le_of_ble_eq_true rfl) rfl (Nat.le_of_ble_eq_true rfl) (c6_thinks S σ hR hO.1) ?_
  rintro τ45 ⟨f45, r45, k45⟩
  refine AW.run 3 [] (7, [(0, .inr (.inr (5, 0, 0))), (1, .inl (nI b)), (2, .inl (nI v)), (3, .inl (nI m))], [.inl (nI v), .inl (nI b), .inr (.inr (5, 0, 0))], τ45) [] rfl ?_ ?_
  · exact trivial
  refine AW.callVI (d' := 1) [.inl (nI b), .inl (nI v)] [] ⟨_, rfl⟩ f_6_isReady v_6_isReady l_6_234 ⟨rfl, by decide⟩ rfl (Nat.le_of_ble_eq_true rfl) rfl (Nat.le_of_ble_eq_true rfl) (c6_isReady S τ45 r45 hO b v (by first | exact hb | (show b < Sn (dayS _); rw [day_n]; show b < Sn T; rw [hTn]; exact hb)) hv) ?_
  rintro v9 _ ⟨rfl, hv9⟩
  rcases hv9 with ⟨rfl, hp7⟩ | ⟨rfl, hp7⟩
  · skip
    refine AW.run 3 [] (15, [(5, .inl 0), (4, .inl 1), (0, .inr (.inr (5, 0, 0))), (1, .inl (nI b)), (2, .inl (nI v)), (3, .inl (nI m))], [], τ45) [] rfl ?_ ?_
    · exact trivial
    refine AW.pick [2, 3, 4, 5, 1, 0] (ls' := [(0, .inr (.inr (5, 0, 0))), (1, .inl (nI b)), (2, .inl (nI v)), (3, .inl (nI m)), (4, .inl 1), (5, .inl (nI 0))]) rfl ?_
    refine AW.run 6 [false, true] (62, [(0, .inr (.inr (5, 0, 0))), (1, .inl (nI b)), (2, .inl (nI v)), (3, .inl (nI m)), (4, .inl 1), (5, .inl (nI 0))], [.inr (.inr (5, 0, 0))], τ45) [¬ icP .ge (nI 0) 30, icP .ne (1 : Int32) 0] rfl ?_ ?_
    · exact ⟨(nle_lit (a := 30) (b := 0) (by decide) (by decide)), allP1 (by decide : (¬ (1 : Int32) = 0))⟩
    refine AW.callVV (d' := 2) [] [] ⟨_, rfl⟩ f_6_forgets v_6_forgets l_6_206 ⟨rfl, by decide⟩ rfl (Nat.le_of_ble_eq_true rfl) rfl (Nat.le_of_ble_eq_true rfl) (c6_forgets S τ45 (repK_fr hO.1 (fr_rfl (P := P1)) (fun k _ _ q => by unfold P1 at q; omega) k45) hO.1) ?_
    rintro τ46 ⟨f46, r46⟩
    refine AW.run 1 [] (67, [(0, .inr (.inr (5, 0, 0))), (1, .inl (nI b)), (2, .inl (nI v)), (3, .inl (nI m)), (4, .inl 1), (5, .inl (nI 0))], [.inl 1], τ46) [] rfl ?_ ?_
    · exact trivial
    refine AW.retz ⟨_, rfl⟩ rfl (by decide) ?_
    exact ⟨(fr_trans (fr_trans fr_rfl f45) f46), r46, Or.inl ⟨rfl, by show (if readyN S b v = true then true else _) = true; exact if_pos hp7⟩⟩
  · skip
    refine AW.run 3 [] (15, [(5, .inl 0), (4, .inl 0), (0, .inr (.inr (5, 0, 0))), (1, .inl (nI b)), (2, .inl (nI v)), (3, .inl (nI m))], [], τ45) [] rfl ?_ ?_
    · exact trivial
    refine AW.pick [2, 3, 4, 5, 1, 0] (ls' := [(0, .inr (.inr (5, 0, 0))), (1, .inl (nI b)), (2, .inl (nI v)), (3, .inl (nI m)), (4, .inl 0), (5, .inl (nI 0))]) rfl ?_
    refine AW.loop (α := Sv) 15 30 (fun d T => [(0, .inr (.inr (5, 0, 0))), (1, .inl (nI b)), (2, .inl (nI v)), (3, .inl (nI m)), (4, .inl 0), (5, .inl (nI d))]) (fun d T τ => Fr P1 τ45 τ ∧ RepM (τ 5 0) T ∧ SOK T ∧ Sn T = Sn S ∧ (readyN T b v = false ∧ swtN b v m 31 0 S = swtN b v m (31 - d) d T)) ?_ ?_ 30 0 S _ (by omega) ⟨(fr_rfl (P := P1)), r45, hO, rfl, ⟨hp7, rfl⟩⟩
    · intro d T τ hd hI hk
      obtain ⟨hF, hT, hOT, hTn, hg⟩ := hI
      have hu : swtN b v m (31 - d) d T = if readyN T b v = true then true else swtN b v m (31 - (d + 1)) (d + 1) (dayS (withU T (if d < m then 9 else 0) (She T))) := by
        obtain ⟨k, hk⟩ : ∃ k, 31 - d = k + 1 := ⟨30 - d, by omega⟩
        rw [hk, show 31 - (d + 1) = k by omega]; rfl
      rw [hu, if_neg (by rw [hg.1]; decide)] at hg
      by_cases h31_1 : d < m
      · skip
        refine AW.run 12 [false, false, false] (43, [(0, .inr (.inr (5, 0, 0))), (1, .inl (nI b)), (2, .inl (nI v)), (3, .inl (nI m)), (4, .inl 0), (5, .inl (nI d))], [], (setM τ 5 0 0 8 9)) [¬ icP .ge (nI d) 30, ¬ icP .ne (0 : Int32) 0, ¬ icP .ge (nI d) (nI m)] rfl ?_ ?_
        · exact ⟨(nle_lit (a := 30) hd (by decide)), (by decide : ¬ (¬ (0 : Int32) = 0)), allP1 (nI_ge h31_1 (by omega))⟩
        have hso : RepM ((setM τ 5 0 0 8 9) 5 0) (withU T 9 (She T)) := repM_s (u := 9) hT
        have hsO : SOK (withU T 9 (She T)) := SOK_U hOT (by decide) hOT.2.2.2.2
        refine AW.run 1 [] (44, [(0, .inr (.inr (5, 0, 0))), (1, .inl (nI b)), (2, .inl (nI v)), (3, .inl (nI m)), (4, .inl 0), (5, .inl (nI d))], [.inr (.inr (5, 0, 0))], (setM τ 5 0 0 8 9)) [] rfl ?_ ?_
        · exact trivial
        refine AW.callVV (d' := 4) [] [] ⟨_, rfl⟩ f_6_goesDay v_6_goesDay l_6_188 ⟨rfl, by decide⟩ rfl (Nat.le_of_ble_eq_true rfl) rfl (Nat.le_of_ble_eq_true rfl) (c6_goesDay (withU T 9 (She T)) (setM τ 5 0 0 8 9) hso hsO ) ?_
        rintro τ47 ⟨f47, r47⟩
        refine AW.run 3 [] (50, [(0, .inr (.inr (5, 0, 0))), (1, .inl (nI b)), (2, .inl (nI v)), (3, .inl (nI m)), (4, .inl 0), (5, .inl (nI d))], [.inl (nI v), .inl (nI b), .inr (.inr (5, 0, 0))], τ47) [] rfl ?_ ?_
        · exact trivial
        refine AW.callVI (d' := 1) [.inl (nI b), .inl (nI v)] [] ⟨_, rfl⟩ f_6_isReady v_6_isReady l_6_234 ⟨rfl, by decide⟩ rfl (Nat.le_of_ble_eq_true rfl) rfl (Nat.le_of_ble_eq_true rfl) (c6_isReady (dayS (withU T 9 (She T))) τ47 r47 (SOK_day hsO) b v (by first | exact hb | (show b < Sn (dayS _); rw [day_n]; show b < Sn T; rw [hTn]; exact hb)) hv) ?_
        rintro v9 _ ⟨rfl, hv9⟩
        rcases hv9 with ⟨rfl, hp50⟩ | ⟨rfl, hp50⟩
        · skip
          refine AW.run 3 [] (15, [(5, .inl ((nI d) + 1)), (4, .inl 1), (0, .inr (.inr (5, 0, 0))), (1, .inl (nI b)), (2, .inl (nI v)), (3, .inl (nI m))], [], τ47) [] rfl ?_ ?_
          · exact trivial
          rw [nI_1 d]
          refine AW.pick [2, 3, 4, 5, 1, 0] (ls' := [(0, .inr (.inr (5, 0, 0))), (1, .inl (nI b)), (2, .inl (nI v)), (3, .inl (nI m)), (4, .inl 1), (5, .inl (nI (d + 1)))]) rfl ?_
          by_cases h19_1 : (30 : Int32) ≤ (nI (d + 1))
          · skip
            refine AW.run 4 [true] (62, [(0, .inr (.inr (5, 0, 0))), (1, .inl (nI b)), (2, .inl (nI v)), (3, .inl (nI m)), (4, .inl 1), (5, .inl (nI (d + 1)))], [.inr (.inr (5, 0, 0))], τ47) [icP .ge (nI (d + 1)) 30] rfl ?_ ?_
            · exact allP1 (h19_1)
            refine AW.callVV (d' := 2) [] [] ⟨_, rfl⟩ f_6_forgets v_6_forgets l_6_206 ⟨rfl, by decide⟩ rfl (Nat.le_of_ble_eq_true rfl) rfl (Nat.le_of_ble_eq_true rfl) (c6_forgets S τ47 (repK_fr hO.1 (fr_trans (fr_set hF (p1_f (by omega) (by omega))) f47) (fun k _ _ q => by unfold P1 at q; omega) k45) hO.1) ?_
            rintro τ48 ⟨f48, r48⟩
            refine AW.run 1 [] (67, [(0, .inr (.inr (5, 0, 0))), (1, .inl (nI b)), (2, .inl (nI v)), (3, .inl (nI m)), (4, .inl 1), (5, .inl (nI (d + 1)))], [.inl 1], τ48) [] rfl ?_ ?_
            · exact trivial
            refine AW.retz ⟨_, rfl⟩ rfl (by decide) ?_
            exact ⟨(fr_trans (fr_trans (fr_set (fr_trans (fr_trans fr_rfl f45) (fr_12 hF)) (Or.inl (p1_f (by omega) (by omega)))) (fr_12 f47)) f48), r48, Or.inl ⟨rfl, by
              rw [hg.2]
              first | rw [if_pos (by assumption)] | rw [if_neg (by assumption)]
              obtain ⟨k, hk⟩ : ∃ k, 31 - (d + 1) = k + 1 := ⟨29 - d, by omega⟩
              rw [hk]
              unfold swtN
              rw [if_pos (by assumption)]⟩⟩
          · skip
            refine AW.run 6 [false, true] (62, [(0, .inr (.inr (5, 0, 0))), (1, .inl (nI b)), (2, .inl (nI v)), (3, .inl (nI m)), (4, .inl 1), (5, .inl (nI (d + 1)))], [.inr (.inr (5, 0, 0))], τ47) [¬ icP .ge (nI (d + 1)) 30, icP .ne (1 : Int32) 0] rfl ?_ ?_
            · exact ⟨(h19_1), allP1 (by decide : (¬ (1 : Int32) = 0))⟩
            refine AW.callVV (d' := 2) [] [] ⟨_, rfl⟩ f_6_forgets v_6_forgets l_6_206 ⟨rfl, by decide⟩ rfl (Nat.le_of_ble_eq_true rfl) rfl (Nat.le_of_ble_eq_true rfl) (c6_forgets S τ47 (repK_fr hO.1 (fr_trans (fr_set hF (p1_f (by omega) (by omega))) f47) (fun k _ _ q => by unfold P1 at q; omega) k45) hO.1) ?_
            rintro τ49 ⟨f49, r49⟩
            refine AW.run 1 [] (67, [(0, .inr (.inr (5, 0, 0))), (1, .inl (nI b)), (2, .inl (nI v)), (3, .inl (nI m)), (4, .inl 1), (5, .inl (nI (d + 1)))], [.inl 1], τ49) [] rfl ?_ ?_
            · exact trivial
            refine AW.retz ⟨_, rfl⟩ rfl (by decide) ?_
            exact ⟨(fr_trans (fr_trans (fr_set (fr_trans (fr_trans fr_rfl f45) (fr_12 hF)) (Or.inl (p1_f (by omega) (by omega)))) (fr_12 f47)) f49), r49, Or.inl ⟨rfl, by
              rw [hg.2]
              first | rw [if_pos (by assumption)] | rw [if_neg (by assumption)]
              obtain ⟨k, hk⟩ : ∃ k, 31 - (d + 1) = k + 1 := ⟨29 - d, by omega⟩
              rw [hk]
              unfold swtN
              rw [if_pos (by assumption)]⟩⟩
        · skip
          refine AW.run 3 [] (15, [(5, .inl ((nI d) + 1)), (4, .inl 0), (0, .inr (.inr (5, 0, 0))), (1, .inl (nI b)), (2, .inl (nI v)), (3, .inl (nI m))], [], τ47) [] rfl ?_ ?_
          · exact trivial
          rw [nI_1 d]
          refine AW.pick [2, 3, 4, 5, 1, 0] (ls' := [(0, .inr (.inr (5, 0, 0))), (1, .inl (nI b)), (2, .inl (nI v)), (3, .inl (nI m)), (4, .inl 0), (5, .inl (nI (d + 1)))]) rfl ?_
          exact hk (dayS (withU T 9 (She T))) _ ⟨(fr_trans (fr_set hF (p1_f (by omega) (by omega))) f47), r47, (SOK_day hsO), (by rw [day_n]; exact hTn), ⟨by assumption, by rw [hg.2]; first | rw [if_pos (by assumption)] | rw [if_neg (by assumption)]⟩⟩
      · skip
        refine AW.run 11 [false, false, true] (43, [(0, .inr (.inr (5, 0, 0))), (1, .inl (nI b)), (2, .inl (nI v)), (3, .inl (nI m)), (4, .inl 0), (5, .inl (nI d))], [], (setM τ 5 0 0 8 0)) [¬ icP .ge (nI d) 30, ¬ icP .ne (0 : Int32) 0, icP .ge (nI d) (nI m)] rfl ?_ ?_
        · exact ⟨(nle_lit (a := 30) hd (by decide)), (by decide : ¬ (¬ (0 : Int32) = 0)), allP1 (nI_le (by omega) (by omega))⟩
        have hso : RepM ((setM τ 5 0 0 8 0) 5 0) (withU T 0 (She T)) := repM_s (u := 0) hT
        have hsO : SOK (withU T 0 (She T)) := SOK_U hOT (by decide) hOT.2.2.2.2
        refine AW.run 1 [] (44, [(0, .inr (.inr (5, 0, 0))), (1, .inl (nI b)), (2, .inl (nI v)), (3, .inl (nI m)), (4, .inl 0), (5, .inl (nI d))], [.inr (.inr (5, 0, 0))], (setM τ 5 0 0 8 0)) [] rfl ?_ ?_
        · exact trivial
        refine AW.callVV (d' := 4) [] [] ⟨_, rfl⟩ f_6_goesDay v_6_goesDay l_6_188 ⟨rfl, by decide⟩ rfl (Nat.le_of_ble_eq_true rfl) rfl (Nat.le_of_ble_eq_true rfl) (c6_goesDay (withU T 0 (She T)) (setM τ 5 0 0 8 0) hso hsO ) ?_
        rintro τ50 ⟨f50, r50⟩
        refine AW.run 3 [] (50, [(0, .inr (.inr (5, 0, 0))), (1, .inl (nI b)), (2, .inl (nI v)), (3, .inl (nI m)), (4, .inl 0), (5, .inl (nI d))], [.inl (nI v), .inl (nI b), .inr (.inr (5, 0, 0))], τ50) [] rfl ?_ ?_
        · exact trivial
        refine AW.callVI (d' := 1) [.inl (nI b), .inl (nI v)] [] ⟨_, rfl⟩ f_6_isReady v_6_isReady l_6_234 ⟨rfl, by decide⟩ rfl (Nat.le_of_ble_eq_true rfl) rfl (Nat.le_of_ble_eq_true rfl) (c6_isReady (dayS (withU T 0 (She T))) τ50 r50 (SOK_day hsO) b v (by first | exact hb | (show b < Sn (dayS _); rw [day_n]; show b < Sn T; rw [hTn]; exact hb)) hv) ?_
        rintro v9 _ ⟨rfl, hv9⟩
        rcases hv9 with ⟨rfl, hp50⟩ | ⟨rfl, hp50⟩
        · skip
          refine AW.run 3 [] (15, [(5, .inl ((nI d) + 1)), (4, .inl 1), (0, .inr (.inr (5, 0, 0))), (1, .inl (nI b)), (2, .inl (nI v)), (3, .inl (nI m))], [], τ50) [] rfl ?_ ?_
          · exact trivial
          rw [nI_1 d]
          refine AW.pick [2, 3, 4, 5, 1, 0] (ls' := [(0, .inr (.inr (5, 0, 0))), (1, .inl (nI b)), (2, .inl (nI v)), (3, .inl (nI m)), (4, .inl 1), (5, .inl (nI (d + 1)))]) rfl ?_
          by_cases h19_1 : (30 : Int32) ≤ (nI (d + 1))
          · skip
            refine AW.run 4 [true] (62, [(0, .inr (.inr (5, 0, 0))), (1, .inl (nI b)), (2, .inl (nI v)), (3, .inl (nI m)), (4, .inl 1), (5, .inl (nI (d + 1)))], [.inr (.inr (5, 0, 0))], τ50) [icP .ge (nI (d + 1)) 30] rfl ?_ ?_
            · exact allP1 (h19_1)
            refine AW.callVV (d' := 2) [] [] ⟨_, rfl⟩ f_6_forgets v_6_forgets l_6_206 ⟨rfl, by decide⟩ rfl (Nat.le_of_ble_eq_true rfl) rfl (Nat.le_of_ble_eq_true rfl) (c6_forgets S τ50 (repK_fr hO.1 (fr_trans (fr_set hF (p1_f (by omega) (by omega))) f50) (fun k _ _ q => by unfold P1 at q; omega) k45) hO.1) ?_
            rintro τ51 ⟨f51, r51⟩
            refine AW.run 1 [] (67, [(0, .inr (.inr (5, 0, 0))), (1, .inl (nI b)), (2, .inl (nI v)), (3, .inl (nI m)), (4, .inl 1), (5, .inl (nI (d + 1)))], [.inl 1], τ51) [] rfl ?_ ?_
            · exact trivial
            refine AW.retz ⟨_, rfl⟩ rfl (by decide) ?_
            exact ⟨(fr_trans (fr_trans (fr_set (fr_trans (fr_trans fr_rfl f45) (fr_12 hF)) (Or.inl (p1_f (by omega) (by omega)))) (fr_12 f50)) f51), r51, Or.inl ⟨rfl, by
              rw [hg.2]
              first | rw [if_pos (by assumption)] | rw [if_neg (by assumption)]
              obtain ⟨k, hk⟩ : ∃ k, 31 - (d + 1) = k + 1 := ⟨29 - d, by omega⟩
              rw [hk]
              unfold swtN
              rw [if_pos (by assumption)]⟩⟩
          · skip
            refine AW.run 6 [false, true] (62, [(0, .inr (.inr (5, 0, 0))), (1, .inl (nI b)), (2, .inl (nI v)), (3, .inl (nI m)), (4, .inl 1), (5, .inl (nI (d + 1)))], [.inr (.inr (5, 0, 0))], τ50) [¬ icP .ge (nI (d + 1)) 30, icP .ne (1 : Int32) 0] rfl ?_ ?_
            · exact ⟨(h19_1), allP1 (by decide : (¬ (1 : Int32) = 0))⟩
            refine AW.callVV (d' := 2) [] [] ⟨_, rfl⟩ f_6_forgets v_6_forgets l_6_206 ⟨rfl, by decide⟩ rfl (Nat.le_of_ble_eq_true rfl) rfl (Nat.le_of_ble_eq_true rfl) (c6_forgets S τ50 (repK_fr hO.1 (fr_trans (fr_set hF (p1_f (by omega) (by omega))) f50) (fun k _ _ q => by unfold P1 at q; omega) k45) hO.1) ?_
            rintro τ52 ⟨f52, r52⟩
            refine AW.run 1 [] (67, [(0, .inr (.inr (5, 0, 0))), (1, .inl (nI b)), (2, .inl (nI v)), (3, .inl (nI m)), (4, .inl 1), (5, .inl (nI (d + 1)))], [.inl 1], τ52) [] rfl ?_ ?_
            · exact trivial
            refine AW.retz ⟨_, rfl⟩ rfl (by decide) ?_
            exact ⟨(fr_trans (fr_trans (fr_set (fr_trans (fr_trans fr_rfl f45) (fr_12 hF)) (Or.inl (p1_f (by omega) (by omega)))) (fr_12 f50)) f52), r52, Or.inl ⟨rfl, by
              rw [hg.2]
              first | rw [if_pos (by assumption)] | rw [if_neg (by assumption)]
              obtain ⟨k, hk⟩ : ∃ k, 31 - (d + 1) = k + 1 := ⟨29 - d, by omega⟩
              rw [hk]
              unfold swtN
              rw [if_pos (by assumption)]⟩⟩
        · skip
          refine AW.run 3 [] (15, [(5, .inl ((nI d) + 1)), (4, .inl 0), (0, .inr (.inr (5, 0, 0))), (1, .inl (nI b)), (2, .inl (nI v)), (3, .inl (nI m))], [], τ50) [] rfl ?_ ?_
          · exact trivial
          rw [nI_1 d]
          refine AW.pick [2, 3, 4, 5, 1, 0] (ls' := [(0, .inr (.inr (5, 0, 0))), (1, .inl (nI b)), (2, .inl (nI v)), (3, .inl (nI m)), (4, .inl 0), (5, .inl (nI (d + 1)))]) rfl ?_
          exact hk (dayS (withU T 0 (She T))) _ ⟨(fr_trans (fr_set hF (p1_f (by omega) (by omega))) f50), r50, (SOK_day hsO), (by rw [day_n]; exact hTn), ⟨by assumption, by rw [hg.2]; first | rw [if_pos (by assumption)] | rw [if_neg (by assumption)]⟩⟩
    · intro T τ hI
      obtain ⟨hF, hT, hOT, hTn, hg⟩ := hI
      refine AW.run 4 [true] (62, [(0, .inr (.inr (5, 0, 0))), (1, .inl (nI b)), (2, .inl (nI v)), (3, .inl (nI m)), (4, .inl 0), (5, .inl (nI 30))], [.inr (.inr (5, 0, 0))], τ) [icP .ge (nI 30) 30] rfl ?_ ?_
      · exact allP1 (le_lit (a := 30) (b := 30) (by decide) (by decide))
      refine AW.callVV (d' := 2) [] [] ⟨_, rfl⟩ f_6_forgets v_6_forgets l_6_206 ⟨rfl, by decide⟩ rfl (Nat.le_of_ble_eq_true rfl) rfl (Nat.le_of_ble_eq_true rfl) (c6_forgets S τ (repK_fr hO.1 hF (fun k _ _ q => by unfold P1 at q; omega) k45) hO.1) ?_
      rintro τ53 ⟨f53, r53⟩
      refine AW.run 1 [] (67, [(0, .inr (.inr (5, 0, 0))), (1, .inl (nI b)), (2, .inl (nI v)), (3, .inl (nI m)), (4, .inl 0), (5, .inl (nI 30))], [.inl 0], τ53) [] rfl ?_ ?_
      · exact trivial
      refine AW.retz ⟨_, rfl⟩ rfl (by decide) ?_
      exact ⟨(fr_trans (fr_trans (fr_trans fr_rfl f45) (fr_12 hF)) f53), r53, Or.inr ⟨rfl, by
        rw [hg.2]
        show (if readyN T b v = true then true else false) = false
        rw [if_neg (by rw [hg.1]; decide)]⟩⟩
set_option maxHeartbeats 4000000 in
set_option maxRecDepth 100000 in
theorem c6_isLeftSo (S : Sv) (σ : St) (hR : RepM (σ 5 0) S) (hO : SOK S) (b : Nat) (hb : b < Sn S) (w : Nat → Nat) (m : Nat) (hW : RowM σ w m) : Ct M6_isLeftSo 5 [.inr (.inr (5, 0, 0)), .inl (nI b)] σ (PI fun r9 σ' => Fr P2 σ σ' ∧ RepM (σ' 5 0) S ∧ ((r9 = 1 ∧ lvN w m 0 (settleS 8 (burstS S b)) = true) ∨ (r9 = 0 ∧ lvN w m 0 (settleS 8 (burstS S b)) = false))) := by
  refine Ct.of f_6_isLeftSo (Nat.le_of_ble_eq_true rfl) ?_
  show AW M6_isLeftSo 5 _ (0, [(0, .inr (.inr (5, 0, 0))), (1, .inl (nI b))], [], σ)
  have hn8 : Sn S ≤ 8 := hO.1
  have hm12 := hW.1.1
  refine AW.run 1 [] (1, [(0, .inr (.inr (5, 0, 0))), (1, .inl (nI b))], [.inr (.inr (5, 0, 0))], σ) [] rfl ?_ ?_
  · exact trivial
  refine AW.callVV (d' := 2) [] [] ⟨_, rfl⟩ f_6_thinks v_6_thinks l_6_203 ⟨rfl, by decide⟩ rfl (Nat.le_of_ble_eq_true rfl) rfl (Nat.le_of_ble_eq_true rfl) (c6_thinks S σ hR hO.1) ?_
  rintro τ54 ⟨f54, r54, k54⟩
  refine AW.run 2 [] (6, [(0, .inr (.inr (5, 0, 0))), (1, .inl (nI b))], [.inl (nI b), .inr (.inr (5, 0, 0))], τ54) [] rfl ?_ ?_
  · exact trivial
  refine AW.callVV (d' := 2) [.inl (nI b)] [] ⟨_, rfl⟩ f_6_bursts v_6_bursts l_6_179 ⟨rfl, by decide⟩ rfl (Nat.le_of_ble_eq_true rfl) rfl (Nat.le_of_ble_eq_true rfl) (c6_bursts S τ54 r54 hO b hb) ?_
  rintro τ55 ⟨f55, r55⟩
  refine AW.run 1 [] (10, [(0, .inr (.inr (5, 0, 0))), (1, .inl (nI b))], [.inr (.inr (5, 0, 0))], τ55) [] rfl ?_ ?_
  · exact trivial
  refine AW.callVV (d' := 3) [] [] ⟨_, rfl⟩ f_6_burstsAll v_6_burstsAll l_6_185 ⟨rfl, by decide⟩ rfl (Nat.le_of_ble_eq_true rfl) rfl (Nat.le_of_ble_eq_true rfl) (c6_burstsAll (burstS S b) τ55 r55 (SOK_burst (b := b) hO) ) ?_
  rintro τ56 ⟨f56, r56⟩
  refine AW.run 4 [] (17, [(3, .inl 0), (2, .inl 1), (0, .inr (.inr (5, 0, 0))), (1, .inl (nI b))], [], τ56) [] rfl ?_ ?_
  · exact trivial
  refine AW.pick [2, 3, 1, 0] (ls' := [(0, .inr (.inr (5, 0, 0))), (1, .inl (nI b)), (2, .inl 1), (3, .inl (nI 0))]) rfl ?_
  refine AW.loop (α := Sv) 17 (m) (fun d T => [(0, .inr (.inr (5, 0, 0))), (1, .inl (nI b)), (2, .inl 1), (3, .inl (nI d))]) (fun d T τ => Fr P1 τ54 τ ∧ RepM (τ 5 0) T ∧ SOK T ∧ True ∧ lvN w m 0 (settleS 8 (burstS S b)) = lvN w (m - d) d T) ?_ ?_ (m) 0 (settleS 8 (burstS S b)) _ (by omega) ⟨(fr_trans (fr_trans (fr_rfl (P := P1)) f55) f56), r56, (SOK_settle 8 (SOK_burst (b := b) hO)), trivial, rfl⟩
  · intro d T τ hd hI hk
    obtain ⟨hF, hT, hOT, hTn, hg⟩ := hI
    have hu : lvN w (m - d) d T = if cN (Sw T) = w d then lvN w (m - (d + 1)) (d + 1) (dayS T) else false := by
      obtain ⟨k, hk⟩ : ∃ k, m - d = k + 1 := ⟨m - d - 1, by omega⟩
      rw [hk, show m - (d + 1) = k by omega]; rfl
    have hc8 := cN_le (Sw T)
    have hw9 := hW.1.2 d
    refine AW.run 3 [] (22, [(0, .inr (.inr (5, 0, 0))), (1, .inl (nI b)), (2, .inl 1), (3, .inl (nI d))], [.inl (τ 5 0 0 24), .inl (nI d)], τ) [] rfl ?_ ?_
    · exact trivial
    rw [(hW.mv (fr_trans (fr_trans fr_rfl f54) (fr_12 hF))).2.1]
    refine AW.run 4 [false, false] (30, [(0, .inr (.inr (5, 0, 0))), (1, .inl (nI b)), (2, .inl 1), (3, .inl (nI d))], [.inr (.inr (5, 0, 0))], τ) [¬ icP .ge (nI d) (nI m), ¬ icP .eq (1 : Int32) 0] rfl ?_ ?_
    · exact ⟨(nI_ge hd (by omega)), allP1 (by decide : ¬ ((1 : Int32) = 0))⟩
    refine AW.callVI (d' := 1) [] [] ⟨_, rfl⟩ f_6_whole v_6_whole l_6_197 ⟨rfl, by decide⟩ rfl (Nat.le_of_ble_eq_true rfl) rfl (Nat.le_of_ble_eq_true rfl) (c6_whole T τ hT hOT) ?_
    rintro _ _ ⟨rfl, rfl⟩
    refine AW.callSI (d' := 0) [.inl (bI (Sw T))] [] ⟨_, rfl⟩ f_6_bits s_6_bits l_6_200 rfl (Nat.le_of_ble_eq_true rfl) rfl (Nat.le_of_ble_eq_true rfl) (c6_bits (bI (Sw T)) τ) ?_
    rintro _ _ ⟨rfl, rfl⟩
    rw [btV_bI]
    refine AW.run 4 [] (42, [(0, .inr (.inr (5, 0, 0))), (1, .inl (nI b)), (2, .inl 1), (3, .inl (nI d))], [.inl (τ 5 0 24 (nI d).toNatClampNeg), .inl (nI (cN (Sw T)))], τ) [vp_in (nI d) 12] rfl ?_ ?_
    · exact allP1 (by exact vp_in_nI (by omega) (by decide))
    rw [nI_clamp (n := d) (by omega), (hW.mv (fr_trans (fr_trans fr_rfl f54) (fr_12 hF))).2.2 d hd]
    by_cases h42_1 : cN (Sw T) = w d
    · skip
      refine AW.run 5 [false] (52, [(2, .inl 1), (0, .inr (.inr (5, 0, 0))), (1, .inl (nI b)), (3, .inl (nI d))], [.inr (.inr (5, 0, 0))], τ) [¬ icP .ne (nI (cN (Sw T))) (nI (w d))] rfl ?_ ?_
      · exact allP1 (fun q => q (congrArg nI h42_1))
      refine AW.callVV (d' := 4) [] [] ⟨_, rfl⟩ f_6_goesDay v_6_goesDay l_6_188 ⟨rfl, by decide⟩ rfl (Nat.le_of_ble_eq_true rfl) rfl (Nat.le_of_ble_eq_true rfl) (c6_goesDay T τ hT hOT ) ?_
      rintro τ57 ⟨f57, r57⟩
      refine AW.run 2 [] (17, [(3, .inl ((nI d) + 1)), (2, .inl 1), (0, .inr (.inr (5, 0, 0))), (1, .inl (nI b))], [], τ57) [] rfl ?_ ?_
      · exact trivial
      rw [nI_1 d]
      refine AW.pick [2, 3, 1, 0] (ls' := [(0, .inr (.inr (5, 0, 0))), (1, .inl (nI b)), (2, .inl 1), (3, .inl (nI (d + 1)))]) rfl ?_
      exact hk (dayS T) _ ⟨(fr_trans hF f57), r57, (SOK_day hOT), trivial, by rw [hg, hu, if_pos (by assumption)]⟩
    · skip
      refine AW.run 4 [true] (52, [(2, .inl 0), (0, .inr (.inr (5, 0, 0))), (1, .inl (nI b)), (3, .inl (nI d))], [.inr (.inr (5, 0, 0))], τ) [icP .ne (nI (cN (Sw T))) (nI (w d))] rfl ?_ ?_
      · exact allP1 (fun q => h42_1 (nI_lit q (by omega) (by omega)))
      refine AW.callVV (d' := 4) [] [] ⟨_, rfl⟩ f_6_goesDay v_6_goesDay l_6_188 ⟨rfl, by decide⟩ rfl (Nat.le_of_ble_eq_true rfl) rfl (Nat.le_of_ble_eq_true rfl) (c6_goesDay T τ hT hOT ) ?_
      rintro τ58 ⟨f58, r58⟩
      refine AW.run 2 [] (17, [(3, .inl ((nI d) + 1)), (2, .inl 0), (0, .inr (.inr (5, 0, 0))), (1, .inl (nI b))], [], τ58) [] rfl ?_ ?_
      · exact trivial
      rw [nI_1 d]
      refine AW.pick [2, 3, 1, 0] (ls' := [(0, .inr (.inr (5, 0, 0))), (1, .inl (nI b)), (2, .inl 0), (3, .inl (nI (d + 1)))]) rfl ?_
      refine AW.run 3 [] (22, [(0, .inr (.inr (5, 0, 0))), (1, .inl (nI b)), (2, .inl 0), (3, .inl (nI (d + 1)))], [.inl (τ58 5 0 0 24), .inl (nI (d + 1))], τ58) [] rfl ?_ ?_
      · exact trivial
      rw [(hW.mv (fr_trans (fr_trans (fr_trans fr_rfl f54) (fr_12 hF)) (fr_12 f58))).2.1]
      by_cases h22_1 : (nI m : Int32) ≤ (nI (d + 1))
      · skip
        refine AW.run 2 [true] (62, [(0, .inr (.inr (5, 0, 0))), (1, .inl (nI b)), (2, .inl 0), (3, .inl (nI (d + 1)))], [.inr (.inr (5, 0, 0))], τ58) [icP .ge (nI (d + 1)) (nI m)] rfl ?_ ?_
        · exact allP1 (h22_1)
        refine AW.callVV (d' := 2) [] [] ⟨_, rfl⟩ f_6_forgets v_6_forgets l_6_206 ⟨rfl, by decide⟩ rfl (Nat.le_of_ble_eq_true rfl) rfl (Nat.le_of_ble_eq_true rfl) (c6_forgets S τ58 (repK_fr hO.1 (fr_trans hF f58) (fun k _ _ q => by unfold P1 at q; omega) k54) hO.1) ?_
        rintro τ59 ⟨f59, r59⟩
        refine AW.run 1 [] (66, [(0, .inr (.inr (5, 0, 0))), (1, .inl (nI b)), (2, .inl 0), (3, .inl (nI (d + 1)))], [.inl 0], τ59) [] rfl ?_ ?_
        · exact trivial
        refine AW.retz ⟨_, rfl⟩ rfl (by decide) ?_
        exact ⟨(fr_trans (fr_trans (fr_trans (fr_trans fr_rfl f54) (fr_12 hF)) (fr_12 f58)) f59), r59, Or.inr ⟨rfl, by rw [hg, hu, if_neg (by assumption)]⟩⟩
      · skip
        refine AW.run 4 [false, true] (62, [(0, .inr (.inr (5, 0, 0))), (1, .inl (nI b)), (2, .inl 0), (3, .inl (nI (d + 1)))], [.inr (.inr (5, 0, 0))], τ58) [¬ icP .ge (nI (d + 1)) (nI m), icP .eq (0 : Int32) 0] rfl ?_ ?_
        · exact ⟨(h22_1), allP1 (by decide : ((0 : Int32) = 0))⟩
        refine AW.callVV (d' := 2) [] [] ⟨_, rfl⟩ f_6_forgets v_6_forgets l_6_206 ⟨rfl, by decide⟩ rfl (Nat.le_of_ble_eq_true rfl) rfl (Nat.le_of_ble_eq_true rfl) (c6_forgets S τ58 (repK_fr hO.1 (fr_trans hF f58) (fun k _ _ q => by unfold P1 at q; omega) k54) hO.1) ?_
        rintro τ60 ⟨f60, r60⟩
        refine AW.run 1 [] (66, [(0, .inr (.inr (5, 0, 0))), (1, .inl (nI b)), (2, .inl 0), (3, .inl (nI (d + 1)))], [.inl 0], τ60) [] rfl ?_ ?_
        · exact trivial
        refine AW.retz ⟨_, rfl⟩ rfl (by decide) ?_
        exact ⟨(fr_trans (fr_trans (fr_trans (fr_trans fr_rfl f54) (fr_12 hF)) (fr_12 f58)) f60), r60, Or.inr ⟨rfl, by rw [hg, hu, if_neg (by assumption)]⟩⟩
  · intro T τ hI
    obtain ⟨hF, hT, hOT, hTn, hg⟩ := hI
    refine AW.run 3 [] (22, [(0, .inr (.inr (5, 0, 0))), (1, .inl (nI b)), (2, .inl 1), (3, .inl (nI (m)))], [.inl (τ 5 0 0 24), .inl (nI (m))], τ) [] rfl ?_ ?_
    · exact trivial
    rw [(hW.mv (fr_trans (fr_trans fr_rfl f54) (fr_12 hF))).2.1]
    refine AW.run 2 [true] (62, [(0, .inr (.inr (5, 0, 0))), (1, .inl (nI b)), (2, .inl 1), (3, .inl (nI (m)))], [.inr (.inr (5, 0, 0))], τ) [icP .ge (nI (m)) (nI m)] rfl ?_ ?_
    · exact allP1 (nI_le (Nat.le_refl _) (by omega))
    refine AW.callVV (d' := 2) [] [] ⟨_, rfl⟩ f_6_forgets v_6_forgets l_6_206 ⟨rfl, by decide⟩ rfl (Nat.le_of_ble_eq_true rfl) rfl (Nat.le_of_ble_eq_true rfl) (c6_forgets S τ (repK_fr hO.1 hF (fun k _ _ q => by unfold P1 at q; omega) k54) hO.1) ?_
    rintro τ61 ⟨f61, r61⟩
    refine AW.run 1 [] (66, [(0, .inr (.inr (5, 0, 0))), (1, .inl (nI b)), (2, .inl 1), (3, .inl (nI (m)))], [.inl 1], τ61) [] rfl ?_ ?_
    · exact trivial
    refine AW.retz ⟨_, rfl⟩ rfl (by decide) ?_
    exact ⟨(fr_trans (fr_trans (fr_trans fr_rfl f54) (fr_12 hF)) f61), r61, Or.inl ⟨rfl, by rw [hg, Nat.sub_self]; rfl⟩⟩
set_option maxHeartbeats 4000000 in
set_option maxRecDepth 100000 in
theorem c6_isPressedSo (S : Sv) (σ : St) (hR : RepM (σ 5 0) S) (hO : SOK S) (b : Nat) (hb : b < Sn S) (w : Nat → Nat) (m : Nat) (hW : RowM σ w m) : Ct M6_isPressedSo 5 [.inr (.inr (5, 0, 0)), .inl (nI b)] σ (PI fun r9 σ' => Fr P2 σ σ' ∧ RepM (σ' 5 0) S ∧ ((r9 = 1 ∧ prN w b m 0 S = true) ∨ (r9 = 0 ∧ prN w b m 0 S = false))) := by
  refine Ct.of f_6_isPressedSo (Nat.le_of_ble_eq_true rfl) ?_
  show AW M6_isPressedSo 5 _ (0, [(0, .inr (.inr (5, 0, 0))), (1, .inl (nI b))], [], σ)
  have hn8 : Sn S ≤ 8 := hO.1
  have hm12 := hW.1.1
  have hb8 : b < 8 := by omega
  refine AW.run 1 [] (1, [(0, .inr (.inr (5, 0, 0))), (1, .inl (nI b))], [.inr (.inr (5, 0, 0))], σ) [] rfl ?_ ?_
  · exact trivial
  refine AW.callVV (d' := 2) [] [] ⟨_, rfl⟩ f_6_thinks v_6_thinks l_6_203 ⟨rfl, by decide⟩ rfl (Nat.le_of_ble_eq_true rfl) rfl (Nat.le_of_ble_eq_true rfl) (c6_thinks S σ hR hO.1) ?_
  rintro τ62 ⟨f62, r62, k62⟩
  refine AW.run 4 [] (8, [(3, .inl 0), (2, .inl 1), (0, .inr (.inr (5, 0, 0))), (1, .inl (nI b))], [], τ62) [] rfl ?_ ?_
  · exact trivial
  refine AW.pick [2, 3, 1, 0] (ls' := [(0, .inr (.inr (5, 0, 0))), (1, .inl (nI b)), (2, .inl 1), (3, .inl (nI 0))]) rfl ?_
  refine AW.loop (α := Sv) 8 (m) (fun d T => [(0, .inr (.inr (5, 0, 0))), (1, .inl (nI b)), (2, .inl 1), (3, .inl (nI d))]) (fun d T τ => Fr P1 τ62 τ ∧ RepM (τ 5 0) T ∧ SOK T ∧ Sn T = Sn S ∧ prN w b m 0 S = prN w b (m - d) d T) ?_ ?_ (m) 0 S _ (by omega) ⟨(fr_rfl (P := P1)), r62, hO, rfl, rfl⟩
  · intro d T τ hd hI hk
    obtain ⟨hF, hT, hOT, hTn, hg⟩ := hI
    have hu : prN w b (m - d) d T = if Sq T b = w d then prN w b (m - (d + 1)) (d + 1) (dayS T) else false := by
      obtain ⟨k, hk⟩ : ∃ k, m - d = k + 1 := ⟨m - d - 1, by omega⟩
      rw [hk, show m - (d + 1) = k by omega]; rfl
    have hc8 := (hOT.2.1 b).2.2.2
    have hw9 := hW.1.2 d
    refine AW.run 3 [] (13, [(0, .inr (.inr (5, 0, 0))), (1, .inl (nI b)), (2, .inl 1), (3, .inl (nI d))], [.inl (τ 5 0 0 24), .inl (nI d)], τ) [] rfl ?_ ?_
    · exact trivial
    rw [(hW.mv (fr_trans (fr_trans fr_rfl f62) (fr_12 hF))).2.1]
    refine AW.run 7 [false, false] (26, [(0, .inr (.inr (5, 0, 0))), (1, .inl (nI b)), (2, .inl 1), (3, .inl (nI d))], [.inl (τ 5 0 5 (nI b).toNatClampNeg)], τ) [¬ icP .ge (nI d) (nI m), ¬ icP .eq (1 : Int32) 0, vp_in (nI b) 8] rfl ?_ ?_
    · exact ⟨(nI_ge hd (by omega)), (by decide : ¬ ((1 : Int32) = 0)), allP1 (by first | exact in8 hb8 | exact vp_in_nI (by omega) (by decide))⟩
    rw [cl8 (k := b) hb8, (hT.2 b (by rw [hTn]; exact hb)).2.2.2.1]
    refine AW.run 4 [] (32, [(0, .inr (.inr (5, 0, 0))), (1, .inl (nI b)), (2, .inl 1), (3, .inl (nI d))], [.inl (τ 5 0 24 (nI d).toNatClampNeg), .inl (nI (Sq T b))], τ) [vp_in (nI d) 12] rfl ?_ ?_
    · exact allP1 (by first | exact in8 hb8 | exact vp_in_nI (by omega) (by decide))
    rw [nI_clamp (n := d) (by omega), (hW.mv (fr_trans (fr_trans fr_rfl f62) (fr_12 hF))).2.2 d hd]
    by_cases h32_1 : Sq T b = w d
    · skip
      refine AW.run 5 [false] (42, [(2, .inl 1), (0, .inr (.inr (5, 0, 0))), (1, .inl (nI b)), (3, .inl (nI d))], [.inr (.inr (5, 0, 0))], τ) [¬ icP .ne (nI (Sq T b)) (nI (w d))] rfl ?_ ?_
      · exact allP1 (fun q => q (congrArg nI h32_1))
      refine AW.callVV (d' := 4) [] [] ⟨_, rfl⟩ f_6_goesDay v_6_goesDay l_6_188 ⟨rfl, by decide⟩ rfl (Nat.le_of_ble_eq_true rfl) rfl (Nat.le_of_ble_eq_true rfl) (c6_goesDay T τ hT hOT ) ?_
      rintro τ63 ⟨f63, r63⟩
      refine AW.run 2 [] (8, [(3, .inl ((nI d) + 1)), (2, .inl 1), (0, .inr (.inr (5, 0, 0))), (1, .inl (nI b))], [], τ63) [] rfl ?_ ?_
      · exact trivial
      rw [nI_1 d]
      refine AW.pick [2, 3, 1, 0] (ls' := [(0, .inr (.inr (5, 0, 0))), (1, .inl (nI b)), (2, .inl 1), (3, .inl (nI (d + 1)))]) rfl ?_
      exact hk (dayS T) _ ⟨(fr_trans hF f63), r63, (SOK_day hOT), (by rw [day_n]; exact hTn), by rw [hg, hu, if_pos (by assumption)]⟩
    · skip
      refine AW.run 4 [true] (42, [(2, .inl 0), (0, .inr (.inr (5, 0, 0))), (1, .inl (nI b)), (3, .inl (nI d))], [.inr (.inr (5, 0, 0))], τ) [icP .ne (nI (Sq T b)) (nI (w d))] rfl ?_ ?_
      · exact allP1 (fun q => h32_1 (nI_lit q (by omega) (by omega)))
      refine AW.callVV (d' := 4) [] [] ⟨_, rfl⟩ f_6_goesDay v_6_goesDay l_6_188 ⟨rfl, by decide⟩ rfl (Nat.le_of_ble_eq_true rfl) rfl (Nat.le_of_ble_eq_true rfl) (c6_goesDay T τ hT hOT ) ?_
      rintro τ64 ⟨f64, r64⟩
      refine AW.run 2 [] (8, [(3, .inl ((nI d) + 1)), (2, .inl 0), (0, .inr (.inr (5, 0, 0))), (1, .inl (nI b))], [], τ64) [] rfl ?_ ?_
      · exact trivial
      rw [nI_1 d]
      refine AW.pick [2, 3, 1, 0] (ls' := [(0, .inr (.inr (5, 0, 0))), (1, .inl (nI b)), (2, .inl 0), (3, .inl (nI (d + 1)))]) rfl ?_
      refine AW.run 3 [] (13, [(0, .inr (.inr (5, 0, 0))), (1, .inl (nI b)), (2, .inl 0), (3, .inl (nI (d + 1)))], [.inl (τ64 5 0 0 24), .inl (nI (d + 1))], τ64) [] rfl ?_ ?_
      · exact trivial
      rw [(hW.mv (fr_trans (fr_trans (fr_trans fr_rfl f62) (fr_12 hF)) (fr_12 f64))).2.1]
      by_cases h13_1 : (nI m : Int32) ≤ (nI (d + 1))
      · skip
        refine AW.run 2 [true] (52, [(0, .inr (.inr (5, 0, 0))), (1, .inl (nI b)), (2, .inl 0), (3, .inl (nI (d + 1)))], [.inr (.inr (5, 0, 0))], τ64) [icP .ge (nI (d + 1)) (nI m)] rfl ?_ ?_
        · exact allP1 (h13_1)
        refine AW.callVV (d' := 2) [] [] ⟨_, rfl⟩ f_6_forgets v_6_forgets l_6_206 ⟨rfl, by decide⟩ rfl (Nat.le_of_ble_eq_true rfl) rfl (Nat.le_of_ble_eq_true rfl) (c6_forgets S τ64 (repK_fr hO.1 (fr_trans hF f64) (fun k _ _ q => by unfold P1 at q; omega) k62) hO.1) ?_
        rintro τ65 ⟨f65, r65⟩
        refine AW.run 1 [] (56, [(0, .inr (.inr (5, 0, 0))), (1, .inl (nI b)), (2, .inl 0), (3, .inl (nI (d + 1)))], [.inl 0], τ65) [] rfl ?_ ?_
        · exact trivial
        refine AW.retz ⟨_, rfl⟩ rfl (by decide) ?_
        exact ⟨(fr_trans (fr_trans (fr_trans (fr_trans fr_rfl f62) (fr_12 hF)) (fr_12 f64)) f65), r65, Or.inr ⟨rfl, by rw [hg, hu, if_neg (by assumption)]⟩⟩
      · skip
        refine AW.run 4 [false, true] (52, [(0, .inr (.inr (5, 0, 0))), (1, .inl (nI b)), (2, .inl 0), (3, .inl (nI (d + 1)))], [.inr (.inr (5, 0, 0))], τ64) [¬ icP .ge (nI (d + 1)) (nI m), icP .eq (0 : Int32) 0] rfl ?_ ?_
        · exact ⟨(h13_1), allP1 (by decide : ((0 : Int32) = 0))⟩
        refine AW.callVV (d' := 2) [] [] ⟨_, rfl⟩ f_6_forgets v_6_forgets l_6_206 ⟨rfl, by decide⟩ rfl (Nat.le_of_ble_eq_true rfl) rfl (Nat.le_of_ble_eq_true rfl) (c6_forgets S τ64 (repK_fr hO.1 (fr_trans hF f64) (fun k _ _ q => by unfold P1 at q; omega) k62) hO.1) ?_
        rintro τ66 ⟨f66, r66⟩
        refine AW.run 1 [] (56, [(0, .inr (.inr (5, 0, 0))), (1, .inl (nI b)), (2, .inl 0), (3, .inl (nI (d + 1)))], [.inl 0], τ66) [] rfl ?_ ?_
        · exact trivial
        refine AW.retz ⟨_, rfl⟩ rfl (by decide) ?_
        exact ⟨(fr_trans (fr_trans (fr_trans (fr_trans fr_rfl f62) (fr_12 hF)) (fr_12 f64)) f66), r66, Or.inr ⟨rfl, by rw [hg, hu, if_neg (by assumption)]⟩⟩
  · intro T τ hI
    obtain ⟨hF, hT, hOT, hTn, hg⟩ := hI
    refine AW.run 3 [] (13, [(0, .inr (.inr (5, 0, 0))), (1, .inl (nI b)), (2, .inl 1), (3, .inl (nI (m)))], [.inl (τ 5 0 0 24), .inl (nI (m))], τ) [] rfl ?_ ?_
    · exact trivial
    rw [(hW.mv (fr_trans (fr_trans fr_rfl f62) (fr_12 hF))).2.1]
    refine AW.run 2 [true] (52, [(0, .inr (.inr (5, 0, 0))), (1, .inl (nI b)), (2, .inl 1), (3, .inl (nI (m)))], [.inr (.inr (5, 0, 0))], τ) [icP .ge (nI (m)) (nI m)] rfl ?_ ?_
    · exact allP1 (nI_le (Nat.le_refl _) (by omega))
    refine AW.callVV (d' := 2) [] [] ⟨_, rfl⟩ f_6_forgets v_6_forgets l_6_206 ⟨rfl, by decide⟩ rfl (Nat.le_of_ble_eq_true rfl) rfl (Nat.le_of_ble_eq_true rfl) (c6_forgets S τ (repK_fr hO.1 hF (fun k _ _ q => by unfold P1 at q; omega) k62) hO.1) ?_
    rintro τ67 ⟨f67, r67⟩
    refine AW.run 1 [] (56, [(0, .inr (.inr (5, 0, 0))), (1, .inl (nI b)), (2, .inl 1), (3, .inl (nI (m)))], [.inl 1], τ67) [] rfl ?_ ?_
    · exact trivial
    refine AW.retz ⟨_, rfl⟩ rfl (by decide) ?_
    exact ⟨(fr_trans (fr_trans (fr_trans fr_rfl f62) (fr_12 hF)) f67), r67, Or.inl ⟨rfl, by rw [hg, Nat.sub_self]; rfl⟩⟩
