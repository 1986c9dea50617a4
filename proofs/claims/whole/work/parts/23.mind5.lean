/-! THE MIND, FIFTH PART -/
theorem settle_n : ∀ (n : Nat) (S : Sv), Sn (settleS n S) = Sn S
  | 0, _ => rfl
  | n + 1, S => by
    unfold settleS
    split
    · rfl
    · exact settle_n n _
theorem day_n (S : Sv) : Sn (dayS S) = Sn S := settle_n 8 _
theorem pass_n : ∀ (n : Nat) (S : Sv), Sn (passS n S) = Sn S
  | 0, _ => rfl
  | n + 1, S => (pass_n n (dayS S)).trans (day_n S)
theorem settle_h : ∀ (n : Nat) (S : Sv), She (settleS n S) = She S
  | 0, _ => rfl
  | n + 1, S => by
    unfold settleS
    split
    · rfl
    · exact settle_h n _
theorem day_h (S : Sv) : She (dayS S) = She S := settle_h 8 _
set_option maxHeartbeats 4000000 in
set_option maxRecDepth 100000 in
theorem c1_leastSugarFor (S : Sv) (σ : St) (hR : RepS (σ 2 0) S) (hO : SOK S) (b v n : Nat) (hb : b < Sn S) (hv : v < 2 ^ 31) (hn : n < 2 ^ 31) : Ct M1_leastSugarFor 4 [.inr (.inr (0, 0, 0)), .inr (.inr (2, 0, 0)), .inl (nI b), .inl (nI v), .inl (nI n)] σ (PI fun r9 σ' => optI (rdyN S b v n 10 0) = r9 ∧ Only 2 3 σ σ') := by
  refine Ct.of f_1_leastSugarFor (Nat.le_of_ble_eq_true rfl) ?_
  show AW M1_leastSugarFor 4 _ (0, [(0, .inr (.inr (0, 0, 0))), (1, .inr (.inr (2, 0, 0))), (2, .inl (nI b)), (3, .inl (nI v)), (4, .inl (nI n))], [], σ)
  have hbn : ∀ u h, Sn (passS n (withU S u h)) = Sn S := fun u h => pass_n n _
  refine AW.run 2 [] (3, [(5, .inl 0), (0, .inr (.inr (0, 0, 0))), (1, .inr (.inr (2, 0, 0))), (2, .inl (nI b)), (3, .inl (nI v)), (4, .inl (nI n))], [], σ) [] rfl ?_ ?_
  · exact trivial
  refine AW.pick [1, 2, 3, 4, 5, 0] (ls' := [(0, .inr (.inr (0, 0, 0))), (1, .inr (.inr (2, 0, 0))), (2, .inl (nI b)), (3, .inl (nI v)), (4, .inl (nI n)), (5, .inl (nI 0))]) rfl ?_
  refine AW.loop (α := Unit) 3 10 (fun u _ => [(0, .inr (.inr (0, 0, 0))), (1, .inr (.inr (2, 0, 0))), (2, .inl (nI b)), (3, .inl (nI v)), (4, .inl (nI n)), (5, .inl (nI u))]) (fun u _ τ => Only 2 3 σ τ ∧ rdyN S b v n 10 0 = rdyN S b v n (10 - u) u) ?_ ?_ 10 0 () _ (by omega) ⟨only_rfl, rfl⟩
  · intro u _ τ hu hI hk
    obtain ⟨hA, hg⟩ := hI
    have hw : rdyN S b v n (10 - u) u = if readyN (passS n (withU S u (She S))) b v = true then some u else rdyN S b v n (10 - (u + 1)) (u + 1) := by
      obtain ⟨m, hm⟩ : ∃ m, 10 - u = m + 1 := ⟨9 - u, by omega⟩
      rw [hm, show 10 - (u + 1) = m by omega]; rfl
    rw [hw] at hg
    refine AW.run 6 [false] (15, [(0, .inr (.inr (0, 0, 0))), (1, .inr (.inr (2, 0, 0))), (2, .inl (nI b)), (3, .inl (nI v)), (4, .inl (nI n)), (5, .inl (nI u))], [.inr (.inr (2, 0, 0)), .inr (.inr (2, 3, 0))], τ) [¬ icP .gt (nI u) 9] rfl ?_ ?_
    · exact allP1 (nI_nlt (a := 9) (b := u) (by omega) (by omega))
    refine AW.callVV (d' := 1) [.inr (.inr (2, 0, 0))] [] ⟨_, rfl⟩ f_3_copyFrom v_3_copyFrom l_1_25 ⟨rfl, by decide⟩ rfl (Nat.le_of_ble_eq_true rfl) rfl (Nat.le_of_ble_eq_true rfl) (c3_copyFrom 3 0 (by decide) S τ (only_rep hA hR) hO) ?_
    rintro τ56 ⟨a56, b56⟩
    refine AW.run 5 [] (28, [(0, .inr (.inr (0, 0, 0))), (1, .inr (.inr (2, 0, 0))), (2, .inl (nI b)), (3, .inl (nI v)), (4, .inl (nI n)), (5, .inl (nI u))], [.inl (τ56 2 0 0 11), .inl (nI u), .inr (.inr (2, 3, 0))], τ56) [] rfl ?_ ?_
    · exact trivial
    rw [(only_rep (only_trans hA a56) hR).1.2.2.2.2.1]
    refine AW.callVV (d' := 2) [.inl (nI u), .inl (nI (She S))] [] ⟨_, rfl⟩ f_3_nourish v_3_nourish l_1_95 ⟨rfl, by decide⟩ rfl (Nat.le_of_ble_eq_true rfl) rfl (Nat.le_of_ble_eq_true rfl) (c3_nourish 3 S τ56 b56 hO u (She S) (by omega) hO.2.2.2.2) ?_
    rintro τ57 ⟨a57, b57⟩
    refine AW.run 3 [] (37, [(0, .inr (.inr (0, 0, 0))), (1, .inr (.inr (2, 0, 0))), (2, .inl (nI b)), (3, .inl (nI v)), (4, .inl (nI n)), (5, .inl (nI u))], [.inl (nI n), .inr (.inr (2, 3, 0))], τ57) [] rfl ?_ ?_
    · exact trivial
    refine AW.callVV (d' := 3) [.inl (nI n)] [] ⟨_, rfl⟩ f_3_pass v_3_pass l_1_29 ⟨rfl, by decide⟩ rfl (Nat.le_of_ble_eq_true rfl) rfl (Nat.le_of_ble_eq_true rfl) (c3_pass 3 (withU S u (She S)) τ57 b57 (SOK_U hO (by omega) hO.2.2.2.2) n (by omega)) ?_
    rintro τ58 ⟨a58, b58⟩
    refine AW.run 3 [] (43, [(0, .inr (.inr (0, 0, 0))), (1, .inr (.inr (2, 0, 0))), (2, .inl (nI b)), (3, .inl (nI v)), (4, .inl (nI n)), (5, .inl (nI u))], [.inl (nI v), .inl (nI b), .inr (.inr (0, 0, 0))], τ58) [] rfl ?_ ?_
    · exact trivial
    refine AW.callVI (d' := 2) [.inl (nI b), .inl (nI v)] [] ⟨_, rfl⟩ f_1_isReady v_1_isReady l_1_102 ⟨rfl, by decide⟩ rfl (Nat.le_of_ble_eq_true rfl) rfl (Nat.le_of_ble_eq_true rfl) (c1_isReady (passS n (withU S u (She S))) τ58 b58 (SOK_pass n (SOK_U hO (by omega) hO.2.2.2.2)) b v (by rw [hbn]; exact hb) (by omega)) ?_
    rintro v9 _ ⟨rfl, hv9⟩
    rcases hv9 with ⟨rfl, hp43⟩ | ⟨rfl, hp43⟩
    · skip
      refine AW.run 2 [false] (51, [(0, .inr (.inr (0, 0, 0))), (1, .inr (.inr (2, 0, 0))), (2, .inl (nI b)), (3, .inl (nI v)), (4, .inl (nI n)), (5, .inl (nI u))], [.inl (nI u)], τ58) [¬ icP .eq (1 : Int32) 0] rfl ?_ ?_
      · exact allP1 (by decide : ¬ ((1 : Int32) = 0))
      refine AW.reti ⟨_, rfl⟩ rfl ?_
      exact ⟨by rw [hg, if_pos hp43]; rfl, (only_trans (only_trans (only_trans hA a56) a57) a58)⟩
    · skip
      refine AW.run 3 [true] (3, [(5, .inl ((nI u) + 1)), (0, .inr (.inr (0, 0, 0))), (1, .inr (.inr (2, 0, 0))), (2, .inl (nI b)), (3, .inl (nI v)), (4, .inl (nI n))], [], τ58) [icP .eq (0 : Int32) 0] rfl ?_ ?_
      · exact allP1 (by decide : ((0 : Int32) = 0))
      rw [nI_1 u]
      refine AW.pick [1, 2, 3, 4, 5, 0] (ls' := [(0, .inr (.inr (0, 0, 0))), (1, .inr (.inr (2, 0, 0))), (2, .inl (nI b)), (3, .inl (nI v)), (4, .inl (nI n)), (5, .inl (nI (u + 1)))]) rfl ?_
      exact hk () _ ⟨(only_trans (only_trans (only_trans hA a56) a57) a58), by rw [hg, if_neg (by rw [hp43]; decide)]⟩
  · intro _ τ hI
    obtain ⟨hA, hg⟩ := hI
    refine AW.run 4 [true] (60, [(0, .inr (.inr (0, 0, 0))), (1, .inr (.inr (2, 0, 0))), (2, .inl (nI b)), (3, .inl (nI v)), (4, .inl (nI n)), (5, .inl (nI 10))], [.inl (-9)], τ) [icP .gt (nI 10) 9] rfl ?_ ?_
    · exact allP1 (nI_lt (a := 9) (b := 10) (by decide) (by decide))
    refine AW.reti ⟨_, rfl⟩ rfl ?_
    exact ⟨by rw [hg]; rfl, hA⟩
theorem settle_u : ∀ (n : Nat) (S : Sv), Su (settleS n S) = Su S
  | 0, _ => rfl
  | n + 1, S => by
    unfold settleS
    split
    · rfl
    · exact settle_u n _
theorem day_u (S : Sv) : Su (dayS S) = Su S := settle_u 8 _
theorem withU_self {S : Sv} {u h : Nat} (hu : Su S = u) (hh : She S = h) : withU S u h = S := by rw [← hu, ← hh]; rfl
set_option maxHeartbeats 4000000 in
set_option maxRecDepth 100000 in
theorem c1_fewestSweetDays (S : Sv) (σ : St) (hR : RepS (σ 2 0) S) (hO : SOK S) (b v : Nat) (hb : b < Sn S) (hv : v < 2 ^ 31) : Ct M1_fewestSweetDays 3 [.inr (.inr (0, 0, 0)), .inr (.inr (2, 0, 0)), .inl (nI b), .inl (nI v)] σ (PI fun r9 σ' => optI (fedN S b v 31 0) = r9 ∧ Only 2 3 σ σ') := by
  refine Ct.of f_1_fewestSweetDays (Nat.le_of_ble_eq_true rfl) ?_
  show AW M1_fewestSweetDays 3 _ (0, [(0, .inr (.inr (0, 0, 0))), (1, .inr (.inr (2, 0, 0))), (2, .inl (nI b)), (3, .inl (nI v))], [], σ)
  refine AW.run 2 [] (3, [(4, .inl 0), (0, .inr (.inr (0, 0, 0))), (1, .inr (.inr (2, 0, 0))), (2, .inl (nI b)), (3, .inl (nI v))], [], σ) [] rfl ?_ ?_
  · exact trivial
  refine AW.pick [1, 2, 3, 4, 0] (ls' := [(0, .inr (.inr (0, 0, 0))), (1, .inr (.inr (2, 0, 0))), (2, .inl (nI b)), (3, .inl (nI v)), (4, .inl (nI 0))]) rfl ?_
  refine AW.loop (α := Unit) 3 31 (fun m _ => [(0, .inr (.inr (0, 0, 0))), (1, .inr (.inr (2, 0, 0))), (2, .inl (nI b)), (3, .inl (nI v)), (4, .inl (nI m))]) (fun m _ τ => Only 2 3 σ τ ∧ fedN S b v 31 0 = fedN S b v (31 - m) m) ?_ ?_ 31 0 () _ (by omega) ⟨only_rfl, rfl⟩
  · intro m _ τ hm hI hk
    obtain ⟨hA, hg⟩ := hI
    have hw : fedN S b v (31 - m) m = if swtN b v m 31 0 S = true then some m else fedN S b v (31 - (m + 1)) (m + 1) := by
      obtain ⟨k, hk⟩ : ∃ k, 31 - m = k + 1 := ⟨30 - m, by omega⟩
      rw [hk, show 31 - (m + 1) = k by omega]; rfl
    rw [hw] at hg
    refine AW.run 6 [false] (15, [(0, .inr (.inr (0, 0, 0))), (1, .inr (.inr (2, 0, 0))), (2, .inl (nI b)), (3, .inl (nI v)), (4, .inl (nI m))], [.inr (.inr (2, 0, 0)), .inr (.inr (2, 3, 0))], τ) [¬ icP .gt (nI m) 30] rfl ?_ ?_
    · exact allP1 (nI_nlt (a := 30) (b := m) (by omega) (by omega))
    refine AW.callVV (d' := 1) [.inr (.inr (2, 0, 0))] [] ⟨_, rfl⟩ f_3_copyFrom v_3_copyFrom l_1_25 ⟨rfl, by decide⟩ rfl (Nat.le_of_ble_eq_true rfl) rfl (Nat.le_of_ble_eq_true rfl) (c3_copyFrom 3 0 (by decide) S τ (only_rep hA hR) hO) ?_
    rintro τ59 ⟨a59, b59⟩
    refine AW.run 5 [] (28, [(0, .inr (.inr (0, 0, 0))), (1, .inr (.inr (2, 0, 0))), (2, .inl (nI b)), (3, .inl (nI v)), (4, .inl (nI m))], [.inl (τ59 2 0 0 11), .inl 9, .inr (.inr (2, 3, 0))], τ59) [] rfl ?_ ?_
    · exact trivial
    rw [(only_rep (only_trans hA a59) hR).1.2.2.2.2.1]
    refine AW.callVV (d' := 2) [.inl 9, .inl (nI (She S))] [] ⟨_, rfl⟩ f_3_nourish v_3_nourish l_1_95 ⟨rfl, by decide⟩ rfl (Nat.le_of_ble_eq_true rfl) rfl (Nat.le_of_ble_eq_true rfl) (c3_nourish 3 S τ59 b59 hO 9 (She S) (by omega) hO.2.2.2.2) ?_
    rintro τ60 ⟨a60, b60⟩
    refine AW.run 2 [] (34, [(5, .inl 0), (0, .inr (.inr (0, 0, 0))), (1, .inr (.inr (2, 0, 0))), (2, .inl (nI b)), (3, .inl (nI v)), (4, .inl (nI m))], [], τ60) [] rfl ?_ ?_
    · exact trivial
    refine AW.pick [1, 2, 3, 4, 5, 0] (ls' := [(0, .inr (.inr (0, 0, 0))), (1, .inr (.inr (2, 0, 0))), (2, .inl (nI b)), (3, .inl (nI v)), (4, .inl (nI m)), (5, .inl (nI 0))]) rfl ?_
    refine AW.loop (α := Sv) 34 31 (fun d T => [(0, .inr (.inr (0, 0, 0))), (1, .inr (.inr (2, 0, 0))), (2, .inl (nI b)), (3, .inl (nI v)), (4, .inl (nI m)), (5, .inl (nI d))]) (fun d T τ => Only 2 3 σ τ ∧ RepS (τ 2 3) (withU T (if d ≤ m then 9 else 0) (She T)) ∧ SOK T ∧ Sn T = Sn S ∧ She T = She S ∧ swtN b v m 31 0 S = swtN b v m (31 - d) d T) ?_ ?_ 31 0 S _ (by omega) ⟨(only_trans (only_trans hA a59) a60), (by rw [if_pos (Nat.zero_le _)]; exact b60), hO, rfl, rfl, rfl⟩
    · intro d T τ hd hI hk9
      obtain ⟨hA, hT, hOT, hTn, hTh, hs⟩ := hI
      have hOu : SOK (withU T (if d ≤ m then 9 else 0) (She T)) := SOK_U hOT (by split <;> omega) hOT.2.2.2.2
      have hrd : readyN (withU T (if d ≤ m then 9 else 0) (She T)) b v = readyN T b v := rfl
      have hw9 : swtN b v m (31 - d) d T = if readyN T b v = true then true else swtN b v m (31 - (d + 1)) (d + 1) (dayS (withU T (if d < m then 9 else 0) (She T))) := by
        obtain ⟨k, hk⟩ : ∃ k, 31 - d = k + 1 := ⟨30 - d, by omega⟩
        rw [hk, show 31 - (d + 1) = k by omega]; rfl
      rw [hw9] at hs
      by_cases hdm : d = m
      · skip
        refine AW.run 6 [false] (44, [(0, .inr (.inr (0, 0, 0))), (1, .inr (.inr (2, 0, 0))), (2, .inl (nI b)), (3, .inl (nI v)), (4, .inl (nI m)), (5, .inl (nI d))], [.inl (nI v), .inl (nI b), .inr (.inr (0, 0, 0))], τ) [¬ icP .gt (nI d) 30] rfl ?_ ?_
        · exact allP1 (nI_nlt (a := 30) (b := d) (by omega) (by omega))
        refine AW.callVI (d' := 2) [.inl (nI b), .inl (nI v)] [] ⟨_, rfl⟩ f_1_isReady v_1_isReady l_1_102 ⟨rfl, by decide⟩ rfl (Nat.le_of_ble_eq_true rfl) rfl (Nat.le_of_ble_eq_true rfl) (c1_isReady (withU T (if d ≤ m then 9 else 0) (She T)) τ hT hOu b v (show b < Sn T by omega) (by omega)) ?_
        rintro v9 _ ⟨rfl, hv9⟩
        rcases hv9 with ⟨rfl, hp44⟩ | ⟨rfl, hp44⟩
        · skip
          refine AW.run 2 [false] (52, [(0, .inr (.inr (0, 0, 0))), (1, .inr (.inr (2, 0, 0))), (2, .inl (nI b)), (3, .inl (nI v)), (4, .inl (nI m)), (5, .inl (nI d))], [.inl (nI m)], τ) [¬ icP .eq (1 : Int32) 0] rfl ?_ ?_
          · exact allP1 (by decide : ¬ ((1 : Int32) = 0))
          refine AW.reti ⟨_, rfl⟩ rfl ?_
          rw [hrd] at hp44
          rw [if_pos hp44] at hs
          exact ⟨by rw [hg, if_pos hs]; rfl, hA⟩
        · skip
          refine AW.run 9 [true, false] (69, [(0, .inr (.inr (0, 0, 0))), (1, .inr (.inr (2, 0, 0))), (2, .inl (nI b)), (3, .inl (nI v)), (4, .inl (nI m)), (5, .inl (nI d))], [.inl (τ 2 0 0 11), .inl 0, .inr (.inr (2, 3, 0))], τ) [icP .eq (0 : Int32) 0, ¬ icP .ne (nI d) (nI m)] rfl ?_ ?_
          · exact ⟨(by decide : ((0 : Int32) = 0)), allP1 (fun q => q (by rw [hdm]))⟩
          rw [(only_rep hA hR).1.2.2.2.2.1, ← hTh]
          refine AW.callVV (d' := 2) [.inl 0, .inl (nI (She T))] [] ⟨_, rfl⟩ f_3_nourish v_3_nourish l_1_95 ⟨rfl, by decide⟩ rfl (Nat.le_of_ble_eq_true rfl) rfl (Nat.le_of_ble_eq_true rfl) (c3_nourish 3 (withU T (if d ≤ m then 9 else 0) (She T)) τ hT hOu 0 (She T) (by omega) hOT.2.2.2.2) ?_
          rintro τ61 ⟨a61, b61⟩
          refine AW.run 2 [] (76, [(0, .inr (.inr (0, 0, 0))), (1, .inr (.inr (2, 0, 0))), (2, .inl (nI b)), (3, .inl (nI v)), (4, .inl (nI m)), (5, .inl (nI d))], [.inr (.inr (2, 3, 0))], τ61) [] rfl ?_ ?_
          · exact trivial
          refine AW.callVV (d' := 2) [] [] ⟨_, rfl⟩ f_3_dayGoesBy v_3_dayGoesBy l_1_47 ⟨rfl, by decide⟩ rfl (Nat.le_of_ble_eq_true rfl) rfl (Nat.le_of_ble_eq_true rfl) (c3_dayGoesBy 3 (withU T 0 (She T)) τ61 b61 (SOK_U hOT (by omega) hOT.2.2.2.2) ) ?_
          rintro τ62 ⟨a62, b62⟩
          refine AW.run 2 [] (34, [(5, .inl ((nI d) + 1)), (0, .inr (.inr (0, 0, 0))), (1, .inr (.inr (2, 0, 0))), (2, .inl (nI b)), (3, .inl (nI v)), (4, .inl (nI m))], [], τ62) [] rfl ?_ ?_
          · exact trivial
          rw [nI_1 d]
          refine AW.pick [1, 2, 3, 4, 5, 0] (ls' := [(0, .inr (.inr (0, 0, 0))), (1, .inr (.inr (2, 0, 0))), (2, .inl (nI b)), (3, .inl (nI v)), (4, .inl (nI m)), (5, .inl (nI (d + 1)))]) rfl ?_
          have hnew : RepS (τ62 2 3) (dayS (withU T (if d < m then 9 else 0) (She T))) := by
            have h9 := b62
            rw [if_neg (by omega)]; exact h9
          refine hk9 (dayS (withU T (if d < m then 9 else 0) (She T))) _ ⟨(only_trans (only_trans hA a61) a62), ?_, SOK_day (SOK_U hOT (by split <;> omega) hOT.2.2.2.2), (day_n _).trans hTn, (day_h _).trans hTh, ?_⟩
          · have e9 : withU (dayS (withU T (if d < m then 9 else 0) (She T))) (if d + 1 ≤ m then 9 else 0) (She (dayS (withU T (if d < m then 9 else 0) (She T)))) = dayS (withU T (if d < m then 9 else 0) (She T)) := by
              exact withU_self (day_u (withU T (if d < m then 9 else 0) (She T))) rfl
            rw [e9]; exact hnew
          · rw [hs, if_neg (by rw [← hrd, hp44]; decide)]
      · skip
        refine AW.run 6 [false] (44, [(0, .inr (.inr (0, 0, 0))), (1, .inr (.inr (2, 0, 0))), (2, .inl (nI b)), (3, .inl (nI v)), (4, .inl (nI m)), (5, .inl (nI d))], [.inl (nI v), .inl (nI b), .inr (.inr (0, 0, 0))], τ) [¬ icP .gt (nI d) 30] rfl ?_ ?_
        · exact allP1 (nI_nlt (a := 30) (b := d) (by omega) (by omega))
        refine AW.callVI (d' := 2) [.inl (nI b), .inl (nI v)] [] ⟨_, rfl⟩ f_1_isReady v_1_isReady l_1_102 ⟨rfl, by decide⟩ rfl (Nat.le_of_ble_eq_true rfl) rfl (Nat.le_of_ble_eq_true rfl) (c1_isReady (withU T (if d ≤ m then 9 else 0) (She T)) τ hT hOu b v (show b < Sn T by omega) (by omega)) ?_
        rintro v9 _ ⟨rfl, hv9⟩
        rcases hv9 with ⟨rfl, hp44⟩ | ⟨rfl, hp44⟩
        · skip
          refine AW.run 2 [false] (52, [(0, .inr (.inr (0, 0, 0))), (1, .inr (.inr (2, 0, 0))), (2, .inl (nI b)), (3, .inl (nI v)), (4, .inl (nI m)), (5, .inl (nI d))], [.inl (nI m)], τ) [¬ icP .eq (1 : Int32) 0] rfl ?_ ?_
          · exact allP1 (by decide : ¬ ((1 : Int32) = 0))
          refine AW.reti ⟨_, rfl⟩ rfl ?_
          rw [hrd] at hp44
          rw [if_pos hp44] at hs
          exact ⟨by rw [hg, if_pos hs]; rfl, hA⟩
        · skip
          refine AW.run 6 [true, true] (76, [(0, .inr (.inr (0, 0, 0))), (1, .inr (.inr (2, 0, 0))), (2, .inl (nI b)), (3, .inl (nI v)), (4, .inl (nI m)), (5, .inl (nI d))], [.inr (.inr (2, 3, 0))], τ) [icP .eq (0 : Int32) 0, icP .ne (nI d) (nI m)] rfl ?_ ?_
          · exact ⟨(by decide : ((0 : Int32) = 0)), allP1 (fun q => hdm (nI_lit q (by omega) (by omega)))⟩
          refine AW.callVV (d' := 2) [] [] ⟨_, rfl⟩ f_3_dayGoesBy v_3_dayGoesBy l_1_47 ⟨rfl, by decide⟩ rfl (Nat.le_of_ble_eq_true rfl) rfl (Nat.le_of_ble_eq_true rfl) (c3_dayGoesBy 3 (withU T (if d ≤ m then 9 else 0) (She T)) τ hT hOu ) ?_
          rintro τ63 ⟨a63, b63⟩
          refine AW.run 2 [] (34, [(5, .inl ((nI d) + 1)), (0, .inr (.inr (0, 0, 0))), (1, .inr (.inr (2, 0, 0))), (2, .inl (nI b)), (3, .inl (nI v)), (4, .inl (nI m))], [], τ63) [] rfl ?_ ?_
          · exact trivial
          rw [nI_1 d]
          refine AW.pick [1, 2, 3, 4, 5, 0] (ls' := [(0, .inr (.inr (0, 0, 0))), (1, .inr (.inr (2, 0, 0))), (2, .inl (nI b)), (3, .inl (nI v)), (4, .inl (nI m)), (5, .inl (nI (d + 1)))]) rfl ?_
          have hnew : RepS (τ63 2 3) (dayS (withU T (if d < m then 9 else 0) (She T))) := by
            have h9 := b63
            rcases Nat.lt_or_ge d m with hlt | hlt
            · rw [if_pos (show d ≤ m by omega)] at h9; rw [if_pos hlt]; exact h9
            · rw [if_neg (show ¬ d ≤ m by omega)] at h9; rw [if_neg (show ¬ d < m by omega)]; exact h9
          refine hk9 (dayS (withU T (if d < m then 9 else 0) (She T))) _ ⟨(only_trans hA a63), ?_, SOK_day (SOK_U hOT (by split <;> omega) hOT.2.2.2.2), (day_n _).trans hTn, (day_h _).trans hTh, ?_⟩
          · have e9 : withU (dayS (withU T (if d < m then 9 else 0) (She T))) (if d + 1 ≤ m then 9 else 0) (She (dayS (withU T (if d < m then 9 else 0) (She T)))) = dayS (withU T (if d < m then 9 else 0) (She T)) := by
              exact withU_self (day_u (withU T (if d < m then 9 else 0) (She T))) rfl
            rw [e9]; exact hnew
          · rw [hs, if_neg (by rw [← hrd, hp44]; decide)]
    · intro T τ hI
      obtain ⟨hA, hT, hOT, hTn, hTh, hs⟩ := hI
      have hs : swtN b v m 31 0 S = false := hs
      refine AW.run 5 [true] (3, [(4, .inl ((nI m) + 1)), (0, .inr (.inr (0, 0, 0))), (1, .inr (.inr (2, 0, 0))), (2, .inl (nI b)), (3, .inl (nI v)), (5, .inl (nI 31))], [], τ) [icP .gt (nI 31) 30] rfl ?_ ?_
      · exact allP1 (nI_lt (a := 30) (b := 31) (by decide) (by decide))
      rw [nI_1 m]
      refine AW.pick [1, 2, 3, 4, 0] (ls' := [(0, .inr (.inr (0, 0, 0))), (1, .inr (.inr (2, 0, 0))), (2, .inl (nI b)), (3, .inl (nI v)), (4, .inl (nI (m + 1)))]) rfl ?_
      exact hk () _ ⟨hA, by rw [hg, if_neg (by rw [hs]; decide)]⟩
  · intro _ τ hI
    obtain ⟨hA, hg⟩ := hI
    refine AW.run 4 [true] (93, [(0, .inr (.inr (0, 0, 0))), (1, .inr (.inr (2, 0, 0))), (2, .inl (nI b)), (3, .inl (nI v)), (4, .inl (nI 31))], [.inl (-9)], τ) [icP .gt (nI 31) 30] rfl ?_ ?_
    · exact allP1 (nI_lt (a := 30) (b := 31) (by decide) (by decide))
    refine AW.reti ⟨_, rfl⟩ rfl ?_
    exact ⟨by rw [hg]; rfl, hA⟩
