/-! THE TALE: its statements come to a shelf -/
def PO (a : Nat) (σ : St) (o : Option Sv) : Option AV → St → Prop := PI fun v σ' => Only 2 a σ σ' ∧ match o with
  | some S' => v = 1 ∧ RepS (σ' 2 a) S'
  | none => v = 0
def o1 (S : Sv) (k f p : Nat) : Option Sv := if k < 6 ∧ p < 15 ∧ Sn S < 8 ∧ atS S p = none then some (addS S k f p) else none
def o2 (S : Sv) (b q : Nat) : Option Sv := if Sw S b = true then some (withQ S (fu (Sq S) b q)) else none
def o3 (S : Sv) (b : Nat) : Option Sv := if Sw S b = true then some (withT S (fu (Stw S) b (!(Stw S b)))) else none
def o4 (S : Sv) (n : Nat) : Option Sv := if 1 ≤ n ∧ n ≤ 60 ∧ Sd S + n ≤ 999 then some (passS n S) else none
def dig (tp : Nat → Nat) (len k : Nat) : Nat := ltN tp len k - 48
def num (tp : Nat → Nat) (len k : Nat) : Nat := 10 * (ltN tp len k - 48) + (ltN tp len (k + 1) - 48)
def cryN (tp : Nat → Nat) (len p : Nat) (S : Sv) : Option Sv :=
  if ltN tp len p = 98 then o1 S (dig tp len (p + 1)) (dig tp len (p + 2)) (num tp len (p + 3))
  else if ltN tp len p = 112 then o2 S (dig tp len (p + 1)) (num tp len (p + 2))
  else if ltN tp len p = 116 then o3 S (dig tp len (p + 1))
  else if ltN tp len p = 117 then some (withU S (dig tp len (p + 1)) (dig tp len (p + 2)))
  else if ltN tp len p = 111 then o2 S (dig tp len (p + 1)) 0
  else o4 S (num tp len (p + 1))
theorem dig_le {tp : Nat → Nat} {len k : Nat} (h : isDg (ltN tp len k) = true) : dig tp len k ≤ 9 := by
  have := of_decide_eq_true h
  unfold dig; omega
theorem num_le {tp : Nat → Nat} {len k : Nat} (h : isDg (ltN tp len k) = true) (h2 : isDg (ltN tp len (k + 1)) = true) : num tp len k ≤ 99 := by
  have := of_decide_eq_true h
  have := of_decide_eq_true h2
  unfold num; omega
theorem pass_d : ∀ (n : Nat) (S : Sv), Sd (passS n S) = Sd S + n
  | 0, _ => rfl
  | n + 1, S => by
    have h : Sd (dayS S) = Sd S + 1 := rfl
    show Sd (passS n (dayS S)) = _
    rw [pass_d n, h]; omega
/-- a shelf, and its day told -/
def SK (S : Sv) : Prop := SOK S ∧ Sd S ≤ 999

set_option maxHeartbeats 4000000 in
set_option maxRecDepth 100000 in
theorem c4_addBottle (a : Nat) (S : Sv) (σ : St) (hR : RepS (σ 2 a) S) (hO : SOK S) (k f p : Nat) (hk : k ≤ 9) (hf : f ≤ 9) (hp : p ≤ 99) : Ct M4_addBottle 4 [.inr (.inr (2, a, 0)), .inl (nI k), .inl (nI f), .inl (nI p)] σ (PO a σ (o1 S k f p)) := by
  refine Ct.of f_4_addBottle (Nat.le_of_ble_eq_true rfl) ?_
  show AW M4_addBottle 4 _ (0, [(0, .inr (.inr (2, a, 0))), (1, .inl (nI k)), (2, .inl (nI f)), (3, .inl (nI p))], [], σ)
  have e7 : σ 2 a 0 7 = nI (Sn S) := hR.1.1
  have hn := hO.1
  by_cases h3_1 : 6 ≤ k
  · skip
    refine AW.run 4 [true] (13, [(0, .inr (.inr (2, a, 0))), (1, .inl (nI k)), (2, .inl (nI f)), (3, .inl (nI p))], [.inl 0], σ) [icP .ge (nI k) 6] rfl ?_ ?_
    · exact allP1 (nI_le (a := 6) h3_1 (by omega))
    refine AW.retz ⟨_, rfl⟩ rfl (by decide) ?_
    have ho : o1 S k f p = none := if_neg (fun h => by first | omega | exact absurd h.2.2.2 (by assumption))
    rw [ho]
    exact ⟨only_rfl, rfl⟩
  · skip
    by_cases h9_2 : p < 15
    · skip
      refine AW.run 8 [false, true] (18, [(0, .inr (.inr (2, a, 0))), (1, .inl (nI k)), (2, .inl (nI f)), (3, .inl (nI p))], [.inl (σ 2 a 0 7)], σ) [¬ icP .ge (nI k) 6, icP .lt (nI p) 15] rfl ?_ ?_
      · exact ⟨(nI_ge (b := 6) (a := k) (by omega) (by decide)), allP1 (nI_lt (b := 15) h9_2 (by decide))⟩
      rw [e7]
      by_cases h20_3 : 8 ≤ Sn S
      · skip
        refine AW.run 3 [true] (34, [(0, .inr (.inr (2, a, 0))), (1, .inl (nI k)), (2, .inl (nI f)), (3, .inl (nI p))], [.inl 0], σ) [icP .ge (nI (Sn S)) 8] rfl ?_ ?_
        · exact allP1 (nI_le (a := 8) h20_3 (by omega))
        refine AW.retz ⟨_, rfl⟩ rfl (by decide) ?_
        have ho : o1 S k f p = none := if_neg (fun h => by first | omega | exact absurd h.2.2.2 (by assumption))
        rw [ho]
        exact ⟨only_rfl, rfl⟩
      · skip
        refine AW.run 4 [false] (25, [(0, .inr (.inr (2, a, 0))), (1, .inl (nI k)), (2, .inl (nI f)), (3, .inl (nI p))], [.inl (nI p), .inr (.inr (2, a, 0))], σ) [¬ icP .ge (nI (Sn S)) 8] rfl ?_ ?_
        · exact allP1 (nI_ge (b := 8) (a := Sn S) (by omega) (by decide))
        refine AW.callVI (d' := 1) [.inl (nI p)] [] ⟨_, rfl⟩ f_3_wholeAt v_3_wholeAt l_4_71 ⟨rfl, by decide⟩ rfl (Nat.le_of_ble_eq_true rfl) rfl (Nat.le_of_ble_eq_true rfl) (c3_wholeAt a S σ hR hO p (by omega)) ?_
        rintro _ _ ⟨rfl, rfl⟩
        by_cases h30_4 : atS S p = none
        · skip
          refine AW.run 6 [true] (39, [(0, .inr (.inr (2, a, 0))), (1, .inl (nI k)), (2, .inl (nI f)), (3, .inl (nI p))], [.inl (nI p), .inl (nI f), .inl (nI k), .inr (.inr (2, a, 0))], σ) [icP .eq (optI (atS S p)) (-9)] rfl ?_ ?_
          · exact allP1 (by rw [h30_4]; exact rfl)
          refine AW.callVV (d' := 3) [.inl (nI k), .inl (nI f), .inl (nI p)] [] ⟨_, rfl⟩ f_3_add v_3_add l_4_74 ⟨rfl, by decide⟩ rfl (Nat.le_of_ble_eq_true rfl) rfl (Nat.le_of_ble_eq_true rfl) (c3_add a S σ hR hO k f p (by omega) (by omega) hf) ?_
          rintro τ1 ⟨hB1, hB2⟩
          refine AW.run 1 [] (43, [(0, .inr (.inr (2, a, 0))), (1, .inl (nI k)), (2, .inl (nI f)), (3, .inl (nI p))], [.inl 1], τ1) [] rfl ?_ ?_
          · exact trivial
          refine AW.retz ⟨_, rfl⟩ rfl (by decide) ?_
          have ho : o1 S k f p = some (addS S k f p) := if_pos ⟨by omega, by assumption, by omega, by assumption⟩
          rw [ho]
          exact ⟨hB1, rfl, hB2⟩
        · skip
          refine AW.run 3 [false] (34, [(0, .inr (.inr (2, a, 0))), (1, .inl (nI k)), (2, .inl (nI f)), (3, .inl (nI p))], [.inl 0], σ) [¬ icP .eq (optI (atS S p)) (-9)] rfl ?_ ?_
          · exact allP1 (fun q => by cases h : atS S p with | none => exact h30_4 h | some t => rw [h] at q; exact nI_m9 (by have := (atS_lt h).1; omega) q)
          refine AW.retz ⟨_, rfl⟩ rfl (by decide) ?_
          have ho : o1 S k f p = none := if_neg (fun h => by first | omega | exact absurd h.2.2.2 (by assumption))
          rw [ho]
          exact ⟨only_rfl, rfl⟩
    · skip
      refine AW.run 7 [false, false] (13, [(0, .inr (.inr (2, a, 0))), (1, .inl (nI k)), (2, .inl (nI f)), (3, .inl (nI p))], [.inl 0], σ) [¬ icP .ge (nI k) 6, ¬ icP .lt (nI p) 15] rfl ?_ ?_
      · exact ⟨(nI_ge (b := 6) (a := k) (by omega) (by decide)), allP1 (nI_nlt (a := p) (b := 15) (by omega) (by omega))⟩
      refine AW.retz ⟨_, rfl⟩ rfl (by decide) ?_
      have ho : o1 S k f p = none := if_neg (fun h => by first | omega | exact absurd h.2.2.2 (by assumption))
      rw [ho]
      exact ⟨only_rfl, rfl⟩
set_option maxHeartbeats 4000000 in
set_option maxRecDepth 100000 in
theorem c4_pressOne (a : Nat) (S : Sv) (σ : St) (hR : RepS (σ 2 a) S) (hO : SOK S) (b q : Nat) (hb : b ≤ 9) : Ct M4_pressOne 2 [.inr (.inr (2, a, 0)), .inl (nI b), .inl (nI q)] σ (PO a σ (o2 S b q)) := by
  refine Ct.of f_4_pressOne (Nat.le_of_ble_eq_true rfl) ?_
  show AW M4_pressOne 2 _ (0, [(0, .inr (.inr (2, a, 0))), (1, .inl (nI b)), (2, .inl (nI q))], [], σ)
  refine AW.run 2 [] (2, [(0, .inr (.inr (2, a, 0))), (1, .inl (nI b)), (2, .inl (nI q))], [.inl (nI b), .inr (.inr (2, a, 0))], σ) [] rfl ?_ ?_
  · exact trivial
  refine AW.callVI (d' := 0) [.inl (nI b)] [] ⟨_, rfl⟩ f_3_isWhole v_3_isWhole l_4_78 ⟨rfl, by decide⟩ rfl (Nat.le_of_ble_eq_true rfl) rfl (Nat.le_of_ble_eq_true rfl) (c3_isWhole a S σ hR hO b (by omega)) ?_
  rintro v _ ⟨rfl, hv⟩
  rcases hv with ⟨rfl, hp2⟩ | ⟨rfl, hp2⟩
  · skip
    refine AW.run 4 [true] (13, [(0, .inr (.inr (2, a, 0))), (1, .inl (nI b)), (2, .inl (nI q))], [.inl (nI q), .inl (nI b), .inr (.inr (2, a, 0))], σ) [icP .ne (1 : Int32) 0] rfl ?_ ?_
    · exact allP1 (by decide : (¬ (1 : Int32) = 0))
    refine AW.callVV (d' := 1) [.inl (nI b), .inl (nI q)] [] ⟨_, rfl⟩ f_3_setPress v_3_setPress l_4_81 ⟨rfl, by decide⟩ rfl (Nat.le_of_ble_eq_true rfl) rfl (Nat.le_of_ble_eq_true rfl) (c3_setPress a S σ hR hO b q (SOK_lt hO hp2)) ?_
    rintro τ1 ⟨hB1, hB2⟩
    refine AW.run 1 [] (17, [(0, .inr (.inr (2, a, 0))), (1, .inl (nI b)), (2, .inl (nI q))], [.inl 1], τ1) [] rfl ?_ ?_
    · exact trivial
    refine AW.retz ⟨_, rfl⟩ rfl (by decide) ?_
    rw [show o2 S b q = some _ from if_pos hp2]
    exact ⟨hB1, rfl, hB2⟩
  · skip
    refine AW.run 2 [false] (9, [(0, .inr (.inr (2, a, 0))), (1, .inl (nI b)), (2, .inl (nI q))], [.inl 0], σ) [¬ icP .ne (0 : Int32) 0] rfl ?_ ?_
    · exact allP1 (by decide : ¬ (¬ (0 : Int32) = 0))
    refine AW.retz ⟨_, rfl⟩ rfl (by decide) ?_
    rw [show o2 S b q = none from if_neg (by rw [hp2]; decide)]
    exact ⟨only_rfl, rfl⟩
set_option maxHeartbeats 4000000 in
set_option maxRecDepth 100000 in
theorem c4_coverOne (a : Nat) (S : Sv) (σ : St) (hR : RepS (σ 2 a) S) (hO : SOK S) (b : Nat) (hb : b ≤ 9) : Ct M4_coverOne 2 [.inr (.inr (2, a, 0)), .inl (nI b)] σ (PO a σ (o3 S b)) := by
  refine Ct.of f_4_coverOne (Nat.le_of_ble_eq_true rfl) ?_
  show AW M4_coverOne 2 _ (0, [(0, .inr (.inr (2, a, 0))), (1, .inl (nI b))], [], σ)
  refine AW.run 2 [] (2, [(0, .inr (.inr (2, a, 0))), (1, .inl (nI b))], [.inl (nI b), .inr (.inr (2, a, 0))], σ) [] rfl ?_ ?_
  · exact trivial
  refine AW.callVI (d' := 0) [.inl (nI b)] [] ⟨_, rfl⟩ f_3_isWhole v_3_isWhole l_4_78 ⟨rfl, by decide⟩ rfl (Nat.le_of_ble_eq_true rfl) rfl (Nat.le_of_ble_eq_true rfl) (c3_isWhole a S σ hR hO b (by omega)) ?_
  rintro v _ ⟨rfl, hv⟩
  rcases hv with ⟨rfl, hp2⟩ | ⟨rfl, hp2⟩
  · skip
    refine AW.run 3 [true] (12, [(0, .inr (.inr (2, a, 0))), (1, .inl (nI b))], [.inl (nI b), .inr (.inr (2, a, 0))], σ) [icP .ne (1 : Int32) 0] rfl ?_ ?_
    · exact allP1 (by decide : (¬ (1 : Int32) = 0))
    refine AW.callVV (d' := 1) [.inl (nI b)] [] ⟨_, rfl⟩ f_3_turnTowel v_3_turnTowel l_4_84 ⟨rfl, by decide⟩ rfl (Nat.le_of_ble_eq_true rfl) rfl (Nat.le_of_ble_eq_true rfl) (c3_turnTowel a S σ hR hO b (SOK_lt hO hp2)) ?_
    rintro τ1 ⟨hB1, hB2⟩
    refine AW.run 1 [] (16, [(0, .inr (.inr (2, a, 0))), (1, .inl (nI b))], [.inl 1], τ1) [] rfl ?_ ?_
    · exact trivial
    refine AW.retz ⟨_, rfl⟩ rfl (by decide) ?_
    rw [show o3 S b = some _ from if_pos hp2]
    exact ⟨hB1, rfl, hB2⟩
  · skip
    refine AW.run 2 [false] (9, [(0, .inr (.inr (2, a, 0))), (1, .inl (nI b))], [.inl 0], σ) [¬ icP .ne (0 : Int32) 0] rfl ?_ ?_
    · exact allP1 (by decide : ¬ (¬ (0 : Int32) = 0))
    refine AW.retz ⟨_, rfl⟩ rfl (by decide) ?_
    rw [show o3 S b = none from if_neg (by rw [hp2]; decide)]
    exact ⟨only_rfl, rfl⟩
set_option maxHeartbeats 4000000 in
set_option maxRecDepth 100000 in
theorem c4_canPass (a : Nat) (S : Sv) (σ : St) (hR : RepS (σ 2 a) S) (hO : SOK S) (n : Nat) (hn : n ≤ 99) (hd : Sd S ≤ 999) : Ct M4_canPass 0 [.inr (.inr (2, a, 0)), .inl (nI n)] σ (PB σ (1 ≤ n ∧ n ≤ 60 ∧ Sd S + n ≤ 999) (¬ (1 ≤ n ∧ n ≤ 60 ∧ Sd S + n ≤ 999))) := by
  refine Ct.of f_4_canPass (Nat.le_of_ble_eq_true rfl) ?_
  show AW M4_canPass 0 _ (0, [(0, .inr (.inr (2, a, 0))), (1, .inl (nI n))], [], σ)
  have e12 : σ 2 a 0 12 = nI (Sd S) := hR.1.2.2.2.2.2
  by_cases h2_1 : n < 1
  · skip
    refine AW.run 4 [true] (28, [(0, .inr (.inr (2, a, 0))), (1, .inl (nI n))], [.inl 0], σ) [icP .lt (nI n) 1] rfl ?_ ?_
    · exact allP1 (nI_lt (b := 1) h2_1 (by decide))
    refine AW.retz ⟨_, rfl⟩ rfl (by decide) ?_
    exact ⟨rfl, Or.inr ⟨rfl, by omega⟩⟩
  · skip
    by_cases h8_2 : 60 < n
    · skip
      refine AW.run 7 [false, true] (28, [(0, .inr (.inr (2, a, 0))), (1, .inl (nI n))], [.inl 0], σ) [¬ icP .lt (nI n) 1, icP .gt (nI n) 60] rfl ?_ ?_
      · exact ⟨(nI_nlt (a := n) (b := 1) (by omega) (by omega)), allP1 (nI_lt (a := 60) h8_2 (by omega))⟩
      refine AW.retz ⟨_, rfl⟩ rfl (by decide) ?_
      exact ⟨rfl, Or.inr ⟨rfl, by omega⟩⟩
    · skip
      refine AW.run 10 [false, false] (17, [(0, .inr (.inr (2, a, 0))), (1, .inl (nI n))], [.inl ((σ 2 a 0 12) + (nI n))], σ) [¬ icP .lt (nI n) 1, ¬ icP .gt (nI n) 60] rfl ?_ ?_
      · exact ⟨(nI_nlt (a := n) (b := 1) (by omega) (by omega)), allP1 (nI_nlt (a := 60) (b := n) (by omega) (by decide))⟩
      rw [e12, nI_add]
      by_cases h20_3 : 999 < Sd S + n
      · skip
        refine AW.run 3 [true] (28, [(0, .inr (.inr (2, a, 0))), (1, .inl (nI n))], [.inl 0], σ) [icP .gt (nI (Sd S + n)) 999] rfl ?_ ?_
        · exact allP1 (nI_lt (a := 999) h20_3 (by omega))
        refine AW.retz ⟨_, rfl⟩ rfl (by decide) ?_
        exact ⟨rfl, Or.inr ⟨rfl, by omega⟩⟩
      · skip
        refine AW.run 4 [false] (28, [(0, .inr (.inr (2, a, 0))), (1, .inl (nI n))], [.inl 1], σ) [¬ icP .gt (nI (Sd S + n)) 999] rfl ?_ ?_
        · exact allP1 (nI_nlt (a := 999) (b := Sd S + n) (by omega) (by decide))
        refine AW.retz ⟨_, rfl⟩ rfl (by decide) ?_
        exact ⟨rfl, Or.inl ⟨rfl, by omega, by omega, by omega⟩⟩
theorem po_01 {a : Nat} {τ : St} {o : Option Sv} {v : Int32} (h : match o with | some S' => v = 1 ∧ RepS (τ 2 a) S' | none => v = 0) : v = 0 ∨ v = 1 := by
  cases o with
  | none => exact Or.inl h
  | some S' => exact Or.inr h.1
set_option maxHeartbeats 4000000 in
set_option maxRecDepth 100000 in
theorem c4_carryOut (a : Nat) (S : Sv) (σ : St) (hR : RepS (σ 2 a) S) (hO : SOK S) (hd : Sd S ≤ 999) (tp : Nat → Nat) (len : Nat) (hT : TaleR σ tp len) (p q9 : Nat) (hp : p ≤ 600) (hst : stN tp len p = (true, q9)) : Ct M4_carryOut 5 [.inr (.inr (3, 0, 0)), .inr (.inr (2, a, 0)), .inl (nI p)] σ (PO a σ (cryN tp len p S)) := by
  refine Ct.of f_4_carryOut (Nat.le_of_ble_eq_true rfl) ?_
  show AW M4_carryOut 5 _ (0, [(0, .inr (.inr (3, 0, 0))), (1, .inr (.inr (2, a, 0))), (2, .inl (nI p))], [], σ)
  obtain ⟨hq9, hd0, hds⟩ := stN_true hst
  have hdg1 : isDg (ltN tp len (p + 1)) = true := hds 0 hd0
  have h9 := dig_le hdg1
  have hll := ltN_le (len := len) (k := p) hT.2.1
  refine AW.run 4 [] (4, [(0, .inr (.inr (3, 0, 0))), (1, .inr (.inr (2, a, 0))), (2, .inl (nI p))], [.inl ((nI p) + 1), .inr (.inr (3, 0, 0))], σ) [] rfl ?_ ?_
  · exact trivial
  rw [show nI p + 1 = nI (p + 1) from nI_add p 1]
  refine AW.callVI (d' := 1) [.inl (nI (p + 1))] [] ⟨_, rfl⟩ f_4_digitAt v_4_digitAt l_4_38 ⟨rfl, by decide⟩ rfl (Nat.le_of_ble_eq_true rfl) rfl (Nat.le_of_ble_eq_true rfl) (c4_digitAt tp len σ hT (p + 1) (by omega) hdg1) ?_
  rintro _ _ ⟨rfl, rfl⟩
  refine AW.run 3 [] (10, [(3, .inl (nI (dig tp len (p + 1)))), (0, .inr (.inr (3, 0, 0))), (1, .inr (.inr (2, a, 0))), (2, .inl (nI p))], [.inl (nI p), .inr (.inr (3, 0, 0))], σ) [] rfl ?_ ?_
  · exact trivial
  refine AW.callVI (d' := 0) [.inl (nI p)] [] ⟨_, rfl⟩ f_4_letterAt v_4_letterAt l_4_27 ⟨rfl, by decide⟩ rfl (Nat.le_of_ble_eq_true rfl) rfl (Nat.le_of_ble_eq_true rfl) (c4_letterAt tp len σ hT p (by omega)) ?_
  rintro _ _ ⟨rfl, rfl⟩
  by_cases h13_1 : (nI (ltN tp len p) : Int32) = 98
  · skip
    refine AW.lsw (tgt := 64) (off := 51) ⟨_, rfl⟩ (by decide) (by rw [h13_1]; rfl) (by decide) ?_
    have hl : ltN tp len p = 98 := nI_lit (n := 98) (by assumption) (by omega) (by decide)
    have hdv : dgN (ltN tp len p) = 4 := by rw [hl]; rfl
    refine AW.run 6 [] (70, [(3, .inl (nI (dig tp len (p + 1)))), (0, .inr (.inr (3, 0, 0))), (1, .inr (.inr (2, a, 0))), (2, .inl (nI p))], [.inl ((nI p) + 2), .inr (.inr (3, 0, 0)), .inl (nI (dig tp len (p + 1))), .inr (.inr (2, a, 0))], σ) [] rfl ?_ ?_
    · exact trivial
    rw [show nI p + 2 = nI (p + 2) from nI_add p 2]
    refine AW.callVI (d' := 1) [.inl (nI (p + 2))] [.inl (nI (dig tp len (p + 1))), .inr (.inr (2, a, 0))] ⟨_, rfl⟩ f_4_digitAt v_4_digitAt l_4_38 ⟨rfl, by decide⟩ rfl (Nat.le_of_ble_eq_true rfl) rfl (Nat.le_of_ble_eq_true rfl) (c4_digitAt tp len σ hT (p + 2) (by omega) (hds 1 (by rw [hdv]; decide))) ?_
    rintro _ _ ⟨rfl, rfl⟩
    refine AW.run 4 [] (77, [(3, .inl (nI (dig tp len (p + 1)))), (0, .inr (.inr (3, 0, 0))), (1, .inr (.inr (2, a, 0))), (2, .inl (nI p))], [.inl ((nI p) + 3), .inr (.inr (3, 0, 0)), .inl (nI (dig tp len (p + 2))), .inl (nI (dig tp len (p + 1))), .inr (.inr (2, a, 0))], σ) [] rfl ?_ ?_
    · exact trivial
    rw [show nI p + 3 = nI (p + 3) from nI_add p 3]
    refine AW.callVI (d' := 2) [.inl (nI (p + 3))] [.inl (nI (dig tp len (p + 2))), .inl (nI (dig tp len (p + 1))), .inr (.inr (2, a, 0))] ⟨_, rfl⟩ f_4_numberAt v_4_numberAt l_4_41 ⟨rfl, by decide⟩ rfl (Nat.le_of_ble_eq_true rfl) rfl (Nat.le_of_ble_eq_true rfl) (c4_numberAt tp len σ hT (p + 3) (by omega) (hds 2 (by rw [hdv]; decide)) (hds 3 (by rw [hdv]; decide))) ?_
    rintro _ _ ⟨rfl, rfl⟩
    have hnl := num_le (tp := tp) (len := len) (k := p + 3) (hds 2 (by rw [hdv]; decide)) (hds 3 (by rw [hdv]; decide))
    refine AW.callSI (d' := 4) [.inr (.inr (2, a, 0)), .inl (nI (dig tp len (p + 1))), .inl (nI (dig tp len (p + 2))), .inl (nI (num tp len (p + 3)))] [] ⟨_, rfl⟩ f_4_addBottle s_4_addBottle l_4_44 rfl (Nat.le_of_ble_eq_true rfl) rfl (Nat.le_of_ble_eq_true rfl) (c4_addBottle a S σ hR hO (dig tp len (p + 1)) (dig tp len (p + 2)) (num tp len (p + 3)) h9 (dig_le (hds 1 (by rw [hdv]; decide))) hnl) ?_
    rintro v τ1 ⟨hB1, hB2⟩
    refine AW.retz ⟨_, rfl⟩ rfl (po_01 hB2) ?_
    have hc : cryN tp len p S = o1 S (dig tp len (p + 1)) (dig tp len (p + 2)) (num tp len (p + 3)) := by simp only [cryN, hl]; rfl
    rw [hc]
    exact ⟨hB1, hB2⟩
  by_cases h13_2 : (nI (ltN tp len p) : Int32) = 111
  · skip
    refine AW.lsw (tgt := 103) (off := 90) ⟨_, rfl⟩ (by decide) (by rw [h13_2]; rfl) (by decide) ?_
    have hl : ltN tp len p = 111 := nI_lit (n := 111) (by assumption) (by omega) (by decide)
    have hdv : dgN (ltN tp len p) = 1 := by rw [hl]; rfl
    refine AW.run 3 [] (106, [(3, .inl (nI (dig tp len (p + 1)))), (0, .inr (.inr (3, 0, 0))), (1, .inr (.inr (2, a, 0))), (2, .inl (nI p))], [.inl 0, .inl (nI (dig tp len (p + 1))), .inr (.inr (2, a, 0))], σ) [] rfl ?_ ?_
    · exact trivial
    refine AW.callSI (d' := 2) [.inr (.inr (2, a, 0)), .inl (nI (dig tp len (p + 1))), .inl 0] [] ⟨_, rfl⟩ f_4_pressOne s_4_pressOne l_4_48 rfl (Nat.le_of_ble_eq_true rfl) rfl (Nat.le_of_ble_eq_true rfl) (c4_pressOne a S σ hR hO (dig tp len (p + 1)) 0 h9) ?_
    rintro v τ1 ⟨hB1, hB2⟩
    refine AW.retz ⟨_, rfl⟩ rfl (po_01 hB2) ?_
    have hc : cryN tp len p S = o2 S (dig tp len (p + 1)) 0 := by simp only [cryN, hl]; rfl
    rw [hc]
    exact ⟨hB1, hB2⟩
  by_cases h13_3 : (nI (ltN tp len p) : Int32) = 112
  · skip
    refine AW.lsw (tgt := 84) (off := 71) ⟨_, rfl⟩ (by decide) (by rw [h13_3]; rfl) (by decide) ?_
    have hl : ltN tp len p = 112 := nI_lit (n := 112) (by assumption) (by omega) (by decide)
    have hdv : dgN (ltN tp len p) = 3 := by rw [hl]; rfl
    refine AW.run 6 [] (90, [(3, .inl (nI (dig tp len (p + 1)))), (0, .inr (.inr (3, 0, 0))), (1, .inr (.inr (2, a, 0))), (2, .inl (nI p))], [.inl ((nI p) + 2), .inr (.inr (3, 0, 0)), .inl (nI (dig tp len (p + 1))), .inr (.inr (2, a, 0))], σ) [] rfl ?_ ?_
    · exact trivial
    rw [show nI p + 2 = nI (p + 2) from nI_add p 2]
    refine AW.callVI (d' := 2) [.inl (nI (p + 2))] [.inl (nI (dig tp len (p + 1))), .inr (.inr (2, a, 0))] ⟨_, rfl⟩ f_4_numberAt v_4_numberAt l_4_41 ⟨rfl, by decide⟩ rfl (Nat.le_of_ble_eq_true rfl) rfl (Nat.le_of_ble_eq_true rfl) (c4_numberAt tp len σ hT (p + 2) (by omega) (hds 1 (by rw [hdv]; decide)) (hds 2 (by rw [hdv]; decide))) ?_
    rintro _ _ ⟨rfl, rfl⟩
    have hnl := num_le (tp := tp) (len := len) (k := p + 2) (hds 1 (by rw [hdv]; decide)) (hds 2 (by rw [hdv]; decide))
    refine AW.callSI (d' := 2) [.inr (.inr (2, a, 0)), .inl (nI (dig tp len (p + 1))), .inl (nI (num tp len (p + 2)))] [] ⟨_, rfl⟩ f_4_pressOne s_4_pressOne l_4_48 rfl (Nat.le_of_ble_eq_true rfl) rfl (Nat.le_of_ble_eq_true rfl) (c4_pressOne a S σ hR hO (dig tp len (p + 1)) (num tp len (p + 2)) h9) ?_
    rintro v τ1 ⟨hB1, hB2⟩
    refine AW.retz ⟨_, rfl⟩ rfl (po_01 hB2) ?_
    have hc : cryN tp len p S = o2 S (dig tp len (p + 1)) (num tp len (p + 2)) := by simp only [cryN, hl]; rfl
    rw [hc]
    exact ⟨hB1, hB2⟩
  by_cases h13_4 : (nI (ltN tp len p) : Int32) = 116
  · skip
    refine AW.lsw (tgt := 97) (off := 84) ⟨_, rfl⟩ (by decide) (by rw [h13_4]; rfl) (by decide) ?_
    have hl : ltN tp len p = 116 := nI_lit (n := 116) (by assumption) (by omega) (by decide)
    have hdv : dgN (ltN tp len p) = 1 := by rw [hl]; rfl
    refine AW.run 2 [] (99, [(3, .inl (nI (dig tp len (p + 1)))), (0, .inr (.inr (3, 0, 0))), (1, .inr (.inr (2, a, 0))), (2, .inl (nI p))], [.inl (nI (dig tp len (p + 1))), .inr (.inr (2, a, 0))], σ) [] rfl ?_ ?_
    · exact trivial
    refine AW.callSI (d' := 2) [.inr (.inr (2, a, 0)), .inl (nI (dig tp len (p + 1)))] [] ⟨_, rfl⟩ f_4_coverOne s_4_coverOne l_4_52 rfl (Nat.le_of_ble_eq_true rfl) rfl (Nat.le_of_ble_eq_true rfl) (c4_coverOne a S σ hR hO (dig tp len (p + 1)) h9) ?_
    rintro v τ1 ⟨hB1, hB2⟩
    refine AW.retz ⟨_, rfl⟩ rfl (po_01 hB2) ?_
    have hc : cryN tp len p S = o3 S (dig tp len (p + 1)) := by simp only [cryN, hl]; rfl
    rw [hc]
    exact ⟨hB1, hB2⟩
  by_cases h13_5 : (nI (ltN tp len p) : Int32) = 117
  · skip
    refine AW.lsw (tgt := 110) (off := 97) ⟨_, rfl⟩ (by decide) (by rw [h13_5]; rfl) (by decide) ?_
    have hl : ltN tp len p = 117 := nI_lit (n := 117) (by assumption) (by omega) (by decide)
    have hdv : dgN (ltN tp len p) = 2 := by rw [hl]; rfl
    refine AW.run 6 [] (116, [(3, .inl (nI (dig tp len (p + 1)))), (0, .inr (.inr (3, 0, 0))), (1, .inr (.inr (2, a, 0))), (2, .inl (nI p))], [.inl ((nI p) + 2), .inr (.inr (3, 0, 0)), .inl (nI (dig tp len (p + 1))), .inr (.inr (2, a, 0))], σ) [] rfl ?_ ?_
    · exact trivial
    rw [show nI p + 2 = nI (p + 2) from nI_add p 2]
    refine AW.callVI (d' := 1) [.inl (nI (p + 2))] [.inl (nI (dig tp len (p + 1))), .inr (.inr (2, a, 0))] ⟨_, rfl⟩ f_4_digitAt v_4_digitAt l_4_38 ⟨rfl, by decide⟩ rfl (Nat.le_of_ble_eq_true rfl) rfl (Nat.le_of_ble_eq_true rfl) (c4_digitAt tp len σ hT (p + 2) (by omega) (hds 1 (by rw [hdv]; decide))) ?_
    rintro _ _ ⟨rfl, rfl⟩
    refine AW.callVV (d' := 2) [.inl (nI (dig tp len (p + 1))), .inl (nI (dig tp len (p + 2)))] [] ⟨_, rfl⟩ f_3_nourish v_3_nourish l_4_55 ⟨rfl, by decide⟩ rfl (Nat.le_of_ble_eq_true rfl) rfl (Nat.le_of_ble_eq_true rfl) (c3_nourish a S σ hR hO (dig tp len (p + 1)) (dig tp len (p + 2)) h9 (dig_le (hds 1 (by rw [hdv]; decide)))) ?_
    rintro τ1 ⟨hB1, hB2⟩
    refine AW.run 1 [] (123, [(3, .inl (nI (dig tp len (p + 1)))), (0, .inr (.inr (3, 0, 0))), (1, .inr (.inr (2, a, 0))), (2, .inl (nI p))], [.inl 1], τ1) [] rfl ?_ ?_
    · exact trivial
    refine AW.retz ⟨_, rfl⟩ rfl (by decide) ?_
    have hc : cryN tp len p S = some (withU S (dig tp len (p + 1)) (dig tp len (p + 2))) := by simp only [cryN, hl]; rfl
    rw [hc]
    exact ⟨hB1, rfl, hB2⟩
  refine AW.lsw (tgt := 124) (off := 111) ⟨_, rfl⟩ (by decide) (by show Op.lookupswitch.offset [(98, 51), (111, 90), (112, 71), (116, 84), (117, 97)] 111 _ = 111; rw [lv_osw (a := 98) h13_1 rfl, lv_osw (a := 111) h13_2 rfl, lv_osw (a := 112) h13_3 rfl, lv_osw (a := 116) h13_4 rfl, lv_osw (a := 117) h13_5 rfl]; rfl) (by decide) ?_
  have hl : ltN tp len p = 100 := by
    have hk : ∀ l < 256, 0 < dgN l → l = 98 ∨ l = 112 ∨ l = 116 ∨ l = 117 ∨ l = 111 ∨ l = 100 := by decide
    rcases hk _ (by omega) hd0 with h | h | h | h | h | h
    · exact absurd (congrArg nI h) h13_1
    · exact absurd (congrArg nI h) h13_3
    · exact absurd (congrArg nI h) h13_4
    · exact absurd (congrArg nI h) h13_5
    · exact absurd (congrArg nI h) h13_2
    · exact h
  have hdv : dgN (ltN tp len p) = 2 := by rw [hl]; rfl
  refine AW.run 4 [] (128, [(3, .inl (nI (dig tp len (p + 1)))), (0, .inr (.inr (3, 0, 0))), (1, .inr (.inr (2, a, 0))), (2, .inl (nI p))], [.inl ((nI p) + 1), .inr (.inr (3, 0, 0))], σ) [] rfl ?_ ?_
  · exact trivial
  rw [show nI p + 1 = nI (p + 1) from nI_add p 1]
  refine AW.callVI (d' := 2) [.inl (nI (p + 1))] [] ⟨_, rfl⟩ f_4_numberAt v_4_numberAt l_4_41 ⟨rfl, by decide⟩ rfl (Nat.le_of_ble_eq_true rfl) rfl (Nat.le_of_ble_eq_true rfl) (c4_numberAt tp len σ hT (p + 1) (by omega) (hds 0 (by rw [hdv]; decide)) (hds 1 (by rw [hdv]; decide))) ?_
  rintro _ _ ⟨rfl, rfl⟩
  have hnl := num_le (tp := tp) (len := len) (k := p + 1) (hds 0 (by rw [hdv]; decide)) (hds 1 (by rw [hdv]; decide))
  refine AW.run 3 [] (136, [(4, .inl (nI (num tp len (p + 1)))), (3, .inl (nI (dig tp len (p + 1)))), (0, .inr (.inr (3, 0, 0))), (1, .inr (.inr (2, a, 0))), (2, .inl (nI p))], [.inl (nI (num tp len (p + 1))), .inr (.inr (2, a, 0))], σ) [] rfl ?_ ?_
  · exact trivial
  refine AW.callSI (d' := 0) [.inr (.inr (2, a, 0)), .inl (nI (num tp len (p + 1)))] [] ⟨_, rfl⟩ f_4_canPass s_4_canPass l_4_61 rfl (Nat.le_of_ble_eq_true rfl) rfl (Nat.le_of_ble_eq_true rfl) (c4_canPass a S σ hR hO (num tp len (p + 1)) hnl hd) ?_
  rintro v _ ⟨rfl, hv⟩
  rcases hv with ⟨rfl, hp136⟩ | ⟨rfl, hp136⟩
  · skip
    refine AW.run 3 [true] (147, [(4, .inl (nI (num tp len (p + 1)))), (3, .inl (nI (dig tp len (p + 1)))), (0, .inr (.inr (3, 0, 0))), (1, .inr (.inr (2, a, 0))), (2, .inl (nI p))], [.inl (nI (num tp len (p + 1))), .inr (.inr (2, a, 0))], σ) [icP .ne (1 : Int32) 0] rfl ?_ ?_
    · exact allP1 (by decide : (¬ (1 : Int32) = 0))
    refine AW.callVV (d' := 3) [.inl (nI (num tp len (p + 1)))] [] ⟨_, rfl⟩ f_3_pass v_3_pass l_4_64 ⟨rfl, by decide⟩ rfl (Nat.le_of_ble_eq_true rfl) rfl (Nat.le_of_ble_eq_true rfl) (c3_pass a S σ hR hO (num tp len (p + 1)) (by omega)) ?_
    rintro τ1 ⟨hB1, hB2⟩
    refine AW.run 1 [] (151, [(4, .inl (nI (num tp len (p + 1)))), (3, .inl (nI (dig tp len (p + 1)))), (0, .inr (.inr (3, 0, 0))), (1, .inr (.inr (2, a, 0))), (2, .inl (nI p))], [.inl 1], τ1) [] rfl ?_ ?_
    · exact trivial
    refine AW.retz ⟨_, rfl⟩ rfl (by decide) ?_
    have hc : cryN tp len p S = o4 S (num tp len (p + 1)) := by simp only [cryN, hl]; rfl
    rw [hc]
    rw [show o4 S (num tp len (p + 1)) = some _ from if_pos hp136]
    exact ⟨hB1, rfl, hB2⟩
  · skip
    refine AW.run 2 [false] (143, [(4, .inl (nI (num tp len (p + 1)))), (3, .inl (nI (dig tp len (p + 1)))), (0, .inr (.inr (3, 0, 0))), (1, .inr (.inr (2, a, 0))), (2, .inl (nI p))], [.inl 0], σ) [¬ icP .ne (0 : Int32) 0] rfl ?_ ?_
    · exact allP1 (by decide : ¬ (¬ (0 : Int32) = 0))
    refine AW.retz ⟨_, rfl⟩ rfl (by decide) ?_
    have hc : cryN tp len p S = o4 S (num tp len (p + 1)) := by simp only [cryN, hl]; rfl
    rw [hc]
    rw [show o4 S (num tp len (p + 1)) = none from if_neg hp136]
    exact ⟨only_rfl, rfl⟩
