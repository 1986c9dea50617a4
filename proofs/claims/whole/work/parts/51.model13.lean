/-! THE MODEL AS THE SAME WHOLE -/
theorem Ct.mono {M : MethT} {d : Nat} {av : List AV} {σ : St} {Q Q' : Option AV → St → Prop} (h : Ct M d av σ Q) (hQ : ∀ r σ', Q r σ' → Q' r σ') : Ct M d av σ Q' := fun hv G l p e ha hf hc s m args below h1 h2 h3 h4 => by
  obtain ⟨n, o, g1, g2, g3, ⟨⟨r, σ', q1, q2⟩, g5⟩, g6⟩ := h hv G l p e ha hf hc s m args below h1 h2 h3 h4
  exact ⟨n, o, g1, g2, g3, ⟨⟨r, σ', hQ r σ' q1, q2⟩, g5⟩, g6⟩
def TapeD (σ : St) (tp : Nat → Nat) (len : Nat) : Prop := σ 5 0 0 15 = nI len ∧ ∀ i, i < len → σ 5 0 12 i = nI (tp i)
def ImgD (m : Nat → Nat → Int32) (o : Option Sv) : Prop := match o with
  | none => m 0 19 = 0
  | some I => m 0 19 = 1 ∧ RepK m 0 I
def RepD (σ : St) (F : Gv) : Prop := RepM (σ 5 0) F.1 ∧ TapeD σ F.2.1.2 F.2.1.1 ∧ RowM σ F.2.2.1.2 F.2.2.1.1 ∧ (∀ k, 1 ≤ k → k ≤ 6 → σ 5 0 1 k = F.2.2.2.1 k) ∧ RepB (σ 5 0) F.2.2.2.2.1.1 F.2.2.2.2.1.2 ∧ ImgD (σ 5 0) F.2.2.2.2.2
def GOK (F : Gv) : Prop := FOK F ∧ Dst F.1 ∧ (∀ j, j < F.2.2.2.2.1.1 → Dst (F.2.2.2.2.1.2 j)) ∧ ∀ I, F.2.2.2.2.2 = some I → Dst I
def TT (_ _ : Nat) : Prop := True
def QD (σ : St) (r : Int32 × Gv) : Option AV → St → Prop := PI fun v σ' => ∃ F', r = (v, F') ∧ RepD σ' F' ∧ Fr TT σ σ'
def QDL (σ : St) (r : Int64 × Gv) : Option AV → St → Prop := PL fun v σ' => ∃ F', r = (v, F') ∧ RepD σ' F' ∧ Fr TT σ σ'
theorem fr_tt {P : Nat → Nat → Prop} {σ τ : St} (h : Fr P σ τ) : Fr TT σ τ := fr_mono h (fun _ _ _ => trivial)
theorem ImgD_mv {m m' : Nat → Nat → Int32} {o : Option Sv} (ho : ∀ I, o = some I → Sn I ≤ 8) (h1 : m' 0 19 = m 0 19) (h2 : ∀ t, t < 52 → m' 19 t = m 19 t) (h : ImgD m o) : ImgD m' o := by
  cases o with
  | none => exact h1.trans h
  | some I => exact ⟨h1.trans h.1, repK_eq (w := 0) (w' := 0) (ho I rfl) (fun t ht => by rw [Nat.mul_zero, Nat.zero_add]; exact h2 t ht) h.2⟩
theorem RepB_mv {m m' : Nat → Nat → Int32} {B : Nat} {ps : Nat → Sv} (hps : ∀ j, j < B → Sn (ps j) ≤ 8) (h1 : m' 0 22 = m 0 22) (h2 : ∀ k, 156 ≤ k → m' 19 k = m 19 k) (h : RepB m B ps) : RepB m' B ps := ⟨h1.trans h.1, fun j hj => repK_eq (hps j hj) (fun t _ => h2 _ (by omega)) (h.2 j hj)⟩
theorem RowM_mv {σ τ : St} {w : Nat → Nat} {m : Nat} (h : RowM σ w m) (h1 : τ 5 0 0 24 = σ 5 0 0 24) (h2 : ∀ i, τ 5 0 24 i = σ 5 0 24 i) : RowM τ w m := ⟨h.1, by rw [h1]; exact h.2.1, fun i hi => by rw [h2]; exact h.2.2 i hi⟩
/-- what the whole rests on, beside the shelf -/
def Pres (j k : Nat) : Prop := (j = 0 ∧ (k = 15 ∨ k = 19 ∨ k = 22 ∨ k = 24)) ∨ j = 12 ∨ j = 24 ∨ j = 1 ∨ (j = 19 ∧ (k < 52 ∨ 156 ≤ k))
theorem RepD_mv {P : Nat → Nat → Prop} {σ τ : St} {F : Gv} {S : Sv} (hF : FOK F) (h : Fr P σ τ) (hp : ∀ j k, P j k → ¬ Pres j k) (hD : RepD σ F) (hR : RepM (τ 5 0) S) : RepD τ (S, F.2) := by
  obtain ⟨-, ⟨t1, t2⟩, hw, hr, hb, hi⟩ := hD
  have e : ∀ j k, Pres j k → τ 5 0 j k = σ 5 0 j k := fun j k hj => fr_at h (fun q => hp j k q hj)
  exact ⟨hR, ⟨by rw [e 0 15 (by unfold Pres; omega)]; exact t1, fun i hi => by rw [e 12 i (by unfold Pres; omega)]; exact t2 i hi⟩, RowM_mv hw (e 0 24 (by unfold Pres; omega)) (fun i => e 24 i (by unfold Pres; omega)), fun k h1 h2 => by rw [e 1 k (by unfold Pres; omega)]; exact hr k h1 h2, RepB_mv (fun j hj => (hF.2.2.2.1.2 j hj).1.1) (e 0 22 (by unfold Pres; omega)) (fun k hk => e 19 k (by unfold Pres; omega)) hb, ImgD_mv (fun I hI => (hF.2.2.2.2 I hI).1.1) (e 0 19 (by unfold Pres; omega)) (fun t ht => e 19 t (by unfold Pres; omega)) hi⟩
theorem p2_pres (j k : Nat) (h : P2 j k) : ¬ Pres j k := by unfold P2 P1 at h; unfold Pres; omega
theorem QD_fr {σ τ : St} {F : Gv} {S : Sv} (hF : FOK F) (h : Fr P2 σ τ) (hD : RepD σ F) (hR : RepM (τ 5 0) S) : RepD τ (S, F.2) ∧ Fr TT σ τ := ⟨RepD_mv hF h p2_pres hD hR, fr_tt h⟩
theorem RepD_ref {σ : St} {F : Gv} {k : Nat} (hF : FOK F) (hD : RepD σ F) (hk : 1 ≤ k) (hk2 : k ≤ 6) : RepD (setM σ 5 0 1 k (σ 5 0 1 k + 1)) (rfuF F k) ∧ Fr TT σ (setM σ 5 0 1 k (σ 5 0 1 k + 1)) := by
  obtain ⟨h1, ⟨t1, t2⟩, hw, hr, hb, hi⟩ := hD
  have e : ∀ j i, j ≠ 1 → setM σ 5 0 1 k (σ 5 0 1 k + 1) 5 0 j i = σ 5 0 j i := fun j i hj => by rw [setM_at, if_neg (by omega)]
  refine ⟨⟨repM_fr (P := fun j _ => j = 1) (fr_set fr_rfl rfl) (fun j k q => by omega) h1, ⟨by rw [e 0 15 (by omega)]; exact t1, fun i hi => by rw [e 12 i (by omega)]; exact t2 i hi⟩, RowM_mv hw (e 0 24 (by omega)) (fun i => e 24 i (by omega)), fun i h1 h2 => ?_, RepB_mv (fun j hj => (hF.2.2.2.1.2 j hj).1.1) (e 0 22 (by omega)) (fun k hk => e 19 k (by omega)) hb, ImgD_mv (fun I hI => (hF.2.2.2.2 I hI).1.1) (e 0 19 (by omega)) (fun t ht => e 19 t (by omega)) hi⟩, fr_set fr_rfl trivial⟩
  rw [setM_at]
  show _ = fu F.2.2.2.1 k (F.2.2.2.1 k + 1) i
  unfold fu
  by_cases he : i = k
  · rw [if_pos ⟨rfl, he⟩, if_pos he, hr k hk hk2]
  · rw [if_neg (by omega), if_neg he]; exact hr i h1 h2
theorem in_ne {x : Int32} {b : Nat} (hb : b + 1 < 2 ^ 31) (h : ∀ k, k < b + 1 → x ≠ nI k) : x < 0 ∨ nI b < x := by
  by_cases h0 : x < 0
  · exact Or.inl h0
  · obtain ⟨j, hj, rfl⟩ := nI_of h0
    refine Or.inr (nI_lt ?_ hj)
    apply Nat.lt_of_not_le
    intro hle
    exact h j (by omega) rfl
theorem in_01 {x : Int32} (h0 : ¬ x = 0) (h1 : ¬ x = 1) : x < 0 ∨ (1 : Int32) < x := in_ne (b := 1) (by decide) (fun k hk => by
  rcases (show k = 0 ∨ k = 1 by omega) with rfl | rfl
  · exact h0
  · exact h1)
theorem in_012 {x : Int32} (h0 : ¬ x = 0) (h1 : ¬ x = 1) (h2 : ¬ x = 2) : x < 0 ∨ (2 : Int32) < x := in_ne (b := 2) (by decide) (fun k hk => by
  rcases (show k = 0 ∨ k = 1 ∨ k = 2 by omega) with rfl | rfl | rfl
  · exact h0
  · exact h1
  · exact h2)

set_option maxHeartbeats 4000000 in
set_option maxRecDepth 100000 in
theorem c6_notWhole0 (S : Sv) (σ : St) (hR : RepM (σ 5 0) S) (hO : SOK S) (k : Nat) (hk : k < Sn S) (hw : Sw S k = false) : Ct M6_notWhole 1 [.inr (.inr (5, 0, 0)), .inl (nI k)] σ (PI fun r9 σ' => (-3 : Int32) = r9 ∧ σ = σ') := by
  refine Ct.of f_6_notWhole (Nat.le_of_ble_eq_true rfl) ?_
  show AW M6_notWhole 1 _ (0, [(0, .inr (.inr (5, 0, 0))), (1, .inl (nI k))], [], σ)
  have hn8 : Sn S ≤ 8 := hO.1
  have e7 := hR.1.1
  refine AW.run 2 [] (2, [(0, .inr (.inr (5, 0, 0))), (1, .inl (nI k))], [.inl (nI k), .inr (.inr (5, 0, 0))], σ) [] rfl ?_ ?_
  · exact trivial
  refine AW.callVI (d' := 0) [.inl (nI k)] [] ⟨_, rfl⟩ f_6_isBottle v_6_isBottle l_6_105 ⟨rfl, by decide⟩ rfl (Nat.le_of_ble_eq_true rfl) rfl (Nat.le_of_ble_eq_true rfl) (c6_isBottle1 (Sn S) σ e7 hn8 k hk) ?_
  rintro _ _ ⟨rfl, rfl⟩
  refine AW.run 3 [true] (14, [(0, .inr (.inr (5, 0, 0))), (1, .inl (nI k))], [.inl (nI k), .inr (.inr (5, 0, 0))], σ) [icP .ne (1 : Int32) 0] rfl ?_ ?_
  · exact allP1 (by decide : (¬ (1 : Int32) = 0))
  refine AW.callVI (d' := 0) [.inl (nI k)] [] ⟨_, rfl⟩ f_6_isWhole v_6_isWhole l_6_108 ⟨rfl, by decide⟩ rfl (Nat.le_of_ble_eq_true rfl) rfl (Nat.le_of_ble_eq_true rfl) (c6_isWhole S σ hR hO.1 k hk) ?_
  rintro v _ ⟨rfl, hv⟩
  obtain rfl : v = 0 := by
    rcases hv with h | h
    · exact absurd (hw.symm.trans h.2) (by decide)
    · exact h.1
  refine AW.run 3 [false] (26, [(0, .inr (.inr (5, 0, 0))), (1, .inl (nI k))], [.inl (-3)], σ) [¬ icP .ne (0 : Int32) 0] rfl ?_ ?_
  · exact allP1 (by decide : ¬ (¬ (0 : Int32) = 0))
  refine AW.reti ⟨_, rfl⟩ rfl ?_
  exact ⟨rfl, rfl⟩
set_option maxHeartbeats 4000000 in
set_option maxRecDepth 100000 in
theorem c6_notWhole1 (S : Sv) (σ : St) (hR : RepM (σ 5 0) S) (hO : SOK S) (k : Nat) (hk : k < Sn S) (hw : Sw S k = true) : Ct M6_notWhole 1 [.inr (.inr (5, 0, 0)), .inl (nI k)] σ (PI fun r9 σ' => (0 : Int32) = r9 ∧ σ = σ') := by
  refine Ct.of f_6_notWhole (Nat.le_of_ble_eq_true rfl) ?_
  show AW M6_notWhole 1 _ (0, [(0, .inr (.inr (5, 0, 0))), (1, .inl (nI k))], [], σ)
  have hn8 : Sn S ≤ 8 := hO.1
  have e7 := hR.1.1
  refine AW.run 2 [] (2, [(0, .inr (.inr (5, 0, 0))), (1, .inl (nI k))], [.inl (nI k), .inr (.inr (5, 0, 0))], σ) [] rfl ?_ ?_
  · exact trivial
  refine AW.callVI (d' := 0) [.inl (nI k)] [] ⟨_, rfl⟩ f_6_isBottle v_6_isBottle l_6_105 ⟨rfl, by decide⟩ rfl (Nat.le_of_ble_eq_true rfl) rfl (Nat.le_of_ble_eq_true rfl) (c6_isBottle1 (Sn S) σ e7 hn8 k hk) ?_
  rintro _ _ ⟨rfl, rfl⟩
  refine AW.run 3 [true] (14, [(0, .inr (.inr (5, 0, 0))), (1, .inl (nI k))], [.inl (nI k), .inr (.inr (5, 0, 0))], σ) [icP .ne (1 : Int32) 0] rfl ?_ ?_
  · exact allP1 (by decide : (¬ (1 : Int32) = 0))
  refine AW.callVI (d' := 0) [.inl (nI k)] [] ⟨_, rfl⟩ f_6_isWhole v_6_isWhole l_6_108 ⟨rfl, by decide⟩ rfl (Nat.le_of_ble_eq_true rfl) rfl (Nat.le_of_ble_eq_true rfl) (c6_isWhole S σ hR hO.1 k hk) ?_
  rintro v _ ⟨rfl, hv⟩
  obtain rfl : v = 1 := by
    rcases hv with h | h
    · exact h.1
    · exact absurd (hw.symm.trans h.2) (by decide)
  refine AW.run 2 [true] (26, [(0, .inr (.inr (5, 0, 0))), (1, .inl (nI k))], [.inl 0], σ) [icP .ne (1 : Int32) 0] rfl ?_ ?_
  · exact allP1 (by decide : (¬ (1 : Int32) = 0))
  refine AW.reti ⟨_, rfl⟩ rfl ?_
  exact ⟨rfl, rfl⟩
set_option maxHeartbeats 4000000 in
set_option maxRecDepth 100000 in
theorem c6_notWholeN (n : Nat) (σ : St) (e7 : σ 5 0 0 7 = nI n) (hn : n ≤ 8) (x : Int32) (h : ∀ k, k < n → x ≠ nI k) : Ct M6_notWhole 1 [.inr (.inr (5, 0, 0)), .inl x] σ (PI fun r9 σ' => (-1 : Int32) = r9 ∧ σ = σ') := by
  refine Ct.of f_6_notWhole (Nat.le_of_ble_eq_true rfl) ?_
  show AW M6_notWhole 1 _ (0, [(0, .inr (.inr (5, 0, 0))), (1, .inl x)], [], σ)
  refine AW.run 2 [] (2, [(0, .inr (.inr (5, 0, 0))), (1, .inl x)], [.inl x, .inr (.inr (5, 0, 0))], σ) [] rfl ?_ ?_
  · exact trivial
  refine AW.callVI (d' := 0) [.inl x] [] ⟨_, rfl⟩ f_6_isBottle v_6_isBottle l_6_105 ⟨rfl, by decide⟩ rfl (Nat.le_of_ble_eq_true rfl) rfl (Nat.le_of_ble_eq_true rfl) (c6_isBottle0 n σ e7 hn x h) ?_
  rintro _ _ ⟨rfl, rfl⟩
  refine AW.run 3 [false] (26, [(0, .inr (.inr (5, 0, 0))), (1, .inl x)], [.inl (-1)], σ) [¬ icP .ne (0 : Int32) 0] rfl ?_ ?_
  · exact allP1 (by decide : ¬ (¬ (0 : Int32) = 0))
  refine AW.reti ⟨_, rfl⟩ rfl ?_
  exact ⟨rfl, rfl⟩
theorem d6_quiet (F : Gv) (σ : St) (hD : RepD σ F) (hG : GOK F) : Ct M6_quiet 5 [.inr (.inr (5, 0, 0))] σ (QD σ (quietP F)) :=
  Ct.mono (c6_quiet F.1 σ hD.1 hG.1.1.1) (fun r σ' h => by
    obtain ⟨v, rfl, rfl, h1, h2⟩ := h
    exact ⟨_, rfl, F, rfl, QD_fr hG.1 h1 hD h2⟩)
theorem d6_halved (F : Gv) (σ : St) (hD : RepD σ F) (hG : GOK F) : Ct M6_halved 5 [.inr (.inr (5, 0, 0))] σ (QD σ (halvedP F)) :=
  Ct.mono (c6_halved F.1 σ hD.1 hG.1.1.1) (fun r σ' h => by
    obtain ⟨v, rfl, rfl, h1, h2⟩ := h
    exact ⟨_, rfl, F, rfl, QD_fr hG.1 h1 hD h2⟩)
set_option maxHeartbeats 4000000 in
set_option maxRecDepth 100000 in
theorem d6_pressIn (F : Gv) (σ : St) (hD : RepD σ F) (hG : GOK F) (b : Int32) (n : Int32) : Ct M6_pressIn 7 [.inr (.inr (5, 0, 0)), .inl b, .inl n] σ (QD σ (pressInP F b n)) := by
  refine Ct.of f_6_pressIn (Nat.le_of_ble_eq_true rfl) ?_
  show AW M6_pressIn 7 _ (0, [(0, .inr (.inr (5, 0, 0))), (1, .inl b), (2, .inl n)], [], σ)
  have hF : FOK F := hG.1
  have hR : RepM (σ 5 0) F.1 := hD.1
  have hO : SOK F.1 := hF.1.1
  have hn8 : Sn F.1 ≤ 8 := hO.1
  have e7 := hR.1.1
  rcases bot_or (Sn F.1) b with ⟨k, hk, rfl⟩ | hnok
  · skip
    have h8k : k < 8 := by omega
    rcases fMax_or 60 (by decide) n with ⟨h4n1, en1⟩ | ⟨h4n1, h6n1, en1⟩ | ⟨n1, hn1, rfl, en1⟩
    · skip
      refine AW.run 2 [] (2, [(0, .inr (.inr (5, 0, 0))), (1, .inl (nI k)), (2, .inl n)], [.inl (nI k), .inr (.inr (5, 0, 0))], σ) [] rfl ?_ ?_
      · exact trivial
      refine AW.callVI (d' := 0) [.inl (nI k)] [] ⟨_, rfl⟩ f_6_isBottle v_6_isBottle l_6_105 ⟨rfl, by decide⟩ rfl (Nat.le_of_ble_eq_true rfl) rfl (Nat.le_of_ble_eq_true rfl) (c6_isBottle1 (Sn F.1) σ e7 hn8 k hk) ?_
      rintro _ _ ⟨rfl, rfl⟩
      refine AW.run 2 [true] (13, [(0, .inr (.inr (5, 0, 0))), (1, .inl (nI k)), (2, .inl n)], [.inl n], σ) [icP .ne (1 : Int32) 0] rfl ?_ ?_
      · exact allP1 (by decide : (¬ (1 : Int32) = 0))
      refine AW.callSI (d' := 1) [.inl n] [] ⟨_, rfl⟩ f_6_notDays s_6_notDays l_6_209 rfl (Nat.le_of_ble_eq_true rfl) rfl (Nat.le_of_ble_eq_true rfl) (c6_notDays4 n h4n1 σ) ?_
      rintro _ _ ⟨rfl, rfl⟩
      refine AW.run 5 [false] (23, [(3, .inl (-4)), (0, .inr (.inr (5, 0, 0))), (1, .inl (nI k)), (2, .inl n)], [.inl (-4), .inr (.inr (5, 0, 0))], σ) [¬ icP .eq ((-4) : Int32) 0] rfl ?_ ?_
      · exact allP1 (by decide : ¬ (((-4) : Int32) = 0))
      refine AW.callVI (d' := 0) [.inl (-4)] [] ⟨_, rfl⟩ f_6_no v_6_no l_6_69 ⟨rfl, by decide⟩ rfl (Nat.le_of_ble_eq_true rfl) rfl (Nat.le_of_ble_eq_true rfl) (c6_no4 σ) ?_
      rintro _ _ ⟨rfl, rfl⟩
      refine AW.run 1 [] (35, [(3, .inl (-4)), (0, .inr (.inr (5, 0, 0))), (1, .inl (nI k)), (2, .inl n)], [.inl (-4)], (setM σ 5 0 1 4 (σ 5 0 1 4 + 1))) [] rfl ?_ ?_
      · exact trivial
      refine AW.reti ⟨_, rfl⟩ rfl ?_
      exact ⟨rfuF F 4, (by unfold pressInP; rw [botP_some hk hn8, maxP_e4 en1]; try rfl), RepD_ref hF hD (by decide) (by decide)⟩
    · skip
      refine AW.run 2 [] (2, [(0, .inr (.inr (5, 0, 0))), (1, .inl (nI k)), (2, .inl n)], [.inl (nI k), .inr (.inr (5, 0, 0))], σ) [] rfl ?_ ?_
      · exact trivial
      refine AW.callVI (d' := 0) [.inl (nI k)] [] ⟨_, rfl⟩ f_6_isBottle v_6_isBottle l_6_105 ⟨rfl, by decide⟩ rfl (Nat.le_of_ble_eq_true rfl) rfl (Nat.le_of_ble_eq_true rfl) (c6_isBottle1 (Sn F.1) σ e7 hn8 k hk) ?_
      rintro _ _ ⟨rfl, rfl⟩
      refine AW.run 2 [true] (13, [(0, .inr (.inr (5, 0, 0))), (1, .inl (nI k)), (2, .inl n)], [.inl n], σ) [icP .ne (1 : Int32) 0] rfl ?_ ?_
      · exact allP1 (by decide : (¬ (1 : Int32) = 0))
      refine AW.callSI (d' := 1) [.inl n] [] ⟨_, rfl⟩ f_6_notDays s_6_notDays l_6_209 rfl (Nat.le_of_ble_eq_true rfl) rfl (Nat.le_of_ble_eq_true rfl) (c6_notDays6 n h4n1 h6n1 σ) ?_
      rintro _ _ ⟨rfl, rfl⟩
      refine AW.run 5 [false] (23, [(3, .inl (-6)), (0, .inr (.inr (5, 0, 0))), (1, .inl (nI k)), (2, .inl n)], [.inl (-6), .inr (.inr (5, 0, 0))], σ) [¬ icP .eq ((-6) : Int32) 0] rfl ?_ ?_
      · exact allP1 (by decide : ¬ (((-6) : Int32) = 0))
      refine AW.callVI (d' := 0) [.inl (-6)] [] ⟨_, rfl⟩ f_6_no v_6_no l_6_69 ⟨rfl, by decide⟩ rfl (Nat.le_of_ble_eq_true rfl) rfl (Nat.le_of_ble_eq_true rfl) (c6_no6 σ) ?_
      rintro _ _ ⟨rfl, rfl⟩
      refine AW.run 1 [] (35, [(3, .inl (-6)), (0, .inr (.inr (5, 0, 0))), (1, .inl (nI k)), (2, .inl n)], [.inl (-6)], (setM σ 5 0 1 6 (σ 5 0 1 6 + 1))) [] rfl ?_ ?_
      · exact trivial
      refine AW.reti ⟨_, rfl⟩ rfl ?_
      exact ⟨rfuF F 6, (by unfold pressInP; rw [botP_some hk hn8, maxP_e6 en1]; try rfl), RepD_ref hF hD (by decide) (by decide)⟩
    · skip
      have nln1 : ¬ nI n1 < 0 := nlt0 (by omega)
      have nmn1 : ¬ nI 60 < nI n1 := nI_nlt hn1 (by decide)
      refine AW.run 2 [] (2, [(0, .inr (.inr (5, 0, 0))), (1, .inl (nI k)), (2, .inl (nI n1))], [.inl (nI k), .inr (.inr (5, 0, 0))], σ) [] rfl ?_ ?_
      · exact trivial
      refine AW.callVI (d' := 0) [.inl (nI k)] [] ⟨_, rfl⟩ f_6_isBottle v_6_isBottle l_6_105 ⟨rfl, by decide⟩ rfl (Nat.le_of_ble_eq_true rfl) rfl (Nat.le_of_ble_eq_true rfl) (c6_isBottle1 (Sn F.1) σ e7 hn8 k hk) ?_
      rintro _ _ ⟨rfl, rfl⟩
      refine AW.run 2 [true] (13, [(0, .inr (.inr (5, 0, 0))), (1, .inl (nI k)), (2, .inl (nI n1))], [.inl (nI n1)], σ) [icP .ne (1 : Int32) 0] rfl ?_ ?_
      · exact allP1 (by decide : (¬ (1 : Int32) = 0))
      refine AW.callSI (d' := 1) [.inl (nI n1)] [] ⟨_, rfl⟩ f_6_notDays s_6_notDays l_6_209 rfl (Nat.le_of_ble_eq_true rfl) rfl (Nat.le_of_ble_eq_true rfl) (c6_notDays0 (nI n1) nln1 nmn1 σ) ?_
      rintro _ _ ⟨rfl, rfl⟩
      refine AW.run 6 [true] (32, [(3, .inl 0), (0, .inr (.inr (5, 0, 0))), (1, .inl (nI k)), (2, .inl (nI n1))], [.inl (nI n1), .inl (nI k), .inr (.inr (5, 0, 0))], σ) [icP .eq (0 : Int32) 0] rfl ?_ ?_
      · exact allP1 (by decide : ((0 : Int32) = 0))
      refine AW.callVI (d' := 6) [.inl (nI k), .inl (nI n1)] [] ⟨_, rfl⟩ f_6_pressBehind v_6_pressBehind l_6_212 ⟨rfl, by decide⟩ rfl (Nat.le_of_ble_eq_true rfl) rfl (Nat.le_of_ble_eq_true rfl) (c6_pressBehind F.1 σ hR hO k n1 hk (by omega)) ?_
      rintro _ τ68 ⟨rfl, f68, r68⟩
      refine AW.reti ⟨_, rfl⟩ rfl ?_
      exact ⟨F, (by unfold pressInP; rw [botP_some hk hn8, maxP_e0 en1 (by omega)]; try rfl), QD_fr hF (fr_trans fr_rfl f68) hD r68⟩
  · skip
    refine AW.run 2 [] (2, [(0, .inr (.inr (5, 0, 0))), (1, .inl b), (2, .inl n)], [.inl b, .inr (.inr (5, 0, 0))], σ) [] rfl ?_ ?_
    · exact trivial
    refine AW.callVI (d' := 0) [.inl b] [] ⟨_, rfl⟩ f_6_isBottle v_6_isBottle l_6_105 ⟨rfl, by decide⟩ rfl (Nat.le_of_ble_eq_true rfl) rfl (Nat.le_of_ble_eq_true rfl) (c6_isBottle0 (Sn F.1) σ e7 hn8 b hnok) ?_
    rintro _ _ ⟨rfl, rfl⟩
    refine AW.run 8 [false, false] (23, [(3, .inl (-1)), (0, .inr (.inr (5, 0, 0))), (1, .inl b), (2, .inl n)], [.inl (-1), .inr (.inr (5, 0, 0))], σ) [¬ icP .ne (0 : Int32) 0, ¬ icP .eq ((-1) : Int32) 0] rfl ?_ ?_
    · exact ⟨(by decide : ¬ (¬ (0 : Int32) = 0)), allP1 (by decide : ¬ (((-1) : Int32) = 0))⟩
    refine AW.callVI (d' := 0) [.inl (-1)] [] ⟨_, rfl⟩ f_6_no v_6_no l_6_69 ⟨rfl, by decide⟩ rfl (Nat.le_of_ble_eq_true rfl) rfl (Nat.le_of_ble_eq_true rfl) (c6_no1 σ) ?_
    rintro _ _ ⟨rfl, rfl⟩
    refine AW.run 1 [] (35, [(3, .inl (-1)), (0, .inr (.inr (5, 0, 0))), (1, .inl b), (2, .inl n)], [.inl (-1)], (setM σ 5 0 1 1 (σ 5 0 1 1 + 1))) [] rfl ?_ ?_
    · exact trivial
    refine AW.reti ⟨_, rfl⟩ rfl ?_
    exact ⟨rfuF F 1, (by unfold pressInP; rw [botP_none hnok]; try rfl), RepD_ref hF hD (by decide) (by decide)⟩
set_option maxHeartbeats 4000000 in
set_option maxRecDepth 100000 in
theorem d6_takes (F : Gv) (σ : St) (hD : RepD σ F) (hG : GOK F) (b : Int32) : Ct M6_takes 5 [.inr (.inr (5, 0, 0)), .inl b] σ (QD σ (takesP F b)) := by
  refine Ct.of f_6_takes (Nat.le_of_ble_eq_true rfl) ?_
  show AW M6_takes 5 _ (0, [(0, .inr (.inr (5, 0, 0))), (1, .inl b)], [], σ)
  have hF : FOK F := hG.1
  have hR : RepM (σ 5 0) F.1 := hD.1
  have hO : SOK F.1 := hF.1.1
  have hn8 : Sn F.1 ≤ 8 := hO.1
  have e7 := hR.1.1
  rcases bot_or (Sn F.1) b with ⟨k, hk, rfl⟩ | hnok
  · skip
    have h8k : k < 8 := by omega
    cases hw : Sw F.1 k
    · skip
      refine AW.run 2 [] (2, [(0, .inr (.inr (5, 0, 0))), (1, .inl (nI k))], [.inl (nI k), .inr (.inr (5, 0, 0))], σ) [] rfl ?_ ?_
      · exact trivial
      refine AW.callVI (d' := 1) [.inl (nI k)] [] ⟨_, rfl⟩ f_6_notWhole v_6_notWhole l_6_194 ⟨rfl, by decide⟩ rfl (Nat.le_of_ble_eq_true rfl) rfl (Nat.le_of_ble_eq_true rfl) (c6_notWhole0 F.1 σ hR hO k hk hw) ?_
      rintro _ _ ⟨rfl, rfl⟩
      refine AW.run 5 [false] (12, [(2, .inl (-3)), (0, .inr (.inr (5, 0, 0))), (1, .inl (nI k))], [.inl (-3), .inr (.inr (5, 0, 0))], σ) [¬ icP .eq ((-3) : Int32) 0] rfl ?_ ?_
      · exact allP1 (by decide : ¬ (((-3) : Int32) = 0))
      refine AW.callVI (d' := 0) [.inl (-3)] [] ⟨_, rfl⟩ f_6_no v_6_no l_6_69 ⟨rfl, by decide⟩ rfl (Nat.le_of_ble_eq_true rfl) rfl (Nat.le_of_ble_eq_true rfl) (c6_no3 σ) ?_
      rintro _ _ ⟨rfl, rfl⟩
      refine AW.run 1 [] (23, [(2, .inl (-3)), (0, .inr (.inr (5, 0, 0))), (1, .inl (nI k))], [.inl (-3)], (setM σ 5 0 1 3 (σ 5 0 1 3 + 1))) [] rfl ?_ ?_
      · exact trivial
      refine AW.reti ⟨_, rfl⟩ rfl ?_
      exact ⟨rfuF F 3, (by unfold takesP; rw [botP_some hk hn8, whP_f hw]; try rfl), RepD_ref hF hD (by decide) (by decide)⟩
    · skip
      refine AW.run 2 [] (2, [(0, .inr (.inr (5, 0, 0))), (1, .inl (nI k))], [.inl (nI k), .inr (.inr (5, 0, 0))], σ) [] rfl ?_ ?_
      · exact trivial
      refine AW.callVI (d' := 1) [.inl (nI k)] [] ⟨_, rfl⟩ f_6_notWhole v_6_notWhole l_6_194 ⟨rfl, by decide⟩ rfl (Nat.le_of_ble_eq_true rfl) rfl (Nat.le_of_ble_eq_true rfl) (c6_notWhole1 F.1 σ hR hO k hk hw) ?_
      rintro _ _ ⟨rfl, rfl⟩
      refine AW.run 5 [true] (20, [(2, .inl 0), (0, .inr (.inr (5, 0, 0))), (1, .inl (nI k))], [.inl (nI k), .inr (.inr (5, 0, 0))], σ) [icP .eq (0 : Int32) 0] rfl ?_ ?_
      · exact allP1 (by decide : ((0 : Int32) = 0))
      refine AW.callVI (d' := 4) [.inl (nI k)] [] ⟨_, rfl⟩ f_6_takenBy v_6_takenBy l_6_225 ⟨rfl, by decide⟩ rfl (Nat.le_of_ble_eq_true rfl) rfl (Nat.le_of_ble_eq_true rfl) (c6_takenBy F.1 σ hR hO k hk) ?_
      rintro _ τ69 ⟨rfl, f69, r69⟩
      refine AW.reti ⟨_, rfl⟩ rfl ?_
      exact ⟨F, (by unfold takesP; rw [botP_some hk hn8, whP_t hw]; try rfl), QD_fr hF (fr_trans fr_rfl f69) hD r69⟩
  · skip
    refine AW.run 2 [] (2, [(0, .inr (.inr (5, 0, 0))), (1, .inl b)], [.inl b, .inr (.inr (5, 0, 0))], σ) [] rfl ?_ ?_
    · exact trivial
    refine AW.callVI (d' := 1) [.inl b] [] ⟨_, rfl⟩ f_6_notWhole v_6_notWhole l_6_194 ⟨rfl, by decide⟩ rfl (Nat.le_of_ble_eq_true rfl) rfl (Nat.le_of_ble_eq_true rfl) (c6_notWholeN (Sn F.1) σ e7 hn8 b hnok) ?_
    rintro _ _ ⟨rfl, rfl⟩
    refine AW.run 5 [false] (12, [(2, .inl (-1)), (0, .inr (.inr (5, 0, 0))), (1, .inl b)], [.inl (-1), .inr (.inr (5, 0, 0))], σ) [¬ icP .eq ((-1) : Int32) 0] rfl ?_ ?_
    · exact allP1 (by decide : ¬ (((-1) : Int32) = 0))
    refine AW.callVI (d' := 0) [.inl (-1)] [] ⟨_, rfl⟩ f_6_no v_6_no l_6_69 ⟨rfl, by decide⟩ rfl (Nat.le_of_ble_eq_true rfl) rfl (Nat.le_of_ble_eq_true rfl) (c6_no1 σ) ?_
    rintro _ _ ⟨rfl, rfl⟩
    refine AW.run 1 [] (23, [(2, .inl (-1)), (0, .inr (.inr (5, 0, 0))), (1, .inl b)], [.inl (-1)], (setM σ 5 0 1 1 (σ 5 0 1 1 + 1))) [] rfl ?_ ?_
    · exact trivial
    refine AW.reti ⟨_, rfl⟩ rfl ?_
    exact ⟨rfuF F 1, (by unfold takesP; rw [botP_none hnok]; try rfl), RepD_ref hF hD (by decide) (by decide)⟩
set_option maxHeartbeats 4000000 in
set_option maxRecDepth 100000 in
theorem d6_shares (F : Gv) (σ : St) (hD : RepD σ F) (hG : GOK F) (n : Int32) (w : Int32) : Ct M6_shares 2 [.inr (.inr (5, 0, 0)), .inl n, .inl w] σ (QD σ (sharesP F n w)) := by
  refine Ct.of f_6_shares (Nat.le_of_ble_eq_true rfl) ?_
  show AW M6_shares 2 _ (0, [(0, .inr (.inr (5, 0, 0))), (1, .inl n), (2, .inl w)], [], σ)
  have hF : FOK F := hG.1
  have hR : RepM (σ 5 0) F.1 := hD.1
  have hO : SOK F.1 := hF.1.1
  have hn8 : Sn F.1 ≤ 8 := hO.1
  have e7 := hR.1.1
  rcases lt1_or n with hl | ⟨n1, h1n1, h31, rfl, hl⟩
  · skip
    refine AW.run 3 [] (4, [(0, .inr (.inr (5, 0, 0))), (1, .inl n), (2, .inl w)], [.inl 9, .inl 1, .inl n], σ) [] rfl ?_ ?_
    · exact trivial
    refine AW.callSI (d' := 0) [.inl n, .inl 1, .inl 9] [] ⟨_, rfl⟩ f_6_bound s_6_bound l_6_62 rfl (Nat.le_of_ble_eq_true rfl) rfl (Nat.le_of_ble_eq_true rfl) (c6_bound4 n 1 9 hl σ) ?_
    rintro _ _ ⟨rfl, rfl⟩
    refine AW.run 7 [true, false] (30, [(3, .inl (-4)), (0, .inr (.inr (5, 0, 0))), (1, .inl n), (2, .inl w)], [.inl (-4), .inr (.inr (5, 0, 0))], σ) [icP .ne ((-4) : Int32) 0, ¬ icP .eq ((-4) : Int32) 0] rfl ?_ ?_
    · exact ⟨(by decide : (¬ ((-4) : Int32) = 0)), allP1 (by decide : ¬ (((-4) : Int32) = 0))⟩
    refine AW.callVI (d' := 0) [.inl (-4)] [] ⟨_, rfl⟩ f_6_no v_6_no l_6_69 ⟨rfl, by decide⟩ rfl (Nat.le_of_ble_eq_true rfl) rfl (Nat.le_of_ble_eq_true rfl) (c6_no4 σ) ?_
    rintro _ _ ⟨rfl, rfl⟩
    refine AW.reti ⟨_, rfl⟩ rfl ?_
    exact ⟨rfuF F 4, (by unfold sharesP; rw [if_pos hl]; try rfl), RepD_ref hF hD (by decide) (by decide)⟩
  · skip
    by_cases hn1 : n1 ≤ 9
    · skip
      by_cases h0w : w = 0
      · subst h0w
        refine AW.run 3 [] (4, [(0, .inr (.inr (5, 0, 0))), (1, .inl (nI n1)), (2, .inl 0)], [.inl 9, .inl 1, .inl (nI n1)], σ) [] rfl ?_ ?_
        · exact trivial
        refine AW.callSI (d' := 0) [.inl (nI n1), .inl 1, .inl 9] [] ⟨_, rfl⟩ f_6_bound s_6_bound l_6_62 rfl (Nat.le_of_ble_eq_true rfl) rfl (Nat.le_of_ble_eq_true rfl) (c6_bound0 (nI n1) 1 9 hl (nI_nlt (a := 9) hn1 (by decide)) σ) ?_
        rintro _ _ ⟨rfl, rfl⟩
        refine AW.run 6 [false] (15, [(3, .inl 0), (0, .inr (.inr (5, 0, 0))), (1, .inl (nI n1)), (2, .inl 0)], [.inl 1, .inl 0, .inl 0], σ) [¬ icP .ne (0 : Int32) 0] rfl ?_ ?_
        · exact allP1 (by decide : ¬ (¬ (0 : Int32) = 0))
        refine AW.callSI (d' := 0) [.inl 0, .inl 0, .inl 1] [] ⟨_, rfl⟩ f_6_isIn s_6_isIn l_6_80 rfl (Nat.le_of_ble_eq_true rfl) rfl (Nat.le_of_ble_eq_true rfl) (c6_isIn1 0 0 1 (by decide) (by decide) σ) ?_
        rintro _ _ ⟨rfl, rfl⟩
        refine AW.run 7 [true, true, false] (42, [(3, .inl 0), (0, .inr (.inr (5, 0, 0))), (1, .inl (nI n1)), (2, .inl 0)], [.inl (σ 5 0 0 8)], σ) [icP .ne (1 : Int32) 0, icP .eq (0 : Int32) 0, ¬ icP .ne (0 : Int32) 0] rfl ?_ ?_
        · exact ⟨(by decide : (¬ (1 : Int32) = 0)), (by decide : ((0 : Int32) = 0)), allP1 (by decide : ¬ (¬ (0 : Int32) = 0))⟩
        rw [hR.1.2.1]
        refine AW.run 1 [] (43, [(3, .inl 0), (0, .inr (.inr (5, 0, 0))), (1, .inl (nI n1)), (2, .inl 0)], [.inl (nI n1), .inl (nI (Su F.1))], σ) [] rfl ?_ ?_
        · exact trivial
        have hsd := sh_div hO.2.2.2.1 hn1 h1n1
        have hz := hsd.2.2
        refine AW.run 2 [] (53, [(3, .inl 0), (0, .inr (.inr (5, 0, 0))), (1, .inl (nI n1)), (2, .inl 0)], [.inl ((nI (Su F.1)) / (nI n1))], σ) [¬ ((nI n1) : Int32) = 0] rfl ?_ ?_
        · exact allP1 (by first | assumption | exact in8 (by omega))
        rw [hsd.1]
        refine AW.reti ⟨_, rfl⟩ rfl ?_
        exact ⟨F, (by unfold sharesP; rw [if_neg hl, maxP_e0 (fM0 (M := 9) hn1 (by decide)) (by omega), twoP_0]; try rfl), QD_fr hF fr_rfl hD hR⟩
      by_cases h1w : w = 1
      · subst h1w
        refine AW.run 3 [] (4, [(0, .inr (.inr (5, 0, 0))), (1, .inl (nI n1)), (2, .inl 1)], [.inl 9, .inl 1, .inl (nI n1)], σ) [] rfl ?_ ?_
        · exact trivial
        refine AW.callSI (d' := 0) [.inl (nI n1), .inl 1, .inl 9] [] ⟨_, rfl⟩ f_6_bound s_6_bound l_6_62 rfl (Nat.le_of_ble_eq_true rfl) rfl (Nat.le_of_ble_eq_true rfl) (c6_bound0 (nI n1) 1 9 hl (nI_nlt (a := 9) hn1 (by decide)) σ) ?_
        rintro _ _ ⟨rfl, rfl⟩
        refine AW.run 6 [false] (15, [(3, .inl 0), (0, .inr (.inr (5, 0, 0))), (1, .inl (nI n1)), (2, .inl 1)], [.inl 1, .inl 0, .inl 1], σ) [¬ icP .ne (0 : Int32) 0] rfl ?_ ?_
        · exact allP1 (by decide : ¬ (¬ (0 : Int32) = 0))
        refine AW.callSI (d' := 0) [.inl 1, .inl 0, .inl 1] [] ⟨_, rfl⟩ f_6_isIn s_6_isIn l_6_80 rfl (Nat.le_of_ble_eq_true rfl) rfl (Nat.le_of_ble_eq_true rfl) (c6_isIn1 1 0 1 (by decide) (by decide) σ) ?_
        rintro _ _ ⟨rfl, rfl⟩
        refine AW.run 7 [true, true, true] (51, [(3, .inl 0), (0, .inr (.inr (5, 0, 0))), (1, .inl (nI n1)), (2, .inl 1)], [.inl (σ 5 0 0 8)], σ) [icP .ne (1 : Int32) 0, icP .eq (0 : Int32) 0, icP .ne (1 : Int32) 0] rfl ?_ ?_
        · exact ⟨(by decide : (¬ (1 : Int32) = 0)), (by decide : ((0 : Int32) = 0)), allP1 (by decide : (¬ (1 : Int32) = 0))⟩
        rw [hR.1.2.1]
        refine AW.run 1 [] (52, [(3, .inl 0), (0, .inr (.inr (5, 0, 0))), (1, .inl (nI n1)), (2, .inl 1)], [.inl (nI n1), .inl (nI (Su F.1))], σ) [] rfl ?_ ?_
        · exact trivial
        have hsd := sh_div hO.2.2.2.1 hn1 h1n1
        have hz := hsd.2.2
        refine AW.run 1 [] (53, [(3, .inl 0), (0, .inr (.inr (5, 0, 0))), (1, .inl (nI n1)), (2, .inl 1)], [.inl ((nI (Su F.1)) - (nI (Su F.1)) / (nI n1) * (nI n1))], σ) [¬ ((nI n1) : Int32) = 0] rfl ?_ ?_
        · exact allP1 (by first | assumption | exact in8 (by omega))
        rw [hsd.2.1]
        refine AW.reti ⟨_, rfl⟩ rfl ?_
        exact ⟨F, (by unfold sharesP; rw [if_neg hl, maxP_e0 (fM0 (M := 9) hn1 (by decide)) (by omega), twoP_1]; try rfl), QD_fr hF fr_rfl hD hR⟩
      · skip
        refine AW.run 3 [] (4, [(0, .inr (.inr (5, 0, 0))), (1, .inl (nI n1)), (2, .inl w)], [.inl 9, .inl 1, .inl (nI n1)], σ) [] rfl ?_ ?_
        · exact trivial
        refine AW.callSI (d' := 0) [.inl (nI n1), .inl 1, .inl 9] [] ⟨_, rfl⟩ f_6_bound s_6_bound l_6_62 rfl (Nat.le_of_ble_eq_true rfl) rfl (Nat.le_of_ble_eq_true rfl) (c6_bound0 (nI n1) 1 9 hl (nI_nlt (a := 9) hn1 (by decide)) σ) ?_
        rintro _ _ ⟨rfl, rfl⟩
        refine AW.run 6 [false] (15, [(3, .inl 0), (0, .inr (.inr (5, 0, 0))), (1, .inl (nI n1)), (2, .inl w)], [.inl 1, .inl 0, .inl w], σ) [¬ icP .ne (0 : Int32) 0] rfl ?_ ?_
        · exact allP1 (by decide : ¬ (¬ (0 : Int32) = 0))
        refine AW.callSI (d' := 0) [.inl w, .inl 0, .inl 1] [] ⟨_, rfl⟩ f_6_isIn s_6_isIn l_6_80 rfl (Nat.le_of_ble_eq_true rfl) rfl (Nat.le_of_ble_eq_true rfl) (c6_isIn0 w 0 1 (in_01 h0w h1w) σ) ?_
        rintro _ _ ⟨rfl, rfl⟩
        refine AW.run 7 [false, false] (30, [(3, .inl (-2)), (0, .inr (.inr (5, 0, 0))), (1, .inl (nI n1)), (2, .inl w)], [.inl (-2), .inr (.inr (5, 0, 0))], σ) [¬ icP .ne (0 : Int32) 0, ¬ icP .eq ((-2) : Int32) 0] rfl ?_ ?_
        · exact ⟨(by decide : ¬ (¬ (0 : Int32) = 0)), allP1 (by decide : ¬ (((-2) : Int32) = 0))⟩
        refine AW.callVI (d' := 0) [.inl (-2)] [] ⟨_, rfl⟩ f_6_no v_6_no l_6_69 ⟨rfl, by decide⟩ rfl (Nat.le_of_ble_eq_true rfl) rfl (Nat.le_of_ble_eq_true rfl) (c6_no2 σ) ?_
        rintro _ _ ⟨rfl, rfl⟩
        refine AW.reti ⟨_, rfl⟩ rfl ?_
        exact ⟨rfuF F 2, (by unfold sharesP; rw [if_neg hl, maxP_e0 (fM0 (M := 9) hn1 (by decide)) (by omega), twoP_N h0w h1w]; try rfl), RepD_ref hF hD (by decide) (by decide)⟩
    · skip
      refine AW.run 3 [] (4, [(0, .inr (.inr (5, 0, 0))), (1, .inl (nI n1)), (2, .inl w)], [.inl 9, .inl 1, .inl (nI n1)], σ) [] rfl ?_ ?_
      · exact trivial
      refine AW.callSI (d' := 0) [.inl (nI n1), .inl 1, .inl 9] [] ⟨_, rfl⟩ f_6_bound s_6_bound l_6_62 rfl (Nat.le_of_ble_eq_true rfl) rfl (Nat.le_of_ble_eq_true rfl) (c6_bound6 (nI n1) 1 9 hl (nI_lt (a := 9) (by omega) (by omega)) σ) ?_
      rintro _ _ ⟨rfl, rfl⟩
      refine AW.run 7 [true, false] (30, [(3, .inl (-6)), (0, .inr (.inr (5, 0, 0))), (1, .inl (nI n1)), (2, .inl w)], [.inl (-6), .inr (.inr (5, 0, 0))], σ) [icP .ne ((-6) : Int32) 0, ¬ icP .eq ((-6) : Int32) 0] rfl ?_ ?_
      · exact ⟨(by decide : (¬ ((-6) : Int32) = 0)), allP1 (by decide : ¬ (((-6) : Int32) = 0))⟩
      refine AW.callVI (d' := 0) [.inl (-6)] [] ⟨_, rfl⟩ f_6_no v_6_no l_6_69 ⟨rfl, by decide⟩ rfl (Nat.le_of_ble_eq_true rfl) rfl (Nat.le_of_ble_eq_true rfl) (c6_no6 σ) ?_
      rintro _ _ ⟨rfl, rfl⟩
      refine AW.reti ⟨_, rfl⟩ rfl ?_
      exact ⟨rfuF F 6, (by unfold sharesP; rw [if_neg hl, maxP_e6 (fM6 (M := 9) (by omega) h31)]; try rfl), RepD_ref hF hD (by decide) (by decide)⟩
