/-! TWO, LOTS, THUNDERS -/
def P4 (j k : Nat) : Prop := P2 j k ∨ j = 26 ∨ (j = 0 ∧ k = 26)
def P5 (j k : Nat) : Prop := P1 j k ∨ j = 26 ∨ (j = 0 ∧ k = 26)
theorem fr_14 {σ τ : St} (h : Fr P1 σ τ) : Fr P4 σ τ := fr_mono h (fun j k q => Or.inl (Or.inl q))
theorem fr_15 {σ τ : St} (h : Fr P1 σ τ) : Fr P5 σ τ := fr_mono h (fun j k q => Or.inl q)
theorem fr_24 {σ τ : St} (h : Fr P2 σ τ) : Fr P4 σ τ := fr_mono h (fun j k q => Or.inl q)
theorem fr_54 {σ τ : St} (h : Fr P5 σ τ) : Fr P4 σ τ := fr_mono h (fun j k q => q.elim (fun q => Or.inl (Or.inl q)) Or.inr)
theorem p4_pres (j k : Nat) (h : P4 j k) : ¬ Pres j k := by unfold P4 P2 P1 at h; unfold Pres; omega
theorem QD_fr4 {σ τ : St} {F : Gv} {S : Sv} (hF : FOK F) (h : Fr P4 σ τ) (hD : RepD σ F) (hR : RepM (τ 5 0) S) : RepD τ (S, F.2) ∧ Fr TT σ τ := ⟨RepD_mv hF h p4_pres hD hR, fr_tt h⟩
theorem repM_26 {σ : St} {S : Sv} {k : Nat} {v : Int32} (h : RepM (σ 5 0) S) : RepM (setM σ 5 0 26 k v 5 0) S := repM_fr (P := fun j _ => j = 26) (fr_set fr_rfl rfl) (fun j k q => by omega) h
theorem repM_026 {σ : St} {S : Sv} {v : Int32} (h : RepM (σ 5 0) S) : RepM (setM σ 5 0 0 26 v 5 0) S := repM_fr (P := fun j k => j = 0 ∧ k = 26) (fr_set fr_rfl ⟨rfl, rfl⟩) (fun j k q => by omega) h
theorem repM_qs {S : Sv} {σ : St} {k : Nat} (h : RepM (σ 5 0) S) : RepM (setM σ 5 0 5 k (nI (Sq S k)) 5 0) S := by
  have h2 := repM_q (k := k) (q := Sq S k) h
  rw [fu_self] at h2; exact h2
theorem rw_le {S : Sv} (hO : SOK S) {a b n p : Nat} (ha : a < Sn S) (hb : b < Sn S) : rw1 S a b n p ≤ 14 ∧ rw2 S a b n p ≤ 14 := by
  have hn : Sn (rest0 S a (decide (2 ≤ p))) = Sn S := by unfold rest0; split <;> rfl
  have hO2 : SOK (passS n (restS S a b p)) := SOK_pass n (SOK_rest0 (SOK_rest0 hO ha) (by rw [hn]; exact hb))
  have h1 := (hO2.2.1 a).2.2.2
  have h2 := (hO2.2.1 b).2.2.2
  unfold rw1 rw2 wantN
  constructor
  · split <;> omega
  · split <;> omega

set_option maxHeartbeats 4000000 in
set_option maxRecDepth 100000 in
theorem c6_findGets (S : Sv) (σ : St) (hR : RepM (σ 5 0) S) (hO : SOK S) (a b n : Nat) (ha : a < Sn S) (hb : b < Sn S) (hn : n < 2 ^ 31) : Ct M6_findGets 6 [.inr (.inr (5, 0, 0)), .inl (nI a), .inl (nI b), .inl (nI n)] σ (PV fun σ' => Fr P4 σ σ' ∧ RepM (σ' 5 0) S ∧ ∀ p, p < 4 → σ' 5 0 26 (2 * p) = nI (rw1 S a b n p) ∧ σ' 5 0 26 (2 * p + 1) = nI (rw2 S a b n p)) := by
  refine Ct.of f_6_findGets (Nat.le_of_ble_eq_true rfl) ?_
  show AW M6_findGets 6 _ (0, [(0, .inr (.inr (5, 0, 0))), (1, .inl (nI a)), (2, .inl (nI b)), (3, .inl (nI n))], [], σ)
  have hn8 : Sn S ≤ 8 := hO.1
  have ha8 : a < 8 := by omega
  have hb8 : b < 8 := by omega
  refine AW.run 2 [] (3, [(4, .inl 0), (0, .inr (.inr (5, 0, 0))), (1, .inl (nI a)), (2, .inl (nI b)), (3, .inl (nI n))], [], σ) [] rfl ?_ ?_
  · exact trivial
  refine AW.pick [1, 2, 3, 4, 0] (ls' := [(0, .inr (.inr (5, 0, 0))), (1, .inl (nI a)), (2, .inl (nI b)), (3, .inl (nI n)), (4, .inl (nI 0))]) rfl ?_
  refine AW.loop (α := Unit) 3 4 (fun i _ => [(0, .inr (.inr (5, 0, 0))), (1, .inl (nI a)), (2, .inl (nI b)), (3, .inl (nI n)), (4, .inl (nI i))]) (fun i _ τ => Fr P4 σ τ ∧ RepM (τ 5 0) S ∧ ∀ p, p < i → τ 5 0 26 (2 * p) = nI (rw1 S a b n p) ∧ τ 5 0 26 (2 * p + 1) = nI (rw2 S a b n p)) ?_ ?_ 4 0 () _ (by omega) ⟨fr_rfl, hR, fun p h => absurd h (Nat.not_lt_zero p)⟩
  · intro i _ τ hi hI hk
    obtain ⟨hS1, hR1, hg⟩ := hI
    rcases (show i = 0 ∨ i = 1 ∨ i = 2 ∨ i = 3 by omega) with rfl | rfl | rfl | rfl
    · skip
      refine AW.eq (c' := (3, [(0, .inr (.inr (5, 0, 0))), (1, .inl (nI a)), (2, .inl (nI b)), (3, .inl (nI n)), (4, .inl 0)], [], τ)) rfl ?_
      refine AW.run 4 [false] (10, [(0, .inr (.inr (5, 0, 0))), (1, .inl (nI a)), (2, .inl (nI b)), (3, .inl (nI n)), (4, .inl 0)], [.inr (.inr (5, 0, 0))], τ) [¬ icP .ge (0 : Int32) 4] rfl ?_ ?_
      · exact allP1 (by decide : ¬ ((4 : Int32) ≤ 0))
      refine AW.callVV (d' := 2) [] [] ⟨_, rfl⟩ f_6_thinks v_6_thinks l_6_203 ⟨rfl, by decide⟩ rfl (Nat.le_of_ble_eq_true rfl) rfl (Nat.le_of_ble_eq_true rfl) (c6_thinks S τ hR1 hO.1) ?_
      rintro τ149 ⟨f149, r149, k149⟩
      refine AW.run 12 [true] (36, [(0, .inr (.inr (5, 0, 0))), (1, .inl (nI a)), (2, .inl (nI b)), (3, .inl (nI n)), (4, .inl 0)], [.inl (τ149 5 0 5 (nI a).toNatClampNeg), .inl (nI a), .inr (.inr (5, 0, 5))], τ149) [¬ (2 : Int32) = 0, icP .ne (0 : Int32) 1, vp_in (nI a) 8] rfl ?_ ?_
      · exact ⟨(by decide), (by decide : (¬ (0 : Int32) = 1)), allP1 (by first | exact in8 ha8 | exact in8 hb8 | (unfold vp_in; decide))⟩
      rw [cl8 (k := a) ha8, (r149.2 a ha).2.2.2.1]
      refine AW.run 1 [] (37, [(0, .inr (.inr (5, 0, 0))), (1, .inl (nI a)), (2, .inl (nI b)), (3, .inl (nI n)), (4, .inl 0)], [], (setM τ149 5 0 5 (nI a).toNatClampNeg (nI (Sq S a)))) [vp_in (nI a) 8] rfl ?_ ?_
      · exact allP1 (by first | exact in8 ha8 | exact in8 hb8 | (unfold vp_in; decide))
      rw [cl8 (k := a) ha8]
      obtain ⟨τ150, e150⟩ : ∃ x, x = setM τ149 5 0 5 a (nI (Sq S a)) := ⟨_, rfl⟩
      rw [← e150]
      have r150 : RepM (τ150 5 0) S := by rw [e150]; exact (repM_qs r149)
      have f150 : Fr P1 τ149 τ150 := by rw [e150]; exact fr_set fr_rfl (by unfold P1; omega)
      refine AW.run 12 [true] (60, [(0, .inr (.inr (5, 0, 0))), (1, .inl (nI a)), (2, .inl (nI b)), (3, .inl (nI n)), (4, .inl 0)], [.inl (τ150 5 0 5 (nI b).toNatClampNeg), .inl (nI b), .inr (.inr (5, 0, 5))], τ150) [¬ (2 : Int32) = 0, icP .ne (0 : Int32) 1, vp_in (nI b) 8] rfl ?_ ?_
      · exact ⟨(by decide), (by decide : (¬ (0 : Int32) = 1)), allP1 (by first | exact in8 ha8 | exact in8 hb8 | (unfold vp_in; decide))⟩
      rw [cl8 (k := b) hb8, (r150.2 b hb).2.2.2.1]
      refine AW.run 1 [] (61, [(0, .inr (.inr (5, 0, 0))), (1, .inl (nI a)), (2, .inl (nI b)), (3, .inl (nI n)), (4, .inl 0)], [], (setM τ150 5 0 5 (nI b).toNatClampNeg (nI (Sq S b)))) [vp_in (nI b) 8] rfl ?_ ?_
      · exact allP1 (by first | exact in8 ha8 | exact in8 hb8 | (unfold vp_in; decide))
      rw [cl8 (k := b) hb8]
      obtain ⟨τ151, e151⟩ : ∃ x, x = setM τ150 5 0 5 b (nI (Sq S b)) := ⟨_, rfl⟩
      rw [← e151]
      have r151 : RepM (τ151 5 0) S := by rw [e151]; exact (repM_qs r150)
      have f151 : Fr P1 τ150 τ151 := by rw [e151]; exact fr_set fr_rfl (by unfold P1; omega)
      refine AW.run 2 [] (63, [(0, .inr (.inr (5, 0, 0))), (1, .inl (nI a)), (2, .inl (nI b)), (3, .inl (nI n)), (4, .inl 0)], [.inl (nI n), .inr (.inr (5, 0, 0))], τ151) [] rfl ?_ ?_
      · exact trivial
      refine AW.callVV (d' := 5) [.inl (nI n)] [] ⟨_, rfl⟩ f_6_goesAll v_6_goesAll l_6_114 ⟨rfl, by decide⟩ rfl (Nat.le_of_ble_eq_true rfl) rfl (Nat.le_of_ble_eq_true rfl) (c6_goesAll S τ151 r151 hO n hn) ?_
      rintro τ152 ⟨f152, r152⟩
      refine AW.run 7 [] (76, [(0, .inr (.inr (5, 0, 0))), (1, .inl (nI a)), (2, .inl (nI b)), (3, .inl (nI n)), (4, .inl 0)], [.inl (nI a), .inr (.inr (5, 0, 0)), .inl 0, .inr (.inr (5, 0, 26))], τ152) [] rfl ?_ ?_
      · exact trivial
      refine AW.callVI (d' := 1) [.inl (nI a)] [.inl 0, .inr (.inr (5, 0, 26))] ⟨_, rfl⟩ f_6_getsOf v_6_getsOf l_6_257 ⟨rfl, by decide⟩ rfl (Nat.le_of_ble_eq_true rfl) rfl (Nat.le_of_ble_eq_true rfl) (c6_getsOf (passS n S) τ152 r152 (SOK_pass n hO) a (by rw [pass_n]; exact ha)) ?_
      rintro _ _ ⟨rfl, rfl⟩
      refine AW.run 1 [] (80, [(0, .inr (.inr (5, 0, 0))), (1, .inl (nI a)), (2, .inl (nI b)), (3, .inl (nI n)), (4, .inl 0)], [], (setM τ152 5 0 26 (0 : Int32).toNatClampNeg (nI (wantN (passS n S) a)))) [vp_in 0 8] rfl ?_ ?_
      · exact allP1 (by first | exact in8 ha8 | exact in8 hb8 | (unfold vp_in; decide))
      rw [show (0 : Int32).toNatClampNeg = 0 from by decide]
      obtain ⟨υ0, eυ0⟩ : ∃ x, x = setM τ152 5 0 26 0 (nI (wantN (passS n S) a)) := ⟨_, rfl⟩
      rw [← eυ0]
      have rυ0 : RepM (υ0 5 0) (passS n S) := by rw [eυ0]; exact repM_26 r152
      have fυ0 : Fr P5 τ152 υ0 := by rw [eυ0]; exact fr_set fr_rfl (by unfold P5; omega)
      have gυ0 : ∀ x, x ≠ 0 → υ0 5 0 26 x = τ 5 0 26 x := fun x hx => by rw [eυ0, setM_at, if_neg (by omega), fr_at f152 (by unfold P1; omega), e151, setM_at, if_neg (by omega), e150, setM_at, if_neg (by omega), fr_at f149 (by unfold P2 P1; omega)]
      have vυ0 : υ0 5 0 26 0 = nI (rw1 S a b n 0) := by rw [eυ0, setM_at, if_pos ⟨rfl, rfl⟩]; rfl
      refine AW.run 9 [] (92, [(0, .inr (.inr (5, 0, 0))), (1, .inl (nI a)), (2, .inl (nI b)), (3, .inl (nI n)), (4, .inl 0)], [.inl (nI b), .inr (.inr (5, 0, 0)), .inl 1, .inr (.inr (5, 0, 26))], υ0) [] rfl ?_ ?_
      · exact trivial
      refine AW.callVI (d' := 1) [.inl (nI b)] [.inl 1, .inr (.inr (5, 0, 26))] ⟨_, rfl⟩ f_6_getsOf v_6_getsOf l_6_257 ⟨rfl, by decide⟩ rfl (Nat.le_of_ble_eq_true rfl) rfl (Nat.le_of_ble_eq_true rfl) (c6_getsOf (passS n S) υ0 rυ0 (SOK_pass n hO) b (by rw [pass_n]; exact hb)) ?_
      rintro _ _ ⟨rfl, rfl⟩
      refine AW.run 1 [] (96, [(0, .inr (.inr (5, 0, 0))), (1, .inl (nI a)), (2, .inl (nI b)), (3, .inl (nI n)), (4, .inl 0)], [], (setM υ0 5 0 26 (1 : Int32).toNatClampNeg (nI (wantN (passS n S) b)))) [vp_in 1 8] rfl ?_ ?_
      · exact allP1 (by first | exact in8 ha8 | exact in8 hb8 | (unfold vp_in; decide))
      rw [show (1 : Int32).toNatClampNeg = 1 from by decide]
      obtain ⟨υ1, eυ1⟩ : ∃ x, x = setM υ0 5 0 26 1 (nI (wantN (passS n S) b)) := ⟨_, rfl⟩
      rw [← eυ1]
      have rυ1 : RepM (υ1 5 0) (passS n S) := by rw [eυ1]; exact repM_26 rυ0
      have fυ1 : Fr P5 υ0 υ1 := by rw [eυ1]; exact fr_set fr_rfl (by unfold P5; omega)
      have gυ1 : ∀ x, x ≠ 0 → x ≠ 1 → υ1 5 0 26 x = τ 5 0 26 x := fun x hx hx2 => by rw [eυ1, setM_at, if_neg (by omega)]; exact gυ0 x hx
      have wυ1 : υ1 5 0 26 0 = nI (rw1 S a b n 0) := by rw [eυ1, setM_at, if_neg (by omega)]; exact vυ0
      have vυ1 : υ1 5 0 26 1 = nI (rw2 S a b n 0) := by rw [eυ1, setM_at, if_pos ⟨rfl, rfl⟩]; rfl
      refine AW.run 1 [] (97, [(0, .inr (.inr (5, 0, 0))), (1, .inl (nI a)), (2, .inl (nI b)), (3, .inl (nI n)), (4, .inl 0)], [.inr (.inr (5, 0, 0))], υ1) [] rfl ?_ ?_
      · exact trivial
      refine AW.callVV (d' := 2) [] [] ⟨_, rfl⟩ f_6_forgets v_6_forgets l_6_206 ⟨rfl, by decide⟩ rfl (Nat.le_of_ble_eq_true rfl) rfl (Nat.le_of_ble_eq_true rfl) (c6_forgets S υ1 (repK_fr hO.1 (fr_trans (fr_trans (fr_trans (fr_trans (fr_trans (fr_rfl (P := P5)) (fr_15 f150)) (fr_15 f151)) (fr_15 f152)) fυ0) fυ1) (fun k _ _ q => by unfold P5 P1 at q; omega) k149) hO.1) ?_
      rintro τ153 ⟨f153, r153⟩
      refine AW.run 2 [] (3, [(4, .inl 1), (0, .inr (.inr (5, 0, 0))), (1, .inl (nI a)), (2, .inl (nI b)), (3, .inl (nI n))], [], τ153) [] rfl ?_ ?_
      · exact trivial
      refine AW.pick [1, 2, 3, 4, 0] (ls' := [(0, .inr (.inr (5, 0, 0))), (1, .inl (nI a)), (2, .inl (nI b)), (3, .inl (nI n)), (4, .inl (nI 1))]) rfl ?_
      exact hk () τ153 ⟨(fr_trans (fr_trans (fr_trans (fr_trans (fr_trans (fr_trans (fr_trans hS1 (fr_24 f149)) (fr_14 f150)) (fr_14 f151)) (fr_14 f152)) (fr_54 fυ0)) (fr_54 fυ1)) (fr_24 f153)), r153, fun p hp => by
        rw [fr_at f153 (by unfold P2 P1; omega), fr_at f153 (by unfold P2 P1; omega)]
        by_cases hpi : p = 0
        · subst hpi; exact ⟨wυ1, vυ1⟩
        · rw [gυ1 _ (by omega) (by omega), gυ1 _ (by omega) (by omega)]; exact hg p (by omega)⟩
    · skip
      refine AW.eq (c' := (3, [(0, .inr (.inr (5, 0, 0))), (1, .inl (nI a)), (2, .inl (nI b)), (3, .inl (nI n)), (4, .inl 1)], [], τ)) rfl ?_
      refine AW.run 4 [false] (10, [(0, .inr (.inr (5, 0, 0))), (1, .inl (nI a)), (2, .inl (nI b)), (3, .inl (nI n)), (4, .inl 1)], [.inr (.inr (5, 0, 0))], τ) [¬ icP .ge (1 : Int32) 4] rfl ?_ ?_
      · exact allP1 (by decide : ¬ ((4 : Int32) ≤ 1))
      refine AW.callVV (d' := 2) [] [] ⟨_, rfl⟩ f_6_thinks v_6_thinks l_6_203 ⟨rfl, by decide⟩ rfl (Nat.le_of_ble_eq_true rfl) rfl (Nat.le_of_ble_eq_true rfl) (c6_thinks S τ hR1 hO.1) ?_
      rintro τ154 ⟨f154, r154, k154⟩
      refine AW.run 12 [true] (36, [(0, .inr (.inr (5, 0, 0))), (1, .inl (nI a)), (2, .inl (nI b)), (3, .inl (nI n)), (4, .inl 1)], [.inl (τ154 5 0 5 (nI a).toNatClampNeg), .inl (nI a), .inr (.inr (5, 0, 5))], τ154) [¬ (2 : Int32) = 0, icP .ne (0 : Int32) 1, vp_in (nI a) 8] rfl ?_ ?_
      · exact ⟨(by decide), (by decide : (¬ (0 : Int32) = 1)), allP1 (by first | exact in8 ha8 | exact in8 hb8 | (unfold vp_in; decide))⟩
      rw [cl8 (k := a) ha8, (r154.2 a ha).2.2.2.1]
      refine AW.run 1 [] (37, [(0, .inr (.inr (5, 0, 0))), (1, .inl (nI a)), (2, .inl (nI b)), (3, .inl (nI n)), (4, .inl 1)], [], (setM τ154 5 0 5 (nI a).toNatClampNeg (nI (Sq S a)))) [vp_in (nI a) 8] rfl ?_ ?_
      · exact allP1 (by first | exact in8 ha8 | exact in8 hb8 | (unfold vp_in; decide))
      rw [cl8 (k := a) ha8]
      obtain ⟨τ155, e155⟩ : ∃ x, x = setM τ154 5 0 5 a (nI (Sq S a)) := ⟨_, rfl⟩
      rw [← e155]
      have r155 : RepM (τ155 5 0) S := by rw [e155]; exact (repM_qs r154)
      have f155 : Fr P1 τ154 τ155 := by rw [e155]; exact fr_set fr_rfl (by unfold P1; omega)
      refine AW.run 11 [false] (61, [(0, .inr (.inr (5, 0, 0))), (1, .inl (nI a)), (2, .inl (nI b)), (3, .inl (nI n)), (4, .inl 1)], [], (setM τ155 5 0 5 (nI b).toNatClampNeg 0)) [¬ (2 : Int32) = 0, ¬ icP .ne (1 : Int32) 1, vp_in (nI b) 8] rfl ?_ ?_
      · exact ⟨(by decide), (by decide : ¬ (¬ (1 : Int32) = 1)), allP1 (by first | exact in8 ha8 | exact in8 hb8 | (unfold vp_in; decide))⟩
      rw [cl8 (k := b) hb8]
      obtain ⟨τ156, e156⟩ : ∃ x, x = setM τ155 5 0 5 b 0 := ⟨_, rfl⟩
      rw [← e156]
      have r156 : RepM (τ156 5 0) (withQ S (fu (Sq S) b 0)) := by rw [e156]; exact (repM_q (q := 0) r155)
      have f156 : Fr P1 τ155 τ156 := by rw [e156]; exact fr_set fr_rfl (by unfold P1; omega)
      refine AW.run 2 [] (63, [(0, .inr (.inr (5, 0, 0))), (1, .inl (nI a)), (2, .inl (nI b)), (3, .inl (nI n)), (4, .inl 1)], [.inl (nI n), .inr (.inr (5, 0, 0))], τ156) [] rfl ?_ ?_
      · exact trivial
      refine AW.callVV (d' := 5) [.inl (nI n)] [] ⟨_, rfl⟩ f_6_goesAll v_6_goesAll l_6_114 ⟨rfl, by decide⟩ rfl (Nat.le_of_ble_eq_true rfl) rfl (Nat.le_of_ble_eq_true rfl) (c6_goesAll (withQ S (fu (Sq S) b 0)) τ156 r156 (SOK_q hO hb (by decide)) n hn) ?_
      rintro τ157 ⟨f157, r157⟩
      refine AW.run 7 [] (76, [(0, .inr (.inr (5, 0, 0))), (1, .inl (nI a)), (2, .inl (nI b)), (3, .inl (nI n)), (4, .inl 1)], [.inl (nI a), .inr (.inr (5, 0, 0)), .inl 2, .inr (.inr (5, 0, 26))], τ157) [] rfl ?_ ?_
      · exact trivial
      refine AW.callVI (d' := 1) [.inl (nI a)] [.inl 2, .inr (.inr (5, 0, 26))] ⟨_, rfl⟩ f_6_getsOf v_6_getsOf l_6_257 ⟨rfl, by decide⟩ rfl (Nat.le_of_ble_eq_true rfl) rfl (Nat.le_of_ble_eq_true rfl) (c6_getsOf (passS n (withQ S (fu (Sq S) b 0))) τ157 r157 (SOK_pass n (SOK_q hO hb (by decide))) a (by rw [pass_n]; exact ha)) ?_
      rintro _ _ ⟨rfl, rfl⟩
      refine AW.run 1 [] (80, [(0, .inr (.inr (5, 0, 0))), (1, .inl (nI a)), (2, .inl (nI b)), (3, .inl (nI n)), (4, .inl 1)], [], (setM τ157 5 0 26 (2 : Int32).toNatClampNeg (nI (wantN (passS n (withQ S (fu (Sq S) b 0))) a)))) [vp_in 2 8] rfl ?_ ?_
      · exact allP1 (by first | exact in8 ha8 | exact in8 hb8 | (unfold vp_in; decide))
      rw [show (2 : Int32).toNatClampNeg = 2 from by decide]
      obtain ⟨υ0, eυ0⟩ : ∃ x, x = setM τ157 5 0 26 2 (nI (wantN (passS n (withQ S (fu (Sq S) b 0))) a)) := ⟨_, rfl⟩
      rw [← eυ0]
      have rυ0 : RepM (υ0 5 0) (passS n (withQ S (fu (Sq S) b 0))) := by rw [eυ0]; exact repM_26 r157
      have fυ0 : Fr P5 τ157 υ0 := by rw [eυ0]; exact fr_set fr_rfl (by unfold P5; omega)
      have gυ0 : ∀ x, x ≠ 2 → υ0 5 0 26 x = τ 5 0 26 x := fun x hx => by rw [eυ0, setM_at, if_neg (by omega), fr_at f157 (by unfold P1; omega), e156, setM_at, if_neg (by omega), e155, setM_at, if_neg (by omega), fr_at f154 (by unfold P2 P1; omega)]
      have vυ0 : υ0 5 0 26 2 = nI (rw1 S a b n 1) := by rw [eυ0, setM_at, if_pos ⟨rfl, rfl⟩]; rfl
      refine AW.run 9 [] (92, [(0, .inr (.inr (5, 0, 0))), (1, .inl (nI a)), (2, .inl (nI b)), (3, .inl (nI n)), (4, .inl 1)], [.inl (nI b), .inr (.inr (5, 0, 0)), .inl 3, .inr (.inr (5, 0, 26))], υ0) [] rfl ?_ ?_
      · exact trivial
      refine AW.callVI (d' := 1) [.inl (nI b)] [.inl 3, .inr (.inr (5, 0, 26))] ⟨_, rfl⟩ f_6_getsOf v_6_getsOf l_6_257 ⟨rfl, by decide⟩ rfl (Nat.le_of_ble_eq_true rfl) rfl (Nat.le_of_ble_eq_true rfl) (c6_getsOf (passS n (withQ S (fu (Sq S) b 0))) υ0 rυ0 (SOK_pass n (SOK_q hO hb (by decide))) b (by rw [pass_n]; exact hb)) ?_
      rintro _ _ ⟨rfl, rfl⟩
      refine AW.run 1 [] (96, [(0, .inr (.inr (5, 0, 0))), (1, .inl (nI a)), (2, .inl (nI b)), (3, .inl (nI n)), (4, .inl 1)], [], (setM υ0 5 0 26 (3 : Int32).toNatClampNeg (nI (wantN (passS n (withQ S (fu (Sq S) b 0))) b)))) [vp_in 3 8] rfl ?_ ?_
      · exact allP1 (by first | exact in8 ha8 | exact in8 hb8 | (unfold vp_in; decide))
      rw [show (3 : Int32).toNatClampNeg = 3 from by decide]
      obtain ⟨υ1, eυ1⟩ : ∃ x, x = setM υ0 5 0 26 3 (nI (wantN (passS n (withQ S (fu (Sq S) b 0))) b)) := ⟨_, rfl⟩
      rw [← eυ1]
      have rυ1 : RepM (υ1 5 0) (passS n (withQ S (fu (Sq S) b 0))) := by rw [eυ1]; exact repM_26 rυ0
      have fυ1 : Fr P5 υ0 υ1 := by rw [eυ1]; exact fr_set fr_rfl (by unfold P5; omega)
      have gυ1 : ∀ x, x ≠ 2 → x ≠ 3 → υ1 5 0 26 x = τ 5 0 26 x := fun x hx hx2 => by rw [eυ1, setM_at, if_neg (by omega)]; exact gυ0 x hx
      have wυ1 : υ1 5 0 26 2 = nI (rw1 S a b n 1) := by rw [eυ1, setM_at, if_neg (by omega)]; exact vυ0
      have vυ1 : υ1 5 0 26 3 = nI (rw2 S a b n 1) := by rw [eυ1, setM_at, if_pos ⟨rfl, rfl⟩]; rfl
      refine AW.run 1 [] (97, [(0, .inr (.inr (5, 0, 0))), (1, .inl (nI a)), (2, .inl (nI b)), (3, .inl (nI n)), (4, .inl 1)], [.inr (.inr (5, 0, 0))], υ1) [] rfl ?_ ?_
      · exact trivial
      refine AW.callVV (d' := 2) [] [] ⟨_, rfl⟩ f_6_forgets v_6_forgets l_6_206 ⟨rfl, by decide⟩ rfl (Nat.le_of_ble_eq_true rfl) rfl (Nat.le_of_ble_eq_true rfl) (c6_forgets S υ1 (repK_fr hO.1 (fr_trans (fr_trans (fr_trans (fr_trans (fr_trans (fr_rfl (P := P5)) (fr_15 f155)) (fr_15 f156)) (fr_15 f157)) fυ0) fυ1) (fun k _ _ q => by unfold P5 P1 at q; omega) k154) hO.1) ?_
      rintro τ158 ⟨f158, r158⟩
      refine AW.run 2 [] (3, [(4, .inl 2), (0, .inr (.inr (5, 0, 0))), (1, .inl (nI a)), (2, .inl (nI b)), (3, .inl (nI n))], [], τ158) [] rfl ?_ ?_
      · exact trivial
      refine AW.pick [1, 2, 3, 4, 0] (ls' := [(0, .inr (.inr (5, 0, 0))), (1, .inl (nI a)), (2, .inl (nI b)), (3, .inl (nI n)), (4, .inl (nI 2))]) rfl ?_
      exact hk () τ158 ⟨(fr_trans (fr_trans (fr_trans (fr_trans (fr_trans (fr_trans (fr_trans hS1 (fr_24 f154)) (fr_14 f155)) (fr_14 f156)) (fr_14 f157)) (fr_54 fυ0)) (fr_54 fυ1)) (fr_24 f158)), r158, fun p hp => by
        rw [fr_at f158 (by unfold P2 P1; omega), fr_at f158 (by unfold P2 P1; omega)]
        by_cases hpi : p = 1
        · subst hpi; exact ⟨wυ1, vυ1⟩
        · rw [gυ1 _ (by omega) (by omega), gυ1 _ (by omega) (by omega)]; exact hg p (by omega)⟩
    · skip
      refine AW.eq (c' := (3, [(0, .inr (.inr (5, 0, 0))), (1, .inl (nI a)), (2, .inl (nI b)), (3, .inl (nI n)), (4, .inl 2)], [], τ)) rfl ?_
      refine AW.run 4 [false] (10, [(0, .inr (.inr (5, 0, 0))), (1, .inl (nI a)), (2, .inl (nI b)), (3, .inl (nI n)), (4, .inl 2)], [.inr (.inr (5, 0, 0))], τ) [¬ icP .ge (2 : Int32) 4] rfl ?_ ?_
      · exact allP1 (by decide : ¬ ((4 : Int32) ≤ 2))
      refine AW.callVV (d' := 2) [] [] ⟨_, rfl⟩ f_6_thinks v_6_thinks l_6_203 ⟨rfl, by decide⟩ rfl (Nat.le_of_ble_eq_true rfl) rfl (Nat.le_of_ble_eq_true rfl) (c6_thinks S τ hR1 hO.1) ?_
      rintro τ159 ⟨f159, r159, k159⟩
      refine AW.run 11 [false] (37, [(0, .inr (.inr (5, 0, 0))), (1, .inl (nI a)), (2, .inl (nI b)), (3, .inl (nI n)), (4, .inl 2)], [], (setM τ159 5 0 5 (nI a).toNatClampNeg 0)) [¬ (2 : Int32) = 0, ¬ icP .ne (1 : Int32) 1, vp_in (nI a) 8] rfl ?_ ?_
      · exact ⟨(by decide), (by decide : ¬ (¬ (1 : Int32) = 1)), allP1 (by first | exact in8 ha8 | exact in8 hb8 | (unfold vp_in; decide))⟩
      rw [cl8 (k := a) ha8]
      obtain ⟨τ160, e160⟩ : ∃ x, x = setM τ159 5 0 5 a 0 := ⟨_, rfl⟩
      rw [← e160]
      have r160 : RepM (τ160 5 0) (withQ S (fu (Sq S) a 0)) := by rw [e160]; exact (repM_q (q := 0) r159)
      have f160 : Fr P1 τ159 τ160 := by rw [e160]; exact fr_set fr_rfl (by unfold P1; omega)
      refine AW.run 12 [true] (60, [(0, .inr (.inr (5, 0, 0))), (1, .inl (nI a)), (2, .inl (nI b)), (3, .inl (nI n)), (4, .inl 2)], [.inl (τ160 5 0 5 (nI b).toNatClampNeg), .inl (nI b), .inr (.inr (5, 0, 5))], τ160) [¬ (2 : Int32) = 0, icP .ne (0 : Int32) 1, vp_in (nI b) 8] rfl ?_ ?_
      · exact ⟨(by decide), (by decide : (¬ (0 : Int32) = 1)), allP1 (by first | exact in8 ha8 | exact in8 hb8 | (unfold vp_in; decide))⟩
      rw [cl8 (k := b) hb8, (r160.2 b hb).2.2.2.1]
      refine AW.run 1 [] (61, [(0, .inr (.inr (5, 0, 0))), (1, .inl (nI a)), (2, .inl (nI b)), (3, .inl (nI n)), (4, .inl 2)], [], (setM τ160 5 0 5 (nI b).toNatClampNeg (nI (Sq (withQ S (fu (Sq S) a 0)) b)))) [vp_in (nI b) 8] rfl ?_ ?_
      · exact allP1 (by first | exact in8 ha8 | exact in8 hb8 | (unfold vp_in; decide))
      rw [cl8 (k := b) hb8]
      obtain ⟨τ161, e161⟩ : ∃ x, x = setM τ160 5 0 5 b (nI (Sq (withQ S (fu (Sq S) a 0)) b)) := ⟨_, rfl⟩
      rw [← e161]
      have r161 : RepM (τ161 5 0) (withQ S (fu (Sq S) a 0)) := by rw [e161]; exact (repM_qs r160)
      have f161 : Fr P1 τ160 τ161 := by rw [e161]; exact fr_set fr_rfl (by unfold P1; omega)
      refine AW.run 2 [] (63, [(0, .inr (.inr (5, 0, 0))), (1, .inl (nI a)), (2, .inl (nI b)), (3, .inl (nI n)), (4, .inl 2)], [.inl (nI n), .inr (.inr (5, 0, 0))], τ161) [] rfl ?_ ?_
      · exact trivial
      refine AW.callVV (d' := 5) [.inl (nI n)] [] ⟨_, rfl⟩ f_6_goesAll v_6_goesAll l_6_114 ⟨rfl, by decide⟩ rfl (Nat.le_of_ble_eq_true rfl) rfl (Nat.le_of_ble_eq_true rfl) (c6_goesAll (withQ S (fu (Sq S) a 0)) τ161 r161 (SOK_q hO ha (by decide)) n hn) ?_
      rintro τ162 ⟨f162, r162⟩
      refine AW.run 7 [] (76, [(0, .inr (.inr (5, 0, 0))), (1, .inl (nI a)), (2, .inl (nI b)), (3, .inl (nI n)), (4, .inl 2)], [.inl (nI a), .inr (.inr (5, 0, 0)), .inl 4, .inr (.inr (5, 0, 26))], τ162) [] rfl ?_ ?_
      · exact trivial
      refine AW.callVI (d' := 1) [.inl (nI a)] [.inl 4, .inr (.inr (5, 0, 26))] ⟨_, rfl⟩ f_6_getsOf v_6_getsOf l_6_257 ⟨rfl, by decide⟩ rfl (Nat.le_of_ble_eq_true rfl) rfl (Nat.le_of_ble_eq_true rfl) (c6_getsOf (passS n (withQ S (fu (Sq S) a 0))) τ162 r162 (SOK_pass n (SOK_q hO ha (by decide))) a (by rw [pass_n]; exact ha)) ?_
      rintro _ _ ⟨rfl, rfl⟩
      refine AW.run 1 [] (80, [(0, .inr (.inr (5, 0, 0))), (1, .inl (nI a)), (2, .inl (nI b)), (3, .inl (nI n)), (4, .inl 2)], [], (setM τ162 5 0 26 (4 : Int32).toNatClampNeg (nI (wantN (passS n (withQ S (fu (Sq S) a 0))) a)))) [vp_in 4 8] rfl ?_ ?_
      · exact allP1 (by first | exact in8 ha8 | exact in8 hb8 | (unfold vp_in; decide))
      rw [show (4 : Int32).toNatClampNeg = 4 from by decide]
      obtain ⟨υ0, eυ0⟩ : ∃ x, x = setM τ162 5 0 26 4 (nI (wantN (passS n (withQ S (fu (Sq S) a 0))) a)) := ⟨_, rfl⟩
      rw [← eυ0]
      have rυ0 : RepM (υ0 5 0) (passS n (withQ S (fu (Sq S) a 0))) := by rw [eυ0]; exact repM_26 r162
      have fυ0 : Fr P5 τ162 υ0 := by rw [eυ0]; exact fr_set fr_rfl (by unfold P5; omega)
      have gυ0 : ∀ x, x ≠ 4 → υ0 5 0 26 x = τ 5 0 26 x := fun x hx => by rw [eυ0, setM_at, if_neg (by omega), fr_at f162 (by unfold P1; omega), e161, setM_at, if_neg (by omega), e160, setM_at, if_neg (by omega), fr_at f159 (by unfold P2 P1; omega)]
      have vυ0 : υ0 5 0 26 4 = nI (rw1 S a b n 2) := by rw [eυ0, setM_at, if_pos ⟨rfl, rfl⟩]; rfl
      refine AW.run 9 [] (92, [(0, .inr (.inr (5, 0, 0))), (1, .inl (nI a)), (2, .inl (nI b)), (3, .inl (nI n)), (4, .inl 2)], [.inl (nI b), .inr (.inr (5, 0, 0)), .inl 5, .inr (.inr (5, 0, 26))], υ0) [] rfl ?_ ?_
      · exact trivial
      refine AW.callVI (d' := 1) [.inl (nI b)] [.inl 5, .inr (.inr (5, 0, 26))] ⟨_, rfl⟩ f_6_getsOf v_6_getsOf l_6_257 ⟨rfl, by decide⟩ rfl (Nat.le_of_ble_eq_true rfl) rfl (Nat.le_of_ble_eq_true rfl) (c6_getsOf (passS n (withQ S (fu (Sq S) a 0))) υ0 rυ0 (SOK_pass n (SOK_q hO ha (by decide))) b (by rw [pass_n]; exact hb)) ?_
      rintro _ _ ⟨rfl, rfl⟩
      refine AW.run 1 [] (96, [(0, .inr (.inr (5, 0, 0))), (1, .inl (nI a)), (2, .inl (nI b)), (3, .inl (nI n)), (4, .inl 2)], [], (setM υ0 5 0 26 (5 : Int32).toNatClampNeg (nI (wantN (passS n (withQ S (fu (Sq S) a 0))) b)))) [vp_in 5 8] rfl ?_ ?_
      · exact allP1 (by first | exact in8 ha8 | exact in8 hb8 | (unfold vp_in; decide))
      rw [show (5 : Int32).toNatClampNeg = 5 from by decide]
      obtain ⟨υ1, eυ1⟩ : ∃ x, x = setM υ0 5 0 26 5 (nI (wantN (passS n (withQ S (fu (Sq S) a 0))) b)) := ⟨_, rfl⟩
      rw [← eυ1]
      have rυ1 : RepM (υ1 5 0) (passS n (withQ S (fu (Sq S) a 0))) := by rw [eυ1]; exact repM_26 rυ0
      have fυ1 : Fr P5 υ0 υ1 := by rw [eυ1]; exact fr_set fr_rfl (by unfold P5; omega)
      have gυ1 : ∀ x, x ≠ 4 → x ≠ 5 → υ1 5 0 26 x = τ 5 0 26 x := fun x hx hx2 => by rw [eυ1, setM_at, if_neg (by omega)]; exact gυ0 x hx
      have wυ1 : υ1 5 0 26 4 = nI (rw1 S a b n 2) := by rw [eυ1, setM_at, if_neg (by omega)]; exact vυ0
      have vυ1 : υ1 5 0 26 5 = nI (rw2 S a b n 2) := by rw [eυ1, setM_at, if_pos ⟨rfl, rfl⟩]; rfl
      refine AW.run 1 [] (97, [(0, .inr (.inr (5, 0, 0))), (1, .inl (nI a)), (2, .inl (nI b)), (3, .inl (nI n)), (4, .inl 2)], [.inr (.inr (5, 0, 0))], υ1) [] rfl ?_ ?_
      · exact trivial
      refine AW.callVV (d' := 2) [] [] ⟨_, rfl⟩ f_6_forgets v_6_forgets l_6_206 ⟨rfl, by decide⟩ rfl (Nat.le_of_ble_eq_true rfl) rfl (Nat.le_of_ble_eq_true rfl) (c6_forgets S υ1 (repK_fr hO.1 (fr_trans (fr_trans (fr_trans (fr_trans (fr_trans (fr_rfl (P := P5)) (fr_15 f160)) (fr_15 f161)) (fr_15 f162)) fυ0) fυ1) (fun k _ _ q => by unfold P5 P1 at q; omega) k159) hO.1) ?_
      rintro τ163 ⟨f163, r163⟩
      refine AW.run 2 [] (3, [(4, .inl 3), (0, .inr (.inr (5, 0, 0))), (1, .inl (nI a)), (2, .inl (nI b)), (3, .inl (nI n))], [], τ163) [] rfl ?_ ?_
      · exact trivial
      refine AW.pick [1, 2, 3, 4, 0] (ls' := [(0, .inr (.inr (5, 0, 0))), (1, .inl (nI a)), (2, .inl (nI b)), (3, .inl (nI n)), (4, .inl (nI 3))]) rfl ?_
      exact hk () τ163 ⟨(fr_trans (fr_trans (fr_trans (fr_trans (fr_trans (fr_trans (fr_trans hS1 (fr_24 f159)) (fr_14 f160)) (fr_14 f161)) (fr_14 f162)) (fr_54 fυ0)) (fr_54 fυ1)) (fr_24 f163)), r163, fun p hp => by
        rw [fr_at f163 (by unfold P2 P1; omega), fr_at f163 (by unfold P2 P1; omega)]
        by_cases hpi : p = 2
        · subst hpi; exact ⟨wυ1, vυ1⟩
        · rw [gυ1 _ (by omega) (by omega), gυ1 _ (by omega) (by omega)]; exact hg p (by omega)⟩
    · skip
      refine AW.eq (c' := (3, [(0, .inr (.inr (5, 0, 0))), (1, .inl (nI a)), (2, .inl (nI b)), (3, .inl (nI n)), (4, .inl 3)], [], τ)) rfl ?_
      refine AW.run 4 [false] (10, [(0, .inr (.inr (5, 0, 0))), (1, .inl (nI a)), (2, .inl (nI b)), (3, .inl (nI n)), (4, .inl 3)], [.inr (.inr (5, 0, 0))], τ) [¬ icP .ge (3 : Int32) 4] rfl ?_ ?_
      · exact allP1 (by decide : ¬ ((4 : Int32) ≤ 3))
      refine AW.callVV (d' := 2) [] [] ⟨_, rfl⟩ f_6_thinks v_6_thinks l_6_203 ⟨rfl, by decide⟩ rfl (Nat.le_of_ble_eq_true rfl) rfl (Nat.le_of_ble_eq_true rfl) (c6_thinks S τ hR1 hO.1) ?_
      rintro τ164 ⟨f164, r164, k164⟩
      refine AW.run 11 [false] (37, [(0, .inr (.inr (5, 0, 0))), (1, .inl (nI a)), (2, .inl (nI b)), (3, .inl (nI n)), (4, .inl 3)], [], (setM τ164 5 0 5 (nI a).toNatClampNeg 0)) [¬ (2 : Int32) = 0, ¬ icP .ne (1 : Int32) 1, vp_in (nI a) 8] rfl ?_ ?_
      · exact ⟨(by decide), (by decide : ¬ (¬ (1 : Int32) = 1)), allP1 (by first | exact in8 ha8 | exact in8 hb8 | (unfold vp_in; decide))⟩
      rw [cl8 (k := a) ha8]
      obtain ⟨τ165, e165⟩ : ∃ x, x = setM τ164 5 0 5 a 0 := ⟨_, rfl⟩
      rw [← e165]
      have r165 : RepM (τ165 5 0) (withQ S (fu (Sq S) a 0)) := by rw [e165]; exact (repM_q (q := 0) r164)
      have f165 : Fr P1 τ164 τ165 := by rw [e165]; exact fr_set fr_rfl (by unfold P1; omega)
      refine AW.run 11 [false] (61, [(0, .inr (.inr (5, 0, 0))), (1, .inl (nI a)), (2, .inl (nI b)), (3, .inl (nI n)), (4, .inl 3)], [], (setM τ165 5 0 5 (nI b).toNatClampNeg 0)) [¬ (2 : Int32) = 0, ¬ icP .ne (1 : Int32) 1, vp_in (nI b) 8] rfl ?_ ?_
      · exact ⟨(by decide), (by decide : ¬ (¬ (1 : Int32) = 1)), allP1 (by first | exact in8 ha8 | exact in8 hb8 | (unfold vp_in; decide))⟩
      rw [cl8 (k := b) hb8]
      obtain ⟨τ166, e166⟩ : ∃ x, x = setM τ165 5 0 5 b 0 := ⟨_, rfl⟩
      rw [← e166]
      have r166 : RepM (τ166 5 0) (withQ (withQ S (fu (Sq S) a 0)) (fu (Sq (withQ S (fu (Sq S) a 0))) b 0)) := by rw [e166]; exact (repM_q (q := 0) r165)
      have f166 : Fr P1 τ165 τ166 := by rw [e166]; exact fr_set fr_rfl (by unfold P1; omega)
      refine AW.run 2 [] (63, [(0, .inr (.inr (5, 0, 0))), (1, .inl (nI a)), (2, .inl (nI b)), (3, .inl (nI n)), (4, .inl 3)], [.inl (nI n), .inr (.inr (5, 0, 0))], τ166) [] rfl ?_ ?_
      · exact trivial
      refine AW.callVV (d' := 5) [.inl (nI n)] [] ⟨_, rfl⟩ f_6_goesAll v_6_goesAll l_6_114 ⟨rfl, by decide⟩ rfl (Nat.le_of_ble_eq_true rfl) rfl (Nat.le_of_ble_eq_true rfl) (c6_goesAll (withQ (withQ S (fu (Sq S) a 0)) (fu (Sq (withQ S (fu (Sq S) a 0))) b 0)) τ166 r166 (SOK_q (SOK_q hO ha (by decide)) hb (by decide)) n hn) ?_
      rintro τ167 ⟨f167, r167⟩
      refine AW.run 7 [] (76, [(0, .inr (.inr (5, 0, 0))), (1, .inl (nI a)), (2, .inl (nI b)), (3, .inl (nI n)), (4, .inl 3)], [.inl (nI a), .inr (.inr (5, 0, 0)), .inl 6, .inr (.inr (5, 0, 26))], τ167) [] rfl ?_ ?_
      · exact trivial
      refine AW.callVI (d' := 1) [.inl (nI a)] [.inl 6, .inr (.inr (5, 0, 26))] ⟨_, rfl⟩ f_6_getsOf v_6_getsOf l_6_257 ⟨rfl, by decide⟩ rfl (Nat.le_of_ble_eq_true rfl) rfl (Nat.le_of_ble_eq_true rfl) (c6_getsOf (passS n (withQ (withQ S (fu (Sq S) a 0)) (fu (Sq (withQ S (fu (Sq S) a 0))) b 0))) τ167 r167 (SOK_pass n (SOK_q (SOK_q hO ha (by decide)) hb (by decide))) a (by rw [pass_n]; exact ha)) ?_
      rintro _ _ ⟨rfl, rfl⟩
      refine AW.run 1 [] (80, [(0, .inr (.inr (5, 0, 0))), (1, .inl (nI a)), (2, .inl (nI b)), (3, .inl (nI n)), (4, .inl 3)], [], (setM τ167 5 0 26 (6 : Int32).toNatClampNeg (nI (wantN (passS n (withQ (withQ S (fu (Sq S) a 0)) (fu (Sq (withQ S (fu (Sq S) a 0))) b 0))) a)))) [vp_in 6 8] rfl ?_ ?_
      · exact allP1 (by first | exact in8 ha8 | exact in8 hb8 | (unfold vp_in; decide))
      rw [show (6 : Int32).toNatClampNeg = 6 from by decide]
      obtain ⟨υ0, eυ0⟩ : ∃ x, x = setM τ167 5 0 26 6 (nI (wantN (passS n (withQ (withQ S (fu (Sq S) a 0)) (fu (Sq (withQ S (fu (Sq S) a 0))) b 0))) a)) := ⟨_, rfl⟩
      rw [← eυ0]
      have rυ0 : RepM (υ0 5 0) (passS n (withQ (withQ S (fu (Sq S) a 0)) (fu (Sq (withQ S (fu (Sq S) a 0))) b 0))) := by rw [eυ0]; exact repM_26 r167
      have fυ0 : Fr P5 τ167 υ0 := by rw [eυ0]; exact fr_set fr_rfl (by unfold P5; omega)
      have gυ0 : ∀ x, x ≠ 6 → υ0 5 0 26 x = τ 5 0 26 x := fun x hx => by rw [eυ0, setM_at, if_neg (by omega), fr_at f167 (by unfold P1; omega), e166, setM_at, if_neg (by omega), e165, setM_at, if_neg (by omega), fr_at f164 (by unfold P2 P1; omega)]
      have vυ0 : υ0 5 0 26 6 = nI (rw1 S a b n 3) := by rw [eυ0, setM_at, if_pos ⟨rfl, rfl⟩]; rfl
      refine AW.run 9 [] (92, [(0, .inr (.inr (5, 0, 0))), (1, .inl (nI a)), (2, .inl (nI b)), (3, .inl (nI n)), (4, .inl 3)], [.inl (nI b), .inr (.inr (5, 0, 0)), .inl 7, .inr (.inr (5, 0, 26))], υ0) [] rfl ?_ ?_
      · exact trivial
      refine AW.callVI (d' := 1) [.inl (nI b)] [.inl 7, .inr (.inr (5, 0, 26))] ⟨_, rfl⟩ f_6_getsOf v_6_getsOf l_6_257 ⟨rfl, by decide⟩ rfl (Nat.le_of_ble_eq_true rfl) rfl (Nat.le_of_ble_eq_true rfl) (c6_getsOf (passS n (withQ (withQ S (fu (Sq S) a 0)) (fu (Sq (withQ S (fu (Sq S) a 0))) b 0))) υ0 rυ0 (SOK_pass n (SOK_q (SOK_q hO ha (by decide)) hb (by decide))) b (by rw [pass_n]; exact hb)) ?_
      rintro _ _ ⟨rfl, rfl⟩
      refine AW.run 1 [] (96, [(0, .inr (.inr (5, 0, 0))), (1, .inl (nI a)), (2, .inl (nI b)), (3, .inl (nI n)), (4, .inl 3)], [], (setM υ0 5 0 26 (7 : Int32).toNatClampNeg (nI (wantN (passS n (withQ (withQ S (fu (Sq S) a 0)) (fu (Sq (withQ S (fu (Sq S) a 0))) b 0))) b)))) [vp_in 7 8] rfl ?_ ?_
      · exact allP1 (by first | exact in8 ha8 | exact in8 hb8 | (unfold vp_in; decide))
      rw [show (7 : Int32).toNatClampNeg = 7 from by decide]
      obtain ⟨υ1, eυ1⟩ : ∃ x, x = setM υ0 5 0 26 7 (nI (wantN (passS n (withQ (withQ S (fu (Sq S) a 0)) (fu (Sq (withQ S (fu (Sq S) a 0))) b 0))) b)) := ⟨_, rfl⟩
      rw [← eυ1]
      have rυ1 : RepM (υ1 5 0) (passS n (withQ (withQ S (fu (Sq S) a 0)) (fu (Sq (withQ S (fu (Sq S) a 0))) b 0))) := by rw [eυ1]; exact repM_26 rυ0
      have fυ1 : Fr P5 υ0 υ1 := by rw [eυ1]; exact fr_set fr_rfl (by unfold P5; omega)
      have gυ1 : ∀ x, x ≠ 6 → x ≠ 7 → υ1 5 0 26 x = τ 5 0 26 x := fun x hx hx2 => by rw [eυ1, setM_at, if_neg (by omega)]; exact gυ0 x hx
      have wυ1 : υ1 5 0 26 6 = nI (rw1 S a b n 3) := by rw [eυ1, setM_at, if_neg (by omega)]; exact vυ0
      have vυ1 : υ1 5 0 26 7 = nI (rw2 S a b n 3) := by rw [eυ1, setM_at, if_pos ⟨rfl, rfl⟩]; rfl
      refine AW.run 1 [] (97, [(0, .inr (.inr (5, 0, 0))), (1, .inl (nI a)), (2, .inl (nI b)), (3, .inl (nI n)), (4, .inl 3)], [.inr (.inr (5, 0, 0))], υ1) [] rfl ?_ ?_
      · exact trivial
      refine AW.callVV (d' := 2) [] [] ⟨_, rfl⟩ f_6_forgets v_6_forgets l_6_206 ⟨rfl, by decide⟩ rfl (Nat.le_of_ble_eq_true rfl) rfl (Nat.le_of_ble_eq_true rfl) (c6_forgets S υ1 (repK_fr hO.1 (fr_trans (fr_trans (fr_trans (fr_trans (fr_trans (fr_rfl (P := P5)) (fr_15 f165)) (fr_15 f166)) (fr_15 f167)) fυ0) fυ1) (fun k _ _ q => by unfold P5 P1 at q; omega) k164) hO.1) ?_
      rintro τ168 ⟨f168, r168⟩
      refine AW.run 2 [] (3, [(4, .inl 4), (0, .inr (.inr (5, 0, 0))), (1, .inl (nI a)), (2, .inl (nI b)), (3, .inl (nI n))], [], τ168) [] rfl ?_ ?_
      · exact trivial
      refine AW.pick [1, 2, 3, 4, 0] (ls' := [(0, .inr (.inr (5, 0, 0))), (1, .inl (nI a)), (2, .inl (nI b)), (3, .inl (nI n)), (4, .inl (nI 4))]) rfl ?_
      exact hk () τ168 ⟨(fr_trans (fr_trans (fr_trans (fr_trans (fr_trans (fr_trans (fr_trans hS1 (fr_24 f164)) (fr_14 f165)) (fr_14 f166)) (fr_14 f167)) (fr_54 fυ0)) (fr_54 fυ1)) (fr_24 f168)), r168, fun p hp => by
        rw [fr_at f168 (by unfold P2 P1; omega), fr_at f168 (by unfold P2 P1; omega)]
        by_cases hpi : p = 3
        · subst hpi; exact ⟨wυ1, vυ1⟩
        · rw [gυ1 _ (by omega) (by omega), gυ1 _ (by omega) (by omega)]; exact hg p (by omega)⟩
  · intro _ τ hI
    obtain ⟨hS1, hR1, hg⟩ := hI
    refine AW.run 3 [true] (106, [(0, .inr (.inr (5, 0, 0))), (1, .inl (nI a)), (2, .inl (nI b)), (3, .inl (nI n)), (4, .inl 4)], [], τ) [icP .ge (4 : Int32) 4] rfl ?_ ?_
    · exact allP1 (by decide : ((4 : Int32) ≤ 4))
    refine AW.retv ⟨_, rfl⟩ rfl ?_
    exact ⟨hS1, hR1, hg⟩
set_option maxHeartbeats 4000000 in
set_option maxRecDepth 100000 in
theorem d6_two (F : Gv) (σ : St) (hD : RepD σ F) (hG : GOK F) (x : Int32) (y : Int32) (n : Int32) : Ct M6_two 7 [.inr (.inr (5, 0, 0)), .inl x, .inl y, .inl n] σ (QD σ (twoRP F x y n)) := by
  refine Ct.of f_6_two (Nat.le_of_ble_eq_true rfl) ?_
  show AW M6_two 7 _ (0, [(0, .inr (.inr (5, 0, 0))), (1, .inl x), (2, .inl y), (3, .inl n)], [], σ)
  have hF : FOK F := hG.1
  have hR : RepM (σ 5 0) F.1 := hD.1
  have hO : SOK F.1 := hF.1.1
  have hn8 : Sn F.1 ≤ 8 := hO.1
  have e7 := hR.1.1
  rcases pair_or F hn8 x y with ⟨a, b, ha, hb, hne, rfl, rfl, hpr⟩ | ⟨hpr, hno⟩
  · skip
    have ha8 : a < 8 := by omega
    have hb8 : b < 8 := by omega
    rcases fMax_or 60 (by decide) n with ⟨h4n1, en1⟩ | ⟨h4n1, h6n1, en1⟩ | ⟨n1, hn1, rfl, en1⟩
    · skip
      refine AW.run 2 [] (2, [(0, .inr (.inr (5, 0, 0))), (1, .inl (nI a)), (2, .inl (nI b)), (3, .inl n)], [.inl (nI a), .inr (.inr (5, 0, 0))], σ) [] rfl ?_ ?_
      · exact trivial
      refine AW.callVI (d' := 0) [.inl (nI a)] [] ⟨_, rfl⟩ f_6_isBottle v_6_isBottle l_6_105 ⟨rfl, by decide⟩ rfl (Nat.le_of_ble_eq_true rfl) rfl (Nat.le_of_ble_eq_true rfl) (c6_isBottle1 (Sn F.1) σ e7 hn8 a ha) ?_
      rintro _ _ ⟨rfl, rfl⟩
      refine AW.run 3 [false] (10, [(0, .inr (.inr (5, 0, 0))), (1, .inl (nI a)), (2, .inl (nI b)), (3, .inl n)], [.inl (nI b), .inr (.inr (5, 0, 0))], σ) [¬ icP .eq (1 : Int32) 0] rfl ?_ ?_
      · exact allP1 (by decide : ¬ ((1 : Int32) = 0))
      refine AW.callVI (d' := 0) [.inl (nI b)] [] ⟨_, rfl⟩ f_6_isBottle v_6_isBottle l_6_105 ⟨rfl, by decide⟩ rfl (Nat.le_of_ble_eq_true rfl) rfl (Nat.le_of_ble_eq_true rfl) (c6_isBottle1 (Sn F.1) σ e7 hn8 b hb) ?_
      rintro _ _ ⟨rfl, rfl⟩
      refine AW.run 5 [false, true] (26, [(0, .inr (.inr (5, 0, 0))), (1, .inl (nI a)), (2, .inl (nI b)), (3, .inl n)], [.inl n], σ) [¬ icP .eq (1 : Int32) 0, icP .ne (nI a) (nI b)] rfl ?_ ?_
      · exact ⟨(by decide : ¬ ((1 : Int32) = 0)), allP1 (fun q => hne (nI_lit q (by omega) (by omega)))⟩
      refine AW.callSI (d' := 1) [.inl n] [] ⟨_, rfl⟩ f_6_notDays s_6_notDays l_6_209 rfl (Nat.le_of_ble_eq_true rfl) rfl (Nat.le_of_ble_eq_true rfl) (c6_notDays4 n h4n1 σ) ?_
      rintro _ _ ⟨rfl, rfl⟩
      refine AW.run 7 [true, false] (64, [(4, .inl (-4)), (0, .inr (.inr (5, 0, 0))), (1, .inl (nI a)), (2, .inl (nI b)), (3, .inl n)], [.inl (-4), .inr (.inr (5, 0, 0))], σ) [icP .ne ((-4) : Int32) 0, ¬ icP .eq ((-4) : Int32) 0] rfl ?_ ?_
      · exact ⟨(by decide : (¬ ((-4) : Int32) = 0)), allP1 (by decide : ¬ (((-4) : Int32) = 0))⟩
      refine AW.callVI (d' := 0) [.inl (-4)] [] ⟨_, rfl⟩ f_6_no v_6_no l_6_69 ⟨rfl, by decide⟩ rfl (Nat.le_of_ble_eq_true rfl) rfl (Nat.le_of_ble_eq_true rfl) (c6_no4 σ) ?_
      rintro _ _ ⟨rfl, rfl⟩
      refine AW.reti ⟨_, rfl⟩ rfl ?_
      exact ⟨rfuF F 4, (by unfold twoRP; rw [hpr]; (try dsimp only); rw [maxP_e4 en1]; try rfl), RepD_ref hF hD (by decide) (by decide)⟩
    · skip
      refine AW.run 2 [] (2, [(0, .inr (.inr (5, 0, 0))), (1, .inl (nI a)), (2, .inl (nI b)), (3, .inl n)], [.inl (nI a), .inr (.inr (5, 0, 0))], σ) [] rfl ?_ ?_
      · exact trivial
      refine AW.callVI (d' := 0) [.inl (nI a)] [] ⟨_, rfl⟩ f_6_isBottle v_6_isBottle l_6_105 ⟨rfl, by decide⟩ rfl (Nat.le_of_ble_eq_true rfl) rfl (Nat.le_of_ble_eq_true rfl) (c6_isBottle1 (Sn F.1) σ e7 hn8 a ha) ?_
      rintro _ _ ⟨rfl, rfl⟩
      refine AW.run 3 [false] (10, [(0, .inr (.inr (5, 0, 0))), (1, .inl (nI a)), (2, .inl (nI b)), (3, .inl n)], [.inl (nI b), .inr (.inr (5, 0, 0))], σ) [¬ icP .eq (1 : Int32) 0] rfl ?_ ?_
      · exact allP1 (by decide : ¬ ((1 : Int32) = 0))
      refine AW.callVI (d' := 0) [.inl (nI b)] [] ⟨_, rfl⟩ f_6_isBottle v_6_isBottle l_6_105 ⟨rfl, by decide⟩ rfl (Nat.le_of_ble_eq_true rfl) rfl (Nat.le_of_ble_eq_true rfl) (c6_isBottle1 (Sn F.1) σ e7 hn8 b hb) ?_
      rintro _ _ ⟨rfl, rfl⟩
      refine AW.run 5 [false, true] (26, [(0, .inr (.inr (5, 0, 0))), (1, .inl (nI a)), (2, .inl (nI b)), (3, .inl n)], [.inl n], σ) [¬ icP .eq (1 : Int32) 0, icP .ne (nI a) (nI b)] rfl ?_ ?_
      · exact ⟨(by decide : ¬ ((1 : Int32) = 0)), allP1 (fun q => hne (nI_lit q (by omega) (by omega)))⟩
      refine AW.callSI (d' := 1) [.inl n] [] ⟨_, rfl⟩ f_6_notDays s_6_notDays l_6_209 rfl (Nat.le_of_ble_eq_true rfl) rfl (Nat.le_of_ble_eq_true rfl) (c6_notDays6 n h4n1 h6n1 σ) ?_
      rintro _ _ ⟨rfl, rfl⟩
      refine AW.run 7 [true, false] (64, [(4, .inl (-6)), (0, .inr (.inr (5, 0, 0))), (1, .inl (nI a)), (2, .inl (nI b)), (3, .inl n)], [.inl (-6), .inr (.inr (5, 0, 0))], σ) [icP .ne ((-6) : Int32) 0, ¬ icP .eq ((-6) : Int32) 0] rfl ?_ ?_
      · exact ⟨(by decide : (¬ ((-6) : Int32) = 0)), allP1 (by decide : ¬ (((-6) : Int32) = 0))⟩
      refine AW.callVI (d' := 0) [.inl (-6)] [] ⟨_, rfl⟩ f_6_no v_6_no l_6_69 ⟨rfl, by decide⟩ rfl (Nat.le_of_ble_eq_true rfl) rfl (Nat.le_of_ble_eq_true rfl) (c6_no6 σ) ?_
      rintro _ _ ⟨rfl, rfl⟩
      refine AW.reti ⟨_, rfl⟩ rfl ?_
      exact ⟨rfuF F 6, (by unfold twoRP; rw [hpr]; (try dsimp only); rw [maxP_e6 en1]; try rfl), RepD_ref hF hD (by decide) (by decide)⟩
    · skip
      have nln1 : ¬ nI n1 < 0 := nlt0 (by omega)
      have nmn1 : ¬ nI 60 < nI n1 := nI_nlt hn1 (by decide)
      cases hw1 : Sw F.1 a
      · skip
        refine AW.run 2 [] (2, [(0, .inr (.inr (5, 0, 0))), (1, .inl (nI a)), (2, .inl (nI b)), (3, .inl (nI n1))], [.inl (nI a), .inr (.inr (5, 0, 0))], σ) [] rfl ?_ ?_
        · exact trivial
        refine AW.callVI (d' := 0) [.inl (nI a)] [] ⟨_, rfl⟩ f_6_isBottle v_6_isBottle l_6_105 ⟨rfl, by decide⟩ rfl (Nat.le_of_ble_eq_true rfl) rfl (Nat.le_of_ble_eq_true rfl) (c6_isBottle1 (Sn F.1) σ e7 hn8 a ha) ?_
        rintro _ _ ⟨rfl, rfl⟩
        refine AW.run 3 [false] (10, [(0, .inr (.inr (5, 0, 0))), (1, .inl (nI a)), (2, .inl (nI b)), (3, .inl (nI n1))], [.inl (nI b), .inr (.inr (5, 0, 0))], σ) [¬ icP .eq (1 : Int32) 0] rfl ?_ ?_
        · exact allP1 (by decide : ¬ ((1 : Int32) = 0))
        refine AW.callVI (d' := 0) [.inl (nI b)] [] ⟨_, rfl⟩ f_6_isBottle v_6_isBottle l_6_105 ⟨rfl, by decide⟩ rfl (Nat.le_of_ble_eq_true rfl) rfl (Nat.le_of_ble_eq_true rfl) (c6_isBottle1 (Sn F.1) σ e7 hn8 b hb) ?_
        rintro _ _ ⟨rfl, rfl⟩
        refine AW.run 5 [false, true] (26, [(0, .inr (.inr (5, 0, 0))), (1, .inl (nI a)), (2, .inl (nI b)), (3, .inl (nI n1))], [.inl (nI n1)], σ) [¬ icP .eq (1 : Int32) 0, icP .ne (nI a) (nI b)] rfl ?_ ?_
        · exact ⟨(by decide : ¬ ((1 : Int32) = 0)), allP1 (fun q => hne (nI_lit q (by omega) (by omega)))⟩
        refine AW.callSI (d' := 1) [.inl (nI n1)] [] ⟨_, rfl⟩ f_6_notDays s_6_notDays l_6_209 rfl (Nat.le_of_ble_eq_true rfl) rfl (Nat.le_of_ble_eq_true rfl) (c6_notDays0 (nI n1) nln1 nmn1 σ) ?_
        rintro _ _ ⟨rfl, rfl⟩
        refine AW.run 5 [false] (38, [(4, .inl 0), (0, .inr (.inr (5, 0, 0))), (1, .inl (nI a)), (2, .inl (nI b)), (3, .inl (nI n1))], [.inl (nI a), .inr (.inr (5, 0, 0))], σ) [¬ icP .ne (0 : Int32) 0] rfl ?_ ?_
        · exact allP1 (by decide : ¬ (¬ (0 : Int32) = 0))
        refine AW.callVI (d' := 0) [.inl (nI a)] [] ⟨_, rfl⟩ f_6_isWhole v_6_isWhole l_6_108 ⟨rfl, by decide⟩ rfl (Nat.le_of_ble_eq_true rfl) rfl (Nat.le_of_ble_eq_true rfl) (c6_isWhole F.1 σ hR hO.1 a ha) ?_
        rintro v _ ⟨rfl, hv⟩
        obtain rfl : v = 0 := by
          rcases hv with h | h
          · exact absurd (hw1.symm.trans h.2) (by decide)
          · exact h.1
        refine AW.run 7 [true, false] (64, [(4, .inl (-3)), (0, .inr (.inr (5, 0, 0))), (1, .inl (nI a)), (2, .inl (nI b)), (3, .inl (nI n1))], [.inl (-3), .inr (.inr (5, 0, 0))], σ) [icP .eq (0 : Int32) 0, ¬ icP .eq ((-3) : Int32) 0] rfl ?_ ?_
        · exact ⟨(by decide : ((0 : Int32) = 0)), allP1 (by decide : ¬ (((-3) : Int32) = 0))⟩
        refine AW.callVI (d' := 0) [.inl (-3)] [] ⟨_, rfl⟩ f_6_no v_6_no l_6_69 ⟨rfl, by decide⟩ rfl (Nat.le_of_ble_eq_true rfl) rfl (Nat.le_of_ble_eq_true rfl) (c6_no3 σ) ?_
        rintro _ _ ⟨rfl, rfl⟩
        refine AW.reti ⟨_, rfl⟩ rfl ?_
        exact ⟨rfuF F 3, (by unfold twoRP; rw [hpr]; (try dsimp only); rw [maxP_e0 en1 (by omega)]; (try dsimp only); rw [if_neg (fun h => by rw [hw1] at h; exact absurd h.1 (by decide))]; try rfl), RepD_ref hF hD (by decide) (by decide)⟩
      cases hw2 : Sw F.1 b
      · skip
        refine AW.run 2 [] (2, [(0, .inr (.inr (5, 0, 0))), (1, .inl (nI a)), (2, .inl (nI b)), (3, .inl (nI n1))], [.inl (nI a), .inr (.inr (5, 0, 0))], σ) [] rfl ?_ ?_
        · exact trivial
        refine AW.callVI (d' := 0) [.inl (nI a)] [] ⟨_, rfl⟩ f_6_isBottle v_6_isBottle l_6_105 ⟨rfl, by decide⟩ rfl (Nat.le_of_ble_eq_true rfl) rfl (Nat.le_of_ble_eq_true rfl) (c6_isBottle1 (Sn F.1) σ e7 hn8 a ha) ?_
        rintro _ _ ⟨rfl, rfl⟩
        refine AW.run 3 [false] (10, [(0, .inr (.inr (5, 0, 0))), (1, .inl (nI a)), (2, .inl (nI b)), (3, .inl (nI n1))], [.inl (nI b), .inr (.inr (5, 0, 0))], σ) [¬ icP .eq (1 : Int32) 0] rfl ?_ ?_
        · exact allP1 (by decide : ¬ ((1 : Int32) = 0))
        refine AW.callVI (d' := 0) [.inl (nI b)] [] ⟨_, rfl⟩ f_6_isBottle v_6_isBottle l_6_105 ⟨rfl, by decide⟩ rfl (Nat.le_of_ble_eq_true rfl) rfl (Nat.le_of_ble_eq_true rfl) (c6_isBottle1 (Sn F.1) σ e7 hn8 b hb) ?_
        rintro _ _ ⟨rfl, rfl⟩
        refine AW.run 5 [false, true] (26, [(0, .inr (.inr (5, 0, 0))), (1, .inl (nI a)), (2, .inl (nI b)), (3, .inl (nI n1))], [.inl (nI n1)], σ) [¬ icP .eq (1 : Int32) 0, icP .ne (nI a) (nI b)] rfl ?_ ?_
        · exact ⟨(by decide : ¬ ((1 : Int32) = 0)), allP1 (fun q => hne (nI_lit q (by omega) (by omega)))⟩
        refine AW.callSI (d' := 1) [.inl (nI n1)] [] ⟨_, rfl⟩ f_6_notDays s_6_notDays l_6_209 rfl (Nat.le_of_ble_eq_true rfl) rfl (Nat.le_of_ble_eq_true rfl) (c6_notDays0 (nI n1) nln1 nmn1 σ) ?_
        rintro _ _ ⟨rfl, rfl⟩
        refine AW.run 5 [false] (38, [(4, .inl 0), (0, .inr (.inr (5, 0, 0))), (1, .inl (nI a)), (2, .inl (nI b)), (3, .inl (nI n1))], [.inl (nI a), .inr (.inr (5, 0, 0))], σ) [¬ icP .ne (0 : Int32) 0] rfl ?_ ?_
        · exact allP1 (by decide : ¬ (¬ (0 : Int32) = 0))
        refine AW.callVI (d' := 0) [.inl (nI a)] [] ⟨_, rfl⟩ f_6_isWhole v_6_isWhole l_6_108 ⟨rfl, by decide⟩ rfl (Nat.le_of_ble_eq_true rfl) rfl (Nat.le_of_ble_eq_true rfl) (c6_isWhole F.1 σ hR hO.1 a ha) ?_
        rintro v _ ⟨rfl, hv⟩
        obtain rfl : v = 1 := by
          rcases hv with h | h
          · exact h.1
          · exact absurd (hw1.symm.trans h.2) (by decide)
        refine AW.run 3 [false] (46, [(4, .inl 0), (0, .inr (.inr (5, 0, 0))), (1, .inl (nI a)), (2, .inl (nI b)), (3, .inl (nI n1))], [.inl (nI b), .inr (.inr (5, 0, 0))], σ) [¬ icP .eq (1 : Int32) 0] rfl ?_ ?_
        · exact allP1 (by decide : ¬ ((1 : Int32) = 0))
        refine AW.callVI (d' := 0) [.inl (nI b)] [] ⟨_, rfl⟩ f_6_isWhole v_6_isWhole l_6_108 ⟨rfl, by decide⟩ rfl (Nat.le_of_ble_eq_true rfl) rfl (Nat.le_of_ble_eq_true rfl) (c6_isWhole F.1 σ hR hO.1 b hb) ?_
        rintro v _ ⟨rfl, hv⟩
        obtain rfl : v = 0 := by
          rcases hv with h | h
          · exact absurd (hw2.symm.trans h.2) (by decide)
          · exact h.1
        refine AW.run 7 [false, false] (64, [(4, .inl (-3)), (0, .inr (.inr (5, 0, 0))), (1, .inl (nI a)), (2, .inl (nI b)), (3, .inl (nI n1))], [.inl (-3), .inr (.inr (5, 0, 0))], σ) [¬ icP .ne (0 : Int32) 0, ¬ icP .eq ((-3) : Int32) 0] rfl ?_ ?_
        · exact ⟨(by decide : ¬ (¬ (0 : Int32) = 0)), allP1 (by decide : ¬ (((-3) : Int32) = 0))⟩
        refine AW.callVI (d' := 0) [.inl (-3)] [] ⟨_, rfl⟩ f_6_no v_6_no l_6_69 ⟨rfl, by decide⟩ rfl (Nat.le_of_ble_eq_true rfl) rfl (Nat.le_of_ble_eq_true rfl) (c6_no3 σ) ?_
        rintro _ _ ⟨rfl, rfl⟩
        refine AW.reti ⟨_, rfl⟩ rfl ?_
        exact ⟨rfuF F 3, (by unfold twoRP; rw [hpr]; (try dsimp only); rw [maxP_e0 en1 (by omega)]; (try dsimp only); rw [if_neg (fun h => by rw [hw2] at h; exact absurd h.2 (by decide))]; try rfl), RepD_ref hF hD (by decide) (by decide)⟩
      · skip
        refine AW.run 2 [] (2, [(0, .inr (.inr (5, 0, 0))), (1, .inl (nI a)), (2, .inl (nI b)), (3, .inl (nI n1))], [.inl (nI a), .inr (.inr (5, 0, 0))], σ) [] rfl ?_ ?_
        · exact trivial
        refine AW.callVI (d' := 0) [.inl (nI a)] [] ⟨_, rfl⟩ f_6_isBottle v_6_isBottle l_6_105 ⟨rfl, by decide⟩ rfl (Nat.le_of_ble_eq_true rfl) rfl (Nat.le_of_ble_eq_true rfl) (c6_isBottle1 (Sn F.1) σ e7 hn8 a ha) ?_
        rintro _ _ ⟨rfl, rfl⟩
        refine AW.run 3 [false] (10, [(0, .inr (.inr (5, 0, 0))), (1, .inl (nI a)), (2, .inl (nI b)), (3, .inl (nI n1))], [.inl (nI b), .inr (.inr (5, 0, 0))], σ) [¬ icP .eq (1 : Int32) 0] rfl ?_ ?_
        · exact allP1 (by decide : ¬ ((1 : Int32) = 0))
        refine AW.callVI (d' := 0) [.inl (nI b)] [] ⟨_, rfl⟩ f_6_isBottle v_6_isBottle l_6_105 ⟨rfl, by decide⟩ rfl (Nat.le_of_ble_eq_true rfl) rfl (Nat.le_of_ble_eq_true rfl) (c6_isBottle1 (Sn F.1) σ e7 hn8 b hb) ?_
        rintro _ _ ⟨rfl, rfl⟩
        refine AW.run 5 [false, true] (26, [(0, .inr (.inr (5, 0, 0))), (1, .inl (nI a)), (2, .inl (nI b)), (3, .inl (nI n1))], [.inl (nI n1)], σ) [¬ icP .eq (1 : Int32) 0, icP .ne (nI a) (nI b)] rfl ?_ ?_
        · exact ⟨(by decide : ¬ ((1 : Int32) = 0)), allP1 (fun q => hne (nI_lit q (by omega) (by omega)))⟩
        refine AW.callSI (d' := 1) [.inl (nI n1)] [] ⟨_, rfl⟩ f_6_notDays s_6_notDays l_6_209 rfl (Nat.le_of_ble_eq_true rfl) rfl (Nat.le_of_ble_eq_true rfl) (c6_notDays0 (nI n1) nln1 nmn1 σ) ?_
        rintro _ _ ⟨rfl, rfl⟩
        refine AW.run 5 [false] (38, [(4, .inl 0), (0, .inr (.inr (5, 0, 0))), (1, .inl (nI a)), (2, .inl (nI b)), (3, .inl (nI n1))], [.inl (nI a), .inr (.inr (5, 0, 0))], σ) [¬ icP .ne (0 : Int32) 0] rfl ?_ ?_
        · exact allP1 (by decide : ¬ (¬ (0 : Int32) = 0))
        refine AW.callVI (d' := 0) [.inl (nI a)] [] ⟨_, rfl⟩ f_6_isWhole v_6_isWhole l_6_108 ⟨rfl, by decide⟩ rfl (Nat.le_of_ble_eq_true rfl) rfl (Nat.le_of_ble_eq_true rfl) (c6_isWhole F.1 σ hR hO.1 a ha) ?_
        rintro v _ ⟨rfl, hv⟩
        obtain rfl : v = 1 := by
          rcases hv with h | h
          · exact h.1
          · exact absurd (hw1.symm.trans h.2) (by decide)
        refine AW.run 3 [false] (46, [(4, .inl 0), (0, .inr (.inr (5, 0, 0))), (1, .inl (nI a)), (2, .inl (nI b)), (3, .inl (nI n1))], [.inl (nI b), .inr (.inr (5, 0, 0))], σ) [¬ icP .eq (1 : Int32) 0] rfl ?_ ?_
        · exact allP1 (by decide : ¬ ((1 : Int32) = 0))
        refine AW.callVI (d' := 0) [.inl (nI b)] [] ⟨_, rfl⟩ f_6_isWhole v_6_isWhole l_6_108 ⟨rfl, by decide⟩ rfl (Nat.le_of_ble_eq_true rfl) rfl (Nat.le_of_ble_eq_true rfl) (c6_isWhole F.1 σ hR hO.1 b hb) ?_
        rintro v _ ⟨rfl, hv⟩
        obtain rfl : v = 1 := by
          rcases hv with h | h
          · exact h.1
          · exact absurd (hw2.symm.trans h.2) (by decide)
        refine AW.run 7 [true, true] (72, [(4, .inl 0), (0, .inr (.inr (5, 0, 0))), (1, .inl (nI a)), (2, .inl (nI b)), (3, .inl (nI n1))], [.inl (nI n1), .inl (nI b), .inl (nI a), .inr (.inr (5, 0, 0))], σ) [icP .ne (1 : Int32) 0, icP .eq (0 : Int32) 0] rfl ?_ ?_
        · exact ⟨(by decide : (¬ (1 : Int32) = 0)), allP1 (by decide : ((0 : Int32) = 0))⟩
        refine AW.callVV (d' := 6) [.inl (nI a), .inl (nI b), .inl (nI n1)] [] ⟨_, rfl⟩ f_6_findGets v_6_findGets l_6_260 ⟨rfl, by decide⟩ rfl (Nat.le_of_ble_eq_true rfl) rfl (Nat.le_of_ble_eq_true rfl) (c6_findGets F.1 σ hR hO a b n1 ha hb (by omega)) ?_
        rintro τg ⟨fg, rg, hg⟩
        have g0 : τg 5 0 26 0 = nI (rw1 F.1 a b n1 0) := (hg 0 (by decide)).1
        have g1 : τg 5 0 26 1 = nI (rw2 F.1 a b n1 0) := (hg 0 (by decide)).2
        have g2 : τg 5 0 26 2 = nI (rw1 F.1 a b n1 1) := (hg 1 (by decide)).1
        have g3 : τg 5 0 26 3 = nI (rw2 F.1 a b n1 1) := (hg 1 (by decide)).2
        have g4 : τg 5 0 26 4 = nI (rw1 F.1 a b n1 2) := (hg 2 (by decide)).1
        have g5 : τg 5 0 26 5 = nI (rw2 F.1 a b n1 2) := (hg 2 (by decide)).2
        have g6 : τg 5 0 26 6 = nI (rw1 F.1 a b n1 3) := (hg 3 (by decide)).1
        have g7 : τg 5 0 26 7 = nI (rw2 F.1 a b n1 3) := (hg 3 (by decide)).2
        obtain ⟨la0, lb0⟩ := rw_le hO ha hb (n := n1) (p := 0)
        obtain ⟨la1, lb1⟩ := rw_le hO ha hb (n := n1) (p := 1)
        obtain ⟨la2, lb2⟩ := rw_le hO ha hb (n := n1) (p := 2)
        obtain ⟨la3, lb3⟩ := rw_le hO ha hb (n := n1) (p := 3)
        refine AW.run 2 [] (78, [(5, .inl 0), (4, .inl 0), (0, .inr (.inr (5, 0, 0))), (1, .inl (nI a)), (2, .inl (nI b)), (3, .inl (nI n1))], [], τg) [] rfl ?_ ?_
        · exact trivial
        refine AW.pick [2, 3, 4, 0] (ls' := [(0, .inr (.inr (5, 0, 0))), (1, .inl (nI a)), (2, .inl (nI b)), (5, .inl (nI 0))]) rfl ?_
        refine AW.loop (α := Unit) 78 4 (fun i _ => [(0, .inr (.inr (5, 0, 0))), (1, .inl (nI a)), (2, .inl (nI b)), (5, .inl (nI i))]) (fun i _ τ => τg = τ ∧ fstN (restB F.1 a b n1) 4 0 = fstN (restB F.1 a b n1) (4 - i) i) ?_ ?_ 4 0 () _ (by omega) ⟨rfl, rfl⟩
        · intro i _ τ hi hI hk
          obtain ⟨rfl, hf⟩ := hI
          rcases (show i = 0 ∨ i = 1 ∨ i = 2 ∨ i = 3 by omega) with rfl | rfl | rfl | rfl
          · skip
            refine AW.eq (c' := (78, [(0, .inr (.inr (5, 0, 0))), (1, .inl (nI a)), (2, .inl (nI b)), (5, .inl 0)], [], τg)) rfl ?_
            have hu : fstN (restB F.1 a b n1) (4 - 0) 0 = if (restB F.1 a b n1) 0 = true then some 0 else fstN (restB F.1 a b n1) (4 - (0 + 1)) (0 + 1) := rfl
            by_cases h1 : rw1 F.1 a b n1 2 ≤ rw1 F.1 a b n1 0
            · by_cases h2 : rw2 F.1 a b n1 1 ≤ rw2 F.1 a b n1 0
              · have hB : (restB F.1 a b n1) 0 = true := by show (decide (rw1 F.1 a b n1 2 ≤ rw1 F.1 a b n1 0) && decide (rw2 F.1 a b n1 1 ≤ rw2 F.1 a b n1 0)) = true; rw [decide_eq_true h1, decide_eq_true h2]; rfl
                have hr : restO F.1 a b n1 = 0 := by unfold restO; rw [hf, hu, if_pos hB]; rfl
                refine AW.run 11 [false] (95, [(0, .inr (.inr (5, 0, 0))), (1, .inl (nI a)), (2, .inl (nI b)), (5, .inl 0)], [.inl (τg 5 0 26 (4 : Int32).toNatClampNeg)], τg) [¬ icP .ge (0 : Int32) 4, vp_in 4 8] rfl ?_ ?_
                · exact ⟨(by decide : ¬ ((4 : Int32) ≤ 0)), allP1 (by unfold vp_in; decide)⟩
                rw [show (4 : Int32).toNatClampNeg = 4 from by decide, g4]
                refine AW.run 6 [] (104, [(0, .inr (.inr (5, 0, 0))), (1, .inl (nI a)), (2, .inl (nI b)), (5, .inl 0)], [.inl (τg 5 0 26 (0 : Int32).toNatClampNeg), .inl (nI (rw1 F.1 a b n1 2))], τg) [vp_in 0 8] rfl ?_ ?_
                · exact allP1 (by unfold vp_in; decide)
                rw [show (0 : Int32).toNatClampNeg = 0 from by decide, g0]
                refine AW.run 11 [false] (120, [(0, .inr (.inr (5, 0, 0))), (1, .inl (nI a)), (2, .inl (nI b)), (5, .inl 0)], [.inl (τg 5 0 26 (3 : Int32).toNatClampNeg)], τg) [¬ icP .gt (nI (rw1 F.1 a b n1 2)) (nI (rw1 F.1 a b n1 0)), vp_in 3 8] rfl ?_ ?_
                · exact ⟨(nI_nlt h1 (by omega)), allP1 (by unfold vp_in; decide)⟩
                rw [show (3 : Int32).toNatClampNeg = 3 from by decide, g3]
                refine AW.run 8 [] (131, [(0, .inr (.inr (5, 0, 0))), (1, .inl (nI a)), (2, .inl (nI b)), (5, .inl 0)], [.inl (τg 5 0 26 (1 : Int32).toNatClampNeg), .inl (nI (rw2 F.1 a b n1 1))], τg) [vp_in 1 8] rfl ?_ ?_
                · exact allP1 (by unfold vp_in; decide)
                rw [show (1 : Int32).toNatClampNeg = 1 from by decide, g1]
                refine AW.run 10 [false] (146, [(0, .inr (.inr (5, 0, 0))), (1, .inl (nI a)), (2, .inl (nI b)), (5, .inl 0)], [.inl 0], τg) [¬ icP .gt (nI (rw2 F.1 a b n1 1)) (nI (rw2 F.1 a b n1 0)), ¬ (2 : Int32) = 0, ¬ (2 : Int32) = 0] rfl ?_ ?_
                · exact ⟨(nI_nlt h2 (by omega)), (by decide), allP1 (by decide)⟩
                refine AW.reti ⟨_, rfl⟩ rfl ?_
                exact ⟨F, (by unfold twoRP; rw [hpr]; (try dsimp only); rw [maxP_e0 en1 (by omega)]; (try dsimp only); rw [if_pos ⟨hw1, hw2⟩]; (try dsimp only); rw [hr]), QD_fr4 hF fg hD rg⟩
              · have hB : ¬ (restB F.1 a b n1) 0 = true := fun q => by
                  have q : (decide (rw1 F.1 a b n1 2 ≤ rw1 F.1 a b n1 0) && decide (rw2 F.1 a b n1 1 ≤ rw2 F.1 a b n1 0)) = true := q
                  rw [Bool.and_eq_true] at q
                  exact h2 (of_decide_eq_true q.2)
                refine AW.run 11 [false] (95, [(0, .inr (.inr (5, 0, 0))), (1, .inl (nI a)), (2, .inl (nI b)), (5, .inl 0)], [.inl (τg 5 0 26 (4 : Int32).toNatClampNeg)], τg) [¬ icP .ge (0 : Int32) 4, vp_in 4 8] rfl ?_ ?_
                · exact ⟨(by decide : ¬ ((4 : Int32) ≤ 0)), allP1 (by unfold vp_in; decide)⟩
                rw [show (4 : Int32).toNatClampNeg = 4 from by decide, g4]
                refine AW.run 6 [] (104, [(0, .inr (.inr (5, 0, 0))), (1, .inl (nI a)), (2, .inl (nI b)), (5, .inl 0)], [.inl (τg 5 0 26 (0 : Int32).toNatClampNeg), .inl (nI (rw1 F.1 a b n1 2))], τg) [vp_in 0 8] rfl ?_ ?_
                · exact allP1 (by unfold vp_in; decide)
                rw [show (0 : Int32).toNatClampNeg = 0 from by decide, g0]
                refine AW.run 11 [false] (120, [(0, .inr (.inr (5, 0, 0))), (1, .inl (nI a)), (2, .inl (nI b)), (5, .inl 0)], [.inl (τg 5 0 26 (3 : Int32).toNatClampNeg)], τg) [¬ icP .gt (nI (rw1 F.1 a b n1 2)) (nI (rw1 F.1 a b n1 0)), vp_in 3 8] rfl ?_ ?_
                · exact ⟨(nI_nlt h1 (by omega)), allP1 (by unfold vp_in; decide)⟩
                rw [show (3 : Int32).toNatClampNeg = 3 from by decide, g3]
                refine AW.run 8 [] (131, [(0, .inr (.inr (5, 0, 0))), (1, .inl (nI a)), (2, .inl (nI b)), (5, .inl 0)], [.inl (τg 5 0 26 (1 : Int32).toNatClampNeg), .inl (nI (rw2 F.1 a b n1 1))], τg) [vp_in 1 8] rfl ?_ ?_
                · exact allP1 (by unfold vp_in; decide)
                rw [show (1 : Int32).toNatClampNeg = 1 from by decide, g1]
                refine AW.run 3 [true] (78, [(5, .inl 1), (0, .inr (.inr (5, 0, 0))), (1, .inl (nI a)), (2, .inl (nI b))], [], τg) [icP .gt (nI (rw2 F.1 a b n1 1)) (nI (rw2 F.1 a b n1 0))] rfl ?_ ?_
                · exact allP1 (nI_lt (by omega) (by omega))
                refine AW.pick [1, 2, 3, 0] (ls' := [(0, .inr (.inr (5, 0, 0))), (1, .inl (nI a)), (2, .inl (nI b)), (5, .inl (nI 1))]) rfl ?_
                exact hk () _ ⟨rfl, by rw [hf, hu, if_neg hB]⟩
            · have hB : ¬ (restB F.1 a b n1) 0 = true := fun q => by
                have q : (decide (rw1 F.1 a b n1 2 ≤ rw1 F.1 a b n1 0) && decide (rw2 F.1 a b n1 1 ≤ rw2 F.1 a b n1 0)) = true := q
                rw [Bool.and_eq_true] at q
                exact h1 (of_decide_eq_true q.1)
              refine AW.run 11 [false] (95, [(0, .inr (.inr (5, 0, 0))), (1, .inl (nI a)), (2, .inl (nI b)), (5, .inl 0)], [.inl (τg 5 0 26 (4 : Int32).toNatClampNeg)], τg) [¬ icP .ge (0 : Int32) 4, vp_in 4 8] rfl ?_ ?_
              · exact ⟨(by decide : ¬ ((4 : Int32) ≤ 0)), allP1 (by unfold vp_in; decide)⟩
              rw [show (4 : Int32).toNatClampNeg = 4 from by decide, g4]
              refine AW.run 6 [] (104, [(0, .inr (.inr (5, 0, 0))), (1, .inl (nI a)), (2, .inl (nI b)), (5, .inl 0)], [.inl (τg 5 0 26 (0 : Int32).toNatClampNeg), .inl (nI (rw1 F.1 a b n1 2))], τg) [vp_in 0 8] rfl ?_ ?_
              · exact allP1 (by unfold vp_in; decide)
              rw [show (0 : Int32).toNatClampNeg = 0 from by decide, g0]
              refine AW.run 3 [true] (78, [(5, .inl 1), (0, .inr (.inr (5, 0, 0))), (1, .inl (nI a)), (2, .inl (nI b))], [], τg) [icP .gt (nI (rw1 F.1 a b n1 2)) (nI (rw1 F.1 a b n1 0))] rfl ?_ ?_
              · exact allP1 (nI_lt (by omega) (by omega))
              refine AW.pick [1, 2, 3, 0] (ls' := [(0, .inr (.inr (5, 0, 0))), (1, .inl (nI a)), (2, .inl (nI b)), (5, .inl (nI 1))]) rfl ?_
              exact hk () _ ⟨rfl, by rw [hf, hu, if_neg hB]⟩
          · skip
            refine AW.eq (c' := (78, [(0, .inr (.inr (5, 0, 0))), (1, .inl (nI a)), (2, .inl (nI b)), (5, .inl 1)], [], τg)) rfl ?_
            have hu : fstN (restB F.1 a b n1) (4 - 1) 1 = if (restB F.1 a b n1) 1 = true then some 1 else fstN (restB F.1 a b n1) (4 - (1 + 1)) (1 + 1) := rfl
            by_cases h1 : rw1 F.1 a b n1 3 ≤ rw1 F.1 a b n1 1
            · by_cases h2 : rw2 F.1 a b n1 0 ≤ rw2 F.1 a b n1 1
              · have hB : (restB F.1 a b n1) 1 = true := by show (decide (rw1 F.1 a b n1 3 ≤ rw1 F.1 a b n1 1) && decide (rw2 F.1 a b n1 0 ≤ rw2 F.1 a b n1 1)) = true; rw [decide_eq_true h1, decide_eq_true h2]; rfl
                have hr : restO F.1 a b n1 = 1 := by unfold restO; rw [hf, hu, if_pos hB]; rfl
                refine AW.run 11 [false] (95, [(0, .inr (.inr (5, 0, 0))), (1, .inl (nI a)), (2, .inl (nI b)), (5, .inl 1)], [.inl (τg 5 0 26 (6 : Int32).toNatClampNeg)], τg) [¬ icP .ge (1 : Int32) 4, vp_in 6 8] rfl ?_ ?_
                · exact ⟨(by decide : ¬ ((4 : Int32) ≤ 1)), allP1 (by unfold vp_in; decide)⟩
                rw [show (6 : Int32).toNatClampNeg = 6 from by decide, g6]
                refine AW.run 6 [] (104, [(0, .inr (.inr (5, 0, 0))), (1, .inl (nI a)), (2, .inl (nI b)), (5, .inl 1)], [.inl (τg 5 0 26 (2 : Int32).toNatClampNeg), .inl (nI (rw1 F.1 a b n1 3))], τg) [vp_in 2 8] rfl ?_ ?_
                · exact allP1 (by unfold vp_in; decide)
                rw [show (2 : Int32).toNatClampNeg = 2 from by decide, g2]
                refine AW.run 11 [false] (120, [(0, .inr (.inr (5, 0, 0))), (1, .inl (nI a)), (2, .inl (nI b)), (5, .inl 1)], [.inl (τg 5 0 26 (1 : Int32).toNatClampNeg)], τg) [¬ icP .gt (nI (rw1 F.1 a b n1 3)) (nI (rw1 F.1 a b n1 1)), vp_in 1 8] rfl ?_ ?_
                · exact ⟨(nI_nlt h1 (by omega)), allP1 (by unfold vp_in; decide)⟩
                rw [show (1 : Int32).toNatClampNeg = 1 from by decide, g1]
                refine AW.run 8 [] (131, [(0, .inr (.inr (5, 0, 0))), (1, .inl (nI a)), (2, .inl (nI b)), (5, .inl 1)], [.inl (τg 5 0 26 (3 : Int32).toNatClampNeg), .inl (nI (rw2 F.1 a b n1 0))], τg) [vp_in 3 8] rfl ?_ ?_
                · exact allP1 (by unfold vp_in; decide)
                rw [show (3 : Int32).toNatClampNeg = 3 from by decide, g3]
                refine AW.run 10 [false] (146, [(0, .inr (.inr (5, 0, 0))), (1, .inl (nI a)), (2, .inl (nI b)), (5, .inl 1)], [.inl 1], τg) [¬ icP .gt (nI (rw2 F.1 a b n1 0)) (nI (rw2 F.1 a b n1 1)), ¬ (2 : Int32) = 0, ¬ (2 : Int32) = 0] rfl ?_ ?_
                · exact ⟨(nI_nlt h2 (by omega)), (by decide), allP1 (by decide)⟩
                refine AW.reti ⟨_, rfl⟩ rfl ?_
                exact ⟨F, (by unfold twoRP; rw [hpr]; (try dsimp only); rw [maxP_e0 en1 (by omega)]; (try dsimp only); rw [if_pos ⟨hw1, hw2⟩]; (try dsimp only); rw [hr]), QD_fr4 hF fg hD rg⟩
              · have hB : ¬ (restB F.1 a b n1) 1 = true := fun q => by
                  have q : (decide (rw1 F.1 a b n1 3 ≤ rw1 F.1 a b n1 1) && decide (rw2 F.1 a b n1 0 ≤ rw2 F.1 a b n1 1)) = true := q
                  rw [Bool.and_eq_true] at q
                  exact h2 (of_decide_eq_true q.2)
                refine AW.run 11 [false] (95, [(0, .inr (.inr (5, 0, 0))), (1, .inl (nI a)), (2, .inl (nI b)), (5, .inl 1)], [.inl (τg 5 0 26 (6 : Int32).toNatClampNeg)], τg) [¬ icP .ge (1 : Int32) 4, vp_in 6 8] rfl ?_ ?_
                · exact ⟨(by decide : ¬ ((4 : Int32) ≤ 1)), allP1 (by unfold vp_in; decide)⟩
                rw [show (6 : Int32).toNatClampNeg = 6 from by decide, g6]
                refine AW.run 6 [] (104, [(0, .inr (.inr (5, 0, 0))), (1, .inl (nI a)), (2, .inl (nI b)), (5, .inl 1)], [.inl (τg 5 0 26 (2 : Int32).toNatClampNeg), .inl (nI (rw1 F.1 a b n1 3))], τg) [vp_in 2 8] rfl ?_ ?_
                · exact allP1 (by unfold vp_in; decide)
                rw [show (2 : Int32).toNatClampNeg = 2 from by decide, g2]
                refine AW.run 11 [false] (120, [(0, .inr (.inr (5, 0, 0))), (1, .inl (nI a)), (2, .inl (nI b)), (5, .inl 1)], [.inl (τg 5 0 26 (1 : Int32).toNatClampNeg)], τg) [¬ icP .gt (nI (rw1 F.1 a b n1 3)) (nI (rw1 F.1 a b n1 1)), vp_in 1 8] rfl ?_ ?_
                · exact ⟨(nI_nlt h1 (by omega)), allP1 (by unfold vp_in; decide)⟩
                rw [show (1 : Int32).toNatClampNeg = 1 from by decide, g1]
                refine AW.run 8 [] (131, [(0, .inr (.inr (5, 0, 0))), (1, .inl (nI a)), (2, .inl (nI b)), (5, .inl 1)], [.inl (τg 5 0 26 (3 : Int32).toNatClampNeg), .inl (nI (rw2 F.1 a b n1 0))], τg) [vp_in 3 8] rfl ?_ ?_
                · exact allP1 (by unfold vp_in; decide)
                rw [show (3 : Int32).toNatClampNeg = 3 from by decide, g3]
                refine AW.run 3 [true] (78, [(5, .inl 2), (0, .inr (.inr (5, 0, 0))), (1, .inl (nI a)), (2, .inl (nI b))], [], τg) [icP .gt (nI (rw2 F.1 a b n1 0)) (nI (rw2 F.1 a b n1 1))] rfl ?_ ?_
                · exact allP1 (nI_lt (by omega) (by omega))
                refine AW.pick [1, 2, 3, 0] (ls' := [(0, .inr (.inr (5, 0, 0))), (1, .inl (nI a)), (2, .inl (nI b)), (5, .inl (nI 2))]) rfl ?_
                exact hk () _ ⟨rfl, by rw [hf, hu, if_neg hB]⟩
            · have hB : ¬ (restB F.1 a b n1) 1 = true := fun q => by
                have q : (decide (rw1 F.1 a b n1 3 ≤ rw1 F.1 a b n1 1) && decide (rw2 F.1 a b n1 0 ≤ rw2 F.1 a b n1 1)) = true := q
                rw [Bool.and_eq_true] at q
                exact h1 (of_decide_eq_true q.1)
              refine AW.run 11 [false] (95, [(0, .inr (.inr (5, 0, 0))), (1, .inl (nI a)), (2, .inl (nI b)), (5, .inl 1)], [.inl (τg 5 0 26 (6 : Int32).toNatClampNeg)], τg) [¬ icP .ge (1 : Int32) 4, vp_in 6 8] rfl ?_ ?_
              · exact ⟨(by decide : ¬ ((4 : Int32) ≤ 1)), allP1 (by unfold vp_in; decide)⟩
              rw [show (6 : Int32).toNatClampNeg = 6 from by decide, g6]
              refine AW.run 6 [] (104, [(0, .inr (.inr (5, 0, 0))), (1, .inl (nI a)), (2, .inl (nI b)), (5, .inl 1)], [.inl (τg 5 0 26 (2 : Int32).toNatClampNeg), .inl (nI (rw1 F.1 a b n1 3))], τg) [vp_in 2 8] rfl ?_ ?_
              · exact allP1 (by unfold vp_in; decide)
              rw [show (2 : Int32).toNatClampNeg = 2 from by decide, g2]
              refine AW.run 3 [true] (78, [(5, .inl 2), (0, .inr (.inr (5, 0, 0))), (1, .inl (nI a)), (2, .inl (nI b))], [], τg) [icP .gt (nI (rw1 F.1 a b n1 3)) (nI (rw1 F.1 a b n1 1))] rfl ?_ ?_
              · exact allP1 (nI_lt (by omega) (by omega))
              refine AW.pick [1, 2, 3, 0] (ls' := [(0, .inr (.inr (5, 0, 0))), (1, .inl (nI a)), (2, .inl (nI b)), (5, .inl (nI 2))]) rfl ?_
              exact hk () _ ⟨rfl, by rw [hf, hu, if_neg hB]⟩
          · skip
            refine AW.eq (c' := (78, [(0, .inr (.inr (5, 0, 0))), (1, .inl (nI a)), (2, .inl (nI b)), (5, .inl 2)], [], τg)) rfl ?_
            have hu : fstN (restB F.1 a b n1) (4 - 2) 2 = if (restB F.1 a b n1) 2 = true then some 2 else fstN (restB F.1 a b n1) (4 - (2 + 1)) (2 + 1) := rfl
            by_cases h1 : rw1 F.1 a b n1 0 ≤ rw1 F.1 a b n1 2
            · by_cases h2 : rw2 F.1 a b n1 3 ≤ rw2 F.1 a b n1 2
              · have hB : (restB F.1 a b n1) 2 = true := by show (decide (rw1 F.1 a b n1 0 ≤ rw1 F.1 a b n1 2) && decide (rw2 F.1 a b n1 3 ≤ rw2 F.1 a b n1 2)) = true; rw [decide_eq_true h1, decide_eq_true h2]; rfl
                have hr : restO F.1 a b n1 = 10 := by unfold restO; rw [hf, hu, if_pos hB]; rfl
                refine AW.run 11 [false] (95, [(0, .inr (.inr (5, 0, 0))), (1, .inl (nI a)), (2, .inl (nI b)), (5, .inl 2)], [.inl (τg 5 0 26 (0 : Int32).toNatClampNeg)], τg) [¬ icP .ge (2 : Int32) 4, vp_in 0 8] rfl ?_ ?_
                · exact ⟨(by decide : ¬ ((4 : Int32) ≤ 2)), allP1 (by unfold vp_in; decide)⟩
                rw [show (0 : Int32).toNatClampNeg = 0 from by decide, g0]
                refine AW.run 6 [] (104, [(0, .inr (.inr (5, 0, 0))), (1, .inl (nI a)), (2, .inl (nI b)), (5, .inl 2)], [.inl (τg 5 0 26 (4 : Int32).toNatClampNeg), .inl (nI (rw1 F.1 a b n1 0))], τg) [vp_in 4 8] rfl ?_ ?_
                · exact allP1 (by unfold vp_in; decide)
                rw [show (4 : Int32).toNatClampNeg = 4 from by decide, g4]
                refine AW.run 11 [false] (120, [(0, .inr (.inr (5, 0, 0))), (1, .inl (nI a)), (2, .inl (nI b)), (5, .inl 2)], [.inl (τg 5 0 26 (7 : Int32).toNatClampNeg)], τg) [¬ icP .gt (nI (rw1 F.1 a b n1 0)) (nI (rw1 F.1 a b n1 2)), vp_in 7 8] rfl ?_ ?_
                · exact ⟨(nI_nlt h1 (by omega)), allP1 (by unfold vp_in; decide)⟩
                rw [show (7 : Int32).toNatClampNeg = 7 from by decide, g7]
                refine AW.run 8 [] (131, [(0, .inr (.inr (5, 0, 0))), (1, .inl (nI a)), (2, .inl (nI b)), (5, .inl 2)], [.inl (τg 5 0 26 (5 : Int32).toNatClampNeg), .inl (nI (rw2 F.1 a b n1 3))], τg) [vp_in 5 8] rfl ?_ ?_
                · exact allP1 (by unfold vp_in; decide)
                rw [show (5 : Int32).toNatClampNeg = 5 from by decide, g5]
                refine AW.run 10 [false] (146, [(0, .inr (.inr (5, 0, 0))), (1, .inl (nI a)), (2, .inl (nI b)), (5, .inl 2)], [.inl 10], τg) [¬ icP .gt (nI (rw2 F.1 a b n1 3)) (nI (rw2 F.1 a b n1 2)), ¬ (2 : Int32) = 0, ¬ (2 : Int32) = 0] rfl ?_ ?_
                · exact ⟨(nI_nlt h2 (by omega)), (by decide), allP1 (by decide)⟩
                refine AW.reti ⟨_, rfl⟩ rfl ?_
                exact ⟨F, (by unfold twoRP; rw [hpr]; (try dsimp only); rw [maxP_e0 en1 (by omega)]; (try dsimp only); rw [if_pos ⟨hw1, hw2⟩]; (try dsimp only); rw [hr]), QD_fr4 hF fg hD rg⟩
              · have hB : ¬ (restB F.1 a b n1) 2 = true := fun q => by
                  have q : (decide (rw1 F.1 a b n1 0 ≤ rw1 F.1 a b n1 2) && decide (rw2 F.1 a b n1 3 ≤ rw2 F.1 a b n1 2)) = true := q
                  rw [Bool.and_eq_true] at q
                  exact h2 (of_decide_eq_true q.2)
                refine AW.run 11 [false] (95, [(0, .inr (.inr (5, 0, 0))), (1, .inl (nI a)), (2, .inl (nI b)), (5, .inl 2)], [.inl (τg 5 0 26 (0 : Int32).toNatClampNeg)], τg) [¬ icP .ge (2 : Int32) 4, vp_in 0 8] rfl ?_ ?_
                · exact ⟨(by decide : ¬ ((4 : Int32) ≤ 2)), allP1 (by unfold vp_in; decide)⟩
                rw [show (0 : Int32).toNatClampNeg = 0 from by decide, g0]
                refine AW.run 6 [] (104, [(0, .inr (.inr (5, 0, 0))), (1, .inl (nI a)), (2, .inl (nI b)), (5, .inl 2)], [.inl (τg 5 0 26 (4 : Int32).toNatClampNeg), .inl (nI (rw1 F.1 a b n1 0))], τg) [vp_in 4 8] rfl ?_ ?_
                · exact allP1 (by unfold vp_in; decide)
                rw [show (4 : Int32).toNatClampNeg = 4 from by decide, g4]
                refine AW.run 11 [false] (120, [(0, .inr (.inr (5, 0, 0))), (1, .inl (nI a)), (2, .inl (nI b)), (5, .inl 2)], [.inl (τg 5 0 26 (7 : Int32).toNatClampNeg)], τg) [¬ icP .gt (nI (rw1 F.1 a b n1 0)) (nI (rw1 F.1 a b n1 2)), vp_in 7 8] rfl ?_ ?_
                · exact ⟨(nI_nlt h1 (by omega)), allP1 (by unfold vp_in; decide)⟩
                rw [show (7 : Int32).toNatClampNeg = 7 from by decide, g7]
                refine AW.run 8 [] (131, [(0, .inr (.inr (5, 0, 0))), (1, .inl (nI a)), (2, .inl (nI b)), (5, .inl 2)], [.inl (τg 5 0 26 (5 : Int32).toNatClampNeg), .inl (nI (rw2 F.1 a b n1 3))], τg) [vp_in 5 8] rfl ?_ ?_
                · exact allP1 (by unfold vp_in; decide)
                rw [show (5 : Int32).toNatClampNeg = 5 from by decide, g5]
                refine AW.run 3 [true] (78, [(5, .inl 3), (0, .inr (.inr (5, 0, 0))), (1, .inl (nI a)), (2, .inl (nI b))], [], τg) [icP .gt (nI (rw2 F.1 a b n1 3)) (nI (rw2 F.1 a b n1 2))] rfl ?_ ?_
                · exact allP1 (nI_lt (by omega) (by omega))
                refine AW.pick [1, 2, 3, 0] (ls' := [(0, .inr (.inr (5, 0, 0))), (1, .inl (nI a)), (2, .inl (nI b)), (5, .inl (nI 3))]) rfl ?_
                exact hk () _ ⟨rfl, by rw [hf, hu, if_neg hB]⟩
            · have hB : ¬ (restB F.1 a b n1) 2 = true := fun q => by
                have q : (decide (rw1 F.1 a b n1 0 ≤ rw1 F.1 a b n1 2) && decide (rw2 F.1 a b n1 3 ≤ rw2 F.1 a b n1 2)) = true := q
                rw [Bool.and_eq_true] at q
                exact h1 (of_decide_eq_true q.1)
              refine AW.run 11 [false] (95, [(0, .inr (.inr (5, 0, 0))), (1, .inl (nI a)), (2, .inl (nI b)), (5, .inl 2)], [.inl (τg 5 0 26 (0 : Int32).toNatClampNeg)], τg) [¬ icP .ge (2 : Int32) 4, vp_in 0 8] rfl ?_ ?_
              · exact ⟨(by decide : ¬ ((4 : Int32) ≤ 2)), allP1 (by unfold vp_in; decide)⟩
              rw [show (0 : Int32).toNatClampNeg = 0 from by decide, g0]
              refine AW.run 6 [] (104, [(0, .inr (.inr (5, 0, 0))), (1, .inl (nI a)), (2, .inl (nI b)), (5, .inl 2)], [.inl (τg 5 0 26 (4 : Int32).toNatClampNeg), .inl (nI (rw1 F.1 a b n1 0))], τg) [vp_in 4 8] rfl ?_ ?_
              · exact allP1 (by unfold vp_in; decide)
              rw [show (4 : Int32).toNatClampNeg = 4 from by decide, g4]
              refine AW.run 3 [true] (78, [(5, .inl 3), (0, .inr (.inr (5, 0, 0))), (1, .inl (nI a)), (2, .inl (nI b))], [], τg) [icP .gt (nI (rw1 F.1 a b n1 0)) (nI (rw1 F.1 a b n1 2))] rfl ?_ ?_
              · exact allP1 (nI_lt (by omega) (by omega))
              refine AW.pick [1, 2, 3, 0] (ls' := [(0, .inr (.inr (5, 0, 0))), (1, .inl (nI a)), (2, .inl (nI b)), (5, .inl (nI 3))]) rfl ?_
              exact hk () _ ⟨rfl, by rw [hf, hu, if_neg hB]⟩
          · skip
            refine AW.eq (c' := (78, [(0, .inr (.inr (5, 0, 0))), (1, .inl (nI a)), (2, .inl (nI b)), (5, .inl 3)], [], τg)) rfl ?_
            have hu : fstN (restB F.1 a b n1) (4 - 3) 3 = if (restB F.1 a b n1) 3 = true then some 3 else fstN (restB F.1 a b n1) (4 - (3 + 1)) (3 + 1) := rfl
            by_cases h1 : rw1 F.1 a b n1 1 ≤ rw1 F.1 a b n1 3
            · by_cases h2 : rw2 F.1 a b n1 2 ≤ rw2 F.1 a b n1 3
              · have hB : (restB F.1 a b n1) 3 = true := by show (decide (rw1 F.1 a b n1 1 ≤ rw1 F.1 a b n1 3) && decide (rw2 F.1 a b n1 2 ≤ rw2 F.1 a b n1 3)) = true; rw [decide_eq_true h1, decide_eq_true h2]; rfl
                have hr : restO F.1 a b n1 = 11 := by unfold restO; rw [hf, hu, if_pos hB]; rfl
                refine AW.run 11 [false] (95, [(0, .inr (.inr (5, 0, 0))), (1, .inl (nI a)), (2, .inl (nI b)), (5, .inl 3)], [.inl (τg 5 0 26 (2 : Int32).toNatClampNeg)], τg) [¬ icP .ge (3 : Int32) 4, vp_in 2 8] rfl ?_ ?_
                · exact ⟨(by decide : ¬ ((4 : Int32) ≤ 3)), allP1 (by unfold vp_in; decide)⟩
                rw [show (2 : Int32).toNatClampNeg = 2 from by decide, g2]
                refine AW.run 6 [] (104, [(0, .inr (.inr (5, 0, 0))), (1, .inl (nI a)), (2, .inl (nI b)), (5, .inl 3)], [.inl (τg 5 0 26 (6 : Int32).toNatClampNeg), .inl (nI (rw1 F.1 a b n1 1))], τg) [vp_in 6 8] rfl ?_ ?_
                · exact allP1 (by unfold vp_in; decide)
                rw [show (6 : Int32).toNatClampNeg = 6 from by decide, g6]
                refine AW.run 11 [false] (120, [(0, .inr (.inr (5, 0, 0))), (1, .inl (nI a)), (2, .inl (nI b)), (5, .inl 3)], [.inl (τg 5 0 26 (5 : Int32).toNatClampNeg)], τg) [¬ icP .gt (nI (rw1 F.1 a b n1 1)) (nI (rw1 F.1 a b n1 3)), vp_in 5 8] rfl ?_ ?_
                · exact ⟨(nI_nlt h1 (by omega)), allP1 (by unfold vp_in; decide)⟩
                rw [show (5 : Int32).toNatClampNeg = 5 from by decide, g5]
                refine AW.run 8 [] (131, [(0, .inr (.inr (5, 0, 0))), (1, .inl (nI a)), (2, .inl (nI b)), (5, .inl 3)], [.inl (τg 5 0 26 (7 : Int32).toNatClampNeg), .inl (nI (rw2 F.1 a b n1 2))], τg) [vp_in 7 8] rfl ?_ ?_
                · exact allP1 (by unfold vp_in; decide)
                rw [show (7 : Int32).toNatClampNeg = 7 from by decide, g7]
                refine AW.run 10 [false] (146, [(0, .inr (.inr (5, 0, 0))), (1, .inl (nI a)), (2, .inl (nI b)), (5, .inl 3)], [.inl 11], τg) [¬ icP .gt (nI (rw2 F.1 a b n1 2)) (nI (rw2 F.1 a b n1 3)), ¬ (2 : Int32) = 0, ¬ (2 : Int32) = 0] rfl ?_ ?_
                · exact ⟨(nI_nlt h2 (by omega)), (by decide), allP1 (by decide)⟩
                refine AW.reti ⟨_, rfl⟩ rfl ?_
                exact ⟨F, (by unfold twoRP; rw [hpr]; (try dsimp only); rw [maxP_e0 en1 (by omega)]; (try dsimp only); rw [if_pos ⟨hw1, hw2⟩]; (try dsimp only); rw [hr]), QD_fr4 hF fg hD rg⟩
              · have hB : ¬ (restB F.1 a b n1) 3 = true := fun q => by
                  have q : (decide (rw1 F.1 a b n1 1 ≤ rw1 F.1 a b n1 3) && decide (rw2 F.1 a b n1 2 ≤ rw2 F.1 a b n1 3)) = true := q
                  rw [Bool.and_eq_true] at q
                  exact h2 (of_decide_eq_true q.2)
                refine AW.run 11 [false] (95, [(0, .inr (.inr (5, 0, 0))), (1, .inl (nI a)), (2, .inl (nI b)), (5, .inl 3)], [.inl (τg 5 0 26 (2 : Int32).toNatClampNeg)], τg) [¬ icP .ge (3 : Int32) 4, vp_in 2 8] rfl ?_ ?_
                · exact ⟨(by decide : ¬ ((4 : Int32) ≤ 3)), allP1 (by unfold vp_in; decide)⟩
                rw [show (2 : Int32).toNatClampNeg = 2 from by decide, g2]
                refine AW.run 6 [] (104, [(0, .inr (.inr (5, 0, 0))), (1, .inl (nI a)), (2, .inl (nI b)), (5, .inl 3)], [.inl (τg 5 0 26 (6 : Int32).toNatClampNeg), .inl (nI (rw1 F.1 a b n1 1))], τg) [vp_in 6 8] rfl ?_ ?_
                · exact allP1 (by unfold vp_in; decide)
                rw [show (6 : Int32).toNatClampNeg = 6 from by decide, g6]
                refine AW.run 11 [false] (120, [(0, .inr (.inr (5, 0, 0))), (1, .inl (nI a)), (2, .inl (nI b)), (5, .inl 3)], [.inl (τg 5 0 26 (5 : Int32).toNatClampNeg)], τg) [¬ icP .gt (nI (rw1 F.1 a b n1 1)) (nI (rw1 F.1 a b n1 3)), vp_in 5 8] rfl ?_ ?_
                · exact ⟨(nI_nlt h1 (by omega)), allP1 (by unfold vp_in; decide)⟩
                rw [show (5 : Int32).toNatClampNeg = 5 from by decide, g5]
                refine AW.run 8 [] (131, [(0, .inr (.inr (5, 0, 0))), (1, .inl (nI a)), (2, .inl (nI b)), (5, .inl 3)], [.inl (τg 5 0 26 (7 : Int32).toNatClampNeg), .inl (nI (rw2 F.1 a b n1 2))], τg) [vp_in 7 8] rfl ?_ ?_
                · exact allP1 (by unfold vp_in; decide)
                rw [show (7 : Int32).toNatClampNeg = 7 from by decide, g7]
                refine AW.run 3 [true] (78, [(5, .inl 4), (0, .inr (.inr (5, 0, 0))), (1, .inl (nI a)), (2, .inl (nI b))], [], τg) [icP .gt (nI (rw2 F.1 a b n1 2)) (nI (rw2 F.1 a b n1 3))] rfl ?_ ?_
                · exact allP1 (nI_lt (by omega) (by omega))
                refine AW.pick [1, 2, 3, 0] (ls' := [(0, .inr (.inr (5, 0, 0))), (1, .inl (nI a)), (2, .inl (nI b)), (5, .inl (nI 4))]) rfl ?_
                exact hk () _ ⟨rfl, by rw [hf, hu, if_neg hB]⟩
            · have hB : ¬ (restB F.1 a b n1) 3 = true := fun q => by
                have q : (decide (rw1 F.1 a b n1 1 ≤ rw1 F.1 a b n1 3) && decide (rw2 F.1 a b n1 2 ≤ rw2 F.1 a b n1 3)) = true := q
                rw [Bool.and_eq_true] at q
                exact h1 (of_decide_eq_true q.1)
              refine AW.run 11 [false] (95, [(0, .inr (.inr (5, 0, 0))), (1, .inl (nI a)), (2, .inl (nI b)), (5, .inl 3)], [.inl (τg 5 0 26 (2 : Int32).toNatClampNeg)], τg) [¬ icP .ge (3 : Int32) 4, vp_in 2 8] rfl ?_ ?_
              · exact ⟨(by decide : ¬ ((4 : Int32) ≤ 3)), allP1 (by unfold vp_in; decide)⟩
              rw [show (2 : Int32).toNatClampNeg = 2 from by decide, g2]
              refine AW.run 6 [] (104, [(0, .inr (.inr (5, 0, 0))), (1, .inl (nI a)), (2, .inl (nI b)), (5, .inl 3)], [.inl (τg 5 0 26 (6 : Int32).toNatClampNeg), .inl (nI (rw1 F.1 a b n1 1))], τg) [vp_in 6 8] rfl ?_ ?_
              · exact allP1 (by unfold vp_in; decide)
              rw [show (6 : Int32).toNatClampNeg = 6 from by decide, g6]
              refine AW.run 3 [true] (78, [(5, .inl 4), (0, .inr (.inr (5, 0, 0))), (1, .inl (nI a)), (2, .inl (nI b))], [], τg) [icP .gt (nI (rw1 F.1 a b n1 1)) (nI (rw1 F.1 a b n1 3))] rfl ?_ ?_
              · exact allP1 (nI_lt (by omega) (by omega))
              refine AW.pick [1, 2, 3, 0] (ls' := [(0, .inr (.inr (5, 0, 0))), (1, .inl (nI a)), (2, .inl (nI b)), (5, .inl (nI 4))]) rfl ?_
              exact hk () _ ⟨rfl, by rw [hf, hu, if_neg hB]⟩
        · intro _ τ hI
          obtain ⟨rfl, hf⟩ := hI
          have hr : restO F.1 a b n1 = -9 := by unfold restO; rw [hf]; rfl
          refine AW.run 4 [true] (155, [(0, .inr (.inr (5, 0, 0))), (1, .inl (nI a)), (2, .inl (nI b)), (5, .inl 4)], [.inl (-9)], τg) [icP .ge (4 : Int32) 4] rfl ?_ ?_
          · exact allP1 (by decide : ((4 : Int32) ≤ 4))
          refine AW.reti ⟨_, rfl⟩ rfl ?_
          exact ⟨F, (by unfold twoRP; rw [hpr]; (try dsimp only); rw [maxP_e0 en1 (by omega)]; (try dsimp only); rw [if_pos ⟨hw1, hw2⟩]; (try dsimp only); rw [hr]), QD_fr4 hF fg hD rg⟩
  · rcases hno with hx | ⟨⟨k, hk, rfl⟩, hy⟩ | ⟨⟨k, hk, rfl⟩, -, rfl⟩
    · skip
      refine AW.run 2 [] (2, [(0, .inr (.inr (5, 0, 0))), (1, .inl x), (2, .inl y), (3, .inl n)], [.inl x, .inr (.inr (5, 0, 0))], σ) [] rfl ?_ ?_
      · exact trivial
      refine AW.callVI (d' := 0) [.inl x] [] ⟨_, rfl⟩ f_6_isBottle v_6_isBottle l_6_105 ⟨rfl, by decide⟩ rfl (Nat.le_of_ble_eq_true rfl) rfl (Nat.le_of_ble_eq_true rfl) (c6_isBottle0 (Sn F.1) σ e7 hn8 x hx) ?_
      rintro _ _ ⟨rfl, rfl⟩
      refine AW.run 10 [true, true, false] (64, [(4, .inl (-1)), (0, .inr (.inr (5, 0, 0))), (1, .inl x), (2, .inl y), (3, .inl n)], [.inl (-1), .inr (.inr (5, 0, 0))], σ) [icP .eq (0 : Int32) 0, icP .ne ((-1) : Int32) 0, ¬ icP .eq ((-1) : Int32) 0] rfl ?_ ?_
      · exact ⟨(by decide : ((0 : Int32) = 0)), (by decide : (¬ ((-1) : Int32) = 0)), allP1 (by decide : ¬ (((-1) : Int32) = 0))⟩
      refine AW.callVI (d' := 0) [.inl (-1)] [] ⟨_, rfl⟩ f_6_no v_6_no l_6_69 ⟨rfl, by decide⟩ rfl (Nat.le_of_ble_eq_true rfl) rfl (Nat.le_of_ble_eq_true rfl) (c6_no1 σ) ?_
      rintro _ _ ⟨rfl, rfl⟩
      refine AW.reti ⟨_, rfl⟩ rfl ?_
      exact ⟨rfuF F 1, (by unfold twoRP; rw [hpr]; try rfl), RepD_ref hF hD (by decide) (by decide)⟩
    · skip
      refine AW.run 2 [] (2, [(0, .inr (.inr (5, 0, 0))), (1, .inl (nI k)), (2, .inl y), (3, .inl n)], [.inl (nI k), .inr (.inr (5, 0, 0))], σ) [] rfl ?_ ?_
      · exact trivial
      refine AW.callVI (d' := 0) [.inl (nI k)] [] ⟨_, rfl⟩ f_6_isBottle v_6_isBottle l_6_105 ⟨rfl, by decide⟩ rfl (Nat.le_of_ble_eq_true rfl) rfl (Nat.le_of_ble_eq_true rfl) (c6_isBottle1 (Sn F.1) σ e7 hn8 k hk) ?_
      rintro _ _ ⟨rfl, rfl⟩
      refine AW.run 3 [false] (10, [(0, .inr (.inr (5, 0, 0))), (1, .inl (nI k)), (2, .inl y), (3, .inl n)], [.inl y, .inr (.inr (5, 0, 0))], σ) [¬ icP .eq (1 : Int32) 0] rfl ?_ ?_
      · exact allP1 (by decide : ¬ ((1 : Int32) = 0))
      refine AW.callVI (d' := 0) [.inl y] [] ⟨_, rfl⟩ f_6_isBottle v_6_isBottle l_6_105 ⟨rfl, by decide⟩ rfl (Nat.le_of_ble_eq_true rfl) rfl (Nat.le_of_ble_eq_true rfl) (c6_isBottle0 (Sn F.1) σ e7 hn8 y hy) ?_
      rintro _ _ ⟨rfl, rfl⟩
      refine AW.run 10 [true, true, false] (64, [(4, .inl (-1)), (0, .inr (.inr (5, 0, 0))), (1, .inl (nI k)), (2, .inl y), (3, .inl n)], [.inl (-1), .inr (.inr (5, 0, 0))], σ) [icP .eq (0 : Int32) 0, icP .ne ((-1) : Int32) 0, ¬ icP .eq ((-1) : Int32) 0] rfl ?_ ?_
      · exact ⟨(by decide : ((0 : Int32) = 0)), (by decide : (¬ ((-1) : Int32) = 0)), allP1 (by decide : ¬ (((-1) : Int32) = 0))⟩
      refine AW.callVI (d' := 0) [.inl (-1)] [] ⟨_, rfl⟩ f_6_no v_6_no l_6_69 ⟨rfl, by decide⟩ rfl (Nat.le_of_ble_eq_true rfl) rfl (Nat.le_of_ble_eq_true rfl) (c6_no1 σ) ?_
      rintro _ _ ⟨rfl, rfl⟩
      refine AW.reti ⟨_, rfl⟩ rfl ?_
      exact ⟨rfuF F 1, (by unfold twoRP; rw [hpr]; try rfl), RepD_ref hF hD (by decide) (by decide)⟩
    · skip
      refine AW.run 2 [] (2, [(0, .inr (.inr (5, 0, 0))), (1, .inl (nI k)), (2, .inl (nI k)), (3, .inl n)], [.inl (nI k), .inr (.inr (5, 0, 0))], σ) [] rfl ?_ ?_
      · exact trivial
      refine AW.callVI (d' := 0) [.inl (nI k)] [] ⟨_, rfl⟩ f_6_isBottle v_6_isBottle l_6_105 ⟨rfl, by decide⟩ rfl (Nat.le_of_ble_eq_true rfl) rfl (Nat.le_of_ble_eq_true rfl) (c6_isBottle1 (Sn F.1) σ e7 hn8 k hk) ?_
      rintro _ _ ⟨rfl, rfl⟩
      refine AW.run 3 [false] (10, [(0, .inr (.inr (5, 0, 0))), (1, .inl (nI k)), (2, .inl (nI k)), (3, .inl n)], [.inl (nI k), .inr (.inr (5, 0, 0))], σ) [¬ icP .eq (1 : Int32) 0] rfl ?_ ?_
      · exact allP1 (by decide : ¬ ((1 : Int32) = 0))
      refine AW.callVI (d' := 0) [.inl (nI k)] [] ⟨_, rfl⟩ f_6_isBottle v_6_isBottle l_6_105 ⟨rfl, by decide⟩ rfl (Nat.le_of_ble_eq_true rfl) rfl (Nat.le_of_ble_eq_true rfl) (c6_isBottle1 (Sn F.1) σ e7 hn8 k hk) ?_
      rintro _ _ ⟨rfl, rfl⟩
      refine AW.run 13 [false, false, true, false] (64, [(4, .inl (-1)), (0, .inr (.inr (5, 0, 0))), (1, .inl (nI k)), (2, .inl (nI k)), (3, .inl n)], [.inl (-1), .inr (.inr (5, 0, 0))], σ) [¬ icP .eq (1 : Int32) 0, ¬ icP .ne (nI k) (nI k), icP .ne ((-1) : Int32) 0, ¬ icP .eq ((-1) : Int32) 0] rfl ?_ ?_
      · exact ⟨(by decide : ¬ ((1 : Int32) = 0)), (fun q => q rfl), (by decide : (¬ ((-1) : Int32) = 0)), allP1 (by decide : ¬ (((-1) : Int32) = 0))⟩
      refine AW.callVI (d' := 0) [.inl (-1)] [] ⟨_, rfl⟩ f_6_no v_6_no l_6_69 ⟨rfl, by decide⟩ rfl (Nat.le_of_ble_eq_true rfl) rfl (Nat.le_of_ble_eq_true rfl) (c6_no1 σ) ?_
      rintro _ _ ⟨rfl, rfl⟩
      refine AW.reti ⟨_, rfl⟩ rfl ?_
      exact ⟨rfuF F 1, (by unfold twoRP; rw [hpr]; try rfl), RepD_ref hF hD (by decide) (by decide)⟩
