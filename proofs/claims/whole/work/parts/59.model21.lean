/-! THE MODEL'S CHANGES -/
theorem FOK_keep {F : Gv} (hF : FOK F) : FOK (keepF F F.1) := by
  refine ⟨hF.1, hF.2.1, hF.2.2.1, ⟨Nat.min_le_left _ _, fun j hj => ?_⟩, hF.2.2.2.2⟩
  have hj : j < min 8 (F.2.2.2.2.1.1 + 1) := hj
  cases j with
  | zero => exact hF.1
  | succ j => exact hF.2.2.2.1.2 j (by omega)
theorem RepD_keep {σ τ : St} {F : Gv} (hF : FOK F) (hD : RepD σ F) (h : Fr P3 σ τ) (hR : RepM (τ 5 0) F.1) (hB : RepB (τ 5 0) (keepF F F.1).2.2.2.2.1.1 (keepF F F.1).2.2.2.2.1.2) : RepD τ (keepF F F.1) ∧ Fr TT σ τ := by
  obtain ⟨-, ⟨t1, t2⟩, hw, hr, -, hi⟩ := hD
  have e : ∀ j k, ((j = 0 ∧ (k = 15 ∨ k = 19 ∨ k = 24)) ∨ j = 12 ∨ j = 24 ∨ j = 1 ∨ (j = 19 ∧ k < 52)) → τ 5 0 j k = σ 5 0 j k := fun j k hj => fr_at h (fun q => by unfold P3 P2 P1 at q; omega)
  exact ⟨⟨hR, ⟨by rw [e 0 15 (by omega)]; exact t1, fun i hi => by rw [e 12 i (by omega)]; exact t2 i hi⟩, RowM_mv hw (e 0 24 (by omega)) (fun i => e 24 i (by omega)), fun k h1 h2 => by rw [e 1 k (by omega)]; exact hr k h1 h2, hB, ImgD_mv (fun I hI => (hF.2.2.2.2 I hI).1.1) (e 0 19 (by omega)) (fun t ht => e 19 t (by omega)) hi⟩, fr_tt h⟩
theorem QD_chg {σ τ υ : St} {F : Gv} {S : Sv} (hF : FOK F) (hD : RepD τ F) (hX : Fr TT σ τ) (h : Fr P2 τ υ) (hR : RepM (υ 5 0) S) : RepD υ (S, F.2) ∧ Fr TT σ υ := ⟨RepD_mv hF h p2_pres hD hR, fr_trans hX (fr_tt h)⟩
theorem tw_1 (t : Bool) : (1 : Int32) - (if t = true then 1 else 0) = if (!t) = true then 1 else 0 := by cases t <;> decide
theorem tw_2 {S : Sv} {k : Nat} : (if Stw (withT S (fu (Stw S) k (!(Stw S k)))) k = true then 1 else 0) = (if Stw S k = true then 0 else 1 : Int32) := by
  show (if fu (Stw S) k (!(Stw S k)) k = true then 1 else 0) = _
  rw [fu_eq]; cases Stw S k <;> rfl
theorem RepD_bk {σ τ : St} {F : Gv} {S : Sv} {b : Nat} {ps : Nat → Sv} {P : Nat → Nat → Prop} (hF : FOK F) (hD : RepD σ F) (h : Fr P σ τ) (hp : ∀ j k, P j k → ¬ ((j = 0 ∧ (k = 15 ∨ k = 19 ∨ k = 24)) ∨ j = 12 ∨ j = 24 ∨ j = 1 ∨ (j = 19 ∧ k < 52))) (hR : RepM (τ 5 0) S) (hB : RepB (τ 5 0) b ps) : RepD τ (S, F.2.1, F.2.2.1, F.2.2.2.1, (b, ps), F.2.2.2.2.2) ∧ Fr TT σ τ := by
  obtain ⟨-, ⟨t1, t2⟩, hw, hr, -, hi⟩ := hD
  have e : ∀ j k, ((j = 0 ∧ (k = 15 ∨ k = 19 ∨ k = 24)) ∨ j = 12 ∨ j = 24 ∨ j = 1 ∨ (j = 19 ∧ k < 52)) → τ 5 0 j k = σ 5 0 j k := fun j k hj => fr_at h (fun q => hp j k q hj)
  exact ⟨⟨hR, ⟨by rw [e 0 15 (by omega)]; exact t1, fun i hi => by rw [e 12 i (by omega)]; exact t2 i hi⟩, RowM_mv hw (e 0 24 (by omega)) (fun i => e 24 i (by omega)), fun k h1 h2 => by rw [e 1 k (by omega)]; exact hr k h1 h2, hB, ImgD_mv (fun I hI => (hF.2.2.2.2 I hI).1.1) (e 0 19 (by omega)) (fun t ht => e 19 t (by omega)) hi⟩, fr_tt h⟩
theorem RepB_0 {m : Nat → Nat → Int32} {ps : Nat → Sv} (h : m 0 22 = 0) : RepB m 0 ps := ⟨h, fun j hj => absurd hj (Nat.not_lt_zero j)⟩
theorem RepD_img {σ τ : St} {F : Gv} (hF : FOK F) (hD : RepD σ F) (h : Fr (Pw 0) (setM σ 5 0 0 19 1) τ) (hR : RepM (τ 5 0) F.1) (hK : RepK (τ 5 0) 0 F.1) : RepD τ (F.1, F.2.1, F.2.2.1, F.2.2.2.1, F.2.2.2.2.1, some F.1) ∧ Fr TT σ τ := by
  obtain ⟨-, ⟨t1, t2⟩, hw, hr, hb, -⟩ := hD
  have e : ∀ j k, ((j = 0 ∧ (k = 15 ∨ k = 22 ∨ k = 24)) ∨ j = 12 ∨ j = 24 ∨ j = 1 ∨ (j = 19 ∧ 156 ≤ k)) → τ 5 0 j k = σ 5 0 j k := fun j k hj => by rw [fr_at h (fun q => by unfold Pw at q; omega), setM_at, if_neg (by omega)]
  have e19 : τ 5 0 0 19 = 1 := by rw [fr_at h (fun q => by unfold Pw at q; omega), setM_at, if_pos ⟨rfl, rfl⟩]
  exact ⟨⟨hR, ⟨by rw [e 0 15 (by omega)]; exact t1, fun i hi => by rw [e 12 i (by omega)]; exact t2 i hi⟩, RowM_mv hw (e 0 24 (by omega)) (fun i => e 24 i (by omega)), fun k h1 h2 => by rw [e 1 k (by omega)]; exact hr k h1 h2, RepB_mv (fun j hj => (hF.2.2.2.1.2 j hj).1.1) (e 0 22 (by omega)) (fun k hk => e 19 k (by omega)) hb, ⟨e19, hK⟩⟩, fr_trans (fr_set fr_rfl trivial) (fr_tt h)⟩
theorem RepD_tape {σ υ : St} {F : Gv} {l : Nat} (hF : FOK F) (hD : RepD σ F) (h96 : F.2.1.1 < 96) (hu : υ = setM (setM σ 5 0 12 (nI F.2.1.1).toNatClampNeg (nI l)) 5 0 0 15 (nI (F.2.1.1 + 1))) : RepD υ (F.1, (F.2.1.1 + 1, fu F.2.1.2 F.2.1.1 l), F.2.2) ∧ Fr TT σ υ := by
  subst hu
  rw [nI_clamp (by omega)]
  obtain ⟨h1, ⟨t1, t2⟩, hw, hr, hb, hi⟩ := hD
  have h : Fr (fun j k => (j = 0 ∧ k = 15) ∨ j = 12) σ (setM (setM σ 5 0 12 F.2.1.1 (nI l)) 5 0 0 15 (nI (F.2.1.1 + 1))) := fr_set (fr_set fr_rfl (Or.inr rfl)) (Or.inl ⟨rfl, rfl⟩)
  have e : ∀ j k, ¬ ((j = 0 ∧ k = 15) ∨ j = 12) → setM (setM σ 5 0 12 F.2.1.1 (nI l)) 5 0 0 15 (nI (F.2.1.1 + 1)) 5 0 j k = σ 5 0 j k := fun j k hj => fr_at h hj
  refine ⟨⟨repM_fr h (fun j k q => by omega) h1, ⟨by rw [setM_at, if_pos ⟨rfl, rfl⟩], fun i hi => ?_⟩, RowM_mv hw (e 0 24 (by omega)) (fun i => e 24 i (by omega)), fun k h1 h2 => by rw [e 1 k (by omega)]; exact hr k h1 h2, RepB_mv (fun j hj => (hF.2.2.2.1.2 j hj).1.1) (e 0 22 (by omega)) (fun k hk => e 19 k (by omega)) hb, ImgD_mv (fun I hI => (hF.2.2.2.2 I hI).1.1) (e 0 19 (by omega)) (fun t ht => e 19 t (by omega)) hi⟩, fr_tt h⟩
  rw [setM_at, if_neg (by omega), setM_at]
  show _ = nI (fu F.2.1.2 F.2.1.1 l i)
  unfold fu
  by_cases he : i = F.2.1.1
  · rw [if_pos ⟨rfl, he⟩, if_pos he]
  · rw [if_neg (by omega), if_neg he]; exact t2 i (by have hi : i < F.2.1.1 + 1 := hi; omega)

set_option maxHeartbeats 4000000 in
set_option maxRecDepth 100000 in
theorem c6_adds (S : Sv) (σ : St) (hR : RepM (σ 5 0) S) (hO : SOK S) (k f p : Nat) (hs8 : Sn S < 8) : Ct M6_adds 0 [.inr (.inr (5, 0, 0)), .inl (nI k), .inl (nI f), .inl (nI p)] σ (PV fun σ' => Fr P1 σ σ' ∧ RepM (σ' 5 0) (addS S k f p)) := by
  refine Ct.of f_6_adds (Nat.le_of_ble_eq_true rfl) ?_
  show AW M6_adds 0 _ (0, [(0, .inr (.inr (5, 0, 0))), (1, .inl (nI k)), (2, .inl (nI f)), (3, .inl (nI p))], [], σ)
  have hn8 : Sn S ≤ 8 := hO.1
  have e7 := hR.1.1
  refine AW.run 4 [] (8, [(0, .inr (.inr (5, 0, 0))), (1, .inl (nI k)), (2, .inl (nI f)), (3, .inl (nI p))], [.inl (σ 5 0 0 7), .inr (.inr (5, 0, 2))], σ) [] rfl ?_ ?_
  · exact trivial
  rw [e7]
  refine AW.run 2 [] (10, [(0, .inr (.inr (5, 0, 0))), (1, .inl (nI k)), (2, .inl (nI f)), (3, .inl (nI p))], [], (setM σ 5 0 2 (nI (Sn S)).toNatClampNeg (nI k))) [vp_in (nI (Sn S)) 8] rfl ?_ ?_
  · exact allP1 (by exact in8 hs8)
  rw [cl8 (k := Sn S) hs8]
  refine AW.run 4 [] (18, [(0, .inr (.inr (5, 0, 0))), (1, .inl (nI k)), (2, .inl (nI f)), (3, .inl (nI p))], [.inl ((setM σ 5 0 2 (Sn S) (nI k)) 5 0 0 7), .inr (.inr (5, 0, 3))], (setM σ 5 0 2 (Sn S) (nI k))) [] rfl ?_ ?_
  · exact trivial
  rw [show (setM σ 5 0 2 (Sn S) (nI k)) 5 0 0 7 = nI (Sn S) from by rw [setM_at, if_neg (by omega)]; exact e7]
  refine AW.run 2 [] (20, [(0, .inr (.inr (5, 0, 0))), (1, .inl (nI k)), (2, .inl (nI f)), (3, .inl (nI p))], [], (setM (setM σ 5 0 2 (Sn S) (nI k)) 5 0 3 (nI (Sn S)).toNatClampNeg (nI f))) [vp_in (nI (Sn S)) 8] rfl ?_ ?_
  · exact allP1 (by exact in8 hs8)
  rw [cl8 (k := Sn S) hs8]
  refine AW.run 4 [] (28, [(0, .inr (.inr (5, 0, 0))), (1, .inl (nI k)), (2, .inl (nI f)), (3, .inl (nI p))], [.inl ((setM (setM σ 5 0 2 (Sn S) (nI k)) 5 0 3 (Sn S) (nI f)) 5 0 0 7), .inr (.inr (5, 0, 4))], (setM (setM σ 5 0 2 (Sn S) (nI k)) 5 0 3 (Sn S) (nI f))) [] rfl ?_ ?_
  · exact trivial
  rw [show (setM (setM σ 5 0 2 (Sn S) (nI k)) 5 0 3 (Sn S) (nI f)) 5 0 0 7 = nI (Sn S) from by rw [setM_at, if_neg (by omega), setM_at, if_neg (by omega)]; exact e7]
  refine AW.run 2 [] (30, [(0, .inr (.inr (5, 0, 0))), (1, .inl (nI k)), (2, .inl (nI f)), (3, .inl (nI p))], [], (setM (setM (setM σ 5 0 2 (Sn S) (nI k)) 5 0 3 (Sn S) (nI f)) 5 0 4 (nI (Sn S)).toNatClampNeg (nI p))) [vp_in (nI (Sn S)) 8] rfl ?_ ?_
  · exact allP1 (by exact in8 hs8)
  rw [cl8 (k := Sn S) hs8]
  refine AW.run 4 [] (38, [(0, .inr (.inr (5, 0, 0))), (1, .inl (nI k)), (2, .inl (nI f)), (3, .inl (nI p))], [.inl ((setM (setM (setM σ 5 0 2 (Sn S) (nI k)) 5 0 3 (Sn S) (nI f)) 5 0 4 (Sn S) (nI p)) 5 0 0 7), .inr (.inr (5, 0, 5))], (setM (setM (setM σ 5 0 2 (Sn S) (nI k)) 5 0 3 (Sn S) (nI f)) 5 0 4 (Sn S) (nI p))) [] rfl ?_ ?_
  · exact trivial
  rw [show (setM (setM (setM σ 5 0 2 (Sn S) (nI k)) 5 0 3 (Sn S) (nI f)) 5 0 4 (Sn S) (nI p)) 5 0 0 7 = nI (Sn S) from by rw [setM_at, if_neg (by omega), setM_at, if_neg (by omega), setM_at, if_neg (by omega)]; exact e7]
  refine AW.run 2 [] (40, [(0, .inr (.inr (5, 0, 0))), (1, .inl (nI k)), (2, .inl (nI f)), (3, .inl (nI p))], [], (setM (setM (setM (setM σ 5 0 2 (Sn S) (nI k)) 5 0 3 (Sn S) (nI f)) 5 0 4 (Sn S) (nI p)) 5 0 5 (nI (Sn S)).toNatClampNeg 0)) [vp_in (nI (Sn S)) 8] rfl ?_ ?_
  · exact allP1 (by exact in8 hs8)
  rw [cl8 (k := Sn S) hs8]
  refine AW.run 4 [] (48, [(0, .inr (.inr (5, 0, 0))), (1, .inl (nI k)), (2, .inl (nI f)), (3, .inl (nI p))], [.inl ((setM (setM (setM (setM σ 5 0 2 (Sn S) (nI k)) 5 0 3 (Sn S) (nI f)) 5 0 4 (Sn S) (nI p)) 5 0 5 (Sn S) 0) 5 0 0 7), .inr (.inr (5, 0, 6))], (setM (setM (setM (setM σ 5 0 2 (Sn S) (nI k)) 5 0 3 (Sn S) (nI f)) 5 0 4 (Sn S) (nI p)) 5 0 5 (Sn S) 0)) [] rfl ?_ ?_
  · exact trivial
  rw [show (setM (setM (setM (setM σ 5 0 2 (Sn S) (nI k)) 5 0 3 (Sn S) (nI f)) 5 0 4 (Sn S) (nI p)) 5 0 5 (Sn S) 0) 5 0 0 7 = nI (Sn S) from by rw [setM_at, if_neg (by omega), setM_at, if_neg (by omega), setM_at, if_neg (by omega), setM_at, if_neg (by omega)]; exact e7]
  refine AW.run 2 [] (50, [(0, .inr (.inr (5, 0, 0))), (1, .inl (nI k)), (2, .inl (nI f)), (3, .inl (nI p))], [], (setM (setM (setM (setM (setM σ 5 0 2 (Sn S) (nI k)) 5 0 3 (Sn S) (nI f)) 5 0 4 (Sn S) (nI p)) 5 0 5 (Sn S) 0) 5 0 6 (nI (Sn S)).toNatClampNeg 0)) [vp_in (nI (Sn S)) 8] rfl ?_ ?_
  · exact allP1 (by exact in8 hs8)
  rw [cl8 (k := Sn S) hs8]
  refine AW.run 4 [] (58, [(0, .inr (.inr (5, 0, 0))), (1, .inl (nI k)), (2, .inl (nI f)), (3, .inl (nI p))], [.inl ((setM (setM (setM (setM (setM σ 5 0 2 (Sn S) (nI k)) 5 0 3 (Sn S) (nI f)) 5 0 4 (Sn S) (nI p)) 5 0 5 (Sn S) 0) 5 0 6 (Sn S) 0) 5 0 0 7), .inr (.inr (5, 0, 7))], (setM (setM (setM (setM (setM σ 5 0 2 (Sn S) (nI k)) 5 0 3 (Sn S) (nI f)) 5 0 4 (Sn S) (nI p)) 5 0 5 (Sn S) 0) 5 0 6 (Sn S) 0)) [] rfl ?_ ?_
  · exact trivial
  rw [show (setM (setM (setM (setM (setM σ 5 0 2 (Sn S) (nI k)) 5 0 3 (Sn S) (nI f)) 5 0 4 (Sn S) (nI p)) 5 0 5 (Sn S) 0) 5 0 6 (Sn S) 0) 5 0 0 7 = nI (Sn S) from by rw [setM_at, if_neg (by omega), setM_at, if_neg (by omega), setM_at, if_neg (by omega), setM_at, if_neg (by omega), setM_at, if_neg (by omega)]; exact e7]
  refine AW.run 2 [] (60, [(0, .inr (.inr (5, 0, 0))), (1, .inl (nI k)), (2, .inl (nI f)), (3, .inl (nI p))], [], (setM (setM (setM (setM (setM (setM σ 5 0 2 (Sn S) (nI k)) 5 0 3 (Sn S) (nI f)) 5 0 4 (Sn S) (nI p)) 5 0 5 (Sn S) 0) 5 0 6 (Sn S) 0) 5 0 7 (nI (Sn S)).toNatClampNeg 0)) [vp_in (nI (Sn S)) 8] rfl ?_ ?_
  · exact allP1 (by exact in8 hs8)
  rw [cl8 (k := Sn S) hs8]
  refine AW.run 3 [] (65, [(0, .inr (.inr (5, 0, 0))), (1, .inl (nI k)), (2, .inl (nI f)), (3, .inl (nI p))], [.inl ((setM (setM (setM (setM (setM (setM σ 5 0 2 (Sn S) (nI k)) 5 0 3 (Sn S) (nI f)) 5 0 4 (Sn S) (nI p)) 5 0 5 (Sn S) 0) 5 0 6 (Sn S) 0) 5 0 7 (Sn S) 0) 5 0 0 7), .inr (.inr (5, 0, 0))], (setM (setM (setM (setM (setM (setM σ 5 0 2 (Sn S) (nI k)) 5 0 3 (Sn S) (nI f)) 5 0 4 (Sn S) (nI p)) 5 0 5 (Sn S) 0) 5 0 6 (Sn S) 0) 5 0 7 (Sn S) 0)) [] rfl ?_ ?_
  · exact trivial
  rw [show (setM (setM (setM (setM (setM (setM σ 5 0 2 (Sn S) (nI k)) 5 0 3 (Sn S) (nI f)) 5 0 4 (Sn S) (nI p)) 5 0 5 (Sn S) 0) 5 0 6 (Sn S) 0) 5 0 7 (Sn S) 0) 5 0 0 7 = nI (Sn S) from by rw [setM_at, if_neg (by omega), setM_at, if_neg (by omega), setM_at, if_neg (by omega), setM_at, if_neg (by omega), setM_at, if_neg (by omega), setM_at, if_neg (by omega)]; exact e7]
  refine AW.run 2 [] (67, [(0, .inr (.inr (5, 0, 0))), (1, .inl (nI k)), (2, .inl (nI f)), (3, .inl (nI p))], [.inl ((nI (Sn S)) + 1), .inr (.inr (5, 0, 0))], (setM (setM (setM (setM (setM (setM σ 5 0 2 (Sn S) (nI k)) 5 0 3 (Sn S) (nI f)) 5 0 4 (Sn S) (nI p)) 5 0 5 (Sn S) 0) 5 0 6 (Sn S) 0) 5 0 7 (Sn S) 0)) [] rfl ?_ ?_
  · exact trivial
  rw [nI_1]
  refine AW.run 1 [] (70, [(0, .inr (.inr (5, 0, 0))), (1, .inl (nI k)), (2, .inl (nI f)), (3, .inl (nI p))], [], (setM (setM (setM (setM (setM (setM (setM σ 5 0 2 (Sn S) (nI k)) 5 0 3 (Sn S) (nI f)) 5 0 4 (Sn S) (nI p)) 5 0 5 (Sn S) 0) 5 0 6 (Sn S) 0) 5 0 7 (Sn S) 0) 5 0 0 7 (nI (Sn S + 1)))) [] rfl ?_ ?_
  · exact trivial
  refine AW.retv ⟨_, rfl⟩ rfl ?_
  refine ⟨(fr_set (fr_set (fr_set (fr_set (fr_set (fr_set (fr_set fr_rfl (p1_q (by omega) (by omega))) (p1_q (by omega) (by omega))) (p1_q (by omega) (by omega))) (p1_q (by omega) (by omega))) (p1_q (by omega) (by omega))) (p1_q (by omega) (by omega))) (p1_f (by omega) (by omega))), ⟨by rw [setM_at, if_pos ⟨rfl, rfl⟩]; rfl, by rw [setM_at, if_neg (by omega), setM_at, if_neg (by omega), setM_at, if_neg (by omega), setM_at, if_neg (by omega), setM_at, if_neg (by omega), setM_at, if_neg (by omega), setM_at, if_neg (by omega)]; exact hR.1.2.1, by rw [setM_at, if_neg (by omega), setM_at, if_neg (by omega), setM_at, if_neg (by omega), setM_at, if_neg (by omega), setM_at, if_neg (by omega), setM_at, if_neg (by omega), setM_at, if_neg (by omega)]; exact hR.1.2.2.1, by rw [setM_at, if_neg (by omega), setM_at, if_neg (by omega), setM_at, if_neg (by omega), setM_at, if_neg (by omega), setM_at, if_neg (by omega), setM_at, if_neg (by omega), setM_at, if_neg (by omega)]; exact hR.1.2.2.2⟩, fun i hi => ?_⟩
  have hi : i < Sn S + 1 := hi
  have hz := hO.2.2.1 (Sn S) (Nat.le_refl _)
  by_cases he : i = Sn S
  · skip
    exact ⟨by show _ = nI (fu (Sk S) (Sn S) k i); rw [setM_at, if_neg (by omega), setM_at, if_neg (by omega), setM_at, if_neg (by omega), setM_at, if_neg (by omega), setM_at, if_neg (by omega), setM_at, if_neg (by omega), setM_at, if_pos ⟨rfl, he⟩]; rw [he, fu_eq],
      by show _ = nI (fu (Sf S) (Sn S) f i); rw [setM_at, if_neg (by omega), setM_at, if_neg (by omega), setM_at, if_neg (by omega), setM_at, if_neg (by omega), setM_at, if_neg (by omega), setM_at, if_pos ⟨rfl, he⟩]; rw [he, fu_eq],
      by show _ = nI (fu (Sp S) (Sn S) p i); rw [setM_at, if_neg (by omega), setM_at, if_neg (by omega), setM_at, if_neg (by omega), setM_at, if_neg (by omega), setM_at, if_pos ⟨rfl, he⟩]; rw [he, fu_eq],
      by show _ = nI (Sq S i); rw [setM_at, if_neg (by omega), setM_at, if_neg (by omega), setM_at, if_neg (by omega), setM_at, if_pos ⟨rfl, he⟩]; rw [he, hz.2.2.1]; rfl,
      by show _ = (if fu (Sw S) (Sn S) true i = true then 0 else 1); rw [setM_at, if_neg (by omega), setM_at, if_neg (by omega), setM_at, if_pos ⟨rfl, he⟩]; rw [he, fu_eq]; rfl,
      by show _ = (if Stw S i = true then 1 else 0); rw [setM_at, if_neg (by omega), setM_at, if_pos ⟨rfl, he⟩]; rw [he, hz.2.1]; rfl⟩
  · skip
    obtain ⟨h1, h2, h3, h4, h5, h6⟩ := hR.2 i (by omega)
    exact ⟨by show _ = nI (fu (Sk S) (Sn S) k i); rw [setM_at, if_neg (by omega), setM_at, if_neg (by omega), setM_at, if_neg (by omega), setM_at, if_neg (by omega), setM_at, if_neg (by omega), setM_at, if_neg (by omega), setM_at, if_neg (by omega), fu_ne _ _ he]; exact h1,
      by show _ = nI (fu (Sf S) (Sn S) f i); rw [setM_at, if_neg (by omega), setM_at, if_neg (by omega), setM_at, if_neg (by omega), setM_at, if_neg (by omega), setM_at, if_neg (by omega), setM_at, if_neg (by omega), setM_at, if_neg (by omega), fu_ne _ _ he]; exact h2,
      by show _ = nI (fu (Sp S) (Sn S) p i); rw [setM_at, if_neg (by omega), setM_at, if_neg (by omega), setM_at, if_neg (by omega), setM_at, if_neg (by omega), setM_at, if_neg (by omega), setM_at, if_neg (by omega), setM_at, if_neg (by omega), fu_ne _ _ he]; exact h3,
      by show _ = nI (Sq S i); rw [setM_at, if_neg (by omega), setM_at, if_neg (by omega), setM_at, if_neg (by omega), setM_at, if_neg (by omega), setM_at, if_neg (by omega), setM_at, if_neg (by omega), setM_at, if_neg (by omega)]; exact h4,
      by show _ = (if fu (Sw S) (Sn S) true i = true then 0 else 1); rw [setM_at, if_neg (by omega), setM_at, if_neg (by omega), setM_at, if_neg (by omega), setM_at, if_neg (by omega), setM_at, if_neg (by omega), setM_at, if_neg (by omega), setM_at, if_neg (by omega), fu_ne _ _ he]; exact h5,
      by show _ = (if Stw S i = true then 1 else 0); rw [setM_at, if_neg (by omega), setM_at, if_neg (by omega), setM_at, if_neg (by omega), setM_at, if_neg (by omega), setM_at, if_neg (by omega), setM_at, if_neg (by omega), setM_at, if_neg (by omega)]; exact h6⟩
set_option maxHeartbeats 4000000 in
set_option maxRecDepth 100000 in
theorem d6_feeds (F : Gv) (σ : St) (hD : RepD σ F) (hG : GOK F) (w : Int32) (v : Int32) : Ct M6_feeds 4 [.inr (.inr (5, 0, 0)), .inl w, .inl v] σ (QD σ (feedsP F w v)) := by
  refine Ct.of f_6_feeds (Nat.le_of_ble_eq_true rfl) ?_
  show AW M6_feeds 4 _ (0, [(0, .inr (.inr (5, 0, 0))), (1, .inl w), (2, .inl v)], [], σ)
  have hF : FOK F := hG.1
  have hR : RepM (σ 5 0) F.1 := hD.1
  have hO : SOK F.1 := hF.1.1
  have hn8 : Sn F.1 ≤ 8 := hO.1
  have e7 := hR.1.1
  by_cases h0w : w = 0
  · subst h0w
    rcases fMax_or 9 (by decide) v with ⟨h4v1, ev1⟩ | ⟨h4v1, h6v1, ev1⟩ | ⟨v1, hv1, rfl, ev1⟩
    · skip
      refine AW.run 3 [] (3, [(0, .inr (.inr (5, 0, 0))), (1, .inl 0), (2, .inl v)], [.inl 1, .inl 0, .inl 0], σ) [] rfl ?_ ?_
      · exact trivial
      refine AW.callSI (d' := 0) [.inl 0, .inl 0, .inl 1] [] ⟨_, rfl⟩ f_6_isIn s_6_isIn l_6_80 rfl (Nat.le_of_ble_eq_true rfl) rfl (Nat.le_of_ble_eq_true rfl) (c6_isIn1 0 0 1 (by decide) (by decide) σ) ?_
      rintro _ _ ⟨rfl, rfl⟩
      refine AW.run 4 [true] (18, [(0, .inr (.inr (5, 0, 0))), (1, .inl 0), (2, .inl v)], [.inl 9, .inl 0, .inl v], σ) [icP .ne (1 : Int32) 0] rfl ?_ ?_
      · exact allP1 (by decide : (¬ (1 : Int32) = 0))
      refine AW.callSI (d' := 0) [.inl v, .inl 0, .inl 9] [] ⟨_, rfl⟩ f_6_bound s_6_bound l_6_62 rfl (Nat.le_of_ble_eq_true rfl) rfl (Nat.le_of_ble_eq_true rfl) (c6_bound4 v 0 9 h4v1 σ) ?_
      rintro _ _ ⟨rfl, rfl⟩
      refine AW.run 5 [false] (28, [(3, .inl (-4)), (0, .inr (.inr (5, 0, 0))), (1, .inl 0), (2, .inl v)], [.inl (-4), .inr (.inr (5, 0, 0))], σ) [¬ icP .eq ((-4) : Int32) 0] rfl ?_ ?_
      · exact allP1 (by decide : ¬ (((-4) : Int32) = 0))
      refine AW.callVI (d' := 0) [.inl (-4)] [] ⟨_, rfl⟩ f_6_no v_6_no l_6_69 ⟨rfl, by decide⟩ rfl (Nat.le_of_ble_eq_true rfl) rfl (Nat.le_of_ble_eq_true rfl) (c6_no4 σ) ?_
      rintro _ _ ⟨rfl, rfl⟩
      refine AW.reti ⟨_, rfl⟩ rfl ?_
      exact ⟨rfuF F 4, (by unfold feedsP; rw [twoP_0, maxP_e4 ev1]; try rfl), RepD_ref hF hD (by decide) (by decide)⟩
    · skip
      refine AW.run 3 [] (3, [(0, .inr (.inr (5, 0, 0))), (1, .inl 0), (2, .inl v)], [.inl 1, .inl 0, .inl 0], σ) [] rfl ?_ ?_
      · exact trivial
      refine AW.callSI (d' := 0) [.inl 0, .inl 0, .inl 1] [] ⟨_, rfl⟩ f_6_isIn s_6_isIn l_6_80 rfl (Nat.le_of_ble_eq_true rfl) rfl (Nat.le_of_ble_eq_true rfl) (c6_isIn1 0 0 1 (by decide) (by decide) σ) ?_
      rintro _ _ ⟨rfl, rfl⟩
      refine AW.run 4 [true] (18, [(0, .inr (.inr (5, 0, 0))), (1, .inl 0), (2, .inl v)], [.inl 9, .inl 0, .inl v], σ) [icP .ne (1 : Int32) 0] rfl ?_ ?_
      · exact allP1 (by decide : (¬ (1 : Int32) = 0))
      refine AW.callSI (d' := 0) [.inl v, .inl 0, .inl 9] [] ⟨_, rfl⟩ f_6_bound s_6_bound l_6_62 rfl (Nat.le_of_ble_eq_true rfl) rfl (Nat.le_of_ble_eq_true rfl) (c6_bound6 v 0 9 h4v1 h6v1 σ) ?_
      rintro _ _ ⟨rfl, rfl⟩
      refine AW.run 5 [false] (28, [(3, .inl (-6)), (0, .inr (.inr (5, 0, 0))), (1, .inl 0), (2, .inl v)], [.inl (-6), .inr (.inr (5, 0, 0))], σ) [¬ icP .eq ((-6) : Int32) 0] rfl ?_ ?_
      · exact allP1 (by decide : ¬ (((-6) : Int32) = 0))
      refine AW.callVI (d' := 0) [.inl (-6)] [] ⟨_, rfl⟩ f_6_no v_6_no l_6_69 ⟨rfl, by decide⟩ rfl (Nat.le_of_ble_eq_true rfl) rfl (Nat.le_of_ble_eq_true rfl) (c6_no6 σ) ?_
      rintro _ _ ⟨rfl, rfl⟩
      refine AW.reti ⟨_, rfl⟩ rfl ?_
      exact ⟨rfuF F 6, (by unfold feedsP; rw [twoP_0, maxP_e6 ev1]; try rfl), RepD_ref hF hD (by decide) (by decide)⟩
    · skip
      have nlv1 : ¬ nI v1 < 0 := nlt0 (by omega)
      have nmv1 : ¬ nI 9 < nI v1 := nI_nlt hv1 (by decide)
      refine AW.run 3 [] (3, [(0, .inr (.inr (5, 0, 0))), (1, .inl 0), (2, .inl (nI v1))], [.inl 1, .inl 0, .inl 0], σ) [] rfl ?_ ?_
      · exact trivial
      refine AW.callSI (d' := 0) [.inl 0, .inl 0, .inl 1] [] ⟨_, rfl⟩ f_6_isIn s_6_isIn l_6_80 rfl (Nat.le_of_ble_eq_true rfl) rfl (Nat.le_of_ble_eq_true rfl) (c6_isIn1 0 0 1 (by decide) (by decide) σ) ?_
      rintro _ _ ⟨rfl, rfl⟩
      refine AW.run 4 [true] (18, [(0, .inr (.inr (5, 0, 0))), (1, .inl 0), (2, .inl (nI v1))], [.inl 9, .inl 0, .inl (nI v1)], σ) [icP .ne (1 : Int32) 0] rfl ?_ ?_
      · exact allP1 (by decide : (¬ (1 : Int32) = 0))
      refine AW.callSI (d' := 0) [.inl (nI v1), .inl 0, .inl 9] [] ⟨_, rfl⟩ f_6_bound s_6_bound l_6_62 rfl (Nat.le_of_ble_eq_true rfl) rfl (Nat.le_of_ble_eq_true rfl) (c6_bound0 (nI v1) 0 9 nlv1 nmv1 σ) ?_
      rintro _ _ ⟨rfl, rfl⟩
      refine AW.run 4 [true] (33, [(3, .inl 0), (0, .inr (.inr (5, 0, 0))), (1, .inl 0), (2, .inl (nI v1))], [.inr (.inr (5, 0, 0))], σ) [icP .eq (0 : Int32) 0] rfl ?_ ?_
      · exact allP1 (by decide : ((0 : Int32) = 0))
      refine AW.callVV (d' := 2) [] [] ⟨_, rfl⟩ f_6_keepsBack v_6_keepsBack l_6_191 ⟨rfl, by decide⟩ rfl (Nat.le_of_ble_eq_true rfl) rfl (Nat.le_of_ble_eq_true rfl) (c6_keepsBack F.1 σ hR hn8 F.2.2.2.2.1.1 F.2.2.2.2.1.2 hF.2.2.2.1.1 (fun j hj => (hF.2.2.2.1.2 j hj).1.1) hD.2.2.2.2.1) ?_
      rintro τ ⟨k1, hR1, k3⟩
      obtain ⟨hD1, hX1⟩ := RepD_keep hF hD k1 hR1 k3
      have hF1 := FOK_keep hF
      refine AW.run 4 [false] (44, [(3, .inl 0), (0, .inr (.inr (5, 0, 0))), (1, .inl 0), (2, .inl (nI v1))], [.inl (τ 5 0 0 8)], τ) [¬ icP .ne (0 : Int32) 0] rfl ?_ ?_
      · exact allP1 (by decide : ¬ (¬ (0 : Int32) = 0))
      rw [hR1.1.2.1]
      refine AW.run 1 [] (51, [(3, .inl 0), (0, .inr (.inr (5, 0, 0))), (1, .inl 0), (2, .inl (nI v1))], [.inl (nI (Su F.1))], τ) [] rfl ?_ ?_
      · exact trivial
      refine AW.run 6 [false] (62, [(4, .inl (nI (Su F.1))), (3, .inl 0), (0, .inr (.inr (5, 0, 0))), (1, .inl 0), (2, .inl (nI v1))], [], (setM τ 5 0 0 8 (nI v1))) [¬ icP .ne (0 : Int32) 0] rfl ?_ ?_
      · exact allP1 (by decide : ¬ (¬ (0 : Int32) = 0))
      obtain ⟨τ189, e189⟩ : ∃ x, x = setM τ 5 0 0 8 (nI v1) := ⟨_, rfl⟩
      rw [← e189]
      have r189 : RepM (τ189 5 0) (withU F.1 v1 (She F.1)) := by rw [e189]; exact (repM_s (u := v1) hR1)
      have f189 : Fr P1 τ τ189 := by rw [e189]; exact fr_set fr_rfl (by unfold P1; omega)
      refine AW.run 1 [] (70, [(4, .inl (nI (Su F.1))), (3, .inl 0), (0, .inr (.inr (5, 0, 0))), (1, .inl 0), (2, .inl (nI v1))], [], τ189) [] rfl ?_ ?_
      · exact trivial
      refine AW.run 1 [] (72, [(4, .inl (nI (Su F.1))), (3, .inl 0), (0, .inr (.inr (5, 0, 0))), (1, .inl 0), (2, .inl (nI v1))], [.inl (nI (Su F.1))], τ189) [] rfl ?_ ?_
      · exact trivial
      refine AW.reti ⟨_, rfl⟩ rfl ?_
      exact ⟨_, (by unfold feedsP; rw [twoP_0, maxP_e0 ev1 (by omega)]; try rfl), QD_chg hF1 hD1 hX1 (fr_trans fr_rfl (fr_12 f189)) r189⟩
  by_cases h1w : w = 1
  · subst h1w
    rcases fMax_or 9 (by decide) v with ⟨h4v1, ev1⟩ | ⟨h4v1, h6v1, ev1⟩ | ⟨v1, hv1, rfl, ev1⟩
    · skip
      refine AW.run 3 [] (3, [(0, .inr (.inr (5, 0, 0))), (1, .inl 1), (2, .inl v)], [.inl 1, .inl 0, .inl 1], σ) [] rfl ?_ ?_
      · exact trivial
      refine AW.callSI (d' := 0) [.inl 1, .inl 0, .inl 1] [] ⟨_, rfl⟩ f_6_isIn s_6_isIn l_6_80 rfl (Nat.le_of_ble_eq_true rfl) rfl (Nat.le_of_ble_eq_true rfl) (c6_isIn1 1 0 1 (by decide) (by decide) σ) ?_
      rintro _ _ ⟨rfl, rfl⟩
      refine AW.run 4 [true] (18, [(0, .inr (.inr (5, 0, 0))), (1, .inl 1), (2, .inl v)], [.inl 9, .inl 0, .inl v], σ) [icP .ne (1 : Int32) 0] rfl ?_ ?_
      · exact allP1 (by decide : (¬ (1 : Int32) = 0))
      refine AW.callSI (d' := 0) [.inl v, .inl 0, .inl 9] [] ⟨_, rfl⟩ f_6_bound s_6_bound l_6_62 rfl (Nat.le_of_ble_eq_true rfl) rfl (Nat.le_of_ble_eq_true rfl) (c6_bound4 v 0 9 h4v1 σ) ?_
      rintro _ _ ⟨rfl, rfl⟩
      refine AW.run 5 [false] (28, [(3, .inl (-4)), (0, .inr (.inr (5, 0, 0))), (1, .inl 1), (2, .inl v)], [.inl (-4), .inr (.inr (5, 0, 0))], σ) [¬ icP .eq ((-4) : Int32) 0] rfl ?_ ?_
      · exact allP1 (by decide : ¬ (((-4) : Int32) = 0))
      refine AW.callVI (d' := 0) [.inl (-4)] [] ⟨_, rfl⟩ f_6_no v_6_no l_6_69 ⟨rfl, by decide⟩ rfl (Nat.le_of_ble_eq_true rfl) rfl (Nat.le_of_ble_eq_true rfl) (c6_no4 σ) ?_
      rintro _ _ ⟨rfl, rfl⟩
      refine AW.reti ⟨_, rfl⟩ rfl ?_
      exact ⟨rfuF F 4, (by unfold feedsP; rw [twoP_1, maxP_e4 ev1]; try rfl), RepD_ref hF hD (by decide) (by decide)⟩
    · skip
      refine AW.run 3 [] (3, [(0, .inr (.inr (5, 0, 0))), (1, .inl 1), (2, .inl v)], [.inl 1, .inl 0, .inl 1], σ) [] rfl ?_ ?_
      · exact trivial
      refine AW.callSI (d' := 0) [.inl 1, .inl 0, .inl 1] [] ⟨_, rfl⟩ f_6_isIn s_6_isIn l_6_80 rfl (Nat.le_of_ble_eq_true rfl) rfl (Nat.le_of_ble_eq_true rfl) (c6_isIn1 1 0 1 (by decide) (by decide) σ) ?_
      rintro _ _ ⟨rfl, rfl⟩
      refine AW.run 4 [true] (18, [(0, .inr (.inr (5, 0, 0))), (1, .inl 1), (2, .inl v)], [.inl 9, .inl 0, .inl v], σ) [icP .ne (1 : Int32) 0] rfl ?_ ?_
      · exact allP1 (by decide : (¬ (1 : Int32) = 0))
      refine AW.callSI (d' := 0) [.inl v, .inl 0, .inl 9] [] ⟨_, rfl⟩ f_6_bound s_6_bound l_6_62 rfl (Nat.le_of_ble_eq_true rfl) rfl (Nat.le_of_ble_eq_true rfl) (c6_bound6 v 0 9 h4v1 h6v1 σ) ?_
      rintro _ _ ⟨rfl, rfl⟩
      refine AW.run 5 [false] (28, [(3, .inl (-6)), (0, .inr (.inr (5, 0, 0))), (1, .inl 1), (2, .inl v)], [.inl (-6), .inr (.inr (5, 0, 0))], σ) [¬ icP .eq ((-6) : Int32) 0] rfl ?_ ?_
      · exact allP1 (by decide : ¬ (((-6) : Int32) = 0))
      refine AW.callVI (d' := 0) [.inl (-6)] [] ⟨_, rfl⟩ f_6_no v_6_no l_6_69 ⟨rfl, by decide⟩ rfl (Nat.le_of_ble_eq_true rfl) rfl (Nat.le_of_ble_eq_true rfl) (c6_no6 σ) ?_
      rintro _ _ ⟨rfl, rfl⟩
      refine AW.reti ⟨_, rfl⟩ rfl ?_
      exact ⟨rfuF F 6, (by unfold feedsP; rw [twoP_1, maxP_e6 ev1]; try rfl), RepD_ref hF hD (by decide) (by decide)⟩
    · skip
      have nlv1 : ¬ nI v1 < 0 := nlt0 (by omega)
      have nmv1 : ¬ nI 9 < nI v1 := nI_nlt hv1 (by decide)
      refine AW.run 3 [] (3, [(0, .inr (.inr (5, 0, 0))), (1, .inl 1), (2, .inl (nI v1))], [.inl 1, .inl 0, .inl 1], σ) [] rfl ?_ ?_
      · exact trivial
      refine AW.callSI (d' := 0) [.inl 1, .inl 0, .inl 1] [] ⟨_, rfl⟩ f_6_isIn s_6_isIn l_6_80 rfl (Nat.le_of_ble_eq_true rfl) rfl (Nat.le_of_ble_eq_true rfl) (c6_isIn1 1 0 1 (by decide) (by decide) σ) ?_
      rintro _ _ ⟨rfl, rfl⟩
      refine AW.run 4 [true] (18, [(0, .inr (.inr (5, 0, 0))), (1, .inl 1), (2, .inl (nI v1))], [.inl 9, .inl 0, .inl (nI v1)], σ) [icP .ne (1 : Int32) 0] rfl ?_ ?_
      · exact allP1 (by decide : (¬ (1 : Int32) = 0))
      refine AW.callSI (d' := 0) [.inl (nI v1), .inl 0, .inl 9] [] ⟨_, rfl⟩ f_6_bound s_6_bound l_6_62 rfl (Nat.le_of_ble_eq_true rfl) rfl (Nat.le_of_ble_eq_true rfl) (c6_bound0 (nI v1) 0 9 nlv1 nmv1 σ) ?_
      rintro _ _ ⟨rfl, rfl⟩
      refine AW.run 4 [true] (33, [(3, .inl 0), (0, .inr (.inr (5, 0, 0))), (1, .inl 1), (2, .inl (nI v1))], [.inr (.inr (5, 0, 0))], σ) [icP .eq (0 : Int32) 0] rfl ?_ ?_
      · exact allP1 (by decide : ((0 : Int32) = 0))
      refine AW.callVV (d' := 2) [] [] ⟨_, rfl⟩ f_6_keepsBack v_6_keepsBack l_6_191 ⟨rfl, by decide⟩ rfl (Nat.le_of_ble_eq_true rfl) rfl (Nat.le_of_ble_eq_true rfl) (c6_keepsBack F.1 σ hR hn8 F.2.2.2.2.1.1 F.2.2.2.2.1.2 hF.2.2.2.1.1 (fun j hj => (hF.2.2.2.1.2 j hj).1.1) hD.2.2.2.2.1) ?_
      rintro τ ⟨k1, hR1, k3⟩
      obtain ⟨hD1, hX1⟩ := RepD_keep hF hD k1 hR1 k3
      have hF1 := FOK_keep hF
      refine AW.run 4 [true] (51, [(3, .inl 0), (0, .inr (.inr (5, 0, 0))), (1, .inl 1), (2, .inl (nI v1))], [.inl (τ 5 0 0 9)], τ) [icP .ne (1 : Int32) 0] rfl ?_ ?_
      · exact allP1 (by decide : (¬ (1 : Int32) = 0))
      rw [hR1.1.2.2.1]
      refine AW.run 6 [true] (70, [(4, .inl (nI (She F.1))), (3, .inl 0), (0, .inr (.inr (5, 0, 0))), (1, .inl 1), (2, .inl (nI v1))], [], (setM τ 5 0 0 9 (nI v1))) [icP .ne (1 : Int32) 0] rfl ?_ ?_
      · exact allP1 (by decide : (¬ (1 : Int32) = 0))
      obtain ⟨τ190, e190⟩ : ∃ x, x = setM τ 5 0 0 9 (nI v1) := ⟨_, rfl⟩
      rw [← e190]
      have r190 : RepM (τ190 5 0) (withU F.1 (Su F.1) v1) := by rw [e190]; exact (repM_h (u := v1) hR1)
      have f190 : Fr P1 τ τ190 := by rw [e190]; exact fr_set fr_rfl (by unfold P1; omega)
      refine AW.run 1 [] (72, [(4, .inl (nI (She F.1))), (3, .inl 0), (0, .inr (.inr (5, 0, 0))), (1, .inl 1), (2, .inl (nI v1))], [.inl (nI (She F.1))], τ190) [] rfl ?_ ?_
      · exact trivial
      refine AW.reti ⟨_, rfl⟩ rfl ?_
      exact ⟨_, (by unfold feedsP; rw [twoP_1, maxP_e0 ev1 (by omega)]; try rfl), QD_chg hF1 hD1 hX1 (fr_trans fr_rfl (fr_12 f190)) r190⟩
  · skip
    refine AW.run 3 [] (3, [(0, .inr (.inr (5, 0, 0))), (1, .inl w), (2, .inl v)], [.inl 1, .inl 0, .inl w], σ) [] rfl ?_ ?_
    · exact trivial
    refine AW.callSI (d' := 0) [.inl w, .inl 0, .inl 1] [] ⟨_, rfl⟩ f_6_isIn s_6_isIn l_6_80 rfl (Nat.le_of_ble_eq_true rfl) rfl (Nat.le_of_ble_eq_true rfl) (c6_isIn0 w 0 1 (in_01 h0w h1w) σ) ?_
    rintro _ _ ⟨rfl, rfl⟩
    refine AW.run 8 [false, false] (28, [(3, .inl (-2)), (0, .inr (.inr (5, 0, 0))), (1, .inl w), (2, .inl v)], [.inl (-2), .inr (.inr (5, 0, 0))], σ) [¬ icP .ne (0 : Int32) 0, ¬ icP .eq ((-2) : Int32) 0] rfl ?_ ?_
    · exact ⟨(by decide : ¬ (¬ (0 : Int32) = 0)), allP1 (by decide : ¬ (((-2) : Int32) = 0))⟩
    refine AW.callVI (d' := 0) [.inl (-2)] [] ⟨_, rfl⟩ f_6_no v_6_no l_6_69 ⟨rfl, by decide⟩ rfl (Nat.le_of_ble_eq_true rfl) rfl (Nat.le_of_ble_eq_true rfl) (c6_no2 σ) ?_
    rintro _ _ ⟨rfl, rfl⟩
    refine AW.reti ⟨_, rfl⟩ rfl ?_
    exact ⟨rfuF F 2, (by unfold feedsP; rw [twoP_N h0w h1w]; try rfl), RepD_ref hF hD (by decide) (by decide)⟩
set_option maxHeartbeats 4000000 in
set_option maxRecDepth 100000 in
theorem d6_outs (F : Gv) (σ : St) (hD : RepD σ F) (hG : GOK F) (b : Int32) : Ct M6_outs 4 [.inr (.inr (5, 0, 0)), .inl b] σ (QD σ (outsP F b)) := by
  refine Ct.of f_6_outs (Nat.le_of_ble_eq_true rfl) ?_
  show AW M6_outs 4 _ (0, [(0, .inr (.inr (5, 0, 0))), (1, .inl b)], [], σ)
  have hF : FOK F := hG.1
  have hR : RepM (σ 5 0) F.1 := hD.1
  have hO : SOK F.1 := hF.1.1
  have hn8 : Sn F.1 ≤ 8 := hO.1
  have e7 := hR.1.1
  rcases bot_or (Sn F.1) b with ⟨k, hk, rfl⟩ | hnok
  · skip
    have h8k : k < 8 := by omega
    cases hw : Sw F.1 k
    · skip
      refine AW.run 2 [] (2, [(0, .inr (.inr (5, 0, 0))), (1, .inl (nI k))], [.inl (nI k), .inr (.inr (5, 0, 0))], σ) [] rfl ?_ ?_
      · exact trivial
      refine AW.callVI (d' := 1) [.inl (nI k)] [] ⟨_, rfl⟩ f_6_notWhole v_6_notWhole l_6_194 ⟨rfl, by decide⟩ rfl (Nat.le_of_ble_eq_true rfl) rfl (Nat.le_of_ble_eq_true rfl) (c6_notWhole0 F.1 σ hR hO k hk hw) ?_
      rintro _ _ ⟨rfl, rfl⟩
      refine AW.run 5 [false] (12, [(2, .inl (-3)), (0, .inr (.inr (5, 0, 0))), (1, .inl (nI k))], [.inl (-3), .inr (.inr (5, 0, 0))], σ) [¬ icP .eq ((-3) : Int32) 0] rfl ?_ ?_
      · exact allP1 (by decide : ¬ (((-3) : Int32) = 0))
      refine AW.callVI (d' := 0) [.inl (-3)] [] ⟨_, rfl⟩ f_6_no v_6_no l_6_69 ⟨rfl, by decide⟩ rfl (Nat.le_of_ble_eq_true rfl) rfl (Nat.le_of_ble_eq_true rfl) (c6_no3 σ) ?_
      rintro _ _ ⟨rfl, rfl⟩
      refine AW.reti ⟨_, rfl⟩ rfl ?_
      exact ⟨rfuF F 3, (by unfold outsP; rw [botP_some hk hn8, whP_f hw]; try rfl), RepD_ref hF hD (by decide) (by decide)⟩
    · skip
      refine AW.run 2 [] (2, [(0, .inr (.inr (5, 0, 0))), (1, .inl (nI k))], [.inl (nI k), .inr (.inr (5, 0, 0))], σ) [] rfl ?_ ?_
      · exact trivial
      refine AW.callVI (d' := 1) [.inl (nI k)] [] ⟨_, rfl⟩ f_6_notWhole v_6_notWhole l_6_194 ⟨rfl, by decide⟩ rfl (Nat.le_of_ble_eq_true rfl) rfl (Nat.le_of_ble_eq_true rfl) (c6_notWhole1 F.1 σ hR hO k hk hw) ?_
      rintro _ _ ⟨rfl, rfl⟩
      refine AW.run 4 [true] (17, [(2, .inl 0), (0, .inr (.inr (5, 0, 0))), (1, .inl (nI k))], [.inr (.inr (5, 0, 0))], σ) [icP .eq (0 : Int32) 0] rfl ?_ ?_
      · exact allP1 (by decide : ((0 : Int32) = 0))
      refine AW.callVV (d' := 2) [] [] ⟨_, rfl⟩ f_6_keepsBack v_6_keepsBack l_6_191 ⟨rfl, by decide⟩ rfl (Nat.le_of_ble_eq_true rfl) rfl (Nat.le_of_ble_eq_true rfl) (c6_keepsBack F.1 σ hR hn8 F.2.2.2.2.1.1 F.2.2.2.2.1.2 hF.2.2.2.1.1 (fun j hj => (hF.2.2.2.1.2 j hj).1.1) hD.2.2.2.2.1) ?_
      rintro τ ⟨k1, hR1, k3⟩
      obtain ⟨hD1, hX1⟩ := RepD_keep hF hD k1 hR1 k3
      have hF1 := FOK_keep hF
      refine AW.run 4 [] (26, [(2, .inl 0), (0, .inr (.inr (5, 0, 0))), (1, .inl (nI k))], [.inl (τ 5 0 5 (nI k).toNatClampNeg)], τ) [vp_in (nI k) 8] rfl ?_ ?_
      · exact allP1 (by first | assumption | exact in8 (by omega))
      rw [cl8 (k := k) h8k, (hR1.2 k hk).2.2.2.1]
      refine AW.run 6 [] (34, [(3, .inl (nI (Sq F.1 k))), (2, .inl 0), (0, .inr (.inr (5, 0, 0))), (1, .inl (nI k))], [], (setM τ 5 0 5 (nI k).toNatClampNeg 0)) [vp_in (nI k) 8] rfl ?_ ?_
      · exact allP1 (by first | assumption | exact in8 (by omega))
      rw [cl8 (k := k) h8k]
      obtain ⟨τ191, e191⟩ : ∃ x, x = setM τ 5 0 5 k 0 := ⟨_, rfl⟩
      rw [← e191]
      have r191 : RepM (τ191 5 0) (withQ F.1 (fu (Sq F.1) k 0)) := by rw [e191]; exact (repM_q (q := 0) hR1)
      have f191 : Fr P1 τ τ191 := by rw [e191]; exact fr_set fr_rfl (by unfold P1; omega)
      refine AW.run 1 [] (35, [(3, .inl (nI (Sq F.1 k))), (2, .inl 0), (0, .inr (.inr (5, 0, 0))), (1, .inl (nI k))], [.inl (nI (Sq F.1 k))], τ191) [] rfl ?_ ?_
      · exact trivial
      refine AW.reti ⟨_, rfl⟩ rfl ?_
      exact ⟨_, (by unfold outsP; rw [botP_some hk hn8, whP_t hw]; try rfl), QD_chg hF1 hD1 hX1 (fr_trans fr_rfl (fr_12 f191)) r191⟩
  · skip
    refine AW.run 2 [] (2, [(0, .inr (.inr (5, 0, 0))), (1, .inl b)], [.inl b, .inr (.inr (5, 0, 0))], σ) [] rfl ?_ ?_
    · exact trivial
    refine AW.callVI (d' := 1) [.inl b] [] ⟨_, rfl⟩ f_6_notWhole v_6_notWhole l_6_194 ⟨rfl, by decide⟩ rfl (Nat.le_of_ble_eq_true rfl) rfl (Nat.le_of_ble_eq_true rfl) (c6_notWholeN (Sn F.1) σ e7 hn8 b hnok) ?_
    rintro _ _ ⟨rfl, rfl⟩
    refine AW.run 5 [false] (12, [(2, .inl (-1)), (0, .inr (.inr (5, 0, 0))), (1, .inl b)], [.inl (-1), .inr (.inr (5, 0, 0))], σ) [¬ icP .eq ((-1) : Int32) 0] rfl ?_ ?_
    · exact allP1 (by decide : ¬ (((-1) : Int32) = 0))
    refine AW.callVI (d' := 0) [.inl (-1)] [] ⟨_, rfl⟩ f_6_no v_6_no l_6_69 ⟨rfl, by decide⟩ rfl (Nat.le_of_ble_eq_true rfl) rfl (Nat.le_of_ble_eq_true rfl) (c6_no1 σ) ?_
    rintro _ _ ⟨rfl, rfl⟩
    refine AW.reti ⟨_, rfl⟩ rfl ?_
    exact ⟨rfuF F 1, (by unfold outsP; rw [botP_none hnok]; try rfl), RepD_ref hF hD (by decide) (by decide)⟩
set_option maxHeartbeats 4000000 in
set_option maxRecDepth 100000 in
theorem d6_towels (F : Gv) (σ : St) (hD : RepD σ F) (hG : GOK F) (b : Int32) : Ct M6_towels 4 [.inr (.inr (5, 0, 0)), .inl b] σ (QD σ (towelsP F b)) := by
  refine Ct.of f_6_towels (Nat.le_of_ble_eq_true rfl) ?_
  show AW M6_towels 4 _ (0, [(0, .inr (.inr (5, 0, 0))), (1, .inl b)], [], σ)
  have hF : FOK F := hG.1
  have hR : RepM (σ 5 0) F.1 := hD.1
  have hO : SOK F.1 := hF.1.1
  have hn8 : Sn F.1 ≤ 8 := hO.1
  have e7 := hR.1.1
  rcases bot_or (Sn F.1) b with ⟨k, hk, rfl⟩ | hnok
  · skip
    have h8k : k < 8 := by omega
    cases hw : Sw F.1 k
    · skip
      refine AW.run 2 [] (2, [(0, .inr (.inr (5, 0, 0))), (1, .inl (nI k))], [.inl (nI k), .inr (.inr (5, 0, 0))], σ) [] rfl ?_ ?_
      · exact trivial
      refine AW.callVI (d' := 1) [.inl (nI k)] [] ⟨_, rfl⟩ f_6_notWhole v_6_notWhole l_6_194 ⟨rfl, by decide⟩ rfl (Nat.le_of_ble_eq_true rfl) rfl (Nat.le_of_ble_eq_true rfl) (c6_notWhole0 F.1 σ hR hO k hk hw) ?_
      rintro _ _ ⟨rfl, rfl⟩
      refine AW.run 5 [false] (12, [(2, .inl (-3)), (0, .inr (.inr (5, 0, 0))), (1, .inl (nI k))], [.inl (-3), .inr (.inr (5, 0, 0))], σ) [¬ icP .eq ((-3) : Int32) 0] rfl ?_ ?_
      · exact allP1 (by decide : ¬ (((-3) : Int32) = 0))
      refine AW.callVI (d' := 0) [.inl (-3)] [] ⟨_, rfl⟩ f_6_no v_6_no l_6_69 ⟨rfl, by decide⟩ rfl (Nat.le_of_ble_eq_true rfl) rfl (Nat.le_of_ble_eq_true rfl) (c6_no3 σ) ?_
      rintro _ _ ⟨rfl, rfl⟩
      refine AW.reti ⟨_, rfl⟩ rfl ?_
      exact ⟨rfuF F 3, (by unfold towelsP; rw [botP_some hk hn8, whP_f hw]; try rfl), RepD_ref hF hD (by decide) (by decide)⟩
    · skip
      refine AW.run 2 [] (2, [(0, .inr (.inr (5, 0, 0))), (1, .inl (nI k))], [.inl (nI k), .inr (.inr (5, 0, 0))], σ) [] rfl ?_ ?_
      · exact trivial
      refine AW.callVI (d' := 1) [.inl (nI k)] [] ⟨_, rfl⟩ f_6_notWhole v_6_notWhole l_6_194 ⟨rfl, by decide⟩ rfl (Nat.le_of_ble_eq_true rfl) rfl (Nat.le_of_ble_eq_true rfl) (c6_notWhole1 F.1 σ hR hO k hk hw) ?_
      rintro _ _ ⟨rfl, rfl⟩
      refine AW.run 4 [true] (17, [(2, .inl 0), (0, .inr (.inr (5, 0, 0))), (1, .inl (nI k))], [.inr (.inr (5, 0, 0))], σ) [icP .eq (0 : Int32) 0] rfl ?_ ?_
      · exact allP1 (by decide : ((0 : Int32) = 0))
      refine AW.callVV (d' := 2) [] [] ⟨_, rfl⟩ f_6_keepsBack v_6_keepsBack l_6_191 ⟨rfl, by decide⟩ rfl (Nat.le_of_ble_eq_true rfl) rfl (Nat.le_of_ble_eq_true rfl) (c6_keepsBack F.1 σ hR hn8 F.2.2.2.2.1.1 F.2.2.2.2.1.2 hF.2.2.2.1.1 (fun j hj => (hF.2.2.2.1.2 j hj).1.1) hD.2.2.2.2.1) ?_
      rintro τ ⟨k1, hR1, k3⟩
      obtain ⟨hD1, hX1⟩ := RepD_keep hF hD k1 hR1 k3
      have hF1 := FOK_keep hF
      refine AW.run 8 [] (32, [(2, .inl 0), (0, .inr (.inr (5, 0, 0))), (1, .inl (nI k))], [.inl (τ 5 0 7 (nI k).toNatClampNeg), .inl 1, .inl (nI k), .inr (.inr (5, 0, 7))], τ) [vp_in (nI k) 8] rfl ?_ ?_
      · exact allP1 (by first | assumption | exact in8 (by omega))
      rw [cl8 (k := k) h8k, (hR1.2 k hk).2.2.2.2.2]
      refine AW.run 1 [] (33, [(2, .inl 0), (0, .inr (.inr (5, 0, 0))), (1, .inl (nI k))], [.inl (1 - (if Stw F.1 k = true then 1 else 0)), .inl (nI k), .inr (.inr (5, 0, 7))], τ) [] rfl ?_ ?_
      · exact trivial
      rw [tw_1]
      refine AW.run 1 [] (34, [(2, .inl 0), (0, .inr (.inr (5, 0, 0))), (1, .inl (nI k))], [], (setM τ 5 0 7 (nI k).toNatClampNeg (if (!(Stw F.1 k)) = true then 1 else 0))) [vp_in (nI k) 8] rfl ?_ ?_
      · exact allP1 (by first | assumption | exact in8 (by omega))
      rw [cl8 (k := k) h8k]
      obtain ⟨τ192, e192⟩ : ∃ x, x = setM τ 5 0 7 k (if (!(Stw F.1 k)) = true then 1 else 0) := ⟨_, rfl⟩
      rw [← e192]
      have r192 : RepM (τ192 5 0) (withT F.1 (fu (Stw F.1) k (!(Stw F.1 k)))) := by rw [e192]; exact (repM_t (b := !(Stw F.1 k)) hR1)
      have f192 : Fr P1 τ τ192 := by rw [e192]; exact fr_set fr_rfl (by unfold P1; omega)
      refine AW.run 4 [] (40, [(2, .inl 0), (0, .inr (.inr (5, 0, 0))), (1, .inl (nI k))], [.inl (τ192 5 0 7 (nI k).toNatClampNeg)], τ192) [vp_in (nI k) 8] rfl ?_ ?_
      · exact allP1 (by first | assumption | exact in8 (by omega))
      rw [cl8 (k := k) h8k, (r192.2 k hk).2.2.2.2.2]
      rw [tw_2]
      refine AW.reti ⟨_, rfl⟩ rfl ?_
      exact ⟨_, (by unfold towelsP; rw [botP_some hk hn8, whP_t hw]; try rfl), QD_chg hF1 hD1 hX1 (fr_trans fr_rfl (fr_12 f192)) r192⟩
  · skip
    refine AW.run 2 [] (2, [(0, .inr (.inr (5, 0, 0))), (1, .inl b)], [.inl b, .inr (.inr (5, 0, 0))], σ) [] rfl ?_ ?_
    · exact trivial
    refine AW.callVI (d' := 1) [.inl b] [] ⟨_, rfl⟩ f_6_notWhole v_6_notWhole l_6_194 ⟨rfl, by decide⟩ rfl (Nat.le_of_ble_eq_true rfl) rfl (Nat.le_of_ble_eq_true rfl) (c6_notWholeN (Sn F.1) σ e7 hn8 b hnok) ?_
    rintro _ _ ⟨rfl, rfl⟩
    refine AW.run 5 [false] (12, [(2, .inl (-1)), (0, .inr (.inr (5, 0, 0))), (1, .inl b)], [.inl (-1), .inr (.inr (5, 0, 0))], σ) [¬ icP .eq ((-1) : Int32) 0] rfl ?_ ?_
    · exact allP1 (by decide : ¬ (((-1) : Int32) = 0))
    refine AW.callVI (d' := 0) [.inl (-1)] [] ⟨_, rfl⟩ f_6_no v_6_no l_6_69 ⟨rfl, by decide⟩ rfl (Nat.le_of_ble_eq_true rfl) rfl (Nat.le_of_ble_eq_true rfl) (c6_no1 σ) ?_
    rintro _ _ ⟨rfl, rfl⟩
    refine AW.reti ⟨_, rfl⟩ rfl ?_
    exact ⟨rfuF F 1, (by unfold towelsP; rw [botP_none hnok]; try rfl), RepD_ref hF hD (by decide) (by decide)⟩
set_option maxHeartbeats 4000000 in
set_option maxRecDepth 100000 in
theorem d6_days (F : Gv) (σ : St) (hD : RepD σ F) (hG : GOK F) (n : Int32) : Ct M6_days 7 [.inr (.inr (5, 0, 0)), .inl n] σ (QD σ (daysP F n)) := by
  refine Ct.of f_6_days (Nat.le_of_ble_eq_true rfl) ?_
  show AW M6_days 7 _ (0, [(0, .inr (.inr (5, 0, 0))), (1, .inl n)], [], σ)
  have hF : FOK F := hG.1
  have hR : RepM (σ 5 0) F.1 := hD.1
  have hO : SOK F.1 := hF.1.1
  have hn8 : Sn F.1 ≤ 8 := hO.1
  have e7 := hR.1.1
  rcases lt1_or n with hl | ⟨n1, h1n1, h31, rfl, hl⟩
  · skip
    refine AW.run 3 [] (4, [(0, .inr (.inr (5, 0, 0))), (1, .inl n)], [.inl 60, .inl 1, .inl n], σ) [] rfl ?_ ?_
    · exact trivial
    refine AW.callSI (d' := 0) [.inl n, .inl 1, .inl 60] [] ⟨_, rfl⟩ f_6_bound s_6_bound l_6_62 rfl (Nat.le_of_ble_eq_true rfl) rfl (Nat.le_of_ble_eq_true rfl) (c6_bound4 n 1 60 hl σ) ?_
    rintro _ _ ⟨rfl, rfl⟩
    refine AW.run 7 [true, false] (33, [(2, .inl (-4)), (0, .inr (.inr (5, 0, 0))), (1, .inl n)], [.inl (-4), .inr (.inr (5, 0, 0))], σ) [icP .ne ((-4) : Int32) 0, ¬ icP .eq ((-4) : Int32) 0] rfl ?_ ?_
    · exact ⟨(by decide : (¬ ((-4) : Int32) = 0)), allP1 (by decide : ¬ (((-4) : Int32) = 0))⟩
    refine AW.callVI (d' := 0) [.inl (-4)] [] ⟨_, rfl⟩ f_6_no v_6_no l_6_69 ⟨rfl, by decide⟩ rfl (Nat.le_of_ble_eq_true rfl) rfl (Nat.le_of_ble_eq_true rfl) (c6_no4 σ) ?_
    rintro _ _ ⟨rfl, rfl⟩
    refine AW.reti ⟨_, rfl⟩ rfl ?_
    exact ⟨rfuF F 4, (by unfold daysP; rw [if_pos hl]; try rfl), RepD_ref hF hD (by decide) (by decide)⟩
  · skip
    by_cases hn1 : n1 ≤ 60
    · skip
      have hd9 := hF.1.2
      by_cases h999 : Sd F.1 + n1 ≤ 999
      · skip
        refine AW.run 3 [] (4, [(0, .inr (.inr (5, 0, 0))), (1, .inl (nI n1))], [.inl 60, .inl 1, .inl (nI n1)], σ) [] rfl ?_ ?_
        · exact trivial
        refine AW.callSI (d' := 0) [.inl (nI n1), .inl 1, .inl 60] [] ⟨_, rfl⟩ f_6_bound s_6_bound l_6_62 rfl (Nat.le_of_ble_eq_true rfl) rfl (Nat.le_of_ble_eq_true rfl) (c6_bound0 (nI n1) 1 60 hl (nI_nlt (a := 60) hn1 (by decide)) σ) ?_
        rintro _ _ ⟨rfl, rfl⟩
        refine AW.run 5 [false] (16, [(2, .inl 0), (0, .inr (.inr (5, 0, 0))), (1, .inl (nI n1))], [.inl (σ 5 0 0 10)], σ) [¬ icP .ne (0 : Int32) 0] rfl ?_ ?_
        · exact allP1 (by decide : ¬ (¬ (0 : Int32) = 0))
        rw [hR.1.2.2.2]
        refine AW.run 2 [] (18, [(2, .inl 0), (0, .inr (.inr (5, 0, 0))), (1, .inl (nI n1))], [.inl ((nI (Sd F.1)) + (nI n1))], σ) [] rfl ?_ ?_
        · exact trivial
        rw [nI_add]
        refine AW.run 5 [true, true] (38, [(2, .inl 0), (0, .inr (.inr (5, 0, 0))), (1, .inl (nI n1))], [.inr (.inr (5, 0, 0))], σ) [icP .le (nI (Sd F.1 + n1)) 999, icP .eq (0 : Int32) 0] rfl ?_ ?_
        · exact ⟨(nI_le h999 (by decide)), allP1 (by decide : ((0 : Int32) = 0))⟩
        refine AW.callVV (d' := 2) [] [] ⟨_, rfl⟩ f_6_keepsBack v_6_keepsBack l_6_191 ⟨rfl, by decide⟩ rfl (Nat.le_of_ble_eq_true rfl) rfl (Nat.le_of_ble_eq_true rfl) (c6_keepsBack F.1 σ hR hn8 F.2.2.2.2.1.1 F.2.2.2.2.1.2 hF.2.2.2.1.1 (fun j hj => (hF.2.2.2.1.2 j hj).1.1) hD.2.2.2.2.1) ?_
        rintro τ ⟨k1, hR1, k3⟩
        obtain ⟨hD1, hX1⟩ := RepD_keep hF hD k1 hR1 k3
        have hF1 := FOK_keep hF
        refine AW.run 2 [] (43, [(2, .inl 0), (0, .inr (.inr (5, 0, 0))), (1, .inl (nI n1))], [.inl (nI n1), .inr (.inr (5, 0, 0))], τ) [] rfl ?_ ?_
        · exact trivial
        refine AW.callVV (d' := 5) [.inl (nI n1)] [] ⟨_, rfl⟩ f_6_goesAll v_6_goesAll l_6_114 ⟨rfl, by decide⟩ rfl (Nat.le_of_ble_eq_true rfl) rfl (Nat.le_of_ble_eq_true rfl) (c6_goesAll F.1 τ hR1 hO n1 (by omega)) ?_
        rintro τ193 ⟨f193, r193⟩
        refine AW.run 1 [] (47, [(2, .inl 0), (0, .inr (.inr (5, 0, 0))), (1, .inl (nI n1))], [.inr (.inr (5, 0, 0))], τ193) [] rfl ?_ ?_
        · exact trivial
        refine AW.callVI (d' := 1) [] [] ⟨_, rfl⟩ f_6_whole v_6_whole l_6_197 ⟨rfl, by decide⟩ rfl (Nat.le_of_ble_eq_true rfl) rfl (Nat.le_of_ble_eq_true rfl) (c6_whole (passS n1 F.1) τ193 r193 (SOK_pass n1 hO)) ?_
        rintro _ _ ⟨rfl, rfl⟩
        refine AW.callSI (d' := 0) [.inl (bI (Sw (passS n1 F.1)))] [] ⟨_, rfl⟩ f_6_bits s_6_bits l_6_200 rfl (Nat.le_of_ble_eq_true rfl) rfl (Nat.le_of_ble_eq_true rfl) (c6_bits (bI (Sw (passS n1 F.1))) τ193) ?_
        rintro _ _ ⟨rfl, rfl⟩
        rw [btV_bI]
        refine AW.reti ⟨_, rfl⟩ rfl ?_
        exact ⟨_, (by unfold daysP; rw [if_neg hl, maxP_e0 (fM0 (M := 60) hn1 (by decide)) (by omega), if_pos h999]; try rfl), QD_chg hF1 hD1 hX1 (fr_trans fr_rfl (fr_12 f193)) r193⟩
      · skip
        refine AW.run 3 [] (4, [(0, .inr (.inr (5, 0, 0))), (1, .inl (nI n1))], [.inl 60, .inl 1, .inl (nI n1)], σ) [] rfl ?_ ?_
        · exact trivial
        refine AW.callSI (d' := 0) [.inl (nI n1), .inl 1, .inl 60] [] ⟨_, rfl⟩ f_6_bound s_6_bound l_6_62 rfl (Nat.le_of_ble_eq_true rfl) rfl (Nat.le_of_ble_eq_true rfl) (c6_bound0 (nI n1) 1 60 hl (nI_nlt (a := 60) hn1 (by decide)) σ) ?_
        rintro _ _ ⟨rfl, rfl⟩
        refine AW.run 5 [false] (16, [(2, .inl 0), (0, .inr (.inr (5, 0, 0))), (1, .inl (nI n1))], [.inl (σ 5 0 0 10)], σ) [¬ icP .ne (0 : Int32) 0] rfl ?_ ?_
        · exact allP1 (by decide : ¬ (¬ (0 : Int32) = 0))
        rw [hR.1.2.2.2]
        refine AW.run 2 [] (18, [(2, .inl 0), (0, .inr (.inr (5, 0, 0))), (1, .inl (nI n1))], [.inl ((nI (Sd F.1)) + (nI n1))], σ) [] rfl ?_ ?_
        · exact trivial
        rw [nI_add]
        refine AW.run 8 [false, false] (33, [(2, .inl (-6)), (0, .inr (.inr (5, 0, 0))), (1, .inl (nI n1))], [.inl (-6), .inr (.inr (5, 0, 0))], σ) [¬ icP .le (nI (Sd F.1 + n1)) 999, ¬ icP .eq ((-6) : Int32) 0] rfl ?_ ?_
        · exact ⟨(nle_lit (b := 999) (by omega) (by omega)), allP1 (by decide : ¬ (((-6) : Int32) = 0))⟩
        refine AW.callVI (d' := 0) [.inl (-6)] [] ⟨_, rfl⟩ f_6_no v_6_no l_6_69 ⟨rfl, by decide⟩ rfl (Nat.le_of_ble_eq_true rfl) rfl (Nat.le_of_ble_eq_true rfl) (c6_no6 σ) ?_
        rintro _ _ ⟨rfl, rfl⟩
        refine AW.reti ⟨_, rfl⟩ rfl ?_
        exact ⟨rfuF F 6, (by unfold daysP; rw [if_neg hl, maxP_e0 (fM0 (M := 60) hn1 (by decide)) (by omega), if_neg h999]; try rfl), RepD_ref hF hD (by decide) (by decide)⟩
    · skip
      refine AW.run 3 [] (4, [(0, .inr (.inr (5, 0, 0))), (1, .inl (nI n1))], [.inl 60, .inl 1, .inl (nI n1)], σ) [] rfl ?_ ?_
      · exact trivial
      refine AW.callSI (d' := 0) [.inl (nI n1), .inl 1, .inl 60] [] ⟨_, rfl⟩ f_6_bound s_6_bound l_6_62 rfl (Nat.le_of_ble_eq_true rfl) rfl (Nat.le_of_ble_eq_true rfl) (c6_bound6 (nI n1) 1 60 hl (nI_lt (a := 60) (by omega) (by omega)) σ) ?_
      rintro _ _ ⟨rfl, rfl⟩
      refine AW.run 7 [true, false] (33, [(2, .inl (-6)), (0, .inr (.inr (5, 0, 0))), (1, .inl (nI n1))], [.inl (-6), .inr (.inr (5, 0, 0))], σ) [icP .ne ((-6) : Int32) 0, ¬ icP .eq ((-6) : Int32) 0] rfl ?_ ?_
      · exact ⟨(by decide : (¬ ((-6) : Int32) = 0)), allP1 (by decide : ¬ (((-6) : Int32) = 0))⟩
      refine AW.callVI (d' := 0) [.inl (-6)] [] ⟨_, rfl⟩ f_6_no v_6_no l_6_69 ⟨rfl, by decide⟩ rfl (Nat.le_of_ble_eq_true rfl) rfl (Nat.le_of_ble_eq_true rfl) (c6_no6 σ) ?_
      rintro _ _ ⟨rfl, rfl⟩
      refine AW.reti ⟨_, rfl⟩ rfl ?_
      exact ⟨rfuF F 6, (by unfold daysP; rw [if_neg hl, maxP_e6 (fM6 (M := 60) (by omega) h31)]; try rfl), RepD_ref hF hD (by decide) (by decide)⟩
set_option maxHeartbeats 4000000 in
set_option maxRecDepth 100000 in
theorem d6_back (F : Gv) (σ : St) (hD : RepD σ F) (hG : GOK F) : Ct M6_back 3 [.inr (.inr (5, 0, 0))] σ (QD σ (backP F)) := by
  refine Ct.of f_6_back (Nat.le_of_ble_eq_true rfl) ?_
  show AW M6_back 3 _ (0, [(0, .inr (.inr (5, 0, 0)))], [], σ)
  have hF : FOK F := hG.1
  have hR : RepM (σ 5 0) F.1 := hD.1
  have hO : SOK F.1 := hF.1.1
  have hn8 : Sn F.1 ≤ 8 := hO.1
  have e7 := hR.1.1
  have hb22 := hD.2.2.2.2.1.1
  have hbK := hD.2.2.2.2.1.2
  cases hB : F.2.2.2.2.1.1 with
  | zero =>
    rw [hB] at hb22 hbK
    refine AW.run 2 [] (4, [(0, .inr (.inr (5, 0, 0)))], [.inl (σ 5 0 0 22)], σ) [] rfl ?_ ?_
    · exact trivial
    rw [hb22]
    refine AW.run 3 [false] (10, [(0, .inr (.inr (5, 0, 0)))], [.inl (-3), .inr (.inr (5, 0, 0))], σ) [¬ icP .ne (nI 0) 0] rfl ?_ ?_
    · exact allP1 (fun q => q rfl)
    refine AW.callVI (d' := 0) [.inl (-3)] [] ⟨_, rfl⟩ f_6_no v_6_no l_6_69 ⟨rfl, by decide⟩ rfl (Nat.le_of_ble_eq_true rfl) rfl (Nat.le_of_ble_eq_true rfl) (c6_no3 σ) ?_
    rintro _ _ ⟨rfl, rfl⟩
    refine AW.reti ⟨_, rfl⟩ rfl ?_
    exact ⟨rfuF F 3, (by unfold backP; rw [hB]; try rfl), RepD_ref hF hD (by decide) (by decide)⟩
  | succ b =>
    rw [hB] at hb22 hbK
    have hb8 := hF.2.2.2.1.1
    rw [hB] at hb8
    have hp0 := hF.2.2.2.1.2 0 (by rw [hB]; exact Nat.succ_pos b)
    have hps : ∀ j, j < b + 1 → Sn (F.2.2.2.2.1.2 j) ≤ 8 := fun j hj => (hF.2.2.2.1.2 j (by rw [hB]; exact hj)).1.1
    refine AW.run 2 [] (4, [(0, .inr (.inr (5, 0, 0)))], [.inl (σ 5 0 0 22)], σ) [] rfl ?_ ?_
    · exact trivial
    rw [hb22]
    refine AW.run 4 [true] (19, [(0, .inr (.inr (5, 0, 0)))], [.inl (σ 5 0 0 22), .inr (.inr (5, 0, 0))], σ) [icP .ne (nI (b + 1)) 0] rfl ?_ ?_
    · exact allP1 (nI_s0 (by omega))
    rw [hb22]
    refine AW.run 2 [] (21, [(0, .inr (.inr (5, 0, 0)))], [.inl ((nI (b + 1)) - 1), .inr (.inr (5, 0, 0))], σ) [] rfl ?_ ?_
    · exact trivial
    rw [nI_prd]
    refine AW.run 1 [] (24, [(0, .inr (.inr (5, 0, 0)))], [], (setM σ 5 0 0 22 (nI b))) [] rfl ?_ ?_
    · exact trivial
    obtain ⟨υ, eυ⟩ : ∃ x, x = (setM σ 5 0 0 22 (nI b)) := ⟨_, rfl⟩
    rw [← eυ]
    have hυ : Fr (fun j k => j = 0 ∧ k = 22) σ υ := by rw [eυ]; exact fr_set fr_rfl ⟨rfl, rfl⟩
    have u22 : υ 5 0 0 22 = nI b := by rw [eυ, setM_at, if_pos ⟨rfl, rfl⟩]
    have hK0 : RepK (υ 5 0) (3 + b) (F.2.2.2.2.1.2 0) := repK_fr (hps 0 (Nat.succ_pos b)) hυ (fun k _ _ q => by omega) (by have := hbK 0 (Nat.succ_pos b); rw [show 3 + (b + 1 - 1 - 0) = 3 + b by omega] at this; exact this)
    refine AW.run 4 [] (30, [(0, .inr (.inr (5, 0, 0)))], [.inl (υ 5 0 0 22), .inl 3, .inr (.inr (5, 0, 0))], υ) [] rfl ?_ ?_
    · exact trivial
    rw [u22]
    refine AW.run 1 [] (31, [(0, .inr (.inr (5, 0, 0)))], [.inl (3 + (nI b)), .inr (.inr (5, 0, 0))], υ) [] rfl ?_ ?_
    · exact trivial
    rw [show (3 : Int32) + nI b = nI (3 + b) from nI_add 3 b]
    refine AW.run 1 [] (32, [(0, .inr (.inr (5, 0, 0)))], [.inl 0, .inl (nI (3 + b)), .inr (.inr (5, 0, 0))], υ) [] rfl ?_ ?_
    · exact trivial
    refine AW.callVV (d' := 1) [.inl (nI (3 + b)), .inl 0] [] ⟨_, rfl⟩ f_6_passesAll v_6_passesAll l_6_134 ⟨rfl, by decide⟩ rfl (Nat.le_of_ble_eq_true rfl) rfl (Nat.le_of_ble_eq_true rfl) (c6_passesAllP (3 + b) (by omega) (F.2.2.2.2.1.2 0) υ hK0 (hps 0 (Nat.succ_pos b))) ?_
    rintro τ ⟨w1, w2⟩
    refine AW.run 2 [] (39, [(0, .inr (.inr (5, 0, 0)))], [.inl (τ 5 0 0 22)], τ) [] rfl ?_ ?_
    · exact trivial
    rw [fr_at w1 (by unfold Pp; omega), u22]
    refine AW.reti ⟨_, rfl⟩ rfl ?_
    refine ⟨_, (by unfold backP; rw [hB]; try rfl), RepD_bk (P := fun j k => (j = 0 ∧ k = 22) ∨ Pp j k) hF hD (fr_trans (fr_mono hυ (fun j k q => Or.inl q)) (fr_mono w1 (fun j k q => Or.inr q))) (fun j k q => by unfold Pp at q; omega) w2 ⟨by rw [fr_at w1 (by unfold Pp; omega)]; exact u22, fun j hj => ?_⟩⟩
    refine repK_fr (hps (j + 1) (by omega)) w1 (fun k _ _ q => by unfold Pp at q; omega) (repK_fr (hps (j + 1) (by omega)) hυ (fun k _ _ q => by omega) ?_)
    have := hbK (j + 1) (by omega)
    rw [show b + 1 - 1 - (j + 1) = b - 1 - j by omega] at this
    exact this
set_option maxHeartbeats 4000000 in
set_option maxRecDepth 100000 in
theorem d6_image (F : Gv) (σ : St) (hD : RepD σ F) (hG : GOK F) : Ct M6_image 2 [.inr (.inr (5, 0, 0))] σ (QD σ (imageP F)) := by
  refine Ct.of f_6_image (Nat.le_of_ble_eq_true rfl) ?_
  show AW M6_image 2 _ (0, [(0, .inr (.inr (5, 0, 0)))], [], σ)
  have hF : FOK F := hG.1
  have hR : RepM (σ 5 0) F.1 := hD.1
  have hO : SOK F.1 := hF.1.1
  have hn8 : Sn F.1 ≤ 8 := hO.1
  have e7 := hR.1.1
  refine AW.run 6 [] (8, [(0, .inr (.inr (5, 0, 0)))], [.inl 1, .inl 0, .inr (.inr (5, 0, 0))], (setM σ 5 0 0 19 1)) [(1 : Int32) = 0 ∨ (1 : Int32) = 1] rfl ?_ ?_
  · exact allP1 (by decide)
  refine AW.callVV (d' := 1) [.inl 0, .inl 1] [] ⟨_, rfl⟩ f_6_passesAll v_6_passesAll l_6_134 ⟨rfl, by decide⟩ rfl (Nat.le_of_ble_eq_true rfl) rfl (Nat.le_of_ble_eq_true rfl) (c6_passesAllK 0 (by decide) F.1 (setM σ 5 0 0 19 1) (repM_fr (P := fun j k => j = 0 ∧ k = 19) (fr_set fr_rfl ⟨rfl, rfl⟩) (fun j k q => by omega) hR) hn8) ?_
  rintro τ ⟨w1, w2, w3⟩
  refine AW.run 2 [] (15, [(0, .inr (.inr (5, 0, 0)))], [.inl (τ 5 0 0 10)], τ) [] rfl ?_ ?_
  · exact trivial
  rw [w2.1.2.2.2]
  refine AW.reti ⟨_, rfl⟩ rfl ?_
  exact ⟨_, rfl, RepD_img hF hD w1 w2 w3⟩
set_option maxHeartbeats 4000000 in
set_option maxRecDepth 100000 in
theorem d6_restore (F : Gv) (σ : St) (hD : RepD σ F) (hG : GOK F) : Ct M6_restore 3 [.inr (.inr (5, 0, 0))] σ (QD σ (restoreP F)) := by
  refine Ct.of f_6_restore (Nat.le_of_ble_eq_true rfl) ?_
  show AW M6_restore 3 _ (0, [(0, .inr (.inr (5, 0, 0)))], [], σ)
  have hF : FOK F := hG.1
  have hR : RepM (σ 5 0) F.1 := hD.1
  have hO : SOK F.1 := hF.1.1
  have hn8 : Sn F.1 ≤ 8 := hO.1
  have e7 := hR.1.1
  have h6 := hD.2.2.2.2.2
  cases hI : F.2.2.2.2.2 with
  | none =>
    have h6 : σ 5 0 0 19 = 0 := by rw [hI] at h6; exact h6
    refine AW.run 2 [] (4, [(0, .inr (.inr (5, 0, 0)))], [.inl (σ 5 0 0 19)], σ) [] rfl ?_ ?_
    · exact trivial
    rw [h6]
    refine AW.run 3 [false] (10, [(0, .inr (.inr (5, 0, 0)))], [.inl (-3), .inr (.inr (5, 0, 0))], σ) [¬ icP .ne (0 : Int32) 0] rfl ?_ ?_
    · exact allP1 (by decide : ¬ (¬ (0 : Int32) = 0))
    refine AW.callVI (d' := 0) [.inl (-3)] [] ⟨_, rfl⟩ f_6_no v_6_no l_6_69 ⟨rfl, by decide⟩ rfl (Nat.le_of_ble_eq_true rfl) rfl (Nat.le_of_ble_eq_true rfl) (c6_no3 σ) ?_
    rintro _ _ ⟨rfl, rfl⟩
    refine AW.reti ⟨_, rfl⟩ rfl ?_
    exact ⟨rfuF F 3, (by unfold restoreP; rw [hI]; try rfl), RepD_ref hF hD (by decide) (by decide)⟩
  | some I9 =>
    obtain ⟨h6, h7⟩ : σ 5 0 0 19 = 1 ∧ RepK (σ 5 0) 0 I9 := by rw [hI] at h6; exact h6
    have hok := hF.2.2.2.2 I9 hI
    refine AW.run 2 [] (4, [(0, .inr (.inr (5, 0, 0)))], [.inl (σ 5 0 0 19)], σ) [] rfl ?_ ?_
    · exact trivial
    rw [h6]
    refine AW.run 4 [true] (17, [(0, .inr (.inr (5, 0, 0)))], [.inl 0, .inl 0, .inr (.inr (5, 0, 0))], σ) [icP .ne (1 : Int32) 0] rfl ?_ ?_
    · exact allP1 (by decide : (¬ (1 : Int32) = 0))
    refine AW.callVV (d' := 1) [.inl 0, .inl 0] [] ⟨_, rfl⟩ f_6_passesAll v_6_passesAll l_6_134 ⟨rfl, by decide⟩ rfl (Nat.le_of_ble_eq_true rfl) rfl (Nat.le_of_ble_eq_true rfl) (c6_passesAllP 0 (by omega) I9 σ h7 hok.1.1) ?_
    rintro τ ⟨w1, w2⟩
    refine AW.run 5 [] (29, [(0, .inr (.inr (5, 0, 0)))], [.inl ((setM τ 5 0 0 22 0) 5 0 0 10)], (setM τ 5 0 0 22 0)) [] rfl ?_ ?_
    · exact trivial
    rw [setM_at, if_neg (by omega), w2.1.2.2.2]
    refine AW.reti ⟨_, rfl⟩ rfl ?_
    have hA3 := RepD_bk (b := 0) (ps := F.2.2.2.2.1.2) (P := fun j k => (j = 0 ∧ k = 22) ∨ Pp j k) hF hD (fr_set (fr_mono w1 (fun j k q => Or.inr q)) (Or.inl ⟨rfl, rfl⟩)) (fun j k q => by unfold Pp at q; omega) (repM_fr (P := fun j k => j = 0 ∧ k = 22) (fr_set fr_rfl ⟨rfl, rfl⟩) (fun j k q => by omega) w2) (RepB_0 (by rw [setM_at, if_pos ⟨rfl, rfl⟩]))
    rw [hI] at hA3
    exact ⟨_, (by unfold restoreP; rw [hI]; try rfl), hA3⟩
set_option maxHeartbeats 4000000 in
set_option maxRecDepth 100000 in
theorem d6_feed (F : Gv) (σ : St) (hD : RepD σ F) (hG : GOK F) (x : Int32) : Ct M6_feed 1 [.inr (.inr (5, 0, 0)), .inl x] σ (QD σ (feedP F x)) := by
  refine Ct.of f_6_feed (Nat.le_of_ble_eq_true rfl) ?_
  show AW M6_feed 1 _ (0, [(0, .inr (.inr (5, 0, 0))), (1, .inl x)], [], σ)
  have hF : FOK F := hG.1
  have hR : RepM (σ 5 0) F.1 := hD.1
  have hO : SOK F.1 := hF.1.1
  have hn8 : Sn F.1 ≤ 8 := hO.1
  have e7 := hR.1.1
  rcases fMax_or 255 (by decide) x with ⟨h4v1, ev1⟩ | ⟨h4v1, h6v1, ev1⟩ | ⟨v1, hv1, rfl, ev1⟩
  · skip
    refine AW.run 3 [] (5, [(0, .inr (.inr (5, 0, 0))), (1, .inl x)], [.inl 255, .inl 0, .inl x], σ) [] rfl ?_ ?_
    · exact trivial
    refine AW.callSI (d' := 0) [.inl x, .inl 0, .inl 255] [] ⟨_, rfl⟩ f_6_bound s_6_bound l_6_62 rfl (Nat.le_of_ble_eq_true rfl) rfl (Nat.le_of_ble_eq_true rfl) (c6_bound4 x 0 255 h4v1 σ) ?_
    rintro _ _ ⟨rfl, rfl⟩
    refine AW.run 7 [true, false] (31, [(2, .inl (-4)), (0, .inr (.inr (5, 0, 0))), (1, .inl x)], [.inl (-4), .inr (.inr (5, 0, 0))], σ) [icP .ne ((-4) : Int32) 0, ¬ icP .eq ((-4) : Int32) 0] rfl ?_ ?_
    · exact ⟨(by decide : (¬ ((-4) : Int32) = 0)), allP1 (by decide : ¬ (((-4) : Int32) = 0))⟩
    refine AW.callVI (d' := 0) [.inl (-4)] [] ⟨_, rfl⟩ f_6_no v_6_no l_6_69 ⟨rfl, by decide⟩ rfl (Nat.le_of_ble_eq_true rfl) rfl (Nat.le_of_ble_eq_true rfl) (c6_no4 σ) ?_
    rintro _ _ ⟨rfl, rfl⟩
    refine AW.reti ⟨_, rfl⟩ rfl ?_
    exact ⟨rfuF F 4, (by unfold feedP; rw [maxP_e4 ev1]; try rfl), RepD_ref hF hD (by decide) (by decide)⟩
  · skip
    refine AW.run 3 [] (5, [(0, .inr (.inr (5, 0, 0))), (1, .inl x)], [.inl 255, .inl 0, .inl x], σ) [] rfl ?_ ?_
    · exact trivial
    refine AW.callSI (d' := 0) [.inl x, .inl 0, .inl 255] [] ⟨_, rfl⟩ f_6_bound s_6_bound l_6_62 rfl (Nat.le_of_ble_eq_true rfl) rfl (Nat.le_of_ble_eq_true rfl) (c6_bound6 x 0 255 h4v1 h6v1 σ) ?_
    rintro _ _ ⟨rfl, rfl⟩
    refine AW.run 7 [true, false] (31, [(2, .inl (-6)), (0, .inr (.inr (5, 0, 0))), (1, .inl x)], [.inl (-6), .inr (.inr (5, 0, 0))], σ) [icP .ne ((-6) : Int32) 0, ¬ icP .eq ((-6) : Int32) 0] rfl ?_ ?_
    · exact ⟨(by decide : (¬ ((-6) : Int32) = 0)), allP1 (by decide : ¬ (((-6) : Int32) = 0))⟩
    refine AW.callVI (d' := 0) [.inl (-6)] [] ⟨_, rfl⟩ f_6_no v_6_no l_6_69 ⟨rfl, by decide⟩ rfl (Nat.le_of_ble_eq_true rfl) rfl (Nat.le_of_ble_eq_true rfl) (c6_no6 σ) ?_
    rintro _ _ ⟨rfl, rfl⟩
    refine AW.reti ⟨_, rfl⟩ rfl ?_
    exact ⟨rfuF F 6, (by unfold feedP; rw [maxP_e6 ev1]; try rfl), RepD_ref hF hD (by decide) (by decide)⟩
  · skip
    have nlv1 : ¬ nI v1 < 0 := nlt0 (by omega)
    have nmv1 : ¬ nI 255 < nI v1 := nI_nlt hv1 (by decide)
    have hl96 := hF.2.1.1
    by_cases h96 : F.2.1.1 < 96
    · skip
      refine AW.run 3 [] (5, [(0, .inr (.inr (5, 0, 0))), (1, .inl (nI v1))], [.inl 255, .inl 0, .inl (nI v1)], σ) [] rfl ?_ ?_
      · exact trivial
      refine AW.callSI (d' := 0) [.inl (nI v1), .inl 0, .inl 255] [] ⟨_, rfl⟩ f_6_bound s_6_bound l_6_62 rfl (Nat.le_of_ble_eq_true rfl) rfl (Nat.le_of_ble_eq_true rfl) (c6_bound0 (nI v1) 0 255 nlv1 nmv1 σ) ?_
      rintro _ _ ⟨rfl, rfl⟩
      refine AW.run 5 [false] (17, [(2, .inl 0), (0, .inr (.inr (5, 0, 0))), (1, .inl (nI v1))], [.inl (σ 5 0 0 15)], σ) [¬ icP .ne (0 : Int32) 0] rfl ?_ ?_
      · exact allP1 (by decide : ¬ (¬ (0 : Int32) = 0))
      rw [hD.2.1.1]
      refine AW.run 8 [true, true] (43, [(2, .inl 0), (0, .inr (.inr (5, 0, 0))), (1, .inl (nI v1))], [.inl (σ 5 0 0 15), .inr (.inr (5, 0, 12))], σ) [icP .ne (nI F.2.1.1) 96, icP .eq (0 : Int32) 0] rfl ?_ ?_
      · exact ⟨(fun q => absurd (nI_lit (n := 96) q (by omega) (by decide)) (by omega)), allP1 (by decide : ((0 : Int32) = 0))⟩
      rw [hD.2.1.1]
      refine AW.run 5 [] (50, [(2, .inl 0), (0, .inr (.inr (5, 0, 0))), (1, .inl (nI v1))], [.inl ((setM σ 5 0 12 (nI F.2.1.1).toNatClampNeg (nI v1)) 5 0 0 15), .inr (.inr (5, 0, 0))], (setM σ 5 0 12 (nI F.2.1.1).toNatClampNeg (nI v1))) [vp_in (nI F.2.1.1) 96] rfl ?_ ?_
      · exact allP1 (by exact vp_in_nI (by omega) (by decide))
      rw [show (setM σ 5 0 12 (nI F.2.1.1).toNatClampNeg (nI v1)) 5 0 0 15 = nI F.2.1.1 from by rw [setM_at, if_neg (by omega)]; exact hD.2.1.1]
      refine AW.run 2 [] (52, [(2, .inl 0), (0, .inr (.inr (5, 0, 0))), (1, .inl (nI v1))], [.inl ((nI F.2.1.1) + 1), .inr (.inr (5, 0, 0))], (setM σ 5 0 12 (nI F.2.1.1).toNatClampNeg (nI v1))) [] rfl ?_ ?_
      · exact trivial
      rw [nI_1 F.2.1.1]
      refine AW.run 3 [] (59, [(2, .inl 0), (0, .inr (.inr (5, 0, 0))), (1, .inl (nI v1))], [.inl ((setM (setM σ 5 0 12 (nI F.2.1.1).toNatClampNeg (nI v1)) 5 0 0 15 (nI (F.2.1.1 + 1))) 5 0 0 15)], (setM (setM σ 5 0 12 (nI F.2.1.1).toNatClampNeg (nI v1)) 5 0 0 15 (nI (F.2.1.1 + 1)))) [] rfl ?_ ?_
      · exact trivial
      rw [show (setM (setM σ 5 0 12 (nI F.2.1.1).toNatClampNeg (nI v1)) 5 0 0 15 (nI (F.2.1.1 + 1))) 5 0 0 15 = nI (F.2.1.1 + 1) from by rw [setM_at, if_pos ⟨rfl, rfl⟩]]
      refine AW.reti ⟨_, rfl⟩ rfl ?_
      exact ⟨_, (by unfold feedP; rw [maxP_e0 ev1 (by omega), if_pos h96]; try rfl), RepD_tape hF hD h96 rfl⟩
    · skip
      refine AW.run 3 [] (5, [(0, .inr (.inr (5, 0, 0))), (1, .inl (nI v1))], [.inl 255, .inl 0, .inl (nI v1)], σ) [] rfl ?_ ?_
      · exact trivial
      refine AW.callSI (d' := 0) [.inl (nI v1), .inl 0, .inl 255] [] ⟨_, rfl⟩ f_6_bound s_6_bound l_6_62 rfl (Nat.le_of_ble_eq_true rfl) rfl (Nat.le_of_ble_eq_true rfl) (c6_bound0 (nI v1) 0 255 nlv1 nmv1 σ) ?_
      rintro _ _ ⟨rfl, rfl⟩
      refine AW.run 5 [false] (17, [(2, .inl 0), (0, .inr (.inr (5, 0, 0))), (1, .inl (nI v1))], [.inl (σ 5 0 0 15)], σ) [¬ icP .ne (0 : Int32) 0] rfl ?_ ?_
      · exact allP1 (by decide : ¬ (¬ (0 : Int32) = 0))
      rw [hD.2.1.1]
      refine AW.run 8 [false, false] (31, [(2, .inl (-6)), (0, .inr (.inr (5, 0, 0))), (1, .inl (nI v1))], [.inl (-6), .inr (.inr (5, 0, 0))], σ) [¬ icP .ne (nI F.2.1.1) 96, ¬ icP .eq ((-6) : Int32) 0] rfl ?_ ?_
      · exact ⟨(fun q => q (congrArg nI (show F.2.1.1 = 96 by omega))), allP1 (by decide : ¬ (((-6) : Int32) = 0))⟩
      refine AW.callVI (d' := 0) [.inl (-6)] [] ⟨_, rfl⟩ f_6_no v_6_no l_6_69 ⟨rfl, by decide⟩ rfl (Nat.le_of_ble_eq_true rfl) rfl (Nat.le_of_ble_eq_true rfl) (c6_no6 σ) ?_
      rintro _ _ ⟨rfl, rfl⟩
      refine AW.reti ⟨_, rfl⟩ rfl ?_
      exact ⟨rfuF F 6, (by unfold feedP; rw [maxP_e0 ev1 (by omega), if_neg h96]; try rfl), RepD_ref hF hD (by decide) (by decide)⟩
theorem cnt_r {F : Gv} {w : Int32} {j : Nat} (hj : j < 6) (h : w = nI (11 + j)) : countP F w = (F.2.2.2.1 (1 + j), F) ∧ w - 10 = nI (1 + j) := by
  subst h
  have e : nI (11 + j) - 10 = nI (1 + j) := by
    have h9 : ∀ j < 6, nI (11 + j) - 10 = nI (1 + j) := by decide
    exact h9 j hj
  have h1 : ∀ j < 6, 1 ≤ nI (1 + j) ∧ nI (1 + j) < 7 := by decide
  have hne : ∀ k, k ≤ 8 → ¬ nI (11 + j) = nI k := fun k hk q => by have := nI_lit q (by omega) (by omega); omega
  refine ⟨?_, e⟩
  unfold countP
  rw [if_neg (show ¬ nI (11 + j) = 0 from hne 0 (by decide)), if_neg (show ¬ nI (11 + j) = 1 from hne 1 (by decide)), if_neg (show ¬ nI (11 + j) = 2 from hne 2 (by decide)), if_neg (show ¬ nI (11 + j) = 3 from hne 3 (by decide)), if_neg (show ¬ nI (11 + j) = 4 from hne 4 (by decide)), if_neg (show ¬ nI (11 + j) = 5 from hne 5 (by decide)), if_neg (show ¬ nI (11 + j) = 6 from hne 6 (by decide)), if_neg (show ¬ nI (11 + j) = 7 from hne 7 (by decide)), if_neg (show ¬ nI (11 + j) = 8 from hne 8 (by decide)), e]
  unfold rtoldN
  rw [if_pos (h1 j hj), nI_clamp (by omega)]
theorem cnt_n {F : Gv} {w : Int32} (h : w < 11 ∨ 16 < w) : rtoldN F (w - 10) = -9 := by
  unfold rtoldN
  refine if_neg (fun q => ?_)
  obtain ⟨q1, q2⟩ := q
  rw [Int32.le_iff_toInt_le] at q1
  rw [Int32.lt_iff_toInt_lt] at q2
  rw [Int32.lt_iff_toInt_lt, Int32.lt_iff_toInt_lt] at h
  have e1 : (1 : Int32).toInt = 1 := by decide
  have e7 : (7 : Int32).toInt = 7 := by decide
  have e11 : (11 : Int32).toInt = 11 := by decide
  have e16 : (16 : Int32).toInt = 16 := by decide
  have e10 : (10 : Int32).toInt = 10 := by decide
  have hs : (w - 10).toInt = (w.toInt - 10).bmod (2 ^ 32) := by rw [Int32.toInt_sub, e10]
  have hl := Int32.toInt_lt w
  have hg := Int32.le_toInt w
  have hb : (w.toInt - 10).bmod (2 ^ 32) = w.toInt - 10 ∨ (w.toInt - 10).bmod (2 ^ 32) = w.toInt - 10 + 2 ^ 32 := by
    by_cases hlow : w.toInt - 10 < -(2 ^ 31)
    · right
      rw [← Int.add_bmod_right, Int.bmod_eq_of_le (by omega) (by omega)]; rfl
    · left
      exact Int.bmod_eq_of_le (by omega) (by omega)
  omega
theorem in_1116 (w : Int32) : (∃ j, j < 6 ∧ w = nI (11 + j)) ∨ (w < 11 ∨ 16 < w) := by
  by_cases h : w < 11 ∨ 16 < w
  · exact Or.inr h
  · left
    have h1 : ¬ w < 11 := fun q => h (Or.inl q)
    have h2 : ¬ 16 < w := fun q => h (Or.inr q)
    have h0 : ¬ w < 0 := by
      intro q
      rw [Int32.lt_iff_toInt_lt] at h1 q
      have e0 : (0 : Int32).toInt = 0 := by decide
      have e1 : (11 : Int32).toInt = 11 := by decide
      omega
    obtain ⟨k, hk, rfl⟩ := nI_of h0
    have a1 : ¬ k < 11 := fun q => h1 (nI_lt (b := 11) q (by decide))
    have a2 : ¬ 16 < k := fun q => h2 (nI_lt (a := 16) q hk)
    exact ⟨k - 11, by omega, by rw [show 11 + (k - 11) = k by omega]⟩

set_option maxHeartbeats 4000000 in
set_option maxRecDepth 100000 in
theorem d6_count (F : Gv) (σ : St) (hD : RepD σ F) (hG : GOK F) (w : Int32) : Ct M6_count 2 [.inr (.inr (5, 0, 0)), .inl w] σ (QD σ (countP F w)) := by
  refine Ct.of f_6_count (Nat.le_of_ble_eq_true rfl) ?_
  show AW M6_count 2 _ (0, [(0, .inr (.inr (5, 0, 0))), (1, .inl w)], [], σ)
  have hF : FOK F := hG.1
  have hR : RepM (σ 5 0) F.1 := hD.1
  have hO : SOK F.1 := hF.1.1
  have hn8 : Sn F.1 ≤ 8 := hO.1
  have e7 := hR.1.1
  rcases in_1116 w with ⟨j, hj, hw⟩ | hno
  · obtain ⟨hc1, hc2⟩ := cnt_r (F := F) hj hw
    refine AW.run 3 [] (5, [(0, .inr (.inr (5, 0, 0))), (1, .inl w)], [.inl 16, .inl 11, .inl w], σ) [] rfl ?_ ?_
    · exact trivial
    refine AW.callSI (d' := 0) [.inl w, .inl 11, .inl 16] [] ⟨_, rfl⟩ f_6_isIn s_6_isIn l_6_80 rfl (Nat.le_of_ble_eq_true rfl) rfl (Nat.le_of_ble_eq_true rfl) (c6_isIn1 w 11 16 (by rw [hw]; exact nI_le (a := 11) (by omega) (by omega)) (by rw [hw]; exact nI_le (b := 16) (by omega) (by decide)) σ) ?_
    rintro _ _ ⟨rfl, rfl⟩
    refine AW.run 6 [false] (19, [(0, .inr (.inr (5, 0, 0))), (1, .inl w)], [.inl (w - 10), .inr (.inr (5, 0, 1))], σ) [¬ icP .eq (1 : Int32) 0] rfl ?_ ?_
    · exact allP1 (by decide : ¬ ((1 : Int32) = 0))
    rw [hc2]
    refine AW.run 1 [] (20, [(0, .inr (.inr (5, 0, 0))), (1, .inl w)], [.inl (σ 5 0 1 (nI (1 + j)).toNatClampNeg)], σ) [vp_in (nI (1 + j)) 7] rfl ?_ ?_
    · exact allP1 (by unfold vp_in; first | (rw [hc2]; exact vp_in_nI (by omega) (by decide)) | exact vp_in_nI (by omega) (by decide))
    rw [nI_clamp (n := 1 + j) (by omega), hD.2.2.2.1 (1 + j) (by omega) (by omega)]
    refine AW.reti ⟨_, rfl⟩ rfl ?_
    exact ⟨F, hc1, QD_fr hF fr_rfl hD hR⟩
  · skip
    by_cases hw0 : w = 0
    · subst hw0
      refine AW.run 3 [] (5, [(0, .inr (.inr (5, 0, 0))), (1, .inl 0)], [.inl 16, .inl 11, .inl 0], σ) [] rfl ?_ ?_
      · exact trivial
      refine AW.callSI (d' := 0) [.inl 0, .inl 11, .inl 16] [] ⟨_, rfl⟩ f_6_isIn s_6_isIn l_6_80 rfl (Nat.le_of_ble_eq_true rfl) rfl (Nat.le_of_ble_eq_true rfl) (c6_isIn0 0 11 16 hno σ) ?_
      rintro _ _ ⟨rfl, rfl⟩
      refine AW.run 2 [true] (22, [(0, .inr (.inr (5, 0, 0))), (1, .inl 0)], [.inl 0], σ) [icP .eq (0 : Int32) 0] rfl ?_ ?_
      · exact allP1 (by decide : ((0 : Int32) = 0))
      refine AW.tswIn (k := 0) (tgt := 72) ⟨_, rfl⟩ (by decide) (by decide) rfl (by decide) ?_
      refine AW.run 2 [] (76, [(0, .inr (.inr (5, 0, 0))), (1, .inl 0)], [.inl (σ 5 0 0 7)], σ) [] rfl ?_ ?_
      · exact trivial
      rw [e7]
      refine AW.reti ⟨_, rfl⟩ rfl ?_
      exact ⟨F, (by unfold countP; rw [if_pos rfl]; try rfl), QD_fr hF fr_rfl hD hR⟩
    by_cases hw1 : w = 1
    · subst hw1
      refine AW.run 3 [] (5, [(0, .inr (.inr (5, 0, 0))), (1, .inl 1)], [.inl 16, .inl 11, .inl 1], σ) [] rfl ?_ ?_
      · exact trivial
      refine AW.callSI (d' := 0) [.inl 1, .inl 11, .inl 16] [] ⟨_, rfl⟩ f_6_isIn s_6_isIn l_6_80 rfl (Nat.le_of_ble_eq_true rfl) rfl (Nat.le_of_ble_eq_true rfl) (c6_isIn0 1 11 16 hno σ) ?_
      rintro _ _ ⟨rfl, rfl⟩
      refine AW.run 2 [true] (22, [(0, .inr (.inr (5, 0, 0))), (1, .inl 1)], [.inl 1], σ) [icP .eq (0 : Int32) 0] rfl ?_ ?_
      · exact allP1 (by decide : ((0 : Int32) = 0))
      refine AW.tswIn (k := 1) (tgt := 77) ⟨_, rfl⟩ (by decide) (by decide) rfl (by decide) ?_
      refine AW.run 2 [] (81, [(0, .inr (.inr (5, 0, 0))), (1, .inl 1)], [.inl (σ 5 0 0 10)], σ) [] rfl ?_ ?_
      · exact trivial
      rw [hR.1.2.2.2]
      refine AW.reti ⟨_, rfl⟩ rfl ?_
      exact ⟨F, (by unfold countP; rw [if_neg (by decide : ¬ (1 : Int32) = 0), if_pos rfl]; try rfl), QD_fr hF fr_rfl hD hR⟩
    by_cases hw2 : w = 2
    · subst hw2
      refine AW.run 3 [] (5, [(0, .inr (.inr (5, 0, 0))), (1, .inl 2)], [.inl 16, .inl 11, .inl 2], σ) [] rfl ?_ ?_
      · exact trivial
      refine AW.callSI (d' := 0) [.inl 2, .inl 11, .inl 16] [] ⟨_, rfl⟩ f_6_isIn s_6_isIn l_6_80 rfl (Nat.le_of_ble_eq_true rfl) rfl (Nat.le_of_ble_eq_true rfl) (c6_isIn0 2 11 16 hno σ) ?_
      rintro _ _ ⟨rfl, rfl⟩
      refine AW.run 2 [true] (22, [(0, .inr (.inr (5, 0, 0))), (1, .inl 2)], [.inl 2], σ) [icP .eq (0 : Int32) 0] rfl ?_ ?_
      · exact allP1 (by decide : ((0 : Int32) = 0))
      refine AW.tswIn (k := 2) (tgt := 82) ⟨_, rfl⟩ (by decide) (by decide) rfl (by decide) ?_
      refine AW.run 2 [] (86, [(0, .inr (.inr (5, 0, 0))), (1, .inl 2)], [.inl (σ 5 0 0 8)], σ) [] rfl ?_ ?_
      · exact trivial
      rw [hR.1.2.1]
      refine AW.reti ⟨_, rfl⟩ rfl ?_
      exact ⟨F, (by unfold countP; rw [if_neg (by decide : ¬ (2 : Int32) = 0), if_neg (by decide : ¬ (2 : Int32) = 1), if_pos rfl]; try rfl), QD_fr hF fr_rfl hD hR⟩
    by_cases hw3 : w = 3
    · subst hw3
      refine AW.run 3 [] (5, [(0, .inr (.inr (5, 0, 0))), (1, .inl 3)], [.inl 16, .inl 11, .inl 3], σ) [] rfl ?_ ?_
      · exact trivial
      refine AW.callSI (d' := 0) [.inl 3, .inl 11, .inl 16] [] ⟨_, rfl⟩ f_6_isIn s_6_isIn l_6_80 rfl (Nat.le_of_ble_eq_true rfl) rfl (Nat.le_of_ble_eq_true rfl) (c6_isIn0 3 11 16 hno σ) ?_
      rintro _ _ ⟨rfl, rfl⟩
      refine AW.run 2 [true] (22, [(0, .inr (.inr (5, 0, 0))), (1, .inl 3)], [.inl 3], σ) [icP .eq (0 : Int32) 0] rfl ?_ ?_
      · exact allP1 (by decide : ((0 : Int32) = 0))
      refine AW.tswIn (k := 3) (tgt := 87) ⟨_, rfl⟩ (by decide) (by decide) rfl (by decide) ?_
      refine AW.run 2 [] (91, [(0, .inr (.inr (5, 0, 0))), (1, .inl 3)], [.inl (σ 5 0 0 9)], σ) [] rfl ?_ ?_
      · exact trivial
      rw [hR.1.2.2.1]
      refine AW.reti ⟨_, rfl⟩ rfl ?_
      exact ⟨F, (by unfold countP; rw [if_neg (by decide : ¬ (3 : Int32) = 0), if_neg (by decide : ¬ (3 : Int32) = 1), if_neg (by decide : ¬ (3 : Int32) = 2), if_pos rfl]; try rfl), QD_fr hF fr_rfl hD hR⟩
    by_cases hw4 : w = 4
    · subst hw4
      refine AW.run 3 [] (5, [(0, .inr (.inr (5, 0, 0))), (1, .inl 4)], [.inl 16, .inl 11, .inl 4], σ) [] rfl ?_ ?_
      · exact trivial
      refine AW.callSI (d' := 0) [.inl 4, .inl 11, .inl 16] [] ⟨_, rfl⟩ f_6_isIn s_6_isIn l_6_80 rfl (Nat.le_of_ble_eq_true rfl) rfl (Nat.le_of_ble_eq_true rfl) (c6_isIn0 4 11 16 hno σ) ?_
      rintro _ _ ⟨rfl, rfl⟩
      refine AW.run 2 [true] (22, [(0, .inr (.inr (5, 0, 0))), (1, .inl 4)], [.inl 4], σ) [icP .eq (0 : Int32) 0] rfl ?_ ?_
      · exact allP1 (by decide : ((0 : Int32) = 0))
      refine AW.tswIn (k := 4) (tgt := 92) ⟨_, rfl⟩ (by decide) (by decide) rfl (by decide) ?_
      refine AW.run 1 [] (93, [(0, .inr (.inr (5, 0, 0))), (1, .inl 4)], [.inr (.inr (5, 0, 0))], σ) [] rfl ?_ ?_
      · exact trivial
      refine AW.callVI (d' := 1) [] [] ⟨_, rfl⟩ f_6_whole v_6_whole l_6_197 ⟨rfl, by decide⟩ rfl (Nat.le_of_ble_eq_true rfl) rfl (Nat.le_of_ble_eq_true rfl) (c6_whole F.1 σ hR hO) ?_
      rintro _ _ ⟨rfl, rfl⟩
      refine AW.reti ⟨_, rfl⟩ rfl ?_
      exact ⟨F, (by unfold countP; rw [if_neg (by decide : ¬ (4 : Int32) = 0), if_neg (by decide : ¬ (4 : Int32) = 1), if_neg (by decide : ¬ (4 : Int32) = 2), if_neg (by decide : ¬ (4 : Int32) = 3), if_pos rfl]; try rfl), QD_fr hF fr_rfl hD hR⟩
    by_cases hw5 : w = 5
    · subst hw5
      refine AW.run 3 [] (5, [(0, .inr (.inr (5, 0, 0))), (1, .inl 5)], [.inl 16, .inl 11, .inl 5], σ) [] rfl ?_ ?_
      · exact trivial
      refine AW.callSI (d' := 0) [.inl 5, .inl 11, .inl 16] [] ⟨_, rfl⟩ f_6_isIn s_6_isIn l_6_80 rfl (Nat.le_of_ble_eq_true rfl) rfl (Nat.le_of_ble_eq_true rfl) (c6_isIn0 5 11 16 hno σ) ?_
      rintro _ _ ⟨rfl, rfl⟩
      refine AW.run 2 [true] (22, [(0, .inr (.inr (5, 0, 0))), (1, .inl 5)], [.inl 5], σ) [icP .eq (0 : Int32) 0] rfl ?_ ?_
      · exact allP1 (by decide : ((0 : Int32) = 0))
      refine AW.tswIn (k := 5) (tgt := 97) ⟨_, rfl⟩ (by decide) (by decide) rfl (by decide) ?_
      refine AW.run 1 [] (98, [(0, .inr (.inr (5, 0, 0))), (1, .inl 5)], [.inr (.inr (5, 0, 0))], σ) [] rfl ?_ ?_
      · exact trivial
      refine AW.callVI (d' := 1) [] [] ⟨_, rfl⟩ f_6_allPress v_6_allPress l_6_216 ⟨rfl, by decide⟩ rfl (Nat.le_of_ble_eq_true rfl) rfl (Nat.le_of_ble_eq_true rfl) (c6_allPress F.1 σ hR hO) ?_
      rintro _ _ ⟨rfl, rfl⟩
      refine AW.reti ⟨_, rfl⟩ rfl ?_
      exact ⟨F, (by unfold countP; rw [if_neg (by decide : ¬ (5 : Int32) = 0), if_neg (by decide : ¬ (5 : Int32) = 1), if_neg (by decide : ¬ (5 : Int32) = 2), if_neg (by decide : ¬ (5 : Int32) = 3), if_neg (by decide : ¬ (5 : Int32) = 4), if_pos rfl]; try rfl), QD_fr hF fr_rfl hD hR⟩
    by_cases hw6 : w = 6
    · subst hw6
      refine AW.run 3 [] (5, [(0, .inr (.inr (5, 0, 0))), (1, .inl 6)], [.inl 16, .inl 11, .inl 6], σ) [] rfl ?_ ?_
      · exact trivial
      refine AW.callSI (d' := 0) [.inl 6, .inl 11, .inl 16] [] ⟨_, rfl⟩ f_6_isIn s_6_isIn l_6_80 rfl (Nat.le_of_ble_eq_true rfl) rfl (Nat.le_of_ble_eq_true rfl) (c6_isIn0 6 11 16 hno σ) ?_
      rintro _ _ ⟨rfl, rfl⟩
      refine AW.run 2 [true] (22, [(0, .inr (.inr (5, 0, 0))), (1, .inl 6)], [.inl 6], σ) [icP .eq (0 : Int32) 0] rfl ?_ ?_
      · exact allP1 (by decide : ((0 : Int32) = 0))
      refine AW.tswIn (k := 6) (tgt := 102) ⟨_, rfl⟩ (by decide) (by decide) rfl (by decide) ?_
      refine AW.run 2 [] (106, [(0, .inr (.inr (5, 0, 0))), (1, .inl 6)], [.inl (σ 5 0 0 15)], σ) [] rfl ?_ ?_
      · exact trivial
      rw [hD.2.1.1]
      refine AW.reti ⟨_, rfl⟩ rfl ?_
      exact ⟨F, (by unfold countP; rw [if_neg (by decide : ¬ (6 : Int32) = 0), if_neg (by decide : ¬ (6 : Int32) = 1), if_neg (by decide : ¬ (6 : Int32) = 2), if_neg (by decide : ¬ (6 : Int32) = 3), if_neg (by decide : ¬ (6 : Int32) = 4), if_neg (by decide : ¬ (6 : Int32) = 5), if_pos rfl]; try rfl), QD_fr hF fr_rfl hD hR⟩
    by_cases hw7 : w = 7
    · subst hw7
      refine AW.run 3 [] (5, [(0, .inr (.inr (5, 0, 0))), (1, .inl 7)], [.inl 16, .inl 11, .inl 7], σ) [] rfl ?_ ?_
      · exact trivial
      refine AW.callSI (d' := 0) [.inl 7, .inl 11, .inl 16] [] ⟨_, rfl⟩ f_6_isIn s_6_isIn l_6_80 rfl (Nat.le_of_ble_eq_true rfl) rfl (Nat.le_of_ble_eq_true rfl) (c6_isIn0 7 11 16 hno σ) ?_
      rintro _ _ ⟨rfl, rfl⟩
      refine AW.run 2 [true] (22, [(0, .inr (.inr (5, 0, 0))), (1, .inl 7)], [.inl 7], σ) [icP .eq (0 : Int32) 0] rfl ?_ ?_
      · exact allP1 (by decide : ((0 : Int32) = 0))
      refine AW.tswIn (k := 7) (tgt := 107) ⟨_, rfl⟩ (by decide) (by decide) rfl (by decide) ?_
      refine AW.run 2 [] (111, [(0, .inr (.inr (5, 0, 0))), (1, .inl 7)], [.inl (σ 5 0 0 24)], σ) [] rfl ?_ ?_
      · exact trivial
      rw [hD.2.2.1.2.1]
      refine AW.reti ⟨_, rfl⟩ rfl ?_
      exact ⟨F, (by unfold countP; rw [if_neg (by decide : ¬ (7 : Int32) = 0), if_neg (by decide : ¬ (7 : Int32) = 1), if_neg (by decide : ¬ (7 : Int32) = 2), if_neg (by decide : ¬ (7 : Int32) = 3), if_neg (by decide : ¬ (7 : Int32) = 4), if_neg (by decide : ¬ (7 : Int32) = 5), if_neg (by decide : ¬ (7 : Int32) = 6), if_pos rfl]; try rfl), QD_fr hF fr_rfl hD hR⟩
    by_cases hw8 : w = 8
    · subst hw8
      refine AW.run 3 [] (5, [(0, .inr (.inr (5, 0, 0))), (1, .inl 8)], [.inl 16, .inl 11, .inl 8], σ) [] rfl ?_ ?_
      · exact trivial
      refine AW.callSI (d' := 0) [.inl 8, .inl 11, .inl 16] [] ⟨_, rfl⟩ f_6_isIn s_6_isIn l_6_80 rfl (Nat.le_of_ble_eq_true rfl) rfl (Nat.le_of_ble_eq_true rfl) (c6_isIn0 8 11 16 hno σ) ?_
      rintro _ _ ⟨rfl, rfl⟩
      refine AW.run 2 [true] (22, [(0, .inr (.inr (5, 0, 0))), (1, .inl 8)], [.inl 8], σ) [icP .eq (0 : Int32) 0] rfl ?_ ?_
      · exact allP1 (by decide : ((0 : Int32) = 0))
      refine AW.tswIn (k := 8) (tgt := 112) ⟨_, rfl⟩ (by decide) (by decide) rfl (by decide) ?_
      refine AW.run 2 [] (116, [(0, .inr (.inr (5, 0, 0))), (1, .inl 8)], [.inl (σ 5 0 0 22)], σ) [] rfl ?_ ?_
      · exact trivial
      rw [hD.2.2.2.2.1.1]
      refine AW.reti ⟨_, rfl⟩ rfl ?_
      exact ⟨F, (by unfold countP; rw [if_neg (by decide : ¬ (8 : Int32) = 0), if_neg (by decide : ¬ (8 : Int32) = 1), if_neg (by decide : ¬ (8 : Int32) = 2), if_neg (by decide : ¬ (8 : Int32) = 3), if_neg (by decide : ¬ (8 : Int32) = 4), if_neg (by decide : ¬ (8 : Int32) = 5), if_neg (by decide : ¬ (8 : Int32) = 6), if_neg (by decide : ¬ (8 : Int32) = 7), if_pos rfl]; try rfl), QD_fr hF fr_rfl hD hR⟩
    · skip
      refine AW.run 3 [] (5, [(0, .inr (.inr (5, 0, 0))), (1, .inl w)], [.inl 16, .inl 11, .inl w], σ) [] rfl ?_ ?_
      · exact trivial
      refine AW.callSI (d' := 0) [.inl w, .inl 11, .inl 16] [] ⟨_, rfl⟩ f_6_isIn s_6_isIn l_6_80 rfl (Nat.le_of_ble_eq_true rfl) rfl (Nat.le_of_ble_eq_true rfl) (c6_isIn0 w 11 16 hno σ) ?_
      rintro _ _ ⟨rfl, rfl⟩
      refine AW.run 2 [true] (22, [(0, .inr (.inr (5, 0, 0))), (1, .inl w)], [.inl w], σ) [icP .eq (0 : Int32) 0] rfl ?_ ?_
      · exact allP1 (by decide : ((0 : Int32) = 0))
      have ehw0 := lv_neT (a := 0) hw0 rfl
      have ehw1 := lv_neT (a := 1) hw1 rfl
      have ehw2 := lv_neT (a := 2) hw2 rfl
      have ehw3 := lv_neT (a := 3) hw3 rfl
      have ehw4 := lv_neT (a := 4) hw4 rfl
      have ehw5 := lv_neT (a := 5) hw5 rfl
      have ehw6 := lv_neT (a := 6) hw6 rfl
      have ehw7 := lv_neT (a := 7) hw7 rfl
      have ehw8 := lv_neT (a := 8) hw8 rfl
      refine AW.tswOut (tgt := 117) ⟨_, rfl⟩ (by omega) (by decide) ?_
      refine AW.run 1 [] (119, [(0, .inr (.inr (5, 0, 0))), (1, .inl w)], [.inl (-9)], σ) [] rfl ?_ ?_
      · exact trivial
      refine AW.reti ⟨_, rfl⟩ rfl ?_
      exact ⟨F, (by unfold countP; rw [if_neg hw0, if_neg hw1, if_neg hw2, if_neg hw3, if_neg hw4, if_neg hw5, if_neg hw6, if_neg hw7, if_neg hw8, cnt_n hno]; try rfl), QD_fr hF fr_rfl hD hR⟩
theorem addS_n (S : Sv) (k f p : Nat) : Sn (addS S k f p) = Sn S + 1 := rfl
set_option maxHeartbeats 4000000 in
set_option maxRecDepth 100000 in
theorem d6_bottle (F : Gv) (σ : St) (hD : RepD σ F) (hG : GOK F) (k : Int32) (f : Int32) (p : Int32) : Ct M6_bottle 3 [.inr (.inr (5, 0, 0)), .inl k, .inl f, .inl p] σ (QD σ (bottleP F k f p)) := by
  refine Ct.of f_6_bottle (Nat.le_of_ble_eq_true rfl) ?_
  show AW M6_bottle 3 _ (0, [(0, .inr (.inr (5, 0, 0))), (1, .inl k), (2, .inl f), (3, .inl p)], [], σ)
  have hF : FOK F := hG.1
  have hR : RepM (σ 5 0) F.1 := hD.1
  have hO : SOK F.1 := hF.1.1
  have hn8 : Sn F.1 ≤ 8 := hO.1
  have e7 := hR.1.1
  rcases bot_or 6 k with ⟨j1, hj1, rfl⟩ | hnp
  · skip
    rcases fMax_or 9 (by decide) f with ⟨h4, ef⟩ | ⟨h4, h6, ef⟩ | ⟨f1, hf1, rfl, ef⟩
    · skip
      refine AW.run 3 [] (3, [(0, .inr (.inr (5, 0, 0))), (1, .inl (nI j1)), (2, .inl f), (3, .inl p)], [.inl 5, .inl 0, .inl (nI j1)], σ) [] rfl ?_ ?_
      · exact trivial
      refine AW.callSI (d' := 0) [.inl (nI j1), .inl 0, .inl 5] [] ⟨_, rfl⟩ f_6_isIn s_6_isIn l_6_80 rfl (Nat.le_of_ble_eq_true rfl) rfl (Nat.le_of_ble_eq_true rfl) (c6_isIn1 (nI j1) 0 5 (nI_pos' (by omega)) (nI_le (b := 5) (by omega) (by decide)) σ) ?_
      rintro _ _ ⟨rfl, rfl⟩
      refine AW.run 10 [true, false, false] (78, [(4, .inl (-4)), (0, .inr (.inr (5, 0, 0))), (1, .inl (nI j1)), (2, .inl f), (3, .inl p)], [.inl (-4), .inr (.inr (5, 0, 0))], σ) [icP .ne (1 : Int32) 0, ¬ icP .ge f 0, ¬ icP .eq ((-4) : Int32) 0] rfl ?_ ?_
      · exact ⟨(by decide : (¬ (1 : Int32) = 0)), (nge_of h4), allP1 (by decide : ¬ (((-4) : Int32) = 0))⟩
      refine AW.callVI (d' := 0) [.inl (-4)] [] ⟨_, rfl⟩ f_6_no v_6_no l_6_69 ⟨rfl, by decide⟩ rfl (Nat.le_of_ble_eq_true rfl) rfl (Nat.le_of_ble_eq_true rfl) (c6_no4 σ) ?_
      rintro _ _ ⟨rfl, rfl⟩
      refine AW.reti ⟨_, rfl⟩ rfl ?_
      exact ⟨rfuF F 4, (by unfold bottleP; rw [botI_some hj1 (by decide)]; (try dsimp only); rw [maxP_e4 ef]; try rfl), RepD_ref hF hD (by decide) (by decide)⟩
    · skip
      refine AW.run 3 [] (3, [(0, .inr (.inr (5, 0, 0))), (1, .inl (nI j1)), (2, .inl f), (3, .inl p)], [.inl 5, .inl 0, .inl (nI j1)], σ) [] rfl ?_ ?_
      · exact trivial
      refine AW.callSI (d' := 0) [.inl (nI j1), .inl 0, .inl 5] [] ⟨_, rfl⟩ f_6_isIn s_6_isIn l_6_80 rfl (Nat.le_of_ble_eq_true rfl) rfl (Nat.le_of_ble_eq_true rfl) (c6_isIn1 (nI j1) 0 5 (nI_pos' (by omega)) (nI_le (b := 5) (by omega) (by decide)) σ) ?_
      rintro _ _ ⟨rfl, rfl⟩
      refine AW.run 13 [true, true, true, false] (78, [(4, .inl (-6)), (0, .inr (.inr (5, 0, 0))), (1, .inl (nI j1)), (2, .inl f), (3, .inl p)], [.inl (-6), .inr (.inr (5, 0, 0))], σ) [icP .ne (1 : Int32) 0, icP .ge f 0, icP .gt f 9, ¬ icP .eq ((-6) : Int32) 0] rfl ?_ ?_
      · exact ⟨(by decide : (¬ (1 : Int32) = 0)), (ge_of h4), (h6), allP1 (by decide : ¬ (((-6) : Int32) = 0))⟩
      refine AW.callVI (d' := 0) [.inl (-6)] [] ⟨_, rfl⟩ f_6_no v_6_no l_6_69 ⟨rfl, by decide⟩ rfl (Nat.le_of_ble_eq_true rfl) rfl (Nat.le_of_ble_eq_true rfl) (c6_no6 σ) ?_
      rintro _ _ ⟨rfl, rfl⟩
      refine AW.reti ⟨_, rfl⟩ rfl ?_
      exact ⟨rfuF F 6, (by unfold bottleP; rw [botI_some hj1 (by decide)]; (try dsimp only); rw [maxP_e6 ef]; try rfl), RepD_ref hF hD (by decide) (by decide)⟩
    · skip
      by_cases hs8 : Sn F.1 < 8
      · skip
        rcases bot_or 15 p with ⟨j2, hj2, rfl⟩ | hnp
        · skip
          cases ha : atS F.1 j2 with
          | none =>
            refine AW.run 3 [] (3, [(0, .inr (.inr (5, 0, 0))), (1, .inl (nI j1)), (2, .inl (nI f1)), (3, .inl (nI j2))], [.inl 5, .inl 0, .inl (nI j1)], σ) [] rfl ?_ ?_
            · exact trivial
            refine AW.callSI (d' := 0) [.inl (nI j1), .inl 0, .inl 5] [] ⟨_, rfl⟩ f_6_isIn s_6_isIn l_6_80 rfl (Nat.le_of_ble_eq_true rfl) rfl (Nat.le_of_ble_eq_true rfl) (c6_isIn1 (nI j1) 0 5 (nI_pos' (by omega)) (nI_le (b := 5) (by omega) (by decide)) σ) ?_
            rintro _ _ ⟨rfl, rfl⟩
            refine AW.run 8 [true, true, false] (33, [(0, .inr (.inr (5, 0, 0))), (1, .inl (nI j1)), (2, .inl (nI f1)), (3, .inl (nI j2))], [.inl (σ 5 0 0 7)], σ) [icP .ne (1 : Int32) 0, icP .ge (nI f1) 0, ¬ icP .gt (nI f1) 9] rfl ?_ ?_
            · exact ⟨(by decide : (¬ (1 : Int32) = 0)), (nI_pos' (by omega)), allP1 (nI_nlt (a := 9) hf1 (by decide))⟩
            rw [e7]
            refine AW.run 3 [true] (44, [(0, .inr (.inr (5, 0, 0))), (1, .inl (nI j1)), (2, .inl (nI f1)), (3, .inl (nI j2))], [.inl (nI j2)], σ) [icP .ne (nI (Sn F.1)) 8] rfl ?_ ?_
            · exact allP1 (fun q => absurd (nI_lit (n := 8) q (by omega) (by decide)) (by omega))
            refine AW.callSI (d' := 0) [.inl (nI j2)] [] ⟨_, rfl⟩ f_6_isPlace s_6_isPlace l_6_94 rfl (Nat.le_of_ble_eq_true rfl) rfl (Nat.le_of_ble_eq_true rfl) (c6_isPlace1 j2 hj2 σ) ?_
            rintro _ _ ⟨rfl, rfl⟩
            refine AW.run 3 [true] (56, [(0, .inr (.inr (5, 0, 0))), (1, .inl (nI j1)), (2, .inl (nI f1)), (3, .inl (nI j2))], [.inl (nI j2), .inr (.inr (5, 0, 0))], σ) [icP .ne (1 : Int32) 0] rfl ?_ ?_
            · exact allP1 (by decide : (¬ (1 : Int32) = 0))
            refine AW.callVI (d' := 1) [.inl (nI j2)] [] ⟨_, rfl⟩ f_6_wholeAt v_6_wholeAt l_6_98 ⟨rfl, by decide⟩ rfl (Nat.le_of_ble_eq_true rfl) rfl (Nat.le_of_ble_eq_true rfl) (c6_wholeAt F.1 σ hR hO (nI j2) j2 rfl (by omega)) ?_
            rintro _ _ ⟨rfl, rfl⟩
            rw [ha]
            dsimp only [optI]
            refine AW.run 8 [true, true] (87, [(4, .inl 0), (0, .inr (.inr (5, 0, 0))), (1, .inl (nI j1)), (2, .inl (nI f1)), (3, .inl (nI j2))], [], (setM σ 5 0 0 22 0)) [icP .lt ((-9) : Int32) 0, icP .eq (0 : Int32) 0] rfl ?_ ?_
            · exact ⟨(by decide : (((-9) : Int32) < 0)), allP1 (by decide : ((0 : Int32) = 0))⟩
            obtain ⟨υ, eυ⟩ : ∃ x, x = (setM σ 5 0 0 22 0) := ⟨_, rfl⟩
            rw [← eυ]
            have hυ : Fr (fun j k => j = 0 ∧ k = 22) σ υ := by rw [eυ]; exact fr_set fr_rfl ⟨rfl, rfl⟩
            have u22 : υ 5 0 0 22 = 0 := by rw [eυ, setM_at, if_pos ⟨rfl, rfl⟩]
            have hRu : RepM (υ 5 0) F.1 := repM_fr hυ (fun j k q => by omega) hR
            refine AW.run 4 [] (91, [(4, .inl 0), (0, .inr (.inr (5, 0, 0))), (1, .inl (nI j1)), (2, .inl (nI f1)), (3, .inl (nI j2))], [.inl (nI j2), .inl (nI f1), .inl (nI j1), .inr (.inr (5, 0, 0))], υ) [] rfl ?_ ?_
            · exact trivial
            refine AW.callVV (d' := 0) [.inl (nI j1), .inl (nI f1), .inl (nI j2)] [] ⟨_, rfl⟩ f_6_adds v_6_adds l_6_101 ⟨rfl, by decide⟩ rfl (Nat.le_of_ble_eq_true rfl) rfl (Nat.le_of_ble_eq_true rfl) (c6_adds F.1 υ hRu hO j1 f1 j2 hs8) ?_
            rintro τ ⟨w1, w2⟩
            refine AW.run 2 [] (98, [(4, .inl 0), (0, .inr (.inr (5, 0, 0))), (1, .inl (nI j1)), (2, .inl (nI f1)), (3, .inl (nI j2))], [.inl (τ 5 0 0 7)], τ) [] rfl ?_ ?_
            · exact trivial
            rw [w2.1.1, addS_n]
            refine AW.run 2 [] (100, [(4, .inl 0), (0, .inr (.inr (5, 0, 0))), (1, .inl (nI j1)), (2, .inl (nI f1)), (3, .inl (nI j2))], [.inl ((nI (Sn F.1 + 1)) - 1)], τ) [] rfl ?_ ?_
            · exact trivial
            rw [nI_prd]
            refine AW.reti ⟨_, rfl⟩ rfl ?_
            exact ⟨_, (by unfold bottleP; rw [botI_some hj1 (by decide)]; (try dsimp only); rw [maxP_e0 ef (by omega)]; (try dsimp only); rw [if_pos hs8]; (try dsimp only); rw [botI_some hj2 (by decide)]; (try dsimp only); rw [ha]; try rfl), RepD_bk (b := 0) (ps := F.2.2.2.2.1.2) (P := fun j k => (j = 0 ∧ k = 22) ∨ P1 j k) hF hD (fr_trans (fr_mono hυ (fun j k q => Or.inl q)) (fr_mono w1 (fun j k q => Or.inr q))) (fun j k q => by unfold P1 at q; omega) w2 (RepB_0 (by rw [fr_at w1 (by unfold P1; omega)]; exact u22))⟩
          | some h =>
            have hh8 := (atS_lt ha).1
            refine AW.run 3 [] (3, [(0, .inr (.inr (5, 0, 0))), (1, .inl (nI j1)), (2, .inl (nI f1)), (3, .inl (nI j2))], [.inl 5, .inl 0, .inl (nI j1)], σ) [] rfl ?_ ?_
            · exact trivial
            refine AW.callSI (d' := 0) [.inl (nI j1), .inl 0, .inl 5] [] ⟨_, rfl⟩ f_6_isIn s_6_isIn l_6_80 rfl (Nat.le_of_ble_eq_true rfl) rfl (Nat.le_of_ble_eq_true rfl) (c6_isIn1 (nI j1) 0 5 (nI_pos' (by omega)) (nI_le (b := 5) (by omega) (by decide)) σ) ?_
            rintro _ _ ⟨rfl, rfl⟩
            refine AW.run 8 [true, true, false] (33, [(0, .inr (.inr (5, 0, 0))), (1, .inl (nI j1)), (2, .inl (nI f1)), (3, .inl (nI j2))], [.inl (σ 5 0 0 7)], σ) [icP .ne (1 : Int32) 0, icP .ge (nI f1) 0, ¬ icP .gt (nI f1) 9] rfl ?_ ?_
            · exact ⟨(by decide : (¬ (1 : Int32) = 0)), (nI_pos' (by omega)), allP1 (nI_nlt (a := 9) hf1 (by decide))⟩
            rw [e7]
            refine AW.run 3 [true] (44, [(0, .inr (.inr (5, 0, 0))), (1, .inl (nI j1)), (2, .inl (nI f1)), (3, .inl (nI j2))], [.inl (nI j2)], σ) [icP .ne (nI (Sn F.1)) 8] rfl ?_ ?_
            · exact allP1 (fun q => absurd (nI_lit (n := 8) q (by omega) (by decide)) (by omega))
            refine AW.callSI (d' := 0) [.inl (nI j2)] [] ⟨_, rfl⟩ f_6_isPlace s_6_isPlace l_6_94 rfl (Nat.le_of_ble_eq_true rfl) rfl (Nat.le_of_ble_eq_true rfl) (c6_isPlace1 j2 hj2 σ) ?_
            rintro _ _ ⟨rfl, rfl⟩
            refine AW.run 3 [true] (56, [(0, .inr (.inr (5, 0, 0))), (1, .inl (nI j1)), (2, .inl (nI f1)), (3, .inl (nI j2))], [.inl (nI j2), .inr (.inr (5, 0, 0))], σ) [icP .ne (1 : Int32) 0] rfl ?_ ?_
            · exact allP1 (by decide : (¬ (1 : Int32) = 0))
            refine AW.callVI (d' := 1) [.inl (nI j2)] [] ⟨_, rfl⟩ f_6_wholeAt v_6_wholeAt l_6_98 ⟨rfl, by decide⟩ rfl (Nat.le_of_ble_eq_true rfl) rfl (Nat.le_of_ble_eq_true rfl) (c6_wholeAt F.1 σ hR hO (nI j2) j2 rfl (by omega)) ?_
            rintro _ _ ⟨rfl, rfl⟩
            rw [ha]
            dsimp only [optI]
            refine AW.run 8 [false, false] (78, [(4, .inl (-3)), (0, .inr (.inr (5, 0, 0))), (1, .inl (nI j1)), (2, .inl (nI f1)), (3, .inl (nI j2))], [.inl (-3), .inr (.inr (5, 0, 0))], σ) [¬ icP .lt (nI h) 0, ¬ icP .eq ((-3) : Int32) 0] rfl ?_ ?_
            · exact ⟨(nlt0 (by omega)), allP1 (by decide : ¬ (((-3) : Int32) = 0))⟩
            refine AW.callVI (d' := 0) [.inl (-3)] [] ⟨_, rfl⟩ f_6_no v_6_no l_6_69 ⟨rfl, by decide⟩ rfl (Nat.le_of_ble_eq_true rfl) rfl (Nat.le_of_ble_eq_true rfl) (c6_no3 σ) ?_
            rintro _ _ ⟨rfl, rfl⟩
            refine AW.reti ⟨_, rfl⟩ rfl ?_
            exact ⟨rfuF F 3, (by unfold bottleP; rw [botI_some hj1 (by decide)]; (try dsimp only); rw [maxP_e0 ef (by omega)]; (try dsimp only); rw [if_pos hs8]; (try dsimp only); rw [botI_some hj2 (by decide)]; (try dsimp only); rw [ha]; try rfl), RepD_ref hF hD (by decide) (by decide)⟩
        · skip
          refine AW.run 3 [] (3, [(0, .inr (.inr (5, 0, 0))), (1, .inl (nI j1)), (2, .inl (nI f1)), (3, .inl p)], [.inl 5, .inl 0, .inl (nI j1)], σ) [] rfl ?_ ?_
          · exact trivial
          refine AW.callSI (d' := 0) [.inl (nI j1), .inl 0, .inl 5] [] ⟨_, rfl⟩ f_6_isIn s_6_isIn l_6_80 rfl (Nat.le_of_ble_eq_true rfl) rfl (Nat.le_of_ble_eq_true rfl) (c6_isIn1 (nI j1) 0 5 (nI_pos' (by omega)) (nI_le (b := 5) (by omega) (by decide)) σ) ?_
          rintro _ _ ⟨rfl, rfl⟩
          refine AW.run 8 [true, true, false] (33, [(0, .inr (.inr (5, 0, 0))), (1, .inl (nI j1)), (2, .inl (nI f1)), (3, .inl p)], [.inl (σ 5 0 0 7)], σ) [icP .ne (1 : Int32) 0, icP .ge (nI f1) 0, ¬ icP .gt (nI f1) 9] rfl ?_ ?_
          · exact ⟨(by decide : (¬ (1 : Int32) = 0)), (nI_pos' (by omega)), allP1 (nI_nlt (a := 9) hf1 (by decide))⟩
          rw [e7]
          refine AW.run 3 [true] (44, [(0, .inr (.inr (5, 0, 0))), (1, .inl (nI j1)), (2, .inl (nI f1)), (3, .inl p)], [.inl p], σ) [icP .ne (nI (Sn F.1)) 8] rfl ?_ ?_
          · exact allP1 (fun q => absurd (nI_lit (n := 8) q (by omega) (by decide)) (by omega))
          refine AW.callSI (d' := 0) [.inl p] [] ⟨_, rfl⟩ f_6_isPlace s_6_isPlace l_6_94 rfl (Nat.le_of_ble_eq_true rfl) rfl (Nat.le_of_ble_eq_true rfl) (c6_isPlace0 p hnp σ) ?_
          rintro _ _ ⟨rfl, rfl⟩
          refine AW.run 8 [false, false] (78, [(4, .inl (-1)), (0, .inr (.inr (5, 0, 0))), (1, .inl (nI j1)), (2, .inl (nI f1)), (3, .inl p)], [.inl (-1), .inr (.inr (5, 0, 0))], σ) [¬ icP .ne (0 : Int32) 0, ¬ icP .eq ((-1) : Int32) 0] rfl ?_ ?_
          · exact ⟨(by decide : ¬ (¬ (0 : Int32) = 0)), allP1 (by decide : ¬ (((-1) : Int32) = 0))⟩
          refine AW.callVI (d' := 0) [.inl (-1)] [] ⟨_, rfl⟩ f_6_no v_6_no l_6_69 ⟨rfl, by decide⟩ rfl (Nat.le_of_ble_eq_true rfl) rfl (Nat.le_of_ble_eq_true rfl) (c6_no1 σ) ?_
          rintro _ _ ⟨rfl, rfl⟩
          refine AW.reti ⟨_, rfl⟩ rfl ?_
          exact ⟨rfuF F 1, (by unfold bottleP; rw [botI_some hj1 (by decide)]; (try dsimp only); rw [maxP_e0 ef (by omega)]; (try dsimp only); rw [if_pos hs8]; (try dsimp only); rw [botI_none hnp]; try rfl), RepD_ref hF hD (by decide) (by decide)⟩
      · skip
        refine AW.run 3 [] (3, [(0, .inr (.inr (5, 0, 0))), (1, .inl (nI j1)), (2, .inl (nI f1)), (3, .inl p)], [.inl 5, .inl 0, .inl (nI j1)], σ) [] rfl ?_ ?_
        · exact trivial
        refine AW.callSI (d' := 0) [.inl (nI j1), .inl 0, .inl 5] [] ⟨_, rfl⟩ f_6_isIn s_6_isIn l_6_80 rfl (Nat.le_of_ble_eq_true rfl) rfl (Nat.le_of_ble_eq_true rfl) (c6_isIn1 (nI j1) 0 5 (nI_pos' (by omega)) (nI_le (b := 5) (by omega) (by decide)) σ) ?_
        rintro _ _ ⟨rfl, rfl⟩
        refine AW.run 8 [true, true, false] (33, [(0, .inr (.inr (5, 0, 0))), (1, .inl (nI j1)), (2, .inl (nI f1)), (3, .inl p)], [.inl (σ 5 0 0 7)], σ) [icP .ne (1 : Int32) 0, icP .ge (nI f1) 0, ¬ icP .gt (nI f1) 9] rfl ?_ ?_
        · exact ⟨(by decide : (¬ (1 : Int32) = 0)), (nI_pos' (by omega)), allP1 (nI_nlt (a := 9) hf1 (by decide))⟩
        rw [e7]
        refine AW.run 9 [false, false] (78, [(4, .inl (-6)), (0, .inr (.inr (5, 0, 0))), (1, .inl (nI j1)), (2, .inl (nI f1)), (3, .inl p)], [.inl (-6), .inr (.inr (5, 0, 0))], σ) [¬ icP .ne (nI (Sn F.1)) 8, ¬ icP .eq ((-6) : Int32) 0] rfl ?_ ?_
        · exact ⟨(fun q => q (congrArg nI (show Sn F.1 = 8 by omega))), allP1 (by decide : ¬ (((-6) : Int32) = 0))⟩
        refine AW.callVI (d' := 0) [.inl (-6)] [] ⟨_, rfl⟩ f_6_no v_6_no l_6_69 ⟨rfl, by decide⟩ rfl (Nat.le_of_ble_eq_true rfl) rfl (Nat.le_of_ble_eq_true rfl) (c6_no6 σ) ?_
        rintro _ _ ⟨rfl, rfl⟩
        refine AW.reti ⟨_, rfl⟩ rfl ?_
        exact ⟨rfuF F 6, (by unfold bottleP; rw [botI_some hj1 (by decide)]; (try dsimp only); rw [maxP_e0 ef (by omega)]; (try dsimp only); rw [if_neg hs8]; try rfl), RepD_ref hF hD (by decide) (by decide)⟩
  · skip
    refine AW.run 3 [] (3, [(0, .inr (.inr (5, 0, 0))), (1, .inl k), (2, .inl f), (3, .inl p)], [.inl 5, .inl 0, .inl k], σ) [] rfl ?_ ?_
    · exact trivial
    refine AW.callSI (d' := 0) [.inl k, .inl 0, .inl 5] [] ⟨_, rfl⟩ f_6_isIn s_6_isIn l_6_80 rfl (Nat.le_of_ble_eq_true rfl) rfl (Nat.le_of_ble_eq_true rfl) (c6_isIn0 k 0 5 (in_ne (b := 5) (by decide) hnp) σ) ?_
    rintro _ _ ⟨rfl, rfl⟩
    refine AW.run 8 [false, false] (78, [(4, .inl (-2)), (0, .inr (.inr (5, 0, 0))), (1, .inl k), (2, .inl f), (3, .inl p)], [.inl (-2), .inr (.inr (5, 0, 0))], σ) [¬ icP .ne (0 : Int32) 0, ¬ icP .eq ((-2) : Int32) 0] rfl ?_ ?_
    · exact ⟨(by decide : ¬ (¬ (0 : Int32) = 0)), allP1 (by decide : ¬ (((-2) : Int32) = 0))⟩
    refine AW.callVI (d' := 0) [.inl (-2)] [] ⟨_, rfl⟩ f_6_no v_6_no l_6_69 ⟨rfl, by decide⟩ rfl (Nat.le_of_ble_eq_true rfl) rfl (Nat.le_of_ble_eq_true rfl) (c6_no2 σ) ?_
    rintro _ _ ⟨rfl, rfl⟩
    refine AW.reti ⟨_, rfl⟩ rfl ?_
    exact ⟨rfuF F 2, (by unfold bottleP; rw [botI_none hnp]; try rfl), RepD_ref hF hD (by decide) (by decide)⟩
