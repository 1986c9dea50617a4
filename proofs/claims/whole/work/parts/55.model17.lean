/-! WHO WENT, WHAT KIND, NEAR, OFFICERS, JUDGE, MEAN, EASED -/
theorem orI_t {f : Nat → Bool} {k : Nat} (h : f k = true) : orI f k ||| (1 <<< (nI k &&& 31)) = orI f (k + 1) := by
  show _ = (if f k = true then orI f k ||| (1 <<< (nI k &&& 31)) else orI f k)
  rw [if_pos h]
theorem orI_f {f : Nat → Bool} {k : Nat} (h : f k = false) : orI f k ||| 0 = orI f (k + 1) := by
  rw [show ∀ x : Int32, x ||| 0 = x from fun x => Int32.or_zero]
  show _ = (if f k = true then orI f k ||| (1 <<< (nI k &&& 31)) else orI f k)
  rw [if_neg (by rw [h]; decide)]
theorem orI_out {f : Nat → Bool} {n : Nat} (h : ∀ i, n ≤ i → f i = false) : ∀ m, n ≤ m → orI f m = orI f n
  | 0, hm => by rw [show n = 0 by omega]
  | m + 1, hm => by
    by_cases he : n = m + 1
    · rw [he]
    · rw [← orI_out h m (by omega)]
      show (if f m = true then orI f m ||| (1 <<< (nI m &&& 31)) else orI f m) = _
      rw [if_neg (by rw [h m (by omega)]; decide)]
theorem fu_fu {α : Type} (f : Nat → α) (k : Nat) (x y : α) : fu (fu f k x) k y = fu f k y := by
  funext j; unfold fu; by_cases h : j = k
  · rw [if_pos h, if_pos h]
  · rw [if_neg h, if_neg h, if_neg h]
theorem nearW_iff {S : Sv} {k i : Nat} : nearW S k 8 i = true ↔ i < 8 ∧ i ≠ k ∧ Sw S i = true ∧ nearN (Sp S k) (Sp S i) = true := by
  unfold nearW
  simp [Bool.and_eq_true, and_assoc]
theorem repM_kb {S : Sv} {σ : St} {k t : Nat} (h : RepM (σ 5 0) (withK S (fu (Sk S) k t) (Sf S))) : RepM (setM σ 5 0 2 k (nI (Sk S k)) 5 0) S := by
  have h2 := repM_k (k := k) (q := Sk S k) h
  rw [show withK (withK S (fu (Sk S) k t) (Sf S)) (fu (Sk (withK S (fu (Sk S) k t) (Sf S))) k (Sk S k)) (Sf (withK S (fu (Sk S) k t) (Sf S))) = S from by show withK S (fu (fu (Sk S) k t) k (Sk S k)) (Sf S) = S; rw [fu_back]; rfl] at h2
  exact h2
theorem repM_fb {S : Sv} {σ : St} {k t : Nat} (h : RepM (σ 5 0) (withK S (Sk S) (fu (Sf S) k t))) : RepM (setM σ 5 0 3 k (nI (Sf S k)) 5 0) S := by
  have h2 := repM_f (k := k) (q := Sf S k) h
  rw [show withK (withK S (Sk S) (fu (Sf S) k t)) (Sk (withK S (Sk S) (fu (Sf S) k t))) (fu (Sf (withK S (Sk S) (fu (Sf S) k t))) k (Sf S k)) = S from by show withK S (Sk S) (fu (fu (Sf S) k t) k (Sf S k)) = S; rw [fu_back]; rfl] at h2
  exact h2
theorem repM_wb {S : Sv} {σ : St} {k : Nat} {t : Bool} (h : RepM (σ 5 0) (withW S (fu (Sw S) k t))) : RepM (setM σ 5 0 6 k (if Sw S k = true then 0 else 1) 5 0) S := by
  have h2 := repM_w (k := k) (b := Sw S k) h
  rw [show withW (withW S (fu (Sw S) k t)) (fu (Sw (withW S (fu (Sw S) k t))) k (Sw S k)) = S from by show withW S (fu (fu (Sw S) k t) k (Sw S k)) = S; rw [fu_back]; rfl] at h2
  exact h2
theorem repM_kx {S : Sv} {σ : St} {k t q : Nat} (h : RepM (σ 5 0) (withK S (fu (Sk S) k t) (Sf S))) : RepM (setM σ 5 0 2 k (nI q) 5 0) (withK S (fu (Sk S) k q) (Sf S)) := by
  have h2 := repM_k (k := k) (q := q) h
  rw [show withK (withK S (fu (Sk S) k t) (Sf S)) (fu (Sk (withK S (fu (Sk S) k t) (Sf S))) k q) (Sf (withK S (fu (Sk S) k t) (Sf S))) = withK S (fu (Sk S) k q) (Sf S) from by show withK S (fu (fu (Sk S) k t) k q) (Sf S) = _; rw [fu_fu]] at h2
  exact h2
theorem repM_fx {S : Sv} {σ : St} {k t q : Nat} (h : RepM (σ 5 0) (withK S (Sk S) (fu (Sf S) k t))) : RepM (setM σ 5 0 3 k (nI q) 5 0) (withK S (Sk S) (fu (Sf S) k q)) := by
  have h2 := repM_f (k := k) (q := q) h
  rw [show withK (withK S (Sk S) (fu (Sf S) k t)) (Sk (withK S (Sk S) (fu (Sf S) k t))) (fu (Sf (withK S (Sk S) (fu (Sf S) k t))) k q) = withK S (Sk S) (fu (Sf S) k q) from by show withK S (Sk S) (fu (fu (Sf S) k t) k q) = _; rw [fu_fu]] at h2
  exact h2
theorem RepD_row {σ τ : St} {F : Gv} {P : Nat → Nat → Prop} {m : Nat} {w : Nat → Nat} (hF : FOK F) (h : Fr P σ τ) (hp : ∀ j k, P j k → ¬ ((2 ≤ j ∧ j ≤ 7) ∨ (j = 0 ∧ ((7 ≤ k ∧ k ≤ 10) ∨ k = 15 ∨ k = 19 ∨ k = 22)) ∨ j = 12 ∨ j = 1 ∨ (j = 19 ∧ (k < 52 ∨ 156 ≤ k)))) (hD : RepD σ F) (hw : RowM τ w m) : RepD τ (F.1, F.2.1, (m, w), F.2.2.2) ∧ Fr TT σ τ := by
  obtain ⟨h1, ⟨t1, t2⟩, -, hr, hb, hi⟩ := hD
  have e : ∀ j k, ((2 ≤ j ∧ j ≤ 7) ∨ (j = 0 ∧ ((7 ≤ k ∧ k ≤ 10) ∨ k = 15 ∨ k = 19 ∨ k = 22)) ∨ j = 12 ∨ j = 1 ∨ (j = 19 ∧ (k < 52 ∨ 156 ≤ k))) → τ 5 0 j k = σ 5 0 j k := fun j k hj => fr_at h (fun q => hp j k q hj)
  exact ⟨⟨repM_fr h (fun j k q q2 => hp j k q (by omega)) h1, ⟨by rw [e 0 15 (by omega)]; exact t1, fun i hi => by rw [e 12 i (by omega)]; exact t2 i hi⟩, hw, fun k h1 h2 => by rw [e 1 k (by omega)]; exact hr k h1 h2, RepB_mv (fun j hj => (hF.2.2.2.1.2 j hj).1.1) (e 0 22 (by omega)) (fun k hk => e 19 k (by omega)) hb, ImgD_mv (fun I hI => (hF.2.2.2.2 I hI).1.1) (e 0 19 (by omega)) (fun t ht => e 19 t (by omega)) hi⟩, fr_tt h⟩
theorem RepD_clr {σ : St} {F : Gv} (hF : FOK F) (hD : RepD σ F) : RepD (setM σ 5 0 0 24 0) (F.1, F.2.1, (0, F.2.2.1.2), F.2.2.2) ∧ Fr TT σ (setM σ 5 0 0 24 0) :=
  RepD_row (P := fun j k => j = 0 ∧ k = 24) hF (fr_set fr_rfl ⟨rfl, rfl⟩) (fun j k q => by omega) hD ⟨⟨Nat.zero_le _, hD.2.2.1.1.2⟩, by rw [setM_at, if_pos ⟨rfl, rfl⟩]; rfl, fun i hi => absurd hi (Nat.not_lt_zero i)⟩
theorem RepD_rowadd {σ : St} {F : Gv} {v : Nat} (hF : FOK F) (hD : RepD σ F) (h12 : F.2.2.1.1 < 12) (hv : v ≤ 99) {υ : St} (hu : υ = setM (setM σ 5 0 24 (nI F.2.2.1.1).toNatClampNeg (nI v)) 5 0 0 24 (nI (F.2.2.1.1 + 1))) : RepD υ (F.1, F.2.1, (F.2.2.1.1 + 1, fu F.2.2.1.2 F.2.2.1.1 v), F.2.2.2) ∧ Fr TT σ υ := by
  subst hu
  rw [nI_clamp (by omega)]
  obtain ⟨⟨w1, w2⟩, w3, w4⟩ := hD.2.2.1
  refine RepD_row (P := fun j k => (j = 0 ∧ k = 24) ∨ j = 24) hF (fr_set (fr_set fr_rfl (Or.inr rfl)) (Or.inl ⟨rfl, rfl⟩)) (fun j k q => by omega) hD ⟨⟨by omega, fun i => ?_⟩, by rw [setM_at, if_pos ⟨rfl, rfl⟩], fun i hi => ?_⟩
  · show fu F.2.2.1.2 F.2.2.1.1 v i ≤ 99
    unfold fu; split
    · exact hv
    · exact w2 i
  · rw [setM_at, if_neg (by omega), setM_at]
    unfold fu
    by_cases he : i = F.2.2.1.1
    · rw [if_pos ⟨rfl, he⟩, if_pos he]
    · rw [if_neg (by omega), if_neg he]; exact w4 i (by omega)

set_option maxHeartbeats 4000000 in
set_option maxRecDepth 100000 in
theorem d6_whoWent (F : Gv) (σ : St) (hD : RepD σ F) (hG : GOK F) : Ct M6_whoWent 6 [.inr (.inr (5, 0, 0))] σ (QD σ (whoWentP F)) := by
  refine Ct.of f_6_whoWent (Nat.le_of_ble_eq_true rfl) ?_
  show AW M6_whoWent 6 _ (0, [(0, .inr (.inr (5, 0, 0)))], [], σ)
  have hF : FOK F := hG.1
  have hR : RepM (σ 5 0) F.1 := hD.1
  have hO : SOK F.1 := hF.1.1
  have hn8 : Sn F.1 ≤ 8 := hO.1
  have e7 := hR.1.1
  refine AW.run 4 [] (4, [(2, .inl 0), (1, .inl 0), (0, .inr (.inr (5, 0, 0)))], [], σ) [] rfl ?_ ?_
  · exact trivial
  refine AW.pick [2, 1, 0] (ls' := [(0, .inr (.inr (5, 0, 0))), (1, .inl (orI (whoF F.1 F.2.2.1.2 F.2.2.1.1) 0)), (2, .inl (nI 0))]) rfl ?_
  refine AW.loop (α := Unit) 4 (Sn F.1) (fun i _ => [(0, .inr (.inr (5, 0, 0))), (1, .inl (orI (whoF F.1 F.2.2.1.2 F.2.2.1.1) i)), (2, .inl (nI i))]) (fun i _ τ => Fr P2 σ τ ∧ RepM (τ 5 0) F.1) ?_ ?_ (Sn F.1) 0 () _ (by omega) ⟨fr_rfl, hR⟩
  · intro i _ τ hi hI hk
    obtain ⟨hS1, hR1⟩ := hI
    have hi8 : i < 8 := by omega
    have e7t := hR1.1.1
    cases hw : Sw F.1 i
    · skip
      refine AW.run 3 [] (9, [(0, .inr (.inr (5, 0, 0))), (1, .inl (orI (whoF F.1 F.2.2.1.2 F.2.2.1.1) i)), (2, .inl (nI i))], [.inl (τ 5 0 0 7), .inl (nI i)], τ) [] rfl ?_ ?_
      · exact trivial
      rw [e7t]
      refine AW.run 4 [false] (15, [(0, .inr (.inr (5, 0, 0))), (1, .inl (orI (whoF F.1 F.2.2.1.2 F.2.2.1.1) i)), (2, .inl (nI i))], [.inl (nI i), .inr (.inr (5, 0, 0)), .inl (orI (whoF F.1 F.2.2.1.2 F.2.2.1.1) i)], τ) [¬ icP .ge (nI i) (nI (Sn F.1))] rfl ?_ ?_
      · exact allP1 (nI_ge hi (by omega))
      refine AW.callVI (d' := 0) [.inl (nI i)] [.inl (orI (whoF F.1 F.2.2.1.2 F.2.2.1.1) i)] ⟨_, rfl⟩ f_6_isWhole v_6_isWhole l_6_108 ⟨rfl, by decide⟩ rfl (Nat.le_of_ble_eq_true rfl) rfl (Nat.le_of_ble_eq_true rfl) (c6_isWhole F.1 τ hR1 hO.1 i hi) ?_
      rintro v _ ⟨rfl, hv⟩
      obtain rfl : v = 0 := by
        rcases hv with h | h
        · exact absurd (hw.symm.trans h.2) (by decide)
        · exact h.1
      refine AW.run 3 [true] (37, [(0, .inr (.inr (5, 0, 0))), (1, .inl (orI (whoF F.1 F.2.2.1.2 F.2.2.1.1) i)), (2, .inl (nI i))], [.inl ((orI (whoF F.1 F.2.2.1.2 F.2.2.1.1) i) ||| 0)], τ) [icP .eq (0 : Int32) 0] rfl ?_ ?_
      · exact allP1 (by decide : ((0 : Int32) = 0))
      rw [orI_f (show (whoF F.1 F.2.2.1.2 F.2.2.1.1) i = false from by unfold whoF; first | (rw [hw, hpp]; rfl) | (rw [hw]; rfl))]
      refine AW.run 3 [] (4, [(2, .inl ((nI i) + 1)), (1, .inl (orI (whoF F.1 F.2.2.1.2 F.2.2.1.1) (i + 1))), (0, .inr (.inr (5, 0, 0)))], [], τ) [] rfl ?_ ?_
      · exact trivial
      rw [nI_1 i]
      refine AW.pick [2, 1, 0] (ls' := [(0, .inr (.inr (5, 0, 0))), (1, .inl (orI (whoF F.1 F.2.2.1.2 F.2.2.1.1) (i + 1))), (2, .inl (nI (i + 1)))]) rfl ?_
      exact hk () τ ⟨hS1, hR1⟩
    · skip
      refine AW.run 3 [] (9, [(0, .inr (.inr (5, 0, 0))), (1, .inl (orI (whoF F.1 F.2.2.1.2 F.2.2.1.1) i)), (2, .inl (nI i))], [.inl (τ 5 0 0 7), .inl (nI i)], τ) [] rfl ?_ ?_
      · exact trivial
      rw [e7t]
      refine AW.run 4 [false] (15, [(0, .inr (.inr (5, 0, 0))), (1, .inl (orI (whoF F.1 F.2.2.1.2 F.2.2.1.1) i)), (2, .inl (nI i))], [.inl (nI i), .inr (.inr (5, 0, 0)), .inl (orI (whoF F.1 F.2.2.1.2 F.2.2.1.1) i)], τ) [¬ icP .ge (nI i) (nI (Sn F.1))] rfl ?_ ?_
      · exact allP1 (nI_ge hi (by omega))
      refine AW.callVI (d' := 0) [.inl (nI i)] [.inl (orI (whoF F.1 F.2.2.1.2 F.2.2.1.1) i)] ⟨_, rfl⟩ f_6_isWhole v_6_isWhole l_6_108 ⟨rfl, by decide⟩ rfl (Nat.le_of_ble_eq_true rfl) rfl (Nat.le_of_ble_eq_true rfl) (c6_isWhole F.1 τ hR1 hO.1 i hi) ?_
      rintro v _ ⟨rfl, hv⟩
      obtain rfl : v = 1 := by
        rcases hv with h | h
        · exact h.1
        · exact absurd (hw.symm.trans h.2) (by decide)
      refine AW.run 3 [false] (23, [(0, .inr (.inr (5, 0, 0))), (1, .inl (orI (whoF F.1 F.2.2.1.2 F.2.2.1.1) i)), (2, .inl (nI i))], [.inl (nI i), .inr (.inr (5, 0, 0)), .inl (orI (whoF F.1 F.2.2.1.2 F.2.2.1.1) i)], τ) [¬ icP .eq (1 : Int32) 0] rfl ?_ ?_
      · exact allP1 (by decide : ¬ ((1 : Int32) = 0))
      refine AW.callVI (d' := 5) [.inl (nI i)] [.inl (orI (whoF F.1 F.2.2.1.2 F.2.2.1.1) i)] ⟨_, rfl⟩ f_6_isLeftSo v_6_isLeftSo l_6_247 ⟨rfl, by decide⟩ rfl (Nat.le_of_ble_eq_true rfl) rfl (Nat.le_of_ble_eq_true rfl) (c6_isLeftSo F.1 τ hR1 hO i hi F.2.2.1.2 F.2.2.1.1 (hD.2.2.1.mv hS1)) ?_
      rintro v9 τ138 ⟨f138, r138, hv9⟩
      rcases hv9 with ⟨rfl, hpp⟩ | ⟨rfl, hpp⟩
      · skip
        refine AW.run 6 [false] (37, [(0, .inr (.inr (5, 0, 0))), (1, .inl (orI (whoF F.1 F.2.2.1.2 F.2.2.1.1) i)), (2, .inl (nI i))], [.inl ((orI (whoF F.1 F.2.2.1.2 F.2.2.1.1) i) ||| (1 <<< ((nI i) &&& 31)))], τ138) [¬ icP .eq (1 : Int32) 0] rfl ?_ ?_
        · exact allP1 (by decide : ¬ ((1 : Int32) = 0))
        rw [orI_t (show (whoF F.1 F.2.2.1.2 F.2.2.1.1) i = true from by unfold whoF; rw [hw, hpp]; rfl)]
        refine AW.run 3 [] (4, [(2, .inl ((nI i) + 1)), (1, .inl (orI (whoF F.1 F.2.2.1.2 F.2.2.1.1) (i + 1))), (0, .inr (.inr (5, 0, 0)))], [], τ138) [] rfl ?_ ?_
        · exact trivial
        rw [nI_1 i]
        refine AW.pick [2, 1, 0] (ls' := [(0, .inr (.inr (5, 0, 0))), (1, .inl (orI (whoF F.1 F.2.2.1.2 F.2.2.1.1) (i + 1))), (2, .inl (nI (i + 1)))]) rfl ?_
        exact hk () τ138 ⟨(fr_trans hS1 f138), r138⟩
      · skip
        refine AW.run 3 [true] (37, [(0, .inr (.inr (5, 0, 0))), (1, .inl (orI (whoF F.1 F.2.2.1.2 F.2.2.1.1) i)), (2, .inl (nI i))], [.inl ((orI (whoF F.1 F.2.2.1.2 F.2.2.1.1) i) ||| 0)], τ138) [icP .eq (0 : Int32) 0] rfl ?_ ?_
        · exact allP1 (by decide : ((0 : Int32) = 0))
        rw [orI_f (show (whoF F.1 F.2.2.1.2 F.2.2.1.1) i = false from by unfold whoF; first | (rw [hw, hpp]; rfl) | (rw [hw]; rfl))]
        refine AW.run 3 [] (4, [(2, .inl ((nI i) + 1)), (1, .inl (orI (whoF F.1 F.2.2.1.2 F.2.2.1.1) (i + 1))), (0, .inr (.inr (5, 0, 0)))], [], τ138) [] rfl ?_ ?_
        · exact trivial
        rw [nI_1 i]
        refine AW.pick [2, 1, 0] (ls' := [(0, .inr (.inr (5, 0, 0))), (1, .inl (orI (whoF F.1 F.2.2.1.2 F.2.2.1.1) (i + 1))), (2, .inl (nI (i + 1)))]) rfl ?_
        exact hk () τ138 ⟨(fr_trans hS1 f138), r138⟩
  · intro _ τ hI
    obtain ⟨hS1, hR1⟩ := hI
    have e7t := hR1.1.1
    refine AW.run 3 [] (9, [(0, .inr (.inr (5, 0, 0))), (1, .inl (orI (whoF F.1 F.2.2.1.2 F.2.2.1.1) (Sn F.1))), (2, .inl (nI (Sn F.1)))], [.inl (τ 5 0 0 7), .inl (nI (Sn F.1))], τ) [] rfl ?_ ?_
    · exact trivial
    rw [e7t]
    refine AW.run 2 [true] (45, [(0, .inr (.inr (5, 0, 0))), (1, .inl (orI (whoF F.1 F.2.2.1.2 F.2.2.1.1) (Sn F.1))), (2, .inl (nI (Sn F.1)))], [.inl (orI (whoF F.1 F.2.2.1.2 F.2.2.1.1) (Sn F.1))], τ) [icP .ge (nI (Sn F.1)) (nI (Sn F.1))] rfl ?_ ?_
    · exact allP1 (nI_le (Nat.le_refl _) (by omega))
    refine AW.reti ⟨_, rfl⟩ rfl ?_
    exact ⟨F, (by unfold whoWentP; rw [orI_out (n := Sn F.1) (fun i h => by unfold whoF; rw [w_out hO i h]; rfl) 8 hn8]), QD_fr hF hS1 hD hR1⟩
theorem SOK_k2 {S : Sv} (hO : SOK S) {b v : Nat} (hb : b < Sn S) (hv : v ≤ 5) : SOK (withK S (fu (Sk S) b v) (Sf S)) := by
  have h := SOK_k (i := b) (k := v) (f := Sf S b) hO hb hv (hO.2.1 b).2.1
  rw [fu_self] at h; exact h
theorem SOK_f2 {S : Sv} (hO : SOK S) {b v : Nat} (hb : b < Sn S) (hv : v ≤ 9) : SOK (withK S (Sk S) (fu (Sf S) b v)) := by
  have h := SOK_k (i := b) (k := Sk S b) (f := v) hO hb (hO.2.1 b).1 hv
  rw [fu_self] at h; exact h
set_option maxHeartbeats 4000000 in
set_option maxRecDepth 100000 in
theorem c6_bitsFor2 (S : Sv) (σ : St) (hR : RepM (σ 5 0) S) (hO : SOK S) (b : Nat) (hb : b < Sn S) (w : Nat → Nat) (m : Nat) (hW : RowM σ w m) : Ct M6_bitsFor 6 [.inr (.inr (5, 0, 0)), .inr (.inr (5, 0, 2)), .inl (nI b), .inl 6] σ (PI fun r9 σ' => orI (knF S b w m) 6 = r9 ∧ Fr P2 σ σ' ∧ RepM (σ' 5 0) S) := by
  refine Ct.of f_6_bitsFor (Nat.le_of_ble_eq_true rfl) ?_
  show AW M6_bitsFor 6 _ (0, [(0, .inr (.inr (5, 0, 0))), (1, .inr (.inr (5, 0, 2))), (2, .inl (nI b)), (3, .inl 6)], [], σ)
  have hn8 : Sn S ≤ 8 := hO.1
  have hb8 : b < 8 := by omega
  have hkk := (hO.2.1 b).1
  have hff := (hO.2.1 b).2.1
  refine AW.run 3 [] (3, [(0, .inr (.inr (5, 0, 0))), (1, .inr (.inr (5, 0, 2))), (2, .inl (nI b)), (3, .inl 6)], [.inl (σ 5 0 2 (nI b).toNatClampNeg)], σ) [vp_in (nI b) 8] rfl ?_ ?_
  · exact allP1 (by exact in8 hb8)
  rw [cl8 (k := b) hb8, (hR.2 b hb).1]
  refine AW.run 5 [] (11, [(6, .inl 0), (5, .inl 0), (4, .inl (nI (Sk S b))), (0, .inr (.inr (5, 0, 0))), (1, .inr (.inr (5, 0, 2))), (2, .inl (nI b)), (3, .inl 6)], [], σ) [] rfl ?_ ?_
  · exact trivial
  refine AW.pick [3, 4, 5, 6, 2, 1, 0] (ls' := [(0, .inr (.inr (5, 0, 0))), (1, .inr (.inr (5, 0, 2))), (2, .inl (nI b)), (3, .inl 6), (4, .inl (nI (Sk S b))), (5, .inl (orI (knF S b w m) 0)), (6, .inl (nI 0))]) rfl ?_
  refine AW.loop (α := Nat) 11 6 (fun i _ => [(0, .inr (.inr (5, 0, 0))), (1, .inr (.inr (5, 0, 2))), (2, .inl (nI b)), (3, .inl 6), (4, .inl (nI (Sk S b))), (5, .inl (orI (knF S b w m) i)), (6, .inl (nI i))]) (fun i p τ => p ≤ 5 ∧ Fr P2 σ τ ∧ RepM (τ 5 0) (withK S (fu (Sk S) b p) (Sf S))) ?_ ?_ 6 0 (Sk S b) _ (by omega) ⟨by omega, fr_rfl, by rw [fu_self]; exact hR⟩
  · intro i p τ hi hI hk
    obtain ⟨hp9, hS1, hR1⟩ := hI
    refine AW.run 7 [false] (22, [(0, .inr (.inr (5, 0, 0))), (1, .inr (.inr (5, 0, 2))), (2, .inl (nI b)), (3, .inl 6), (4, .inl (nI (Sk S b))), (5, .inl (orI (knF S b w m) i)), (6, .inl (nI i))], [], (setM τ 5 0 2 (nI b).toNatClampNeg (nI i))) [¬ icP .ge (nI i) 6, vp_in (nI b) 8] rfl ?_ ?_
    · exact ⟨(nle_lit (a := 6) hi (by decide)), allP1 (by exact in8 hb8)⟩
    rw [cl8 (k := b) hb8]
    obtain ⟨τ139, e139⟩ : ∃ x, x = setM τ 5 0 2 b (nI i) := ⟨_, rfl⟩
    rw [← e139]
    have r139 : RepM (τ139 5 0) (withK S (fu (Sk S) b i) (Sf S)) := by rw [e139]; exact (repM_kx hR1)
    have f139 : Fr P1 τ τ139 := by rw [e139]; exact fr_set fr_rfl (by unfold P1; omega)
    refine AW.run 3 [] (26, [(0, .inr (.inr (5, 0, 0))), (1, .inr (.inr (5, 0, 2))), (2, .inl (nI b)), (3, .inl 6), (4, .inl (nI (Sk S b))), (5, .inl (orI (knF S b w m) i)), (6, .inl (nI i))], [.inl (nI b), .inr (.inr (5, 0, 0)), .inl (orI (knF S b w m) i)], τ139) [] rfl ?_ ?_
    · exact trivial
    refine AW.callVI (d' := 5) [.inl (nI b)] [.inl (orI (knF S b w m) i)] ⟨_, rfl⟩ f_6_isPressedSo v_6_isPressedSo l_6_250 ⟨rfl, by decide⟩ rfl (Nat.le_of_ble_eq_true rfl) rfl (Nat.le_of_ble_eq_true rfl) (c6_isPressedSo (withK S (fu (Sk S) b i) (Sf S)) τ139 r139 (SOK_k2 hO hb (by omega)) b hb w m (hW.mv (fr_trans hS1 (fr_12 f139)))) ?_
    rintro v9 τ140 ⟨f140, r140, hv9⟩
    rcases hv9 with ⟨rfl, hpp⟩ | ⟨rfl, hpp⟩
    · skip
      refine AW.run 6 [false] (41, [(0, .inr (.inr (5, 0, 0))), (1, .inr (.inr (5, 0, 2))), (2, .inl (nI b)), (3, .inl 6), (4, .inl (nI (Sk S b))), (5, .inl (orI (knF S b w m) i)), (6, .inl (nI i))], [.inl ((orI (knF S b w m) i) ||| (1 <<< ((nI i) &&& 31)))], τ140) [¬ icP .eq (1 : Int32) 0] rfl ?_ ?_
      · exact allP1 (by decide : ¬ ((1 : Int32) = 0))
      rw [orI_t (show (knF S b w m) i = true from by unfold knF; rw [fu_self]; exact hpp)]
      refine AW.run 3 [] (11, [(6, .inl ((nI i) + 1)), (5, .inl (orI (knF S b w m) (i + 1))), (0, .inr (.inr (5, 0, 0))), (1, .inr (.inr (5, 0, 2))), (2, .inl (nI b)), (3, .inl 6), (4, .inl (nI (Sk S b)))], [], τ140) [] rfl ?_ ?_
      · exact trivial
      rw [nI_1 i]
      refine AW.pick [2, 3, 4, 5, 6, 1, 0] (ls' := [(0, .inr (.inr (5, 0, 0))), (1, .inr (.inr (5, 0, 2))), (2, .inl (nI b)), (3, .inl 6), (4, .inl (nI (Sk S b))), (5, .inl (orI (knF S b w m) (i + 1))), (6, .inl (nI (i + 1)))]) rfl ?_
      exact hk i τ140 ⟨by omega, (fr_trans (fr_trans hS1 (fr_12 f139)) f140), r140⟩
    · skip
      refine AW.run 3 [true] (41, [(0, .inr (.inr (5, 0, 0))), (1, .inr (.inr (5, 0, 2))), (2, .inl (nI b)), (3, .inl 6), (4, .inl (nI (Sk S b))), (5, .inl (orI (knF S b w m) i)), (6, .inl (nI i))], [.inl ((orI (knF S b w m) i) ||| 0)], τ140) [icP .eq (0 : Int32) 0] rfl ?_ ?_
      · exact allP1 (by decide : ((0 : Int32) = 0))
      rw [orI_f (show (knF S b w m) i = false from by unfold knF; rw [fu_self]; exact hpp)]
      refine AW.run 3 [] (11, [(6, .inl ((nI i) + 1)), (5, .inl (orI (knF S b w m) (i + 1))), (0, .inr (.inr (5, 0, 0))), (1, .inr (.inr (5, 0, 2))), (2, .inl (nI b)), (3, .inl 6), (4, .inl (nI (Sk S b)))], [], τ140) [] rfl ?_ ?_
      · exact trivial
      rw [nI_1 i]
      refine AW.pick [2, 3, 4, 5, 6, 1, 0] (ls' := [(0, .inr (.inr (5, 0, 0))), (1, .inr (.inr (5, 0, 2))), (2, .inl (nI b)), (3, .inl 6), (4, .inl (nI (Sk S b))), (5, .inl (orI (knF S b w m) (i + 1))), (6, .inl (nI (i + 1)))]) rfl ?_
      exact hk i τ140 ⟨by omega, (fr_trans (fr_trans hS1 (fr_12 f139)) f140), r140⟩
  · intro p τ hI
    obtain ⟨hp9, hS1, hR1⟩ := hI
    refine AW.run 7 [true] (54, [(0, .inr (.inr (5, 0, 0))), (1, .inr (.inr (5, 0, 2))), (2, .inl (nI b)), (3, .inl 6), (4, .inl (nI (Sk S b))), (5, .inl (orI (knF S b w m) 6)), (6, .inl (nI 6))], [], (setM τ 5 0 2 (nI b).toNatClampNeg (nI (Sk S b)))) [icP .ge (nI 6) 6, vp_in (nI b) 8] rfl ?_ ?_
    · exact ⟨(le_lit (a := 6) (b := 6) (by decide) (by decide)), allP1 (by exact in8 hb8)⟩
    rw [cl8 (k := b) hb8]
    obtain ⟨τ141, e141⟩ : ∃ x, x = setM τ 5 0 2 b (nI (Sk S b)) := ⟨_, rfl⟩
    rw [← e141]
    have r141 : RepM (τ141 5 0) S := by rw [e141]; exact (repM_kb hR1)
    have f141 : Fr P1 τ τ141 := by rw [e141]; exact fr_set fr_rfl (by unfold P1; omega)
    refine AW.run 1 [] (56, [(0, .inr (.inr (5, 0, 0))), (1, .inr (.inr (5, 0, 2))), (2, .inl (nI b)), (3, .inl 6), (4, .inl (nI (Sk S b))), (5, .inl (orI (knF S b w m) 6)), (6, .inl (nI 6))], [.inl (orI (knF S b w m) 6)], τ141) [] rfl ?_ ?_
    · exact trivial
    refine AW.reti ⟨_, rfl⟩ rfl ?_
    exact ⟨rfl, (fr_trans hS1 (fr_12 f141)), r141⟩
set_option maxHeartbeats 4000000 in
set_option maxRecDepth 100000 in
theorem c6_bitsFor3 (S : Sv) (σ : St) (hR : RepM (σ 5 0) S) (hO : SOK S) (b : Nat) (hb : b < Sn S) (w : Nat → Nat) (m : Nat) (hW : RowM σ w m) : Ct M6_bitsFor 6 [.inr (.inr (5, 0, 0)), .inr (.inr (5, 0, 3)), .inl (nI b), .inl 10] σ (PI fun r9 σ' => orI (fgF S b w m) 10 = r9 ∧ Fr P2 σ σ' ∧ RepM (σ' 5 0) S) := by
  refine Ct.of f_6_bitsFor (Nat.le_of_ble_eq_true rfl) ?_
  show AW M6_bitsFor 6 _ (0, [(0, .inr (.inr (5, 0, 0))), (1, .inr (.inr (5, 0, 3))), (2, .inl (nI b)), (3, .inl 10)], [], σ)
  have hn8 : Sn S ≤ 8 := hO.1
  have hb8 : b < 8 := by omega
  have hkk := (hO.2.1 b).1
  have hff := (hO.2.1 b).2.1
  refine AW.run 3 [] (3, [(0, .inr (.inr (5, 0, 0))), (1, .inr (.inr (5, 0, 3))), (2, .inl (nI b)), (3, .inl 10)], [.inl (σ 5 0 3 (nI b).toNatClampNeg)], σ) [vp_in (nI b) 8] rfl ?_ ?_
  · exact allP1 (by exact in8 hb8)
  rw [cl8 (k := b) hb8, (hR.2 b hb).2.1]
  refine AW.run 5 [] (11, [(6, .inl 0), (5, .inl 0), (4, .inl (nI (Sf S b))), (0, .inr (.inr (5, 0, 0))), (1, .inr (.inr (5, 0, 3))), (2, .inl (nI b)), (3, .inl 10)], [], σ) [] rfl ?_ ?_
  · exact trivial
  refine AW.pick [3, 4, 5, 6, 2, 1, 0] (ls' := [(0, .inr (.inr (5, 0, 0))), (1, .inr (.inr (5, 0, 3))), (2, .inl (nI b)), (3, .inl 10), (4, .inl (nI (Sf S b))), (5, .inl (orI (fgF S b w m) 0)), (6, .inl (nI 0))]) rfl ?_
  refine AW.loop (α := Nat) 11 10 (fun i _ => [(0, .inr (.inr (5, 0, 0))), (1, .inr (.inr (5, 0, 3))), (2, .inl (nI b)), (3, .inl 10), (4, .inl (nI (Sf S b))), (5, .inl (orI (fgF S b w m) i)), (6, .inl (nI i))]) (fun i p τ => p ≤ 9 ∧ Fr P2 σ τ ∧ RepM (τ 5 0) (withK S (Sk S) (fu (Sf S) b p))) ?_ ?_ 10 0 (Sf S b) _ (by omega) ⟨by omega, fr_rfl, by rw [fu_self]; exact hR⟩
  · intro i p τ hi hI hk
    obtain ⟨hp9, hS1, hR1⟩ := hI
    refine AW.run 7 [false] (22, [(0, .inr (.inr (5, 0, 0))), (1, .inr (.inr (5, 0, 3))), (2, .inl (nI b)), (3, .inl 10), (4, .inl (nI (Sf S b))), (5, .inl (orI (fgF S b w m) i)), (6, .inl (nI i))], [], (setM τ 5 0 3 (nI b).toNatClampNeg (nI i))) [¬ icP .ge (nI i) 10, vp_in (nI b) 8] rfl ?_ ?_
    · exact ⟨(nle_lit (a := 10) hi (by decide)), allP1 (by exact in8 hb8)⟩
    rw [cl8 (k := b) hb8]
    obtain ⟨τ142, e142⟩ : ∃ x, x = setM τ 5 0 3 b (nI i) := ⟨_, rfl⟩
    rw [← e142]
    have r142 : RepM (τ142 5 0) (withK S (Sk S) (fu (Sf S) b i)) := by rw [e142]; exact (repM_fx hR1)
    have f142 : Fr P1 τ τ142 := by rw [e142]; exact fr_set fr_rfl (by unfold P1; omega)
    refine AW.run 3 [] (26, [(0, .inr (.inr (5, 0, 0))), (1, .inr (.inr (5, 0, 3))), (2, .inl (nI b)), (3, .inl 10), (4, .inl (nI (Sf S b))), (5, .inl (orI (fgF S b w m) i)), (6, .inl (nI i))], [.inl (nI b), .inr (.inr (5, 0, 0)), .inl (orI (fgF S b w m) i)], τ142) [] rfl ?_ ?_
    · exact trivial
    refine AW.callVI (d' := 5) [.inl (nI b)] [.inl (orI (fgF S b w m) i)] ⟨_, rfl⟩ f_6_isPressedSo v_6_isPressedSo l_6_250 ⟨rfl, by decide⟩ rfl (Nat.le_of_ble_eq_true rfl) rfl (Nat.le_of_ble_eq_true rfl) (c6_isPressedSo (withK S (Sk S) (fu (Sf S) b i)) τ142 r142 (SOK_f2 hO hb (by omega)) b hb w m (hW.mv (fr_trans hS1 (fr_12 f142)))) ?_
    rintro v9 τ143 ⟨f143, r143, hv9⟩
    rcases hv9 with ⟨rfl, hpp⟩ | ⟨rfl, hpp⟩
    · skip
      refine AW.run 6 [false] (41, [(0, .inr (.inr (5, 0, 0))), (1, .inr (.inr (5, 0, 3))), (2, .inl (nI b)), (3, .inl 10), (4, .inl (nI (Sf S b))), (5, .inl (orI (fgF S b w m) i)), (6, .inl (nI i))], [.inl ((orI (fgF S b w m) i) ||| (1 <<< ((nI i) &&& 31)))], τ143) [¬ icP .eq (1 : Int32) 0] rfl ?_ ?_
      · exact allP1 (by decide : ¬ ((1 : Int32) = 0))
      rw [orI_t (show (fgF S b w m) i = true from by unfold fgF; rw [fu_self]; exact hpp)]
      refine AW.run 3 [] (11, [(6, .inl ((nI i) + 1)), (5, .inl (orI (fgF S b w m) (i + 1))), (0, .inr (.inr (5, 0, 0))), (1, .inr (.inr (5, 0, 3))), (2, .inl (nI b)), (3, .inl 10), (4, .inl (nI (Sf S b)))], [], τ143) [] rfl ?_ ?_
      · exact trivial
      rw [nI_1 i]
      refine AW.pick [2, 3, 4, 5, 6, 1, 0] (ls' := [(0, .inr (.inr (5, 0, 0))), (1, .inr (.inr (5, 0, 3))), (2, .inl (nI b)), (3, .inl 10), (4, .inl (nI (Sf S b))), (5, .inl (orI (fgF S b w m) (i + 1))), (6, .inl (nI (i + 1)))]) rfl ?_
      exact hk i τ143 ⟨by omega, (fr_trans (fr_trans hS1 (fr_12 f142)) f143), r143⟩
    · skip
      refine AW.run 3 [true] (41, [(0, .inr (.inr (5, 0, 0))), (1, .inr (.inr (5, 0, 3))), (2, .inl (nI b)), (3, .inl 10), (4, .inl (nI (Sf S b))), (5, .inl (orI (fgF S b w m) i)), (6, .inl (nI i))], [.inl ((orI (fgF S b w m) i) ||| 0)], τ143) [icP .eq (0 : Int32) 0] rfl ?_ ?_
      · exact allP1 (by decide : ((0 : Int32) = 0))
      rw [orI_f (show (fgF S b w m) i = false from by unfold fgF; rw [fu_self]; exact hpp)]
      refine AW.run 3 [] (11, [(6, .inl ((nI i) + 1)), (5, .inl (orI (fgF S b w m) (i + 1))), (0, .inr (.inr (5, 0, 0))), (1, .inr (.inr (5, 0, 3))), (2, .inl (nI b)), (3, .inl 10), (4, .inl (nI (Sf S b)))], [], τ143) [] rfl ?_ ?_
      · exact trivial
      rw [nI_1 i]
      refine AW.pick [2, 3, 4, 5, 6, 1, 0] (ls' := [(0, .inr (.inr (5, 0, 0))), (1, .inr (.inr (5, 0, 3))), (2, .inl (nI b)), (3, .inl 10), (4, .inl (nI (Sf S b))), (5, .inl (orI (fgF S b w m) (i + 1))), (6, .inl (nI (i + 1)))]) rfl ?_
      exact hk i τ143 ⟨by omega, (fr_trans (fr_trans hS1 (fr_12 f142)) f143), r143⟩
  · intro p τ hI
    obtain ⟨hp9, hS1, hR1⟩ := hI
    refine AW.run 7 [true] (54, [(0, .inr (.inr (5, 0, 0))), (1, .inr (.inr (5, 0, 3))), (2, .inl (nI b)), (3, .inl 10), (4, .inl (nI (Sf S b))), (5, .inl (orI (fgF S b w m) 10)), (6, .inl (nI 10))], [], (setM τ 5 0 3 (nI b).toNatClampNeg (nI (Sf S b)))) [icP .ge (nI 10) 10, vp_in (nI b) 8] rfl ?_ ?_
    · exact ⟨(le_lit (a := 10) (b := 10) (by decide) (by decide)), allP1 (by exact in8 hb8)⟩
    rw [cl8 (k := b) hb8]
    obtain ⟨τ144, e144⟩ : ∃ x, x = setM τ 5 0 3 b (nI (Sf S b)) := ⟨_, rfl⟩
    rw [← e144]
    have r144 : RepM (τ144 5 0) S := by rw [e144]; exact (repM_fb hR1)
    have f144 : Fr P1 τ τ144 := by rw [e144]; exact fr_set fr_rfl (by unfold P1; omega)
    refine AW.run 1 [] (56, [(0, .inr (.inr (5, 0, 0))), (1, .inr (.inr (5, 0, 3))), (2, .inl (nI b)), (3, .inl 10), (4, .inl (nI (Sf S b))), (5, .inl (orI (fgF S b w m) 10)), (6, .inl (nI 10))], [.inl (orI (fgF S b w m) 10)], τ144) [] rfl ?_ ?_
    · exact trivial
    refine AW.reti ⟨_, rfl⟩ rfl ?_
    exact ⟨rfl, (fr_trans hS1 (fr_12 f144)), r144⟩
set_option maxHeartbeats 4000000 in
set_option maxRecDepth 100000 in
theorem d6_whatKind (F : Gv) (σ : St) (hD : RepD σ F) (hG : GOK F) (b : Int32) (w : Int32) : Ct M6_whatKind 7 [.inr (.inr (5, 0, 0)), .inl b, .inl w] σ (QD σ (whatKindP F b w)) := by
  refine Ct.of f_6_whatKind (Nat.le_of_ble_eq_true rfl) ?_
  show AW M6_whatKind 7 _ (0, [(0, .inr (.inr (5, 0, 0))), (1, .inl b), (2, .inl w)], [], σ)
  have hF : FOK F := hG.1
  have hR : RepM (σ 5 0) F.1 := hD.1
  have hO : SOK F.1 := hF.1.1
  have hn8 : Sn F.1 ≤ 8 := hO.1
  have e7 := hR.1.1
  rcases bot_or (Sn F.1) b with ⟨k, hk, rfl⟩ | hnok
  · skip
    have h8k : k < 8 := by omega
    by_cases h0w : w = 0
    · subst h0w
      refine AW.run 2 [] (2, [(0, .inr (.inr (5, 0, 0))), (1, .inl (nI k)), (2, .inl 0)], [.inl (nI k), .inr (.inr (5, 0, 0))], σ) [] rfl ?_ ?_
      · exact trivial
      refine AW.callVI (d' := 0) [.inl (nI k)] [] ⟨_, rfl⟩ f_6_isBottle v_6_isBottle l_6_105 ⟨rfl, by decide⟩ rfl (Nat.le_of_ble_eq_true rfl) rfl (Nat.le_of_ble_eq_true rfl) (c6_isBottle1 (Sn F.1) σ e7 hn8 k hk) ?_
      rintro _ _ ⟨rfl, rfl⟩
      refine AW.run 4 [true] (15, [(0, .inr (.inr (5, 0, 0))), (1, .inl (nI k)), (2, .inl 0)], [.inl 1, .inl 0, .inl 0], σ) [icP .ne (1 : Int32) 0] rfl ?_ ?_
      · exact allP1 (by decide : (¬ (1 : Int32) = 0))
      refine AW.callSI (d' := 0) [.inl 0, .inl 0, .inl 1] [] ⟨_, rfl⟩ f_6_isIn s_6_isIn l_6_80 rfl (Nat.le_of_ble_eq_true rfl) rfl (Nat.le_of_ble_eq_true rfl) (c6_isIn1 0 0 1 (by decide) (by decide) σ) ?_
      rintro _ _ ⟨rfl, rfl⟩
      refine AW.run 12 [true, true, false] (50, [(3, .inl 0), (0, .inr (.inr (5, 0, 0))), (1, .inl (nI k)), (2, .inl 0)], [.inl 6, .inl (nI k), .inr (.inr (5, 0, 2)), .inr (.inr (5, 0, 0))], σ) [icP .ne (1 : Int32) 0, icP .eq (0 : Int32) 0, ¬ icP .ne (0 : Int32) 0] rfl ?_ ?_
      · exact ⟨(by decide : (¬ (1 : Int32) = 0)), (by decide : ((0 : Int32) = 0)), allP1 (by decide : ¬ (¬ (0 : Int32) = 0))⟩
      refine AW.callVI (d' := 6) [.inr (.inr (5, 0, 2)), .inl (nI k), .inl 6] [] ⟨_, rfl⟩ f_6_bitsFor v_6_bitsFor l_6_253 ⟨rfl, by decide⟩ rfl (Nat.le_of_ble_eq_true rfl) rfl (Nat.le_of_ble_eq_true rfl) (c6_bitsFor2 F.1 σ hR hO k hk F.2.2.1.2 F.2.2.1.1 hD.2.2.1) ?_
      rintro _ τ9 ⟨rfl, f9, r9⟩
      refine AW.run 1 [] (67, [(3, .inl 0), (0, .inr (.inr (5, 0, 0))), (1, .inl (nI k)), (2, .inl 0)], [.inl (orI (knF F.1 k F.2.2.1.2 F.2.2.1.1) 6)], τ9) [] rfl ?_ ?_
      · exact trivial
      refine AW.reti ⟨_, rfl⟩ rfl ?_
      exact ⟨F, (by unfold whatKindP; rw [botP_some hk hn8, twoP_0]; try rfl), QD_fr hF f9 hD r9⟩
    by_cases h1w : w = 1
    · subst h1w
      refine AW.run 2 [] (2, [(0, .inr (.inr (5, 0, 0))), (1, .inl (nI k)), (2, .inl 1)], [.inl (nI k), .inr (.inr (5, 0, 0))], σ) [] rfl ?_ ?_
      · exact trivial
      refine AW.callVI (d' := 0) [.inl (nI k)] [] ⟨_, rfl⟩ f_6_isBottle v_6_isBottle l_6_105 ⟨rfl, by decide⟩ rfl (Nat.le_of_ble_eq_true rfl) rfl (Nat.le_of_ble_eq_true rfl) (c6_isBottle1 (Sn F.1) σ e7 hn8 k hk) ?_
      rintro _ _ ⟨rfl, rfl⟩
      refine AW.run 4 [true] (15, [(0, .inr (.inr (5, 0, 0))), (1, .inl (nI k)), (2, .inl 1)], [.inl 1, .inl 0, .inl 1], σ) [icP .ne (1 : Int32) 0] rfl ?_ ?_
      · exact allP1 (by decide : (¬ (1 : Int32) = 0))
      refine AW.callSI (d' := 0) [.inl 1, .inl 0, .inl 1] [] ⟨_, rfl⟩ f_6_isIn s_6_isIn l_6_80 rfl (Nat.le_of_ble_eq_true rfl) rfl (Nat.le_of_ble_eq_true rfl) (c6_isIn1 1 0 1 (by decide) (by decide) σ) ?_
      rintro _ _ ⟨rfl, rfl⟩
      refine AW.run 12 [true, true, true] (64, [(3, .inl 0), (0, .inr (.inr (5, 0, 0))), (1, .inl (nI k)), (2, .inl 1)], [.inl 10, .inl (nI k), .inr (.inr (5, 0, 3)), .inr (.inr (5, 0, 0))], σ) [icP .ne (1 : Int32) 0, icP .eq (0 : Int32) 0, icP .ne (1 : Int32) 0] rfl ?_ ?_
      · exact ⟨(by decide : (¬ (1 : Int32) = 0)), (by decide : ((0 : Int32) = 0)), allP1 (by decide : (¬ (1 : Int32) = 0))⟩
      refine AW.callVI (d' := 6) [.inr (.inr (5, 0, 3)), .inl (nI k), .inl 10] [] ⟨_, rfl⟩ f_6_bitsFor v_6_bitsFor l_6_253 ⟨rfl, by decide⟩ rfl (Nat.le_of_ble_eq_true rfl) rfl (Nat.le_of_ble_eq_true rfl) (c6_bitsFor3 F.1 σ hR hO k hk F.2.2.1.2 F.2.2.1.1 hD.2.2.1) ?_
      rintro _ τ9 ⟨rfl, f9, r9⟩
      refine AW.reti ⟨_, rfl⟩ rfl ?_
      exact ⟨F, (by unfold whatKindP; rw [botP_some hk hn8, twoP_1]; try rfl), QD_fr hF f9 hD r9⟩
    · skip
      refine AW.run 2 [] (2, [(0, .inr (.inr (5, 0, 0))), (1, .inl (nI k)), (2, .inl w)], [.inl (nI k), .inr (.inr (5, 0, 0))], σ) [] rfl ?_ ?_
      · exact trivial
      refine AW.callVI (d' := 0) [.inl (nI k)] [] ⟨_, rfl⟩ f_6_isBottle v_6_isBottle l_6_105 ⟨rfl, by decide⟩ rfl (Nat.le_of_ble_eq_true rfl) rfl (Nat.le_of_ble_eq_true rfl) (c6_isBottle1 (Sn F.1) σ e7 hn8 k hk) ?_
      rintro _ _ ⟨rfl, rfl⟩
      refine AW.run 4 [true] (15, [(0, .inr (.inr (5, 0, 0))), (1, .inl (nI k)), (2, .inl w)], [.inl 1, .inl 0, .inl w], σ) [icP .ne (1 : Int32) 0] rfl ?_ ?_
      · exact allP1 (by decide : (¬ (1 : Int32) = 0))
      refine AW.callSI (d' := 0) [.inl w, .inl 0, .inl 1] [] ⟨_, rfl⟩ f_6_isIn s_6_isIn l_6_80 rfl (Nat.le_of_ble_eq_true rfl) rfl (Nat.le_of_ble_eq_true rfl) (c6_isIn0 w 0 1 (in_01 h0w h1w) σ) ?_
      rintro _ _ ⟨rfl, rfl⟩
      refine AW.run 8 [false, false] (34, [(3, .inl (-2)), (0, .inr (.inr (5, 0, 0))), (1, .inl (nI k)), (2, .inl w)], [.inl (-2), .inr (.inr (5, 0, 0))], σ) [¬ icP .ne (0 : Int32) 0, ¬ icP .eq ((-2) : Int32) 0] rfl ?_ ?_
      · exact ⟨(by decide : ¬ (¬ (0 : Int32) = 0)), allP1 (by decide : ¬ (((-2) : Int32) = 0))⟩
      refine AW.callVI (d' := 0) [.inl (-2)] [] ⟨_, rfl⟩ f_6_no v_6_no l_6_69 ⟨rfl, by decide⟩ rfl (Nat.le_of_ble_eq_true rfl) rfl (Nat.le_of_ble_eq_true rfl) (c6_no2 σ) ?_
      rintro _ _ ⟨rfl, rfl⟩
      refine AW.reti ⟨_, rfl⟩ rfl ?_
      exact ⟨rfuF F 2, (by unfold whatKindP; rw [botP_some hk hn8, twoP_N h0w h1w]; try rfl), RepD_ref hF hD (by decide) (by decide)⟩
  · skip
    refine AW.run 2 [] (2, [(0, .inr (.inr (5, 0, 0))), (1, .inl b), (2, .inl w)], [.inl b, .inr (.inr (5, 0, 0))], σ) [] rfl ?_ ?_
    · exact trivial
    refine AW.callVI (d' := 0) [.inl b] [] ⟨_, rfl⟩ f_6_isBottle v_6_isBottle l_6_105 ⟨rfl, by decide⟩ rfl (Nat.le_of_ble_eq_true rfl) rfl (Nat.le_of_ble_eq_true rfl) (c6_isBottle0 (Sn F.1) σ e7 hn8 b hnok) ?_
    rintro _ _ ⟨rfl, rfl⟩
    refine AW.run 8 [false, false] (34, [(3, .inl (-1)), (0, .inr (.inr (5, 0, 0))), (1, .inl b), (2, .inl w)], [.inl (-1), .inr (.inr (5, 0, 0))], σ) [¬ icP .ne (0 : Int32) 0, ¬ icP .eq ((-1) : Int32) 0] rfl ?_ ?_
    · exact ⟨(by decide : ¬ (¬ (0 : Int32) = 0)), allP1 (by decide : ¬ (((-1) : Int32) = 0))⟩
    refine AW.callVI (d' := 0) [.inl (-1)] [] ⟨_, rfl⟩ f_6_no v_6_no l_6_69 ⟨rfl, by decide⟩ rfl (Nat.le_of_ble_eq_true rfl) rfl (Nat.le_of_ble_eq_true rfl) (c6_no1 σ) ?_
    rintro _ _ ⟨rfl, rfl⟩
    refine AW.reti ⟨_, rfl⟩ rfl ?_
    exact ⟨rfuF F 1, (by unfold whatKindP; rw [botP_none hnok]; try rfl), RepD_ref hF hD (by decide) (by decide)⟩
set_option maxHeartbeats 4000000 in
set_option maxRecDepth 100000 in
theorem d6_near (F : Gv) (σ : St) (hD : RepD σ F) (hG : GOK F) (b : Int32) : Ct M6_near 3 [.inr (.inr (5, 0, 0)), .inl b] σ (QD σ (nearP F b)) := by
  refine Ct.of f_6_near (Nat.le_of_ble_eq_true rfl) ?_
  show AW M6_near 3 _ (0, [(0, .inr (.inr (5, 0, 0))), (1, .inl b)], [], σ)
  have hF : FOK F := hG.1
  have hR : RepM (σ 5 0) F.1 := hD.1
  have hO : SOK F.1 := hF.1.1
  have hn8 : Sn F.1 ≤ 8 := hO.1
  have e7 := hR.1.1
  rcases bot_or (Sn F.1) b with ⟨k, hk, rfl⟩ | hnok
  · skip
    have h8k : k < 8 := by omega
    refine AW.run 2 [] (2, [(0, .inr (.inr (5, 0, 0))), (1, .inl (nI k))], [.inl (nI k), .inr (.inr (5, 0, 0))], σ) [] rfl ?_ ?_
    · exact trivial
    refine AW.callVI (d' := 0) [.inl (nI k)] [] ⟨_, rfl⟩ f_6_isBottle v_6_isBottle l_6_105 ⟨rfl, by decide⟩ rfl (Nat.le_of_ble_eq_true rfl) rfl (Nat.le_of_ble_eq_true rfl) (c6_isBottle1 (Sn F.1) σ e7 hn8 k hk) ?_
    rintro _ _ ⟨rfl, rfl⟩
    refine AW.run 5 [true] (18, [(3, .inl 0), (2, .inl 0), (0, .inr (.inr (5, 0, 0))), (1, .inl (nI k))], [], σ) [icP .ne (1 : Int32) 0] rfl ?_ ?_
    · exact allP1 (by decide : (¬ (1 : Int32) = 0))
    refine AW.pick [2, 3, 1, 0] (ls' := [(0, .inr (.inr (5, 0, 0))), (1, .inl (nI k)), (2, .inl 0), (3, .inl (nI 0))]) rfl ?_
    refine AW.eq (c' := (18, [(0, .inr (.inr (5, 0, 0))), (1, .inl (nI k)), (2, .inl (bI (pre (nearW F.1 k 8) 0))), (3, .inl (nI 0))], [], σ)) (by rw [pre_0]) ?_
    refine AW.loop (α := Unit) 18 (Sn F.1) (fun i _ => [(0, .inr (.inr (5, 0, 0))), (1, .inl (nI k)), (2, .inl (bI (pre (nearW F.1 k 8) i))), (3, .inl (nI i))]) (fun i _ τ => σ = τ) ?_ ?_ (Sn F.1) 0 () _ (by omega) rfl
    · intro i _ τ hi hI hk9
      subst hI
      have hi8 : i < 8 := by omega
      refine AW.run 3 [] (23, [(0, .inr (.inr (5, 0, 0))), (1, .inl (nI k)), (2, .inl (bI (pre (nearW F.1 k 8) i))), (3, .inl (nI i))], [.inl (σ 5 0 0 7), .inl (nI i)], σ) [] rfl ?_ ?_
      · exact trivial
      rw [e7]
      refine AW.run 4 [false] (29, [(0, .inr (.inr (5, 0, 0))), (1, .inl (nI k)), (2, .inl (bI (pre (nearW F.1 k 8) i))), (3, .inl (nI i))], [.inl (nI i), .inr (.inr (5, 0, 0)), .inl (bI (pre (nearW F.1 k 8) i))], σ) [¬ icP .ge (nI i) (nI (Sn F.1))] rfl ?_ ?_
      · exact allP1 (nI_ge hi (by omega))
      refine AW.callVI (d' := 0) [.inl (nI i)] [.inl (bI (pre (nearW F.1 k 8) i))] ⟨_, rfl⟩ f_6_isWhole v_6_isWhole l_6_108 ⟨rfl, by decide⟩ rfl (Nat.le_of_ble_eq_true rfl) rfl (Nat.le_of_ble_eq_true rfl) (c6_isWhole F.1 σ hR (by first | exact hO.1 | exact hn8) i hi) ?_
      rintro v _ ⟨rfl, hv⟩
      rcases hv with ⟨rfl, hp29⟩ | ⟨rfl, hp29⟩
      · skip
        refine AW.run 4 [false] (38, [(0, .inr (.inr (5, 0, 0))), (1, .inl (nI k)), (2, .inl (bI (pre (nearW F.1 k 8) i))), (3, .inl (nI i))], [.inl (nI i), .inl (nI k), .inr (.inr (5, 0, 0)), .inl (bI (pre (nearW F.1 k 8) i))], σ) [¬ icP .eq (1 : Int32) 0] rfl ?_ ?_
        · exact allP1 (by decide : ¬ ((1 : Int32) = 0))
        refine AW.callVI (d' := 1) [.inl (nI k), .inl (nI i)] [.inl (bI (pre (nearW F.1 k 8) i))] ⟨_, rfl⟩ f_6_areNear v_6_areNear l_6_164 ⟨rfl, by decide⟩ rfl (Nat.le_of_ble_eq_true rfl) rfl (Nat.le_of_ble_eq_true rfl) (c6_areNear F.1 σ hR hO k i hk hi) ?_
        rintro v _ ⟨rfl, hv⟩
        rcases hv with ⟨rfl, hp38⟩ | ⟨rfl, hp38⟩
        · skip
          refine AW.run 6 [false] (52, [(0, .inr (.inr (5, 0, 0))), (1, .inl (nI k)), (2, .inl (bI (pre (nearW F.1 k 8) i))), (3, .inl (nI i))], [.inl ((bI (pre (nearW F.1 k 8) i)) ||| (1 <<< ((nI i) &&& 31)))], σ) [¬ icP .eq (1 : Int32) 0] rfl ?_ ?_
          · exact allP1 (by decide : ¬ ((1 : Int32) = 0))
          rw [pre_t (nearW_iff.mpr ⟨hi8, Ne.symm hp38.1, hp29, hp38.2⟩) hi8]
          refine AW.run 3 [] (18, [(3, .inl ((nI i) + 1)), (2, .inl (bI (pre (nearW F.1 k 8) (i + 1)))), (0, .inr (.inr (5, 0, 0))), (1, .inl (nI k))], [], σ) [] rfl ?_ ?_
          · exact trivial
          rw [nI_1 i]
          refine AW.pick [2, 3, 1, 0] (ls' := [(0, .inr (.inr (5, 0, 0))), (1, .inl (nI k)), (2, .inl (bI (pre (nearW F.1 k 8) (i + 1)))), (3, .inl (nI (i + 1)))]) rfl ?_
          exact hk9 () _ rfl
        · skip
          refine AW.run 3 [true] (52, [(0, .inr (.inr (5, 0, 0))), (1, .inl (nI k)), (2, .inl (bI (pre (nearW F.1 k 8) i))), (3, .inl (nI i))], [.inl ((bI (pre (nearW F.1 k 8) i)) ||| 0)], σ) [icP .eq (0 : Int32) 0] rfl ?_ ?_
          · exact allP1 (by decide : ((0 : Int32) = 0))
          rw [pre_f (Bool.eq_false_iff.mpr (fun q => by have q := nearW_iff.mp q; first | exact absurd (hp29.symm.trans q.2.2.1) (by decide) | exact hp38 ⟨Ne.symm q.2.1, q.2.2.2⟩))]
          refine AW.run 3 [] (18, [(3, .inl ((nI i) + 1)), (2, .inl (bI (pre (nearW F.1 k 8) (i + 1)))), (0, .inr (.inr (5, 0, 0))), (1, .inl (nI k))], [], σ) [] rfl ?_ ?_
          · exact trivial
          rw [nI_1 i]
          refine AW.pick [2, 3, 1, 0] (ls' := [(0, .inr (.inr (5, 0, 0))), (1, .inl (nI k)), (2, .inl (bI (pre (nearW F.1 k 8) (i + 1)))), (3, .inl (nI (i + 1)))]) rfl ?_
          exact hk9 () _ rfl
      · skip
        refine AW.run 3 [true] (52, [(0, .inr (.inr (5, 0, 0))), (1, .inl (nI k)), (2, .inl (bI (pre (nearW F.1 k 8) i))), (3, .inl (nI i))], [.inl ((bI (pre (nearW F.1 k 8) i)) ||| 0)], σ) [icP .eq (0 : Int32) 0] rfl ?_ ?_
        · exact allP1 (by decide : ((0 : Int32) = 0))
        rw [pre_f (Bool.eq_false_iff.mpr (fun q => by have q := nearW_iff.mp q; first | exact absurd (hp29.symm.trans q.2.2.1) (by decide) | exact hp38 ⟨Ne.symm q.2.1, q.2.2.2⟩))]
        refine AW.run 3 [] (18, [(3, .inl ((nI i) + 1)), (2, .inl (bI (pre (nearW F.1 k 8) (i + 1)))), (0, .inr (.inr (5, 0, 0))), (1, .inl (nI k))], [], σ) [] rfl ?_ ?_
        · exact trivial
        rw [nI_1 i]
        refine AW.pick [2, 3, 1, 0] (ls' := [(0, .inr (.inr (5, 0, 0))), (1, .inl (nI k)), (2, .inl (bI (pre (nearW F.1 k 8) (i + 1)))), (3, .inl (nI (i + 1)))]) rfl ?_
        exact hk9 () _ rfl
    · intro _ τ hI
      subst hI
      refine AW.eq (c' := (18, [(0, .inr (.inr (5, 0, 0))), (1, .inl (nI k)), (2, .inl (bI (nearW F.1 k 8))), (3, .inl (nI (Sn F.1)))], [], σ)) (by rw [pre_end (fun j h => Bool.eq_false_iff.mpr (fun q => by have q := (nearW_iff.mp q).2.2.1; rw [w_out hO j h] at q; cases q))]) ?_
      refine AW.run 3 [] (23, [(0, .inr (.inr (5, 0, 0))), (1, .inl (nI k)), (2, .inl (bI (nearW F.1 k 8))), (3, .inl (nI (Sn F.1)))], [.inl (σ 5 0 0 7), .inl (nI (Sn F.1))], σ) [] rfl ?_ ?_
      · exact trivial
      rw [e7]
      refine AW.run 2 [true] (60, [(0, .inr (.inr (5, 0, 0))), (1, .inl (nI k)), (2, .inl (bI (nearW F.1 k 8))), (3, .inl (nI (Sn F.1)))], [.inl (bI (nearW F.1 k 8))], σ) [icP .ge (nI (Sn F.1)) (nI (Sn F.1))] rfl ?_ ?_
      · exact allP1 (nI_le (Nat.le_refl _) (by omega))
      refine AW.reti ⟨_, rfl⟩ rfl ?_
      exact ⟨F, (by unfold nearP; rw [botP_some hk hn8]; try rfl), QD_fr hF fr_rfl hD hR⟩
  · skip
    refine AW.run 2 [] (2, [(0, .inr (.inr (5, 0, 0))), (1, .inl b)], [.inl b, .inr (.inr (5, 0, 0))], σ) [] rfl ?_ ?_
    · exact trivial
    refine AW.callVI (d' := 0) [.inl b] [] ⟨_, rfl⟩ f_6_isBottle v_6_isBottle l_6_105 ⟨rfl, by decide⟩ rfl (Nat.le_of_ble_eq_true rfl) rfl (Nat.le_of_ble_eq_true rfl) (c6_isBottle0 (Sn F.1) σ e7 hn8 b hnok) ?_
    rintro _ _ ⟨rfl, rfl⟩
    refine AW.run 3 [false] (10, [(0, .inr (.inr (5, 0, 0))), (1, .inl b)], [.inl (-1), .inr (.inr (5, 0, 0))], σ) [¬ icP .ne (0 : Int32) 0] rfl ?_ ?_
    · exact allP1 (by decide : ¬ (¬ (0 : Int32) = 0))
    refine AW.callVI (d' := 0) [.inl (-1)] [] ⟨_, rfl⟩ f_6_no v_6_no l_6_69 ⟨rfl, by decide⟩ rfl (Nat.le_of_ble_eq_true rfl) rfl (Nat.le_of_ble_eq_true rfl) (c6_no1 σ) ?_
    rintro _ _ ⟨rfl, rfl⟩
    refine AW.reti ⟨_, rfl⟩ rfl ?_
    exact ⟨rfuF F 1, (by unfold nearP; rw [botP_none hnok]; try rfl), RepD_ref hF hD (by decide) (by decide)⟩
set_option maxHeartbeats 4000000 in
set_option maxRecDepth 100000 in
theorem d6_officers (F : Gv) (σ : St) (hD : RepD σ F) (hG : GOK F) (k : Int32) : Ct M6_officers 2 [.inr (.inr (5, 0, 0)), .inl k] σ (QD σ (officersP F k)) := by
  refine Ct.of f_6_officers (Nat.le_of_ble_eq_true rfl) ?_
  show AW M6_officers 2 _ (0, [(0, .inr (.inr (5, 0, 0))), (1, .inl k)], [], σ)
  have hF : FOK F := hG.1
  have hR : RepM (σ 5 0) F.1 := hD.1
  have hO : SOK F.1 := hF.1.1
  have hn8 : Sn F.1 ≤ 8 := hO.1
  have e7 := hR.1.1
  rcases bot_or 6 k with ⟨j, hj, rfl⟩ | hnp
  · skip
    refine AW.run 3 [] (3, [(0, .inr (.inr (5, 0, 0))), (1, .inl (nI j))], [.inl 5, .inl 0, .inl (nI j)], σ) [] rfl ?_ ?_
    · exact trivial
    refine AW.callSI (d' := 0) [.inl (nI j), .inl 0, .inl 5] [] ⟨_, rfl⟩ f_6_isIn s_6_isIn l_6_80 rfl (Nat.le_of_ble_eq_true rfl) rfl (Nat.le_of_ble_eq_true rfl) (c6_isIn1 (nI j) 0 5 (nI_pos' (by omega)) (nI_le (b := 5) (by omega) (by decide)) σ) ?_
    rintro _ _ ⟨rfl, rfl⟩
    refine AW.run 5 [true] (20, [(3, .inl 0), (2, .inl 0), (0, .inr (.inr (5, 0, 0))), (1, .inl (nI j))], [], σ) [icP .ne (1 : Int32) 0] rfl ?_ ?_
    · exact allP1 (by decide : (¬ (1 : Int32) = 0))
    refine AW.pick [2, 3, 1, 0] (ls' := [(0, .inr (.inr (5, 0, 0))), (1, .inl (nI j)), (2, .inl (nI (ksum F.1 j 0))), (3, .inl (nI 0))]) rfl ?_
    refine AW.loop (α := Unit) 20 (Sn F.1) (fun i _ => [(0, .inr (.inr (5, 0, 0))), (1, .inl (nI j)), (2, .inl (nI (ksum F.1 j i))), (3, .inl (nI i))]) (fun i _ τ => σ = τ) ?_ ?_ (Sn F.1) 0 () _ (by omega) rfl
    · intro i _ τ hi hI hk9
      subst hI
      have hi8 : i < 8 := by omega
      have hk5 := (hO.2.1 i).1
      have hu : ksum F.1 j (i + 1) = ksum F.1 j i + if Sw F.1 i = true ∧ Sk F.1 i = j then 1 else 0 := rfl
      refine AW.run 3 [] (25, [(0, .inr (.inr (5, 0, 0))), (1, .inl (nI j)), (2, .inl (nI (ksum F.1 j i))), (3, .inl (nI i))], [.inl (σ 5 0 0 7), .inl (nI i)], σ) [] rfl ?_ ?_
      · exact trivial
      rw [e7]
      refine AW.run 4 [false] (31, [(0, .inr (.inr (5, 0, 0))), (1, .inl (nI j)), (2, .inl (nI (ksum F.1 j i))), (3, .inl (nI i))], [.inl (nI i), .inr (.inr (5, 0, 0)), .inl (nI (ksum F.1 j i))], σ) [¬ icP .ge (nI i) (nI (Sn F.1))] rfl ?_ ?_
      · exact allP1 (nI_ge hi (by omega))
      refine AW.callVI (d' := 0) [.inl (nI i)] [.inl (nI (ksum F.1 j i))] ⟨_, rfl⟩ f_6_isWhole v_6_isWhole l_6_108 ⟨rfl, by decide⟩ rfl (Nat.le_of_ble_eq_true rfl) rfl (Nat.le_of_ble_eq_true rfl) (c6_isWhole F.1 σ hR (by first | exact hO.1 | exact hn8) i hi) ?_
      rintro v _ ⟨rfl, hv⟩
      rcases hv with ⟨rfl, hp31⟩ | ⟨rfl, hp31⟩
      · skip
        refine AW.run 5 [false] (43, [(0, .inr (.inr (5, 0, 0))), (1, .inl (nI j)), (2, .inl (nI (ksum F.1 j i))), (3, .inl (nI i))], [.inl (σ 5 0 2 (nI i).toNatClampNeg), .inl (nI (ksum F.1 j i))], σ) [¬ icP .eq (1 : Int32) 0, vp_in (nI i) 8] rfl ?_ ?_
        · exact ⟨(by decide : ¬ ((1 : Int32) = 0)), allP1 (by first | assumption | exact in8 (by omega))⟩
        rw [cl8 (k := i) hi8, (hR.2 i hi).1]
        by_cases h44_1 : Sk F.1 i = j
        · skip
          refine AW.run 5 [false] (53, [(0, .inr (.inr (5, 0, 0))), (1, .inl (nI j)), (2, .inl (nI (ksum F.1 j i))), (3, .inl (nI i))], [.inl ((nI (ksum F.1 j i)) + 1)], σ) [¬ icP .ne (nI (Sk F.1 i)) (nI j)] rfl ?_ ?_
          · exact allP1 (fun q => q (congrArg nI h44_1))
          rw [show nI (ksum F.1 j i) + 1 = nI (ksum F.1 j (i + 1)) from by rw [hu, if_pos ⟨hp31, by assumption⟩]; exact nI_1 _]
          refine AW.run 3 [] (20, [(3, .inl ((nI i) + 1)), (2, .inl (nI (ksum F.1 j (i + 1)))), (0, .inr (.inr (5, 0, 0))), (1, .inl (nI j))], [], σ) [] rfl ?_ ?_
          · exact trivial
          rw [nI_1 i]
          refine AW.pick [2, 3, 1, 0] (ls' := [(0, .inr (.inr (5, 0, 0))), (1, .inl (nI j)), (2, .inl (nI (ksum F.1 j (i + 1)))), (3, .inl (nI (i + 1)))]) rfl ?_
          exact hk9 () _ rfl
        · skip
          refine AW.run 4 [true] (53, [(0, .inr (.inr (5, 0, 0))), (1, .inl (nI j)), (2, .inl (nI (ksum F.1 j i))), (3, .inl (nI i))], [.inl ((nI (ksum F.1 j i)) + 0)], σ) [icP .ne (nI (Sk F.1 i)) (nI j)] rfl ?_ ?_
          · exact allP1 (fun q => h44_1 (nI_lit q (by omega) (by omega)))
          rw [show nI (ksum F.1 j i) + 0 = nI (ksum F.1 j (i + 1)) from by rw [hu, if_neg (fun q => by first | exact absurd (hp31.symm.trans q.1) (by decide) | exact absurd q.2 (by assumption))]; exact nI_add _ 0]
          refine AW.run 3 [] (20, [(3, .inl ((nI i) + 1)), (2, .inl (nI (ksum F.1 j (i + 1)))), (0, .inr (.inr (5, 0, 0))), (1, .inl (nI j))], [], σ) [] rfl ?_ ?_
          · exact trivial
          rw [nI_1 i]
          refine AW.pick [2, 3, 1, 0] (ls' := [(0, .inr (.inr (5, 0, 0))), (1, .inl (nI j)), (2, .inl (nI (ksum F.1 j (i + 1)))), (3, .inl (nI (i + 1)))]) rfl ?_
          exact hk9 () _ rfl
      · skip
        refine AW.run 3 [true] (53, [(0, .inr (.inr (5, 0, 0))), (1, .inl (nI j)), (2, .inl (nI (ksum F.1 j i))), (3, .inl (nI i))], [.inl ((nI (ksum F.1 j i)) + 0)], σ) [icP .eq (0 : Int32) 0] rfl ?_ ?_
        · exact allP1 (by decide : ((0 : Int32) = 0))
        rw [show nI (ksum F.1 j i) + 0 = nI (ksum F.1 j (i + 1)) from by rw [hu, if_neg (fun q => by first | exact absurd (hp31.symm.trans q.1) (by decide) | exact absurd q.2 (by assumption))]; exact nI_add _ 0]
        refine AW.run 3 [] (20, [(3, .inl ((nI i) + 1)), (2, .inl (nI (ksum F.1 j (i + 1)))), (0, .inr (.inr (5, 0, 0))), (1, .inl (nI j))], [], σ) [] rfl ?_ ?_
        · exact trivial
        rw [nI_1 i]
        refine AW.pick [2, 3, 1, 0] (ls' := [(0, .inr (.inr (5, 0, 0))), (1, .inl (nI j)), (2, .inl (nI (ksum F.1 j (i + 1)))), (3, .inl (nI (i + 1)))]) rfl ?_
        exact hk9 () _ rfl
    · intro _ τ hI
      subst hI
      refine AW.run 3 [] (25, [(0, .inr (.inr (5, 0, 0))), (1, .inl (nI j)), (2, .inl (nI (ksum F.1 j (Sn F.1)))), (3, .inl (nI (Sn F.1)))], [.inl (σ 5 0 0 7), .inl (nI (Sn F.1))], σ) [] rfl ?_ ?_
      · exact trivial
      rw [e7]
      refine AW.run 2 [true] (61, [(0, .inr (.inr (5, 0, 0))), (1, .inl (nI j)), (2, .inl (nI (ksum F.1 j (Sn F.1)))), (3, .inl (nI (Sn F.1)))], [.inl (nI (ksum F.1 j (Sn F.1)))], σ) [icP .ge (nI (Sn F.1)) (nI (Sn F.1))] rfl ?_ ?_
      · exact allP1 (nI_le (Nat.le_refl _) (by omega))
      refine AW.reti ⟨_, rfl⟩ rfl ?_
      exact ⟨F, (by unfold officersP; rw [botI_some hj (by decide)]; show (nI (ksum F.1 j 8), F) = _; rw [ksum_out hO 8 hn8]), QD_fr hF fr_rfl hD hR⟩
  · skip
    refine AW.run 3 [] (3, [(0, .inr (.inr (5, 0, 0))), (1, .inl k)], [.inl 5, .inl 0, .inl k], σ) [] rfl ?_ ?_
    · exact trivial
    refine AW.callSI (d' := 0) [.inl k, .inl 0, .inl 5] [] ⟨_, rfl⟩ f_6_isIn s_6_isIn l_6_80 rfl (Nat.le_of_ble_eq_true rfl) rfl (Nat.le_of_ble_eq_true rfl) (c6_isIn0 k 0 5 (in_ne (b := 5) (by decide) hnp) σ) ?_
    rintro _ _ ⟨rfl, rfl⟩
    refine AW.run 3 [false] (12, [(0, .inr (.inr (5, 0, 0))), (1, .inl k)], [.inl (-2), .inr (.inr (5, 0, 0))], σ) [¬ icP .ne (0 : Int32) 0] rfl ?_ ?_
    · exact allP1 (by decide : ¬ (¬ (0 : Int32) = 0))
    refine AW.callVI (d' := 0) [.inl (-2)] [] ⟨_, rfl⟩ f_6_no v_6_no l_6_69 ⟨rfl, by decide⟩ rfl (Nat.le_of_ble_eq_true rfl) rfl (Nat.le_of_ble_eq_true rfl) (c6_no2 σ) ?_
    rintro _ _ ⟨rfl, rfl⟩
    refine AW.reti ⟨_, rfl⟩ rfl ?_
    exact ⟨rfuF F 2, (by unfold officersP; rw [botI_none hnp]; try rfl), RepD_ref hF hD (by decide) (by decide)⟩
