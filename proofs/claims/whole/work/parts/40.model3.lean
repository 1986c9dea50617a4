set_option maxHeartbeats 4000000 in
set_option maxRecDepth 100000 in
theorem c6_areNear (S : Sv) (σ : St) (hR : RepM (σ 5 0) S) (hO : SOK S) (a b : Nat) (ha : a < Sn S) (hb : b < Sn S) : Ct M6_areNear 1 [.inr (.inr (5, 0, 0)), .inl (nI a), .inl (nI b)] σ (PB σ (a ≠ b ∧ nearN (Sp S a) (Sp S b) = true) (¬ (a ≠ b ∧ nearN (Sp S a) (Sp S b) = true))) := by
  refine Ct.of f_6_areNear (Nat.le_of_ble_eq_true rfl) ?_
  show AW M6_areNear 1 _ (0, [(0, .inr (.inr (5, 0, 0))), (1, .inl (nI a)), (2, .inl (nI b))], [], σ)
  have hn8 : Sn S ≤ 8 := hO.1
  have ea : σ 5 0 4 (nI a).toNatClampNeg = nI (Sp S a) := by rw [cl8 (by omega)]; exact (hR.2 a ha).2.2.1
  have eb : σ 5 0 4 (nI b).toNatClampNeg = nI (Sp S b) := by rw [cl8 (by omega)]; exact (hR.2 b hb).2.2.1
  have hsz := sz_near (Sp S a) (by have := (hO.2.1 a).2.2.1; omega) (Sp S b) (by have := (hO.2.1 b).2.2.1; omega)
  by_cases hab : a = b
  · skip
    refine AW.run 4 [true] (30, [(0, .inr (.inr (5, 0, 0))), (1, .inl (nI a)), (2, .inl (nI b))], [.inl 0], σ) [icP .eq (nI a) (nI b)] rfl ?_ ?_
    · exact allP1 (congrArg nI hab)
    refine AW.retz ⟨_, rfl⟩ rfl (by decide) ?_
    exact ⟨rfl, Or.inr ⟨rfl, fun h => h.1 hab⟩⟩
  · cases hnr : nearN (Sp S a) (Sp S b)
    · skip
      refine AW.run 7 [false] (11, [(0, .inr (.inr (5, 0, 0))), (1, .inl (nI a)), (2, .inl (nI b))], [.inl (σ 5 0 4 (nI a).toNatClampNeg)], σ) [¬ icP .eq (nI a) (nI b), vp_in (nI a) 8] rfl ?_ ?_
      · exact ⟨(fun q => hab (nI_lit q (by omega) (by omega))), allP1 (by exact in8 (by omega))⟩
      rw [ea]
      refine AW.run 4 [] (17, [(0, .inr (.inr (5, 0, 0))), (1, .inl (nI a)), (2, .inl (nI b))], [.inl (σ 5 0 4 (nI b).toNatClampNeg), .inl (nI (Sp S a))], σ) [vp_in (nI b) 8] rfl ?_ ?_
      · exact allP1 (by exact in8 (by omega))
      rw [eb]
      refine AW.run 1 [] (18, [(0, .inr (.inr (5, 0, 0))), (1, .inl (nI a)), (2, .inl (nI b))], [.inl ((nI (Sp S a)) - (nI (Sp S b)))], σ) [] rfl ?_ ?_
      · exact trivial
      refine AW.callSI (d' := 0) [.inl ((nI (Sp S a)) - (nI (Sp S b)))] [] ⟨_, rfl⟩ f_6_size s_6_size l_6_161 rfl (Nat.le_of_ble_eq_true rfl) rfl (Nat.le_of_ble_eq_true rfl) (c6_size ((nI (Sp S a)) - (nI (Sp S b))) σ) ?_
      rintro _ _ ⟨rfl, rfl⟩
      refine AW.run 3 [true] (30, [(0, .inr (.inr (5, 0, 0))), (1, .inl (nI a)), (2, .inl (nI b))], [.inl 0], σ) [icP .gt (szI ((nI (Sp S a)) - (nI (Sp S b)))) 2] rfl ?_ ?_
      · exact allP1 (Int32.not_le.mp (fun q => absurd (hnr.symm.trans (hsz.mp q)) (by decide)))
      refine AW.retz ⟨_, rfl⟩ rfl (by decide) ?_
      exact ⟨rfl, Or.inr ⟨rfl, fun h => absurd h.2 (by decide)⟩⟩
    · skip
      refine AW.run 7 [false] (11, [(0, .inr (.inr (5, 0, 0))), (1, .inl (nI a)), (2, .inl (nI b))], [.inl (σ 5 0 4 (nI a).toNatClampNeg)], σ) [¬ icP .eq (nI a) (nI b), vp_in (nI a) 8] rfl ?_ ?_
      · exact ⟨(fun q => hab (nI_lit q (by omega) (by omega))), allP1 (by exact in8 (by omega))⟩
      rw [ea]
      refine AW.run 4 [] (17, [(0, .inr (.inr (5, 0, 0))), (1, .inl (nI a)), (2, .inl (nI b))], [.inl (σ 5 0 4 (nI b).toNatClampNeg), .inl (nI (Sp S a))], σ) [vp_in (nI b) 8] rfl ?_ ?_
      · exact allP1 (by exact in8 (by omega))
      rw [eb]
      refine AW.run 1 [] (18, [(0, .inr (.inr (5, 0, 0))), (1, .inl (nI a)), (2, .inl (nI b))], [.inl ((nI (Sp S a)) - (nI (Sp S b)))], σ) [] rfl ?_ ?_
      · exact trivial
      refine AW.callSI (d' := 0) [.inl ((nI (Sp S a)) - (nI (Sp S b)))] [] ⟨_, rfl⟩ f_6_size s_6_size l_6_161 rfl (Nat.le_of_ble_eq_true rfl) rfl (Nat.le_of_ble_eq_true rfl) (c6_size ((nI (Sp S a)) - (nI (Sp S b))) σ) ?_
      rintro _ _ ⟨rfl, rfl⟩
      refine AW.run 4 [false] (30, [(0, .inr (.inr (5, 0, 0))), (1, .inl (nI a)), (2, .inl (nI b))], [.inl 1], σ) [¬ icP .gt (szI ((nI (Sp S a)) - (nI (Sp S b)))) 2] rfl ?_ ?_
      · exact allP1 (Int32.not_lt.mpr (hsz.mpr hnr))
      refine AW.retz ⟨_, rfl⟩ rfl (by decide) ?_
      exact ⟨rfl, Or.inl ⟨rfl, hab, rfl⟩⟩
theorem SOK_bq {S : Sv} (hO : SOK S) (b i : Nat) : SOK (withQ (withW S (fu (Sw S) b false)) (burstQ S b i)) := by
  obtain ⟨h1, h2, h3, h4, h5⟩ := SOK_w hO (k := b)
  refine ⟨h1, fun j => ⟨(h2 j).1, (h2 j).2.1, (h2 j).2.2.1, ?_⟩, fun j hj => ?_, h4, h5⟩
  · show burstQ S b i j ≤ 99
    unfold burstQ; split
    · exact Nat.min_le_left _ _
    · exact (h2 j).2.2.2
  · obtain ⟨g1, g2, g3, g4⟩ := h3 j hj
    refine ⟨g1, g2, ?_, g4⟩
    show burstQ S b i j = 0
    unfold burstQ
    rw [if_neg (fun q => by rw [w_out hO j hj] at q; cases q.2.2.1)]; exact g3
theorem ite_tf {b : Bool} (h : b = false) : (if b = true then 1 else 0 : Int32) = 0 := by rw [h]; rfl
theorem ite_tt {b : Bool} (h : ¬ b = false) : (if b = true then 1 else 0 : Int32) = 1 := by
  cases b
  · exact absurd rfl h
  · rfl
theorem burstQ_0 {S : Sv} {b : Nat} : burstQ S b 0 = Sq S := by funext j; simp [burstQ]
set_option maxHeartbeats 4000000 in
set_option maxRecDepth 100000 in
theorem c6_bursts (S : Sv) (σ : St) (hR : RepM (σ 5 0) S) (hO : SOK S) (b : Nat) (hb : b < Sn S) : Ct M6_bursts 2 [.inr (.inr (5, 0, 0)), .inl (nI b)] σ (PV fun σ' => Fr P1 σ σ' ∧ RepM (σ' 5 0) (burstS S b)) := by
  refine Ct.of f_6_bursts (Nat.le_of_ble_eq_true rfl) ?_
  show AW M6_bursts 2 _ (0, [(0, .inr (.inr (5, 0, 0))), (1, .inl (nI b))], [], σ)
  have hn8 : Sn S ≤ 8 := hO.1
  have hb8 : b < 8 := by omega
  have hS0 : RepM (setM σ 5 0 6 b 1 5 0) (withW S (fu (Sw S) b false)) := repM_w (b := false) hR
  have hS0b : RepM (setM σ 5 0 6 b 1 5 0) (withQ (withW S (fu (Sw S) b false)) (burstQ S b 0)) := by rw [burstQ_0]; exact hS0
  refine AW.run 7 [] (9, [(2, .inl 0), (0, .inr (.inr (5, 0, 0))), (1, .inl (nI b))], [], (setM σ 5 0 6 (nI b).toNatClampNeg 1)) [vp_in (nI b) 8] rfl ?_ ?_
  · exact allP1 (by exact in8 hb8)
  refine AW.pick [1, 2, 0] (ls' := [(0, .inr (.inr (5, 0, 0))), (1, .inl (nI b)), (2, .inl (nI 0))]) rfl ?_
  refine AW.loop (α := Unit) 9 (Sn S) (fun i _ => [(0, .inr (.inr (5, 0, 0))), (1, .inl (nI b)), (2, .inl (nI i))]) (fun i _ τ => Fr P1 σ τ ∧ RepM (τ 5 0) (withQ (withW S (fu (Sw S) b false)) (burstQ S b i))) ?_ ?_ (Sn S) 0 () _ (by omega) ⟨fr_set fr_rfl (p1_q (by omega) (by omega)), by rw [cl8 hb8]; exact hS0b⟩
  · intro i _ τ hi hI hk
    obtain ⟨hS1, hR1⟩ := hI
    have hi8 : i < 8 := by omega
    have e7 := hR1.1.1
    have e7t : τ 5 0 7 (nI i).toNatClampNeg = (if Stw S i = true then 1 else 0) := by rw [cl8 hi8]; exact (hR1.2 i hi).2.2.2.2.2
    have e5 : τ 5 0 5 (nI i).toNatClampNeg = nI (Sq S i) := by rw [cl8 hi8, ← burstQ_at (S := S) (b := b) (j := i)]; exact (hR1.2 i hi).2.2.2.1
    have hq9 := (hO.2.1 i).2.2.2
    have hs9 := shock_le hO b
    have hwi : Sw (withQ (withW S (fu (Sw S) b false)) (burstQ S b i)) i = true → Sw S i = true := fun h => by
      have h : fu (Sw S) b false i = true := h
      unfold fu at h
      split at h
      · cases h
      · exact h
    have hwo : i ≠ b → Sw S i = true → Sw (withQ (withW S (fu (Sw S) b false)) (burstQ S b i)) i = true := fun h h2 => by
      show fu (Sw S) b false i = true
      rw [fu_ne _ _ h]; exact h2
    skip
    refine AW.run 3 [] (14, [(0, .inr (.inr (5, 0, 0))), (1, .inl (nI b)), (2, .inl (nI i))], [.inl (τ 5 0 0 7), .inl (nI i)], τ) [] rfl ?_ ?_
    · exact trivial
    rw [e7]
    refine AW.run 3 [false] (19, [(0, .inr (.inr (5, 0, 0))), (1, .inl (nI b)), (2, .inl (nI i))], [.inl (nI i), .inr (.inr (5, 0, 0))], τ) [¬ icP .ge (nI i) (nI (Sn S))] rfl ?_ ?_
    · exact allP1 (nI_ge hi (by omega))
    refine AW.callVI (d' := 0) [.inl (nI i)] [] ⟨_, rfl⟩ f_6_isWhole v_6_isWhole l_6_108 ⟨rfl, by decide⟩ rfl (Nat.le_of_ble_eq_true rfl) rfl (Nat.le_of_ble_eq_true rfl) (c6_isWhole (withQ (withW S (fu (Sw S) b false)) (burstQ S b i)) τ hR1 (by first | exact hO.1 | exact hn8) i hi) ?_
    rintro v _ ⟨rfl, hv⟩
    rcases hv with ⟨rfl, hp19⟩ | ⟨rfl, hp19⟩
    · skip
      refine AW.run 5 [false] (31, [(0, .inr (.inr (5, 0, 0))), (1, .inl (nI b)), (2, .inl (nI i))], [.inl (τ 5 0 7 (nI i).toNatClampNeg)], τ) [¬ icP .eq (1 : Int32) 0, vp_in (nI i) 8] rfl ?_ ?_
      · exact ⟨(by decide : ¬ ((1 : Int32) = 0)), allP1 (by exact in8 (by omega))⟩
      rw [e7t]
      by_cases h31_1 : Stw S i = false
      · skip
        refine AW.run 4 [false] (37, [(0, .inr (.inr (5, 0, 0))), (1, .inl (nI b)), (2, .inl (nI i))], [.inl (nI i), .inl (nI b), .inr (.inr (5, 0, 0))], τ) [¬ icP .ne (if Stw S i = true then 1 else 0) 0] rfl ?_ ?_
        · exact allP1 (fun q => q (by rw [ite_tf h31_1]))
        refine AW.callVI (d' := 1) [.inl (nI b), .inl (nI i)] [] ⟨_, rfl⟩ f_6_areNear v_6_areNear l_6_164 ⟨rfl, by decide⟩ rfl (Nat.le_of_ble_eq_true rfl) rfl (Nat.le_of_ble_eq_true rfl) (c6_areNear (withQ (withW S (fu (Sw S) b false)) (burstQ S b i)) τ hR1 (SOK_bq hO b i) b i hb hi) ?_
        rintro v _ ⟨rfl, hv⟩
        rcases hv with ⟨rfl, hp37⟩ | ⟨rfl, hp37⟩
        · skip
          refine AW.run 8 [false] (54, [(0, .inr (.inr (5, 0, 0))), (1, .inl (nI b)), (2, .inl (nI i))], [.inl (τ 5 0 5 (nI i).toNatClampNeg), .inl (nI i), .inr (.inr (5, 0, 5))], τ) [¬ icP .eq (1 : Int32) 0, vp_in (nI i) 8] rfl ?_ ?_
          · exact ⟨(by decide : ¬ ((1 : Int32) = 0)), allP1 (by exact in8 (by omega))⟩
          rw [e5]
          refine AW.run 2 [] (56, [(0, .inr (.inr (5, 0, 0))), (1, .inl (nI b)), (2, .inl (nI i))], [.inl (nI b), .inr (.inr (5, 0, 0)), .inl (nI (Sq S i)), .inl (nI i), .inr (.inr (5, 0, 5))], τ) [] rfl ?_ ?_
          · exact trivial
          refine AW.callVI (d' := 0) [.inl (nI b)] [.inl (nI (Sq S i)), .inl (nI i), .inr (.inr (5, 0, 5))] ⟨_, rfl⟩ f_6_shocks v_6_shocks l_6_167 ⟨rfl, by decide⟩ rfl (Nat.le_of_ble_eq_true rfl) rfl (Nat.le_of_ble_eq_true rfl) (c6_shocks (withQ (withW S (fu (Sw S) b false)) (burstQ S b i)) τ hR1 (SOK_bq hO b i) b hb) ?_
          rintro _ _ ⟨rfl, rfl⟩
          refine AW.run 1 [] (60, [(0, .inr (.inr (5, 0, 0))), (1, .inl (nI b)), (2, .inl (nI i))], [.inl ((nI (Sq S i)) + (nI (shockS S b))), .inl (nI i), .inr (.inr (5, 0, 5))], τ) [] rfl ?_ ?_
          · exact trivial
          rw [nI_add]
          refine AW.callSI (d' := 0) [.inl (nI (Sq S i + shockS S b))] [.inl (nI i), .inr (.inr (5, 0, 5))] ⟨_, rfl⟩ f_6_within s_6_within l_6_170 rfl (Nat.le_of_ble_eq_true rfl) rfl (Nat.le_of_ble_eq_true rfl) (c6_within (Sq S i + shockS S b) (by omega) τ) ?_
          rintro _ _ ⟨rfl, rfl⟩
          refine AW.run 3 [] (9, [(2, .inl ((nI i) + 1)), (0, .inr (.inr (5, 0, 0))), (1, .inl (nI b))], [], (setM τ 5 0 5 (nI i).toNatClampNeg (nI (min 99 (Sq S i + shockS S b))))) [vp_in (nI i) 8] rfl ?_ ?_
          · exact allP1 (by exact in8 (by omega))
          rw [nI_1 i, cl8 hi8]
          refine AW.pick [1, 2, 0] (ls' := [(0, .inr (.inr (5, 0, 0))), (1, .inl (nI b)), (2, .inl (nI (i + 1)))]) rfl ?_
          exact hk () _ ⟨fr_set hS1 (p1_q (by omega) (by omega)), by rw [burstQ_hit ⟨Ne.symm hp37.1, hwi hp19, by assumption, hp37.2⟩]; exact repM_q hR1⟩
        · skip
          refine AW.run 3 [true] (9, [(2, .inl ((nI i) + 1)), (0, .inr (.inr (5, 0, 0))), (1, .inl (nI b))], [], τ) [icP .eq (0 : Int32) 0] rfl ?_ ?_
          · exact allP1 (by decide : ((0 : Int32) = 0))
          rw [nI_1 i]
          refine AW.pick [1, 2, 0] (ls' := [(0, .inr (.inr (5, 0, 0))), (1, .inl (nI b)), (2, .inl (nI (i + 1)))]) rfl ?_
          exact hk () _ ⟨hS1, by rw [burstQ_miss (fun h => by first | exact hp37 ⟨Ne.symm h.1, h.2.2.2⟩ | exact absurd h.2.2.1 (by assumption) | exact absurd ((hwo h.1 h.2.1).symm.trans hp19) (by decide))]; exact hR1⟩
      · skip
        refine AW.run 3 [true] (9, [(2, .inl ((nI i) + 1)), (0, .inr (.inr (5, 0, 0))), (1, .inl (nI b))], [], τ) [icP .ne (if Stw S i = true then 1 else 0) 0] rfl ?_ ?_
        · exact allP1 (by rw [ite_tt h31_1]; exact (by decide : ¬ (1 : Int32) = 0))
        rw [nI_1 i]
        refine AW.pick [1, 2, 0] (ls' := [(0, .inr (.inr (5, 0, 0))), (1, .inl (nI b)), (2, .inl (nI (i + 1)))]) rfl ?_
        exact hk () _ ⟨hS1, by rw [burstQ_miss (fun h => by first | exact hp37 ⟨Ne.symm h.1, h.2.2.2⟩ | exact absurd h.2.2.1 (by assumption) | exact absurd ((hwo h.1 h.2.1).symm.trans hp19) (by decide))]; exact hR1⟩
    · skip
      refine AW.run 3 [true] (9, [(2, .inl ((nI i) + 1)), (0, .inr (.inr (5, 0, 0))), (1, .inl (nI b))], [], τ) [icP .eq (0 : Int32) 0] rfl ?_ ?_
      · exact allP1 (by decide : ((0 : Int32) = 0))
      rw [nI_1 i]
      refine AW.pick [1, 2, 0] (ls' := [(0, .inr (.inr (5, 0, 0))), (1, .inl (nI b)), (2, .inl (nI (i + 1)))]) rfl ?_
      exact hk () _ ⟨hS1, by rw [burstQ_miss (fun h => by first | exact hp37 ⟨Ne.symm h.1, h.2.2.2⟩ | exact absurd h.2.2.1 (by assumption) | exact absurd ((hwo h.1 h.2.1).symm.trans hp19) (by decide))]; exact hR1⟩
  · intro _ τ hI
    obtain ⟨hS1, hR1⟩ := hI
    have e7 := hR1.1.1
    refine AW.run 3 [] (14, [(0, .inr (.inr (5, 0, 0))), (1, .inl (nI b)), (2, .inl (nI (Sn S)))], [.inl (τ 5 0 0 7), .inl (nI (Sn S))], τ) [] rfl ?_ ?_
    · exact trivial
    rw [e7]
    refine AW.run 1 [true] (70, [(0, .inr (.inr (5, 0, 0))), (1, .inl (nI b)), (2, .inl (nI (Sn S)))], [], τ) [icP .ge (nI (Sn S)) (nI (Sn S))] rfl ?_ ?_
    · exact allP1 (nI_le (Nat.le_refl _) (by omega))
    refine AW.retv ⟨_, rfl⟩ rfl ?_
    exact ⟨hS1, by unfold burstS; rw [← burstQ_out hO (Nat.le_refl _) hn8]; exact hR1⟩
set_option maxHeartbeats 4000000 in
set_option maxRecDepth 100000 in
theorem c6_nextToGo (S : Sv) (σ : St) (hR : RepM (σ 5 0) S) (hO : SOK S) : Ct M6_nextToGo 1 [.inr (.inr (5, 0, 0))] σ (PI fun r9 σ' => optI (nextS S 8 0) = r9 ∧ σ = σ') := by
  refine Ct.of f_6_nextToGo (Nat.le_of_ble_eq_true rfl) ?_
  show AW M6_nextToGo 1 _ (0, [(0, .inr (.inr (5, 0, 0)))], [], σ)
  have hn8 : Sn S ≤ 8 := hO.1
  refine AW.run 2 [] (2, [(1, .inl 0), (0, .inr (.inr (5, 0, 0)))], [], σ) [] rfl ?_ ?_
  · exact trivial
  refine AW.pick [1, 0] (ls' := [(0, .inr (.inr (5, 0, 0))), (1, .inl (nI 0))]) rfl ?_
  refine AW.loop (α := Unit) 2 (Sn S) (fun i _ => [(0, .inr (.inr (5, 0, 0))), (1, .inl (nI i))]) (fun i _ τ => σ = τ ∧ nextS S 8 0 = nextS S (8 - i) i) ?_ ?_ (Sn S) 0 () _ (by omega) ⟨rfl, rfl⟩
  · intro i _ τ hi hI hk
    obtain ⟨rfl, hg⟩ := hI
    have e7 := hR.1.1
    have e5 : σ 5 0 5 (nI i).toNatClampNeg = nI (Sq S i) := by rw [cl8 (by omega)]; exact (hR.2 i hi).2.2.2.1
    have hq9 := (hO.2.1 i).2.2.2
    have hb9 := bear_le hO i
    have hu : nextS S (8 - i) i = if Sw S i = true ∧ bearS S i < Sq S i then some i else nextS S (8 - (i + 1)) (i + 1) := by
      obtain ⟨m, hm⟩ : ∃ m, 8 - i = m + 1 := ⟨7 - i, by omega⟩
      rw [hm, show 8 - (i + 1) = m by omega]; rfl
    skip
    refine AW.run 3 [] (7, [(0, .inr (.inr (5, 0, 0))), (1, .inl (nI i))], [.inl (σ 5 0 0 7), .inl (nI i)], σ) [] rfl ?_ ?_
    · exact trivial
    rw [e7]
    refine AW.run 3 [false] (12, [(0, .inr (.inr (5, 0, 0))), (1, .inl (nI i))], [.inl (nI i), .inr (.inr (5, 0, 0))], σ) [¬ icP .ge (nI i) (nI (Sn S))] rfl ?_ ?_
    · exact allP1 (nI_ge hi (by omega))
    refine AW.callVI (d' := 0) [.inl (nI i)] [] ⟨_, rfl⟩ f_6_isWhole v_6_isWhole l_6_108 ⟨rfl, by decide⟩ rfl (Nat.le_of_ble_eq_true rfl) rfl (Nat.le_of_ble_eq_true rfl) (c6_isWhole S σ hR (by first | exact hO.1 | exact hn8) i hi) ?_
    rintro v _ ⟨rfl, hv⟩
    rcases hv with ⟨rfl, hp12⟩ | ⟨rfl, hp12⟩
    · skip
      refine AW.run 5 [false] (24, [(0, .inr (.inr (5, 0, 0))), (1, .inl (nI i))], [.inl (σ 5 0 5 (nI i).toNatClampNeg)], σ) [¬ icP .eq (1 : Int32) 0, vp_in (nI i) 8] rfl ?_ ?_
      · exact ⟨(by decide : ¬ ((1 : Int32) = 0)), allP1 (by exact in8 (by omega))⟩
      rw [e5]
      refine AW.run 2 [] (26, [(0, .inr (.inr (5, 0, 0))), (1, .inl (nI i))], [.inl (nI i), .inr (.inr (5, 0, 0)), .inl (nI (Sq S i))], σ) [] rfl ?_ ?_
      · exact trivial
      refine AW.callVI (d' := 0) [.inl (nI i)] [.inl (nI (Sq S i))] ⟨_, rfl⟩ f_6_bears v_6_bears l_6_173 ⟨rfl, by decide⟩ rfl (Nat.le_of_ble_eq_true rfl) rfl (Nat.le_of_ble_eq_true rfl) (c6_bears S σ hR hO i hi) ?_
      rintro _ _ ⟨rfl, rfl⟩
      by_cases h29_1 : bearS S i < Sq S i
      · skip
        refine AW.run 2 [false] (33, [(0, .inr (.inr (5, 0, 0))), (1, .inl (nI i))], [.inl (nI i)], σ) [¬ icP .le (nI (Sq S i)) (nI (bearS S i))] rfl ?_ ?_
        · exact allP1 (nI_ge h29_1 (by omega))
        refine AW.reti ⟨_, rfl⟩ rfl ?_
        exact ⟨by rw [hg, hu, if_pos ⟨hp12, by assumption⟩]; rfl, rfl⟩
      · skip
        refine AW.run 3 [true] (2, [(1, .inl ((nI i) + 1)), (0, .inr (.inr (5, 0, 0)))], [], σ) [icP .le (nI (Sq S i)) (nI (bearS S i))] rfl ?_ ?_
        · exact allP1 (nI_le (by omega) (by omega))
        rw [nI_1 i]
        refine AW.pick [1, 0] (ls' := [(0, .inr (.inr (5, 0, 0))), (1, .inl (nI (i + 1)))]) rfl ?_
        exact hk () _ ⟨rfl, by rw [hg, hu, if_neg]; intro q; first | exact absurd (hp12.symm.trans q.1) (by decide) | exact absurd q.2 (by assumption)⟩
    · skip
      refine AW.run 3 [true] (2, [(1, .inl ((nI i) + 1)), (0, .inr (.inr (5, 0, 0)))], [], σ) [icP .eq (0 : Int32) 0] rfl ?_ ?_
      · exact allP1 (by decide : ((0 : Int32) = 0))
      rw [nI_1 i]
      refine AW.pick [1, 0] (ls' := [(0, .inr (.inr (5, 0, 0))), (1, .inl (nI (i + 1)))]) rfl ?_
      exact hk () _ ⟨rfl, by rw [hg, hu, if_neg]; intro q; first | exact absurd (hp12.symm.trans q.1) (by decide) | exact absurd q.2 (by assumption)⟩
  · intro _ τ hI
    obtain ⟨rfl, hg⟩ := hI
    have e7 := hR.1.1
    rw [show nextS S (8 - Sn S) (Sn S) = none from nextS_out hO _ _ (Nat.le_refl _)] at hg
    refine AW.run 3 [] (7, [(0, .inr (.inr (5, 0, 0))), (1, .inl (nI (Sn S)))], [.inl (σ 5 0 0 7), .inl (nI (Sn S))], σ) [] rfl ?_ ?_
    · exact trivial
    rw [e7]
    refine AW.run 2 [true] (42, [(0, .inr (.inr (5, 0, 0))), (1, .inl (nI (Sn S)))], [.inl (-9)], σ) [icP .ge (nI (Sn S)) (nI (Sn S))] rfl ?_ ?_
    · exact allP1 (nI_le (Nat.le_refl _) (by omega))
    refine AW.reti ⟨_, rfl⟩ rfl ?_
    exact ⟨by rw [hg]; rfl, rfl⟩
theorem c8_one : ∀ f0 f1 f2 f3 f4 f5 f6 f7 : Bool, (f0 = true → c8 false f1 f2 f3 f4 f5 f6 f7 + 1 = c8 f0 f1 f2 f3 f4 f5 f6 f7) ∧ (f1 = true → c8 f0 false f2 f3 f4 f5 f6 f7 + 1 = c8 f0 f1 f2 f3 f4 f5 f6 f7) ∧ (f2 = true → c8 f0 f1 false f3 f4 f5 f6 f7 + 1 = c8 f0 f1 f2 f3 f4 f5 f6 f7) ∧ (f3 = true → c8 f0 f1 f2 false f4 f5 f6 f7 + 1 = c8 f0 f1 f2 f3 f4 f5 f6 f7) ∧ (f4 = true → c8 f0 f1 f2 f3 false f5 f6 f7 + 1 = c8 f0 f1 f2 f3 f4 f5 f6 f7) ∧ (f5 = true → c8 f0 f1 f2 f3 f4 false f6 f7 + 1 = c8 f0 f1 f2 f3 f4 f5 f6 f7) ∧ (f6 = true → c8 f0 f1 f2 f3 f4 f5 false f7 + 1 = c8 f0 f1 f2 f3 f4 f5 f6 f7) ∧ (f7 = true → c8 f0 f1 f2 f3 f4 f5 f6 false + 1 = c8 f0 f1 f2 f3 f4 f5 f6 f7) := by decide +kernel
theorem cN_one {f : Nat → Bool} {i : Nat} (hi : i < 8) (h : f i = true) : cN (fu f i false) + 1 = cN f := by
  obtain ⟨h0, h1, h2, h3, h4, h5, h6, h7⟩ := c8_one (f 0) (f 1) (f 2) (f 3) (f 4) (f 5) (f 6) (f 7)
  rcases lt8 hi with rfl | rfl | rfl | rfl | rfl | rfl | rfl | rfl
  · exact h0 h
  · exact h1 h
  · exact h2 h
  · exact h3 h
  · exact h4 h
  · exact h5 h
  · exact h6 h
  · exact h7 h
theorem settle_none {S : Sv} (h : nextS S 8 0 = none) : ∀ k, settleS k S = S
  | 0 => rfl
  | k + 1 => by unfold settleS; rw [h]
theorem settle_some {S : Sv} {i : Nat} (h : nextS S 8 0 = some i) {k : Nat} (hk : cN (Sw S) ≤ k) : ∃ k2, settleS k S = settleS k2 (burstS S i) ∧ cN (Sw (burstS S i)) ≤ k2 ∧ cN (Sw (burstS S i)) < cN (Sw S) := by
  obtain ⟨h1, h2, h3⟩ := nextS_some 8 0 h
  have hc : cN (Sw (burstS S i)) + 1 = cN (Sw S) := cN_one (by omega) h2
  obtain ⟨k2, rfl⟩ : ∃ k2, k = k2 + 1 := ⟨k - 1, by omega⟩
  refine ⟨k2, ?_, by omega, by omega⟩
  show (match nextS S 8 0 with | none => S | some i => settleS k2 (burstS S i)) = _
  rw [h]
set_option maxHeartbeats 4000000 in
set_option maxRecDepth 100000 in
theorem c6_burstsAll (S : Sv) (σ : St) (hR : RepM (σ 5 0) S) (hO : SOK S) : Ct M6_burstsAll 3 [.inr (.inr (5, 0, 0))] σ (PV fun σ' => Fr P1 σ σ' ∧ RepM (σ' 5 0) (settleS 8 S)) := by
  refine Ct.of f_6_burstsAll (Nat.le_of_ble_eq_true rfl) ?_
  show AW M6_burstsAll 3 _ (0, [(0, .inr (.inr (5, 0, 0)))], [], σ)
  refine AW.run 1 [] (1, [(0, .inr (.inr (5, 0, 0)))], [.inr (.inr (5, 0, 0))], σ) [] rfl ?_ ?_
  · exact trivial
  refine AW.callVI (d' := 1) [] [] ⟨_, rfl⟩ f_6_nextToGo v_6_nextToGo l_6_176 ⟨rfl, by decide⟩ rfl (Nat.le_of_ble_eq_true rfl) rfl (Nat.le_of_ble_eq_true rfl) (c6_nextToGo S σ hR hO) ?_
  rintro _ _ ⟨rfl, rfl⟩
  refine AW.run 1 [] (5, [(1, .inl (optI (nextS S 8 0))), (0, .inr (.inr (5, 0, 0)))], [], σ) [] rfl ?_ ?_
  · exact trivial
  refine AW.pick [1, 0] (ls' := [(0, .inr (.inr (5, 0, 0))), (1, .inl (optI (nextS S 8 0)))]) rfl ?_
  refine AW.wloop (α := Sv) 5 (fun T => [(0, .inr (.inr (5, 0, 0))), (1, .inl (optI (nextS T 8 0)))]) (fun T τ => Fr P1 σ τ ∧ RepM (τ 5 0) T ∧ SOK T ∧ ∃ k, settleS 8 S = settleS k T ∧ cN (Sw T) ≤ k) (fun T => cN (Sw T)) ?_ S σ ⟨fr_rfl, hR, hO, 8, rfl, cN_le _⟩
  intro T τ hI hk
  obtain ⟨hS1, hR1, hO1, k, hg, hc⟩ := hI
  cases hn : nextS T 8 0 with
  | none =>
    refine AW.run 2 [true] (22, [(0, .inr (.inr (5, 0, 0))), (1, .inl (-9))], [], τ) [icP .lt ((-9) : Int32) 0] rfl ?_ ?_
    · exact allP1 (by decide : (((-9) : Int32) < 0))
    refine AW.retv ⟨_, rfl⟩ rfl ?_
    exact ⟨hS1, by rw [hg, settle_none hn]; exact hR1⟩
  | some i =>
    obtain ⟨k2, q1, q2, q3⟩ := settle_some hn hc
    obtain ⟨hi8, hwi, -⟩ := nextS_some 8 0 hn
    have hin := SOK_lt hO1 hwi
    have hn8 := hO1.1
    refine AW.run 4 [false] (11, [(0, .inr (.inr (5, 0, 0))), (1, .inl (nI i))], [.inl (nI i), .inr (.inr (5, 0, 0))], τ) [¬ icP .lt (nI i) 0] rfl ?_ ?_
    · exact allP1 (nlt0 (by omega))
    refine AW.callVV (d' := 2) [.inl (nI i)] [] ⟨_, rfl⟩ f_6_bursts v_6_bursts l_6_179 ⟨rfl, by decide⟩ rfl (Nat.le_of_ble_eq_true rfl) rfl (Nat.le_of_ble_eq_true rfl) (c6_bursts T τ hR1 hO1 i hin) ?_
    rintro τ1 ⟨hB1, hB2⟩
    refine AW.run 1 [] (15, [(0, .inr (.inr (5, 0, 0))), (1, .inl (nI i))], [.inr (.inr (5, 0, 0))], τ1) [] rfl ?_ ?_
    · exact trivial
    refine AW.callVI (d' := 1) [] [] ⟨_, rfl⟩ f_6_nextToGo v_6_nextToGo l_6_176 ⟨rfl, by decide⟩ rfl (Nat.le_of_ble_eq_true rfl) rfl (Nat.le_of_ble_eq_true rfl) (c6_nextToGo (burstS T i) τ1 hB2 (SOK_burst hO1)) ?_
    rintro _ _ ⟨rfl, rfl⟩
    refine AW.run 2 [] (5, [(1, .inl (optI (nextS (burstS T i) 8 0))), (0, .inr (.inr (5, 0, 0)))], [], τ1) [] rfl ?_ ?_
    · exact trivial
    refine AW.pick [1, 0] (ls' := [(0, .inr (.inr (5, 0, 0))), (1, .inl (optI (nextS (burstS T i) 8 0)))]) rfl ?_
    exact hk (burstS T i) _ q3 ⟨fr_trans hS1 hB1, hB2, SOK_burst hO1, k2, hg.trans q1, q2⟩
