/-! A DAY, DAYS, THE OTHER CHANGES -/
theorem addQ_hit {S : Sv} {i : Nat} (h : Sw S i = true) : addQ S (i + 1) = fu (addQ S i) i (min 99 (Sq S i + riseS S i)) := by
  funext k
  simp only [addQ, fu]
  by_cases hk : k = i
  · subst hk
    simp [h]
  · have : (k < i + 1) ↔ (k < i) := by omega
    simp [hk, this]
theorem addQ_miss {S : Sv} {i : Nat} (h : ¬ Sw S i = true) : addQ S (i + 1) = addQ S i := by
  funext k
  simp only [addQ]
  by_cases hk : k = i
  · subst hk
    simp [h]
  · have : (k < i + 1) ↔ (k < i) := by omega
    simp [this]
theorem addQ_at {S : Sv} {i : Nat} : addQ S i i = Sq S i := by simp [addQ]
theorem SOK_add {S : Sv} (hO : SOK S) (i : Nat) : SOK (withQ S (addQ S i)) := by
  obtain ⟨h1, h2, h3, h4, h5⟩ := hO
  refine ⟨h1, fun k => ⟨(h2 k).1, (h2 k).2.1, (h2 k).2.2.1, ?_⟩, fun k hk => ?_, h4, h5⟩
  · show addQ S i k ≤ 99
    unfold addQ
    split
    · exact Nat.min_le_left _ _
    · exact (h2 k).2.2.2
  · obtain ⟨g1, g2, g3, g4⟩ := h3 k hk
    refine ⟨g1, g2, ?_, g4⟩
    show addQ S i k = 0
    unfold addQ
    rw [if_neg, g3]
    rintro ⟨-, h⟩
    rw [g1] at h
    cases h
theorem settle_d : ∀ (n : Nat) (S : Sv), Sd (settleS n S) = Sd S
  | 0, _ => rfl
  | n + 1, S => by
    unfold settleS
    split
    · rfl
    · exact settle_d n _
theorem SOK_day {S : Sv} (hO : SOK S) : SOK (dayS S) := SOK_settle 8 (SOK_add hO 8)
theorem SOK_pass : ∀ (n : Nat) {S : Sv}, SOK S → SOK (passS n S)
  | 0, _, h => h
  | n + 1, _, h => SOK_pass n (SOK_day h)
theorem pass_succ : ∀ (n : Nat) (S : Sv), passS (n + 1) S = dayS (passS n S)
  | 0, _ => rfl
  | n + 1, S => pass_succ n (dayS S)
set_option maxHeartbeats 4000000 in
set_option maxRecDepth 100000 in
theorem c3_dayGoesBy (a : Nat) (S : Sv) (σ : St) (hR : RepS (σ 2 a) S) (hO : SOK S) : Ct M3_dayGoesBy 2 [.inr (.inr (2, a, 0))] σ (PV fun σ' => Only 2 a σ σ' ∧ RepS (σ' 2 a) (dayS S)) := by
  refine Ct.of f_3_dayGoesBy (Nat.le_of_ble_eq_true rfl) ?_
  show AW M3_dayGoesBy 2 _ (0, [(0, .inr (.inr (2, a, 0)))], [], σ)
  refine AW.run 2 [] (2, [(1, .inl 0), (0, .inr (.inr (2, a, 0)))], [], σ) [] rfl ?_ ?_
  · exact trivial
  refine AW.pick [1, 0] (ls' := [(0, .inr (.inr (2, a, 0))), (1, .inl (nI 0))]) rfl ?_
  refine AW.loop (α := Unit) 2 8 (fun i _ => [(0, .inr (.inr (2, a, 0))), (1, .inl (nI i))]) (fun i _ τ => Only 2 a σ τ ∧ RepS (τ 2 a) (withQ S (addQ S i))) ?_ ?_ 8 0 () _ (by omega) ⟨only_rfl, hR⟩
  · intro i _ τ hi hI hk
    obtain ⟨hS1, hR1⟩ := hI
    have g1 := hR1.2.1 i hi
    have q1 : τ 2 a 4 (nI i).toNatClampNeg = nI (Sq S i) := by rw [cl8 hi, g1.2.2.2]; exact congrArg nI addQ_at
    have q4 : (τ 2 a 0 8 >>> (nI i &&& 31)) &&& 1 = if Sw S i = true then 1 else 0 := by rw [hR1.1.2.1]; exact bI_bit _ hi
    by_cases hw : Sw S i = true
    · skip
      have hin := SOK_lt hO hw
      have q2 : τ 2 a 5 (nI i).toNatClampNeg = nI (riseS S i) := by rw [cl8 hi]; exact (hR1.2.2 i hin).1
      have hrl := rise_le hO i
      have hql := (hO.2.1 i).2.2.2
      have hcap : AW M3_dayGoesBy 2 _ (2, [(0, .inr (.inr (2, a, 0))), (1, .inl (nI (i + 1)))], [], setM τ 2 a 4 i (nI (min 99 (Sq S i + riseS S i)))) := hk () _ ⟨only_trans hS1 only_set, by rw [addQ_hit hw]; exact rep_q hR1⟩
      refine AW.run 9 [false] (16, [(0, .inr (.inr (2, a, 0))), (1, .inl (nI i))], [.inl (((τ 2 a 0 8) >>> ((nI i) &&& 31)) &&& 1)], τ) [¬ icP .ge (nI i) 8] rfl ?_ ?_
      · exact allP1 (nle_lit (a := 8) hi (by decide))
      rw [q4]
      refine AW.run 5 [true] (28, [(0, .inr (.inr (2, a, 0))), (1, .inl (nI i))], [.inl (τ 2 a 4 (nI i).toNatClampNeg)], τ) [icP .ne (if Sw S i = true then 1 else 0) 0, vp_in (nI i) 8] rfl ?_ ?_
      · exact ⟨(by rw [if_pos hw]; exact (by decide : ¬ (1 : Int32) = 0)), allP1 (by exact in8 hi)⟩
      rw [q1]
      refine AW.run 5 [] (35, [(0, .inr (.inr (2, a, 0))), (1, .inl (nI i))], [.inl ((nI (Sq S i)) + (τ 2 a 5 (nI i).toNatClampNeg))], τ) [vp_in (nI i) 8] rfl ?_ ?_
      · exact allP1 (by exact in8 hi)
      rw [q2, nI_add]
      by_cases h44_1 : Sq S i + riseS S i ≤ 99
      · skip
        refine AW.run 11 [true] (2, [(1, .inl ((nI i) + 1)), (2, .inl (nI (Sq S i + riseS S i))), (0, .inr (.inr (2, a, 0)))], [], (setM τ 2 a 4 (nI i).toNatClampNeg (nI (Sq S i + riseS S i)))) [icP .le (nI (Sq S i + riseS S i)) 99, vp_in (nI i) 8] rfl ?_ ?_
        · exact ⟨(nI_le h44_1 (by decide)), allP1 (by exact in8 hi)⟩
        rw [nI_1 i]
        refine AW.pick [2, 0] (ls' := [(0, .inr (.inr (2, a, 0))), (1, .inl (nI (i + 1)))]) rfl ?_
        rw [cl8 hi]
        first | (rw [Nat.min_eq_left (by omega)] at hcap; exact hcap) | (rw [Nat.min_eq_right (by omega)] at hcap; exact hcap)
      · skip
        refine AW.run 12 [false] (2, [(1, .inl ((nI i) + 1)), (2, .inl (nI (Sq S i + riseS S i))), (0, .inr (.inr (2, a, 0)))], [], (setM τ 2 a 4 (nI i).toNatClampNeg 99)) [¬ icP .le (nI (Sq S i + riseS S i)) 99, vp_in (nI i) 8] rfl ?_ ?_
        · exact ⟨(nI_ge (b := Sq S i + riseS S i) (a := 99) (by omega) (by omega)), allP1 (by exact in8 hi)⟩
        rw [nI_1 i]
        refine AW.pick [2, 0] (ls' := [(0, .inr (.inr (2, a, 0))), (1, .inl (nI (i + 1)))]) rfl ?_
        rw [cl8 hi]
        first | (rw [Nat.min_eq_left (by omega)] at hcap; exact hcap) | (rw [Nat.min_eq_right (by omega)] at hcap; exact hcap)
    · skip
      refine AW.run 9 [false] (16, [(0, .inr (.inr (2, a, 0))), (1, .inl (nI i))], [.inl (((τ 2 a 0 8) >>> ((nI i) &&& 31)) &&& 1)], τ) [¬ icP .ge (nI i) 8] rfl ?_ ?_
      · exact allP1 (nle_lit (a := 8) hi (by decide))
      rw [q4]
      refine AW.run 4 [false] (2, [(1, .inl ((nI i) + 1)), (0, .inr (.inr (2, a, 0)))], [], τ) [¬ icP .ne (if Sw S i = true then 1 else 0) 0] rfl ?_ ?_
      · exact allP1 (by rw [if_neg hw]; exact (fun q => q (rfl : (0 : Int32) = 0)))
      rw [nI_1 i]
      refine AW.pick [1, 0] (ls' := [(0, .inr (.inr (2, a, 0))), (1, .inl (nI (i + 1)))]) rfl ?_
      exact hk () _ ⟨hS1, by rw [addQ_miss hw]; exact hR1⟩
  · intro _ τ hI
    obtain ⟨hS1, hR1⟩ := hI
    have hO1 := SOK_add hO 8
    refine AW.run 4 [true] (61, [(0, .inr (.inr (2, a, 0))), (1, .inl (nI 8))], [.inr (.inr (2, a, 0))], τ) [icP .ge (nI 8) 8] rfl ?_ ?_
    · exact allP1 (le_lit (a := 8) (b := 8) (by decide) (by decide))
    refine AW.callVV (d' := 1) [] [] ⟨_, rfl⟩ f_3_settle v_3_settle l_3_85 ⟨rfl, by decide⟩ rfl (Nat.le_of_ble_eq_true rfl) rfl (Nat.le_of_ble_eq_true rfl) (c3_settle a (withQ S (addQ S 8)) τ hR1 hO1 ) ?_
    rintro τ1 ⟨hB1, hB2⟩
    refine AW.run 6 [] (74, [(0, .inr (.inr (2, a, 0))), (1, .inl (nI 8))], [], (setM τ1 2 a 0 12 ((τ1 2 a 0 12) + 1))) [] rfl ?_ ?_
    · exact trivial
    refine AW.retv ⟨_, rfl⟩ rfl ?_
    refine ⟨only_trans hS1 (only_trans hB1 only_set), ?_⟩
    have q9 : τ1 2 a 0 12 + 1 = nI (Sd S + 1) := by rw [hB2.1.2.2.2.2.2, nI_1, settle_d]; rfl
    rw [q9]
    exact rep_d hB2
set_option maxHeartbeats 4000000 in
set_option maxRecDepth 100000 in
theorem c3_pass (a : Nat) (S : Sv) (σ : St) (hR : RepS (σ 2 a) S) (hO : SOK S) (n : Nat) (hn : n < 2 ^ 31) : Ct M3_pass 3 [.inr (.inr (2, a, 0)), .inl (nI n)] σ (PV fun σ' => Only 2 a σ σ' ∧ RepS (σ' 2 a) (passS n S)) := by
  refine Ct.of f_3_pass (Nat.le_of_ble_eq_true rfl) ?_
  show AW M3_pass 3 _ (0, [(0, .inr (.inr (2, a, 0))), (1, .inl (nI n))], [], σ)
  refine AW.run 2 [] (2, [(2, .inl 0), (0, .inr (.inr (2, a, 0))), (1, .inl (nI n))], [], σ) [] rfl ?_ ?_
  · exact trivial
  refine AW.pick [1, 2, 0] (ls' := [(0, .inr (.inr (2, a, 0))), (1, .inl (nI n)), (2, .inl (nI 0))]) rfl ?_
  refine AW.loop (α := Unit) 2 (n) (fun i _ => [(0, .inr (.inr (2, a, 0))), (1, .inl (nI n)), (2, .inl (nI i))]) (fun i _ τ => Only 2 a σ τ ∧ RepS (τ 2 a) (passS i S)) ?_ ?_ (n) 0 () _ (by omega) ⟨only_rfl, hR⟩
  · intro i _ τ hi hI hk
    obtain ⟨hS1, hR1⟩ := hI
    skip
    refine AW.run 4 [false] (8, [(0, .inr (.inr (2, a, 0))), (1, .inl (nI n)), (2, .inl (nI i))], [.inr (.inr (2, a, 0))], τ) [¬ icP .ge (nI i) (nI n)] rfl ?_ ?_
    · exact allP1 (nI_ge hi (by omega))
    refine AW.callVV (d' := 2) [] [] ⟨_, rfl⟩ f_3_dayGoesBy v_3_dayGoesBy l_3_82 ⟨rfl, by decide⟩ rfl (Nat.le_of_ble_eq_true rfl) rfl (Nat.le_of_ble_eq_true rfl) (c3_dayGoesBy a (passS i S) τ hR1 (SOK_pass i hO) ) ?_
    rintro τ1 ⟨hB1, hB2⟩
    refine AW.run 2 [] (2, [(2, .inl ((nI i) + 1)), (0, .inr (.inr (2, a, 0))), (1, .inl (nI n))], [], τ1) [] rfl ?_ ?_
    · exact trivial
    rw [nI_1 i]
    refine AW.pick [1, 2, 0] (ls' := [(0, .inr (.inr (2, a, 0))), (1, .inl (nI n)), (2, .inl (nI (i + 1)))]) rfl ?_
    exact hk () _ ⟨only_trans hS1 hB1, by rw [pass_succ]; exact hB2⟩
  · intro _ τ hI
    obtain ⟨hS1, hR1⟩ := hI
    refine AW.run 3 [true] (17, [(0, .inr (.inr (2, a, 0))), (1, .inl (nI n)), (2, .inl (nI (n)))], [], τ) [icP .ge (nI (n)) (nI n)] rfl ?_ ?_
    · exact allP1 (nI_le (Nat.le_refl _) (by omega))
    refine AW.retv ⟨_, rfl⟩ rfl ?_
    exact ⟨hS1, hR1⟩
set_option maxHeartbeats 4000000 in
set_option maxRecDepth 100000 in
theorem c3_setPress (a : Nat) (S : Sv) (σ : St) (hR : RepS (σ 2 a) S) (hO : SOK S) (k q : Nat) (hk : k < Sn S) : Ct M3_setPress 1 [.inr (.inr (2, a, 0)), .inl (nI k), .inl (nI q)] σ (PV fun σ' => Only 2 a σ σ' ∧ RepS (σ' 2 a) (withQ S (fu (Sq S) k q))) := by
  refine Ct.of f_3_setPress (Nat.le_of_ble_eq_true rfl) ?_
  show AW M3_setPress 1 _ (0, [(0, .inr (.inr (2, a, 0))), (1, .inl (nI k)), (2, .inl (nI q))], [], σ)
  have hn := hO.1
  have hk8 : k < 8 := by omega
  refine AW.run 2 [] (2, [(0, .inr (.inr (2, a, 0))), (1, .inl (nI k)), (2, .inl (nI q))], [.inl (nI k), .inr (.inr (2, a, 0))], σ) [] rfl ?_ ?_
  · exact trivial
  refine AW.callVI (d' := 0) [.inl (nI k)] [] ⟨_, rfl⟩ f_3_has v_3_has l_3_58 ⟨rfl, by decide⟩ rfl (Nat.le_of_ble_eq_true rfl) rfl (Nat.le_of_ble_eq_true rfl) (c3_has a S σ hR hO (nI k)) ?_
  rintro v _ ⟨rfl, hv⟩
  rcases hv with ⟨rfl, hp2⟩ | ⟨rfl, hp2⟩
  · skip
    refine AW.run 6 [false] (15, [(0, .inr (.inr (2, a, 0))), (1, .inl (nI k)), (2, .inl (nI q))], [], (setM σ 2 a 4 (nI k).toNatClampNeg (nI q))) [¬ icP .eq (1 : Int32) 0, vp_in (nI k) 8] rfl ?_ ?_
    · exact ⟨(by decide : ¬ ((1 : Int32) = 0)), allP1 (by exact in8 hk8)⟩
    refine AW.retv ⟨_, rfl⟩ rfl ?_
    exact ⟨only_set, by rw [cl8 hk8]; exact rep_q hR⟩
  · skip
    refine AW.run 1 [true] (15, [(0, .inr (.inr (2, a, 0))), (1, .inl (nI k)), (2, .inl (nI q))], [], σ) [icP .eq (0 : Int32) 0] rfl ?_ ?_
    · exact allP1 (by decide : ((0 : Int32) = 0))
    refine AW.retv ⟨_, rfl⟩ rfl ?_
    exact absurd rfl (hp2 k hk)
set_option maxHeartbeats 4000000 in
set_option maxRecDepth 100000 in
theorem c3_setPlace (a : Nat) (S : Sv) (σ : St) (hR : RepS (σ 2 a) S) (hO : SOK S) (k q : Nat) (hk : k < Sn S) : Ct M3_setPlace 1 [.inr (.inr (2, a, 0)), .inl (nI k), .inl (nI q)] σ (PV fun σ' => Only 2 a σ σ' ∧ RepS (σ' 2 a) (withP S (fu (Sp S) k q))) := by
  refine Ct.of f_3_setPlace (Nat.le_of_ble_eq_true rfl) ?_
  show AW M3_setPlace 1 _ (0, [(0, .inr (.inr (2, a, 0))), (1, .inl (nI k)), (2, .inl (nI q))], [], σ)
  have hn := hO.1
  have hk8 : k < 8 := by omega
  refine AW.run 2 [] (2, [(0, .inr (.inr (2, a, 0))), (1, .inl (nI k)), (2, .inl (nI q))], [.inl (nI k), .inr (.inr (2, a, 0))], σ) [] rfl ?_ ?_
  · exact trivial
  refine AW.callVI (d' := 0) [.inl (nI k)] [] ⟨_, rfl⟩ f_3_has v_3_has l_3_58 ⟨rfl, by decide⟩ rfl (Nat.le_of_ble_eq_true rfl) rfl (Nat.le_of_ble_eq_true rfl) (c3_has a S σ hR hO (nI k)) ?_
  rintro v _ ⟨rfl, hv⟩
  rcases hv with ⟨rfl, hp2⟩ | ⟨rfl, hp2⟩
  · skip
    refine AW.run 6 [false] (15, [(0, .inr (.inr (2, a, 0))), (1, .inl (nI k)), (2, .inl (nI q))], [], (setM σ 2 a 3 (nI k).toNatClampNeg (nI q))) [¬ icP .eq (1 : Int32) 0, vp_in (nI k) 8] rfl ?_ ?_
    · exact ⟨(by decide : ¬ ((1 : Int32) = 0)), allP1 (by exact in8 hk8)⟩
    refine AW.retv ⟨_, rfl⟩ rfl ?_
    exact ⟨only_set, by rw [cl8 hk8]; exact rep_p hR⟩
  · skip
    refine AW.run 1 [true] (15, [(0, .inr (.inr (2, a, 0))), (1, .inl (nI k)), (2, .inl (nI q))], [], σ) [icP .eq (0 : Int32) 0] rfl ?_ ?_
    · exact allP1 (by decide : ((0 : Int32) = 0))
    refine AW.retv ⟨_, rfl⟩ rfl ?_
    exact absurd rfl (hp2 k hk)
set_option maxHeartbeats 4000000 in
set_option maxRecDepth 100000 in
theorem c3_turnTowel (a : Nat) (S : Sv) (σ : St) (hR : RepS (σ 2 a) S) (hO : SOK S) (k : Nat) (hk : k < Sn S) : Ct M3_turnTowel 1 [.inr (.inr (2, a, 0)), .inl (nI k)] σ (PV fun σ' => Only 2 a σ σ' ∧ RepS (σ' 2 a) (withT S (fu (Stw S) k (!(Stw S k))))) := by
  refine Ct.of f_3_turnTowel (Nat.le_of_ble_eq_true rfl) ?_
  show AW M3_turnTowel 1 _ (0, [(0, .inr (.inr (2, a, 0))), (1, .inl (nI k))], [], σ)
  have hn := hO.1
  have hk8 : k < 8 := by omega
  refine AW.run 2 [] (2, [(0, .inr (.inr (2, a, 0))), (1, .inl (nI k))], [.inl (nI k), .inr (.inr (2, a, 0))], σ) [] rfl ?_ ?_
  · exact trivial
  refine AW.callVI (d' := 0) [.inl (nI k)] [] ⟨_, rfl⟩ f_3_has v_3_has l_3_58 ⟨rfl, by decide⟩ rfl (Nat.le_of_ble_eq_true rfl) rfl (Nat.le_of_ble_eq_true rfl) (c3_has a S σ hR hO (nI k)) ?_
  rintro v _ ⟨rfl, hv⟩
  rcases hv with ⟨rfl, hp2⟩ | ⟨rfl, hp2⟩
  · skip
    refine AW.run 9 [false] (20, [(0, .inr (.inr (2, a, 0))), (1, .inl (nI k))], [], (setM σ 2 a 0 9 ((σ 2 a 0 9) ^^^ (1 <<< ((nI k) &&& 31))))) [¬ icP .eq (1 : Int32) 0] rfl ?_ ?_
    · exact allP1 (by decide : ¬ ((1 : Int32) = 0))
    refine AW.retv ⟨_, rfl⟩ rfl ?_
    refine ⟨only_set, ?_⟩
    rw [hR.1.2.2.1, bI_xor _ hk8]
    exact rep_t hR
  · skip
    refine AW.run 1 [true] (20, [(0, .inr (.inr (2, a, 0))), (1, .inl (nI k))], [], σ) [icP .eq (0 : Int32) 0] rfl ?_ ?_
    · exact allP1 (by decide : ((0 : Int32) = 0))
    refine AW.retv ⟨_, rfl⟩ rfl ?_
    exact absurd rfl (hp2 k hk)
set_option maxHeartbeats 4000000 in
set_option maxRecDepth 100000 in
theorem c3_takeAway (a : Nat) (S : Sv) (σ : St) (hR : RepS (σ 2 a) S) (hO : SOK S) (k : Nat) (hk : k < Sn S) : Ct M3_takeAway 1 [.inr (.inr (2, a, 0)), .inl (nI k)] σ (PV fun σ' => Only 2 a σ σ' ∧ RepS (σ' 2 a) (withW S (fu (Sw S) k false))) := by
  refine Ct.of f_3_takeAway (Nat.le_of_ble_eq_true rfl) ?_
  show AW M3_takeAway 1 _ (0, [(0, .inr (.inr (2, a, 0))), (1, .inl (nI k))], [], σ)
  have hn := hO.1
  have hk8 : k < 8 := by omega
  refine AW.run 2 [] (2, [(0, .inr (.inr (2, a, 0))), (1, .inl (nI k))], [.inl (nI k), .inr (.inr (2, a, 0))], σ) [] rfl ?_ ?_
  · exact trivial
  refine AW.callVI (d' := 0) [.inl (nI k)] [] ⟨_, rfl⟩ f_3_has v_3_has l_3_58 ⟨rfl, by decide⟩ rfl (Nat.le_of_ble_eq_true rfl) rfl (Nat.le_of_ble_eq_true rfl) (c3_has a S σ hR hO (nI k)) ?_
  rintro v _ ⟨rfl, hv⟩
  rcases hv with ⟨rfl, hp2⟩ | ⟨rfl, hp2⟩
  · skip
    refine AW.run 11 [false] (22, [(0, .inr (.inr (2, a, 0))), (1, .inl (nI k))], [], (setM σ 2 a 0 8 ((σ 2 a 0 8) &&& ((1 <<< ((nI k) &&& 31)) ^^^ (-1))))) [¬ icP .eq (1 : Int32) 0] rfl ?_ ?_
    · exact allP1 (by decide : ¬ ((1 : Int32) = 0))
    refine AW.retv ⟨_, rfl⟩ rfl ?_
    refine ⟨only_set, ?_⟩
    rw [hR.1.2.1, bI_clr _ hk8]
    exact rep_w hR
  · skip
    refine AW.run 1 [true] (22, [(0, .inr (.inr (2, a, 0))), (1, .inl (nI k))], [], σ) [icP .eq (0 : Int32) 0] rfl ?_ ?_
    · exact allP1 (by decide : ((0 : Int32) = 0))
    refine AW.retv ⟨_, rfl⟩ rfl ?_
    exact absurd rfl (hp2 k hk)
