/-! BURST AND SETTLE -/
theorem rep_q {a : Nat} {S : Sv} {σ : St} {k q : Nat} (hR : RepS (σ 2 a) S) : RepS (setM σ 2 a 4 k (nI q) 2 a) (withQ S (fu (Sq S) k q)) := by
  obtain ⟨h1, h2, h3⟩ := hR
  refine ⟨?_, fun i hi => ?_, fun i hi => ?_⟩
  · simpa [setM_at, withQ] using h1
  · obtain ⟨g1, g2, g3, g4⟩ := h2 i hi
    refine ⟨by simpa [setM_at, withQ] using g1, by simpa [setM_at, withQ] using g2, by simpa [setM_at, withQ] using g3, ?_⟩
    by_cases hk : i = k
    · subst hk
      simp [setM_at, withQ, fu, Sq]
    · simp [setM_at, withQ, fu, hk, Sq]
      exact g4
  · simpa [setM_at, withQ, riseS, bearS, shockS] using h3 i hi
theorem rep_w {a : Nat} {S : Sv} {σ : St} {w : Nat → Bool} (hR : RepS (σ 2 a) S) : RepS (setM σ 2 a 0 8 (bI w) 2 a) (withW S w) := by
  obtain ⟨h1, h2, h3⟩ := hR
  refine ⟨?_, fun i hi => ?_, fun i hi => ?_⟩
  · simpa [setM_at, withW] using ⟨h1.1, h1.2.2⟩
  · simpa [setM_at, withW] using h2 i hi
  · simpa [setM_at, withW, riseS, bearS, shockS] using h3 i hi
theorem rep_t {a : Nat} {S : Sv} {σ : St} {w : Nat → Bool} (hR : RepS (σ 2 a) S) : RepS (setM σ 2 a 0 9 (bI w) 2 a) (withT S w) := by
  obtain ⟨h1, h2, h3⟩ := hR
  refine ⟨?_, fun i hi => ?_, fun i hi => ?_⟩
  · simpa [setM_at, withT] using ⟨h1.1, h1.2.1, h1.2.2.2⟩
  · simpa [setM_at, withT] using h2 i hi
  · simpa [setM_at, withT, riseS, bearS, shockS] using h3 i hi
theorem rep_d {a : Nat} {S : Sv} {σ : St} {d : Nat} (hR : RepS (σ 2 a) S) : RepS (setM σ 2 a 0 12 (nI d) 2 a) (withD S d) := by
  obtain ⟨h1, h2, h3⟩ := hR
  refine ⟨?_, fun i hi => ?_, fun i hi => ?_⟩
  · simpa [setM_at, withD] using ⟨h1.1, h1.2.1, h1.2.2.1, h1.2.2.2.1, h1.2.2.2.2.1⟩
  · simpa [setM_at, withD] using h2 i hi
  · simpa [setM_at, withD, riseS, bearS, shockS] using h3 i hi
theorem rep_p {a : Nat} {S : Sv} {σ : St} {k q : Nat} (hR : RepS (σ 2 a) S) : RepS (setM σ 2 a 3 k (nI q) 2 a) (withP S (fu (Sp S) k q)) := by
  obtain ⟨h1, h2, h3⟩ := hR
  refine ⟨?_, fun i hi => ?_, fun i hi => ?_⟩
  · simpa [setM_at, withP] using h1
  · obtain ⟨g1, g2, g3, g4⟩ := h2 i hi
    refine ⟨by simpa [setM_at, withP] using g1, by simpa [setM_at, withP] using g2, ?_, by simpa [setM_at, withP] using g4⟩
    by_cases hk : i = k
    · subst hk
      simp [setM_at, withP, fu, Sp]
    · simp [setM_at, withP, fu, hk, Sp]
      exact g3
  · simpa [setM_at, withP, riseS, bearS, shockS] using h3 i hi
def hitS (S : Sv) (b j : Nat) : Prop := j ≠ b ∧ Sw S j = true ∧ Stw S j = false ∧ nearN (Sp S b) (Sp S j) = true
theorem burstQ_hit {S : Sv} {b j : Nat} (h : hitS S b j) : burstQ S b (j + 1) = fu (burstQ S b j) j (min 99 (Sq S j + shockS S b)) := by
  funext k
  simp only [burstQ, fu]
  obtain ⟨h1, h2, h3, h4⟩ := h
  by_cases hk : k = j
  · subst hk
    simp [h1, h2, h3, h4]
  · have : (k < j + 1) ↔ (k < j) := by omega
    simp [hk, this]
theorem burstQ_miss {S : Sv} {b j : Nat} (h : ¬ hitS S b j) : burstQ S b (j + 1) = burstQ S b j := by
  funext k
  simp only [burstQ]
  by_cases hk : k = j
  · subst hk
    rw [if_neg (fun q => h ⟨q.2.1, q.2.2.1, q.2.2.2.1, q.2.2.2.2⟩), if_neg (fun q => absurd q.1 (by omega))]
  · have : (k < j + 1) ↔ (k < j) := by omega
    simp [this]
theorem burstQ_at {S : Sv} {b j : Nat} : burstQ S b j j = Sq S j := by simp [burstQ]
theorem fu_self {α : Type} (f : Nat → α) (k : Nat) : fu f k (f k) = f := by
  funext j
  by_cases h : j = k
  · subst h; simp [fu]
  · simp [fu, h]
theorem sub_far : ∀ p < 15, ∀ q < 15, ((2 : Int32) < nI p - nI q ∨ nI p - nI q < (-2 : Int32)) ↔ nearN p q = false := by decide +kernel

theorem shock_le {S : Sv} (hO : SOK S) (i : Nat) : shockS S i ≤ 20 := by
  have h := (hO.2.1 i)
  unfold shockS shockN
  split <;> omega
set_option maxHeartbeats 4000000 in
set_option maxRecDepth 100000 in
theorem c3_burst (a : Nat) (S : Sv) (σ : St) (hR : RepS (σ 2 a) S) (hO : SOK S) (i : Nat) (hi : i < Sn S) : Ct M3_burst 0 [.inr (.inr (2, a, 0)), .inl (nI i)] σ (PV fun σ' => Only 2 a σ σ' ∧ RepS (σ' 2 a) (burstS S i)) := by
  refine Ct.of f_3_burst (Nat.le_of_ble_eq_true rfl) ?_
  show AW M3_burst 0 _ (0, [(0, .inr (.inr (2, a, 0))), (1, .inl (nI i))], [], σ)
  have hn := hO.1
  have hi8 : i < 8 := by omega
  have e8 : σ 2 a 0 8 = bI (Sw S) := hR.1.2.1
  have e9 : σ 2 a 0 9 = bI (Stw S) := hR.1.2.2.1
  refine AW.run 25 [false, true] (39, [(3, .inl 0), (2, .inl (((setM σ 2 a 0 8 ((σ 2 a 0 8) &&& ((1 <<< ((nI i) &&& 31)) ^^^ (-1)))) 2 a 0 8) &&& (((setM σ 2 a 0 8 ((σ 2 a 0 8) &&& ((1 <<< ((nI i) &&& 31)) ^^^ (-1)))) 2 a 0 9) ^^^ (-1)))), (0, .inr (.inr (2, a, 0))), (1, .inl (nI i))], [], (setM σ 2 a 0 8 ((σ 2 a 0 8) &&& ((1 <<< ((nI i) &&& 31)) ^^^ (-1))))) [¬ icP .lt (nI i) 0, icP .lt (nI i) 8] rfl ?_ ?_
  · exact ⟨(nlt0 (by omega)), allP1 (nI_lt (b := 8) hi8 (by decide))⟩
  have ew : σ 2 a 0 8 &&& ((1 <<< (nI i &&& 31)) ^^^ (-1)) = bI (fu (Sw S) i false) := by rw [e8]; exact bI_clr _ hi8
  rw [ew]
  have eo : setM σ 2 a 0 8 (bI (fu (Sw S) i false)) 2 a 0 8 &&& ((setM σ 2 a 0 8 (bI (fu (Sw S) i false)) 2 a 0 9) ^^^ (-1)) = bI (fun j => fu (Sw S) i false j && !(Stw S j)) := by
    rw [setM_at, setM_at, if_pos ⟨rfl, rfl⟩, if_neg (by decide), e9]; exact bI_andn _ _
  rw [eo]
  generalize hop : bI (fun j => fu (Sw S) i false j && !(Stw S j)) = OPN
  refine AW.pick [2, 3, 1, 0] (ls' := [(0, .inr (.inr (2, a, 0))), (1, .inl (nI i)), (2, .inl OPN), (3, .inl (nI 0))]) rfl ?_
  refine AW.loop (α := Unit) 39 8 (fun j _ => [(0, .inr (.inr (2, a, 0))), (1, .inl (nI i)), (2, .inl OPN), (3, .inl (nI j))]) (fun j _ τ => Only 2 a σ τ ∧ RepS (τ 2 a) (withQ (withW S (fu (Sw S) i false)) (burstQ S i j))) ?_ ?_ 8 0 () _ rfl ⟨only_set, ?_⟩
  · intro j _ τ hj hI hk
    obtain ⟨hS1, hR1⟩ := hI
    have g1 := hR1.2.1 j hj
    have g2 := hR1.2.1 i hi8
    have q1 : τ 2 a 4 (nI j).toNatClampNeg = nI (Sq S j) := by rw [cl8 hj, g1.2.2.2]; exact congrArg nI burstQ_at
    have q2 : τ 2 a 7 (nI i).toNatClampNeg = nI (shockS S i) := by rw [cl8 hi8]; exact (hR1.2.2 i hi).2.2
    have q3 : τ 2 a 3 (nI i).toNatClampNeg - τ 2 a 3 (nI j).toNatClampNeg = nI (Sp S i) - nI (Sp S j) := by rw [cl8 hi8, cl8 hj, g1.2.2.1, g2.2.2.1]; rfl
    have q4 : (OPN >>> (nI j &&& 31)) &&& 1 = if (fu (Sw S) i false j && !(Stw S j)) = true then 1 else 0 := by rw [← hop]; exact bI_bit _ hj
    have q5 := sub_far (Sp S i) (by have := (hO.2.1 i).2.2.1; omega) (Sp S j) (by have := (hO.2.1 j).2.2.1; omega)
    have sq := (hO.2.1 j).2.2.2
    have hfu : (fu (Sw S) i false j && !(Stw S j)) = true ↔ (j ≠ i ∧ Sw S j = true ∧ Stw S j = false) := by
      by_cases hji : j = i
      · subst hji; simp [fu]
      · simp [fu, hji]
    have miss : ¬ hitS S i j → AW M3_burst 0 _ (39, [(0, .inr (.inr (2, a, 0))), (1, .inl (nI i)), (2, .inl OPN), (3, .inl (nI (j + 1)))], [], τ) := fun hm => hk () τ ⟨hS1, by rw [burstQ_miss hm]; exact hR1⟩
    have hit : hitS S i j → AW M3_burst 0 _ (39, [(0, .inr (.inr (2, a, 0))), (1, .inl (nI i)), (2, .inl OPN), (3, .inl (nI (j + 1)))], [], setM τ 2 a 4 j (nI (min 99 (Sq S j + shockS S i)))) := fun hm => hk () _ ⟨only_trans hS1 only_set, by rw [burstQ_hit hm]; exact rep_q hR1⟩
    have hs : shockS S i ≤ 20 := shock_le hO i
    by_cases hw1 : (fu (Sw S) i false j && !(Stw S j)) = true
    · obtain ⟨w2, w3, w4⟩ := hfu.mp hw1
      by_cases hnr : nearN (Sp S i) (Sp S j) = true
      · have hm : hitS S i j := ⟨w2, w3, w4, hnr⟩
        have n1 : ¬ (2 : Int32) < nI (Sp S i) - nI (Sp S j) := fun h => by have := q5.mp (Or.inl h); rw [hnr] at this; cases this
        have n2 : ¬ nI (Sp S i) - nI (Sp S j) < (-2 : Int32) := fun h => by have := q5.mp (Or.inr h); rw [hnr] at this; cases this
        refine AW.run 12 [false] (58, [(0, .inr (.inr (2, a, 0))), (1, .inl (nI i)), (2, .inl OPN), (3, .inl (nI j))], [.inl ((τ 2 a 3 (nI i).toNatClampNeg) - (τ 2 a 3 (nI j).toNatClampNeg))], τ) [¬ icP .ge (nI j) 8, vp_in (nI i) 8, vp_in (nI j) 8] rfl ?_ ?_
        · exact ⟨(nle_lit (a := 8) hj (by decide)), (by first | exact in8 hj | exact in8 hi8), allP1 (by first | exact in8 hj | exact in8 hi8)⟩
        rw [q3]
        refine AW.run 6 [] (65, [(4, .inl (nI (Sp S i) - nI (Sp S j))), (0, .inr (.inr (2, a, 0))), (1, .inl (nI i)), (2, .inl OPN), (3, .inl (nI j))], [.inl ((OPN >>> ((nI j) &&& 31)) &&& 1)], τ) [] rfl ?_ ?_
        · exact trivial
        rw [q4]
        refine AW.run 11 [false, false, true] (90, [(4, .inl (nI (Sp S i) - nI (Sp S j))), (0, .inr (.inr (2, a, 0))), (1, .inl (nI i)), (2, .inl OPN), (3, .inl (nI j))], [.inl (τ 2 a 4 (nI j).toNatClampNeg)], τ) [¬ icP .eq (if (fu (Sw S) i false j && !(Stw S j)) = true then 1 else 0) 0, ¬ icP .gt (nI (Sp S i) - nI (Sp S j)) 2, icP .ge (nI (Sp S i) - nI (Sp S j)) (-2), vp_in (nI j) 8] rfl ?_ ?_
        · exact ⟨(by rw [if_pos hw1]; exact (by decide : ¬ (1 : Int32) = 0)), (n1), (Int32.not_lt.mp n2), allP1 (by first | exact in8 hj | exact in8 hi8)⟩
        rw [q1]
        refine AW.run 5 [] (97, [(4, .inl (nI (Sp S i) - nI (Sp S j))), (0, .inr (.inr (2, a, 0))), (1, .inl (nI i)), (2, .inl OPN), (3, .inl (nI j))], [.inl ((nI (Sq S j)) + (τ 2 a 7 (nI i).toNatClampNeg))], τ) [vp_in (nI i) 8] rfl ?_ ?_
        · exact allP1 (by first | exact in8 hj | exact in8 hi8)
        rw [q2, nI_add]
        by_cases h108_1 : Sq S j + shockS S i ≤ 99
        · skip
          refine AW.run 11 [true] (39, [(3, .inl ((nI j) + 1)), (5, .inl (nI (Sq S j + shockS S i))), (4, .inl (nI (Sp S i) - nI (Sp S j))), (0, .inr (.inr (2, a, 0))), (1, .inl (nI i)), (2, .inl OPN)], [], (setM τ 2 a 4 (nI j).toNatClampNeg (nI (Sq S j + shockS S i)))) [icP .le (nI (Sq S j + shockS S i)) 99, vp_in (nI j) 8] rfl ?_ ?_
          · exact ⟨(nI_le h108_1 (by decide)), allP1 (by first | exact in8 hj | exact in8 hi8)⟩
          rw [nI_1 j]
          refine AW.pick [3, 4, 5, 0] (ls' := [(0, .inr (.inr (2, a, 0))), (1, .inl (nI i)), (2, .inl OPN), (3, .inl (nI (j + 1)))]) rfl ?_
          rw [cl8 hj]
          have hcap := hit hm
          first | (rw [Nat.min_eq_left (by omega)] at hcap; exact hcap) | (rw [Nat.min_eq_right (by omega)] at hcap; exact hcap)
        · skip
          refine AW.run 12 [false] (39, [(3, .inl ((nI j) + 1)), (5, .inl (nI (Sq S j + shockS S i))), (4, .inl (nI (Sp S i) - nI (Sp S j))), (0, .inr (.inr (2, a, 0))), (1, .inl (nI i)), (2, .inl OPN)], [], (setM τ 2 a 4 (nI j).toNatClampNeg 99)) [¬ icP .le (nI (Sq S j + shockS S i)) 99, vp_in (nI j) 8] rfl ?_ ?_
          · exact ⟨(nI_ge (b := Sq S j + shockS S i) (a := 99) (by omega) (by omega)), allP1 (by first | exact in8 hj | exact in8 hi8)⟩
          rw [nI_1 j]
          refine AW.pick [3, 4, 5, 0] (ls' := [(0, .inr (.inr (2, a, 0))), (1, .inl (nI i)), (2, .inl OPN), (3, .inl (nI (j + 1)))]) rfl ?_
          rw [cl8 hj]
          have hcap := hit hm
          first | (rw [Nat.min_eq_left (by omega)] at hcap; exact hcap) | (rw [Nat.min_eq_right (by omega)] at hcap; exact hcap)
      · have hm : ¬ hitS S i j := fun h => hnr h.2.2.2
        have hnf : nearN (Sp S i) (Sp S j) = false := by cases hb : nearN (Sp S i) (Sp S j); rfl; exact absurd hb hnr
        refine AW.run 12 [false] (58, [(0, .inr (.inr (2, a, 0))), (1, .inl (nI i)), (2, .inl OPN), (3, .inl (nI j))], [.inl ((τ 2 a 3 (nI i).toNatClampNeg) - (τ 2 a 3 (nI j).toNatClampNeg))], τ) [¬ icP .ge (nI j) 8, vp_in (nI i) 8, vp_in (nI j) 8] rfl ?_ ?_
        · exact ⟨(nle_lit (a := 8) hj (by decide)), (by first | exact in8 hj | exact in8 hi8), allP1 (by first | exact in8 hj | exact in8 hi8)⟩
        rw [q3]
        refine AW.run 6 [] (65, [(4, .inl (nI (Sp S i) - nI (Sp S j))), (0, .inr (.inr (2, a, 0))), (1, .inl (nI i)), (2, .inl OPN), (3, .inl (nI j))], [.inl ((OPN >>> ((nI j) &&& 31)) &&& 1)], τ) [] rfl ?_ ?_
        · exact trivial
        rw [q4]
        by_cases h71_1 : (2 : Int32) < nI (Sp S i) - nI (Sp S j)
        · skip
          refine AW.run 6 [false, true] (39, [(3, .inl ((nI j) + 1)), (4, .inl (nI (Sp S i) - nI (Sp S j))), (0, .inr (.inr (2, a, 0))), (1, .inl (nI i)), (2, .inl OPN)], [], τ) [¬ icP .eq (if (fu (Sw S) i false j && !(Stw S j)) = true then 1 else 0) 0, icP .gt (nI (Sp S i) - nI (Sp S j)) 2] rfl ?_ ?_
          · exact ⟨(by rw [if_pos hw1]; exact (by decide : ¬ (1 : Int32) = 0)), allP1 (h71_1)⟩
          rw [nI_1 j]
          refine AW.pick [2, 3, 4, 0] (ls' := [(0, .inr (.inr (2, a, 0))), (1, .inl (nI i)), (2, .inl OPN), (3, .inl (nI (j + 1)))]) rfl ?_
          exact miss hm
        · skip
          refine AW.run 10 [false, false, false] (39, [(3, .inl ((nI j) + 1)), (4, .inl (nI (Sp S i) - nI (Sp S j))), (0, .inr (.inr (2, a, 0))), (1, .inl (nI i)), (2, .inl OPN)], [], τ) [¬ icP .eq (if (fu (Sw S) i false j && !(Stw S j)) = true then 1 else 0) 0, ¬ icP .gt (nI (Sp S i) - nI (Sp S j)) 2, ¬ icP .ge (nI (Sp S i) - nI (Sp S j)) (-2)] rfl ?_ ?_
          · exact ⟨(by rw [if_pos hw1]; exact (by decide : ¬ (1 : Int32) = 0)), (h71_1), allP1 (fun h => by rcases q5.mpr hnf with h2 | h2; exact absurd h2 (by assumption); exact absurd h2 (Int32.not_lt.mpr h))⟩
          rw [nI_1 j]
          refine AW.pick [2, 3, 4, 0] (ls' := [(0, .inr (.inr (2, a, 0))), (1, .inl (nI i)), (2, .inl OPN), (3, .inl (nI (j + 1)))]) rfl ?_
          exact miss hm
    · have hm : ¬ hitS S i j := fun h => hw1 (hfu.mpr ⟨h.1, h.2.1, h.2.2.1⟩)
      refine AW.run 12 [false] (58, [(0, .inr (.inr (2, a, 0))), (1, .inl (nI i)), (2, .inl OPN), (3, .inl (nI j))], [.inl ((τ 2 a 3 (nI i).toNatClampNeg) - (τ 2 a 3 (nI j).toNatClampNeg))], τ) [¬ icP .ge (nI j) 8, vp_in (nI i) 8, vp_in (nI j) 8] rfl ?_ ?_
      · exact ⟨(nle_lit (a := 8) hj (by decide)), (by first | exact in8 hj | exact in8 hi8), allP1 (by first | exact in8 hj | exact in8 hi8)⟩
      rw [q3]
      refine AW.run 6 [] (65, [(4, .inl (nI (Sp S i) - nI (Sp S j))), (0, .inr (.inr (2, a, 0))), (1, .inl (nI i)), (2, .inl OPN), (3, .inl (nI j))], [.inl ((OPN >>> ((nI j) &&& 31)) &&& 1)], τ) [] rfl ?_ ?_
      · exact trivial
      rw [q4]
      refine AW.run 3 [true] (39, [(3, .inl ((nI j) + 1)), (4, .inl (nI (Sp S i) - nI (Sp S j))), (0, .inr (.inr (2, a, 0))), (1, .inl (nI i)), (2, .inl OPN)], [], τ) [icP .eq (if (fu (Sw S) i false j && !(Stw S j)) = true then 1 else 0) 0] rfl ?_ ?_
      · exact allP1 (by rw [if_neg hw1]; exact (rfl : (0 : Int32) = 0))
      rw [nI_1 j]
      refine AW.pick [2, 3, 4, 0] (ls' := [(0, .inr (.inr (2, a, 0))), (1, .inl (nI i)), (2, .inl OPN), (3, .inl (nI (j + 1)))]) rfl ?_
      exact miss hm
  · intro _ τ hI
    refine AW.run 3 [true] (125, [(0, .inr (.inr (2, a, 0))), (1, .inl (nI i)), (2, .inl OPN), (3, .inl (nI 8))], [], τ) [icP .ge (nI 8) 8] rfl ?_ ?_
    · exact allP1 (le_lit (a := 8) (b := 8) (by decide) (by decide))
    refine AW.retv ⟨_, rfl⟩ rfl ?_
    exact hI
  · have h0 : burstQ S i 0 = Sq S := by funext k; simp [burstQ]
    rw [h0]; show RepS _ (withW S (fu (Sw S) i false)); exact rep_w hR
