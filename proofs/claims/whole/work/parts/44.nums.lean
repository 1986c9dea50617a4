/-! NUMBERS OF BOTH -/
theorem above_cmp9 {o : Option Nat} {v : Nat} (hv : v ≤ 8) (ho : ∀ m, o = some m → m ≤ 8) : nI v ≤ optI o ↔ above o v = false := by
  cases o with
  | none =>
    have h : ∀ v < 9, ¬ nI v ≤ (-9 : Int32) := by decide
    exact ⟨fun q => absurd q (h v (by omega)), fun q => by cases q⟩
  | some m =>
    have := ho m rfl
    simp only [optI, above]
    rw [nI_leI (by omega) (by omega)]
    simp
theorem m9_le {o : Option Nat} (ho : ∀ m, o = some m → m ≤ 8) : (-9 : Int32) ≤ optI o := by
  cases o with
  | none => decide
  | some m =>
    have h : ∀ v < 9, (-9 : Int32) ≤ nI v := by decide
    exact h m (by have := ho m rfl; omega)
theorem amax_val {f : Nat → Option Nat} {m0 : Option Nat} : ∀ i b, (amax f m0 i).1 = some b → (amax f m0 i).2 = f b
  | 0, b, h => by cases h
  | i + 1, b, h => by
    unfold amax at h ⊢
    split at h
    · exact amax_val i b h
    · rename_i v hv
      split at h
      · rename_i hc
        cases h
        rw [if_pos hc]; exact hv.symm
      · rename_i hc
        rw [if_neg hc]; exact amax_val i b h
theorem amax_non {f : Nat → Option Nat} {m0 : Option Nat} : ∀ i, (amax f m0 i).1 = none → (amax f m0 i).2 = m0
  | 0, _ => rfl
  | i + 1, h => by
    unfold amax at h ⊢
    split at h
    · exact amax_non i h
    · rename_i v hv
      split at h
      · cases h
      · rename_i hc
        rw [if_neg hc]; exact amax_non i h
theorem amax_out {f : Nat → Option Nat} {m0 : Option Nat} {n : Nat} (h : ∀ i, n ≤ i → f i = none) : ∀ m, n ≤ m → amax f m0 m = amax f m0 n
  | 0, hm => by rw [show n = 0 by omega]
  | m + 1, hm => by
    by_cases he : n = m + 1
    · rw [he]
    · rw [← amax_out h m (by omega)]
      show (match f m with | none => amax f m0 m | some v => _) = _
      rw [h m (by omega)]
theorem amax_base {f : Nat → Option Nat} {b0 : Nat} : ∀ i, ∃ m, (amax f (some b0) i).2 = some m ∧ b0 ≤ m
  | 0 => ⟨b0, rfl, Nat.le_refl _⟩
  | i + 1 => by
    obtain ⟨m, h1, h2⟩ := amax_base (f := f) (b0 := b0) i
    unfold amax
    split
    · exact ⟨m, h1, h2⟩
    · rename_i v hv
      split
      · rename_i hc
        rw [h1] at hc
        have : m < v := of_decide_eq_true hc
        exact ⟨v, rfl, by omega⟩
      · exact ⟨m, h1, h2⟩
theorem amax_up {f : Nat → Option Nat} {m0 : Option Nat} {i v : Nat} (h : f i = some v) (ha : above (amax f m0 i).2 v = true) : amax f m0 (i + 1) = (some i, some v) := by
  show (match f i with | none => amax f m0 i | some v => if above (amax f m0 i).2 v = true then (some i, some v) else amax f m0 i) = _
  rw [h]; exact if_pos ha
theorem amax_stay {f : Nat → Option Nat} {m0 : Option Nat} {i : Nat} (h : ∀ v, f i = some v → above (amax f m0 i).2 v = false) : amax f m0 (i + 1) = amax f m0 i := by
  show (match f i with | none => amax f m0 i | some v => if above (amax f m0 i).2 v = true then (some i, some v) else amax f m0 i) = _
  cases hf : f i with
  | none => rfl
  | some v => exact if_neg (by rw [h v hf]; decide)
/-- the same but for the press and the towel of those that are gone -/
def Sim (S T : Sv) : Prop := Sn S = Sn T ∧ Sk S = Sk T ∧ Sf S = Sf T ∧ Sp S = Sp T ∧ Sw S = Sw T ∧ (∀ i, Sw S i = true → Sq S i = Sq T i ∧ Stw S i = Stw T i) ∧ Su S = Su T ∧ She S = She T ∧ Sd S = Sd T
theorem sim_rise {S T : Sv} (h : Sim S T) (i : Nat) : riseS S i = riseS T i := by
  unfold riseS; rw [h.2.1, h.2.2.1, h.2.2.2.2.2.2.1, h.2.2.2.2.2.2.2.1]
theorem sim_bear {S T : Sv} (h : Sim S T) (i : Nat) : bearS S i = bearS T i := by
  unfold bearS; rw [h.2.1, h.2.2.1]
theorem sim_shock {S T : Sv} (h : Sim S T) (i : Nat) : shockS S i = shockS T i := by
  unfold shockS; rw [h.2.1, h.2.2.1]
theorem sim_next {S T : Sv} (h : Sim S T) : ∀ k i, nextS S k i = nextS T k i
  | 0, _ => rfl
  | k + 1, i => by
    unfold nextS
    have hw := congrFun h.2.2.2.2.1 i
    by_cases hs : Sw S i = true
    · rw [hw] at hs
      rw [sim_bear h, (h.2.2.2.2.2.1 i (by rw [hw]; exact hs)).1, hw, sim_next h k (i + 1)]
    · rw [if_neg (fun q => hs q.1), if_neg (fun q => hs (by rw [hw]; exact q.1)), sim_next h k (i + 1)]
theorem sim_burst {S T : Sv} (h : Sim S T) (b : Nat) : Sim (burstS S b) (burstS T b) := by
  obtain ⟨h1, h2, h3, h4, h5, h6, h7, h8, h9⟩ := id h
  refine ⟨h1, h2, h3, h4, ?_, fun i hi => ?_, h7, h8, h9⟩
  · show fu (Sw S) b false = fu (Sw T) b false
    rw [h5]
  · have hi : fu (Sw S) b false i = true := hi
    have hb : i ≠ b := by
      intro q
      subst q
      rw [fu_eq] at hi
      cases hi
    rw [fu_ne _ _ hb] at hi
    obtain ⟨e1, e2⟩ := h6 i hi
    refine ⟨?_, e2⟩
    show burstQ S b 8 i = burstQ T b 8 i
    unfold burstQ
    rw [h5, h4, e1, e2, sim_shock h]
theorem sim_settle : ∀ (k : Nat) {S T : Sv}, Sim S T → Sim (settleS k S) (settleS k T)
  | 0, _, _, h => h
  | k + 1, S, T, h => by
    unfold settleS
    rw [sim_next h]
    cases nextS T 8 0 with
    | none => exact h
    | some i => exact sim_settle k (sim_burst h i)
theorem sim_day {S T : Sv} (h : Sim S T) : Sim (dayS S) (dayS T) := by
  have h1 : Sim (withQ S (addQ S 8)) (withQ T (addQ T 8)) := by
    refine ⟨h.1, h.2.1, h.2.2.1, h.2.2.2.1, h.2.2.2.2.1, fun i hi => ⟨?_, (h.2.2.2.2.2.1 i hi).2⟩, h.2.2.2.2.2.2⟩
    show addQ S 8 i = addQ T 8 i
    unfold addQ
    rw [← h.2.2.2.2.1, (h.2.2.2.2.2.1 i hi).1, sim_rise h]
  obtain ⟨g1, g2, g3, g4, g5, g6, g7, g8, g9⟩ := sim_settle 8 h1
  exact ⟨g1, g2, g3, g4, g5, g6, g7, g8, by show Sd S + 1 = Sd T + 1; rw [h.2.2.2.2.2.2.2.2]⟩
theorem sim_pass : ∀ (n : Nat) {S T : Sv}, Sim S T → Sim (passS n S) (passS n T)
  | 0, _, _, h => h
  | n + 1, _, _, h => sim_pass n (sim_day h)
theorem sim_left {S T : Sv} (h : Sim S T) (n : Nat) : leftS S n = leftS T n := by
  unfold leftS; rw [(sim_pass n h).2.2.2.2.1]
theorem sim_rfl {S : Sv} : Sim S S := ⟨rfl, rfl, rfl, rfl, rfl, fun _ _ => ⟨rfl, rfl⟩, rfl, rfl, rfl⟩
theorem sim_tow {S : Sv} {b : Nat} {t : Bool} (h : Sw S b = false) : Sim (withT S (fu (Stw S) b t)) S := by
  refine ⟨rfl, rfl, rfl, rfl, rfl, fun i hi => ⟨rfl, ?_⟩, rfl, rfl, rfl⟩
  have hi : Sw S i = true := hi
  show fu (Stw S) b t i = Stw S i
  exact fu_ne _ _ (fun q => by rw [q, h] at hi; cases hi)
/-! gone is gone -/
theorem settle_w : ∀ (k : Nat) (S : Sv) (i : Nat), Sw (settleS k S) i = true → Sw S i = true
  | 0, _, _, h => h
  | k + 1, S, i, h => by
    unfold settleS at h
    split at h
    · exact h
    · rename_i j hj
      have h2 : fu (Sw S) j false i = true := settle_w k _ i h
      unfold fu at h2
      split at h2
      · cases h2
      · exact h2
theorem day_w {S : Sv} {i : Nat} (h : Sw (dayS S) i = true) : Sw S i = true := settle_w 8 (withQ S (addQ S 8)) i h
theorem pass_w : ∀ (n : Nat) {S : Sv} {i : Nat}, Sw (passS n S) i = true → Sw S i = true
  | 0, _, _, h => h
  | n + 1, _, _, h => day_w (pass_w n h)
theorem pass_add : ∀ (m n : Nat) (S : Sv), passS (m + n) S = passS n (passS m S)
  | 0, n, S => by rw [Nat.zero_add]; rfl
  | m + 1, n, S => by rw [show m + 1 + n = (m + n) + 1 by omega]; exact pass_add m n (dayS S)
theorem pass_gone {S : Sv} {i d e : Nat} (h : Sw (passS d S) i = false) (hde : d ≤ e) : Sw (passS e S) i = false := by
  cases hx : Sw (passS e S) i with
  | false => rfl
  | true =>
    rw [show e = d + (e - d) by omega, pass_add] at hx
    rw [pass_w _ hx] at h
    cases h
theorem day_uh (S : Sv) : Su (dayS S) = Su S ∧ She (dayS S) = She S := by
  have h : ∀ k (T : Sv), Su (settleS k T) = Su T ∧ She (settleS k T) = She T := by
    intro k
    induction k with
    | zero => intro T; exact ⟨rfl, rfl⟩
    | succ k ih =>
      intro T
      unfold settleS
      split
      · exact ⟨rfl, rfl⟩
      · exact ih _
  exact h 8 (withQ S (addQ S 8))
theorem pass_uh : ∀ (n : Nat) (S : Sv), Su (passS n S) = Su S ∧ She (passS n S) = She S
  | 0, _ => ⟨rfl, rfl⟩
  | n + 1, S => ⟨(pass_uh n _).1.trans (day_uh S).1, (pass_uh n _).2.trans (day_uh S).2⟩
theorem cN_mono {f g : Nat → Bool} (h : ∀ i, f i = true → g i = true) : cN f ≤ cN g ∧ (cN f = cN g → bN f = bN g) := by
  have e : ∀ i, (if f i = true then 1 else 0 : Nat) ≤ (if g i = true then 1 else 0) ∧ ((if f i = true then 1 else 0 : Nat) = (if g i = true then 1 else 0) → f i = g i) := by
    intro i
    have := h i
    cases hf : f i <;> cases hg : g i
    · exact ⟨by decide, fun _ => rfl⟩
    · exact ⟨by decide, fun q => by cases q⟩
    · rw [hf, hg] at this; exact absurd (this rfl) (by decide)
    · exact ⟨by decide, fun _ => rfl⟩
  have e0 := e 0; have e1 := e 1; have e2 := e 2; have e3 := e 3; have e4 := e 4; have e5 := e 5; have e6 := e 6; have e7 := e 7
  constructor
  · unfold cN c8
    omega
  · intro hs
    unfold cN c8 at hs
    have f0 := e0.2 (by omega); have f1 := e1.2 (by omega); have f2 := e2.2 (by omega); have f3 := e3.2 (by omega)
    have f4 := e4.2 (by omega); have f5 := e5.2 (by omega); have f6 := e6.2 (by omega); have f7 := e7.2 (by omega)
    unfold bN
    rw [f0, f1, f2, f3, f4, f5, f6, f7]
theorem calm_iff {S : Sv} {h : Nat} : leftS (withU S (Su S) h) 1 = cN (Sw S) ↔ sameW (dayS (withU S (Su S) h)) S = true := by
  have hm := cN_mono (f := Sw (dayS (withU S (Su S) h))) (g := Sw S) (fun i hi => day_w (S := withU S (Su S) h) hi)
  unfold sameW
  rw [decide_eq_true_iff]
  constructor
  · exact hm.2
  · intro q
    have e : ∀ i, i < 8 → Sw (dayS (withU S (Su S) h)) i = Sw S i := fun i hi => bI_inj (bI_eq.mpr q) hi
    exact cN_congr e
/-! who goes first -/
theorem gone_iff {b : Nat} {S : Sv} : ∀ (k d : Nat), (goneN b k d (passS d S) = none → ∀ e, d ≤ e → e < d + k → Sw (passS e S) b = true) ∧ ∀ r, goneN b k d (passS d S) = some r → d ≤ r ∧ r < d + k ∧ Sw (passS r S) b = false ∧ ∀ e, d ≤ e → e < r → Sw (passS e S) b = true
  | 0, d => ⟨fun _ e h1 h2 => by omega, fun r h => by cases h⟩
  | k + 1, d => by
    obtain ⟨i1, i2⟩ := gone_iff (b := b) (S := S) k (d + 1)
    unfold goneN
    by_cases hw : Sw (passS d S) b = true
    · rw [if_pos hw, ← pass_succ]
      refine ⟨fun h e h1 h2 => ?_, fun r h => ?_⟩
      · by_cases he : e = d
        · rw [he]; exact hw
        · exact i1 h e (by omega) (by omega)
      · obtain ⟨q1, q2, q3, q4⟩ := i2 r h
        refine ⟨by omega, by omega, q3, fun e h1 h2 => ?_⟩
        by_cases he : e = d
        · rw [he]; exact hw
        · exact q4 e (by omega) h2
    · rw [if_neg hw]
      refine ⟨fun h => (by cases h), fun r h => ?_⟩
      cases h
      exact ⟨Nat.le_refl _, by omega, by cases hx : Sw (passS d S) b <;> simp_all, fun e h1 h2 => by omega⟩
theorem fst_iff {f : Nat → Bool} : ∀ (k i : Nat), (fstN f k i = none → ∀ j, i ≤ j → j < i + k → f j = false) ∧ ∀ r, fstN f k i = some r → i ≤ r ∧ r < i + k ∧ f r = true ∧ ∀ j, i ≤ j → j < r → f j = false
  | 0, i => ⟨fun _ j h1 h2 => by omega, fun r h => by cases h⟩
  | k + 1, i => by
    obtain ⟨i1, i2⟩ := fst_iff (f := f) k (i + 1)
    unfold fstN
    cases hf : f i with
    | true =>
      rw [if_pos rfl]
      refine ⟨fun h => (by cases h), fun r h => ?_⟩
      cases h
      exact ⟨Nat.le_refl _, by omega, hf, fun j h1 h2 => by omega⟩
    | false =>
      rw [if_neg (by decide)]
      refine ⟨fun h j h1 h2 => ?_, fun r h => ?_⟩
      · by_cases he : j = i
        · rw [he]; exact hf
        · exact i1 h j (by omega) (by omega)
      · obtain ⟨q1, q2, q3, q4⟩ := i2 r h
        refine ⟨by omega, by omega, q3, fun j h1 h2 => ?_⟩
        by_cases he : j = i
        · rw [he]; exact hf
        · exact q4 j (by omega) h2
theorem first_iff {S : Sv} : ∀ (k d : Nat), (firstN S k (passS d S) = none → ∀ e, d < e → e ≤ d + k → ∀ j, j < 8 → newGone S (passS e S) j = false) ∧ ∀ r, firstN S k (passS d S) = some r → ∃ e, d < e ∧ e ≤ d + k ∧ r < 8 ∧ newGone S (passS e S) r = true ∧ (∀ j, j < r → newGone S (passS e S) j = false) ∧ ∀ e2, d < e2 → e2 < e → ∀ j, j < 8 → newGone S (passS e2 S) j = false
  | 0, d => ⟨fun _ e h1 h2 => by omega, fun r h => by cases h⟩
  | k + 1, d => by
    obtain ⟨i1, i2⟩ := first_iff (S := S) k (d + 1)
    unfold firstN
    rw [← pass_succ]
    cases hf : fstN (newGone S (passS (d + 1) S)) 8 0 with
    | some i =>
      refine ⟨fun h => (by cases h), fun r h => ?_⟩
      cases h
      obtain ⟨q1, q2, q3, q4⟩ := (fst_iff 8 0).2 _ hf
      exact ⟨d + 1, by omega, by omega, by omega, q3, fun j hj => q4 j (Nat.zero_le _) hj, fun e2 h1 h2 => by omega⟩
    | none =>
      have q0 := (fst_iff (f := newGone S (passS (d + 1) S)) 8 0).1 hf
      refine ⟨fun h e h1 h2 j hj => ?_, fun r h => ?_⟩
      · by_cases he : e = d + 1
        · rw [he]; exact q0 j (Nat.zero_le _) (by omega)
        · exact i1 h e (by omega) (by omega) j hj
      · obtain ⟨e, q1, q2, q3, q4, q5, q6⟩ := i2 r h
        refine ⟨e, by omega, by omega, q3, q4, q5, fun e2 h1 h2 j hj => ?_⟩
        by_cases he : e2 = d + 1
        · rw [he]; exact q0 j (Nat.zero_le _) (by omega)
        · exact q6 e2 (by omega) h2 j hj
/-- the one that goes first, and its day, of those ahead of i -/
def fgM (S : Sv) : Nat → Option Nat × Nat
  | 0 => (none, 61)
  | i + 1 => match goneN i 61 0 S with
    | none => fgM S i
    | some d => if 0 < d ∧ d < (fgM S i).2 then (some i, d) else fgM S i
theorem newg {S : Sv} {j e : Nat} : newGone S (passS e S) j = true ↔ Sw S j = true ∧ Sw (passS e S) j = false := by
  unfold newGone
  cases Sw S j <;> cases Sw (passS e S) j <;> simp
theorem fgM_inv {S : Sv} : ∀ i, ((fgM S i).1 = none → (fgM S i).2 = 61 ∧ ∀ j, j < i → ∀ e, e ≤ 60 → newGone S (passS e S) j = false) ∧ ∀ b, (fgM S i).1 = some b → b < i ∧ 0 < (fgM S i).2 ∧ (fgM S i).2 ≤ 60 ∧ newGone S (passS (fgM S i).2 S) b = true ∧ (∀ j, j < b → newGone S (passS (fgM S i).2 S) j = false) ∧ ∀ e, e < (fgM S i).2 → ∀ j, j < i → newGone S (passS e S) j = false
  | 0 => ⟨fun _ => ⟨rfl, fun j h => by omega⟩, fun b h => by cases h⟩
  | i + 1 => by
    obtain ⟨i1, i2⟩ := fgM_inv (S := S) i
    obtain ⟨g1, g2⟩ := gone_iff (b := i) (S := S) 61 0
    -- when i goes, if at all
    have key : ∀ e, (∀ d, goneN i 61 0 S = some d → ¬ (0 < d ∧ d ≤ e)) → e ≤ 60 → newGone S (passS e S) i = false := by
      intro e hd he
      cases hx : newGone S (passS e S) i with
      | false => rfl
      | true =>
        obtain ⟨n1, n2⟩ := newg.mp hx
        cases hg : goneN i 61 0 S with
        | none =>
          have := g1 hg e (Nat.zero_le _) (by omega)
          rw [this] at n2; cases n2
        | some d =>
          obtain ⟨q1, q2, q3, q4⟩ := g2 d hg
          exfalso
          refine hd d hg ⟨?_, ?_⟩
          · rcases Nat.eq_zero_or_pos d with h0 | h0
            · subst h0
              have q3 : Sw S i = false := q3
              rw [n1] at q3; cases q3
            · exact h0
          · rcases Nat.lt_or_ge e d with hl | hl
            · have := q4 e (Nat.zero_le _) hl
              rw [this] at n2; cases n2
            · exact hl
    unfold fgM
    cases hg : goneN i 61 0 S with
    | none =>
      dsimp only
      have k9 : ∀ e, e ≤ 60 → newGone S (passS e S) i = false := fun e he => key e (fun d h => by rw [hg] at h; cases h) he
      refine ⟨fun h => ?_, fun b h => ?_⟩
      · obtain ⟨a1, a2⟩ := i1 h
        refine ⟨a1, fun j hj e he => ?_⟩
        by_cases hji : j = i
        · rw [hji]; exact k9 e he
        · exact a2 j (by omega) e he
      · obtain ⟨b1, b2, b3, b4, b5, b6⟩ := i2 b h
        refine ⟨by omega, b2, b3, b4, b5, fun e he j hj => ?_⟩
        by_cases hji : j = i
        · rw [hji]; exact k9 e (by omega)
        · exact b6 e he j (by omega)
    | some d =>
      dsimp only
      obtain ⟨q1, q2, q3, q4⟩ := g2 d hg
      by_cases hc : 0 < d ∧ d < (fgM S i).2
      · rw [if_pos hc]
        have hs60 : ∀ b, (fgM S i).1 = some b → (fgM S i).2 ≤ 60 := fun b h => (i2 b h).2.2.1
        have hS : Sw S i = true := q4 0 (Nat.le_refl _) hc.1
        have hlow : ∀ e, e ≤ d → ∀ j, j < i → newGone S (passS e S) j = false := by
          intro e he j hj
          cases hb : (fgM S i).1 with
          | none => exact (i1 hb).2 j hj e (by omega)
          | some b => exact (i2 b hb).2.2.2.2.2 e (by omega) j hj
        refine ⟨fun h => (by cases h), fun b h => ?_⟩
        cases h
        refine ⟨Nat.lt_succ_self _, hc.1, by show d ≤ 60; omega, newg.mpr ⟨hS, q3⟩, fun j hj => hlow d (Nat.le_refl _) j hj, fun e he j hj => ?_⟩
        have he : e < d := he
        by_cases hji : j = i
        · rw [hji]
          exact key e (fun d2 h => by rw [hg] at h; cases h; omega) (by omega)
        · exact hlow e (by omega) j (by omega)
      · rw [if_neg hc]
        refine ⟨fun h => ?_, fun b h => ?_⟩
        · obtain ⟨a1, a2⟩ := i1 h
          refine ⟨a1, fun j hj e he => ?_⟩
          by_cases hji : j = i
          · rw [hji]
            exact key e (fun d2 h => by rw [hg] at h; cases h; omega) he
          · exact a2 j (by omega) e he
        · obtain ⟨b1, b2, b3, b4, b5, b6⟩ := i2 b h
          refine ⟨by omega, b2, b3, b4, b5, fun e he j hj => ?_⟩
          by_cases hji : j = i
          · rw [hji]
            exact key e (fun d2 h => by rw [hg] at h; cases h; omega) (by omega)
          · exact b6 e he j (by omega)
theorem fgM_first {S : Sv} : (fgM S 8).1 = firstN S 60 S := by
  obtain ⟨i1, i2⟩ := fgM_inv (S := S) 8
  obtain ⟨j1, j2⟩ := first_iff (S := S) 60 0
  have j1 : firstN S 60 S = none → _ := j1
  have j2 : ∀ r, firstN S 60 S = some r → _ := j2
  cases hf : firstN S 60 S with
  | none =>
    cases hm : (fgM S 8).1 with
    | none => rfl
    | some b =>
      obtain ⟨b1, b2, b3, b4, b5, b6⟩ := i2 b hm
      have := j1 hf _ b2 (by omega) b b1
      rw [b4] at this; cases this
  | some r =>
    obtain ⟨e, q1, q2, q3, q4, q5, q6⟩ := j2 r hf
    cases hm : (fgM S 8).1 with
    | none =>
      have := (i1 hm).2 r q3 e (by omega)
      rw [q4] at this; cases this
    | some b =>
      obtain ⟨b1, b2, b3, b4, b5, b6⟩ := i2 b hm
      have hee : e = (fgM S 8).2 := by
        rcases Nat.lt_trichotomy e (fgM S 8).2 with h | h | h
        · have := b6 e h r q3
          rw [q4] at this; cases this
        · exact h
        · have := q6 _ b2 h b b1
          rw [b4] at this; cases this
      rw [← hee] at b4 b5
      have hrb : b = r := by
        rcases Nat.lt_trichotomy b r with h | h | h
        · have := q5 b h
          rw [b4] at this; cases this
        · exact h
        · have := b5 r h
          rw [q4] at this; cases this
      rw [hrb]
theorem fgM_out {S : Sv} (hO : SOK S) : ∀ m, Sn S ≤ m → fgM S m = fgM S (Sn S)
  | 0, h => by rw [show Sn S = 0 by omega]
  | m + 1, h => by
    by_cases he : Sn S = m + 1
    · rw [he]
    · rw [← fgM_out hO m (by omega)]
      have h0 : goneN m 61 0 S = some 0 := by
        show (if Sw S m = true then _ else some 0) = _
        rw [if_neg (by rw [w_out hO m (by omega)]; decide)]
      show (match goneN m 61 0 S with | none => fgM S m | some d => if 0 < d ∧ d < (fgM S m).2 then (some m, d) else fgM S m) = _
      rw [h0]
      exact if_neg (by omega)
/-! bests -/
theorem bsug_val {S : Sv} {n : Nat} : ∀ i, (bsug S n (i + 1)).2 = some (leftS (withU S (bsug S n (i + 1)).1 (She S)) n)
  | 0 => rfl
  | i + 1 => by
    have ih := bsug_val (S := S) (n := n) i
    show (if above (bsug S n (i + 1)).2 (leftS (withU S (i + 1) (She S)) n + 1) = true then ((i + 1, some (leftS (withU S (i + 1) (She S)) n)) : Nat × Option Nat) else bsug S n (i + 1)).2 = some (leftS (withU S (if above (bsug S n (i + 1)).2 (leftS (withU S (i + 1) (She S)) n + 1) = true then ((i + 1, some (leftS (withU S (i + 1) (She S)) n)) : Nat × Option Nat) else bsug S n (i + 1)).1 (She S)) n)
    split
    · rfl
    · exact ih
theorem taken_bits {S : Sv} {b : Nat} (hb : b < 8) : (bI (Sw S) &&& (bI (Sw (settleS 8 (burstS S b))) ^^^ (-1))) &&& (((1 : Int32) <<< (nI b &&& 31)) ^^^ (-1)) = bI (takenS S b) := by
  rw [bI_andn, bI_clr _ hb]
  apply bI_congr
  intro j _
  unfold takenS fu
  rw [show Sw (burstS S b) j = (if j = b then false else Sw S j) from rfl]
  split <;> simp
/-- no two whole ones at one place -/
def Dst (S : Sv) : Prop := ∀ i j, Sw S i = true → Sw S j = true → Sp S i = Sp S j → i = j
theorem dst_safe {S : Sv} (hD : Dst S) {b n p : Nat} (hb : Sw S b = true) : safeF S b n p = if atS S p = none ∨ p = Sp S b then some (leftS (withP S (fu (Sp S) b p)) n) else none := by
  unfold safeF
  cases ha : atS S p with
  | none => rw [if_pos (Or.inl rfl)]
  | some h =>
    obtain ⟨h8, hw, hp⟩ := atS_lt ha
    dsimp only
    by_cases hpb : p = Sp S b
    · rw [if_pos (Or.inr hpb), if_pos (hD h b hw hb (by rw [hp, hpb]))]
    · rw [if_neg (fun q => hpb (by rw [← hp, q])), if_neg (fun q => q.elim (fun q => (by cases q)) hpb)]
