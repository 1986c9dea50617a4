/-! THE MIND: ONE SHELF OF ITS OWN, (2, 3) -/
theorem only_rep {σ τ : St} {S : Sv} (h : Only 2 3 σ τ) (hR : RepS (σ 2 0) S) : RepS (τ 2 0) S := by
  rw [h 2 0 (by decide)]; exact hR
theorem SOK_q {S : Sv} (hO : SOK S) {k q : Nat} (hk : k < Sn S) (hq : q ≤ 99) : SOK (withQ S (fu (Sq S) k q)) := by
  obtain ⟨h1, h2, h3, h4, h5⟩ := hO
  refine ⟨h1, fun i => ⟨(h2 i).1, (h2 i).2.1, (h2 i).2.2.1, ?_⟩, fun i hi => ?_, h4, h5⟩
  · show fu (Sq S) k q i ≤ 99
    unfold fu; split
    · exact hq
    · exact (h2 i).2.2.2
  · obtain ⟨g1, g2, g3, g4⟩ := h3 i hi
    refine ⟨g1, g2, ?_, g4⟩
    show fu (Sq S) k q i = 0
    rw [fu_ne _ _ (by have h9 : Sn S ≤ i := hi; omega)]; exact g3
theorem SOK_p {S : Sv} (hO : SOK S) {k q : Nat} (hk : k < Sn S) (hq : q ≤ 14) : SOK (withP S (fu (Sp S) k q)) := by
  obtain ⟨h1, h2, h3, h4, h5⟩ := hO
  refine ⟨h1, fun i => ⟨(h2 i).1, (h2 i).2.1, ?_, (h2 i).2.2.2⟩, fun i hi => ?_, h4, h5⟩
  · show fu (Sp S) k q i ≤ 14
    unfold fu; split
    · exact hq
    · exact (h2 i).2.2.1
  · obtain ⟨g1, g2, g3, g4, g5, g6⟩ := h3 i hi
    refine ⟨g1, g2, g3, g4, g5, ?_⟩
    show fu (Sp S) k q i = 0
    rw [fu_ne _ _ (by have h9 : Sn S ≤ i := hi; omega)]; exact g6
theorem SOK_t {S : Sv} (hO : SOK S) {k : Nat} {b : Bool} (hk : k < Sn S) : SOK (withT S (fu (Stw S) k b)) := by
  obtain ⟨h1, h2, h3, h4, h5⟩ := hO
  refine ⟨h1, h2, fun i hi => ?_, h4, h5⟩
  obtain ⟨g1, g2, g3⟩ := h3 i hi
  refine ⟨g1, ?_, g3⟩
  show fu (Stw S) k b i = false
  rw [fu_ne _ _ (by have h9 : Sn S ≤ i := hi; omega)]; exact g2
theorem SOK_w {S : Sv} (hO : SOK S) {k : Nat} : SOK (withW S (fu (Sw S) k false)) := by
  obtain ⟨h1, h2, h3, h4, h5⟩ := hO
  refine ⟨h1, h2, fun i hi => ?_, h4, h5⟩
  obtain ⟨g1, g2⟩ := h3 i hi
  refine ⟨?_, g2⟩
  show fu (Sw S) k false i = false
  unfold fu; split
  · rfl
  · exact g1
theorem SOK_k {S : Sv} (hO : SOK S) {i k f : Nat} (hi : i < Sn S) (hk : k ≤ 5) (hf : f ≤ 9) : SOK (withK S (fu (Sk S) i k) (fu (Sf S) i f)) := by
  obtain ⟨h1, h2, h3, h4, h5⟩ := hO
  refine ⟨h1, fun j => ⟨?_, ?_, (h2 j).2.2⟩, fun j hj => ?_, h4, h5⟩
  · show fu (Sk S) i k j ≤ 5
    unfold fu; split
    · exact hk
    · exact (h2 j).1
  · show fu (Sf S) i f j ≤ 9
    unfold fu; split
    · exact hf
    · exact (h2 j).2.1
  · obtain ⟨g1, g2, g3, g4, g5, g6⟩ := h3 j hj
    refine ⟨g1, g2, g3, ?_, ?_, g6⟩
    · show fu (Sk S) i k j = 0
      rw [fu_ne _ _ (by have h9 : Sn S ≤ j := hj; omega)]; exact g4
    · show fu (Sf S) i f j = 0
      rw [fu_ne _ _ (by have h9 : Sn S ≤ j := hj; omega)]; exact g5
/-- how many are left behind n days -/
def leftS (S : Sv) (n : Nat) : Nat := cN (Sw (passS n S))
theorem leftS_le (S : Sv) (n : Nat) : leftS S n ≤ 8 := cN_le _
/-- the first day, from d on, behind which one isn't whole -/
def goneN (b : Nat) : Nat → Nat → Sv → Option Nat
  | 0, _, _ => none
  | k + 1, d, S => if Sw S b = true then goneN b k (d + 1) (dayS S) else some d
def newGone (S T : Sv) : Nat → Bool := fun j => Sw S j && !(Sw T j)
/-- the first of a set, from i on -/
def fstN (f : Nat → Bool) : Nat → Nat → Option Nat
  | 0, _ => none
  | k + 1, i => if f i = true then some i else fstN f k (i + 1)
def firstN (S : Sv) : Nat → Sv → Option Nat
  | 0, _ => none
  | k + 1, T => match fstN (newGone S (dayS T)) 8 0 with
    | some i => some i
    | none => firstN S k (dayS T)
def sameW (S T : Sv) : Bool := decide (bN (Sw S) = bN (Sw T))
/-- longest run, open run -/
def quietN (S : Sv) : Nat → Nat × Nat
  | 0 => (0, 0)
  | d + 1 => if sameW (passS (d + 1) S) (passS d S) = true then (Nat.max (quietN S d).1 ((quietN S d).2 + 1), (quietN S d).2 + 1) else (Nat.max (quietN S d).1 0, 0)
theorem quietN_le {S : Sv} : ∀ i, (quietN S i).1 ≤ i ∧ (quietN S i).2 ≤ i
  | 0 => ⟨Nat.le_refl _, Nat.le_refl _⟩
  | i + 1 => by
    have := quietN_le (S := S) i
    unfold quietN
    split
    · exact ⟨Nat.max_le.mpr ⟨by omega, by omega⟩, by omega⟩
    · exact ⟨Nat.max_le.mpr ⟨by omega, by omega⟩, by omega⟩
theorem bI_eq {f g : Nat → Bool} : bI f = bI g ↔ bN f = bN g := nI_eq (by have := bN_lt f; omega) (by have := bN_lt g; omega)
def takenS (S : Sv) (b : Nat) : Nat → Bool := fun j => Sw (burstS S b) j && !(Sw (settleS 8 (burstS S b)) j)
/-! the best of several -/
def above (o : Option Nat) (v : Nat) : Bool := match o with
  | none => true
  | some m => decide (m < v)
def amax (f : Nat → Option Nat) (m0 : Option Nat) : Nat → Option Nat × Option Nat
  | 0 => (none, m0)
  | i + 1 => match f i with
    | none => amax f m0 i
    | some v => if above (amax f m0 i).2 v = true then (some i, some v) else amax f m0 i
def optM (o : Option Nat) : Int32 := match o with
  | none => -1
  | some m => nI m
theorem above_cmp {o : Option Nat} {v : Nat} (hv : v ≤ 8) (ho : ∀ m, o = some m → m ≤ 8) : nI v ≤ optM o ↔ above o v = false := by
  cases o with
  | none =>
    have h : ∀ v < 9, ¬ nI v ≤ (-1 : Int32) := by decide
    exact ⟨fun q => absurd q (h v (by omega)), fun q => by cases q⟩
  | some m =>
    have := ho m rfl
    simp only [optM, above]
    rw [nI_leI (by omega) (by omega)]
    simp
theorem amax_le {f : Nat → Option Nat} {m0 : Option Nat} (hf : ∀ i v, f i = some v → v ≤ 8) (h0 : ∀ m, m0 = some m → m ≤ 8) : ∀ i m, (amax f m0 i).2 = some m → m ≤ 8
  | 0, m, h => h0 m h
  | i + 1, m, h => by
    unfold amax at h
    split at h
    · exact amax_le hf h0 i m h
    · rename_i v hv
      split at h
      · cases h; exact hf i _ hv
      · exact amax_le hf h0 i m h
theorem amax_lt {f : Nat → Option Nat} {m0 : Option Nat} : ∀ i b, (amax f m0 i).1 = some b → b < i ∧ ∃ v, f b = some v
  | 0, b, h => by cases h
  | i + 1, b, h => by
    unfold amax at h
    split at h
    · have := amax_lt i b h
      exact ⟨by omega, this.2⟩
    · rename_i v hv
      split at h
      · cases h; exact ⟨Nat.lt_succ_self _, v, hv⟩
      · have := amax_lt i b h
        exact ⟨by omega, this.2⟩
def worstF (S : Sv) (i : Nat) : Option Nat := if Sw S i = true then some (cN (takenS S i)) else none
def worstS (S : Sv) : Option Nat := (amax (worstF S) none 8).1
def safeF (S : Sv) (b n p : Nat) : Option Nat := match atS S p with
  | none => some (leftS (withP S (fu (Sp S) b p)) n)
  | some h => if h = b then some (leftS (withP S (fu (Sp S) b p)) n) else none
def safeS (S : Sv) (b n : Nat) : Option Nat := (amax (safeF S b n) none 15).1
def coverF (S : Sv) (n i : Nat) : Option Nat := if Sw S i = true ∧ Stw S i = false then some (leftS (withT S (fu (Stw S) i true)) n) else none
def coverS (S : Sv) (n : Nat) : Option Nat := (amax (coverF S n) (some (leftS S n)) 8).1
def outF (S : Sv) (n i : Nat) : Option Nat := if Sw S i = true then some (leftS (withQ S (fu (Sq S) i 0)) n) else none
def outS (S : Sv) (n : Nat) : Option Nat := (amax (outF S n) (some (leftS S n)) 8).1

set_option maxHeartbeats 4000000 in
set_option maxRecDepth 100000 in
theorem c1_ahead (S : Sv) (σ : St) (hR : RepS (σ 2 0) S) (hO : SOK S) (n : Nat) (hn : n < 2 ^ 31) : Ct M1_ahead 4 [.inr (.inr (0, 0, 0)), .inr (.inr (2, 0, 0)), .inl (nI n)] σ (PR fun r σ' => (2, 3, 0) = r ∧ Only 2 3 σ σ' ∧ RepS (σ' 2 3) (passS n S)) := by
  refine Ct.of f_1_ahead (Nat.le_of_ble_eq_true rfl) ?_
  show AW M1_ahead 4 _ (0, [(0, .inr (.inr (0, 0, 0))), (1, .inr (.inr (2, 0, 0))), (2, .inl (nI n))], [], σ)
  refine AW.run 3 [] (5, [(0, .inr (.inr (0, 0, 0))), (1, .inr (.inr (2, 0, 0))), (2, .inl (nI n))], [.inr (.inr (2, 0, 0)), .inr (.inr (2, 3, 0))], σ) [] rfl ?_ ?_
  · exact trivial
  refine AW.callVV (d' := 1) [.inr (.inr (2, 0, 0))] [] ⟨_, rfl⟩ f_3_copyFrom v_3_copyFrom l_1_25 ⟨rfl, by decide⟩ rfl (Nat.le_of_ble_eq_true rfl) rfl (Nat.le_of_ble_eq_true rfl) (c3_copyFrom 3 0 (by decide) S σ hR hO) ?_
  rintro τ1 ⟨a1, b1⟩
  refine AW.run 3 [] (13, [(0, .inr (.inr (0, 0, 0))), (1, .inr (.inr (2, 0, 0))), (2, .inl (nI n))], [.inl (nI n), .inr (.inr (2, 3, 0))], τ1) [] rfl ?_ ?_
  · exact trivial
  refine AW.callVV (d' := 3) [.inl (nI n)] [] ⟨_, rfl⟩ f_3_pass v_3_pass l_1_29 ⟨rfl, by decide⟩ rfl (Nat.le_of_ble_eq_true rfl) rfl (Nat.le_of_ble_eq_true rfl) (c3_pass 3 S τ1 b1 hO n (by omega)) ?_
  rintro τ2 ⟨a2, b2⟩
  refine AW.run 2 [] (20, [(0, .inr (.inr (0, 0, 0))), (1, .inr (.inr (2, 0, 0))), (2, .inl (nI n))], [.inr (.inr (2, 3, 0))], τ2) [] rfl ?_ ?_
  · exact trivial
  refine AW.reta ⟨_, rfl⟩ rfl ?_
  exact ⟨rfl, (only_trans (only_trans only_rfl a1) a2), b2⟩

set_option maxHeartbeats 4000000 in
set_option maxRecDepth 100000 in
theorem c1_leftBehind (T : Sv) (σ : St) (hT : RepS (σ 2 3) T) (hOT : SOK T) (n : Nat) (hn : n < 2 ^ 31) : Ct M1_leftBehind 4 [.inr (.inr (0, 0, 0)), .inl (nI n)] σ (PI fun r9 σ' => nI (leftS T n) = r9 ∧ Only 2 3 σ σ') := by
  refine Ct.of f_1_leftBehind (Nat.le_of_ble_eq_true rfl) ?_
  show AW M1_leftBehind 4 _ (0, [(0, .inr (.inr (0, 0, 0))), (1, .inl (nI n))], [], σ)
  refine AW.run 3 [] (5, [(0, .inr (.inr (0, 0, 0))), (1, .inl (nI n))], [.inl (nI n), .inr (.inr (2, 3, 0))], σ) [] rfl ?_ ?_
  · exact trivial
  refine AW.callVV (d' := 3) [.inl (nI n)] [] ⟨_, rfl⟩ f_3_pass v_3_pass l_1_29 ⟨rfl, by decide⟩ rfl (Nat.le_of_ble_eq_true rfl) rfl (Nat.le_of_ble_eq_true rfl) (c3_pass 3 T σ hT hOT n (by omega)) ?_
  rintro τ3 ⟨a3, b3⟩
  refine AW.run 3 [] (15, [(0, .inr (.inr (0, 0, 0))), (1, .inl (nI n))], [.inl (τ3 2 3 0 8)], τ3) [] rfl ?_ ?_
  · exact trivial
  rw [b3.1.2.1]
  refine AW.callSI (d' := 0) [.inl (bI (Sw (passS n T)))] [] ⟨_, rfl⟩ f_J_bitCount s_J_bitCount l_1_37 rfl (Nat.le_of_ble_eq_true rfl) rfl (Nat.le_of_ble_eq_true rfl) (cJ_bitCount (bI (Sw (passS n T))) τ3) ?_
  rintro _ _ ⟨rfl, rfl⟩
  refine AW.reti ⟨_, rfl⟩ rfl ?_
  exact ⟨(bcV_bI _).symm, (only_trans only_rfl a3)⟩
set_option maxHeartbeats 4000000 in
set_option maxRecDepth 100000 in
theorem c1_daysTillGone (S : Sv) (σ : St) (hR : RepS (σ 2 0) S) (hO : SOK S) (b : Nat) (hb : b < 2 ^ 31) : Ct M1_daysTillGone 3 [.inr (.inr (0, 0, 0)), .inr (.inr (2, 0, 0)), .inl (nI b)] σ (PI fun r9 σ' => optI (goneN b 61 0 S) = r9 ∧ Only 2 3 σ σ') := by
  refine Ct.of f_1_daysTillGone (Nat.le_of_ble_eq_true rfl) ?_
  show AW M1_daysTillGone 3 _ (0, [(0, .inr (.inr (0, 0, 0))), (1, .inr (.inr (2, 0, 0))), (2, .inl (nI b))], [], σ)
  refine AW.run 3 [] (5, [(0, .inr (.inr (0, 0, 0))), (1, .inr (.inr (2, 0, 0))), (2, .inl (nI b))], [.inr (.inr (2, 0, 0)), .inr (.inr (2, 3, 0))], σ) [] rfl ?_ ?_
  · exact trivial
  refine AW.callVV (d' := 1) [.inr (.inr (2, 0, 0))] [] ⟨_, rfl⟩ f_3_copyFrom v_3_copyFrom l_1_25 ⟨rfl, by decide⟩ rfl (Nat.le_of_ble_eq_true rfl) rfl (Nat.le_of_ble_eq_true rfl) (c3_copyFrom 3 0 (by decide) S σ hR hO) ?_
  rintro τ4 ⟨a4, b4⟩
  refine AW.run 2 [] (10, [(3, .inl 0), (0, .inr (.inr (0, 0, 0))), (1, .inr (.inr (2, 0, 0))), (2, .inl (nI b))], [], τ4) [] rfl ?_ ?_
  · exact trivial
  refine AW.pick [1, 2, 3, 0] (ls' := [(0, .inr (.inr (0, 0, 0))), (1, .inr (.inr (2, 0, 0))), (2, .inl (nI b)), (3, .inl (nI 0))]) rfl ?_
  refine AW.loop (α := Sv) 10 61 (fun d T => [(0, .inr (.inr (0, 0, 0))), (1, .inr (.inr (2, 0, 0))), (2, .inl (nI b)), (3, .inl (nI d))]) (fun d T τ => Only 2 3 σ τ ∧ RepS (τ 2 3) T ∧ SOK T ∧ goneN b 61 0 S = goneN b (61 - d) d T) ?_ ?_ 61 0 S _ (by omega) ⟨(only_trans only_rfl a4), b4, hO, rfl⟩
  · intro d T τ hd hI hk
    obtain ⟨hA, hT, hOT, hg⟩ := hI
    have hu : goneN b (61 - d) d T = if Sw T b = true then goneN b (61 - (d + 1)) (d + 1) (dayS T) else some d := by
      obtain ⟨m, hm⟩ : ∃ m, 61 - d = m + 1 := ⟨60 - d, by omega⟩
      rw [hm, show 61 - (d + 1) = m by omega]; rfl
    rw [hu] at hg
    refine AW.run 6 [false] (21, [(0, .inr (.inr (0, 0, 0))), (1, .inr (.inr (2, 0, 0))), (2, .inl (nI b)), (3, .inl (nI d))], [.inl (nI b), .inr (.inr (2, 3, 0))], τ) [¬ icP .gt (nI d) 60] rfl ?_ ?_
    · exact allP1 (nI_nlt (a := 60) (b := d) (by omega) (by omega))
    refine AW.callVI (d' := 0) [.inl (nI b)] [] ⟨_, rfl⟩ f_3_isWhole v_3_isWhole l_1_43 ⟨rfl, by decide⟩ rfl (Nat.le_of_ble_eq_true rfl) rfl (Nat.le_of_ble_eq_true rfl) (c3_isWhole 3 T τ hT hOT b hb) ?_
    rintro v _ ⟨rfl, hv⟩
    rcases hv with ⟨rfl, hp21⟩ | ⟨rfl, hp21⟩
    · skip
      refine AW.run 3 [true] (33, [(0, .inr (.inr (0, 0, 0))), (1, .inr (.inr (2, 0, 0))), (2, .inl (nI b)), (3, .inl (nI d))], [.inr (.inr (2, 3, 0))], τ) [icP .ne (1 : Int32) 0] rfl ?_ ?_
      · exact allP1 (by decide : (¬ (1 : Int32) = 0))
      refine AW.callVV (d' := 2) [] [] ⟨_, rfl⟩ f_3_dayGoesBy v_3_dayGoesBy l_1_47 ⟨rfl, by decide⟩ rfl (Nat.le_of_ble_eq_true rfl) rfl (Nat.le_of_ble_eq_true rfl) (c3_dayGoesBy 3 T τ hT hOT ) ?_
      rintro τ5 ⟨a5, b5⟩
      refine AW.run 2 [] (10, [(3, .inl ((nI d) + 1)), (0, .inr (.inr (0, 0, 0))), (1, .inr (.inr (2, 0, 0))), (2, .inl (nI b))], [], τ5) [] rfl ?_ ?_
      · exact trivial
      rw [nI_1 d]
      refine AW.pick [1, 2, 3, 0] (ls' := [(0, .inr (.inr (0, 0, 0))), (1, .inr (.inr (2, 0, 0))), (2, .inl (nI b)), (3, .inl (nI (d + 1)))]) rfl ?_
      exact hk (dayS T) _ ⟨(only_trans hA a5), b5, (SOK_day hOT), by rw [hg, if_pos hp21]⟩
    · skip
      refine AW.run 2 [false] (28, [(0, .inr (.inr (0, 0, 0))), (1, .inr (.inr (2, 0, 0))), (2, .inl (nI b)), (3, .inl (nI d))], [.inl (nI d)], τ) [¬ icP .ne (0 : Int32) 0] rfl ?_ ?_
      · exact allP1 (by decide : ¬ (¬ (0 : Int32) = 0))
      refine AW.reti ⟨_, rfl⟩ rfl ?_
      rw [hg, if_neg (by rw [hp21]; decide)]
      exact ⟨rfl, hA⟩
  · intro T τ hI
    obtain ⟨hA, hT, hOT, hg⟩ := hI
    refine AW.run 4 [true] (44, [(0, .inr (.inr (0, 0, 0))), (1, .inr (.inr (2, 0, 0))), (2, .inl (nI b)), (3, .inl (nI 61))], [.inl (-9)], τ) [icP .gt (nI 61) 60] rfl ?_ ?_
    · exact allP1 (nI_lt (a := 60) (b := 61) (by decide) (by decide))
    refine AW.reti ⟨_, rfl⟩ rfl ?_
    rw [hg]
    exact ⟨rfl, hA⟩
set_option maxHeartbeats 4000000 in
set_option maxRecDepth 100000 in
theorem c1_takenBy (S : Sv) (σ : St) (hR : RepS (σ 2 0) S) (hO : SOK S) (b : Nat) (hb : b < Sn S) : Ct M1_takenBy 2 [.inr (.inr (0, 0, 0)), .inr (.inr (2, 0, 0)), .inl (nI b)] σ (PI fun r9 σ' => bI (takenS S b) = r9 ∧ Only 2 3 σ σ') := by
  refine Ct.of f_1_takenBy (Nat.le_of_ble_eq_true rfl) ?_
  show AW M1_takenBy 2 _ (0, [(0, .inr (.inr (0, 0, 0))), (1, .inr (.inr (2, 0, 0))), (2, .inl (nI b))], [], σ)
  refine AW.run 3 [] (5, [(0, .inr (.inr (0, 0, 0))), (1, .inr (.inr (2, 0, 0))), (2, .inl (nI b))], [.inr (.inr (2, 0, 0)), .inr (.inr (2, 3, 0))], σ) [] rfl ?_ ?_
  · exact trivial
  refine AW.callVV (d' := 1) [.inr (.inr (2, 0, 0))] [] ⟨_, rfl⟩ f_3_copyFrom v_3_copyFrom l_1_25 ⟨rfl, by decide⟩ rfl (Nat.le_of_ble_eq_true rfl) rfl (Nat.le_of_ble_eq_true rfl) (c3_copyFrom 3 0 (by decide) S σ hR hO) ?_
  rintro τ6 ⟨a6, b6⟩
  refine AW.run 3 [] (13, [(0, .inr (.inr (0, 0, 0))), (1, .inr (.inr (2, 0, 0))), (2, .inl (nI b))], [.inl (nI b), .inr (.inr (2, 3, 0))], τ6) [] rfl ?_ ?_
  · exact trivial
  refine AW.callVV (d' := 0) [.inl (nI b)] [] ⟨_, rfl⟩ f_3_burst v_3_burst l_1_56 ⟨rfl, by decide⟩ rfl (Nat.le_of_ble_eq_true rfl) rfl (Nat.le_of_ble_eq_true rfl) (c3_burst 3 S τ6 b6 hO b hb) ?_
  rintro τ7 ⟨a7, b7⟩
  refine AW.run 3 [] (23, [(0, .inr (.inr (0, 0, 0))), (1, .inr (.inr (2, 0, 0))), (2, .inl (nI b))], [.inl (τ7 2 3 0 8)], τ7) [] rfl ?_ ?_
  · exact trivial
  rw [b7.1.2.1]
  refine AW.run 3 [] (28, [(3, .inl (bI (Sw (burstS S b)))), (0, .inr (.inr (0, 0, 0))), (1, .inr (.inr (2, 0, 0))), (2, .inl (nI b))], [.inr (.inr (2, 3, 0))], τ7) [] rfl ?_ ?_
  · exact trivial
  refine AW.callVV (d' := 1) [] [] ⟨_, rfl⟩ f_3_settle v_3_settle l_1_59 ⟨rfl, by decide⟩ rfl (Nat.le_of_ble_eq_true rfl) rfl (Nat.le_of_ble_eq_true rfl) (c3_settle 3 (burstS S b) τ7 b7 (SOK_burst (b := b) hO) ) ?_
  rintro τ8 ⟨a8, b8⟩
  refine AW.run 4 [] (39, [(3, .inl (bI (Sw (burstS S b)))), (0, .inr (.inr (0, 0, 0))), (1, .inr (.inr (2, 0, 0))), (2, .inl (nI b))], [.inl (τ8 2 3 0 8), .inl (bI (Sw (burstS S b)))], τ8) [] rfl ?_ ?_
  · exact trivial
  rw [b8.1.2.1]
  refine AW.run 3 [] (42, [(3, .inl (bI (Sw (burstS S b)))), (0, .inr (.inr (0, 0, 0))), (1, .inr (.inr (2, 0, 0))), (2, .inl (nI b))], [.inl ((bI (Sw (burstS S b))) &&& ((bI (Sw (settleS 8 (burstS S b)))) ^^^ (-1)))], τ8) [] rfl ?_ ?_
  · exact trivial
  rw [bI_andn]
  refine AW.reti ⟨_, rfl⟩ rfl ?_
  exact ⟨rfl, (only_trans (only_trans (only_trans only_rfl a6) a7) a8)⟩
