/-! THE MIND, FOURTH PART -/
def readyN (T : Sv) (b v : Nat) : Bool := Sw T b && decide (v ≤ Sq T b)
def wantN (T : Sv) (b : Nat) : Nat := if Sw T b = true then 5 + Sq T b / 10 else 0
theorem ten_n : ∀ q < 100, nI q / 10 = nI (q / 10) := by decide +kernel
theorem mul10 : ∀ i < 8, (10 : Int32) * nI i = nI (10 * i) := by decide
def upA (st : Option Nat × Option Nat) (c : Nat) (o : Option Nat) : Option Nat × Option Nat := match o with
  | none => st
  | some v => if above st.2 v = true then (some c, some v) else st
def chgF (S : Sv) (n i j : Nat) : Option Nat := if Sw S i = true ∧ Sw S j = true then some (leftS (withP S (fu (fu (Sp S) i (Sp S j)) j (Sp S i))) n) else none
def chgJ (S : Sv) (n i : Nat) (st : Option Nat × Option Nat) : Nat → Option Nat × Option Nat
  | 0 => st
  | k + 1 => upA (chgJ S n i st k) (10 * i + (i + 1 + k)) (chgF S n i (i + 1 + k))
def chgO (S : Sv) (n : Nat) : Nat → Option Nat × Option Nat
  | 0 => (none, some (leftS S n))
  | i + 1 => chgJ S n i (chgO S n i) (7 - i)
theorem chgF_le {S : Sv} {n i j v : Nat} (h : chgF S n i j = some v) : v ≤ 8 := by
  unfold chgF at h
  split at h
  · cases h; exact leftS_le _ _
  · cases h
theorem upA_le {st : Option Nat × Option Nat} {c : Nat} {o : Option Nat} (ho : ∀ v, o = some v → v ≤ 8) (h : ∀ m, st.2 = some m → m ≤ 8) : ∀ m, (upA st c o).2 = some m → m ≤ 8 := by
  intro m hm
  unfold upA at hm
  split at hm
  · exact h m hm
  · rename_i v
    split at hm
    · cases hm; exact ho _ rfl
    · exact h m hm
theorem chgJ_le {S : Sv} {n i : Nat} {st : Option Nat × Option Nat} (h : ∀ m, st.2 = some m → m ≤ 8) : ∀ k, ∀ m, (chgJ S n i st k).2 = some m → m ≤ 8
  | 0 => h
  | k + 1 => upA_le (fun v hv => chgF_le hv) (chgJ_le h k)
theorem chgO_le {S : Sv} {n : Nat} : ∀ i, ∀ m, (chgO S n i).2 = some m → m ≤ 8
  | 0 => fun m h => by cases h; exact leftS_le _ _
  | i + 1 => chgJ_le (chgO_le i) _
/-- the least sugar from u on -/
def rdyN (S : Sv) (b v n : Nat) : Nat → Nat → Option Nat
  | 0, _ => none
  | k + 1, u => if readyN (passS n (withU S u (She S))) b v = true then some u else rdyN S b v n k (u + 1)
/-- ready behind any of the days from d on, of which those ahead of m are sweet -/
def swtN (b v m : Nat) : Nat → Nat → Sv → Bool
  | 0, _, _ => false
  | k + 1, d, T => if readyN T b v = true then true else swtN b v m k (d + 1) (dayS (withU T (if d < m then 9 else 0) (She T)))
def fedN (S : Sv) (b v : Nat) : Nat → Nat → Option Nat
  | 0, _ => none
  | k + 1, m => if swtN b v m 31 0 S = true then some m else fedN S b v k (m + 1)
def hlvD (d : Nat) (T : Sv) : Sv := dayS (if d % 7 = 0 then halfS T else T)
def hlvN (S : Sv) : Nat → Nat → Sv → Option Nat
  | 0, _, _ => none
  | k + 1, d, T => if sameW (hlvD d T) S = true then hlvN S k (d + 1) (hlvD d T) else some d
theorem SOK_hlv {T : Sv} {d : Nat} (h : SOK T) : SOK (hlvD d T) := by
  unfold hlvD
  split
  · exact SOK_day (SOK_halfQ h 8)
  · exact SOK_day h
def endN : Nat → Nat → Sv → Option Nat
  | 0, _, _ => none
  | k + 1, d, T => if bN (Sw T) = 0 then some d else endN k (d + 1) (dayS T)
/-- the greatest heat below k -/
def clmN (S : Sv) : Nat → Option Nat
  | 0 => none
  | h + 1 => if sameW (dayS (withU S (Su S) h)) S = true then some h else clmN S h
theorem rem7 : ∀ d < 61, (nI d - nI d / 7 * 7 = 0) ↔ d % 7 = 0 := by decide +kernel
theorem bI_z {f : Nat → Bool} : bI f = 0 ↔ bN f = 0 := by
  have : (0 : Int32) = nI 0 := by decide
  unfold bI
  rw [this, nI_eq (by have := bN_lt f; omega) (by decide)]

set_option maxHeartbeats 4000000 in
set_option maxRecDepth 100000 in
theorem c1_isReady (T : Sv) (σ : St) (hT : RepS (σ 2 3) T) (hOT : SOK T) (b v : Nat) (hb : b < Sn T) (hv : v < 2 ^ 31) : Ct M1_isReady 2 [.inr (.inr (0, 0, 0)), .inl (nI b), .inl (nI v)] σ (PB σ (readyN T b v = true) (readyN T b v = false)) := by
  refine Ct.of f_1_isReady (Nat.le_of_ble_eq_true rfl) ?_
  show AW M1_isReady 2 _ (0, [(0, .inr (.inr (0, 0, 0))), (1, .inl (nI b)), (2, .inl (nI v))], [], σ)
  have hq := (hOT.2.1 b).2.2.2
  have hn := hOT.1
  refine AW.run 3 [] (5, [(0, .inr (.inr (0, 0, 0))), (1, .inl (nI b)), (2, .inl (nI v))], [.inl (nI b), .inr (.inr (2, 3, 0))], σ) [] rfl ?_ ?_
  · exact trivial
  refine AW.callVI (d' := 0) [.inl (nI b)] [] ⟨_, rfl⟩ f_3_isWhole v_3_isWhole l_1_43 ⟨rfl, by decide⟩ rfl (Nat.le_of_ble_eq_true rfl) rfl (Nat.le_of_ble_eq_true rfl) (c3_isWhole 3 T σ hT hOT b (by omega)) ?_
  rintro v _ ⟨rfl, hv⟩
  rcases hv with ⟨rfl, hp5⟩ | ⟨rfl, hp5⟩
  · skip
    refine AW.run 4 [false] (16, [(0, .inr (.inr (0, 0, 0))), (1, .inl (nI b)), (2, .inl (nI v))], [.inl (nI b), .inr (.inr (2, 3, 0))], σ) [¬ icP .eq (1 : Int32) 0] rfl ?_ ?_
    · exact allP1 (by decide : ¬ ((1 : Int32) = 0))
    refine AW.callVI (d' := 1) [.inl (nI b)] [] ⟨_, rfl⟩ f_3_pressOf v_3_pressOf l_1_106 ⟨rfl, by decide⟩ rfl (Nat.le_of_ble_eq_true rfl) rfl (Nat.le_of_ble_eq_true rfl) (c3_pressOf 3 T σ hT hOT b hb) ?_
    rintro _ _ ⟨rfl, rfl⟩
    by_cases h20_1 : v ≤ Sq T b
    · skip
      refine AW.run 4 [false] (28, [(0, .inr (.inr (0, 0, 0))), (1, .inl (nI b)), (2, .inl (nI v))], [.inl 1], σ) [¬ icP .lt (nI (Sq T b)) (nI v)] rfl ?_ ?_
      · exact allP1 (nI_nlt h20_1 (by omega))
      refine AW.retz ⟨_, rfl⟩ rfl (by decide) ?_
      exact ⟨rfl, Or.inl ⟨rfl, by simp [readyN, hp5]; assumption⟩⟩
    · skip
      refine AW.run 3 [true] (28, [(0, .inr (.inr (0, 0, 0))), (1, .inl (nI b)), (2, .inl (nI v))], [.inl 0], σ) [icP .lt (nI (Sq T b)) (nI v)] rfl ?_ ?_
      · exact allP1 (nI_lt (by omega) (by omega))
      refine AW.retz ⟨_, rfl⟩ rfl (by decide) ?_
      exact ⟨rfl, Or.inr ⟨rfl, by first | (simp [readyN, hp5]; done) | (simp [readyN, hp5]; omega)⟩⟩
  · skip
    refine AW.run 2 [true] (28, [(0, .inr (.inr (0, 0, 0))), (1, .inl (nI b)), (2, .inl (nI v))], [.inl 0], σ) [icP .eq (0 : Int32) 0] rfl ?_ ?_
    · exact allP1 (by decide : ((0 : Int32) = 0))
    refine AW.retz ⟨_, rfl⟩ rfl (by decide) ?_
    exact ⟨rfl, Or.inr ⟨rfl, by first | (simp [readyN, hp5]; done) | (simp [readyN, hp5]; omega)⟩⟩
set_option maxHeartbeats 4000000 in
set_option maxRecDepth 100000 in
theorem c1_wantMet (T : Sv) (σ : St) (hT : RepS (σ 2 3) T) (hOT : SOK T) (b : Nat) (hb : b < Sn T) : Ct M1_wantMet 2 [.inr (.inr (0, 0, 0)), .inl (nI b)] σ (PI fun v σ' => nI (wantN T b) = v ∧ σ = σ') := by
  refine Ct.of f_1_wantMet (Nat.le_of_ble_eq_true rfl) ?_
  show AW M1_wantMet 2 _ (0, [(0, .inr (.inr (0, 0, 0))), (1, .inl (nI b))], [], σ)
  have hq := (hOT.2.1 b).2.2.2
  have hn := hOT.1
  refine AW.run 3 [] (5, [(0, .inr (.inr (0, 0, 0))), (1, .inl (nI b))], [.inl (nI b), .inr (.inr (2, 3, 0))], σ) [] rfl ?_ ?_
  · exact trivial
  refine AW.callVI (d' := 0) [.inl (nI b)] [] ⟨_, rfl⟩ f_3_isWhole v_3_isWhole l_1_43 ⟨rfl, by decide⟩ rfl (Nat.le_of_ble_eq_true rfl) rfl (Nat.le_of_ble_eq_true rfl) (c3_isWhole 3 T σ hT hOT b (by omega)) ?_
  rintro v _ ⟨rfl, hv⟩
  rcases hv with ⟨rfl, hp5⟩ | ⟨rfl, hp5⟩
  · skip
    refine AW.run 5 [false] (17, [(0, .inr (.inr (0, 0, 0))), (1, .inl (nI b))], [.inl (nI b), .inr (.inr (2, 3, 0)), .inl 5], σ) [¬ icP .eq (1 : Int32) 0] rfl ?_ ?_
    · exact allP1 (by decide : ¬ ((1 : Int32) = 0))
    refine AW.callVI (d' := 1) [.inl (nI b)] [.inl 5] ⟨_, rfl⟩ f_3_pressOf v_3_pressOf l_1_106 ⟨rfl, by decide⟩ rfl (Nat.le_of_ble_eq_true rfl) rfl (Nat.le_of_ble_eq_true rfl) (c3_pressOf 3 T σ hT hOT b hb) ?_
    rintro _ _ ⟨rfl, rfl⟩
    refine AW.run 2 [] (23, [(0, .inr (.inr (0, 0, 0))), (1, .inl (nI b))], [.inl ((nI (Sq T b)) / 10), .inl 5], σ) [¬ (10 : Int32) = 0] rfl ?_ ?_
    · exact allP1 (by decide)
    rw [ten_n _ (by omega)]
    refine AW.run 2 [] (28, [(0, .inr (.inr (0, 0, 0))), (1, .inl (nI b))], [.inl (5 + (nI (Sq T b / 10)))], σ) [] rfl ?_ ?_
    · exact trivial
    refine AW.reti ⟨_, rfl⟩ rfl ?_
    exact ⟨by simp only [wantN, hp5, if_true]; exact (nI_add 5 _).symm, rfl⟩
  · skip
    refine AW.run 2 [true] (28, [(0, .inr (.inr (0, 0, 0))), (1, .inl (nI b))], [.inl 0], σ) [icP .eq (0 : Int32) 0] rfl ?_ ?_
    · exact allP1 (by decide : ((0 : Int32) = 0))
    refine AW.reti ⟨_, rfl⟩ rfl ?_
    exact ⟨by simp [wantN, hp5]; rfl, rfl⟩
set_option maxHeartbeats 4000000 in
set_option maxRecDepth 100000 in
theorem c1_bestChange (S : Sv) (σ : St) (hR : RepS (σ 2 0) S) (hO : SOK S) (n : Nat) (hn : n < 2 ^ 31) : Ct M1_bestChange 5 [.inr (.inr (0, 0, 0)), .inr (.inr (2, 0, 0)), .inl (nI n)] σ (PI fun r9 σ' => optI (chgO S n 8).1 = r9 ∧ Only 2 3 σ σ') := by
  refine Ct.of f_1_bestChange (Nat.le_of_ble_eq_true rfl) ?_
  show AW M1_bestChange 5 _ (0, [(0, .inr (.inr (0, 0, 0))), (1, .inr (.inr (2, 0, 0))), (2, .inl (nI n))], [], σ)
  refine AW.run 5 [] (6, [(3, .inl (-9)), (0, .inr (.inr (0, 0, 0))), (1, .inr (.inr (2, 0, 0))), (2, .inl (nI n))], [.inl (nI n), .inr (.inr (2, 0, 0)), .inr (.inr (0, 0, 0))], σ) [] rfl ?_ ?_
  · exact trivial
  refine AW.callVR (d' := 4) [.inr (.inr (2, 0, 0)), .inl (nI n)] [] ⟨_, rfl⟩ f_1_ahead v_1_ahead l_1_76 ⟨rfl, by decide⟩ rfl (Nat.le_of_ble_eq_true rfl) rfl (Nat.le_of_ble_eq_true rfl) (c1_ahead S σ hR hO n (by omega)) ?_
  rintro _ τ47 ⟨rfl, a47, b47⟩
  refine AW.run 1 [] (12, [(3, .inl (-9)), (0, .inr (.inr (0, 0, 0))), (1, .inr (.inr (2, 0, 0))), (2, .inl (nI n))], [.inl (τ47 2 3 0 8)], τ47) [] rfl ?_ ?_
  · exact trivial
  rw [b47.1.2.1]
  refine AW.callSI (d' := 0) [.inl (bI (Sw (passS n S)))] [] ⟨_, rfl⟩ f_J_bitCount s_J_bitCount l_1_37 rfl (Nat.le_of_ble_eq_true rfl) rfl (Nat.le_of_ble_eq_true rfl) (cJ_bitCount (bI (Sw (passS n S))) τ47) ?_
  rintro _ _ ⟨rfl, rfl⟩
  rw [bcV_bI]
  refine AW.run 3 [] (20, [(5, .inl 0), (4, .inl (nI (leftS S n))), (3, .inl (-9)), (0, .inr (.inr (0, 0, 0))), (1, .inr (.inr (2, 0, 0))), (2, .inl (nI n))], [], τ47) [] rfl ?_ ?_
  · exact trivial
  refine AW.pick [3, 4, 5, 2, 1, 0] (ls' := [(0, .inr (.inr (0, 0, 0))), (1, .inr (.inr (2, 0, 0))), (2, .inl (nI n)), (3, .inl (optI (chgO S n 0).1)), (4, .inl (optM (chgO S n 0).2)), (5, .inl (nI 0))]) rfl ?_
  refine AW.loop (α := Unit) 20 8 (fun i _ => [(0, .inr (.inr (0, 0, 0))), (1, .inr (.inr (2, 0, 0))), (2, .inl (nI n)), (3, .inl (optI (chgO S n i).1)), (4, .inl (optM (chgO S n i).2)), (5, .inl (nI i))]) (fun i _ τ => Only 2 3 σ τ) ?_ ?_ 8 0 () _ (by omega) (only_trans only_rfl a47)
  · intro i _ τ hi hA hk
    refine AW.run 7 [false] (33, [(6, .inl ((nI i) + 1)), (0, .inr (.inr (0, 0, 0))), (1, .inr (.inr (2, 0, 0))), (2, .inl (nI n)), (3, .inl (optI (chgO S n i).1)), (4, .inl (optM (chgO S n i).2)), (5, .inl (nI i))], [], τ) [¬ icP .ge (nI i) 8] rfl ?_ ?_
    · exact allP1 (nle_lit (a := 8) hi (by decide))
    rw [nI_1 i]
    refine AW.pick [1, 2, 3, 4, 5, 6, 0] (ls' := [(0, .inr (.inr (0, 0, 0))), (1, .inr (.inr (2, 0, 0))), (2, .inl (nI n)), (3, .inl (optI (chgJ S n i (chgO S n i) 0).1)), (4, .inl (optM (chgJ S n i (chgO S n i) 0).2)), (5, .inl (nI i)), (6, .inl (nI (i + 1 + 0)))]) rfl ?_
    refine AW.loop (α := Unit) 33 (7 - i) (fun k _ => [(0, .inr (.inr (0, 0, 0))), (1, .inr (.inr (2, 0, 0))), (2, .inl (nI n)), (3, .inl (optI (chgJ S n i (chgO S n i) k).1)), (4, .inl (optM (chgJ S n i (chgO S n i) k).2)), (5, .inl (nI i)), (6, .inl (nI (i + 1 + k)))]) (fun k _ τ => Only 2 3 σ τ) ?_ ?_ (7 - i) 0 () _ (by omega) hA
    · intro k _ τ hkk hA hk9
      have hlim := chgJ_le (S := S) (n := n) (i := i) (chgO_le (S := S) (n := n) i) k
      by_cases hwi : Sw S i = true
      · by_cases hwj : Sw S (i + 1 + k) = true
        · have hfi : chgF S n i (i + 1 + k) = some (leftS (withP S (fu (fu (Sp S) i (Sp S (i + 1 + k))) (i + 1 + k) (Sp S i))) n) := by simp [chgF, hwi, hwj]
          have hle := leftS_le (withP S (fu (fu (Sp S) i (Sp S (i + 1 + k))) (i + 1 + k) (Sp S i))) n
          by_cases hab : above (chgJ S n i (chgO S n i) k).2 (leftS (withP S (fu (fu (Sp S) i (Sp S (i + 1 + k))) (i + 1 + k) (Sp S i))) n) = true
          · have hs : chgJ S n i (chgO S n i) (k + 1) = (some (10 * i + (i + 1 + k)), some (leftS (withP S (fu (fu (Sp S) i (Sp S (i + 1 + k))) (i + 1 + k) (Sp S i))) n)) := by simp only [chgJ, upA, hfi]; rw [if_pos hab]
            refine AW.run 5 [false] (43, [(0, .inr (.inr (0, 0, 0))), (1, .inr (.inr (2, 0, 0))), (2, .inl (nI n)), (3, .inl (optI (chgJ S n i (chgO S n i) k).1)), (4, .inl (optM (chgJ S n i (chgO S n i) k).2)), (5, .inl (nI i)), (6, .inl (nI (i + 1 + k)))], [.inl (nI i), .inr (.inr (2, 0, 0))], τ) [¬ icP .ge (nI (i + 1 + k)) 8] rfl ?_ ?_
            · exact allP1 (nle_lit (a := 8) (b := i + 1 + k) (by omega) (by decide))
            refine AW.callVI (d' := 0) [.inl (nI i)] [] ⟨_, rfl⟩ f_3_isWhole v_3_isWhole l_1_43 ⟨rfl, by decide⟩ rfl (Nat.le_of_ble_eq_true rfl) rfl (Nat.le_of_ble_eq_true rfl) (c3_isWhole 0 S τ (only_rep hA hR) hO i (by omega)) ?_
            rintro v _ ⟨rfl, hv⟩
            obtain rfl : v = 1 := by
              rcases hv with h | h
              · exact h.1
              · exact absurd (h.2.symm.trans hwi) (by decide)
            refine AW.run 3 [false] (52, [(0, .inr (.inr (0, 0, 0))), (1, .inr (.inr (2, 0, 0))), (2, .inl (nI n)), (3, .inl (optI (chgJ S n i (chgO S n i) k).1)), (4, .inl (optM (chgJ S n i (chgO S n i) k).2)), (5, .inl (nI i)), (6, .inl (nI (i + 1 + k)))], [.inl (nI (i + 1 + k)), .inr (.inr (2, 0, 0))], τ) [¬ icP .eq (1 : Int32) 0] rfl ?_ ?_
            · exact allP1 (by decide : ¬ ((1 : Int32) = 0))
            refine AW.callVI (d' := 0) [.inl (nI (i + 1 + k))] [] ⟨_, rfl⟩ f_3_isWhole v_3_isWhole l_1_43 ⟨rfl, by decide⟩ rfl (Nat.le_of_ble_eq_true rfl) rfl (Nat.le_of_ble_eq_true rfl) (c3_isWhole 0 S τ (only_rep hA hR) hO (i + 1 + k) (by omega)) ?_
            rintro v _ ⟨rfl, hv⟩
            obtain rfl : v = 1 := by
              rcases hv with h | h
              · exact h.1
              · exact absurd (h.2.symm.trans hwj) (by decide)
            refine AW.run 4 [true] (66, [(0, .inr (.inr (0, 0, 0))), (1, .inr (.inr (2, 0, 0))), (2, .inl (nI n)), (3, .inl (optI (chgJ S n i (chgO S n i) k).1)), (4, .inl (optM (chgJ S n i (chgO S n i) k).2)), (5, .inl (nI i)), (6, .inl (nI (i + 1 + k)))], [.inr (.inr (2, 0, 0)), .inr (.inr (2, 3, 0))], τ) [icP .ne (1 : Int32) 0] rfl ?_ ?_
            · exact allP1 (by decide : (¬ (1 : Int32) = 0))
            refine AW.callVV (d' := 1) [.inr (.inr (2, 0, 0))] [] ⟨_, rfl⟩ f_3_copyFrom v_3_copyFrom l_1_25 ⟨rfl, by decide⟩ rfl (Nat.le_of_ble_eq_true rfl) rfl (Nat.le_of_ble_eq_true rfl) (c3_copyFrom 3 0 (by decide) S τ (only_rep hA hR) hO) ?_
            rintro τ48 ⟨a48, b48⟩
            refine AW.run 5 [] (78, [(0, .inr (.inr (0, 0, 0))), (1, .inr (.inr (2, 0, 0))), (2, .inl (nI n)), (3, .inl (optI (chgJ S n i (chgO S n i) k).1)), (4, .inl (optM (chgJ S n i (chgO S n i) k).2)), (5, .inl (nI i)), (6, .inl (nI (i + 1 + k)))], [.inl (nI (i + 1 + k)), .inr (.inr (2, 0, 0)), .inl (nI i), .inr (.inr (2, 3, 0))], τ48) [] rfl ?_ ?_
            · exact trivial
            refine AW.callVI (d' := 1) [.inl (nI (i + 1 + k))] [.inl (nI i), .inr (.inr (2, 3, 0))] ⟨_, rfl⟩ f_3_placeOf v_3_placeOf l_1_89 ⟨rfl, by decide⟩ rfl (Nat.le_of_ble_eq_true rfl) rfl (Nat.le_of_ble_eq_true rfl) (c3_placeOf 0 S τ48 (only_rep (only_trans hA a48) hR) hO (i + 1 + k) (SOK_lt hO hwj)) ?_
            rintro _ _ ⟨rfl, rfl⟩
            refine AW.callVV (d' := 1) [.inl (nI i), .inl (nI (Sp S (i + 1 + k)))] [] ⟨_, rfl⟩ f_3_setPlace v_3_setPlace l_1_69 ⟨rfl, by decide⟩ rfl (Nat.le_of_ble_eq_true rfl) rfl (Nat.le_of_ble_eq_true rfl) (c3_setPlace 3 S τ48 b48 hO i (Sp S (i + 1 + k)) (SOK_lt hO hwi)) ?_
            rintro τ49 ⟨a49, b49⟩
            refine AW.run 5 [] (93, [(0, .inr (.inr (0, 0, 0))), (1, .inr (.inr (2, 0, 0))), (2, .inl (nI n)), (3, .inl (optI (chgJ S n i (chgO S n i) k).1)), (4, .inl (optM (chgJ S n i (chgO S n i) k).2)), (5, .inl (nI i)), (6, .inl (nI (i + 1 + k)))], [.inl (nI i), .inr (.inr (2, 0, 0)), .inl (nI (i + 1 + k)), .inr (.inr (2, 3, 0))], τ49) [] rfl ?_ ?_
            · exact trivial
            refine AW.callVI (d' := 1) [.inl (nI i)] [.inl (nI (i + 1 + k)), .inr (.inr (2, 3, 0))] ⟨_, rfl⟩ f_3_placeOf v_3_placeOf l_1_89 ⟨rfl, by decide⟩ rfl (Nat.le_of_ble_eq_true rfl) rfl (Nat.le_of_ble_eq_true rfl) (c3_placeOf 0 S τ49 (only_rep (only_trans (only_trans hA a48) a49) hR) hO (i) (SOK_lt hO hwi)) ?_
            rintro _ _ ⟨rfl, rfl⟩
            refine AW.callVV (d' := 1) [.inl (nI (i + 1 + k)), .inl (nI (Sp S i))] [] ⟨_, rfl⟩ f_3_setPlace v_3_setPlace l_1_69 ⟨rfl, by decide⟩ rfl (Nat.le_of_ble_eq_true rfl) rfl (Nat.le_of_ble_eq_true rfl) (c3_setPlace 3 (withP S (fu (Sp S) i (Sp S (i + 1 + k)))) τ49 b49 (SOK_p hO (SOK_lt hO hwi) (hO.2.1 (i + 1 + k)).2.2.1) (i + 1 + k) (Sp S i) (SOK_lt hO hwj)) ?_
            rintro τ50 ⟨a50, b50⟩
            refine AW.run 2 [] (101, [(0, .inr (.inr (0, 0, 0))), (1, .inr (.inr (2, 0, 0))), (2, .inl (nI n)), (3, .inl (optI (chgJ S n i (chgO S n i) k).1)), (4, .inl (optM (chgJ S n i (chgO S n i) k).2)), (5, .inl (nI i)), (6, .inl (nI (i + 1 + k)))], [.inl (nI n), .inr (.inr (0, 0, 0))], τ50) [] rfl ?_ ?_
            · exact trivial
            refine AW.callVI (d' := 4) [.inl (nI n)] [] ⟨_, rfl⟩ f_1_leftBehind v_1_leftBehind l_1_73 ⟨rfl, by decide⟩ rfl (Nat.le_of_ble_eq_true rfl) rfl (Nat.le_of_ble_eq_true rfl) (c1_leftBehind (withP S (fu (fu (Sp S) i (Sp S (i + 1 + k))) (i + 1 + k) (Sp S i))) τ50 b50 (SOK_p (k := i + 1 + k) (q := Sp S i) (SOK_p hO (SOK_lt hO hwi) (hO.2.1 (i + 1 + k)).2.2.1) (SOK_lt hO hwj) (hO.2.1 i).2.2.1) n (by omega)) ?_
            rintro _ τ51 ⟨rfl, a51⟩
            refine AW.run 9 [false] (122, [(4, .inl (nI (leftS (withP S (fu (fu (Sp S) i (Sp S (i + 1 + k))) (i + 1 + k) (Sp S i))) n))), (7, .inl (nI (leftS (withP S (fu (fu (Sp S) i (Sp S (i + 1 + k))) (i + 1 + k) (Sp S i))) n))), (0, .inr (.inr (0, 0, 0))), (1, .inr (.inr (2, 0, 0))), (2, .inl (nI n)), (3, .inl (optI (chgJ S n i (chgO S n i) k).1)), (5, .inl (nI i)), (6, .inl (nI (i + 1 + k)))], [.inl (10 * (nI i))], τ51) [¬ icP .le (nI (leftS (withP S (fu (fu (Sp S) i (Sp S (i + 1 + k))) (i + 1 + k) (Sp S i))) n)) (optM (chgJ S n i (chgO S n i) k).2)] rfl ?_ ?_
            · exact allP1 (fun q9 => by rw [(above_cmp hle hlim).mp q9] at hab; cases hab)
            rw [mul10 i hi]
            refine AW.run 2 [] (125, [(4, .inl (nI (leftS (withP S (fu (fu (Sp S) i (Sp S (i + 1 + k))) (i + 1 + k) (Sp S i))) n))), (7, .inl (nI (leftS (withP S (fu (fu (Sp S) i (Sp S (i + 1 + k))) (i + 1 + k) (Sp S i))) n))), (0, .inr (.inr (0, 0, 0))), (1, .inr (.inr (2, 0, 0))), (2, .inl (nI n)), (3, .inl (optI (chgJ S n i (chgO S n i) k).1)), (5, .inl (nI i)), (6, .inl (nI (i + 1 + k)))], [.inl ((nI (10 * i)) + (nI (i + 1 + k)))], τ51) [] rfl ?_ ?_
            · exact trivial
            rw [nI_add]
            refine AW.run 3 [] (33, [(6, .inl ((nI (i + 1 + k)) + 1)), (3, .inl (nI (10 * i + (i + 1 + k)))), (4, .inl (nI (leftS (withP S (fu (fu (Sp S) i (Sp S (i + 1 + k))) (i + 1 + k) (Sp S i))) n))), (7, .inl (nI (leftS (withP S (fu (fu (Sp S) i (Sp S (i + 1 + k))) (i + 1 + k) (Sp S i))) n))), (0, .inr (.inr (0, 0, 0))), (1, .inr (.inr (2, 0, 0))), (2, .inl (nI n)), (5, .inl (nI i))], [], τ51) [] rfl ?_ ?_
            · exact trivial
            have hx := hk9 () τ51 (only_trans (only_trans (only_trans (only_trans hA a48) a49) a50) a51)
            rw [hs, show i + 1 + (k + 1) = i + 1 + k + 1 from rfl, ← nI_1 (i + 1 + k)] at hx
            refine AW.pick [4, 5, 6, 1, 2, 7, 0] (ls' := _) rfl ?_
            exact hx
          · have hs : chgJ S n i (chgO S n i) (k + 1) = chgJ S n i (chgO S n i) k := by simp only [chgJ, upA, hfi]; rw [if_neg hab]
            refine AW.run 5 [false] (43, [(0, .inr (.inr (0, 0, 0))), (1, .inr (.inr (2, 0, 0))), (2, .inl (nI n)), (3, .inl (optI (chgJ S n i (chgO S n i) k).1)), (4, .inl (optM (chgJ S n i (chgO S n i) k).2)), (5, .inl (nI i)), (6, .inl (nI (i + 1 + k)))], [.inl (nI i), .inr (.inr (2, 0, 0))], τ) [¬ icP .ge (nI (i + 1 + k)) 8] rfl ?_ ?_
            · exact allP1 (nle_lit (a := 8) (b := i + 1 + k) (by omega) (by decide))
            refine AW.callVI (d' := 0) [.inl (nI i)] [] ⟨_, rfl⟩ f_3_isWhole v_3_isWhole l_1_43 ⟨rfl, by decide⟩ rfl (Nat.le_of_ble_eq_true rfl) rfl (Nat.le_of_ble_eq_true rfl) (c3_isWhole 0 S τ (only_rep hA hR) hO i (by omega)) ?_
            rintro v _ ⟨rfl, hv⟩
            obtain rfl : v = 1 := by
              rcases hv with h | h
              · exact h.1
              · exact absurd (h.2.symm.trans hwi) (by decide)
            refine AW.run 3 [false] (52, [(0, .inr (.inr (0, 0, 0))), (1, .inr (.inr (2, 0, 0))), (2, .inl (nI n)), (3, .inl (optI (chgJ S n i (chgO S n i) k).1)), (4, .inl (optM (chgJ S n i (chgO S n i) k).2)), (5, .inl (nI i)), (6, .inl (nI (i + 1 + k)))], [.inl (nI (i + 1 + k)), .inr (.inr (2, 0, 0))], τ) [¬ icP .eq (1 : Int32) 0] rfl ?_ ?_
            · exact allP1 (by decide : ¬ ((1 : Int32) = 0))
            refine AW.callVI (d' := 0) [.inl (nI (i + 1 + k))] [] ⟨_, rfl⟩ f_3_isWhole v_3_isWhole l_1_43 ⟨rfl, by decide⟩ rfl (Nat.le_of_ble_eq_true rfl) rfl (Nat.le_of_ble_eq_true rfl) (c3_isWhole 0 S τ (only_rep hA hR) hO (i + 1 + k) (by omega)) ?_
            rintro v _ ⟨rfl, hv⟩
            obtain rfl : v = 1 := by
              rcases hv with h | h
              · exact h.1
              · exact absurd (h.2.symm.trans hwj) (by decide)
            refine AW.run 4 [true] (66, [(0, .inr (.inr (0, 0, 0))), (1, .inr (.inr (2, 0, 0))), (2, .inl (nI n)), (3, .inl (optI (chgJ S n i (chgO S n i) k).1)), (4, .inl (optM (chgJ S n i (chgO S n i) k).2)), (5, .inl (nI i)), (6, .inl (nI (i + 1 + k)))], [.inr (.inr (2, 0, 0)), .inr (.inr (2, 3, 0))], τ) [icP .ne (1 : Int32) 0] rfl ?_ ?_
            · exact allP1 (by decide : (¬ (1 : Int32) = 0))
            refine AW.callVV (d' := 1) [.inr (.inr (2, 0, 0))] [] ⟨_, rfl⟩ f_3_copyFrom v_3_copyFrom l_1_25 ⟨rfl, by decide⟩ rfl (Nat.le_of_ble_eq_true rfl) rfl (Nat.le_of_ble_eq_true rfl) (c3_copyFrom 3 0 (by decide) S τ (only_rep hA hR) hO) ?_
            rintro τ52 ⟨a52, b52⟩
            refine AW.run 5 [] (78, [(0, .inr (.inr (0, 0, 0))), (1, .inr (.inr (2, 0, 0))), (2, .inl (nI n)), (3, .inl (optI (chgJ S n i (chgO S n i) k).1)), (4, .inl (optM (chgJ S n i (chgO S n i) k).2)), (5, .inl (nI i)), (6, .inl (nI (i + 1 + k)))], [.inl (nI (i + 1 + k)), .inr (.inr (2, 0, 0)), .inl (nI i), .inr (.inr (2, 3, 0))], τ52) [] rfl ?_ ?_
            · exact trivial
            refine AW.callVI (d' := 1) [.inl (nI (i + 1 + k))] [.inl (nI i), .inr (.inr (2, 3, 0))] ⟨_, rfl⟩ f_3_placeOf v_3_placeOf l_1_89 ⟨rfl, by decide⟩ rfl (Nat.le_of_ble_eq_true rfl) rfl (Nat.le_of_ble_eq_true rfl) (c3_placeOf 0 S τ52 (only_rep (only_trans hA a52) hR) hO (i + 1 + k) (SOK_lt hO hwj)) ?_
            rintro _ _ ⟨rfl, rfl⟩
            refine AW.callVV (d' := 1) [.inl (nI i), .inl (nI (Sp S (i + 1 + k)))] [] ⟨_, rfl⟩ f_3_setPlace v_3_setPlace l_1_69 ⟨rfl, by decide⟩ rfl (Nat.le_of_ble_eq_true rfl) rfl (Nat.le_of_ble_eq_true rfl) (c3_setPlace 3 S τ52 b52 hO i (Sp S (i + 1 + k)) (SOK_lt hO hwi)) ?_
            rintro τ53 ⟨a53, b53⟩
            refine AW.run 5 [] (93, [(0, .inr (.inr (0, 0, 0))), (1, .inr (.inr (2, 0, 0))), (2, .inl (nI n)), (3, .inl (optI (chgJ S n i (chgO S n i) k).1)), (4, .inl (optM (chgJ S n i (chgO S n i) k).2)), (5, .inl (nI i)), (6, .inl (nI (i + 1 + k)))], [.inl (nI i), .inr (.inr (2, 0, 0)), .inl (nI (i + 1 + k)), .inr (.inr (2, 3, 0))], τ53) [] rfl ?_ ?_
            · exact trivial
            refine AW.callVI (d' := 1) [.inl (nI i)] [.inl (nI (i + 1 + k)), .inr (.inr (2, 3, 0))] ⟨_, rfl⟩ f_3_placeOf v_3_placeOf l_1_89 ⟨rfl, by decide⟩ rfl (Nat.le_of_ble_eq_true rfl) rfl (Nat.le_of_ble_eq_true rfl) (c3_placeOf 0 S τ53 (only_rep (only_trans (only_trans hA a52) a53) hR) hO (i) (SOK_lt hO hwi)) ?_
            rintro _ _ ⟨rfl, rfl⟩
            refine AW.callVV (d' := 1) [.inl (nI (i + 1 + k)), .inl (nI (Sp S i))] [] ⟨_, rfl⟩ f_3_setPlace v_3_setPlace l_1_69 ⟨rfl, by decide⟩ rfl (Nat.le_of_ble_eq_true rfl) rfl (Nat.le_of_ble_eq_true rfl) (c3_setPlace 3 (withP S (fu (Sp S) i (Sp S (i + 1 + k)))) τ53 b53 (SOK_p hO (SOK_lt hO hwi) (hO.2.1 (i + 1 + k)).2.2.1) (i + 1 + k) (Sp S i) (SOK_lt hO hwj)) ?_
            rintro τ54 ⟨a54, b54⟩
            refine AW.run 2 [] (101, [(0, .inr (.inr (0, 0, 0))), (1, .inr (.inr (2, 0, 0))), (2, .inl (nI n)), (3, .inl (optI (chgJ S n i (chgO S n i) k).1)), (4, .inl (optM (chgJ S n i (chgO S n i) k).2)), (5, .inl (nI i)), (6, .inl (nI (i + 1 + k)))], [.inl (nI n), .inr (.inr (0, 0, 0))], τ54) [] rfl ?_ ?_
            · exact trivial
            refine AW.callVI (d' := 4) [.inl (nI n)] [] ⟨_, rfl⟩ f_1_leftBehind v_1_leftBehind l_1_73 ⟨rfl, by decide⟩ rfl (Nat.le_of_ble_eq_true rfl) rfl (Nat.le_of_ble_eq_true rfl) (c1_leftBehind (withP S (fu (fu (Sp S) i (Sp S (i + 1 + k))) (i + 1 + k) (Sp S i))) τ54 b54 (SOK_p (k := i + 1 + k) (q := Sp S i) (SOK_p hO (SOK_lt hO hwi) (hO.2.1 (i + 1 + k)).2.2.1) (SOK_lt hO hwj) (hO.2.1 i).2.2.1) n (by omega)) ?_
            rintro _ τ55 ⟨rfl, a55⟩
            refine AW.run 6 [true] (33, [(6, .inl ((nI (i + 1 + k)) + 1)), (7, .inl (nI (leftS (withP S (fu (fu (Sp S) i (Sp S (i + 1 + k))) (i + 1 + k) (Sp S i))) n))), (0, .inr (.inr (0, 0, 0))), (1, .inr (.inr (2, 0, 0))), (2, .inl (nI n)), (3, .inl (optI (chgJ S n i (chgO S n i) k).1)), (4, .inl (optM (chgJ S n i (chgO S n i) k).2)), (5, .inl (nI i))], [], τ55) [icP .le (nI (leftS (withP S (fu (fu (Sp S) i (Sp S (i + 1 + k))) (i + 1 + k) (Sp S i))) n)) (optM (chgJ S n i (chgO S n i) k).2)] rfl ?_ ?_
            · exact allP1 ((above_cmp hle hlim).mpr (by cases hb9 : above (chgJ S n i (chgO S n i) k).2 (leftS (withP S (fu (fu (Sp S) i (Sp S (i + 1 + k))) (i + 1 + k) (Sp S i))) n); rfl; exact absurd hb9 hab))
            have hx := hk9 () τ55 (only_trans (only_trans (only_trans (only_trans hA a52) a53) a54) a55)
            rw [hs, show i + 1 + (k + 1) = i + 1 + k + 1 from rfl, ← nI_1 (i + 1 + k)] at hx
            refine AW.pick [2, 3, 4, 5, 6, 7, 0] (ls' := _) rfl ?_
            exact hx
        · have hs : chgJ S n i (chgO S n i) (k + 1) = chgJ S n i (chgO S n i) k := by simp [chgJ, upA, chgF, hwj]
          have hwf : Sw S (i + 1 + k) = false := by cases hb : Sw S (i + 1 + k); rfl; exact absurd hb hwj
          refine AW.run 5 [false] (43, [(0, .inr (.inr (0, 0, 0))), (1, .inr (.inr (2, 0, 0))), (2, .inl (nI n)), (3, .inl (optI (chgJ S n i (chgO S n i) k).1)), (4, .inl (optM (chgJ S n i (chgO S n i) k).2)), (5, .inl (nI i)), (6, .inl (nI (i + 1 + k)))], [.inl (nI i), .inr (.inr (2, 0, 0))], τ) [¬ icP .ge (nI (i + 1 + k)) 8] rfl ?_ ?_
          · exact allP1 (nle_lit (a := 8) (b := i + 1 + k) (by omega) (by decide))
          refine AW.callVI (d' := 0) [.inl (nI i)] [] ⟨_, rfl⟩ f_3_isWhole v_3_isWhole l_1_43 ⟨rfl, by decide⟩ rfl (Nat.le_of_ble_eq_true rfl) rfl (Nat.le_of_ble_eq_true rfl) (c3_isWhole 0 S τ (only_rep hA hR) hO i (by omega)) ?_
          rintro v _ ⟨rfl, hv⟩
          obtain rfl : v = 1 := by
            rcases hv with h | h
            · exact h.1
            · exact absurd (h.2.symm.trans hwi) (by decide)
          refine AW.run 3 [false] (52, [(0, .inr (.inr (0, 0, 0))), (1, .inr (.inr (2, 0, 0))), (2, .inl (nI n)), (3, .inl (optI (chgJ S n i (chgO S n i) k).1)), (4, .inl (optM (chgJ S n i (chgO S n i) k).2)), (5, .inl (nI i)), (6, .inl (nI (i + 1 + k)))], [.inl (nI (i + 1 + k)), .inr (.inr (2, 0, 0))], τ) [¬ icP .eq (1 : Int32) 0] rfl ?_ ?_
          · exact allP1 (by decide : ¬ ((1 : Int32) = 0))
          refine AW.callVI (d' := 0) [.inl (nI (i + 1 + k))] [] ⟨_, rfl⟩ f_3_isWhole v_3_isWhole l_1_43 ⟨rfl, by decide⟩ rfl (Nat.le_of_ble_eq_true rfl) rfl (Nat.le_of_ble_eq_true rfl) (c3_isWhole 0 S τ (only_rep hA hR) hO (i + 1 + k) (by omega)) ?_
          rintro v _ ⟨rfl, hv⟩
          obtain rfl : v = 0 := by
            rcases hv with h | h
            · exact absurd (h.2.symm.trans hwf) (by decide)
            · exact h.1
          refine AW.run 4 [false] (33, [(6, .inl ((nI (i + 1 + k)) + 1)), (0, .inr (.inr (0, 0, 0))), (1, .inr (.inr (2, 0, 0))), (2, .inl (nI n)), (3, .inl (optI (chgJ S n i (chgO S n i) k).1)), (4, .inl (optM (chgJ S n i (chgO S n i) k).2)), (5, .inl (nI i))], [], τ) [¬ icP .ne (0 : Int32) 0] rfl ?_ ?_
          · exact allP1 (by decide : ¬ (¬ (0 : Int32) = 0))
          have hx := hk9 () τ hA
          rw [hs, show i + 1 + (k + 1) = i + 1 + k + 1 from rfl, ← nI_1 (i + 1 + k)] at hx
          refine AW.pick [1, 2, 3, 4, 5, 6, 0] (ls' := _) rfl ?_
          exact hx
      · have hs : chgJ S n i (chgO S n i) (k + 1) = chgJ S n i (chgO S n i) k := by simp [chgJ, upA, chgF, hwi]
        have hwf : Sw S i = false := by cases hb : Sw S i; rfl; exact absurd hb hwi
        refine AW.run 5 [false] (43, [(0, .inr (.inr (0, 0, 0))), (1, .inr (.inr (2, 0, 0))), (2, .inl (nI n)), (3, .inl (optI (chgJ S n i (chgO S n i) k).1)), (4, .inl (optM (chgJ S n i (chgO S n i) k).2)), (5, .inl (nI i)), (6, .inl (nI (i + 1 + k)))], [.inl (nI i), .inr (.inr (2, 0, 0))], τ) [¬ icP .ge (nI (i + 1 + k)) 8] rfl ?_ ?_
        · exact allP1 (nle_lit (a := 8) (b := i + 1 + k) (by omega) (by decide))
        refine AW.callVI (d' := 0) [.inl (nI i)] [] ⟨_, rfl⟩ f_3_isWhole v_3_isWhole l_1_43 ⟨rfl, by decide⟩ rfl (Nat.le_of_ble_eq_true rfl) rfl (Nat.le_of_ble_eq_true rfl) (c3_isWhole 0 S τ (only_rep hA hR) hO i (by omega)) ?_
        rintro v _ ⟨rfl, hv⟩
        obtain rfl : v = 0 := by
          rcases hv with h | h
          · exact absurd (h.2.symm.trans hwf) (by decide)
          · exact h.1
        refine AW.run 3 [true] (33, [(6, .inl ((nI (i + 1 + k)) + 1)), (0, .inr (.inr (0, 0, 0))), (1, .inr (.inr (2, 0, 0))), (2, .inl (nI n)), (3, .inl (optI (chgJ S n i (chgO S n i) k).1)), (4, .inl (optM (chgJ S n i (chgO S n i) k).2)), (5, .inl (nI i))], [], τ) [icP .eq (0 : Int32) 0] rfl ?_ ?_
        · exact allP1 (by decide : ((0 : Int32) = 0))
        have hx := hk9 () τ hA
        rw [hs, show i + 1 + (k + 1) = i + 1 + k + 1 from rfl, ← nI_1 (i + 1 + k)] at hx
        refine AW.pick [1, 2, 3, 4, 5, 6, 0] (ls' := _) rfl ?_
        exact hx
    · intro _ τ hA
      have e8 : i + 1 + (7 - i) = 8 := by omega
      rw [e8]
      refine AW.run 5 [true] (20, [(5, .inl ((nI i) + 1)), (0, .inr (.inr (0, 0, 0))), (1, .inr (.inr (2, 0, 0))), (2, .inl (nI n)), (3, .inl (optI (chgJ S n i (chgO S n i) (7 - i)).1)), (4, .inl (optM (chgJ S n i (chgO S n i) (7 - i)).2)), (6, .inl (nI 8))], [], τ) [icP .ge (nI 8) 8] rfl ?_ ?_
      · exact allP1 (le_lit (a := 8) (b := 8) (by decide) (by decide))
      have hx := hk () τ hA
      rw [← nI_1 i] at hx
      refine AW.pick [1, 2, 3, 4, 5, 0] (ls' := _) rfl ?_
      exact hx
  · intro _ τ hI
    refine AW.run 4 [true] (139, [(0, .inr (.inr (0, 0, 0))), (1, .inr (.inr (2, 0, 0))), (2, .inl (nI n)), (3, .inl (optI (chgO S n 8).1)), (4, .inl (optM (chgO S n 8).2)), (5, .inl (nI 8))], [.inl (optI (chgO S n 8).1)], τ) [icP .ge (nI 8) 8] rfl ?_ ?_
    · exact allP1 (le_lit (a := 8) (b := 8) (by decide) (by decide))
    refine AW.reti ⟨_, rfl⟩ rfl ?_
    exact ⟨rfl, hI⟩
