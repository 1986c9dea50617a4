/-! THE SHELF AS NUMBERS: n, kind, figure, place, press, whole, towel, sugar, heat, day -/
abbrev Sv : Type := Nat × (Nat → Nat) × (Nat → Nat) × (Nat → Nat) × (Nat → Nat) × (Nat → Bool) × (Nat → Bool) × Nat × Nat × Nat
abbrev Sn (S : Sv) : Nat := S.1
abbrev Sk (S : Sv) : Nat → Nat := S.2.1
abbrev Sf (S : Sv) : Nat → Nat := S.2.2.1
abbrev Sp (S : Sv) : Nat → Nat := S.2.2.2.1
abbrev Sq (S : Sv) : Nat → Nat := S.2.2.2.2.1
abbrev Sw (S : Sv) : Nat → Bool := S.2.2.2.2.2.1
abbrev Stw (S : Sv) : Nat → Bool := S.2.2.2.2.2.2.1
abbrev Su (S : Sv) : Nat := S.2.2.2.2.2.2.2.1
abbrev She (S : Sv) : Nat := S.2.2.2.2.2.2.2.2.1
abbrev Sd (S : Sv) : Nat := S.2.2.2.2.2.2.2.2.2
def fu {α : Type} (f : Nat → α) (k : Nat) (x : α) : Nat → α := fun j => if j = k then x else f j
theorem fu_eq {α : Type} (f : Nat → α) (k : Nat) (x : α) : fu f k x k = x := by simp [fu]
theorem fu_ne {α : Type} (f : Nat → α) {j k : Nat} (x : α) (h : j ≠ k) : fu f k x j = f j := by simp [fu, h]
def riseN (k fg su he : Nat) : Nat := match k with
  | 0 => su + he / 2
  | 1 => su + he / 2 - 1
  | 3 => su + he / 2 - 1 + fg / 3
  | 4 => if 0 < su then 1 else 0
  | 5 => 2 * (su + he / 2 - 1 + fg / 3)
  | _ => 0
def bearN (k fg : Nat) : Nat := match k with
  | 0 => 10 + fg
  | 1 => 2 * (10 + fg)
  | 3 => 2 * (10 + fg) - 5
  | 5 => 2 * (10 + fg) - 5 + fg
  | _ => 99
def shockN (k fg : Nat) : Nat := match k with
  | 0 => 6 | 1 => 10 | 3 => 20 | 4 => fg | 5 => 20 | _ => 0
def riseS (S : Sv) (i : Nat) : Nat := riseN (Sk S i) (Sf S i) (Su S) (She S)
def bearS (S : Sv) (i : Nat) : Nat := bearN (Sk S i) (Sf S i)
def shockS (S : Sv) (i : Nat) : Nat := shockN (Sk S i) (Sf S i)
def nearN (a b : Nat) : Bool := decide (a ≤ b + 2 ∧ b ≤ a + 2)
def withQ (S : Sv) (q : Nat → Nat) : Sv := (Sn S, Sk S, Sf S, Sp S, q, Sw S, Stw S, Su S, She S, Sd S)
def withW (S : Sv) (w : Nat → Bool) : Sv := (Sn S, Sk S, Sf S, Sp S, Sq S, w, Stw S, Su S, She S, Sd S)
def withT (S : Sv) (t : Nat → Bool) : Sv := (Sn S, Sk S, Sf S, Sp S, Sq S, Sw S, t, Su S, She S, Sd S)
def withP (S : Sv) (p : Nat → Nat) : Sv := (Sn S, Sk S, Sf S, p, Sq S, Sw S, Stw S, Su S, She S, Sd S)
def withK (S : Sv) (k f : Nat → Nat) : Sv := (Sn S, k, f, Sp S, Sq S, Sw S, Stw S, Su S, She S, Sd S)
def withU (S : Sv) (u h : Nat) : Sv := (Sn S, Sk S, Sf S, Sp S, Sq S, Sw S, Stw S, u, h, Sd S)
def withD (S : Sv) (d : Nat) : Sv := (Sn S, Sk S, Sf S, Sp S, Sq S, Sw S, Stw S, Su S, She S, d)
/-- the press behind one's going, of those ahead of i -/
def burstQ (S : Sv) (b i : Nat) : Nat → Nat := fun j => if j < i ∧ j ≠ b ∧ Sw S j = true ∧ Stw S j = false ∧ nearN (Sp S b) (Sp S j) = true then min 99 (Sq S j + shockS S b) else Sq S j
def burstS (S : Sv) (b : Nat) : Sv := withQ (withW S (fu (Sw S) b false)) (burstQ S b 8)
/-- the first that goes, from i on -/
def nextS (S : Sv) : Nat → Nat → Option Nat
  | 0, _ => none
  | k + 1, i => if Sw S i = true ∧ bearS S i < Sq S i then some i else nextS S k (i + 1)
def settleS : Nat → Sv → Sv
  | 0, S => S
  | k + 1, S => match nextS S 8 0 with
    | none => S
    | some i => settleS k (burstS S i)
def addQ (S : Sv) (i : Nat) : Nat → Nat := fun j => if j < i ∧ Sw S j = true then min 99 (Sq S j + riseS S j) else Sq S j
def dayS (S : Sv) : Sv := withD (settleS 8 (withQ S (addQ S 8))) (Sd S + 1)
def passS : Nat → Sv → Sv
  | 0, S => S
  | k + 1, S => passS k (dayS S)
/-- a shelf as it may be -/
def SOK (S : Sv) : Prop := Sn S ≤ 8 ∧ (∀ i, Sk S i ≤ 5 ∧ Sf S i ≤ 9 ∧ Sp S i ≤ 14 ∧ Sq S i ≤ 99) ∧ (∀ i, Sn S ≤ i → Sw S i = false ∧ Stw S i = false ∧ Sq S i = 0 ∧ Sk S i = 0 ∧ Sf S i = 0 ∧ Sp S i = 0) ∧ Su S ≤ 9 ∧ She S ≤ 9
/-! sets as bits -/
def b8 (f0 f1 f2 f3 f4 f5 f6 f7 : Bool) : Nat := (if f0 then 1 else 0) + (if f1 then 2 else 0) + (if f2 then 4 else 0) + (if f3 then 8 else 0) + (if f4 then 16 else 0) + (if f5 then 32 else 0) + (if f6 then 64 else 0) + (if f7 then 128 else 0)
def bN (f : Nat → Bool) : Nat := b8 (f 0) (f 1) (f 2) (f 3) (f 4) (f 5) (f 6) (f 7)
def bI (f : Nat → Bool) : Int32 := nI (bN f)
def c8 (f0 f1 f2 f3 f4 f5 f6 f7 : Bool) : Nat := (if f0 then 1 else 0) + (if f1 then 1 else 0) + (if f2 then 1 else 0) + (if f3 then 1 else 0) + (if f4 then 1 else 0) + (if f5 then 1 else 0) + (if f6 then 1 else 0) + (if f7 then 1 else 0)
def cN (f : Nat → Bool) : Nat := c8 (f 0) (f 1) (f 2) (f 3) (f 4) (f 5) (f 6) (f 7)
theorem bN_lt (f : Nat → Bool) : bN f < 256 := by
  unfold bN b8
  repeat' split
  all_goals omega
theorem cN_le (f : Nat → Bool) : cN f ≤ 8 := by
  unfold cN c8
  repeat' split
  all_goals omega
theorem lt8 {i : Nat} (h : i < 8) : i = 0 ∨ i = 1 ∨ i = 2 ∨ i = 3 ∨ i = 4 ∨ i = 5 ∨ i = 6 ∨ i = 7 := by omega
set_option maxRecDepth 100000 in
theorem b8_bit : ∀ f0 f1 f2 f3 f4 f5 f6 f7 : Bool, ((nI (b8 f0 f1 f2 f3 f4 f5 f6 f7) >>> (nI 0 &&& 31)) &&& 1 = if f0 then 1 else 0) ∧ ((nI (b8 f0 f1 f2 f3 f4 f5 f6 f7) >>> (nI 1 &&& 31)) &&& 1 = if f1 then 1 else 0) ∧ ((nI (b8 f0 f1 f2 f3 f4 f5 f6 f7) >>> (nI 2 &&& 31)) &&& 1 = if f2 then 1 else 0) ∧ ((nI (b8 f0 f1 f2 f3 f4 f5 f6 f7) >>> (nI 3 &&& 31)) &&& 1 = if f3 then 1 else 0) ∧ ((nI (b8 f0 f1 f2 f3 f4 f5 f6 f7) >>> (nI 4 &&& 31)) &&& 1 = if f4 then 1 else 0) ∧ ((nI (b8 f0 f1 f2 f3 f4 f5 f6 f7) >>> (nI 5 &&& 31)) &&& 1 = if f5 then 1 else 0) ∧ ((nI (b8 f0 f1 f2 f3 f4 f5 f6 f7) >>> (nI 6 &&& 31)) &&& 1 = if f6 then 1 else 0) ∧ ((nI (b8 f0 f1 f2 f3 f4 f5 f6 f7) >>> (nI 7 &&& 31)) &&& 1 = if f7 then 1 else 0) := by decide +kernel
theorem bI_bit (f : Nat → Bool) {i : Nat} (h : i < 8) : (bI f >>> (nI i &&& 31)) &&& 1 = if f i then 1 else 0 := by
  obtain ⟨h0, h1, h2, h3, h4, h5, h6, h7⟩ := b8_bit (f 0) (f 1) (f 2) (f 3) (f 4) (f 5) (f 6) (f 7)
  rcases lt8 h with rfl | rfl | rfl | rfl | rfl | rfl | rfl | rfl <;> assumption
set_option maxRecDepth 100000 in
theorem b8_clr : ∀ f0 f1 f2 f3 f4 f5 f6 f7 : Bool, (nI (b8 f0 f1 f2 f3 f4 f5 f6 f7) &&& ((1 <<< (nI 0 &&& 31)) ^^^ (-1)) = nI (b8 false f1 f2 f3 f4 f5 f6 f7)) ∧ (nI (b8 f0 f1 f2 f3 f4 f5 f6 f7) &&& ((1 <<< (nI 1 &&& 31)) ^^^ (-1)) = nI (b8 f0 false f2 f3 f4 f5 f6 f7)) ∧ (nI (b8 f0 f1 f2 f3 f4 f5 f6 f7) &&& ((1 <<< (nI 2 &&& 31)) ^^^ (-1)) = nI (b8 f0 f1 false f3 f4 f5 f6 f7)) ∧ (nI (b8 f0 f1 f2 f3 f4 f5 f6 f7) &&& ((1 <<< (nI 3 &&& 31)) ^^^ (-1)) = nI (b8 f0 f1 f2 false f4 f5 f6 f7)) ∧ (nI (b8 f0 f1 f2 f3 f4 f5 f6 f7) &&& ((1 <<< (nI 4 &&& 31)) ^^^ (-1)) = nI (b8 f0 f1 f2 f3 false f5 f6 f7)) ∧ (nI (b8 f0 f1 f2 f3 f4 f5 f6 f7) &&& ((1 <<< (nI 5 &&& 31)) ^^^ (-1)) = nI (b8 f0 f1 f2 f3 f4 false f6 f7)) ∧ (nI (b8 f0 f1 f2 f3 f4 f5 f6 f7) &&& ((1 <<< (nI 6 &&& 31)) ^^^ (-1)) = nI (b8 f0 f1 f2 f3 f4 f5 false f7)) ∧ (nI (b8 f0 f1 f2 f3 f4 f5 f6 f7) &&& ((1 <<< (nI 7 &&& 31)) ^^^ (-1)) = nI (b8 f0 f1 f2 f3 f4 f5 f6 false)) := by decide +kernel
theorem bI_clr (f : Nat → Bool) {i : Nat} (h : i < 8) : bI f &&& ((1 <<< (nI i &&& 31)) ^^^ (-1)) = bI (fu f i false) := by
  obtain ⟨h0, h1, h2, h3, h4, h5, h6, h7⟩ := b8_clr (f 0) (f 1) (f 2) (f 3) (f 4) (f 5) (f 6) (f 7)
  rcases lt8 h with rfl | rfl | rfl | rfl | rfl | rfl | rfl | rfl <;> simpa [bI, bN, fu]
set_option maxRecDepth 100000 in
theorem b8_set : ∀ f0 f1 f2 f3 f4 f5 f6 f7 : Bool, (nI (b8 f0 f1 f2 f3 f4 f5 f6 f7) ||| (1 <<< (nI 0 &&& 31)) = nI (b8 true f1 f2 f3 f4 f5 f6 f7)) ∧ (nI (b8 f0 f1 f2 f3 f4 f5 f6 f7) ||| (1 <<< (nI 1 &&& 31)) = nI (b8 f0 true f2 f3 f4 f5 f6 f7)) ∧ (nI (b8 f0 f1 f2 f3 f4 f5 f6 f7) ||| (1 <<< (nI 2 &&& 31)) = nI (b8 f0 f1 true f3 f4 f5 f6 f7)) ∧ (nI (b8 f0 f1 f2 f3 f4 f5 f6 f7) ||| (1 <<< (nI 3 &&& 31)) = nI (b8 f0 f1 f2 true f4 f5 f6 f7)) ∧ (nI (b8 f0 f1 f2 f3 f4 f5 f6 f7) ||| (1 <<< (nI 4 &&& 31)) = nI (b8 f0 f1 f2 f3 true f5 f6 f7)) ∧ (nI (b8 f0 f1 f2 f3 f4 f5 f6 f7) ||| (1 <<< (nI 5 &&& 31)) = nI (b8 f0 f1 f2 f3 f4 true f6 f7)) ∧ (nI (b8 f0 f1 f2 f3 f4 f5 f6 f7) ||| (1 <<< (nI 6 &&& 31)) = nI (b8 f0 f1 f2 f3 f4 f5 true f7)) ∧ (nI (b8 f0 f1 f2 f3 f4 f5 f6 f7) ||| (1 <<< (nI 7 &&& 31)) = nI (b8 f0 f1 f2 f3 f4 f5 f6 true)) := by decide +kernel
theorem bI_set (f : Nat → Bool) {i : Nat} (h : i < 8) : bI f ||| (1 <<< (nI i &&& 31)) = bI (fu f i true) := by
  obtain ⟨h0, h1, h2, h3, h4, h5, h6, h7⟩ := b8_set (f 0) (f 1) (f 2) (f 3) (f 4) (f 5) (f 6) (f 7)
  rcases lt8 h with rfl | rfl | rfl | rfl | rfl | rfl | rfl | rfl <;> simpa [bI, bN, fu]
set_option maxRecDepth 100000 in
theorem b8_xor : ∀ f0 f1 f2 f3 f4 f5 f6 f7 : Bool, (nI (b8 f0 f1 f2 f3 f4 f5 f6 f7) ^^^ (1 <<< (nI 0 &&& 31)) = nI (b8 (!f0) f1 f2 f3 f4 f5 f6 f7)) ∧ (nI (b8 f0 f1 f2 f3 f4 f5 f6 f7) ^^^ (1 <<< (nI 1 &&& 31)) = nI (b8 f0 (!f1) f2 f3 f4 f5 f6 f7)) ∧ (nI (b8 f0 f1 f2 f3 f4 f5 f6 f7) ^^^ (1 <<< (nI 2 &&& 31)) = nI (b8 f0 f1 (!f2) f3 f4 f5 f6 f7)) ∧ (nI (b8 f0 f1 f2 f3 f4 f5 f6 f7) ^^^ (1 <<< (nI 3 &&& 31)) = nI (b8 f0 f1 f2 (!f3) f4 f5 f6 f7)) ∧ (nI (b8 f0 f1 f2 f3 f4 f5 f6 f7) ^^^ (1 <<< (nI 4 &&& 31)) = nI (b8 f0 f1 f2 f3 (!f4) f5 f6 f7)) ∧ (nI (b8 f0 f1 f2 f3 f4 f5 f6 f7) ^^^ (1 <<< (nI 5 &&& 31)) = nI (b8 f0 f1 f2 f3 f4 (!f5) f6 f7)) ∧ (nI (b8 f0 f1 f2 f3 f4 f5 f6 f7) ^^^ (1 <<< (nI 6 &&& 31)) = nI (b8 f0 f1 f2 f3 f4 f5 (!f6) f7)) ∧ (nI (b8 f0 f1 f2 f3 f4 f5 f6 f7) ^^^ (1 <<< (nI 7 &&& 31)) = nI (b8 f0 f1 f2 f3 f4 f5 f6 (!f7))) := by decide +kernel
theorem bI_xor (f : Nat → Bool) {i : Nat} (h : i < 8) : bI f ^^^ (1 <<< (nI i &&& 31)) = bI (fu f i (!(f i))) := by
  obtain ⟨h0, h1, h2, h3, h4, h5, h6, h7⟩ := b8_xor (f 0) (f 1) (f 2) (f 3) (f 4) (f 5) (f 6) (f 7)
  rcases lt8 h with rfl | rfl | rfl | rfl | rfl | rfl | rfl | rfl <;> simpa [bI, bN, fu]
theorem bI_inj {f g : Nat → Bool} (h : bI f = bI g) {i : Nat} (hi : i < 8) : f i = g i := by
  have h1 := bI_bit f hi
  have h2 := bI_bit g hi
  rw [h, h2] at h1
  cases hf : f i <;> cases hg : g i <;> simp [hf, hg] at h1 <;> rfl
theorem bI_congr {f g : Nat → Bool} (h : ∀ i, i < 8 → f i = g i) : bI f = bI g := by
  simp [bI, bN, h 0, h 1, h 2, h 3, h 4, h 5, h 6, h 7]
theorem cN_congr {f g : Nat → Bool} (h : ∀ i, i < 8 → f i = g i) : cN f = cN g := by
  simp [cN, h 0, h 1, h 2, h 3, h 4, h 5, h 6, h 7]
/-- Integer.bitCount's own numbers -/
def bcV (x : Int32) : Int32 :=
  let us (x y : Int32) : Int32 := (x.toUInt32 >>> (y.toUInt32 &&& Int32.toUInt32 31)).toInt32
  let a := x - (us x 1 &&& 1431655765)
  let b := (a &&& 858993459) + (us a 2 &&& 858993459)
  let c := (b + us b 4) &&& 252645135
  let d := c + us c 8
  let e := d + us d 16
  e &&& 63
set_option maxRecDepth 100000 in
theorem b8_cnt : ∀ f0 f1 f2 f3 f4 f5 f6 f7 : Bool, bcV (nI (b8 f0 f1 f2 f3 f4 f5 f6 f7)) = nI (c8 f0 f1 f2 f3 f4 f5 f6 f7) := by decide +kernel
theorem bcV_bI (f : Nat → Bool) : bcV (bI f) = nI (cN f) := b8_cnt _ _ _ _ _ _ _ _
