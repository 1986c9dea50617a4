/-! THE ABSTRACT MACHINE: ints of fields and arrays by (class, instance, part, place); the objects' graph is fixed -/
abbrev AR : Type := Nat × Nat × Nat
abbrev AV : Type := Int32 ⊕ (Int64 ⊕ AR)
abbrev St : Type := Nat → Nat → Nat → Nat → Int32
abbrev Cfg : Type := Nat × List (Nat × AV) × List AV × St
/-- array class of ints, of shelves, the classes' numbers and slots, the addresses, what may be changed -/
abbrev WPar : Type := ClassId × ClassId × va_G × (AR → Nat) × (Nat → Prop)
def gT : List Cond := lw_tbl.filter goodWord
def gNest : Cond → Bool
  | .fieldLinkNest .. => true
  | _ => false
def gN : List Cond := lw_tbl.filter gNest
theorem gT_in {w : Cond} (i : Nat) (h : lw_tbl[i]? = some w) (hg : goodWord w = true) : w ∈ gT := List.mem_filter.mpr ⟨List.mem_of_getElem? h, hg⟩
theorem gN_in {w : Cond} (i : Nat) (h : lw_tbl[i]? = some w) (hg : gNest w = true) : w ∈ gN := List.mem_filter.mpr ⟨List.mem_of_getElem? h, hg⟩
theorem gT_good : GoodIn gT gT := fun w h => ⟨h, good_of_word (List.mem_filter.mp h).2⟩
theorem gN_warm {s U : State} (hW : s.WarmedH U.vm) : ∀ w ∈ gN, va_Nw w s → va_Nw w U := by
  intro w hw h
  have hg := (List.mem_filter.mp hw).2
  cases w <;> first | (simp [gNest] at hg; done) | exact va_Nw.warmF hW h
/-- field k of an object: the part that it names for good, if it is a reference -/
def refF (c i k : Nat) : Option AR := match c with
  | 0 => match k with
    | 0 => some (2, 3, 0) | 1 => some (0, 0, 2) | 2 => some (0, 0, 3) | _ => none
  | 1 => match k with
    | 0 => some (1, 0, 1) | _ => none
  | 2 => match k with
    | 0 => some (2, i, 1) | 1 => some (2, i, 2) | 2 => some (2, i, 3) | 3 => some (2, i, 4) | 4 => some (2, i, 5) | 5 => some (2, i, 6) | 6 => some (2, i, 7) | _ => none
  | 3 => match k with
    | 0 => some (3, 0, 1) | _ => none
  | 4 => match k with
    | 0 => some (2, 0, 0) | 1 => some (2, 1, 0) | 2 => some (2, 2, 0) | 3 => some (1, 0, 0) | 4 => some (0, 0, 0) | 5 => some (3, 0, 0) | 6 => some (4, 0, 7) | 7 => some (4, 0, 8) | _ => none
  | 5 => match k with
    | 0 => some (5, 0, 1) | 1 => some (5, 0, 2) | 2 => some (5, 0, 3) | 3 => some (5, 0, 4) | 4 => some (5, 0, 5) | 5 => some (5, 0, 6) | 6 => some (5, 0, 7)
    | 11 => some (5, 0, 12) | 12 => some (5, 0, 13) | 13 => some (5, 0, 14) | 14 => some (5, 0, 15) | 18 => some (5, 0, 19) | 23 => some (5, 0, 24) | 25 => some (5, 0, 26) | _ => none
  | _ => none
/-- 1: an int, 2: a boolean, 0: a reference -/
def fkind (c k : Nat) : Nat := match c with
  | 4 => if k = 9 then 2 else if k = 8 then 1 else 0
  | 5 => if k = 19 then 2 else if k = 20 then 2 else if (refF 5 0 k).isSome then 0 else 1
  | c => if (refF c 0 k).isSome then 0 else 1
def nF (c : Nat) : Nat := match c with
  | 0 => 3 | 1 => 3 | 2 => 13 | 3 => 2 | 4 => 10 | 5 => 27 | _ => 0
/-- the int arrays' lengths -/
def alen (c j : Nat) : Option Nat := match c with
  | 0 => match j with
    | 2 => some 4 | 3 => some 4 | _ => none
  | 2 => match j with
    | 1 => some 8 | 2 => some 8 | 3 => some 8 | 4 => some 8 | 5 => some 8 | 6 => some 8 | 7 => some 8 | _ => none
  | 3 => match j with
    | 1 => some 96 | _ => none
  | 4 => match j with
    | 7 => some 12 | 8 => some 7 | _ => none
  | 5 => match j with
    | 1 => some 7 | 2 => some 8 | 3 => some 8 | 4 => some 8 | 5 => some 8 | 6 => some 8 | 7 => some 8 | 12 => some 96 | 13 => some 48 | 14 => some 48 | 15 => some 144 | 19 => some 572 | 24 => some 12 | 26 => some 8 | _ => none
  | _ => none
/-- also the script's (6, 0, 1), whose length is the int (6, 0, 0, 0) -/
def alenS (σ : St) (c j : Nat) : Option Nat := match c with
  | 6 => match j with
    | 1 => some (σ 6 0 0 0).toNatClampNeg
    | _ => none
  | c => alen c j
def domS (i : Nat) : List AR := [(2, i, 0), (2, i, 1), (2, i, 2), (2, i, 3), (2, i, 4), (2, i, 5), (2, i, 6), (2, i, 7)]
def domL : List AR := [(0, 0, 0), (0, 0, 2), (0, 0, 3), (1, 0, 0), (1, 0, 1), (3, 0, 0), (3, 0, 1), (4, 0, 0), (4, 0, 7), (4, 0, 8), (5, 0, 0), (5, 0, 1), (5, 0, 2), (5, 0, 3), (5, 0, 4), (5, 0, 5), (5, 0, 6), (5, 0, 7), (5, 0, 12), (5, 0, 13), (5, 0, 14), (5, 0, 15), (5, 0, 19), (5, 0, 24), (5, 0, 26)] ++ (List.range 12).flatMap domS
def vOK : AV → Prop
  | .inl _ => True
  | .inr (.inl _) => True
  | .inr (.inr r) => r ∈ domL ∨ r = (6, 0, 1)
def cv (ρ : AR → Nat) : AV → Value
  | .inl x => .int x
  | .inr (.inl x) => .long x
  | .inr (.inr r) => .ref (ρ r)
def isL : AV → Bool
  | .inr (.inl _) => true
  | _ => false
def setM (σ : St) (c i j k : Nat) (v : Int32) : St := fun c' i' j' k' => if c' = c ∧ i' = i ∧ j' = j ∧ k' = k then v else σ c' i' j' k'
def cpyM (σ : St) (c i j c2 i2 j2 n : Nat) : St := fun c' i' j' k' => if c' = c2 ∧ i' = i2 ∧ j' = j2 ∧ k' < n then σ c i j k' else σ c' i' j' k'
def fv (ρ : AR → Nat) (σ : St) (c i k : Nat) : Value := match refF c i k with
  | some r => .ref (ρ r)
  | none => .int (σ c i 0 k)
def cellOf (G : WPar) (σ : St) (r : AR) : va_E := match r.2.2 with
  | 0 => .inr (r.1, (List.range (nF r.1)).map (fv G.2.2.2.1 σ r.1 r.2.1))
  | j + 1 => match alen r.1 (j + 1) with
    | some n => .inl (G.1, n, .inl (σ r.1 r.2.1 (j + 1)))
    | none => .inl (G.2.1, 8, .inr (.inr (.inr (.inr (fun n => some (G.2.2.2.1 (2, 4 + n, 0)))))))
def wsG (G : WPar) (σ : St) : va_W := domL.map (fun r => (G.2.2.2.1 r, cellOf G σ r))
def tysG (G : WPar) : List (ClassId × FieldType) := [(G.1, .int), (G.2.1, .object "GingerArmy$Shelf")]
/-- the script's cell -/
def scrG (G : WPar) (σ : St) (U : State) : Prop := ∃ L : Nat, L ≤ 2560 ∧ σ 6 0 0 0 = nI L ∧ va_X (G.2.2.2.1 (6, 0, 1)) L (σ 6 0 1) U U.heap ∧ G.2.2.2.1 (6, 0, 1) < U.heap.size ∧ ¬ G.2.2.2.2 (G.2.2.2.1 (6, 0, 1))
def RepG (G : WPar) (σ : St) (U : State) (H : Heap) : Prop := va_P G.2.2.1 gCl (wsG G σ) H ∧ va_D G.2.2.2.2 (wsG G σ) ∧ scrG G σ U
/-- methods as tables -/
abbrev mO (M : MethT) : Nat := M.1
abbrev mC (M : MethT) : List CE := M.2.1
abbrev mB (M : MethT) : ByteArray := M.2.2.1
abbrev mL (M : MethT) : Nat := M.2.2.2.1
abbrev mR (M : MethT) : Option FieldType := M.2.2.2.2.1
abbrev mY (M : MethT) : MethodName := M.2.2.2.2.2
def lkc : List CE → Nat → Option (Instr × Nat × Int32 × Nat × Nat × Nat)
  | [], _ => none
  | e :: t, pc => match Nat.beq e.1 pc with
    | true => some e.2
    | false => lkc t pc
def lkL : List (Nat × AV) → Nat → Option AV
  | [], _ => none
  | e :: t, i => match Nat.beq e.1 i with
    | true => some e.2
    | false => lkL t i
def stI : List (Nat × AV) → Nat → List (Nat × AV)
  | [], _ => []
  | e :: t, i => match Nat.beq e.1 i || (Nat.beq (e.1 + 1) i && isL e.2) with
    | true => stI t i
    | false => e :: stI t i
def icP (cd : ClassFile.Cond) (x y : Int32) : Prop := match cd with
  | .eq => x = y | .ne => ¬ x = y | .lt => x < y | .ge => y ≤ x | .gt => y < x | .le => x ≤ y
def step1 (cs : List CE) (b : Bool) (c : Cfg) : Option (Cfg × Option Prop × Bool) :=
  match lkc cs c.1 with
  | none => none
  | some (ins, len, v, n1, n2, _) => match ins with
    | .iconst _ => some ((c.1 + len, c.2.1, .inl v :: c.2.2.1, c.2.2.2), none, false)
    | .bipush _ => some ((c.1 + len, c.2.1, .inl v :: c.2.2.1, c.2.2.2), none, false)
    | .sipush _ => some ((c.1 + len, c.2.1, .inl v :: c.2.2.1, c.2.2.2), none, false)
    | .ldc _ => some ((c.1 + len, c.2.1, .inl v :: c.2.2.1, c.2.2.2), none, false)
    | .ldc_w _ => some ((c.1 + len, c.2.1, .inl v :: c.2.2.1, c.2.2.2), none, false)
    | .lconst _ => some ((c.1 + len, c.2.1, .inr (.inl (Int64.ofNat n1)) :: c.2.2.1, c.2.2.2), none, false)
    | .ldc2_w _ => some ((c.1 + len, c.2.1, .inr (.inl (Int64.ofNat n1)) :: c.2.2.1, c.2.2.2), none, false)
    | .iload_n k => match lkL c.2.1 k with
      | some (.inl x) => some ((c.1 + len, c.2.1, .inl x :: c.2.2.1, c.2.2.2), none, false)
      | _ => none
    | .iload k => match lkL c.2.1 k with
      | some (.inl x) => some ((c.1 + len, c.2.1, .inl x :: c.2.2.1, c.2.2.2), none, false)
      | _ => none
    | .lload_n k => match lkL c.2.1 k with
      | some (.inr (.inl x)) => some ((c.1 + len, c.2.1, .inr (.inl x) :: c.2.2.1, c.2.2.2), none, false)
      | _ => none
    | .lload k => match lkL c.2.1 k with
      | some (.inr (.inl x)) => some ((c.1 + len, c.2.1, .inr (.inl x) :: c.2.2.1, c.2.2.2), none, false)
      | _ => none
    | .aload_n k => match lkL c.2.1 k with
      | some (.inr (.inr r)) => some ((c.1 + len, c.2.1, .inr (.inr r) :: c.2.2.1, c.2.2.2), none, false)
      | _ => none
    | .aload k => match lkL c.2.1 k with
      | some (.inr (.inr r)) => some ((c.1 + len, c.2.1, .inr (.inr r) :: c.2.2.1, c.2.2.2), none, false)
      | _ => none
    | .istore_n k => match c.2.2.1 with
      | .inl x :: r => some ((c.1 + len, (k.val, .inl x) :: stI c.2.1 k.val, r, c.2.2.2), none, false)
      | _ => none
    | .istore k => match c.2.2.1 with
      | .inl x :: r => some ((c.1 + len, (k, .inl x) :: stI c.2.1 k, r, c.2.2.2), none, false)
      | _ => none
    | .astore_n k => match c.2.2.1 with
      | .inr (.inr x) :: r => some ((c.1 + len, (k.val, .inr (.inr x)) :: stI c.2.1 k.val, r, c.2.2.2), none, false)
      | _ => none
    | .astore k => match c.2.2.1 with
      | .inr (.inr x) :: r => some ((c.1 + len, (k, .inr (.inr x)) :: stI c.2.1 k, r, c.2.2.2), none, false)
      | _ => none
    | .lstore_n k => match c.2.2.1 with
      | .inr (.inl x) :: r => some ((c.1 + len, (k.val, .inr (.inl x)) :: stI (stI c.2.1 k.val) (k.val + 1), r, c.2.2.2), none, false)
      | _ => none
    | .lstore k => match c.2.2.1 with
      | .inr (.inl x) :: r => some ((c.1 + len, (k, .inr (.inl x)) :: stI (stI c.2.1 k) (k + 1), r, c.2.2.2), none, false)
      | _ => none
    | .iinc k _ => match lkL c.2.1 k with
      | some (.inl x) => some ((c.1 + len, (k, .inl (x + v)) :: stI c.2.1 k, c.2.2.1, c.2.2.2), none, false)
      | _ => none
    | .iadd => match c.2.2.1 with
      | .inl y :: .inl x :: r => some ((c.1 + len, c.2.1, .inl (x + y) :: r, c.2.2.2), none, false)
      | _ => none
    | .isub => match c.2.2.1 with
      | .inl y :: .inl x :: r => some ((c.1 + len, c.2.1, .inl (x - y) :: r, c.2.2.2), none, false)
      | _ => none
    | .imul => match c.2.2.1 with
      | .inl y :: .inl x :: r => some ((c.1 + len, c.2.1, .inl (x * y) :: r, c.2.2.2), none, false)
      | _ => none
    | .idiv => match c.2.2.1 with
      | .inl y :: .inl x :: r => some ((c.1 + len, c.2.1, .inl (x / y) :: r, c.2.2.2), some (¬ y = 0), false)
      | _ => none
    | .irem => match c.2.2.1 with
      | .inl y :: .inl x :: r => some ((c.1 + len, c.2.1, .inl (x - x / y * y) :: r, c.2.2.2), some (¬ y = 0), false)
      | _ => none
    | .iand => match c.2.2.1 with
      | .inl y :: .inl x :: r => some ((c.1 + len, c.2.1, .inl (x &&& y) :: r, c.2.2.2), none, false)
      | _ => none
    | .ior => match c.2.2.1 with
      | .inl y :: .inl x :: r => some ((c.1 + len, c.2.1, .inl (x ||| y) :: r, c.2.2.2), none, false)
      | _ => none
    | .ixor => match c.2.2.1 with
      | .inl y :: .inl x :: r => some ((c.1 + len, c.2.1, .inl (x ^^^ y) :: r, c.2.2.2), none, false)
      | _ => none
    | .ishl => match c.2.2.1 with
      | .inl y :: .inl x :: r => some ((c.1 + len, c.2.1, .inl (x <<< (y &&& 31)) :: r, c.2.2.2), none, false)
      | _ => none
    | .ishr => match c.2.2.1 with
      | .inl y :: .inl x :: r => some ((c.1 + len, c.2.1, .inl (x >>> (y &&& 31)) :: r, c.2.2.2), none, false)
      | _ => none
    | .iushr => match c.2.2.1 with
      | .inl y :: .inl x :: r => some ((c.1 + len, c.2.1, .inl ((x.toUInt32 >>> (y.toUInt32 &&& Int32.toUInt32 31)).toInt32) :: r, c.2.2.2), none, false)
      | _ => none
    | .ineg => match c.2.2.1 with
      | .inl x :: r => some ((c.1 + len, c.2.1, .inl (-x) :: r, c.2.2.2), none, false)
      | _ => none
    | .i2l => match c.2.2.1 with
      | .inl x :: r => some ((c.1 + len, c.2.1, .inr (.inl x.toInt64) :: r, c.2.2.2), none, false)
      | _ => none
    | .ladd => match c.2.2.1 with
      | .inr (.inl y) :: .inr (.inl x) :: r => some ((c.1 + len, c.2.1, .inr (.inl (x + y)) :: r, c.2.2.2), none, false)
      | _ => none
    | .lsub => match c.2.2.1 with
      | .inr (.inl y) :: .inr (.inl x) :: r => some ((c.1 + len, c.2.1, .inr (.inl (x - y)) :: r, c.2.2.2), none, false)
      | _ => none
    | .lmul => match c.2.2.1 with
      | .inr (.inl y) :: .inr (.inl x) :: r => some ((c.1 + len, c.2.1, .inr (.inl (x * y)) :: r, c.2.2.2), none, false)
      | _ => none
    | .ldiv => match c.2.2.1 with
      | .inr (.inl y) :: .inr (.inl x) :: r => some ((c.1 + len, c.2.1, .inr (.inl (x / y)) :: r, c.2.2.2), some (¬ y = 0), false)
      | _ => none
    | .lrem => match c.2.2.1 with
      | .inr (.inl y) :: .inr (.inl x) :: r => some ((c.1 + len, c.2.1, .inr (.inl (x - x / y * y)) :: r, c.2.2.2), some (¬ y = 0), false)
      | _ => none
    | .lcmp => match c.2.2.1 with
      | .inr (.inl y) :: .inr (.inl x) :: r => some ((c.1 + len, c.2.1, .inl (lg_cmp x y) :: r, c.2.2.2), none, false)
      | _ => none
    | .dup => match c.2.2.1 with
      | .inl x :: r => some ((c.1 + len, c.2.1, .inl x :: .inl x :: r, c.2.2.2), none, false)
      | .inr (.inr x) :: r => some ((c.1 + len, c.2.1, .inr (.inr x) :: .inr (.inr x) :: r, c.2.2.2), none, false)
      | _ => none
    | .dup2 => match c.2.2.1 with
      | .inl x :: .inr (.inr y) :: r => some ((c.1 + len, c.2.1, .inl x :: .inr (.inr y) :: .inl x :: .inr (.inr y) :: r, c.2.2.2), none, false)
      | _ => none
    | .goto _ => some ((n1, c.2.1, c.2.2.1, c.2.2.2), none, false)
    | .if_icmp cd _ => match c.2.2.1 with
      | .inl y :: .inl x :: r => match b with
        | true => some ((n1, c.2.1, r, c.2.2.2), some (icP cd x y), true)
        | false => some ((c.1 + 3, c.2.1, r, c.2.2.2), some (¬ icP cd x y), true)
      | _ => none
    | .ifCond cd _ => match c.2.2.1 with
      | .inl x :: r => match b with
        | true => some ((n1, c.2.1, r, c.2.2.2), some (icP cd x 0), true)
        | false => some ((c.1 + 3, c.2.1, r, c.2.2.2), some (¬ icP cd x 0), true)
      | _ => none
    | .ifnull _ => match c.2.2.1 with
      | .inr (.inr _) :: r => some ((c.1 + 3, c.2.1, r, c.2.2.2), none, false)
      | _ => none
    | .ifnonnull _ => match c.2.2.1 with
      | .inr (.inr _) :: r => some ((n1, c.2.1, r, c.2.2.2), none, false)
      | _ => none
    | .getfield _ => match c.2.2.1 with
      | .inr (.inr (cc, i, 0)) :: r => match Nat.beq cc n1 with
        | true => match refF n1 i n2 with
          | some q => some ((c.1 + len, c.2.1, .inr (.inr q) :: r, c.2.2.2), none, false)
          | none => some ((c.1 + len, c.2.1, .inl (c.2.2.2 n1 i 0 n2) :: r, c.2.2.2), none, false)
        | false => none
      | _ => none
    | .putfield _ => match c.2.2.1 with
      | .inl x :: .inr (.inr (cc, i, 0)) :: r => match Nat.beq cc n1 with
        | true => match fkind n1 n2 with
          | 1 => some ((c.1 + len, c.2.1, r, setM c.2.2.2 n1 i 0 n2 x), none, false)
          | 2 => some ((c.1 + len, c.2.1, r, setM c.2.2.2 n1 i 0 n2 x), some (x = 0 ∨ x = 1), false)
          | _ => none
        | false => none
      | _ => none
    | .iaload => match c.2.2.1 with
      | .inl x :: .inr (.inr (cc, i, j)) :: r => match alenS c.2.2.2 cc j with
        | some n => some ((c.1 + len, c.2.1, .inl (c.2.2.2 cc i j x.toNatClampNeg) :: r, c.2.2.2), some (vp_in x n), false)
        | none => none
      | _ => none
    | .iastore => match c.2.2.1 with
      | .inl v2 :: .inl x :: .inr (.inr (cc, i, j)) :: r => match alen cc j with
        | some n => some ((c.1 + len, c.2.1, r, setM c.2.2.2 cc i j x.toNatClampNeg v2), some (vp_in x n), false)
        | none => none
      | _ => none
    | .arraylength => match c.2.2.1 with
      | .inr (.inr (cc, _, j)) :: r => match alenS c.2.2.2 cc j with
        | some n => some ((c.1 + len, c.2.1, .inl (Int32.ofNat n) :: r, c.2.2.2), none, false)
        | none => none
      | _ => none
    | .aaload => match c.2.2.1 with
      | .inl x :: .inr (.inr (1, _, 1)) :: r => some ((c.1 + len, c.2.1, .inr (.inr (2, 4 + x.toNatClampNeg, 0)) :: r, c.2.2.2), some (vp_in x 8), false)
      | _ => none
    | _ => none
/-- a path: n instructions, the branches' turns given; what must hold on the way -/
def run (cs : List CE) : Nat → List Bool → Cfg → Option (Cfg × List Prop)
  | 0, _, c => some (c, [])
  | n + 1, bs, c => match step1 cs (bs.headD false) c with
    | none => none
    | some (c1, P1, u) => match run cs n (match u with | true => bs.tail | false => bs) c1 with
      | none => none
      | some (c2, P2) => some (c2, match P1 with | none => P2 | some q => q :: P2)
def allP : List Prop → Prop
  | [] => True
  | [q] => q
  | q :: t => q ∧ allP t
/-- what a row of a method's table must be -/
def fldOf (o i : Nat) : Option (Nat × Nat × Nat) := (fldL.find? fun e => e.1 == o && e.2.1 == i).map fun e => e.2.2
def ceOK (o : Nat) (bs : ByteArray) (e : CE) : Bool :=
  decide (decode bs e.1 = .ok (e.2.1, e.2.2.1)) && match e.2.1 with
    | .iconst n => decide (e.2.2.1 = 1 ∧ Int32.ofInt n = e.2.2.2.1)
    | .bipush n => decide (e.2.2.1 = 2 ∧ (Int8.ofInt n).toInt32 = e.2.2.2.1)
    | .sipush n => decide (e.2.2.1 = 3 ∧ (Int16.ofInt n).toInt32 = e.2.2.2.1)
    | .ldc i => decide (e.2.2.1 = 2 ∧ (o, i, e.2.2.2.1) ∈ cstL)
    | .ldc_w i => decide (e.2.2.1 = 3 ∧ (o, i, e.2.2.2.1) ∈ cstL)
    | .ldc2_w i => decide (e.2.2.1 = 3 ∧ (o, i, e.2.2.2.2.1) ∈ cs2L)
    | .lconst n => decide (e.2.2.1 = 1 ∧ n.val = e.2.2.2.2.1)
    | .iload _ => decide (e.2.2.1 = 2)
    | .lload _ => decide (e.2.2.1 = 2)
    | .aload _ => decide (e.2.2.1 = 2)
    | .istore _ => decide (e.2.2.1 = 2)
    | .lstore _ => decide (e.2.2.1 = 2)
    | .astore _ => decide (e.2.2.1 = 2)
    | .iinc _ n => decide (e.2.2.1 = 3 ∧ Int32.ofInt n = e.2.2.2.1)
    | .goto n => decide (e.2.2.1 = 3 ∧ (e.1 : Int) + n = (e.2.2.2.2.1 : Int))
    | .if_icmp _ n => decide (e.2.2.1 = 3 ∧ (e.1 : Int) + n = (e.2.2.2.2.1 : Int))
    | .ifCond _ n => decide (e.2.2.1 = 3 ∧ (e.1 : Int) + n = (e.2.2.2.2.1 : Int))
    | .ifnull n => decide (e.2.2.1 = 3 ∧ (e.1 : Int) + n = (e.2.2.2.2.1 : Int))
    | .ifnonnull n => decide (e.2.2.1 = 3 ∧ (e.1 : Int) + n = (e.2.2.2.2.1 : Int))
    | .getfield i => decide (e.2.2.1 = 3 ∧ (o, i, e.2.2.2.2.1, e.2.2.2.2.2.1, e.2.2.2.2.2.2) ∈ fldL)
    | .putfield i => decide (e.2.2.1 = 3 ∧ (o, i, e.2.2.2.2.1, e.2.2.2.2.2.1, e.2.2.2.2.2.2) ∈ fldL)
    | .invokevirtual _ => decide (e.2.2.1 = 3)
    | .invokestatic _ => decide (e.2.2.1 = 3)
    | .invokespecial _ => decide (e.2.2.1 = 3)
    | .tableswitch .. => true
    | .lookupswitch .. => true
    | .new _ => true
    | .newarray _ => true
    | .anewarray _ => true
    | _ => decide (e.2.2.1 = 1)
