/-! THE CLAIM OUT OF ONE WALK OF THE LAW'S BODY. Your part is whole_start (and what it stands on); all else here is the same for every law, but numbers. -/
def R_law : String := "GingerArmyLaw"
def lw_P (b : Addr) (xs : List Int32) (args : Array Value) (s : State) : Prop := args = #[.ref b] ∧ s.IntsAt b xs ∧ xs.length ≤ 2560 ∧ (Jvm.Cond.and given_1 narrow_1).before args s = true
def lw_Q (_ : Array Value) (s : State) (o : Outcome) (t : State) : Prop := o = .returned (some (.int 1)) ∧ Framed s o t [] 600000 7302250
def lw_Z (below : List Frame) (a : Array Value) (s : State) : State → Prop := fun t => ∃ o, t.status = .running ∧ Ended t below o ∧ lw_Q a s o t
/-- the law's own end, with 1 on the stack, nothing written that was there before, its room as the claim has it -/
theorem lw_ret {p : Program} {l : Launch} {e : Env} {s : State} {m : MethodId} {below : List Frame} {meth : Method} {c : Code} {b : Nat} (hx : p.tables.exec = Jvm.exec) (hb : c.code = code) (hr : meth.sig.returnType = ret) (hlocks : meth.locks = false) {pc : Nat} {H : Heap} {ls : Array Slot} (hdg : decode code pc = .ok (.ireturn, 1)) : W p l e room_1 s m #[Value.ref b] below meth c H [] 600000 7302250 (lw_Z below #[Value.ref b] s) (F0 m pc ls [.int 1]) := by
  intro T hT X
  obtain ⟨fs, hret, hrun, hended, hW, hframe⟩ := X.leave (v := some (.int 1)) (hlocks := hlocks) (fun h => by rw [hr] at h; cases h)
  have hmeth' : T.vm.method? m = some meth := X.method'
  refine ⟨T.setFrames fs, ?_, .returned (some (.int 1)), hrun, hended, rfl, ⟨_, rfl⟩, hW, hframe⟩
  jvm_step X.here [X.here.top, hx, hb, hdg, hmeth', hr, ret, narrow_b1]
  (try refine ⟨rfl, ?_⟩); (try refine ⟨rfl, ?_⟩)
  first | (intro acts; rw [hret _ acts rfl rfl rfl]) | rw [hret _ _ rfl rfl rfl]
  exact Steps.refl _
/-- what holds at the law's entry: the machine, the code, the tables' words (any of lw_tbl by 'hts w (by decide +kernel)'), the script of L ints xs at the cell b, what the Statement gives of the start (any of its parts by flat_of_before) -/
def lw_At (p : Program) (s : State) (m : MethodId) (meth : Method) (c : Code) (b L : Nat) (xs : Nat → Int32) : Prop :=
  p.tables.exec = Jvm.exec ∧ c.code = code ∧ meth.sig.returnType = ret ∧ c.maxLocals = 4 ∧ s.vm.findClass R_law = some m.cls ∧ (∀ w ∈ lw_tbl, w.before #[Value.ref b] s = true) ∧ va_X b L xs s s.heap ∧ b < s.heap.size ∧ meth.locks = false ∧ (Jvm.Cond.and given_1 narrow_1).before #[Value.ref b] s = true
def rho0 (b q1 q2 : Nat) (u : UArmy) (v : Nat → Nat) : AR → Nat := fun r => match r.1 with
  | 0 => (match r.2.2 with | 0 => u.1 4 | 2 => u.2.2.2.1.1 1 | _ => u.2.2.2.1.1 2)
  | 1 => (match r.2.2 with | 0 => u.1 3 | _ => u.2.2.1.1.1 8)
  | 2 => (match r.2.2 with
    | 0 => (match r.2.1 with | 0 => u.1 0 | 1 => u.1 1 | 2 => u.1 2 | 3 => u.2.2.2.1.1 0 | i + 4 => u.2.2.1.1.1 i)
    | j + 1 => (match r.2.1 with | 0 => u.2.1 0 j | 1 => u.2.1 1 j | 2 => u.2.1 2 j | 3 => u.2.2.2.1.2 j | i + 4 => u.2.2.1.1.2 i j))
  | 3 => (match r.2.2 with | 0 => u.1 5 | _ => u.2.2.2.2 0)
  | 4 => (match r.2.2 with | 0 => q1 | 7 => u.1 6 | _ => u.1 7)
  | 5 => (match r.2.2 with | 0 => q2 | 1 => v 0 | 2 => v 1 | 3 => v 2 | 4 => v 3 | 5 => v 4 | 6 => v 5 | 7 => v 6 | 12 => v 7 | 13 => v 8 | 14 => v 9 | 15 => v 10 | 19 => v 11 | 24 => v 12 | _ => v 13)
  | _ => b
def st0 (L : Nat) (xs : Nat → Int32) : St := fun c _ j k => match c with
  | 2 => (match j with | 0 => (match k with | 10 => 2 | _ => 0) | _ => 0)
  | 5 => (match j with | 0 => (match k with | 8 => 2 | _ => 0) | _ => 0)
  | 6 => (match j with | 0 => nI L | _ => xs k)
  | _ => 0
def sh0 : Sv := (0, (fun _ => 0), (fun _ => 0), (fun _ => 0), (fun _ => 0), (fun _ => false), (fun _ => false), 2, 0, 0)
def gv0 : Gv := (sh0, (0, fun _ => 0), (0, fun _ => 0), (fun _ => 0), (0, fun _ => sh0), none)
theorem none0 {P : Nat → Prop} : ∀ i, i < 0 → P i := fun i h => absurd h (Nat.not_lt_zero i)
theorem sok0 : SOK sh0 := ⟨Nat.zero_le _, fun _ => ⟨Nat.zero_le _, Nat.zero_le _, Nat.zero_le _, Nat.zero_le _⟩, fun _ _ => ⟨rfl, rfl, rfl, rfl, rfl, rfl⟩, (by decide : 2 ≤ 9), Nat.zero_le _⟩
theorem gok0 : GOK gv0 := ⟨⟨⟨sok0, Nat.zero_le _⟩, ⟨Nat.zero_le _, fun _ => Nat.zero_le _⟩, ⟨Nat.zero_le _, fun _ => Nat.zero_le _⟩, ⟨Nat.zero_le _, none0⟩, fun I h => by cases h⟩, fun i j h => Bool.noConfusion (show false = true from h), none0, fun I h => by cases h⟩
theorem repS0 (L : Nat) (xs : Nat → Int32) : RepS (st0 L xs 2 0) sh0 := ⟨⟨(by decide +kernel : (0 : Int32) = nI 0), (by decide +kernel : (0 : Int32) = bI (fun _ => false)), (by decide +kernel : (0 : Int32) = bI (fun _ => false)), (by decide +kernel : (2 : Int32) = nI 2), (by decide +kernel : (0 : Int32) = nI 0), (by decide +kernel : (0 : Int32) = nI 0)⟩, fun i _ => ⟨(by decide +kernel : (0 : Int32) = nI 0), (by decide +kernel : (0 : Int32) = nI 0), (by decide +kernel : (0 : Int32) = nI 0), (by decide +kernel : (0 : Int32) = nI 0)⟩, none0⟩
theorem repA0 (L : Nat) (xs : Nat → Int32) : RepA (st0 L xs) gv0 := ⟨repS0 L xs, ⟨Nat.zero_le _, fun _ => Nat.zero_le _, (by decide +kernel : (0 : Int32) = nI 0), none0⟩, ⟨(by decide +kernel : (0 : Int32) = nI 0), Nat.zero_le _, fun _ => Nat.zero_le _, none0⟩, fun _ _ _ => rfl, ⟨0, by decide, (by decide +kernel : (0 : Int32) = nI 0), (by decide +kernel : (0 : Int32) = nI 0), none0⟩, rfl⟩
theorem repD0 (L : Nat) (xs : Nat → Int32) : RepD (st0 L xs) gv0 := ⟨⟨⟨(by decide +kernel : (0 : Int32) = nI 0), (by decide +kernel : (2 : Int32) = nI 2), (by decide +kernel : (0 : Int32) = nI 0), (by decide +kernel : (0 : Int32) = nI 0)⟩, none0⟩, ⟨(by decide +kernel : (0 : Int32) = nI 0), none0⟩, ⟨⟨Nat.zero_le _, fun _ => Nat.zero_le _⟩, (by decide +kernel : (0 : Int32) = nI 0), none0⟩, fun _ _ _ => rfl, ⟨(by decide +kernel : (0 : Int32) = nI 0), none0⟩, rfl⟩
def flM (cI : ClassId) (u : UArmy) (v : Nat → Nat) (q1 q2 : Nat) (f : Nat → Option Nat) : va_W := [(q1, .inr (4, [.ref (u.1 0), .ref (u.1 1), .ref (u.1 2), .ref (u.1 3), .ref (u.1 4), .ref (u.1 5), .ref (u.1 6), .ref (u.1 7), .int 0, .int 0])), (u.1 0, .inr (2, [.ref (u.2.1 0 0), .ref (u.2.1 0 1), .ref (u.2.1 0 2), .ref (u.2.1 0 3), .ref (u.2.1 0 4), .ref (u.2.1 0 5), .ref (u.2.1 0 6), .int 0, .int 0, .int 0, .int 2, .int 0, .int 0])), (u.2.1 0 0, .inl (cI, 8, .inl (fun _ => 0))), (u.2.1 0 1, .inl (cI, 8, .inl (fun _ => 0))), (u.2.1 0 2, .inl (cI, 8, .inl (fun _ => 0))), (u.2.1 0 3, .inl (cI, 8, .inl (fun _ => 0))), (u.2.1 0 4, .inl (cI, 8, .inl (fun _ => 0))), (u.2.1 0 5, .inl (cI, 8, .inl (fun _ => 0))), (u.2.1 0 6, .inl (cI, 8, .inl (fun _ => 0))), (u.1 1, .inr (2, [.ref (u.2.1 1 0), .ref (u.2.1 1 1), .ref (u.2.1 1 2), .ref (u.2.1 1 3), .ref (u.2.1 1 4), .ref (u.2.1 1 5), .ref (u.2.1 1 6), .int 0, .int 0, .int 0, .int 2, .int 0, .int 0])), (u.2.1 1 0, .inl (cI, 8, .inl (fun _ => 0))), (u.2.1 1 1, .inl (cI, 8, .inl (fun _ => 0))), (u.2.1 1 2, .inl (cI, 8, .inl (fun _ => 0))), (u.2.1 1 3, .inl (cI, 8, .inl (fun _ => 0))), (u.2.1 1 4, .inl (cI, 8, .inl (fun _ => 0))), (u.2.1 1 5, .inl (cI, 8, .inl (fun _ => 0))), (u.2.1 1 6, .inl (cI, 8, .inl (fun _ => 0))), (u.1 2, .inr (2, [.ref (u.2.1 2 0), .ref (u.2.1 2 1), .ref (u.2.1 2 2), .ref (u.2.1 2 3), .ref (u.2.1 2 4), .ref (u.2.1 2 5), .ref (u.2.1 2 6), .int 0, .int 0, .int 0, .int 2, .int 0, .int 0])), (u.2.1 2 0, .inl (cI, 8, .inl (fun _ => 0))), (u.2.1 2 1, .inl (cI, 8, .inl (fun _ => 0))), (u.2.1 2 2, .inl (cI, 8, .inl (fun _ => 0))), (u.2.1 2 3, .inl (cI, 8, .inl (fun _ => 0))), (u.2.1 2 4, .inl (cI, 8, .inl (fun _ => 0))), (u.2.1 2 5, .inl (cI, 8, .inl (fun _ => 0))), (u.2.1 2 6, .inl (cI, 8, .inl (fun _ => 0))), (u.1 3, .inr (1, [.ref (u.2.2.1.1.1 8), .int 0, .int 0])), (u.2.2.1.1.1 8, .inl (u.2.2.1.2, 8, .inr (.inr (.inr (.inr f))))), (u.2.2.1.1.1 0, .inr (2, [.ref (u.2.2.1.1.2 0 0), .ref (u.2.2.1.1.2 0 1), .ref (u.2.2.1.1.2 0 2), .ref (u.2.2.1.1.2 0 3), .ref (u.2.2.1.1.2 0 4), .ref (u.2.2.1.1.2 0 5), .ref (u.2.2.1.1.2 0 6), .int 0, .int 0, .int 0, .int 2, .int 0, .int 0])), (u.2.2.1.1.2 0 0, .inl (cI, 8, .inl (fun _ => 0))), (u.2.2.1.1.2 0 1, .inl (cI, 8, .inl (fun _ => 0))), (u.2.2.1.1.2 0 2, .inl (cI, 8, .inl (fun _ => 0))), (u.2.2.1.1.2 0 3, .inl (cI, 8, .inl (fun _ => 0))), (u.2.2.1.1.2 0 4, .inl (cI, 8, .inl (fun _ => 0))), (u.2.2.1.1.2 0 5, .inl (cI, 8, .inl (fun _ => 0))), (u.2.2.1.1.2 0 6, .inl (cI, 8, .inl (fun _ => 0))), (u.2.2.1.1.1 1, .inr (2, [.ref (u.2.2.1.1.2 1 0), .ref (u.2.2.1.1.2 1 1), .ref (u.2.2.1.1.2 1 2), .ref (u.2.2.1.1.2 1 3), .ref (u.2.2.1.1.2 1 4), .ref (u.2.2.1.1.2 1 5), .ref (u.2.2.1.1.2 1 6), .int 0, .int 0, .int 0, .int 2, .int 0, .int 0])), (u.2.2.1.1.2 1 0, .inl (cI, 8, .inl (fun _ => 0))), (u.2.2.1.1.2 1 1, .inl (cI, 8, .inl (fun _ => 0))), (u.2.2.1.1.2 1 2, .inl (cI, 8, .inl (fun _ => 0))), (u.2.2.1.1.2 1 3, .inl (cI, 8, .inl (fun _ => 0))), (u.2.2.1.1.2 1 4, .inl (cI, 8, .inl (fun _ => 0))), (u.2.2.1.1.2 1 5, .inl (cI, 8, .inl (fun _ => 0))), (u.2.2.1.1.2 1 6, .inl (cI, 8, .inl (fun _ => 0))), (u.2.2.1.1.1 2, .inr (2, [.ref (u.2.2.1.1.2 2 0), .ref (u.2.2.1.1.2 2 1), .ref (u.2.2.1.1.2 2 2), .ref (u.2.2.1.1.2 2 3), .ref (u.2.2.1.1.2 2 4), .ref (u.2.2.1.1.2 2 5), .ref (u.2.2.1.1.2 2 6), .int 0, .int 0, .int 0, .int 2, .int 0, .int 0])), (u.2.2.1.1.2 2 0, .inl (cI, 8, .inl (fun _ => 0))), (u.2.2.1.1.2 2 1, .inl (cI, 8, .inl (fun _ => 0))), (u.2.2.1.1.2 2 2, .inl (cI, 8, .inl (fun _ => 0))), (u.2.2.1.1.2 2 3, .inl (cI, 8, .inl (fun _ => 0))), (u.2.2.1.1.2 2 4, .inl (cI, 8, .inl (fun _ => 0))), (u.2.2.1.1.2 2 5, .inl (cI, 8, .inl (fun _ => 0))), (u.2.2.1.1.2 2 6, .inl (cI, 8, .inl (fun _ => 0))), (u.2.2.1.1.1 3, .inr (2, [.ref (u.2.2.1.1.2 3 0), .ref (u.2.2.1.1.2 3 1), .ref (u.2.2.1.1.2 3 2), .ref (u.2.2.1.1.2 3 3), .ref (u.2.2.1.1.2 3 4), .ref (u.2.2.1.1.2 3 5), .ref (u.2.2.1.1.2 3 6), .int 0, .int 0, .int 0, .int 2, .int 0, .int 0])), (u.2.2.1.1.2 3 0, .inl (cI, 8, .inl (fun _ => 0))), (u.2.2.1.1.2 3 1, .inl (cI, 8, .inl (fun _ => 0))), (u.2.2.1.1.2 3 2, .inl (cI, 8, .inl (fun _ => 0))), (u.2.2.1.1.2 3 3, .inl (cI, 8, .inl (fun _ => 0))), (u.2.2.1.1.2 3 4, .inl (cI, 8, .inl (fun _ => 0))), (u.2.2.1.1.2 3 5, .inl (cI, 8, .inl (fun _ => 0))), (u.2.2.1.1.2 3 6, .inl (cI, 8, .inl (fun _ => 0))), (u.2.2.1.1.1 4, .inr (2, [.ref (u.2.2.1.1.2 4 0), .ref (u.2.2.1.1.2 4 1), .ref (u.2.2.1.1.2 4 2), .ref (u.2.2.1.1.2 4 3), .ref (u.2.2.1.1.2 4 4), .ref (u.2.2.1.1.2 4 5), .ref (u.2.2.1.1.2 4 6), .int 0, .int 0, .int 0, .int 2, .int 0, .int 0])), (u.2.2.1.1.2 4 0, .inl (cI, 8, .inl (fun _ => 0))), (u.2.2.1.1.2 4 1, .inl (cI, 8, .inl (fun _ => 0))), (u.2.2.1.1.2 4 2, .inl (cI, 8, .inl (fun _ => 0))), (u.2.2.1.1.2 4 3, .inl (cI, 8, .inl (fun _ => 0))), (u.2.2.1.1.2 4 4, .inl (cI, 8, .inl (fun _ => 0))), (u.2.2.1.1.2 4 5, .inl (cI, 8, .inl (fun _ => 0))), (u.2.2.1.1.2 4 6, .inl (cI, 8, .inl (fun _ => 0))), (u.2.2.1.1.1 5, .inr (2, [.ref (u.2.2.1.1.2 5 0), .ref (u.2.2.1.1.2 5 1), .ref (u.2.2.1.1.2 5 2), .ref (u.2.2.1.1.2 5 3), .ref (u.2.2.1.1.2 5 4), .ref (u.2.2.1.1.2 5 5), .ref (u.2.2.1.1.2 5 6), .int 0, .int 0, .int 0, .int 2, .int 0, .int 0])), (u.2.2.1.1.2 5 0, .inl (cI, 8, .inl (fun _ => 0))), (u.2.2.1.1.2 5 1, .inl (cI, 8, .inl (fun _ => 0))), (u.2.2.1.1.2 5 2, .inl (cI, 8, .inl (fun _ => 0))), (u.2.2.1.1.2 5 3, .inl (cI, 8, .inl (fun _ => 0))), (u.2.2.1.1.2 5 4, .inl (cI, 8, .inl (fun _ => 0))), (u.2.2.1.1.2 5 5, .inl (cI, 8, .inl (fun _ => 0))), (u.2.2.1.1.2 5 6, .inl (cI, 8, .inl (fun _ => 0))), (u.2.2.1.1.1 6, .inr (2, [.ref (u.2.2.1.1.2 6 0), .ref (u.2.2.1.1.2 6 1), .ref (u.2.2.1.1.2 6 2), .ref (u.2.2.1.1.2 6 3), .ref (u.2.2.1.1.2 6 4), .ref (u.2.2.1.1.2 6 5), .ref (u.2.2.1.1.2 6 6), .int 0, .int 0, .int 0, .int 2, .int 0, .int 0])), (u.2.2.1.1.2 6 0, .inl (cI, 8, .inl (fun _ => 0))), (u.2.2.1.1.2 6 1, .inl (cI, 8, .inl (fun _ => 0))), (u.2.2.1.1.2 6 2, .inl (cI, 8, .inl (fun _ => 0))), (u.2.2.1.1.2 6 3, .inl (cI, 8, .inl (fun _ => 0))), (u.2.2.1.1.2 6 4, .inl (cI, 8, .inl (fun _ => 0))), (u.2.2.1.1.2 6 5, .inl (cI, 8, .inl (fun _ => 0))), (u.2.2.1.1.2 6 6, .inl (cI, 8, .inl (fun _ => 0))), (u.2.2.1.1.1 7, .inr (2, [.ref (u.2.2.1.1.2 7 0), .ref (u.2.2.1.1.2 7 1), .ref (u.2.2.1.1.2 7 2), .ref (u.2.2.1.1.2 7 3), .ref (u.2.2.1.1.2 7 4), .ref (u.2.2.1.1.2 7 5), .ref (u.2.2.1.1.2 7 6), .int 0, .int 0, .int 0, .int 2, .int 0, .int 0])), (u.2.2.1.1.2 7 0, .inl (cI, 8, .inl (fun _ => 0))), (u.2.2.1.1.2 7 1, .inl (cI, 8, .inl (fun _ => 0))), (u.2.2.1.1.2 7 2, .inl (cI, 8, .inl (fun _ => 0))), (u.2.2.1.1.2 7 3, .inl (cI, 8, .inl (fun _ => 0))), (u.2.2.1.1.2 7 4, .inl (cI, 8, .inl (fun _ => 0))), (u.2.2.1.1.2 7 5, .inl (cI, 8, .inl (fun _ => 0))), (u.2.2.1.1.2 7 6, .inl (cI, 8, .inl (fun _ => 0))), (u.1 4, .inr (0, [.ref (u.2.2.2.1.1 0), .ref (u.2.2.2.1.1 1), .ref (u.2.2.2.1.1 2)])), (u.2.2.2.1.1 0, .inr (2, [.ref (u.2.2.2.1.2 0), .ref (u.2.2.2.1.2 1), .ref (u.2.2.2.1.2 2), .ref (u.2.2.2.1.2 3), .ref (u.2.2.2.1.2 4), .ref (u.2.2.2.1.2 5), .ref (u.2.2.2.1.2 6), .int 0, .int 0, .int 0, .int 2, .int 0, .int 0])), (u.2.2.2.1.2 0, .inl (cI, 8, .inl (fun _ => 0))), (u.2.2.2.1.2 1, .inl (cI, 8, .inl (fun _ => 0))), (u.2.2.2.1.2 2, .inl (cI, 8, .inl (fun _ => 0))), (u.2.2.2.1.2 3, .inl (cI, 8, .inl (fun _ => 0))), (u.2.2.2.1.2 4, .inl (cI, 8, .inl (fun _ => 0))), (u.2.2.2.1.2 5, .inl (cI, 8, .inl (fun _ => 0))), (u.2.2.2.1.2 6, .inl (cI, 8, .inl (fun _ => 0))), (u.2.2.2.1.1 1, .inl (cI, 4, .inl (fun _ => 0))), (u.2.2.2.1.1 2, .inl (cI, 4, .inl (fun _ => 0))), (u.1 5, .inr (3, [.ref (u.2.2.2.2 0), .int 0])), (u.2.2.2.2 0, .inl (cI, 96, .inl (fun _ => 0))), (u.1 6, .inl (cI, 12, .inl (fun _ => 0))), (u.1 7, .inl (cI, 7, .inl (fun _ => 0))), (q2, .inr (5, [.ref (v 0), .ref (v 1), .ref (v 2), .ref (v 3), .ref (v 4), .ref (v 5), .ref (v 6), .int 0, .int 2, .int 0, .int 0, .ref (v 7), .ref (v 8), .ref (v 9), .ref (v 10), .int 0, .int 0, .int 0, .ref (v 11), .int 0, .int 0, .int 0, .int 0, .ref (v 12), .int 0, .ref (v 13), .int 0])), (v 0, .inl (cI, 7, .inl (fun _ => 0))), (v 1, .inl (cI, 8, .inl (fun _ => 0))), (v 2, .inl (cI, 8, .inl (fun _ => 0))), (v 3, .inl (cI, 8, .inl (fun _ => 0))), (v 4, .inl (cI, 8, .inl (fun _ => 0))), (v 5, .inl (cI, 8, .inl (fun _ => 0))), (v 6, .inl (cI, 8, .inl (fun _ => 0))), (v 7, .inl (cI, 96, .inl (fun _ => 0))), (v 8, .inl (cI, 48, .inl (fun _ => 0))), (v 9, .inl (cI, 48, .inl (fun _ => 0))), (v 10, .inl (cI, 144, .inl (fun _ => 0))), (v 11, .inl (cI, 572, .inl (fun _ => 0))), (v 12, .inl (cI, 12, .inl (fun _ => 0))), (v 13, .inl (cI, 8, .inl (fun _ => 0)))]
def flD (cI : ClassId) (u : UArmy) (v : Nat → Nat) (q1 q2 : Nat) (f : Nat → Option Nat) : va_W := [(u.1 4, .inr (0, [.ref (u.2.2.2.1.1 0), .ref (u.2.2.2.1.1 1), .ref (u.2.2.2.1.1 2)])), (u.2.2.2.1.1 1, .inl (cI, 4, .inl (fun _ => 0))), (u.2.2.2.1.1 2, .inl (cI, 4, .inl (fun _ => 0))), (u.1 3, .inr (1, [.ref (u.2.2.1.1.1 8), .int 0, .int 0])), (u.2.2.1.1.1 8, .inl (u.2.2.1.2, 8, .inr (.inr (.inr (.inr f))))), (u.1 5, .inr (3, [.ref (u.2.2.2.2 0), .int 0])), (u.2.2.2.2 0, .inl (cI, 96, .inl (fun _ => 0))), (q1, .inr (4, [.ref (u.1 0), .ref (u.1 1), .ref (u.1 2), .ref (u.1 3), .ref (u.1 4), .ref (u.1 5), .ref (u.1 6), .ref (u.1 7), .int 0, .int 0])), (u.1 6, .inl (cI, 12, .inl (fun _ => 0))), (u.1 7, .inl (cI, 7, .inl (fun _ => 0))), (q2, .inr (5, [.ref (v 0), .ref (v 1), .ref (v 2), .ref (v 3), .ref (v 4), .ref (v 5), .ref (v 6), .int 0, .int 2, .int 0, .int 0, .ref (v 7), .ref (v 8), .ref (v 9), .ref (v 10), .int 0, .int 0, .int 0, .ref (v 11), .int 0, .int 0, .int 0, .int 0, .ref (v 12), .int 0, .ref (v 13), .int 0])), (v 0, .inl (cI, 7, .inl (fun _ => 0))), (v 1, .inl (cI, 8, .inl (fun _ => 0))), (v 2, .inl (cI, 8, .inl (fun _ => 0))), (v 3, .inl (cI, 8, .inl (fun _ => 0))), (v 4, .inl (cI, 8, .inl (fun _ => 0))), (v 5, .inl (cI, 8, .inl (fun _ => 0))), (v 6, .inl (cI, 8, .inl (fun _ => 0))), (v 7, .inl (cI, 96, .inl (fun _ => 0))), (v 8, .inl (cI, 48, .inl (fun _ => 0))), (v 9, .inl (cI, 48, .inl (fun _ => 0))), (v 10, .inl (cI, 144, .inl (fun _ => 0))), (v 11, .inl (cI, 572, .inl (fun _ => 0))), (v 12, .inl (cI, 12, .inl (fun _ => 0))), (v 13, .inl (cI, 8, .inl (fun _ => 0))), (u.1 0, .inr (2, [.ref (u.2.1 0 0), .ref (u.2.1 0 1), .ref (u.2.1 0 2), .ref (u.2.1 0 3), .ref (u.2.1 0 4), .ref (u.2.1 0 5), .ref (u.2.1 0 6), .int 0, .int 0, .int 0, .int 2, .int 0, .int 0])), (u.2.1 0 0, .inl (cI, 8, .inl (fun _ => 0))), (u.2.1 0 1, .inl (cI, 8, .inl (fun _ => 0))), (u.2.1 0 2, .inl (cI, 8, .inl (fun _ => 0))), (u.2.1 0 3, .inl (cI, 8, .inl (fun _ => 0))), (u.2.1 0 4, .inl (cI, 8, .inl (fun _ => 0))), (u.2.1 0 5, .inl (cI, 8, .inl (fun _ => 0))), (u.2.1 0 6, .inl (cI, 8, .inl (fun _ => 0))), (u.1 1, .inr (2, [.ref (u.2.1 1 0), .ref (u.2.1 1 1), .ref (u.2.1 1 2), .ref (u.2.1 1 3), .ref (u.2.1 1 4), .ref (u.2.1 1 5), .ref (u.2.1 1 6), .int 0, .int 0, .int 0, .int 2, .int 0, .int 0])), (u.2.1 1 0, .inl (cI, 8, .inl (fun _ => 0))), (u.2.1 1 1, .inl (cI, 8, .inl (fun _ => 0))), (u.2.1 1 2, .inl (cI, 8, .inl (fun _ => 0))), (u.2.1 1 3, .inl (cI, 8, .inl (fun _ => 0))), (u.2.1 1 4, .inl (cI, 8, .inl (fun _ => 0))), (u.2.1 1 5, .inl (cI, 8, .inl (fun _ => 0))), (u.2.1 1 6, .inl (cI, 8, .inl (fun _ => 0))), (u.1 2, .inr (2, [.ref (u.2.1 2 0), .ref (u.2.1 2 1), .ref (u.2.1 2 2), .ref (u.2.1 2 3), .ref (u.2.1 2 4), .ref (u.2.1 2 5), .ref (u.2.1 2 6), .int 0, .int 0, .int 0, .int 2, .int 0, .int 0])), (u.2.1 2 0, .inl (cI, 8, .inl (fun _ => 0))), (u.2.1 2 1, .inl (cI, 8, .inl (fun _ => 0))), (u.2.1 2 2, .inl (cI, 8, .inl (fun _ => 0))), (u.2.1 2 3, .inl (cI, 8, .inl (fun _ => 0))), (u.2.1 2 4, .inl (cI, 8, .inl (fun _ => 0))), (u.2.1 2 5, .inl (cI, 8, .inl (fun _ => 0))), (u.2.1 2 6, .inl (cI, 8, .inl (fun _ => 0))), (u.2.2.2.1.1 0, .inr (2, [.ref (u.2.2.2.1.2 0), .ref (u.2.2.2.1.2 1), .ref (u.2.2.2.1.2 2), .ref (u.2.2.2.1.2 3), .ref (u.2.2.2.1.2 4), .ref (u.2.2.2.1.2 5), .ref (u.2.2.2.1.2 6), .int 0, .int 0, .int 0, .int 2, .int 0, .int 0])), (u.2.2.2.1.2 0, .inl (cI, 8, .inl (fun _ => 0))), (u.2.2.2.1.2 1, .inl (cI, 8, .inl (fun _ => 0))), (u.2.2.2.1.2 2, .inl (cI, 8, .inl (fun _ => 0))), (u.2.2.2.1.2 3, .inl (cI, 8, .inl (fun _ => 0))), (u.2.2.2.1.2 4, .inl (cI, 8, .inl (fun _ => 0))), (u.2.2.2.1.2 5, .inl (cI, 8, .inl (fun _ => 0))), (u.2.2.2.1.2 6, .inl (cI, 8, .inl (fun _ => 0))), (u.2.2.1.1.1 0, .inr (2, [.ref (u.2.2.1.1.2 0 0), .ref (u.2.2.1.1.2 0 1), .ref (u.2.2.1.1.2 0 2), .ref (u.2.2.1.1.2 0 3), .ref (u.2.2.1.1.2 0 4), .ref (u.2.2.1.1.2 0 5), .ref (u.2.2.1.1.2 0 6), .int 0, .int 0, .int 0, .int 2, .int 0, .int 0])), (u.2.2.1.1.2 0 0, .inl (cI, 8, .inl (fun _ => 0))), (u.2.2.1.1.2 0 1, .inl (cI, 8, .inl (fun _ => 0))), (u.2.2.1.1.2 0 2, .inl (cI, 8, .inl (fun _ => 0))), (u.2.2.1.1.2 0 3, .inl (cI, 8, .inl (fun _ => 0))), (u.2.2.1.1.2 0 4, .inl (cI, 8, .inl (fun _ => 0))), (u.2.2.1.1.2 0 5, .inl (cI, 8, .inl (fun _ => 0))), (u.2.2.1.1.2 0 6, .inl (cI, 8, .inl (fun _ => 0))), (u.2.2.1.1.1 1, .inr (2, [.ref (u.2.2.1.1.2 1 0), .ref (u.2.2.1.1.2 1 1), .ref (u.2.2.1.1.2 1 2), .ref (u.2.2.1.1.2 1 3), .ref (u.2.2.1.1.2 1 4), .ref (u.2.2.1.1.2 1 5), .ref (u.2.2.1.1.2 1 6), .int 0, .int 0, .int 0, .int 2, .int 0, .int 0])), (u.2.2.1.1.2 1 0, .inl (cI, 8, .inl (fun _ => 0))), (u.2.2.1.1.2 1 1, .inl (cI, 8, .inl (fun _ => 0))), (u.2.2.1.1.2 1 2, .inl (cI, 8, .inl (fun _ => 0))), (u.2.2.1.1.2 1 3, .inl (cI, 8, .inl (fun _ => 0))), (u.2.2.1.1.2 1 4, .inl (cI, 8, .inl (fun _ => 0))), (u.2.2.1.1.2 1 5, .inl (cI, 8, .inl (fun _ => 0))), (u.2.2.1.1.2 1 6, .inl (cI, 8, .inl (fun _ => 0))), (u.2.2.1.1.1 2, .inr (2, [.ref (u.2.2.1.1.2 2 0), .ref (u.2.2.1.1.2 2 1), .ref (u.2.2.1.1.2 2 2), .ref (u.2.2.1.1.2 2 3), .ref (u.2.2.1.1.2 2 4), .ref (u.2.2.1.1.2 2 5), .ref (u.2.2.1.1.2 2 6), .int 0, .int 0, .int 0, .int 2, .int 0, .int 0])), (u.2.2.1.1.2 2 0, .inl (cI, 8, .inl (fun _ => 0))), (u.2.2.1.1.2 2 1, .inl (cI, 8, .inl (fun _ => 0))), (u.2.2.1.1.2 2 2, .inl (cI, 8, .inl (fun _ => 0))), (u.2.2.1.1.2 2 3, .inl (cI, 8, .inl (fun _ => 0))), (u.2.2.1.1.2 2 4, .inl (cI, 8, .inl (fun _ => 0))), (u.2.2.1.1.2 2 5, .inl (cI, 8, .inl (fun _ => 0))), (u.2.2.1.1.2 2 6, .inl (cI, 8, .inl (fun _ => 0))), (u.2.2.1.1.1 3, .inr (2, [.ref (u.2.2.1.1.2 3 0), .ref (u.2.2.1.1.2 3 1), .ref (u.2.2.1.1.2 3 2), .ref (u.2.2.1.1.2 3 3), .ref (u.2.2.1.1.2 3 4), .ref (u.2.2.1.1.2 3 5), .ref (u.2.2.1.1.2 3 6), .int 0, .int 0, .int 0, .int 2, .int 0, .int 0])), (u.2.2.1.1.2 3 0, .inl (cI, 8, .inl (fun _ => 0))), (u.2.2.1.1.2 3 1, .inl (cI, 8, .inl (fun _ => 0))), (u.2.2.1.1.2 3 2, .inl (cI, 8, .inl (fun _ => 0))), (u.2.2.1.1.2 3 3, .inl (cI, 8, .inl (fun _ => 0))), (u.2.2.1.1.2 3 4, .inl (cI, 8, .inl (fun _ => 0))), (u.2.2.1.1.2 3 5, .inl (cI, 8, .inl (fun _ => 0))), (u.2.2.1.1.2 3 6, .inl (cI, 8, .inl (fun _ => 0))), (u.2.2.1.1.1 4, .inr (2, [.ref (u.2.2.1.1.2 4 0), .ref (u.2.2.1.1.2 4 1), .ref (u.2.2.1.1.2 4 2), .ref (u.2.2.1.1.2 4 3), .ref (u.2.2.1.1.2 4 4), .ref (u.2.2.1.1.2 4 5), .ref (u.2.2.1.1.2 4 6), .int 0, .int 0, .int 0, .int 2, .int 0, .int 0])), (u.2.2.1.1.2 4 0, .inl (cI, 8, .inl (fun _ => 0))), (u.2.2.1.1.2 4 1, .inl (cI, 8, .inl (fun _ => 0))), (u.2.2.1.1.2 4 2, .inl (cI, 8, .inl (fun _ => 0))), (u.2.2.1.1.2 4 3, .inl (cI, 8, .inl (fun _ => 0))), (u.2.2.1.1.2 4 4, .inl (cI, 8, .inl (fun _ => 0))), (u.2.2.1.1.2 4 5, .inl (cI, 8, .inl (fun _ => 0))), (u.2.2.1.1.2 4 6, .inl (cI, 8, .inl (fun _ => 0))), (u.2.2.1.1.1 5, .inr (2, [.ref (u.2.2.1.1.2 5 0), .ref (u.2.2.1.1.2 5 1), .ref (u.2.2.1.1.2 5 2), .ref (u.2.2.1.1.2 5 3), .ref (u.2.2.1.1.2 5 4), .ref (u.2.2.1.1.2 5 5), .ref (u.2.2.1.1.2 5 6), .int 0, .int 0, .int 0, .int 2, .int 0, .int 0])), (u.2.2.1.1.2 5 0, .inl (cI, 8, .inl (fun _ => 0))), (u.2.2.1.1.2 5 1, .inl (cI, 8, .inl (fun _ => 0))), (u.2.2.1.1.2 5 2, .inl (cI, 8, .inl (fun _ => 0))), (u.2.2.1.1.2 5 3, .inl (cI, 8, .inl (fun _ => 0))), (u.2.2.1.1.2 5 4, .inl (cI, 8, .inl (fun _ => 0))), (u.2.2.1.1.2 5 5, .inl (cI, 8, .inl (fun _ => 0))), (u.2.2.1.1.2 5 6, .inl (cI, 8, .inl (fun _ => 0))), (u.2.2.1.1.1 6, .inr (2, [.ref (u.2.2.1.1.2 6 0), .ref (u.2.2.1.1.2 6 1), .ref (u.2.2.1.1.2 6 2), .ref (u.2.2.1.1.2 6 3), .ref (u.2.2.1.1.2 6 4), .ref (u.2.2.1.1.2 6 5), .ref (u.2.2.1.1.2 6 6), .int 0, .int 0, .int 0, .int 2, .int 0, .int 0])), (u.2.2.1.1.2 6 0, .inl (cI, 8, .inl (fun _ => 0))), (u.2.2.1.1.2 6 1, .inl (cI, 8, .inl (fun _ => 0))), (u.2.2.1.1.2 6 2, .inl (cI, 8, .inl (fun _ => 0))), (u.2.2.1.1.2 6 3, .inl (cI, 8, .inl (fun _ => 0))), (u.2.2.1.1.2 6 4, .inl (cI, 8, .inl (fun _ => 0))), (u.2.2.1.1.2 6 5, .inl (cI, 8, .inl (fun _ => 0))), (u.2.2.1.1.2 6 6, .inl (cI, 8, .inl (fun _ => 0))), (u.2.2.1.1.1 7, .inr (2, [.ref (u.2.2.1.1.2 7 0), .ref (u.2.2.1.1.2 7 1), .ref (u.2.2.1.1.2 7 2), .ref (u.2.2.1.1.2 7 3), .ref (u.2.2.1.1.2 7 4), .ref (u.2.2.1.1.2 7 5), .ref (u.2.2.1.1.2 7 6), .int 0, .int 0, .int 0, .int 2, .int 0, .int 0])), (u.2.2.1.1.2 7 0, .inl (cI, 8, .inl (fun _ => 0))), (u.2.2.1.1.2 7 1, .inl (cI, 8, .inl (fun _ => 0))), (u.2.2.1.1.2 7 2, .inl (cI, 8, .inl (fun _ => 0))), (u.2.2.1.1.2 7 3, .inl (cI, 8, .inl (fun _ => 0))), (u.2.2.1.1.2 7 4, .inl (cI, 8, .inl (fun _ => 0))), (u.2.2.1.1.2 7 5, .inl (cI, 8, .inl (fun _ => 0))), (u.2.2.1.1.2 7 6, .inl (cI, 8, .inl (fun _ => 0)))]
def ksD : List Nat := [91, 100, 101, 25, 26, 102, 103, 0, 104, 105, 106, 107, 108, 109, 110, 111, 112, 113, 114, 115, 116, 117, 118, 119, 120, 1, 2, 3, 4, 5, 6, 7, 8, 9, 10, 11, 12, 13, 14, 15, 16, 17, 18, 19, 20, 21, 22, 23, 24, 92, 93, 94, 95, 96, 97, 98, 99, 27, 28, 29, 30, 31, 32, 33, 34, 35, 36, 37, 38, 39, 40, 41, 42, 43, 44, 45, 46, 47, 48, 49, 50, 51, 52, 53, 54, 55, 56, 57, 58, 59, 60, 61, 62, 63, 64, 65, 66, 67, 68, 69, 70, 71, 72, 73, 74, 75, 76, 77, 78, 79, 80, 81, 82, 83, 84, 85, 86, 87, 88, 89, 90]
theorem sub2 {ws ws' : va_W} {is : List Nat} (h : is.map (fun i => ws[i]?) = ws'.map some) : is.filterMap (fun i => ws[i]?) = ws' := by
  have h1 : is.filterMap (fun i => ws[i]?) = (is.map (fun i => ws[i]?)).filterMap id := by rw [List.filterMap_map]; rfl
  rw [h1, h, List.filterMap_map]
  exact List.filterMap_some
set_option maxRecDepth 100000 in
theorem flM_nd : va_nd ksD = true := by decide +kernel
set_option maxHeartbeats 4000000 in
set_option maxRecDepth 100000 in
theorem flM_D (cI : ClassId) (u : UArmy) (v : Nat → Nat) (q1 q2 : Nat) (f : Nat → Option Nat) : ksD.map (fun i => (flM cI u v q1 q2 f)[i]?) = (flD cI u v q1 q2 f).map some := rfl
set_option maxHeartbeats 4000000 in
set_option maxRecDepth 100000 in
theorem flD_ws (cI : ClassId) (u : UArmy) (v : Nat → Nat) (b q1 q2 L : Nat) (xs : Nat → Int32) (D : va_G) (A : Nat → Prop) : flD cI u v q1 q2 (fun n => some (rho0 b q1 q2 u v (2, 4 + n, 0))) = wsG (cI, u.2.2.1.2, D, rho0 b q1 q2 u v, A) (st0 L xs) := rfl
set_option maxHeartbeats 4000000 in
set_option maxRecDepth 100000 in
theorem flM_made (cI : ClassId) (u : UArmy) (v : Nat → Nat) (q1 q2 : Nat) : (([] ++ wArmy cI u q1) ++ wModel cI v q2) = flM cI u v q1 q2 (fun n => some (u.2.2.1.1.1 n)) := rfl

theorem all_td {α : Type} (f : α → Bool) (l : List α) (n : Nat) (h1 : (l.take n).all f = true) (h2 : (l.drop n).all f = true) : l.all f = true := by rw [← List.take_append_drop n l, List.all_append, h1, h2]; rfl
set_option maxRecDepth 100000 in
theorem law_ok0 : (((mC ML_law).drop 0).take 40).all (fun e => ceOK (mO ML_law) (mB ML_law) e && ixOK (mL ML_law) e) = true := by decide +kernel
set_option maxRecDepth 100000 in
theorem law_ok1 : (((mC ML_law).drop 40).take 40).all (fun e => ceOK (mO ML_law) (mB ML_law) e && ixOK (mL ML_law) e) = true := by decide +kernel
set_option maxRecDepth 100000 in
theorem law_ok2 : (((mC ML_law).drop 80).take 40).all (fun e => ceOK (mO ML_law) (mB ML_law) e && ixOK (mL ML_law) e) = true := by decide +kernel
set_option maxRecDepth 100000 in
theorem law_ok3 : (((mC ML_law).drop 120).take 40).all (fun e => ceOK (mO ML_law) (mB ML_law) e && ixOK (mL ML_law) e) = true := by decide +kernel
set_option maxRecDepth 100000 in
theorem law_ok4 : (((mC ML_law).drop 160).take 40).all (fun e => ceOK (mO ML_law) (mB ML_law) e && ixOK (mL ML_law) e) = true := by decide +kernel
set_option maxRecDepth 100000 in
theorem law_ok5 : (((mC ML_law).drop 200).take 40).all (fun e => ceOK (mO ML_law) (mB ML_law) e && ixOK (mL ML_law) e) = true := by decide +kernel
set_option maxRecDepth 100000 in
theorem law_ok6 : (((mC ML_law).drop 240).take 40).all (fun e => ceOK (mO ML_law) (mB ML_law) e && ixOK (mL ML_law) e) = true := by decide +kernel
set_option maxRecDepth 100000 in
theorem law_ok7 : (((mC ML_law).drop 280).take 40).all (fun e => ceOK (mO ML_law) (mB ML_law) e && ixOK (mL ML_law) e) = true := by decide +kernel
set_option maxRecDepth 100000 in
theorem law_ok8 : (((mC ML_law).drop 320).take 40).all (fun e => ceOK (mO ML_law) (mB ML_law) e && ixOK (mL ML_law) e) = true := by decide +kernel
set_option maxRecDepth 100000 in
theorem law_ok9 : (((mC ML_law).drop 360).take 40).all (fun e => ceOK (mO ML_law) (mB ML_law) e && ixOK (mL ML_law) e) = true := by decide +kernel
set_option maxRecDepth 100000 in
theorem law_ok10 : (((mC ML_law).drop 400).take 40).all (fun e => ceOK (mO ML_law) (mB ML_law) e && ixOK (mL ML_law) e) = true := by decide +kernel
set_option maxRecDepth 100000 in
theorem law_ok11 : (((mC ML_law).drop 440).take 40).all (fun e => ceOK (mO ML_law) (mB ML_law) e && ixOK (mL ML_law) e) = true := by decide +kernel
set_option maxRecDepth 100000 in
theorem law_ok12 : (((mC ML_law).drop 480).take 40).all (fun e => ceOK (mO ML_law) (mB ML_law) e && ixOK (mL ML_law) e) = true := by decide +kernel
set_option maxRecDepth 100000 in
theorem law_ok13 : (((mC ML_law).drop 520).take 40).all (fun e => ceOK (mO ML_law) (mB ML_law) e && ixOK (mL ML_law) e) = true := by decide +kernel
set_option maxRecDepth 100000 in
theorem law_ok14 : (((mC ML_law).drop 560).take 40).all (fun e => ceOK (mO ML_law) (mB ML_law) e && ixOK (mL ML_law) e) = true := by decide +kernel
set_option maxRecDepth 100000 in
theorem law_ok15 : (((mC ML_law).drop 600).take 40).all (fun e => ceOK (mO ML_law) (mB ML_law) e && ixOK (mL ML_law) e) = true := by decide +kernel
set_option maxRecDepth 100000 in
theorem law_ok16 : (((mC ML_law).drop 640).take 40).all (fun e => ceOK (mO ML_law) (mB ML_law) e && ixOK (mL ML_law) e) = true := by decide +kernel
set_option maxRecDepth 100000 in
theorem law_ok17 : (((mC ML_law).drop 680).take 40).all (fun e => ceOK (mO ML_law) (mB ML_law) e && ixOK (mL ML_law) e) = true := by decide +kernel
set_option maxRecDepth 100000 in
theorem law_ok18 : (((mC ML_law).drop 720).take 40).all (fun e => ceOK (mO ML_law) (mB ML_law) e && ixOK (mL ML_law) e) = true := by decide +kernel
set_option maxRecDepth 100000 in
theorem law_ok19 : (((mC ML_law).drop 760).take 40).all (fun e => ceOK (mO ML_law) (mB ML_law) e && ixOK (mL ML_law) e) = true := by decide +kernel
set_option maxRecDepth 100000 in
theorem law_ok20 : (((mC ML_law).drop 800).take 40).all (fun e => ceOK (mO ML_law) (mB ML_law) e && ixOK (mL ML_law) e) = true := by decide +kernel
set_option maxRecDepth 100000 in
theorem law_ok21 : (((mC ML_law).drop 840).take 40).all (fun e => ceOK (mO ML_law) (mB ML_law) e && ixOK (mL ML_law) e) = true := by decide +kernel
set_option maxRecDepth 100000 in
theorem law_ok22 : (((mC ML_law).drop 880).take 40).all (fun e => ceOK (mO ML_law) (mB ML_law) e && ixOK (mL ML_law) e) = true := by decide +kernel
set_option maxRecDepth 100000 in
theorem law_okE : ((mC ML_law).drop 920).all (fun e => ceOK (mO ML_law) (mB ML_law) e && ixOK (mL ML_law) e) = true := by decide +kernel
theorem law_ok : (mC ML_law).all (fun e => ceOK (mO ML_law) (mB ML_law) e && ixOK (mL ML_law) e) = true := all_td _ _ 40 law_ok0 (all_td _ _ 40 law_ok1 (by rw [List.drop_drop]; exact all_td _ _ 40 law_ok2 (by rw [List.drop_drop]; exact all_td _ _ 40 law_ok3 (by rw [List.drop_drop]; exact all_td _ _ 40 law_ok4 (by rw [List.drop_drop]; exact all_td _ _ 40 law_ok5 (by rw [List.drop_drop]; exact all_td _ _ 40 law_ok6 (by rw [List.drop_drop]; exact all_td _ _ 40 law_ok7 (by rw [List.drop_drop]; exact all_td _ _ 40 law_ok8 (by rw [List.drop_drop]; exact all_td _ _ 40 law_ok9 (by rw [List.drop_drop]; exact all_td _ _ 40 law_ok10 (by rw [List.drop_drop]; exact all_td _ _ 40 law_ok11 (by rw [List.drop_drop]; exact all_td _ _ 40 law_ok12 (by rw [List.drop_drop]; exact all_td _ _ 40 law_ok13 (by rw [List.drop_drop]; exact all_td _ _ 40 law_ok14 (by rw [List.drop_drop]; exact all_td _ _ 40 law_ok15 (by rw [List.drop_drop]; exact all_td _ _ 40 law_ok16 (by rw [List.drop_drop]; exact all_td _ _ 40 law_ok17 (by rw [List.drop_drop]; exact all_td _ _ 40 law_ok18 (by rw [List.drop_drop]; exact all_td _ _ 40 law_ok19 (by rw [List.drop_drop]; exact all_td _ _ 40 law_ok20 (by rw [List.drop_drop]; exact all_td _ _ 40 law_ok21 (by rw [List.drop_drop]; exact all_td _ _ 40 law_ok22 (by rw [List.drop_drop]; exact law_okE)))))))))))))))))))))))
theorem kn_all {s : State} {args : Array Value} (hts : ∀ w ∈ gT, w.before args s = true) : ∃ D : va_G, ∀ (k : Nat) (q : vw_C), gCl[k]? = some q → u_Kn s q.1 q.2.1 q.2.2 (D.1 k) (D.2 k) := by
  obtain ⟨c0, i0, h0⟩ := u_known (C := RX1) (T := TX1) (N := 3) (n := 3) hts inX1 (hts (.instantiable RX1 3) (gT_in 164 (by decide +kernel) rfl))
  obtain ⟨c1, i1, h1⟩ := u_known (C := RX2) (T := TX2) (N := 3) (n := 3) hts inX2 (hts (.instantiable RX2 3) (gT_in 144 (by decide +kernel) rfl))
  obtain ⟨c2, i2, h2⟩ := u_known (C := RX3) (T := TX3) (N := 13) (n := 13) hts inX3 (hts (.instantiable RX3 13) (gT_in 87 (by decide +kernel) rfl))
  obtain ⟨c3, i3, h3⟩ := u_known (C := RX4) (T := TX4) (N := 2) (n := 2) hts inX4 (hts (.instantiable RX4 2) (gT_in 182 (by decide +kernel) rfl))
  obtain ⟨c4, i4, h4⟩ := u_known (C := RX5) (T := TX5) (N := 10) (n := 10) hts inX5 (hts (.instantiable RX5 10) (gT_in 79 (by decide +kernel) rfl))
  obtain ⟨c5, i5, h5⟩ := u_known (C := RX6) (T := TX6) (N := 27) (n := 27) hts inX6 (hts (.instantiable RX6 27) (gT_in 794 (by decide +kernel) rfl))
  refine ⟨(fun k => (match k with | 0 => c0 | 1 => c1 | 2 => c2 | 3 => c3 | 4 => c4 | _ => c5), fun k => (match k with | 0 => i0 | 1 => i1 | 2 => i2 | 3 => i3 | 4 => i4 | _ => i5)), ?_⟩
  intro k q hq
  match k, hq with
  | 0, hq => cases hq; exact h0
  | 1, hq => cases hq; exact h1
  | 2, hq => cases hq; exact h2
  | 3, hq => cases hq; exact h3
  | 4, hq => cases hq; exact h4
  | 5, hq => cases hq; exact h5
  | k + 6, hq => simp [gCl] at hq
set_option maxHeartbeats 4000000 in
set_option maxRecDepth 100000 in
/-- THE LAW, from its entry -/
theorem whole_start {p : Program} {e : Env} {s : State} {m : MethodId} {below : List Frame} {meth : Method} {c : Code} (l : Launch) (hflags : l.flags = flags0) {b L : Nat} {xs : Nat → Int32} (hL : L ≤ 2560) (C0 : lw_At p s m meth c b L xs) : W p l e room_1 s m #[Value.ref b] below meth c s.heap [] 0 0 (lw_Z below #[Value.ref b] s) (entryFrame m ([Value.ref b] : List Value).toArray 4) := by
  obtain ⟨hx, hb, hr, hml, hown0, htw, hX, hbl, hlocks, -⟩ := id C0
  have hown : s.vm.findClass "GingerArmyLaw" = some m.cls := hown0
  have hts : ∀ w ∈ gT, w.before #[Value.ref b] s = true := fun w hw => htw w (List.mem_filter.mp hw).1
  have hnw : ∀ w ∈ gN, va_Nw w s := fun w hw => by
    have h1 := htw w (List.mem_filter.mp hw).1
    have h2 := (List.mem_filter.mp hw).2
    cases w <;> first | (simp [gNest] at h2; done) | exact va_Nw.of rfl h1
  have hAO : va_AO "GingerArmy$Shelf" s := va_AO.of (htw (.arrayOver (.object "GingerArmy$Shelf")) (List.mem_of_getElem? (i := 150) (by decide +kernel)))
  obtain ⟨D, hKn⟩ := kn_all hts
  obtain ⟨cI, kI, cp, hc1, hc2, hc3⟩ := Cond.arrayClass_spec (hts (.arrayClass .int) (gT_in 142 (by decide +kernel) rfl))
  have hK : va_K D gCl ((cI, .int) :: []) s := ⟨hKn, fun k q h => by
    have hz : k < 1 := (List.getElem?_eq_some_iff.mp h).1
    rw [show k = 0 by omega] at h
    cases h
    exact ⟨fun N z => ⟨fun k h => (by cases h), kI, hc2, cp, hc3⟩, hc1⟩⟩
  generalize hAe : (fun q : Nat => s.heap.size ≤ q) = A
  have hA : ∀ q : Nat, s.heap.size ≤ q → A q := fun q h => by rw [← hAe]; exact h
  have hbA : ¬ A b := by rw [← hAe]; exact Nat.not_le.mpr hbl
  have hS : va_S A s.heap s.heap [] := va_S.rf
  have hP : va_P D gCl [] s.heap := fun k q h => by simp at h
  have hD : va_D A [] := ⟨fun i j p q h => by simp at h, fun k q h => by simp at h⟩
  have hl := lv_entry ([.ref b]) (n := 4) (Nat.le_of_ble_eq_true rfl)
  rw [lg_entry_eq]
  generalize (lg_sl ([.ref b]) ++ List.replicate (4 - (lg_sl ([.ref b])).length) Slot.unset).toArray = ls at hl ⊢
  have hl : lv_has ls 4 [(0, .ref b)] := hl
  refine nwO (fs0 := fsX5) (own := "GingerArmyLaw") (C := RX5) (T := TX5) (ty := tyX5) (NF := 10) (y := Y5_init) hx hb hml hown hts (i_X5 l D cI) inX5 tyX5_ok (gT_in 78 (by decide +kernel) rfl) (gT_in 79 (by decide +kernel) rfl) (gT_in 68 (by decide +kernel) rfl) rfl fsX5_ok (gT_in 80 (by decide +kernel) rfl) (gT_in 81 (by decide +kernel) rfl) (gT_in 82 (by decide +kernel) rfl) rfl rfl (by decide +kernel) hK hAO hP hD hS hA (Nat.le_of_ble_eq_true rfl) (Nat.le_of_ble_eq_true rfl) (Nat.le_of_ble_eq_true rfl) (Nat.le_of_ble_eq_true rfl) hl.1 (fun _ => Nat.le_of_ble_eq_true rfl) (by decide +kernel : decode code 0 = .ok (.new 7, 3)) (by decide +kernel : decode code 3 = .ok (.dup, 1)) (by decide +kernel : decode code 4 = .ok (.invokespecial 9, 3)) (fun q1 u H locs hP hD hS hK2 => ?_)
  refine W.widen (k := 106) (n := 977) (Nat.le_of_ble_eq_true rfl) (Nat.le_of_ble_eq_true rfl) ?_
  refine lv_astore_n (lv' := [(1, .ref q1), (0, .ref b)]) hx hb (by decide +kernel : decode code 7 = .ok (.astore_n 1, 1)) rfl hl (by decide) rfl (fun ls hl => ?_)
  refine nwO (fs0 := fsX6) (own := "GingerArmyLaw") (C := RX6) (T := TX6) (ty := tyX6) (NF := 27) (y := Y6_init) hx hb hml hown hts (i_X6 l D cI) inX6 tyX6_ok (gT_in 793 (by decide +kernel) rfl) (gT_in 794 (by decide +kernel) rfl) (gT_in 73 (by decide +kernel) rfl) rfl fsX6_ok (gT_in 795 (by decide +kernel) rfl) (gT_in 796 (by decide +kernel) rfl) (gT_in 797 (by decide +kernel) rfl) rfl rfl (by decide +kernel) hK hAO hP hD hS hA (Nat.le_of_ble_eq_true rfl) (Nat.le_of_ble_eq_true rfl) (Nat.le_of_ble_eq_true rfl) (Nat.le_of_ble_eq_true rfl) hl.1 (fun _ => Nat.le_of_ble_eq_true rfl) (by decide +kernel : decode code 8 = .ok (.new 10, 3)) (by decide +kernel : decode code 11 = .ok (.dup, 1)) (by decide +kernel : decode code 12 = .ok (.invokespecial 12, 3)) (fun q2 v H locs hP hD hS hK9 => ?_)
  refine W.widen (k := 121) (n := 1987) (Nat.le_of_ble_eq_true rfl) (Nat.le_of_ble_eq_true rfl) ?_
  refine lv_astore_n (lv' := [(2, .ref q2), (1, .ref q1), (0, .ref b)]) hx hb (by decide +kernel : decode code 15 = .ok (.astore_n 2, 1)) rfl hl (by decide) rfl (fun ls hl => ?_)
  refine lv_iconst (v := 0) hx hb (by decide +kernel : decode code 16 = .ok (.iconst 0, 1)) (by decide) ?_
  refine lv_istore_n (lv' := [(3, .int 0), (2, .ref q2), (1, .ref q1), (0, .ref b)]) hx hb (by decide +kernel : decode code 17 = .ok (.istore_n 3, 1)) rfl hl (by decide) rfl (fun ls hl => ?_)
  rw [flM_made] at hP hD
  have he : arrV u.2.2.1.2 8 (fun j => va_rf ((fun n => some (u.2.2.1.1.1 n)) j)) = arrV u.2.2.1.2 8 (fun j => va_rf ((fun n => some (rho0 b q1 q2 u v (2, 4 + n, 0))) j)) := arr_cong (fun j hj => match j, hj with | 0, _ => rfl | 1, _ => rfl | 2, _ => rfl | 3, _ => rfl | 4, _ => rfl | 5, _ => rfl | 6, _ => rfl | 7, _ => rfl | k + 8, h9 => absurd h9 (by omega))
  have hc : va_at D gCl (u.2.2.1.1.1 8, .inl (u.2.2.1.2, 8, .inr (.inr (.inr (.inr (fun n => some (rho0 b q1 q2 u v (2, 4 + n, 0)))))))) H := (hP 26 _ rfl).trans (congrArg some he)
  have hP : va_P D gCl (flM cI u v q1 q2 (fun n => some (rho0 b q1 q2 u v (2, 4 + n, 0)))) H := va_P.set (p := 26) hP hD rfl hc (fun _ _ => rfl)
  have hD : va_D A (flM cI u v q1 q2 (fun n => some (rho0 b q1 q2 u v (2, 4 + n, 0)))) := va_D.set (A := A) (p := 26) (a := u.2.2.1.1.1 8) hD rfl
  have hP := hP.sub ksD (sub2 (flM_D cI u v q1 q2 _))
  have hD := hD.sub ksD flM_nd (flM_D cI u v q1 q2 _)
  rw [flD_ws cI u v b q1 q2 L xs D A] at hP hD
  have hRep : RepG (cI, u.2.2.1.2, D, rho0 b q1 q2 u v, A) (st0 L xs) s H := ⟨hP, hD, L, hL, rfl, hX, hbl, hbA⟩
  have hlv : lv_has ls (mL ML_law) (cls (rho0 b q1 q2 u v) (LLS 0)) := lv_sub hl [3, 2, 1, 0] rfl
  have ho : ∀ q ∈ LLS 0, vOK q.2 := by
    intro q hq
    unfold LLS at hq
    simp only [List.mem_cons, List.not_mem_nil, or_false] at hq
    rcases hq with rfl | rfl | rfl | rfl
    · exact Or.inr rfl
    · exact Or.inl (by decide +kernel)
    · exact Or.inl (by decide +kernel)
    · trivial
  have hCx : Cx ML_law 10 (cI, u.2.2.1.2, D, rho0 b q1 q2 u v, A) p room_1 s m #[Value.ref b] c 121 1987 := ⟨hx, hb, hml, hown, hts, hnw, hK2, Nat.le_of_ble_eq_true rfl, Nat.le_of_ble_eq_true rfl, Nat.le_of_ble_eq_true rfl, Nat.le_of_ble_eq_true rfl, law_ok⟩
  refine law_loop hL rfl (repA0 L xs) (repD0 L xs) gok0 _ p l e room_1 s m #[Value.ref b] below meth c H locs 121 1987 ls (lw_Z below #[Value.ref b] s) hCx hRep hS hlv ho (fun v hv => absurd hv List.not_mem_nil) (fun r σ1 H1 locs1 pc1 la1 hQ _ _ hS1 hat _ => ?_)
  obtain ⟨x9, rfl, h9⟩ := hQ
  have h9 : (1 : Int32) = x9 := h9
  subst h9
  obtain ⟨⟨e9, h9⟩, -⟩ := hat
  obtain ⟨hd, hk9⟩ := lk_dec law_ok h9
  have h8 : e9.1 = 1 := by unfold ceOK at hk9; rw [Bool.and_eq_true] at hk9; exact of_decide_eq_true hk9.2
  rw [h8] at hd
  refine W.widen (k := 600000) (n := 7302250) (Nat.le_of_ble_eq_true rfl) (Nat.le_of_ble_eq_true rfl) ?_
  refine va_forget (fun q hq => ?_) ?_
  · have h := hS1.2.2 q hq
    have h : A q.base := h
    rw [← hAe] at h
    exact h
  exact lw_ret hx hb hr hlocks hd
