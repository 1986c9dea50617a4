/-! THE ABSTRACT STEP IS THE MACHINE'S -/
theorem wsG_at {G : WPar} {σ : St} {r : AR} (h : r ∈ domL) : ∃ q0 : Nat, domL[q0]? = some r ∧ (wsG G σ)[q0]? = some (G.2.2.2.1 r, cellOf G σ r) := by
  obtain ⟨q0, hq⟩ := List.getElem?_of_mem h
  exact ⟨q0, hq, by rw [wsG, List.getElem?_map, hq]; rfl⟩
theorem map_set_one {α β : Type} {f g : α → β} {r : α} : ∀ {l : List α} {q : Nat}, l.Nodup → l[q]? = some r → (∀ r' ∈ l, r' ≠ r → g r' = f r') → (l.map f).set q (g r) = l.map g
  | [], q, _, h, _ => by simp at h
  | x :: l, 0, hn, h, he => by
    simp only [List.getElem?_cons_zero, Option.some.injEq] at h
    subst h
    simp only [List.map_cons, List.set_cons_zero, List.cons.injEq, true_and]
    refine List.map_congr_left fun a ha => (he a (List.mem_cons_of_mem _ ha) (fun e => ?_)).symm
    subst e
    exact (List.nodup_cons.mp hn).1 ha
  | x :: l, q + 1, hn, h, he => by
    simp only [List.getElem?_cons_succ] at h
    simp only [List.map_cons, List.set_cons_succ, List.cons.injEq]
    have hx : x ≠ r := fun e => (List.nodup_cons.mp hn).1 (by rw [e]; exact List.mem_of_getElem? h)
    exact ⟨(he x List.mem_cons_self hx).symm, map_set_one (List.nodup_cons.mp hn).2 h (fun r' hr' hne => he r' (List.mem_cons_of_mem _ hr') hne)⟩
theorem wsG_set {G : WPar} {σ σ' : St} {r : AR} {q0 : Nat} (h : domL[q0]? = some r) (he : ∀ r' ∈ domL, r' ≠ r → cellOf G σ' r' = cellOf G σ r') : (wsG G σ).set q0 (G.2.2.2.1 r, cellOf G σ' r) = wsG G σ' :=
  map_set_one (f := fun r => (G.2.2.2.1 r, cellOf G σ r)) (g := fun r => (G.2.2.2.1 r, cellOf G σ' r)) domL_nodup h (fun r' hr' hne => by show (_, _) = (_, _); rw [he r' hr' hne])
theorem cellOf_obj {G : WPar} {σ : St} {c i : Nat} : cellOf G σ (c, i, 0) = .inr (c, (List.range (nF c)).map (fv G.2.2.2.1 σ c i)) := rfl
theorem cellOf_arr {G : WPar} {σ : St} {c i j n : Nat} (h : alen c j = some n) : cellOf G σ (c, i, j) = .inl (G.1, n, .inl (σ c i j)) := by
  cases j with
  | zero => exfalso; unfold alen at h; split at h <;> simp at h
  | succ j => simp only [cellOf, h]
theorem cellOf_congr {G : WPar} {σ σ' : St} {r : AR} (h : ∀ k, σ' r.1 r.2.1 r.2.2 k = σ r.1 r.2.1 r.2.2 k) : cellOf G σ' r = cellOf G σ r := by
  obtain ⟨c, i, j⟩ := r
  cases j with
  | zero =>
    rw [cellOf_obj, cellOf_obj]
    have e : fv G.2.2.2.1 σ' c i = fv G.2.2.2.1 σ c i := by
      funext k
      have := h k
      dsimp only at this
      simp only [fv, this]
    rw [e]
  | succ j =>
    have e : σ' c i (j + 1) = σ c i (j + 1) := funext h
    simp only [cellOf, e]
theorem setM_ne {σ : St} {c i j k : Nat} {v : Int32} {r : AR} (h : r ≠ (c, i, j)) (k' : Nat) : setM σ c i j k v r.1 r.2.1 r.2.2 k' = σ r.1 r.2.1 r.2.2 k' := by
  unfold setM
  rw [if_neg]
  rintro ⟨h1, h2, h3, -⟩
  exact h (by rw [← h1, ← h2, ← h3])
theorem setM_arr {σ : St} {c i j k : Nat} {v : Int32} : setM σ c i j k v c i j = upd (σ c i j) k v := by
  funext k'
  simp [setM, upd]
theorem alen_lt {c j n : Nat} (h : alen c j = some n) : c < 6 := by
  unfold alen at h
  split at h <;> first | omega | simp at h
theorem scrG_set {G : WPar} {σ σ' : St} {U : State} (h : scrG G σ U) (h0 : σ' 6 = σ 6) : scrG G σ' U := by
  obtain ⟨L, h1, h2, h3, h4, h5⟩ := h
  exact ⟨L, h1, by rw [h0]; exact h2, by rw [h0]; exact h3, h4, h5⟩
theorem scrG_move {G : WPar} {σ : St} {u U : State} (h : scrG G σ u) (hvm : u.vm.Alike U.vm) (hz : u.heap.size ≤ U.heap.size) (hb : U.heap[G.2.2.2.1 (6, 0, 1)]? = u.heap[G.2.2.2.1 (6, 0, 1)]?) : scrG G σ U := by
  obtain ⟨L, h1, h2, h3, h4, h5⟩ := h
  exact ⟨L, h1, h2, (h3.moved hvm).kept hb, Nat.lt_of_lt_of_le h4 hz, h5⟩
theorem setM_six {σ : St} {c i j k : Nat} {v : Int32} (h : c < 6) : setM σ c i j k v 6 = σ 6 := by
  funext i' j' k'
  simp only [setM]
  rw [if_neg]
  rintro ⟨h1, -⟩
  omega
theorem lv_mono {la : Array Slot} {nL : Nat} {l l' : List (Nat × Value)} (h : lv_has la nL l) (hl : ∀ q ∈ l', q ∈ l) : lv_has la nL l' := ⟨h.1, h.2.1, fun q hq => h.2.2 q (hl q hq)⟩
theorem lkL_mem {v : AV} : ∀ {ls : List (Nat × AV)} {i : Nat}, lkL ls i = some v → (i, v) ∈ ls
  | [], _, h => by simp [lkL] at h
  | e :: t, i, h => by
    unfold lkL at h
    split at h
    · rename_i hb
      have := Nat.eq_of_beq_eq_true hb
      cases h
      subst this
      exact List.mem_cons_self
    · exact List.mem_cons_of_mem _ (lkL_mem h)
theorem lkc_mem {e : Instr × Nat × Int32 × Nat × Nat × Nat} : ∀ {cs : List CE} {pc : Nat}, lkc cs pc = some e → (pc, e) ∈ cs
  | [], _, h => by simp [lkc] at h
  | x :: t, pc, h => by
    unfold lkc at h
    split at h
    · rename_i hb
      have := Nat.eq_of_beq_eq_true hb
      cases h
      subst this
      exact List.mem_cons_self
    · exact List.mem_cons_of_mem _ (lkc_mem h)
def cls (ρ : AR → Nat) (ls : List (Nat × AV)) : List (Nat × Value) := ls.map fun q => (q.1, cv ρ q.2)
theorem cv_cat {ρ : AR → Nat} (v : AV) : ((cv ρ v).category == 2) = isL v := by
  rcases v with x | x | x <;> rfl
theorem stI_cls {ρ : AR → Nat} {i : Nat} : ∀ {ls : List (Nat × AV)}, cls ρ (stI ls i) = (cls ρ ls).filter (fun q => !(q.1 == i) && !(q.1 + 1 == i && q.2.category == 2))
  | [] => rfl
  | e :: t => by
    have hb : ∀ a b : Nat, Nat.beq a b = (a == b) := fun a b => by
      rw [Bool.eq_iff_iff]
      constructor
      · intro h; simp [Nat.eq_of_beq_eq_true h]
      · intro h; have := eq_of_beq h; subst this; exact Nat.beq_refl a
    simp only [stI, cls, List.map_cons, List.filter_cons, cv_cat]
    have ih := stI_cls (ρ := ρ) (i := i) (ls := t)
    simp only [cls] at ih
    rw [hb, hb]
    cases h1 : (e.1 == i) <;> cases h2 : (e.1 + 1 == i && isL e.2) <;> simp [ih]
theorem stI_mem {i : Nat} {q : Nat × AV} : ∀ {ls : List (Nat × AV)}, q ∈ stI ls i → q ∈ ls
  | [], h => h
  | e :: t, h => by
    unfold stI at h
    split at h
    · exact List.mem_cons_of_mem _ (stI_mem h)
    · rcases List.mem_cons.mp h with rfl | h
      · exact List.mem_cons_self
      · exact List.mem_cons_of_mem _ (stI_mem h)
theorem lv_cls {ρ : AR → Nat} {la : Array Slot} {nL i : Nat} {ls : List (Nat × AV)} {v : AV} (h : lv_has la nL (cls ρ ls)) (hi : lkL ls i = some v) : la[i]? = some (.val (cv ρ v)) :=
  h.2.2 (i, cv ρ v) (List.mem_map.mpr ⟨(i, v), lkL_mem hi, rfl⟩)
theorem lv_idx {ρ : AR → Nat} {la : Array Slot} {nL i : Nat} {ls : List (Nat × AV)} {v : AV} (h : lv_has la nL (cls ρ ls)) (hi : lkL ls i = some v) : i < nL := by
  have h1 := lv_cls h hi
  have h2 : i < la.size := (Array.getElem?_eq_some_iff.mp h1).1
  rw [h.1] at h2
  exact h2
/-- a store's place lies within -/
def ixOK (L : Nat) (e : CE) : Bool := match e.2.1 with
  | .istore_n k => decide (k.val < L)
  | .istore k => decide (k < L)
  | .astore_n k => decide (k.val < L)
  | .astore k => decide (k < L)
  | .lstore_n k => decide (k.val + 1 < L)
  | .lstore k => decide (k + 1 < L)
  | _ => true
/-- what a run in a method stands on -/
def Cx (M : MethT) (d : Nat) (G : WPar) (p : Program) (R : Room) (s : State) (m : MethodId) (args : Array Value) (cd : Code) (cells slots : Nat) : Prop :=
  p.tables.exec = Jvm.exec ∧ cd.code = mB M ∧ cd.maxLocals = mL M ∧ s.vm.findClass (ownName (mO M)) = some m.cls ∧ (∀ w ∈ gT, w.before args s = true) ∧ (∀ w ∈ gN, va_Nw w s) ∧ va_K G.2.2.1 gCl (tysG G) s ∧ d ≤ R.frames ∧ 36 * d ≤ R.locals ∧ cells ≤ R.cells ∧ slots ≤ R.slots ∧ (mC M).all (fun e => ceOK (mO M) (mB M) e && ixOK (mL M) e) = true
/-- a return stands at pc -/
def retAt (M : MethT) (pc : Nat) (r : Option AV) : Prop := match r with
  | none => (∃ e, lkc (mC M) pc = some (.return_, e)) ∧ mR M = none
  | some (.inl x) => (∃ e, lkc (mC M) pc = some (.ireturn, e)) ∧ (mR M = some .int ∨ (mR M = some .boolean ∧ (x = 0 ∨ x = 1)))
  | some (.inr (.inl _)) => (∃ e, lkc (mC M) pc = some (.lreturn, e)) ∧ mR M = some .long
  | some (.inr (.inr _)) => (∃ e, lkc (mC M) pc = some (.areturn, e)) ∧ mR M = some (.object "GingerArmy$Shelf")
def AW (M : MethT) (d : Nat) (Q : Option AV → St → Prop) (c : Cfg) : Prop :=
  ∀ (G : WPar) (p : Program) (l : Launch) (e : Env) (R : Room) (s : State) (m : MethodId) (args : Array Value) (below : List Frame) (meth : Method) (cd : Code) (H : Heap) (locs : List Loc) (cells slots : Nat) (la : Array Slot) (QQ : State → Prop),
    Cx M d G p R s m args cd cells slots → RepG G c.2.2.2 s H → va_S G.2.2.2.2 s.heap H locs → lv_has la (mL M) (cls G.2.2.2.1 c.2.1) → (∀ q ∈ c.2.1, vOK q.2) → (∀ v ∈ c.2.2.1, vOK v) →
    (∀ (r : Option AV) (σ' : St) (H' : Heap) (locs' : List Loc) (pc' : Nat) (la' : Array Slot), Q r σ' → (∀ v ∈ r.toList, vOK v) → RepG G σ' s H' → va_S G.2.2.2.2 s.heap H' locs' → retAt M pc' r → la'.size = mL M → W p l e R s m args below meth cd H' locs' cells slots QQ (F0 m pc' la' (r.toList.map (cv G.2.2.2.1)))) →
    W p l e R s m args below meth cd H locs cells slots QQ (F0 m c.1 la (c.2.2.1.map (cv G.2.2.2.1)))
