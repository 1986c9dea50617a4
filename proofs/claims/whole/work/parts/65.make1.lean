/-! WHAT IS MADE: constructors over growing worlds -/
theorem jn {A0 : Nat → Prop} {D : va_G} {cl : List vw_C} {ws wc w1 : va_W} {H H1 : Heap} (hP : va_P D cl (ws ++ wc) H) (hD : va_D A0 (ws ++ wc)) (hk : ∀ q : Nat, q < H.size → ¬ va_A wc H.size q → H1[q]? = H[q]?) (hF : ∀ q, va_A wc H.size q → A0 q) (hP1 : va_P D cl w1 H1) (hD1 : va_D (va_A wc H.size) w1) : va_P D cl (ws ++ w1) H1 ∧ va_D A0 (ws ++ w1) := by
  have hl : ∀ (k : Nat) (q : Nat × va_E), ws[k]? = some q → (ws ++ wc)[k]? = some q := fun k q h => by
    rw [List.getElem?_append_left (List.getElem?_eq_some_iff.mp h).1]; exact h
  have hr : ∀ (k : Nat) (q : Nat × va_E), wc[k]? = some q → (ws ++ wc)[ws.length + k]? = some q := fun k q h => by
    rw [List.getElem?_append_right (Nat.le_add_right _ _), Nat.add_sub_cancel_left]; exact h
  have apart : ∀ (k : Nat) (q : Nat × va_E), ws[k]? = some q → q.1 < H.size ∧ ¬ va_A wc H.size q.1 := by
    intro k q hq
    have hlt := (hP k q (hl k q hq)).lt
    refine ⟨hlt, fun h => ?_⟩
    rcases h with ⟨k2, e, h⟩ | h
    · have h1 := hD.1 k (ws.length + k2) q (q.1, e) (hl k q hq) (hr k2 _ h) rfl
      have h2 := (List.getElem?_eq_some_iff.mp hq).1
      omega
    · omega
  refine ⟨va_P.app (fun k q hq => ?_) hP1, va_D.app ⟨fun i j p q hi hj he => hD.1 i j p q (hl i p hi) (hl j q hj) he, fun k q hq => hD.2 k q (hl k q hq)⟩ (hD1.weaken (fun k q _ h => hF q.1 h)) (fun i j x y hx hy hxy => ?_)⟩
  · obtain ⟨g1, g2⟩ := apart k q hq
    exact (hP k q (hl k q hq)).kept (hk q.1 g1 g2)
  · exact (apart i x hx).2 (by rw [hxy]; exact hD1.2 j y hy)
theorem arr_cong {cA : ClassId} {n : Nat} {f f2 : Nat → Value} (h : ∀ j, j < n → f j = f2 j) : arrV cA n f = arrV cA n f2 := by
  unfold arrV
  have e : (fun j : Fin n => f j.val) = (fun j : Fin n => f2 j.val) := funext fun j => h j.val j.isLt
  rw [e]
/-- a constructor's contract: its cells at addresses of its own -/
def InitC {S : Type} (l : Launch) (y : MethodName) (cY : ByteArray) (nY d mc ms : Nat) (D : va_G) (cI : ClassId) (ci : Nat) (fs0 : List Value) (wY : S → Nat → va_W) (tyY : S → List (ClassId × FieldType)) : Prop :=
  ∀ h0 sz : Nat, Met l y (.code y cY nY none :: gT) ({ frames := d, cells := mc, slots := ms, locals := 36 * d }) (va_Pc [.ref h0] (fun U => U.heap.size = sz ∧ va_P D gCl [(h0, .inr (ci, fs0))] U.heap ∧ va_K D gCl [(cI, .int)] U ∧ va_AO "GingerArmy$Shelf" U ∧ va_D (fun _ => True) [(h0, .inr (ci, fs0))])) (va_Qv (fun _ : S => True) (fun u t => va_P D gCl (wY u h0) t.heap ∧ va_K D gCl ((cI, .int) :: tyY u) t ∧ va_D (va_A [(h0, .inr (ci, fs0))] sz) (wY u h0)) (va_A [(h0, .inr (ci, fs0))] sz)) mc ms (va_A [(h0, .inr (ci, fs0))] sz)
section B
variable {p : Program} {l : Launch} {e : Env} {R : Room} {s : State} {m : MethodId} {args : Array Value} {below : List Frame} {meth : Method} {c : Code} {H : Heap} {locs : List Loc} {cells slots : Nat} {Q : State → Prop} {cc : ByteArray} {pc : Nat} {ls : Array Slot} {rest : List Value} {D : va_G} {A : Nat → Prop} {ws : va_W} {H0 : Heap} {cI : ClassId} {tys : List (ClassId × FieldType)}
/-- a new int array, of the class of all of them -/
theorem nwI (hexec : p.tables.exec = Jvm.exec) (hb : c.code = cc) (harr : (Cond.arrayClass .int).before args s = true) (hK : va_K D gCl ((cI, .int) :: tys) s) (hP : va_P D gCl ws H) (hD : va_D A ws) (hS : va_S A H0 H locs) (hA : ∀ q, H0.size ≤ q → A q) {n : Int32} {N' : Nat} (hn : ¬ n < 0) (hN : n.toNatClampNeg = N') (hbytes : N' * 4 ≤ 536870912) (hcells : cells + 1 ≤ R.cells) (hslots : slots + N' ≤ R.slots) (hdg : decode cc pc = .ok (.newarray .int, 2))
    (kk : ∀ (q : Nat) (H1 : Heap), va_P D gCl (ws ++ [(q, .inl (cI, N', .inl (fun _ => 0)))]) H1 → va_D A (ws ++ [(q, .inl (cI, N', .inl (fun _ => 0)))]) → va_S A H0 H1 locs → W p l e R s m args below meth c H1 locs (cells + 1) (slots + N') Q (F0 m (pc + 2) ls (.ref q :: rest))) : W p l e R s m args below meth c H locs cells slots Q (F0 m pc ls (.int n :: rest)) := by
  refine va_newa (atype := .int) (ty := .int) (a0 := (N', .inl (fun _ => 0))) hexec hb harr rfl hK hP hD hS hA (fun _ => rfl) hn hN hbytes hcells hslots hdg (fun q cA H1 hK1 hP1 hD1 hS1 => ?_)
  have h1 : va_RA s cI .int := (hK.2 0 (cI, .int) rfl).2
  have h2 : va_RA s cA .int := (hK1.2 (tys.length + 1) (cA, .int) (by show (((cI, FieldType.int) :: tys) ++ [(cA, FieldType.int)])[((cI, FieldType.int) :: tys).length]? = _; rw [List.getElem?_append_right (Nat.le_refl _), Nat.sub_self]; rfl)).2
  have e : cA = cI := Option.some.inj (Eq.trans (Eq.symm h2) h1)
  subst e
  exact kk q H1 hP1 hD1 hS1
/-- a new object, its constructor called -/
theorem nwO {S : Type} {cY : ByteArray} {nL nY d mc ms ci NF idx1 idx2 : Nat} {y : MethodName} {fs0 : List Value} {wY : S → Nat → va_W} {tyY : S → List (ClassId × FieldType)} {own C : String} {T : u_T} {ty : Nat → FieldType} (hexec : p.tables.exec = Jvm.exec) (hb : c.code = cc) (hml : c.maxLocals = nL) (hown : s.vm.findClass own = some m.cls) (hts : ∀ w ∈ gT, w.before args s = true)
    (hIC : InitC l y cY nY d mc ms D cI ci fs0 wY tyY) (hin : ∀ w ∈ u_ws C T NF, w ∈ gT) (hty : ∀ k, k < NF → parseFieldDescriptor (T k).2.2.1 = some (ty k)) (hcl : Cond.classLink own idx1 C ∈ gT) (hinst : Cond.instantiable C NF ∈ gT) (hini : Cond.initialized C ∈ gT) (hc : gCl[ci]? = some (C, T, NF)) (hfs : ∀ j, j < NF → defaultValue (ty j) = vp_V fs0 j)
    (hlink : Cond.methodLink own idx2 y ∈ gT) (hinsm : Cond.instanceMethod y ∈ gT) (hcode : Cond.code y cY nY none ∈ gT) (hyC : y.cls = C) (hy1 : y.name = "<init>") (hy : y.cls ≠ "java/lang/invoke/MethodHandle" ∧ y.cls ≠ "java/lang/invoke/VarHandle" ∧ (parseMethodDescriptor y.desc).map (fun d => d.parameters.length) = some 0)
    (hK : va_K D gCl ((cI, .int) :: tys) s) (hAO : va_AO "GingerArmy$Shelf" s) (hP : va_P D gCl ws H) (hD : va_D A ws) (hS : va_S A H0 H locs) (hA : ∀ q, H0.size ≤ q → A q) (hfr : d + 1 ≤ R.frames) (hlo : 8 + (nY + 11) + 36 * d ≤ R.locals) (hcells : cells + 1 + mc ≤ R.cells) (hslots : slots + NF + ms ≤ R.slots) (hsize : ls.size = nL) (hcat : ∀ q : Nat, ((Value.ref q :: rest).map fun v => v.category).sum ≤ 8)
    (d1 : decode cc pc = .ok (.new idx1, 3)) (d2 : decode cc (pc + 3) = .ok (.dup, 1)) (d3 : decode cc (pc + 3 + 1) = .ok (.invokespecial idx2, 3))
    (kk : ∀ (q : Nat) (u : S) (H1 : Heap) (locs1 : List Loc), va_P D gCl (ws ++ wY u q) H1 → va_D A (ws ++ wY u q) → va_S A H0 H1 locs1 → va_K D gCl ((cI, .int) :: tyY u) s → W p l e R s m args below meth c H1 locs1 (cells + 1 + mc) (slots + NF + ms) Q (F0 m (pc + 3 + 1 + 3) ls (.ref q :: rest))) : W p l e R s m args below meth c H locs cells slots Q (F0 m pc ls rest) := by
  refine va_new (ci := ci) (fs := fs0) (C := C) (T := T) (N := NF) hexec hb hts hin ty hty hown (hts _ hcl) (hts _ hinst) (hts _ hini) hK hP hD hS hA hc hfs (by omega) (by omega) d1 (fun q H hP hD hS => ?_)
  refine lv_dup hexec hb d2 rfl ?_
  have hr : ∀ (k : Nat) (x : Nat × va_E), ([(q, .inr (ci, fs0))] : va_W)[k]? = some x → (ws ++ [(q, .inr (ci, fs0))])[ws.length + k]? = some x := fun k x h => by
    rw [List.getElem?_append_right (Nat.le_add_right _ _), Nat.add_sub_cancel_left]; exact h
  have hPc : va_P D gCl [(q, .inr (ci, fs0))] H := fun k x hx => hP _ x (hr k x hx)
  have hDc : va_D A [(q, .inr (ci, fs0))] := ⟨fun i j x z hi hj he => by have := hD.1 _ _ x z (hr i x hi) (hr j z hj) he; omega, fun k x hx => hD.2 _ x (hr k x hx)⟩
  have hFc : ∀ q9 : Nat, va_A [(q, .inr (ci, fs0))] H.size q9 → A q9 := by
    intro q9 h
    rcases h with ⟨k, e9, h⟩ | h
    · exact hDc.2 k _ h
    · exact hA q9 (Nat.le_trans hS.1 h)
  have hKc : va_K D gCl [(cI, .int)] s := ⟨hK.1, fun k x hx => by
    have hz : k < 1 := (List.getElem?_eq_some_iff.mp hx).1
    rw [show k = 0 by omega] at hx
    cases hx
    exact hK.2 0 (cI, .int) rfl⟩
  have hG : GoodIn gT (.code y cY nY none :: gT) := fun w hw => by
    rcases List.mem_cons.mp hw with rfl | hw
    · exact gT_good _ hcode
    · exact gT_good _ hw
  refine va_callv (va_runI (As := []) (rest := .ref q :: rest) ⟨hexec, hb, hml, hown, hts⟩ (hIC q H.size) ⟨callB_of 0 hts hG rfl rfl rfl (hts _ (by rw [hyC]; exact hini)) (hts _ hlink) hy ⟨hfr, hlo⟩, hy1, hts _ hinsm⟩ ⟨fun a U g9 mk q9 => by obtain ⟨q0, q1, qP, qK, qO, qD⟩ := q9; exact ⟨q0, q1, qP, va_K.moved (u := U) (U := U.calling g9 mk a) (Vm.Alike.refl U.vm) qK, va_AO.moved (u := U) (U := U.calling g9 mk a) (Vm.Alike.refl U.vm) qO, qD⟩, fun U hU hW => ⟨rfl, by rw [hU], by rw [hU]; exact hPc, va_K.moved hW.alike hKc, va_AO.moved hW.alike hAO, hDc.weaken (fun _ _ _ _ => trivial)⟩⟩ rfl rfl hsize rfl (lv_room (hcat q)) d3 ⟨by omega, by omega⟩) hS (fun q9 _ h => hFc q9 h) hFc (fun u t H1 locs1 ht hvm hw hB hz1 hk1 hS1 => ?_)
  obtain ⟨hP1, hK1, hD1⟩ := hB
  rw [ht] at hP1
  have hK1 := va_K.moved hvm.symm hK1
  obtain ⟨hP2, hD2⟩ := jn hP hD hk1 hFc hP1 hD1
  exact kk q u H1 locs1 hP2 hD2 hS1 hK1
end B

theorem inX1 : ∀ w ∈ u_ws RX1 TX1 3, w ∈ gT := gCl_ws (RX1, TX1, 3) (List.mem_of_getElem? (i := 0) rfl)
theorem inX2 : ∀ w ∈ u_ws RX2 TX2 3, w ∈ gT := gCl_ws (RX2, TX2, 3) (List.mem_of_getElem? (i := 1) rfl)
theorem inX3 : ∀ w ∈ u_ws RX3 TX3 13, w ∈ gT := gCl_ws (RX3, TX3, 13) (List.mem_of_getElem? (i := 2) rfl)
theorem inX4 : ∀ w ∈ u_ws RX4 TX4 2, w ∈ gT := gCl_ws (RX4, TX4, 2) (List.mem_of_getElem? (i := 3) rfl)
theorem inX5 : ∀ w ∈ u_ws RX5 TX5 10, w ∈ gT := gCl_ws (RX5, TX5, 10) (List.mem_of_getElem? (i := 4) rfl)
theorem inX6 : ∀ w ∈ u_ws RX6 TX6 27, w ∈ gT := gCl_ws (RX6, TX6, 27) (List.mem_of_getElem? (i := 5) rfl)
def fsX1 : List Value := [.null, .null, .null]
theorem fsX1_ok : ∀ j, j < 3 → defaultValue (tyX1 j) = vp_V fsX1 j := by decide +kernel
def fsX2 : List Value := [.null, .int 0, .int 0]
theorem fsX2_ok : ∀ j, j < 3 → defaultValue (tyX2 j) = vp_V fsX2 j := by decide +kernel
def fsX3 : List Value := [.null, .null, .null, .null, .null, .null, .null, .int 0, .int 0, .int 0, .int 0, .int 0, .int 0]
theorem fsX3_ok : ∀ j, j < 13 → defaultValue (tyX3 j) = vp_V fsX3 j := by decide +kernel
def fsX4 : List Value := [.null, .int 0]
theorem fsX4_ok : ∀ j, j < 2 → defaultValue (tyX4 j) = vp_V fsX4 j := by decide +kernel
def fsX5 : List Value := [.null, .null, .null, .null, .null, .null, .null, .null, .int 0, .int 0]
theorem fsX5_ok : ∀ j, j < 10 → defaultValue (tyX5 j) = vp_V fsX5 j := by decide +kernel
def fsX6 : List Value := [.null, .null, .null, .null, .null, .null, .null, .int 0, .int 0, .int 0, .int 0, .null, .null, .null, .null, .int 0, .int 0, .int 0, .null, .int 0, .int 0, .int 0, .int 0, .null, .int 0, .null, .int 0]
theorem fsX6_ok : ∀ j, j < 27 → defaultValue (tyX6 j) = vp_V fsX6 j := by decide +kernel
/-- a shelf's cells -/
def wSh (cI : ClassId) (u : Nat → Nat) (h : Nat) : va_W := [(h, .inr (2, [.ref (u 0), .ref (u 1), .ref (u 2), .ref (u 3), .ref (u 4), .ref (u 5), .ref (u 6), .int 0, .int 0, .int 0, .int 2, .int 0, .int 0])), (u 0, .inl (cI, 8, .inl (fun _ => 0))), (u 1, .inl (cI, 8, .inl (fun _ => 0))), (u 2, .inl (cI, 8, .inl (fun _ => 0))), (u 3, .inl (cI, 8, .inl (fun _ => 0))), (u 4, .inl (cI, 8, .inl (fun _ => 0))), (u 5, .inl (cI, 8, .inl (fun _ => 0))), (u 6, .inl (cI, 8, .inl (fun _ => 0)))]
set_option maxHeartbeats 4000000 in
set_option maxRecDepth 100000 in
theorem i_X3 (l : Launch) (D : va_G) (cI : ClassId) : InitC (S := Nat → Nat) l Y3_init prog_5_method_1_code 1 1 7 56 D cI 2 fsX3 (wSh cI) (fun _ => []) := by
  intro h0 sz
  refine Met.ofW (cc := prog_5_method_1_code) (maxL := 1) (ret := none) (by decide) rfl ?_
  intro p e s m args below meth c s₁ B hml hv
  obtain ⟨rfl, hsz, hP, hK, hAO, hD0⟩ := hv
  have hx := B.exec
  have hb := B.bytes
  have hr := B.returns
  have htw := atoms_spec (ws := .code Y3_init prog_5_method_1_code 1 none :: gT) B.pre
  have hts : ∀ w ∈ gT, w.before _ s = true := fun w hw => htw w (List.mem_cons_of_mem _ hw)
  have hown : s.vm.findClass RX3 = some m.cls := findClass_of_methodNamed B.named
  have hlocks := B.notSynchronized
  have hin : meth.name = "<init>" := (name_of_methodNamed B.named B.method).1
  subst hsz
  have hD := hD0.self (sz := s.heap.size)
  generalize hAe : va_A [(h0, .inr (2, fsX3))] s.heap.size = A at hD ⊢
  have hA : ∀ q : Nat, s.heap.size ≤ q → A q := fun q h => by rw [← hAe]; exact Or.inr h
  have hS : va_S A s.heap s.heap [] := va_S.rf
  have hl := lv_entry ([.ref h0]) (n := 1) (Nat.le_of_ble_eq_true rfl)
  rw [lg_entry_eq]
  generalize (lg_sl ([.ref h0]) ++ List.replicate (1 - (lg_sl ([.ref h0])).length) Slot.unset).toArray = ls at hl ⊢
  have hl : lv_has ls 1 [(0, .ref h0)] := hl
  have hP : va_P D gCl ((h0, .inr (2, [.null, .null, .null, .null, .null, .null, .null, .int 0, .int 0, .int 0, .int 0, .int 0, .int 0])) :: []) _ := hP
  have hD : va_D A ((h0, .inr (2, [.null, .null, .null, .null, .null, .null, .null, .int 0, .int 0, .int 0, .int 0, .int 0, .int 0])) :: []) := hD
  refine lv_aload_n hx hb (by decide +kernel : decode prog_5_method_1_code 0 = .ok (.aload_n 0, 1)) rfl (lv_at hl 0 rfl) ?_
  refine W.objInit hx hb hown (hts (.methodLink RX3 3 objectInit) (gT_in 91 (by decide +kernel) rfl)) (hts (.instanceMethod objectInit) (gT_in 84 (by decide +kernel) rfl)) (hts _ (gT_in 85 (by decide +kernel) rfl)) rfl (by rw [hml]; exact hl.1) rfl (by decide +kernel : decode prog_5_method_1_code 1 = .ok (.invokespecial 3, 3)) (Nat.le_of_ble_eq_true rfl) (Nat.le_of_ble_eq_true rfl) ?_
  refine W.eq (g2 := F0 m 4 ls []) rfl ?_
  refine lv_aload_n hx hb (by decide +kernel : decode prog_5_method_1_code 4 = .ok (.aload_n 0, 1)) rfl (lv_at hl 0 rfl) ?_
  refine lv_bipush (v := 8) hx hb (by decide +kernel : decode prog_5_method_1_code 5 = .ok (.bipush 8, 2)) (by decide) ?_
  refine nwI (N' := 8) hx hb (hts _ (gT_in 142 (by decide +kernel) rfl)) hK hP hD hS hA (by decide) (by decide) (by decide) (Nat.le_of_ble_eq_true rfl) (Nat.le_of_ble_eq_true rfl) (by decide +kernel : decode prog_5_method_1_code 7 = .ok (.newarray .int, 2)) (fun q1 H hP hD hS => ?_)
  have hP : va_P D gCl ((h0, .inr (2, [.null, .null, .null, .null, .null, .null, .null, .int 0, .int 0, .int 0, .int 0, .int 0, .int 0])) :: ([] ++ [(q1, .inl (cI, 8, .inl (fun _ => 0)))])) _ := hP
  have hD : va_D A ((h0, .inr (2, [.null, .null, .null, .null, .null, .null, .null, .int 0, .int 0, .int 0, .int 0, .int 0, .int 0])) :: ([] ++ [(q1, .inl (cI, 8, .inl (fun _ => 0)))])) := hD
  refine W.widen (k := 1) (n := 8) (Nat.le_of_ble_eq_true rfl) (Nat.le_of_ble_eq_true rfl) ?_
  refine va_putF (D := D) (ci := 2) (v := .ref q1) (ty := (.array .int)) (C := RX3) (T := TX3) (N := 13) hx hb hts inX3 tyX3 tyX3_ok nmX3 hown hK hP hD hS 0 rfl rfl 0 (by decide) (hts _ (gT_in 92 (by decide +kernel) rfl)) (fun _ h9 => h9) rfl hin rfl (by decide +kernel) rfl rfl (Nat.le_of_ble_eq_true rfl) (by decide +kernel : decode prog_5_method_1_code 9 = .ok (.putfield 9, 3)) (fun H locs hP hD hS => ?_)
  have hP : va_P D gCl ((h0, .inr (2, [.ref q1, .null, .null, .null, .null, .null, .null, .int 0, .int 0, .int 0, .int 0, .int 0, .int 0])) :: ([] ++ [(q1, .inl (cI, 8, .inl (fun _ => 0)))])) _ := hP
  have hD : va_D A ((h0, .inr (2, [.ref q1, .null, .null, .null, .null, .null, .null, .int 0, .int 0, .int 0, .int 0, .int 0, .int 0])) :: ([] ++ [(q1, .inl (cI, 8, .inl (fun _ => 0)))])) := hD
  refine lv_aload_n hx hb (by decide +kernel : decode prog_5_method_1_code 12 = .ok (.aload_n 0, 1)) rfl (lv_at hl 0 rfl) ?_
  refine lv_bipush (v := 8) hx hb (by decide +kernel : decode prog_5_method_1_code 13 = .ok (.bipush 8, 2)) (by decide) ?_
  refine nwI (N' := 8) hx hb (hts _ (gT_in 142 (by decide +kernel) rfl)) hK hP hD hS hA (by decide) (by decide) (by decide) (Nat.le_of_ble_eq_true rfl) (Nat.le_of_ble_eq_true rfl) (by decide +kernel : decode prog_5_method_1_code 15 = .ok (.newarray .int, 2)) (fun q2 H hP hD hS => ?_)
  have hP : va_P D gCl ((h0, .inr (2, [.ref q1, .null, .null, .null, .null, .null, .null, .int 0, .int 0, .int 0, .int 0, .int 0, .int 0])) :: (([] ++ [(q1, .inl (cI, 8, .inl (fun _ => 0)))]) ++ [(q2, .inl (cI, 8, .inl (fun _ => 0)))])) _ := hP
  have hD : va_D A ((h0, .inr (2, [.ref q1, .null, .null, .null, .null, .null, .null, .int 0, .int 0, .int 0, .int 0, .int 0, .int 0])) :: (([] ++ [(q1, .inl (cI, 8, .inl (fun _ => 0)))]) ++ [(q2, .inl (cI, 8, .inl (fun _ => 0)))])) := hD
  refine W.widen (k := 2) (n := 16) (Nat.le_of_ble_eq_true rfl) (Nat.le_of_ble_eq_true rfl) ?_
  refine va_putF (D := D) (ci := 2) (v := .ref q2) (ty := (.array .int)) (C := RX3) (T := TX3) (N := 13) hx hb hts inX3 tyX3 tyX3_ok nmX3 hown hK hP hD hS 0 rfl rfl 1 (by decide) (hts _ (gT_in 93 (by decide +kernel) rfl)) (fun _ h9 => h9) rfl hin rfl (by decide +kernel) rfl rfl (Nat.le_of_ble_eq_true rfl) (by decide +kernel : decode prog_5_method_1_code 17 = .ok (.putfield 15, 3)) (fun H locs hP hD hS => ?_)
  have hP : va_P D gCl ((h0, .inr (2, [.ref q1, .ref q2, .null, .null, .null, .null, .null, .int 0, .int 0, .int 0, .int 0, .int 0, .int 0])) :: (([] ++ [(q1, .inl (cI, 8, .inl (fun _ => 0)))]) ++ [(q2, .inl (cI, 8, .inl (fun _ => 0)))])) _ := hP
  have hD : va_D A ((h0, .inr (2, [.ref q1, .ref q2, .null, .null, .null, .null, .null, .int 0, .int 0, .int 0, .int 0, .int 0, .int 0])) :: (([] ++ [(q1, .inl (cI, 8, .inl (fun _ => 0)))]) ++ [(q2, .inl (cI, 8, .inl (fun _ => 0)))])) := hD
  refine lv_aload_n hx hb (by decide +kernel : decode prog_5_method_1_code 20 = .ok (.aload_n 0, 1)) rfl (lv_at hl 0 rfl) ?_
  refine lv_bipush (v := 8) hx hb (by decide +kernel : decode prog_5_method_1_code 21 = .ok (.bipush 8, 2)) (by decide) ?_
  refine nwI (N' := 8) hx hb (hts _ (gT_in 142 (by decide +kernel) rfl)) hK hP hD hS hA (by decide) (by decide) (by decide) (Nat.le_of_ble_eq_true rfl) (Nat.le_of_ble_eq_true rfl) (by decide +kernel : decode prog_5_method_1_code 23 = .ok (.newarray .int, 2)) (fun q3 H hP hD hS => ?_)
  have hP : va_P D gCl ((h0, .inr (2, [.ref q1, .ref q2, .null, .null, .null, .null, .null, .int 0, .int 0, .int 0, .int 0, .int 0, .int 0])) :: ((([] ++ [(q1, .inl (cI, 8, .inl (fun _ => 0)))]) ++ [(q2, .inl (cI, 8, .inl (fun _ => 0)))]) ++ [(q3, .inl (cI, 8, .inl (fun _ => 0)))])) _ := hP
  have hD : va_D A ((h0, .inr (2, [.ref q1, .ref q2, .null, .null, .null, .null, .null, .int 0, .int 0, .int 0, .int 0, .int 0, .int 0])) :: ((([] ++ [(q1, .inl (cI, 8, .inl (fun _ => 0)))]) ++ [(q2, .inl (cI, 8, .inl (fun _ => 0)))]) ++ [(q3, .inl (cI, 8, .inl (fun _ => 0)))])) := hD
  refine W.widen (k := 3) (n := 24) (Nat.le_of_ble_eq_true rfl) (Nat.le_of_ble_eq_true rfl) ?_
  refine va_putF (D := D) (ci := 2) (v := .ref q3) (ty := (.array .int)) (C := RX3) (T := TX3) (N := 13) hx hb hts inX3 tyX3 tyX3_ok nmX3 hown hK hP hD hS 0 rfl rfl 2 (by decide) (hts _ (gT_in 94 (by decide +kernel) rfl)) (fun _ h9 => h9) rfl hin rfl (by decide +kernel) rfl rfl (Nat.le_of_ble_eq_true rfl) (by decide +kernel : decode prog_5_method_1_code 25 = .ok (.putfield 18, 3)) (fun H locs hP hD hS => ?_)
  have hP : va_P D gCl ((h0, .inr (2, [.ref q1, .ref q2, .ref q3, .null, .null, .null, .null, .int 0, .int 0, .int 0, .int 0, .int 0, .int 0])) :: ((([] ++ [(q1, .inl (cI, 8, .inl (fun _ => 0)))]) ++ [(q2, .inl (cI, 8, .inl (fun _ => 0)))]) ++ [(q3, .inl (cI, 8, .inl (fun _ => 0)))])) _ := hP
  have hD : va_D A ((h0, .inr (2, [.ref q1, .ref q2, .ref q3, .null, .null, .null, .null, .int 0, .int 0, .int 0, .int 0, .int 0, .int 0])) :: ((([] ++ [(q1, .inl (cI, 8, .inl (fun _ => 0)))]) ++ [(q2, .inl (cI, 8, .inl (fun _ => 0)))]) ++ [(q3, .inl (cI, 8, .inl (fun _ => 0)))])) := hD
  refine lv_aload_n hx hb (by decide +kernel : decode prog_5_method_1_code 28 = .ok (.aload_n 0, 1)) rfl (lv_at hl 0 rfl) ?_
  refine lv_bipush (v := 8) hx hb (by decide +kernel : decode prog_5_method_1_code 29 = .ok (.bipush 8, 2)) (by decide) ?_
  refine nwI (N' := 8) hx hb (hts _ (gT_in 142 (by decide +kernel) rfl)) hK hP hD hS hA (by decide) (by decide) (by decide) (Nat.le_of_ble_eq_true rfl) (Nat.le_of_ble_eq_true rfl) (by decide +kernel : decode prog_5_method_1_code 31 = .ok (.newarray .int, 2)) (fun q4 H hP hD hS => ?_)
  have hP : va_P D gCl ((h0, .inr (2, [.ref q1, .ref q2, .ref q3, .null, .null, .null, .null, .int 0, .int 0, .int 0, .int 0, .int 0, .int 0])) :: (((([] ++ [(q1, .inl (cI, 8, .inl (fun _ => 0)))]) ++ [(q2, .inl (cI, 8, .inl (fun _ => 0)))]) ++ [(q3, .inl (cI, 8, .inl (fun _ => 0)))]) ++ [(q4, .inl (cI, 8, .inl (fun _ => 0)))])) _ := hP
  have hD : va_D A ((h0, .inr (2, [.ref q1, .ref q2, .ref q3, .null, .null, .null, .null, .int 0, .int 0, .int 0, .int 0, .int 0, .int 0])) :: (((([] ++ [(q1, .inl (cI, 8, .inl (fun _ => 0)))]) ++ [(q2, .inl (cI, 8, .inl (fun _ => 0)))]) ++ [(q3, .inl (cI, 8, .inl (fun _ => 0)))]) ++ [(q4, .inl (cI, 8, .inl (fun _ => 0)))])) := hD
  refine W.widen (k := 4) (n := 32) (Nat.le_of_ble_eq_true rfl) (Nat.le_of_ble_eq_true rfl) ?_
  refine va_putF (D := D) (ci := 2) (v := .ref q4) (ty := (.array .int)) (C := RX3) (T := TX3) (N := 13) hx hb hts inX3 tyX3 tyX3_ok nmX3 hown hK hP hD hS 0 rfl rfl 3 (by decide) (hts _ (gT_in 95 (by decide +kernel) rfl)) (fun _ h9 => h9) rfl hin rfl (by decide +kernel) rfl rfl (Nat.le_of_ble_eq_true rfl) (by decide +kernel : decode prog_5_method_1_code 33 = .ok (.putfield 21, 3)) (fun H locs hP hD hS => ?_)
  have hP : va_P D gCl ((h0, .inr (2, [.ref q1, .ref q2, .ref q3, .ref q4, .null, .null, .null, .int 0, .int 0, .int 0, .int 0, .int 0, .int 0])) :: (((([] ++ [(q1, .inl (cI, 8, .inl (fun _ => 0)))]) ++ [(q2, .inl (cI, 8, .inl (fun _ => 0)))]) ++ [(q3, .inl (cI, 8, .inl (fun _ => 0)))]) ++ [(q4, .inl (cI, 8, .inl (fun _ => 0)))])) _ := hP
  have hD : va_D A ((h0, .inr (2, [.ref q1, .ref q2, .ref q3, .ref q4, .null, .null, .null, .int 0, .int 0, .int 0, .int 0, .int 0, .int 0])) :: (((([] ++ [(q1, .inl (cI, 8, .inl (fun _ => 0)))]) ++ [(q2, .inl (cI, 8, .inl (fun _ => 0)))]) ++ [(q3, .inl (cI, 8, .inl (fun _ => 0)))]) ++ [(q4, .inl (cI, 8, .inl (fun _ => 0)))])) := hD
  refine lv_aload_n hx hb (by decide +kernel : decode prog_5_method_1_code 36 = .ok (.aload_n 0, 1)) rfl (lv_at hl 0 rfl) ?_
  refine lv_bipush (v := 8) hx hb (by decide +kernel : decode prog_5_method_1_code 37 = .ok (.bipush 8, 2)) (by decide) ?_
  refine nwI (N' := 8) hx hb (hts _ (gT_in 142 (by decide +kernel) rfl)) hK hP hD hS hA (by decide) (by decide) (by decide) (Nat.le_of_ble_eq_true rfl) (Nat.le_of_ble_eq_true rfl) (by decide +kernel : decode prog_5_method_1_code 39 = .ok (.newarray .int, 2)) (fun q5 H hP hD hS => ?_)
  have hP : va_P D gCl ((h0, .inr (2, [.ref q1, .ref q2, .ref q3, .ref q4, .null, .null, .null, .int 0, .int 0, .int 0, .int 0, .int 0, .int 0])) :: ((((([] ++ [(q1, .inl (cI, 8, .inl (fun _ => 0)))]) ++ [(q2, .inl (cI, 8, .inl (fun _ => 0)))]) ++ [(q3, .inl (cI, 8, .inl (fun _ => 0)))]) ++ [(q4, .inl (cI, 8, .inl (fun _ => 0)))]) ++ [(q5, .inl (cI, 8, .inl (fun _ => 0)))])) _ := hP
  have hD : va_D A ((h0, .inr (2, [.ref q1, .ref q2, .ref q3, .ref q4, .null, .null, .null, .int 0, .int 0, .int 0, .int 0, .int 0, .int 0])) :: ((((([] ++ [(q1, .inl (cI, 8, .inl (fun _ => 0)))]) ++ [(q2, .inl (cI, 8, .inl (fun _ => 0)))]) ++ [(q3, .inl (cI, 8, .inl (fun _ => 0)))]) ++ [(q4, .inl (cI, 8, .inl (fun _ => 0)))]) ++ [(q5, .inl (cI, 8, .inl (fun _ => 0)))])) := hD
  refine W.widen (k := 5) (n := 40) (Nat.le_of_ble_eq_true rfl) (Nat.le_of_ble_eq_true rfl) ?_
  refine va_putF (D := D) (ci := 2) (v := .ref q5) (ty := (.array .int)) (C := RX3) (T := TX3) (N := 13) hx hb hts inX3 tyX3 tyX3_ok nmX3 hown hK hP hD hS 0 rfl rfl 4 (by decide) (hts _ (gT_in 96 (by decide +kernel) rfl)) (fun _ h9 => h9) rfl hin rfl (by decide +kernel) rfl rfl (Nat.le_of_ble_eq_true rfl) (by decide +kernel : decode prog_5_method_1_code 41 = .ok (.putfield 24, 3)) (fun H locs hP hD hS => ?_)
  have hP : va_P D gCl ((h0, .inr (2, [.ref q1, .ref q2, .ref q3, .ref q4, .ref q5, .null, .null, .int 0, .int 0, .int 0, .int 0, .int 0, .int 0])) :: ((((([] ++ [(q1, .inl (cI, 8, .inl (fun _ => 0)))]) ++ [(q2, .inl (cI, 8, .inl (fun _ => 0)))]) ++ [(q3, .inl (cI, 8, .inl (fun _ => 0)))]) ++ [(q4, .inl (cI, 8, .inl (fun _ => 0)))]) ++ [(q5, .inl (cI, 8, .inl (fun _ => 0)))])) _ := hP
  have hD : va_D A ((h0, .inr (2, [.ref q1, .ref q2, .ref q3, .ref q4, .ref q5, .null, .null, .int 0, .int 0, .int 0, .int 0, .int 0, .int 0])) :: ((((([] ++ [(q1, .inl (cI, 8, .inl (fun _ => 0)))]) ++ [(q2, .inl (cI, 8, .inl (fun _ => 0)))]) ++ [(q3, .inl (cI, 8, .inl (fun _ => 0)))]) ++ [(q4, .inl (cI, 8, .inl (fun _ => 0)))]) ++ [(q5, .inl (cI, 8, .inl (fun _ => 0)))])) := hD
  refine lv_aload_n hx hb (by decide +kernel : decode prog_5_method_1_code 44 = .ok (.aload_n 0, 1)) rfl (lv_at hl 0 rfl) ?_
  refine lv_bipush (v := 8) hx hb (by decide +kernel : decode prog_5_method_1_code 45 = .ok (.bipush 8, 2)) (by decide) ?_
  refine nwI (N' := 8) hx hb (hts _ (gT_in 142 (by decide +kernel) rfl)) hK hP hD hS hA (by decide) (by decide) (by decide) (Nat.le_of_ble_eq_true rfl) (Nat.le_of_ble_eq_true rfl) (by decide +kernel : decode prog_5_method_1_code 47 = .ok (.newarray .int, 2)) (fun q6 H hP hD hS => ?_)
  have hP : va_P D gCl ((h0, .inr (2, [.ref q1, .ref q2, .ref q3, .ref q4, .ref q5, .null, .null, .int 0, .int 0, .int 0, .int 0, .int 0, .int 0])) :: (((((([] ++ [(q1, .inl (cI, 8, .inl (fun _ => 0)))]) ++ [(q2, .inl (cI, 8, .inl (fun _ => 0)))]) ++ [(q3, .inl (cI, 8, .inl (fun _ => 0)))]) ++ [(q4, .inl (cI, 8, .inl (fun _ => 0)))]) ++ [(q5, .inl (cI, 8, .inl (fun _ => 0)))]) ++ [(q6, .inl (cI, 8, .inl (fun _ => 0)))])) _ := hP
  have hD : va_D A ((h0, .inr (2, [.ref q1, .ref q2, .ref q3, .ref q4, .ref q5, .null, .null, .int 0, .int 0, .int 0, .int 0, .int 0, .int 0])) :: (((((([] ++ [(q1, .inl (cI, 8, .inl (fun _ => 0)))]) ++ [(q2, .inl (cI, 8, .inl (fun _ => 0)))]) ++ [(q3, .inl (cI, 8, .inl (fun _ => 0)))]) ++ [(q4, .inl (cI, 8, .inl (fun _ => 0)))]) ++ [(q5, .inl (cI, 8, .inl (fun _ => 0)))]) ++ [(q6, .inl (cI, 8, .inl (fun _ => 0)))])) := hD
  refine W.widen (k := 6) (n := 48) (Nat.le_of_ble_eq_true rfl) (Nat.le_of_ble_eq_true rfl) ?_
  refine va_putF (D := D) (ci := 2) (v := .ref q6) (ty := (.array .int)) (C := RX3) (T := TX3) (N := 13) hx hb hts inX3 tyX3 tyX3_ok nmX3 hown hK hP hD hS 0 rfl rfl 5 (by decide) (hts _ (gT_in 97 (by decide +kernel) rfl)) (fun _ h9 => h9) rfl hin rfl (by decide +kernel) rfl rfl (Nat.le_of_ble_eq_true rfl) (by decide +kernel : decode prog_5_method_1_code 49 = .ok (.putfield 27, 3)) (fun H locs hP hD hS => ?_)
  have hP : va_P D gCl ((h0, .inr (2, [.ref q1, .ref q2, .ref q3, .ref q4, .ref q5, .ref q6, .null, .int 0, .int 0, .int 0, .int 0, .int 0, .int 0])) :: (((((([] ++ [(q1, .inl (cI, 8, .inl (fun _ => 0)))]) ++ [(q2, .inl (cI, 8, .inl (fun _ => 0)))]) ++ [(q3, .inl (cI, 8, .inl (fun _ => 0)))]) ++ [(q4, .inl (cI, 8, .inl (fun _ => 0)))]) ++ [(q5, .inl (cI, 8, .inl (fun _ => 0)))]) ++ [(q6, .inl (cI, 8, .inl (fun _ => 0)))])) _ := hP
  have hD : va_D A ((h0, .inr (2, [.ref q1, .ref q2, .ref q3, .ref q4, .ref q5, .ref q6, .null, .int 0, .int 0, .int 0, .int 0, .int 0, .int 0])) :: (((((([] ++ [(q1, .inl (cI, 8, .inl (fun _ => 0)))]) ++ [(q2, .inl (cI, 8, .inl (fun _ => 0)))]) ++ [(q3, .inl (cI, 8, .inl (fun _ => 0)))]) ++ [(q4, .inl (cI, 8, .inl (fun _ => 0)))]) ++ [(q5, .inl (cI, 8, .inl (fun _ => 0)))]) ++ [(q6, .inl (cI, 8, .inl (fun _ => 0)))])) := hD
  refine lv_aload_n hx hb (by decide +kernel : decode prog_5_method_1_code 52 = .ok (.aload_n 0, 1)) rfl (lv_at hl 0 rfl) ?_
  refine lv_bipush (v := 8) hx hb (by decide +kernel : decode prog_5_method_1_code 53 = .ok (.bipush 8, 2)) (by decide) ?_
  refine nwI (N' := 8) hx hb (hts _ (gT_in 142 (by decide +kernel) rfl)) hK hP hD hS hA (by decide) (by decide) (by decide) (Nat.le_of_ble_eq_true rfl) (Nat.le_of_ble_eq_true rfl) (by decide +kernel : decode prog_5_method_1_code 55 = .ok (.newarray .int, 2)) (fun q7 H hP hD hS => ?_)
  have hP : va_P D gCl ((h0, .inr (2, [.ref q1, .ref q2, .ref q3, .ref q4, .ref q5, .ref q6, .null, .int 0, .int 0, .int 0, .int 0, .int 0, .int 0])) :: ((((((([] ++ [(q1, .inl (cI, 8, .inl (fun _ => 0)))]) ++ [(q2, .inl (cI, 8, .inl (fun _ => 0)))]) ++ [(q3, .inl (cI, 8, .inl (fun _ => 0)))]) ++ [(q4, .inl (cI, 8, .inl (fun _ => 0)))]) ++ [(q5, .inl (cI, 8, .inl (fun _ => 0)))]) ++ [(q6, .inl (cI, 8, .inl (fun _ => 0)))]) ++ [(q7, .inl (cI, 8, .inl (fun _ => 0)))])) _ := hP
  have hD : va_D A ((h0, .inr (2, [.ref q1, .ref q2, .ref q3, .ref q4, .ref q5, .ref q6, .null, .int 0, .int 0, .int 0, .int 0, .int 0, .int 0])) :: ((((((([] ++ [(q1, .inl (cI, 8, .inl (fun _ => 0)))]) ++ [(q2, .inl (cI, 8, .inl (fun _ => 0)))]) ++ [(q3, .inl (cI, 8, .inl (fun _ => 0)))]) ++ [(q4, .inl (cI, 8, .inl (fun _ => 0)))]) ++ [(q5, .inl (cI, 8, .inl (fun _ => 0)))]) ++ [(q6, .inl (cI, 8, .inl (fun _ => 0)))]) ++ [(q7, .inl (cI, 8, .inl (fun _ => 0)))])) := hD
  refine W.widen (k := 7) (n := 56) (Nat.le_of_ble_eq_true rfl) (Nat.le_of_ble_eq_true rfl) ?_
  refine va_putF (D := D) (ci := 2) (v := .ref q7) (ty := (.array .int)) (C := RX3) (T := TX3) (N := 13) hx hb hts inX3 tyX3 tyX3_ok nmX3 hown hK hP hD hS 0 rfl rfl 6 (by decide) (hts _ (gT_in 98 (by decide +kernel) rfl)) (fun _ h9 => h9) rfl hin rfl (by decide +kernel) rfl rfl (Nat.le_of_ble_eq_true rfl) (by decide +kernel : decode prog_5_method_1_code 57 = .ok (.putfield 30, 3)) (fun H locs hP hD hS => ?_)
  have hP : va_P D gCl ((h0, .inr (2, [.ref q1, .ref q2, .ref q3, .ref q4, .ref q5, .ref q6, .ref q7, .int 0, .int 0, .int 0, .int 0, .int 0, .int 0])) :: ((((((([] ++ [(q1, .inl (cI, 8, .inl (fun _ => 0)))]) ++ [(q2, .inl (cI, 8, .inl (fun _ => 0)))]) ++ [(q3, .inl (cI, 8, .inl (fun _ => 0)))]) ++ [(q4, .inl (cI, 8, .inl (fun _ => 0)))]) ++ [(q5, .inl (cI, 8, .inl (fun _ => 0)))]) ++ [(q6, .inl (cI, 8, .inl (fun _ => 0)))]) ++ [(q7, .inl (cI, 8, .inl (fun _ => 0)))])) _ := hP
  have hD : va_D A ((h0, .inr (2, [.ref q1, .ref q2, .ref q3, .ref q4, .ref q5, .ref q6, .ref q7, .int 0, .int 0, .int 0, .int 0, .int 0, .int 0])) :: ((((((([] ++ [(q1, .inl (cI, 8, .inl (fun _ => 0)))]) ++ [(q2, .inl (cI, 8, .inl (fun _ => 0)))]) ++ [(q3, .inl (cI, 8, .inl (fun _ => 0)))]) ++ [(q4, .inl (cI, 8, .inl (fun _ => 0)))]) ++ [(q5, .inl (cI, 8, .inl (fun _ => 0)))]) ++ [(q6, .inl (cI, 8, .inl (fun _ => 0)))]) ++ [(q7, .inl (cI, 8, .inl (fun _ => 0)))])) := hD
  refine lv_aload_n hx hb (by decide +kernel : decode prog_5_method_1_code 60 = .ok (.aload_n 0, 1)) rfl (lv_at hl 0 rfl) ?_
  refine lv_iconst (v := 2) hx hb (by decide +kernel : decode prog_5_method_1_code 61 = .ok (.iconst 2, 1)) (by decide) ?_
  refine va_put (D := D) (ci := 2) (v := .int 2) (ty := .int) (C := RX3) (T := TX3) (N := 13) hx hb hts inX3 tyX3 tyX3_ok nmX3 hown hK hP hD hS 0 rfl rfl 10 (by decide) (hts _ (gT_in 106 (by decide +kernel) rfl)) (fun _ h9 => h9) rfl  (by decide +kernel) rfl rfl (Nat.le_of_ble_eq_true rfl) (by decide +kernel : decode prog_5_method_1_code 62 = .ok (.putfield 33, 3)) (fun H locs hP hD hS => ?_)
  have hP : va_P D gCl ((h0, .inr (2, [.ref q1, .ref q2, .ref q3, .ref q4, .ref q5, .ref q6, .ref q7, .int 0, .int 0, .int 0, .int 2, .int 0, .int 0])) :: ((((((([] ++ [(q1, .inl (cI, 8, .inl (fun _ => 0)))]) ++ [(q2, .inl (cI, 8, .inl (fun _ => 0)))]) ++ [(q3, .inl (cI, 8, .inl (fun _ => 0)))]) ++ [(q4, .inl (cI, 8, .inl (fun _ => 0)))]) ++ [(q5, .inl (cI, 8, .inl (fun _ => 0)))]) ++ [(q6, .inl (cI, 8, .inl (fun _ => 0)))]) ++ [(q7, .inl (cI, 8, .inl (fun _ => 0)))])) _ := hP
  have hD : va_D A ((h0, .inr (2, [.ref q1, .ref q2, .ref q3, .ref q4, .ref q5, .ref q6, .ref q7, .int 0, .int 0, .int 0, .int 2, .int 0, .int 0])) :: ((((((([] ++ [(q1, .inl (cI, 8, .inl (fun _ => 0)))]) ++ [(q2, .inl (cI, 8, .inl (fun _ => 0)))]) ++ [(q3, .inl (cI, 8, .inl (fun _ => 0)))]) ++ [(q4, .inl (cI, 8, .inl (fun _ => 0)))]) ++ [(q5, .inl (cI, 8, .inl (fun _ => 0)))]) ++ [(q6, .inl (cI, 8, .inl (fun _ => 0)))]) ++ [(q7, .inl (cI, 8, .inl (fun _ => 0)))])) := hD
  refine W.widen (k := 7) (n := 56) (Nat.le_of_ble_eq_true rfl) (Nat.le_of_ble_eq_true rfl) ?_
  exact W.vret hx hb hr (fun t ht hW => ⟨⟨(fun k => match k with | 0 => q1 | 1 => q2 | 2 => q3 | 3 => q4 | 4 => q5 | 5 => q6 | _ => q7), rfl, trivial, by rw [ht]; exact hP, va_K.moved hW.alike hK, hD⟩, hS.F ht⟩) hS.2.2 (by decide +kernel : decode prog_5_method_1_code 65 = .ok (.return_, 1))
def wTale (cI : ClassId) (u : Nat → Nat) (h : Nat) : va_W := [(h, .inr (3, [.ref (u 0), .int 0])), (u 0, .inl (cI, 96, .inl (fun _ => 0)))]
set_option maxHeartbeats 4000000 in
set_option maxRecDepth 100000 in
theorem i_X4 (l : Launch) (D : va_G) (cI : ClassId) : InitC (S := Nat → Nat) l Y4_init prog_6_method_1_code 1 1 1 96 D cI 3 fsX4 (wTale cI) (fun _ => []) := by
  intro h0 sz
  refine Met.ofW (cc := prog_6_method_1_code) (maxL := 1) (ret := none) (by decide) rfl ?_
  intro p e s m args below meth c s₁ B hml hv
  obtain ⟨rfl, hsz, hP, hK, hAO, hD0⟩ := hv
  have hx := B.exec
  have hb := B.bytes
  have hr := B.returns
  have htw := atoms_spec (ws := .code Y4_init prog_6_method_1_code 1 none :: gT) B.pre
  have hts : ∀ w ∈ gT, w.before _ s = true := fun w hw => htw w (List.mem_cons_of_mem _ hw)
  have hown : s.vm.findClass RX4 = some m.cls := findClass_of_methodNamed B.named
  have hlocks := B.notSynchronized
  have hin : meth.name = "<init>" := (name_of_methodNamed B.named B.method).1
  subst hsz
  have hD := hD0.self (sz := s.heap.size)
  generalize hAe : va_A [(h0, .inr (3, fsX4))] s.heap.size = A at hD ⊢
  have hA : ∀ q : Nat, s.heap.size ≤ q → A q := fun q h => by rw [← hAe]; exact Or.inr h
  have hS : va_S A s.heap s.heap [] := va_S.rf
  have hl := lv_entry ([.ref h0]) (n := 1) (Nat.le_of_ble_eq_true rfl)
  rw [lg_entry_eq]
  generalize (lg_sl ([.ref h0]) ++ List.replicate (1 - (lg_sl ([.ref h0])).length) Slot.unset).toArray = ls at hl ⊢
  have hl : lv_has ls 1 [(0, .ref h0)] := hl
  have hP : va_P D gCl ((h0, .inr (3, [.null, .int 0])) :: []) _ := hP
  have hD : va_D A ((h0, .inr (3, [.null, .int 0])) :: []) := hD
  refine lv_aload_n hx hb (by decide +kernel : decode prog_6_method_1_code 0 = .ok (.aload_n 0, 1)) rfl (lv_at hl 0 rfl) ?_
  refine W.objInit hx hb hown (hts (.methodLink RX4 3 objectInit) (gT_in 186 (by decide +kernel) rfl)) (hts (.instanceMethod objectInit) (gT_in 84 (by decide +kernel) rfl)) (hts _ (gT_in 85 (by decide +kernel) rfl)) rfl (by rw [hml]; exact hl.1) rfl (by decide +kernel : decode prog_6_method_1_code 1 = .ok (.invokespecial 3, 3)) (Nat.le_of_ble_eq_true rfl) (Nat.le_of_ble_eq_true rfl) ?_
  refine W.eq (g2 := F0 m 4 ls []) rfl ?_
  refine lv_aload_n hx hb (by decide +kernel : decode prog_6_method_1_code 4 = .ok (.aload_n 0, 1)) rfl (lv_at hl 0 rfl) ?_
  refine lv_bipush (v := 96) hx hb (by decide +kernel : decode prog_6_method_1_code 5 = .ok (.bipush 96, 2)) (by decide) ?_
  refine nwI (N' := 96) hx hb (hts _ (gT_in 142 (by decide +kernel) rfl)) hK hP hD hS hA (by decide) (by decide) (by decide) (Nat.le_of_ble_eq_true rfl) (Nat.le_of_ble_eq_true rfl) (by decide +kernel : decode prog_6_method_1_code 7 = .ok (.newarray .int, 2)) (fun q1 H hP hD hS => ?_)
  have hP : va_P D gCl ((h0, .inr (3, [.null, .int 0])) :: ([] ++ [(q1, .inl (cI, 96, .inl (fun _ => 0)))])) _ := hP
  have hD : va_D A ((h0, .inr (3, [.null, .int 0])) :: ([] ++ [(q1, .inl (cI, 96, .inl (fun _ => 0)))])) := hD
  refine W.widen (k := 1) (n := 96) (Nat.le_of_ble_eq_true rfl) (Nat.le_of_ble_eq_true rfl) ?_
  refine va_putF (D := D) (ci := 3) (v := .ref q1) (ty := (.array .int)) (C := RX4) (T := TX4) (N := 2) hx hb hts inX4 tyX4 tyX4_ok nmX4 hown hK hP hD hS 0 rfl rfl 0 (by decide) (hts _ (gT_in 187 (by decide +kernel) rfl)) (fun _ h9 => h9) rfl hin rfl (by decide +kernel) rfl rfl (Nat.le_of_ble_eq_true rfl) (by decide +kernel : decode prog_6_method_1_code 9 = .ok (.putfield 9, 3)) (fun H locs hP hD hS => ?_)
  have hP : va_P D gCl ((h0, .inr (3, [.ref q1, .int 0])) :: ([] ++ [(q1, .inl (cI, 96, .inl (fun _ => 0)))])) _ := hP
  have hD : va_D A ((h0, .inr (3, [.ref q1, .int 0])) :: ([] ++ [(q1, .inl (cI, 96, .inl (fun _ => 0)))])) := hD
  refine W.widen (k := 1) (n := 96) (Nat.le_of_ble_eq_true rfl) (Nat.le_of_ble_eq_true rfl) ?_
  exact W.vret hx hb hr (fun t ht hW => ⟨⟨(fun _ => q1), rfl, trivial, by rw [ht]; exact hP, va_K.moved hW.alike hK, hD⟩, hS.F ht⟩) hS.2.2 (by decide +kernel : decode prog_6_method_1_code 12 = .ok (.return_, 1))
def wMind (cI : ClassId) (u : (Nat → Nat) × (Nat → Nat)) (h : Nat) : va_W := (h, .inr (0, [.ref (u.1 0), .ref (u.1 1), .ref (u.1 2)])) :: ((([] ++ wSh cI u.2 (u.1 0)) ++ [(u.1 1, .inl (cI, 4, .inl (fun _ => 0)))]) ++ [(u.1 2, .inl (cI, 4, .inl (fun _ => 0)))])
set_option maxHeartbeats 4000000 in
set_option maxRecDepth 100000 in
theorem i_X1 (l : Launch) (D : va_G) (cI : ClassId) : InitC (S := (Nat → Nat) × (Nat → Nat)) l Y1_init prog_3_method_1_code 1 2 10 77 D cI 0 fsX1 (wMind cI) (fun _ => []) := by
  intro h0 sz
  refine Met.ofW (cc := prog_3_method_1_code) (maxL := 1) (ret := none) (by decide) rfl ?_
  intro p e s m args below meth c s₁ B hml hv
  obtain ⟨rfl, hsz, hP, hK, hAO, hD0⟩ := hv
  have hx := B.exec
  have hb := B.bytes
  have hr := B.returns
  have htw := atoms_spec (ws := .code Y1_init prog_3_method_1_code 1 none :: gT) B.pre
  have hts : ∀ w ∈ gT, w.before _ s = true := fun w hw => htw w (List.mem_cons_of_mem _ hw)
  have hown : s.vm.findClass RX1 = some m.cls := findClass_of_methodNamed B.named
  have hlocks := B.notSynchronized
  have hin : meth.name = "<init>" := (name_of_methodNamed B.named B.method).1
  subst hsz
  have hD := hD0.self (sz := s.heap.size)
  generalize hAe : va_A [(h0, .inr (0, fsX1))] s.heap.size = A at hD ⊢
  have hA : ∀ q : Nat, s.heap.size ≤ q → A q := fun q h => by rw [← hAe]; exact Or.inr h
  have hS : va_S A s.heap s.heap [] := va_S.rf
  have hl := lv_entry ([.ref h0]) (n := 1) (Nat.le_of_ble_eq_true rfl)
  rw [lg_entry_eq]
  generalize (lg_sl ([.ref h0]) ++ List.replicate (1 - (lg_sl ([.ref h0])).length) Slot.unset).toArray = ls at hl ⊢
  have hl : lv_has ls 1 [(0, .ref h0)] := hl
  have hP : va_P D gCl ((h0, .inr (0, [.null, .null, .null])) :: []) _ := hP
  have hD : va_D A ((h0, .inr (0, [.null, .null, .null])) :: []) := hD
  refine lv_aload_n hx hb (by decide +kernel : decode prog_3_method_1_code 0 = .ok (.aload_n 0, 1)) rfl (lv_at hl 0 rfl) ?_
  refine W.objInit hx hb hown (hts (.methodLink RX1 3 objectInit) (gT_in 168 (by decide +kernel) rfl)) (hts (.instanceMethod objectInit) (gT_in 84 (by decide +kernel) rfl)) (hts _ (gT_in 85 (by decide +kernel) rfl)) rfl (by rw [hml]; exact hl.1) rfl (by decide +kernel : decode prog_3_method_1_code 1 = .ok (.invokespecial 3, 3)) (Nat.le_of_ble_eq_true rfl) (Nat.le_of_ble_eq_true rfl) ?_
  refine W.eq (g2 := F0 m 4 ls []) rfl ?_
  refine lv_aload_n hx hb (by decide +kernel : decode prog_3_method_1_code 4 = .ok (.aload_n 0, 1)) rfl (lv_at hl 0 rfl) ?_
  refine nwO (fs0 := fsX3) (own := RX1) (C := RX3) (T := TX3) (ty := tyX3) (NF := 13) (y := Y3_init) hx hb hml hown hts (i_X3 l D cI) inX3 tyX3_ok (gT_in 169 (by decide +kernel) rfl) (gT_in 87 (by decide +kernel) rfl) (gT_in 69 (by decide +kernel) rfl) rfl fsX3_ok (gT_in 170 (by decide +kernel) rfl) (gT_in 89 (by decide +kernel) rfl) (gT_in 90 (by decide +kernel) rfl) rfl rfl (by decide +kernel) hK hAO hP hD hS hA (Nat.le_of_ble_eq_true rfl) (Nat.le_of_ble_eq_true rfl) (Nat.le_of_ble_eq_true rfl) (Nat.le_of_ble_eq_true rfl) hl.1 (fun _ => Nat.le_of_ble_eq_true rfl) (by decide +kernel : decode prog_3_method_1_code 5 = .ok (.new 9, 3)) (by decide +kernel : decode prog_3_method_1_code 8 = .ok (.dup, 1)) (by decide +kernel : decode prog_3_method_1_code 9 = .ok (.invokespecial 11, 3)) (fun q1 u1 H locs hP hD hS hK9 => ?_)
  have hP : va_P D gCl ((h0, .inr (0, [.null, .null, .null])) :: ([] ++ wSh cI u1 q1)) _ := hP
  have hD : va_D A ((h0, .inr (0, [.null, .null, .null])) :: ([] ++ wSh cI u1 q1)) := hD
  refine W.widen (k := 8) (n := 69) (Nat.le_of_ble_eq_true rfl) (Nat.le_of_ble_eq_true rfl) ?_
  refine va_putF (D := D) (ci := 0) (v := .ref q1) (ty := (.object "GingerArmy$Shelf")) (C := RX1) (T := TX1) (N := 3) hx hb hts inX1 tyX1 tyX1_ok nmX1 hown hK hP hD hS 0 rfl rfl 0 (by decide) (hts _ (gT_in 171 (by decide +kernel) rfl)) (fun _ h9 => h9) rfl hin rfl (by decide +kernel) rfl rfl (Nat.le_of_ble_eq_true rfl) (by decide +kernel : decode prog_3_method_1_code 12 = .ok (.putfield 12, 3)) (fun H locs hP hD hS => ?_)
  have hP : va_P D gCl ((h0, .inr (0, [.ref q1, .null, .null])) :: ([] ++ wSh cI u1 q1)) _ := hP
  have hD : va_D A ((h0, .inr (0, [.ref q1, .null, .null])) :: ([] ++ wSh cI u1 q1)) := hD
  refine lv_aload_n hx hb (by decide +kernel : decode prog_3_method_1_code 15 = .ok (.aload_n 0, 1)) rfl (lv_at hl 0 rfl) ?_
  refine lv_iconst (v := 4) hx hb (by decide +kernel : decode prog_3_method_1_code 16 = .ok (.iconst 4, 1)) (by decide) ?_
  refine nwI (N' := 4) hx hb (hts _ (gT_in 142 (by decide +kernel) rfl)) hK hP hD hS hA (by decide) (by decide) (by decide) (Nat.le_of_ble_eq_true rfl) (Nat.le_of_ble_eq_true rfl) (by decide +kernel : decode prog_3_method_1_code 17 = .ok (.newarray .int, 2)) (fun q2 H hP hD hS => ?_)
  have hP : va_P D gCl ((h0, .inr (0, [.ref q1, .null, .null])) :: (([] ++ wSh cI u1 q1) ++ [(q2, .inl (cI, 4, .inl (fun _ => 0)))])) _ := hP
  have hD : va_D A ((h0, .inr (0, [.ref q1, .null, .null])) :: (([] ++ wSh cI u1 q1) ++ [(q2, .inl (cI, 4, .inl (fun _ => 0)))])) := hD
  refine W.widen (k := 9) (n := 73) (Nat.le_of_ble_eq_true rfl) (Nat.le_of_ble_eq_true rfl) ?_
  refine va_putF (D := D) (ci := 0) (v := .ref q2) (ty := (.array .int)) (C := RX1) (T := TX1) (N := 3) hx hb hts inX1 tyX1 tyX1_ok nmX1 hown hK hP hD hS 0 rfl rfl 1 (by decide) (hts _ (gT_in 172 (by decide +kernel) rfl)) (fun _ h9 => h9) rfl hin rfl (by decide +kernel) rfl rfl (Nat.le_of_ble_eq_true rfl) (by decide +kernel : decode prog_3_method_1_code 19 = .ok (.putfield 18, 3)) (fun H locs hP hD hS => ?_)
  have hP : va_P D gCl ((h0, .inr (0, [.ref q1, .ref q2, .null])) :: (([] ++ wSh cI u1 q1) ++ [(q2, .inl (cI, 4, .inl (fun _ => 0)))])) _ := hP
  have hD : va_D A ((h0, .inr (0, [.ref q1, .ref q2, .null])) :: (([] ++ wSh cI u1 q1) ++ [(q2, .inl (cI, 4, .inl (fun _ => 0)))])) := hD
  refine lv_aload_n hx hb (by decide +kernel : decode prog_3_method_1_code 22 = .ok (.aload_n 0, 1)) rfl (lv_at hl 0 rfl) ?_
  refine lv_iconst (v := 4) hx hb (by decide +kernel : decode prog_3_method_1_code 23 = .ok (.iconst 4, 1)) (by decide) ?_
  refine nwI (N' := 4) hx hb (hts _ (gT_in 142 (by decide +kernel) rfl)) hK hP hD hS hA (by decide) (by decide) (by decide) (Nat.le_of_ble_eq_true rfl) (Nat.le_of_ble_eq_true rfl) (by decide +kernel : decode prog_3_method_1_code 24 = .ok (.newarray .int, 2)) (fun q3 H hP hD hS => ?_)
  have hP : va_P D gCl ((h0, .inr (0, [.ref q1, .ref q2, .null])) :: ((([] ++ wSh cI u1 q1) ++ [(q2, .inl (cI, 4, .inl (fun _ => 0)))]) ++ [(q3, .inl (cI, 4, .inl (fun _ => 0)))])) _ := hP
  have hD : va_D A ((h0, .inr (0, [.ref q1, .ref q2, .null])) :: ((([] ++ wSh cI u1 q1) ++ [(q2, .inl (cI, 4, .inl (fun _ => 0)))]) ++ [(q3, .inl (cI, 4, .inl (fun _ => 0)))])) := hD
  refine W.widen (k := 10) (n := 77) (Nat.le_of_ble_eq_true rfl) (Nat.le_of_ble_eq_true rfl) ?_
  refine va_putF (D := D) (ci := 0) (v := .ref q3) (ty := (.array .int)) (C := RX1) (T := TX1) (N := 3) hx hb hts inX1 tyX1 tyX1_ok nmX1 hown hK hP hD hS 0 rfl rfl 2 (by decide) (hts _ (gT_in 173 (by decide +kernel) rfl)) (fun _ h9 => h9) rfl hin rfl (by decide +kernel) rfl rfl (Nat.le_of_ble_eq_true rfl) (by decide +kernel : decode prog_3_method_1_code 26 = .ok (.putfield 22, 3)) (fun H locs hP hD hS => ?_)
  have hP : va_P D gCl ((h0, .inr (0, [.ref q1, .ref q2, .ref q3])) :: ((([] ++ wSh cI u1 q1) ++ [(q2, .inl (cI, 4, .inl (fun _ => 0)))]) ++ [(q3, .inl (cI, 4, .inl (fun _ => 0)))])) _ := hP
  have hD : va_D A ((h0, .inr (0, [.ref q1, .ref q2, .ref q3])) :: ((([] ++ wSh cI u1 q1) ++ [(q2, .inl (cI, 4, .inl (fun _ => 0)))]) ++ [(q3, .inl (cI, 4, .inl (fun _ => 0)))])) := hD
  refine W.widen (k := 10) (n := 77) (Nat.le_of_ble_eq_true rfl) (Nat.le_of_ble_eq_true rfl) ?_
  exact W.vret hx hb hr (fun t ht hW => ⟨⟨((fun k => match k with | 0 => q1 | 1 => q2 | _ => q3), u1), rfl, trivial, by rw [ht]; exact hP, va_K.moved hW.alike hK, hD⟩, hS.F ht⟩) hS.2.2 (by decide +kernel : decode prog_3_method_1_code 29 = .ok (.return_, 1))
