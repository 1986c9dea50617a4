theorem nF_le (c : Nat) : nF c ≤ 27 := by
  unfold nF
  split <;> decide
/-! ONE STEP -/
set_option maxHeartbeats 4000000 in
set_option maxRecDepth 100000 in
theorem step_sound {M : MethT} {d : Nat} {Q : Option AV → St → Prop} {b u : Bool} {P : Option Prop} {c c' : Cfg} (h : step1 (mC M) b c = some (c', P, u)) (hP : ∀ q, P = some q → q) (k : AW M d Q c') : AW M d Q c := by
  intro G p l e R s m args below meth cd H locs cells slots la QQ hC hR hS hl ho hv hret
  obtain ⟨pc, ls, st, σ⟩ := c
  obtain ⟨hx, hb, hml, hown, hts, hnw, hK, hfr, hlo, hce, hsl, htab⟩ := id hC
  obtain ⟨hPw, hDw, hsc⟩ := id hR
  dsimp only at hPw hDw hsc hl ho hv hR ⊢
  unfold step1 at h
  dsimp only at h
  cases hlk : lkc (mC M) pc with
  | none => rw [hlk] at h; cases h
  | some ent =>
    obtain ⟨ins, len, v, n1, n2, n3⟩ := ent
    rw [hlk] at h
    have hm := lkc_mem hlk
    have hok := List.all_eq_true.mp htab _ hm
    rw [Bool.and_eq_true] at hok
    obtain ⟨hok, hix⟩ := hok
    unfold ceOK at hok
    rw [Bool.and_eq_true] at hok
    obtain ⟨hdg, hin⟩ := hok
    replace hdg : decode (mB M) pc = .ok (ins, len) := of_decide_eq_true hdg
    cases ins
    case iconst n =>
      dsimp only at h hin hix
      obtain ⟨rfl, hvv⟩ := of_decide_eq_true hin
      cases h
      refine lv_iconst hx hb hdg hvv ?_
      exact k G p l e R s m args below meth cd H locs cells slots la QQ hC hR hS hl ho (List.forall_mem_cons.mpr ⟨trivial, hv⟩) hret
    case bipush n =>
      dsimp only at h hin hix
      obtain ⟨rfl, hvv⟩ := of_decide_eq_true hin
      cases h
      refine lv_bipush hx hb hdg hvv ?_
      exact k G p l e R s m args below meth cd H locs cells slots la QQ hC hR hS hl ho (List.forall_mem_cons.mpr ⟨trivial, hv⟩) hret
    case sipush n =>
      dsimp only at h hin hix
      obtain ⟨rfl, hvv⟩ := of_decide_eq_true hin
      cases h
      refine lv_sipush hx hb hdg hvv ?_
      exact k G p l e R s m args below meth cd H locs cells slots la QQ hC hR hS hl ho (List.forall_mem_cons.mpr ⟨trivial, hv⟩) hret
    case ldc i =>
      dsimp only at h hin hix
      obtain ⟨rfl, hvv⟩ := of_decide_eq_true hin
      cases h
      refine lv_ldc hx hb hown (hts _ (cstL_in hvv)) hdg ?_
      exact k G p l e R s m args below meth cd H locs cells slots la QQ hC hR hS hl ho (List.forall_mem_cons.mpr ⟨trivial, hv⟩) hret
    case ldc_w i =>
      dsimp only at h hin hix
      obtain ⟨rfl, hvv⟩ := of_decide_eq_true hin
      cases h
      refine lv_ldcw hx hb hown (hts _ (cstL_in hvv)) hdg ?_
      exact k G p l e R s m args below meth cd H locs cells slots la QQ hC hR hS hl ho (List.forall_mem_cons.mpr ⟨trivial, hv⟩) hret
    case ldc2_w i =>
      dsimp only at h hin hix
      obtain ⟨rfl, hvv⟩ := of_decide_eq_true hin
      cases h
      refine lv_ldc2 hx hb hown (hts _ (cs2L_in hvv)) hdg ?_
      exact k G p l e R s m args below meth cd H locs cells slots la QQ hC hR hS hl ho (List.forall_mem_cons.mpr ⟨trivial, hv⟩) hret
    case lconst n =>
      dsimp only at h hin hix
      obtain ⟨rfl, hvv⟩ := of_decide_eq_true hin
      cases h
      refine lv_lconst hx hb hdg (by rw [hvv]) ?_
      exact k G p l e R s m args below meth cd H locs cells slots la QQ hC hR hS hl ho (List.forall_mem_cons.mpr ⟨trivial, hv⟩) hret
    case iload_n kk =>
      dsimp only at h hin hix
      replace hin := of_decide_eq_true hin
      subst hin
      split at h
      · rename_i x hlx
        cases h
        refine lv_iload_n hx hb hdg rfl (lv_cls hl hlx) ?_
        exact k G p l e R s m args below meth cd H locs cells slots la QQ hC hR hS hl ho (List.forall_mem_cons.mpr ⟨trivial, hv⟩) hret
      · cases h
    case iload kk =>
      dsimp only at h hin hix
      replace hin := of_decide_eq_true hin
      subst hin
      split at h
      · rename_i x hlx
        cases h
        refine lv_iload hx hb hdg (lv_cls hl hlx) ?_
        exact k G p l e R s m args below meth cd H locs cells slots la QQ hC hR hS hl ho (List.forall_mem_cons.mpr ⟨trivial, hv⟩) hret
      · cases h
    case lload_n kk =>
      dsimp only at h hin hix
      replace hin := of_decide_eq_true hin
      subst hin
      split at h
      · rename_i x hlx
        cases h
        refine lv_lload_n hx hb hdg rfl (lv_cls hl hlx) ?_
        exact k G p l e R s m args below meth cd H locs cells slots la QQ hC hR hS hl ho (List.forall_mem_cons.mpr ⟨trivial, hv⟩) hret
      · cases h
    case lload kk =>
      dsimp only at h hin hix
      replace hin := of_decide_eq_true hin
      subst hin
      split at h
      · rename_i x hlx
        cases h
        refine lv_lload hx hb hdg (lv_cls hl hlx) ?_
        exact k G p l e R s m args below meth cd H locs cells slots la QQ hC hR hS hl ho (List.forall_mem_cons.mpr ⟨trivial, hv⟩) hret
      · cases h
    case aload_n kk =>
      dsimp only at h hin hix
      replace hin := of_decide_eq_true hin
      subst hin
      split at h
      · rename_i x hlx
        cases h
        refine lv_aload_n hx hb hdg rfl (lv_cls hl hlx) ?_
        exact k G p l e R s m args below meth cd H locs cells slots la QQ hC hR hS hl ho (List.forall_mem_cons.mpr ⟨ho _ (lkL_mem hlx), hv⟩) hret
      · cases h
    case aload kk =>
      dsimp only at h hin hix
      replace hin := of_decide_eq_true hin
      subst hin
      split at h
      · rename_i x hlx
        cases h
        refine lv_aload hx hb hdg (lv_cls hl hlx) ?_
        exact k G p l e R s m args below meth cd H locs cells slots la QQ hC hR hS hl ho (List.forall_mem_cons.mpr ⟨ho _ (lkL_mem hlx), hv⟩) hret
      · cases h
    case istore_n kk =>
      dsimp only at h hin hix
      replace hin := of_decide_eq_true hin
      subst hin
      replace hix := of_decide_eq_true hix
      split at h
      · rename_i x r
        cases h
        obtain ⟨hv1, hv2⟩ := List.forall_mem_cons.mp hv
        refine lv_istore_n hx hb hdg rfl hl hix rfl (fun la2 hl2 => ?_)
        rw [← stI_cls] at hl2
        exact k G p l e R s m args below meth cd H locs cells slots la2 QQ hC hR hS hl2 (List.forall_mem_cons.mpr ⟨hv1, fun q hq => ho q (stI_mem hq)⟩) hv2 hret
      · cases h
    case istore kk =>
      dsimp only at h hin hix
      replace hin := of_decide_eq_true hin
      subst hin
      replace hix := of_decide_eq_true hix
      split at h
      · rename_i x r
        cases h
        obtain ⟨hv1, hv2⟩ := List.forall_mem_cons.mp hv
        refine lv_istore hx hb hdg hl hix rfl (fun la2 hl2 => ?_)
        rw [← stI_cls] at hl2
        exact k G p l e R s m args below meth cd H locs cells slots la2 QQ hC hR hS hl2 (List.forall_mem_cons.mpr ⟨hv1, fun q hq => ho q (stI_mem hq)⟩) hv2 hret
      · cases h
    case astore_n kk =>
      dsimp only at h hin hix
      replace hin := of_decide_eq_true hin
      subst hin
      replace hix := of_decide_eq_true hix
      split at h
      · rename_i x r
        cases h
        obtain ⟨hv1, hv2⟩ := List.forall_mem_cons.mp hv
        refine lv_astore_n hx hb hdg rfl hl hix rfl (fun la2 hl2 => ?_)
        rw [← stI_cls] at hl2
        exact k G p l e R s m args below meth cd H locs cells slots la2 QQ hC hR hS hl2 (List.forall_mem_cons.mpr ⟨hv1, fun q hq => ho q (stI_mem hq)⟩) hv2 hret
      · cases h
    case astore kk =>
      dsimp only at h hin hix
      replace hin := of_decide_eq_true hin
      subst hin
      replace hix := of_decide_eq_true hix
      split at h
      · rename_i x r
        cases h
        obtain ⟨hv1, hv2⟩ := List.forall_mem_cons.mp hv
        refine lv_astore hx hb hdg hl hix rfl (fun la2 hl2 => ?_)
        rw [← stI_cls] at hl2
        exact k G p l e R s m args below meth cd H locs cells slots la2 QQ hC hR hS hl2 (List.forall_mem_cons.mpr ⟨hv1, fun q hq => ho q (stI_mem hq)⟩) hv2 hret
      · cases h
    case lstore_n kk =>
      dsimp only at h hin hix
      replace hin := of_decide_eq_true hin
      subst hin
      replace hix := of_decide_eq_true hix
      split at h
      · rename_i x r
        cases h
        obtain ⟨hv1, hv2⟩ := List.forall_mem_cons.mp hv
        refine lv_lstore_n hx hb hdg rfl hl hix rfl (fun la2 hl2 => ?_)
        have hl3 : lv_has la2 (mL M) (cls G.2.2.2.1 ((kk.val, .inr (.inl x)) :: stI (stI ls kk.val) (kk.val + 1))) := by
          refine lv_mono hl2 (fun q hq => ?_)
          rcases List.mem_cons.mp hq with rfl | hq
          · exact List.mem_cons_self
          · refine List.mem_cons_of_mem _ ?_
            have h9 : q ∈ cls G.2.2.2.1 (stI (stI ls kk.val) (kk.val + 1)) := hq
            rw [stI_cls, stI_cls] at h9
            simp only [List.mem_filter, Bool.and_eq_true] at h9 ⊢
            exact ⟨h9.1.1, h9.1.2.1, h9.2.1, h9.1.2.2⟩
        exact k G p l e R s m args below meth cd H locs cells slots la2 QQ hC hR hS hl3 (List.forall_mem_cons.mpr ⟨hv1, fun q hq => ho q (stI_mem (stI_mem hq))⟩) hv2 hret
      · cases h
    case lstore kk =>
      dsimp only at h hin hix
      replace hin := of_decide_eq_true hin
      subst hin
      replace hix := of_decide_eq_true hix
      split at h
      · rename_i x r
        cases h
        obtain ⟨hv1, hv2⟩ := List.forall_mem_cons.mp hv
        refine lv_lstore hx hb hdg hl hix rfl (fun la2 hl2 => ?_)
        have hl3 : lv_has la2 (mL M) (cls G.2.2.2.1 ((kk, .inr (.inl x)) :: stI (stI ls kk) (kk + 1))) := by
          refine lv_mono hl2 (fun q hq => ?_)
          rcases List.mem_cons.mp hq with rfl | hq
          · exact List.mem_cons_self
          · refine List.mem_cons_of_mem _ ?_
            have h9 : q ∈ cls G.2.2.2.1 (stI (stI ls kk) (kk + 1)) := hq
            rw [stI_cls, stI_cls] at h9
            simp only [List.mem_filter, Bool.and_eq_true] at h9 ⊢
            exact ⟨h9.1.1, h9.1.2.1, h9.2.1, h9.1.2.2⟩
        exact k G p l e R s m args below meth cd H locs cells slots la2 QQ hC hR hS hl3 (List.forall_mem_cons.mpr ⟨hv1, fun q hq => ho q (stI_mem (stI_mem hq))⟩) hv2 hret
      · cases h
    case iinc kk nn =>
      dsimp only at h hin hix
      obtain ⟨rfl, hvv⟩ := of_decide_eq_true hin
      split at h
      · rename_i x hlx
        cases h
        have hlx2 := lv_cls hl hlx
        have hl0 : lv_has la (mL M) ((kk, .int x) :: cls G.2.2.2.1 ls) := ⟨hl.1, hl.2.1, List.forall_mem_cons.mpr ⟨hlx2, hl.2.2⟩⟩
        refine lv_iinc hx hb hdg hl0 (k := 0) rfl (by rw [hvv]) (lv_idx hl hlx) rfl (fun la2 hl2 => ?_)
        have hl3 : lv_has la2 (mL M) (cls G.2.2.2.1 ((kk, .inl (x + v)) :: stI ls kk)) := by
          refine lv_mono hl2 (fun q hq => ?_)
          rcases List.mem_cons.mp hq with rfl | hq
          · exact List.mem_cons_self
          · refine List.mem_cons_of_mem _ ?_
            have h9 : q ∈ cls G.2.2.2.1 (stI ls kk) := hq
            rw [stI_cls] at h9
            rw [List.mem_filter] at h9 ⊢
            exact ⟨List.mem_cons_of_mem _ h9.1, h9.2⟩
        exact k G p l e R s m args below meth cd H locs cells slots la2 QQ hC hR hS hl3 (List.forall_mem_cons.mpr ⟨trivial, fun q hq => ho q (stI_mem hq)⟩) hv hret
      · cases h
    case iadd =>
      dsimp only at h hin hix
      replace hin := of_decide_eq_true hin
      subst hin
      split at h
      · rename_i y x r
        cases h
        refine lv_iadd hx hb hdg ?_
        exact k G p l e R s m args below meth cd H locs cells slots la QQ hC hR hS hl ho (List.forall_mem_cons.mpr ⟨trivial, (List.forall_mem_cons.mp (List.forall_mem_cons.mp hv).2).2⟩) hret
      · cases h
    case isub =>
      dsimp only at h hin hix
      replace hin := of_decide_eq_true hin
      subst hin
      split at h
      · rename_i y x r
        cases h
        refine lv_isub hx hb hdg ?_
        exact k G p l e R s m args below meth cd H locs cells slots la QQ hC hR hS hl ho (List.forall_mem_cons.mpr ⟨trivial, (List.forall_mem_cons.mp (List.forall_mem_cons.mp hv).2).2⟩) hret
      · cases h
    case imul =>
      dsimp only at h hin hix
      replace hin := of_decide_eq_true hin
      subst hin
      split at h
      · rename_i y x r
        cases h
        refine lv_imul hx hb hdg ?_
        exact k G p l e R s m args below meth cd H locs cells slots la QQ hC hR hS hl ho (List.forall_mem_cons.mpr ⟨trivial, (List.forall_mem_cons.mp (List.forall_mem_cons.mp hv).2).2⟩) hret
      · cases h
    case iand =>
      dsimp only at h hin hix
      replace hin := of_decide_eq_true hin
      subst hin
      split at h
      · rename_i y x r
        cases h
        refine lv_iand hx hb hdg ?_
        exact k G p l e R s m args below meth cd H locs cells slots la QQ hC hR hS hl ho (List.forall_mem_cons.mpr ⟨trivial, (List.forall_mem_cons.mp (List.forall_mem_cons.mp hv).2).2⟩) hret
      · cases h
    case ior =>
      dsimp only at h hin hix
      replace hin := of_decide_eq_true hin
      subst hin
      split at h
      · rename_i y x r
        cases h
        refine lv_ior hx hb hdg ?_
        exact k G p l e R s m args below meth cd H locs cells slots la QQ hC hR hS hl ho (List.forall_mem_cons.mpr ⟨trivial, (List.forall_mem_cons.mp (List.forall_mem_cons.mp hv).2).2⟩) hret
      · cases h
    case ixor =>
      dsimp only at h hin hix
      replace hin := of_decide_eq_true hin
      subst hin
      split at h
      · rename_i y x r
        cases h
        refine lv_ixor hx hb hdg ?_
        exact k G p l e R s m args below meth cd H locs cells slots la QQ hC hR hS hl ho (List.forall_mem_cons.mpr ⟨trivial, (List.forall_mem_cons.mp (List.forall_mem_cons.mp hv).2).2⟩) hret
      · cases h
    case ishl =>
      dsimp only at h hin hix
      replace hin := of_decide_eq_true hin
      subst hin
      split at h
      · rename_i y x r
        cases h
        refine lv_ishl hx hb hdg ?_
        exact k G p l e R s m args below meth cd H locs cells slots la QQ hC hR hS hl ho (List.forall_mem_cons.mpr ⟨trivial, (List.forall_mem_cons.mp (List.forall_mem_cons.mp hv).2).2⟩) hret
      · cases h
    case ishr =>
      dsimp only at h hin hix
      replace hin := of_decide_eq_true hin
      subst hin
      split at h
      · rename_i y x r
        cases h
        refine lv_ishr hx hb hdg ?_
        exact k G p l e R s m args below meth cd H locs cells slots la QQ hC hR hS hl ho (List.forall_mem_cons.mpr ⟨trivial, (List.forall_mem_cons.mp (List.forall_mem_cons.mp hv).2).2⟩) hret
      · cases h
    case ladd =>
      dsimp only at h hin hix
      replace hin := of_decide_eq_true hin
      subst hin
      split at h
      · rename_i y x r
        cases h
        refine lv_ladd hx hb hdg ?_
        exact k G p l e R s m args below meth cd H locs cells slots la QQ hC hR hS hl ho (List.forall_mem_cons.mpr ⟨trivial, (List.forall_mem_cons.mp (List.forall_mem_cons.mp hv).2).2⟩) hret
      · cases h
    case lsub =>
      dsimp only at h hin hix
      replace hin := of_decide_eq_true hin
      subst hin
      split at h
      · rename_i y x r
        cases h
        refine lv_lsub hx hb hdg ?_
        exact k G p l e R s m args below meth cd H locs cells slots la QQ hC hR hS hl ho (List.forall_mem_cons.mpr ⟨trivial, (List.forall_mem_cons.mp (List.forall_mem_cons.mp hv).2).2⟩) hret
      · cases h
    case lmul =>
      dsimp only at h hin hix
      replace hin := of_decide_eq_true hin
      subst hin
      split at h
      · rename_i y x r
        cases h
        refine lv_lmul hx hb hdg ?_
        exact k G p l e R s m args below meth cd H locs cells slots la QQ hC hR hS hl ho (List.forall_mem_cons.mpr ⟨trivial, (List.forall_mem_cons.mp (List.forall_mem_cons.mp hv).2).2⟩) hret
      · cases h
    case idiv =>
      dsimp only at h hin hix
      replace hin := of_decide_eq_true hin
      subst hin
      split at h
      · rename_i y x r
        cases h
        refine lv_idiv hx hb hdg (hP _ rfl) ?_
        exact k G p l e R s m args below meth cd H locs cells slots la QQ hC hR hS hl ho (List.forall_mem_cons.mpr ⟨trivial, (List.forall_mem_cons.mp (List.forall_mem_cons.mp hv).2).2⟩) hret
      · cases h
    case irem =>
      dsimp only at h hin hix
      replace hin := of_decide_eq_true hin
      subst hin
      split at h
      · rename_i y x r
        cases h
        refine lv_irem hx hb hdg (hP _ rfl) ?_
        exact k G p l e R s m args below meth cd H locs cells slots la QQ hC hR hS hl ho (List.forall_mem_cons.mpr ⟨trivial, (List.forall_mem_cons.mp (List.forall_mem_cons.mp hv).2).2⟩) hret
      · cases h
    case ldiv =>
      dsimp only at h hin hix
      replace hin := of_decide_eq_true hin
      subst hin
      split at h
      · rename_i y x r
        cases h
        refine lv_ldiv hx hb hdg (hP _ rfl) ?_
        exact k G p l e R s m args below meth cd H locs cells slots la QQ hC hR hS hl ho (List.forall_mem_cons.mpr ⟨trivial, (List.forall_mem_cons.mp (List.forall_mem_cons.mp hv).2).2⟩) hret
      · cases h
    case lrem =>
      dsimp only at h hin hix
      replace hin := of_decide_eq_true hin
      subst hin
      split at h
      · rename_i y x r
        cases h
        refine lv_lrem hx hb hdg (hP _ rfl) ?_
        exact k G p l e R s m args below meth cd H locs cells slots la QQ hC hR hS hl ho (List.forall_mem_cons.mpr ⟨trivial, (List.forall_mem_cons.mp (List.forall_mem_cons.mp hv).2).2⟩) hret
      · cases h
    case iushr =>
      dsimp only at h hin hix
      replace hin := of_decide_eq_true hin
      subst hin
      split at h
      · rename_i y x r
        cases h
        refine lv_iushr hx hb hdg rfl ?_
        exact k G p l e R s m args below meth cd H locs cells slots la QQ hC hR hS hl ho (List.forall_mem_cons.mpr ⟨trivial, (List.forall_mem_cons.mp (List.forall_mem_cons.mp hv).2).2⟩) hret
      · cases h
    case lcmp =>
      dsimp only at h hin hix
      replace hin := of_decide_eq_true hin
      subst hin
      split at h
      · rename_i y x r
        cases h
        refine W.lcmp hx hb hdg ?_
        exact k G p l e R s m args below meth cd H locs cells slots la QQ hC hR hS hl ho (List.forall_mem_cons.mpr ⟨trivial, (List.forall_mem_cons.mp (List.forall_mem_cons.mp hv).2).2⟩) hret
      · cases h
    case ineg =>
      dsimp only at h hin hix
      replace hin := of_decide_eq_true hin
      subst hin
      split at h
      · rename_i x r
        cases h
        refine lv_ineg hx hb hdg ?_
        exact k G p l e R s m args below meth cd H locs cells slots la QQ hC hR hS hl ho (List.forall_mem_cons.mpr ⟨trivial, (List.forall_mem_cons.mp hv).2⟩) hret
      · cases h
    case i2l =>
      dsimp only at h hin hix
      replace hin := of_decide_eq_true hin
      subst hin
      split at h
      · rename_i x r
        cases h
        refine lv_i2l hx hb hdg rfl ?_
        exact k G p l e R s m args below meth cd H locs cells slots la QQ hC hR hS hl ho (List.forall_mem_cons.mpr ⟨trivial, (List.forall_mem_cons.mp hv).2⟩) hret
      · cases h
    case dup =>
      dsimp only at h hin hix
      replace hin := of_decide_eq_true hin
      subst hin
      split at h
      · rename_i x r
        cases h
        refine lv_dup hx hb hdg rfl ?_
        exact k G p l e R s m args below meth cd H locs cells slots la QQ hC hR hS hl ho (List.forall_mem_cons.mpr ⟨trivial, hv⟩) hret
      · rename_i x r
        cases h
        refine lv_dup hx hb hdg rfl ?_
        exact k G p l e R s m args below meth cd H locs cells slots la QQ hC hR hS hl ho (List.forall_mem_cons.mpr ⟨(List.forall_mem_cons.mp hv).1, hv⟩) hret
      · cases h
    case dup2 =>
      dsimp only at h hin hix
      replace hin := of_decide_eq_true hin
      subst hin
      split at h
      · rename_i x y r
        cases h
        refine lv_dup2_11 hx hb hdg rfl rfl ?_
        exact k G p l e R s m args below meth cd H locs cells slots la QQ hC hR hS hl ho (List.forall_mem_cons.mpr ⟨trivial, List.forall_mem_cons.mpr ⟨(List.forall_mem_cons.mp (List.forall_mem_cons.mp hv).2).1, hv⟩⟩) hret
      · cases h
    case goto n =>
      dsimp only at h hin hix
      obtain ⟨rfl, ht⟩ := of_decide_eq_true hin
      cases h
      refine lv_goto hx hb hdg ht ?_
      exact k G p l e R s m args below meth cd H locs cells slots la QQ hC hR hS hl ho hv hret
    case if_icmp cnd n =>
      dsimp only at h hin hix
      obtain ⟨rfl, ht⟩ := of_decide_eq_true hin
      split at h
      · rename_i y x r
        have hv2 := (List.forall_mem_cons.mp (List.forall_mem_cons.mp hv).2).2
        cases b
        · cases h
          have hq := hP _ rfl
          cases cnd
          case eq => exact lv_icmp_eq hx hb hdg ht (fun h9 => absurd h9 hq) (fun _ => k G p l e R s m args below meth cd H locs cells slots la QQ hC hR hS hl ho hv2 hret)
          case ne => exact lv_icmp_ne hx hb hdg ht (fun h9 => absurd h9 hq) (fun _ => k G p l e R s m args below meth cd H locs cells slots la QQ hC hR hS hl ho hv2 hret)
          case lt => exact lv_icmp_lt hx hb hdg ht (fun h9 => absurd h9 hq) (fun _ => k G p l e R s m args below meth cd H locs cells slots la QQ hC hR hS hl ho hv2 hret)
          case ge => exact lv_icmp_ge hx hb hdg ht (fun h9 => absurd h9 hq) (fun _ => k G p l e R s m args below meth cd H locs cells slots la QQ hC hR hS hl ho hv2 hret)
          case gt => exact lv_icmp_gt hx hb hdg ht (fun h9 => absurd h9 hq) (fun _ => k G p l e R s m args below meth cd H locs cells slots la QQ hC hR hS hl ho hv2 hret)
          case le => exact lv_icmp_le hx hb hdg ht (fun h9 => absurd h9 hq) (fun _ => k G p l e R s m args below meth cd H locs cells slots la QQ hC hR hS hl ho hv2 hret)
        · cases h
          have hq := hP _ rfl
          cases cnd
          case eq => exact lv_icmp_eq hx hb hdg ht (fun _ => k G p l e R s m args below meth cd H locs cells slots la QQ hC hR hS hl ho hv2 hret) (fun h9 => absurd hq h9)
          case ne => exact lv_icmp_ne hx hb hdg ht (fun _ => k G p l e R s m args below meth cd H locs cells slots la QQ hC hR hS hl ho hv2 hret) (fun h9 => absurd h9 hq)
          case lt => exact lv_icmp_lt hx hb hdg ht (fun _ => k G p l e R s m args below meth cd H locs cells slots la QQ hC hR hS hl ho hv2 hret) (fun h9 => absurd hq h9)
          case ge => exact lv_icmp_ge hx hb hdg ht (fun _ => k G p l e R s m args below meth cd H locs cells slots la QQ hC hR hS hl ho hv2 hret) (fun h9 => absurd hq h9)
          case gt => exact lv_icmp_gt hx hb hdg ht (fun _ => k G p l e R s m args below meth cd H locs cells slots la QQ hC hR hS hl ho hv2 hret) (fun h9 => absurd hq h9)
          case le => exact lv_icmp_le hx hb hdg ht (fun _ => k G p l e R s m args below meth cd H locs cells slots la QQ hC hR hS hl ho hv2 hret) (fun h9 => absurd hq h9)
      · cases h
    case ifCond cnd n =>
      dsimp only at h hin hix
      obtain ⟨rfl, ht⟩ := of_decide_eq_true hin
      split at h
      · rename_i x r
        have hv2 := (List.forall_mem_cons.mp hv).2
        cases b
        · cases h
          have hq := hP _ rfl
          cases cnd
          case eq => exact lv_if_eq hx hb hdg ht (fun h9 => absurd h9 hq) (fun _ => k G p l e R s m args below meth cd H locs cells slots la QQ hC hR hS hl ho hv2 hret)
          case ne => exact lv_if_ne hx hb hdg ht (fun h9 => absurd h9 hq) (fun _ => k G p l e R s m args below meth cd H locs cells slots la QQ hC hR hS hl ho hv2 hret)
          case lt => exact lv_if_lt hx hb hdg ht (fun h9 => absurd h9 hq) (fun _ => k G p l e R s m args below meth cd H locs cells slots la QQ hC hR hS hl ho hv2 hret)
          case ge => exact lv_if_ge hx hb hdg ht (fun h9 => absurd h9 hq) (fun _ => k G p l e R s m args below meth cd H locs cells slots la QQ hC hR hS hl ho hv2 hret)
          case gt => exact lv_if_gt hx hb hdg ht (fun h9 => absurd h9 hq) (fun _ => k G p l e R s m args below meth cd H locs cells slots la QQ hC hR hS hl ho hv2 hret)
          case le => exact lv_if_le hx hb hdg ht (fun h9 => absurd h9 hq) (fun _ => k G p l e R s m args below meth cd H locs cells slots la QQ hC hR hS hl ho hv2 hret)
        · cases h
          have hq := hP _ rfl
          cases cnd
          case eq => exact lv_if_eq hx hb hdg ht (fun _ => k G p l e R s m args below meth cd H locs cells slots la QQ hC hR hS hl ho hv2 hret) (fun h9 => absurd hq h9)
          case ne => exact lv_if_ne hx hb hdg ht (fun _ => k G p l e R s m args below meth cd H locs cells slots la QQ hC hR hS hl ho hv2 hret) (fun h9 => absurd h9 hq)
          case lt => exact lv_if_lt hx hb hdg ht (fun _ => k G p l e R s m args below meth cd H locs cells slots la QQ hC hR hS hl ho hv2 hret) (fun h9 => absurd hq h9)
          case ge => exact lv_if_ge hx hb hdg ht (fun _ => k G p l e R s m args below meth cd H locs cells slots la QQ hC hR hS hl ho hv2 hret) (fun h9 => absurd hq h9)
          case gt => exact lv_if_gt hx hb hdg ht (fun _ => k G p l e R s m args below meth cd H locs cells slots la QQ hC hR hS hl ho hv2 hret) (fun h9 => absurd hq h9)
          case le => exact lv_if_le hx hb hdg ht (fun _ => k G p l e R s m args below meth cd H locs cells slots la QQ hC hR hS hl ho hv2 hret) (fun h9 => absurd hq h9)
      · cases h
    case ifnull n =>
      dsimp only at h hin hix
      obtain ⟨rfl, ht⟩ := of_decide_eq_true hin
      split at h
      · rename_i x r
        cases h
        refine lv_ifnull hx hb hdg ?_
        exact k G p l e R s m args below meth cd H locs cells slots la QQ hC hR hS hl ho (List.forall_mem_cons.mp hv).2 hret
      · cases h
    case ifnonnull n =>
      dsimp only at h hin hix
      obtain ⟨rfl, ht⟩ := of_decide_eq_true hin
      split at h
      · rename_i x r
        cases h
        refine lv_ifnonnull hx hb hdg ht ?_
        exact k G p l e R s m args below meth cd H locs cells slots la QQ hC hR hS hl ho (List.forall_mem_cons.mp hv).2 hret
      · cases h
    case getfield idx =>
      dsimp only at h hin hix
      obtain ⟨rfl, hfl⟩ := of_decide_eq_true hin
      obtain ⟨h6, hkN, hlink⟩ := fldL_in hfl
      split at h
      · rename_i cc i r
        split at h
        · rename_i hcc
          have := Nat.eq_of_beq_eq_true hcc
          subst this
          obtain ⟨hv1, hv2⟩ := List.forall_mem_cons.mp hv
          have hd : (cc, i, 0) ∈ domL := by
            rcases hv1 with h9 | h9
            · exact h9
            · cases h9
          obtain ⟨q0, -, hq0⟩ := wsG_at (G := G) (σ := σ) hd
          rw [cellOf_obj] at hq0
          have hfs : ((List.range (nF cc)).map (fv G.2.2.2.1 σ cc i))[n2]? = some (fv G.2.2.2.1 σ cc i n2) := by
            rw [List.getElem?_map, List.getElem?_range hkN]; rfl
          have hNF := gCl_nF cc h6
          have hgo : W p l e R s m args below meth cd H locs cells slots QQ (F0 m (pc + 3) la (fv G.2.2.2.1 σ cc i n2 :: r.map (cv G.2.2.2.1))) := by
            split at h
            · rename_i q hq
              cases h
              have hnx := k G p l e R s m args below meth cd H locs cells slots la QQ hC hR hS hl ho (List.forall_mem_cons.mpr ⟨Or.inl (domL_ref _ hd rfl n2 (Nat.lt_of_lt_of_le hkN (nF_le cc)) q (by rw [hq]; exact List.mem_cons_self)), hv2⟩) hret
              have e9 : fv G.2.2.2.1 σ cc i n2 = .ref (G.2.2.2.1 q) := by simp only [fv, hq]
              rw [e9]
              exact hnx
            · rename_i hq
              cases h
              have hnx := k G p l e R s m args below meth cd H locs cells slots la QQ hC hR hS hl ho (List.forall_mem_cons.mpr ⟨trivial, hv2⟩) hret
              have e9 : fv G.2.2.2.1 σ cc i n2 = .int (σ cc i 0 n2) := by simp only [fv, hq]
              rw [e9]
              exact hnx
          rcases hlink with ⟨rfl, hlink⟩ | ⟨rfl, hlink⟩
          · exact va_get (D := G.2.2.1) (cl := gCl) (tys := tysG G) hx hb hts (gCl_ws _ (List.mem_of_getElem? (gCl_at h6))) hown hK hPw q0 hq0 (gCl_at h6) n2 (by rw [hNF]; exact hkN) (hts _ hlink) (fun _ h9 => h9) hfs hdg hgo
          · exact va_getN (D := G.2.2.1) (cl := gCl) (tys := tysG G) (host := "GingerArmy") hx hb hts (gCl_ws _ (List.mem_of_getElem? (gCl_at h6))) hown hK hPw q0 hq0 (gCl_at h6) n2 (by rw [hNF]; exact hkN) (va_Nw.use rfl (hnw _ hlink)) (fun _ h9 => h9) hfs hdg hgo
        · cases h
      · cases h
    case putfield idx =>
      dsimp only at h hin hix
      obtain ⟨rfl, hfl⟩ := of_decide_eq_true hin
      obtain ⟨h6, hkN, hlink⟩ := fldL_in hfl
      split at h
      · rename_i x cc i r
        split at h
        · rename_i hcc
          have := Nat.eq_of_beq_eq_true hcc
          subst this
          obtain ⟨-, hv9⟩ := List.forall_mem_cons.mp hv
          obtain ⟨hv1, hv2⟩ := List.forall_mem_cons.mp hv9
          have hd : (cc, i, 0) ∈ domL := by
            rcases hv1 with h9 | h9
            · exact h9
            · cases h9
          obtain ⟨q0, hqd, hq0⟩ := wsG_at (G := G) (σ := σ) hd
          rw [cellOf_obj] at hq0
          have hNF := gCl_nF cc h6
          have hty : ∀ k, k < (gCl.getD cc (RX1, TX1, 3)).2.2 → parseFieldDescriptor ((gCl.getD cc (RX1, TX1, 3)).2.1 k).2.2.1 = some (gTy cc k) := fun k hk => gCl_ty cc h6 k (by rw [← hNF]; exact hk)
          have hnm : ∀ a, a < (gCl.getD cc (RX1, TX1, 3)).2.2 → ∀ b, b < (gCl.getD cc (RX1, TX1, 3)).2.2 → a ≠ b → ((gCl.getD cc (RX1, TX1, 3)).2.1 a).2.1 ≠ ((gCl.getD cc (RX1, TX1, 3)).2.1 b).2.1 := fun a ha b hb hne => gCl_nm cc h6 a (by rw [← hNF]; exact ha) b (by rw [← hNF]; exact hb) hne
          have hset : refF cc i n2 = none → (wsG G σ).set q0 (G.2.2.2.1 (cc, i, 0), .inr (cc, ((List.range (nF cc)).map (fv G.2.2.2.1 σ cc i)).set n2 (.int x))) = wsG G (setM σ cc i 0 n2 x) := by
            intro hrf
            rw [← wsG_set (G := G) (σ := σ) (σ' := setM σ cc i 0 n2 x) hqd (fun r' _ hne => cellOf_congr (fun k' => setM_ne hne k')), cellOf_obj]
            have e9 : fv G.2.2.2.1 (setM σ cc i 0 n2 x) cc i n2 = .int x := by simp [fv, hrf, setM]
            have e8 := map_set_one (f := fv G.2.2.2.1 σ cc i) (g := fv G.2.2.2.1 (setM σ cc i 0 n2 x) cc i) (l := List.range (nF cc)) (q := n2) (r := n2) List.nodup_range (List.getElem?_range hkN) (fun r' _ hne => by
              simp only [fv]
              split
              · rfl
              · simp [setM, hne])
            rw [e9] at e8
            rw [e8]
          have hgo : refF cc i n2 = none → ∀ ty, gTy cc n2 = ty → ((gCl.getD cc (RX1, TX1, 3)).2.1 n2).2.2.2 = false → narrow ty (.int x) = .int x → fits ty (.int x) = true → c' = (pc + 3, ls, r, setM σ cc i 0 n2 x) → W p l e R s m args below meth cd H locs cells slots QQ (F0 m pc la (.int x :: .ref (G.2.2.2.1 (cc, i, 0)) :: r.map (cv G.2.2.2.1))) := by
            intro hrf ty hty1 hfin hnar hfit hc'
            subst hc'
            have hnx : ∀ (H1 : Heap) (locs1 : List Loc), va_P G.2.2.1 gCl ((wsG G σ).set q0 (G.2.2.2.1 (cc, i, 0), .inr (cc, ((List.range (nF cc)).map (fv G.2.2.2.1 σ cc i)).set n2 (.int x)))) H1 → va_D G.2.2.2.2 ((wsG G σ).set q0 (G.2.2.2.1 (cc, i, 0), .inr (cc, ((List.range (nF cc)).map (fv G.2.2.2.1 σ cc i)).set n2 (.int x)))) → va_S G.2.2.2.2 s.heap H1 locs1 → W p l e R s m args below meth cd H1 locs1 cells slots QQ (F0 m (pc + 3) la (r.map (cv G.2.2.2.1))) := by
              intro H1 locs1 hP1 hD1 hS1
              rw [hset hrf] at hP1 hD1
              exact k G p l e R s m args below meth cd H1 locs1 cells slots la QQ hC ⟨hP1, hD1, scrG_set hsc (setM_six h6)⟩ hS1 hl ho hv2 hret
            rcases hlink with ⟨rfl, hlink⟩ | ⟨rfl, hlink⟩
            · exact va_put (D := G.2.2.1) (cl := gCl) (tys := tysG G) hx hb hts (gCl_ws _ (List.mem_of_getElem? (gCl_at h6))) (gTy cc) hty hnm hown hK hPw hDw hS q0 hq0 (gCl_at h6) n2 (by rw [hNF]; exact hkN) (hts _ hlink) (fun _ h9 => h9) hfin (by rw [gCl_ty cc h6 n2 hkN, hty1]) hnar hfit (by simp; exact hkN) hdg hnx
            · exact va_putN (D := G.2.2.1) (cl := gCl) (tys := tysG G) (host := "GingerArmy") hx hb hts (gCl_ws _ (List.mem_of_getElem? (gCl_at h6))) (gTy cc) hty hnm hown hK hPw hDw hS q0 hq0 (gCl_at h6) n2 (by rw [hNF]; exact hkN) (va_Nw.use rfl (hnw _ hlink)) (fun _ h9 => h9) hfin (by rw [gCl_ty cc h6 n2 hkN, hty1]) hnar hfit (by simp; exact hkN) hdg hnx
          split at h
          · rename_i hfk
            cases h
            obtain ⟨g1, g2, g3⟩ := (gCl_kind cc h6 n2 hkN).1 hfk
            exact hgo (refF_none g3) .int g2 g1 rfl rfl rfl
          · rename_i hfk
            cases h
            obtain ⟨g1, g2, g3⟩ := (gCl_kind cc h6 n2 hkN).2 hfk
            rcases hP _ rfl with h9 | h9
            · subst h9
              exact hgo (refF_none g3) .boolean g2 g1 rfl rfl rfl
            · subst h9
              exact hgo (refF_none g3) .boolean g2 g1 rfl rfl rfl
          · cases h
        · cases h
      · cases h
    case iaload =>
      dsimp only at h hin hix
      replace hin := of_decide_eq_true hin
      subst hin
      split at h
      · rename_i x cc i j r
        obtain ⟨-, hv9⟩ := List.forall_mem_cons.mp hv
        obtain ⟨hv1, hv2⟩ := List.forall_mem_cons.mp hv9
        split at h
        · rename_i n hn
          cases h
          have hq := hP _ rfl
          rcases hv1 with hd | hd
          · have h6 := domL_six _ hd
            have hn2 : alen cc j = some n := by
              rw [← hn]
              unfold alenS
              split
              · exact absurd h6 (Nat.lt_irrefl 6)
              · rfl
            obtain ⟨q0, -, hq0⟩ := wsG_at (G := G) (σ := σ) hd
            rw [cellOf_arr hn2] at hq0
            refine va_iald (D := G.2.2.1) (cl := gCl) (tys := tysG G) hx hb hK hPw q0 0 hq0 rfl hq hdg ?_
            exact k G p l e R s m args below meth cd H locs cells slots la QQ hC hR hS hl ho (List.forall_mem_cons.mpr ⟨trivial, hv2⟩) hret
          · cases hd
            obtain ⟨L, g1, g2, g3, g4, g5⟩ := hsc
            have hn3 : n = L := by
              have : some (σ 6 0 0 0).toNatClampNeg = some n := hn
              rw [g2, nI_clamp (by omega)] at this
              exact (Option.some.inj this).symm
            subst hn3
            refine va_sld hx hb g3 g4 g5 hS hq hdg ?_
            exact k G p l e R s m args below meth cd H locs cells slots la QQ hC hR hS hl ho (List.forall_mem_cons.mpr ⟨trivial, hv2⟩) hret
        · cases h
      · cases h
    case iastore =>
      dsimp only at h hin hix
      replace hin := of_decide_eq_true hin
      subst hin
      split at h
      · rename_i v2 x cc i j r
        obtain ⟨-, hv8⟩ := List.forall_mem_cons.mp hv
        obtain ⟨-, hv9⟩ := List.forall_mem_cons.mp hv8
        obtain ⟨hv1, hv2⟩ := List.forall_mem_cons.mp hv9
        split at h
        · rename_i n hn
          cases h
          have hq := hP _ rfl
          rcases hv1 with hd | hd
          · have h6 := domL_six _ hd
            obtain ⟨q0, hqd, hq0⟩ := wsG_at (G := G) (σ := σ) hd
            rw [cellOf_arr hn] at hq0
            have hset : (wsG G σ).set q0 (G.2.2.2.1 (cc, i, j), .inl (G.1, n, .inl (upd (σ cc i j) x.toNatClampNeg v2))) = wsG G (setM σ cc i j x.toNatClampNeg v2) := by
              rw [← wsG_set (G := G) (σ := σ) (σ' := setM σ cc i j x.toNatClampNeg v2) hqd (fun r' _ hne => cellOf_congr (fun k' => setM_ne hne k')), cellOf_arr hn, setM_arr]
            refine va_iast (D := G.2.2.1) (cl := gCl) (tys := tysG G) hx hb hK hPw hDw hS q0 0 hq0 rfl hq hdg (fun H1 locs1 hP1 hD1 hS1 => ?_)
            rw [hset] at hP1 hD1
            exact k G p l e R s m args below meth cd H1 locs1 cells slots la QQ hC ⟨hP1, hD1, scrG_set hsc (setM_six h6)⟩ hS1 hl ho hv2 hret
          · cases hd
            cases hn
        · cases h
      · cases h
    case arraylength =>
      dsimp only at h hin hix
      replace hin := of_decide_eq_true hin
      subst hin
      split at h
      · rename_i cc i j r
        obtain ⟨hv1, hv2⟩ := List.forall_mem_cons.mp hv
        split at h
        · rename_i n hn
          cases h
          rcases hv1 with hd | hd
          · have h6 := domL_six _ hd
            have hn2 : alen cc j = some n := by
              rw [← hn]
              unfold alenS
              split
              · exact absurd h6 (Nat.lt_irrefl 6)
              · rfl
            obtain ⟨q0, -, hq0⟩ := wsG_at (G := G) (σ := σ) hd
            rw [cellOf_arr hn2] at hq0
            refine va_alen (D := G.2.2.1) (cl := gCl) (tys := tysG G) hx hb hK hPw q0 0 hq0 (ty := .int) rfl rfl hdg ?_
            exact k G p l e R s m args below meth cd H locs cells slots la QQ hC hR hS hl ho (List.forall_mem_cons.mpr ⟨trivial, hv2⟩) hret
          · cases hd
            obtain ⟨L, g1, g2, g3, g4, g5⟩ := hsc
            have hn3 : n = L := by
              have : some (σ 6 0 0 0).toNatClampNeg = some n := hn
              rw [g2, nI_clamp (by omega)] at this
              exact (Option.some.inj this).symm
            subst hn3
            refine va_slen hx hb g3 g4 g5 hS hdg ?_
            exact k G p l e R s m args below meth cd H locs cells slots la QQ hC hR hS hl ho (List.forall_mem_cons.mpr ⟨trivial, hv2⟩) hret
        · cases h
      · cases h
    case aaload =>
      dsimp only at h hin hix
      replace hin := of_decide_eq_true hin
      subst hin
      split at h
      · rename_i x i r
        obtain ⟨-, hv9⟩ := List.forall_mem_cons.mp hv
        obtain ⟨hv1, hv2⟩ := List.forall_mem_cons.mp hv9
        cases h
        have hq := hP _ rfl
        have hd : (1, i, 1) ∈ domL := by
          rcases hv1 with h9 | h9
          · exact h9
          · cases h9
        obtain ⟨q0, -, hq0⟩ := wsG_at (G := G) (σ := σ) hd
        have hlt : x.toNatClampNeg < 8 := Nat.not_le.mp fun q => hq (Or.inr q)
        refine va_aldq (D := G.2.2.1) (cl := gCl) (tys := tysG G) (C := "GingerArmy$Shelf") (n := 8) (f := fun n => some (G.2.2.2.1 (2, 4 + n, 0))) hx hb hK hPw q0 1 hq0 rfl hq hdg ?_
        exact k G p l e R s m args below meth cd H locs cells slots la QQ hC hR hS hl ho (List.forall_mem_cons.mpr ⟨Or.inl (domL_shelf (by omega) (by omega)), hv2⟩) hret
      · cases h
    all_goals (cases h)

theorem allP_cons {q : Prop} {t : List Prop} (h : allP (q :: t)) : q ∧ allP t := by
  cases t with
  | nil => exact ⟨h, trivial⟩
  | cons a b => exact h
theorem run_sound {M : MethT} {d : Nat} {Q : Option AV → St → Prop} : ∀ (n : Nat) (bs : List Bool) {c c' : Cfg} {P : List Prop}, run (mC M) n bs c = some (c', P) → allP P → AW M d Q c' → AW M d Q c
  | 0, _, c, c', P, h, _, k => by
    cases h
    exact k
  | n + 1, bs, c, c', P, h, hP, k => by
    unfold run at h
    split at h
    · cases h
    · rename_i c1 P1 u h1
      split at h
      · cases h
      · rename_i c2 P2 h2
        cases P1 with
        | none =>
          cases h
          exact step_sound h1 (fun q hq => by cases hq) (run_sound n _ h2 hP k)
        | some q =>
          cases h
          obtain ⟨hq, hP2⟩ := allP_cons hP
          exact step_sound h1 (fun q' hq' => by cases hq'; exact hq) (run_sound n _ h2 hP2 k)
/-- a path: what must hold on it, and what stands at its end -/
theorem AW.run {M : MethT} {d : Nat} {Q : Option AV → St → Prop} (n : Nat) (bs : List Bool) {c : Cfg} (c' : Cfg) (P : List Prop) (h : run (mC M) n bs c = some (c', P)) (hP : allP P) (k : AW M d Q c') : AW M d Q c := run_sound n bs h hP k
/-- a return -/
theorem AW.ret {M : MethT} {d : Nat} {Q : Option AV → St → Prop} {pc : Nat} {ls : List (Nat × AV)} {r : Option AV} {σ : St} (hr : retAt M pc r) (hQ : Q r σ) : AW M d Q (pc, ls, r.toList, σ) := by
  intro G p l e R s m args below meth cd H locs cells slots la QQ hC hR hS hl ho hv hret
  exact hret r σ H locs pc la hQ hv hR hS hr hl.1
/-- fewer locals, in another order -/
theorem AW.pick {M : MethT} {d : Nat} {Q : Option AV → St → Prop} {pc : Nat} {ls ls' : List (Nat × AV)} {st : List AV} {σ : St} (ks : List Nat) (h : ks.filterMap (fun k => ls[k]?) = ls') (k : AW M d Q (pc, ls', st, σ)) : AW M d Q (pc, ls, st, σ) := by
  intro G p l e R s m args below meth cd H locs cells slots la QQ hC hR hS hl ho hv hret
  have hsub : ∀ q ∈ ls', q ∈ ls := by
    intro q hq
    rw [← h] at hq
    obtain ⟨i, -, hi⟩ := List.mem_filterMap.mp hq
    exact List.mem_of_getElem? hi
  refine k G p l e R s m args below meth cd H locs cells slots la QQ hC hR hS (lv_mono hl (fun q hq => ?_)) (fun q hq => ho q (hsub q hq)) hv hret
  obtain ⟨q2, h2, rfl⟩ := List.mem_map.mp hq
  exact List.mem_map.mpr ⟨q2, hsub q2 h2, rfl⟩
theorem AW.mono {M : MethT} {d : Nat} {Q Q' : Option AV → St → Prop} {c : Cfg} (k : AW M d Q c) (h : ∀ r σ, Q r σ → Q' r σ) : AW M d Q' c := by
  intro G p l e R s m args below meth cd H locs cells slots la QQ hC hR hS hl ho hv hret
  exact k G p l e R s m args below meth cd H locs cells slots la QQ hC hR hS hl ho hv (fun r σ' H' locs' pc' la' hq => hret r σ' H' locs' pc' la' (h _ _ hq))
