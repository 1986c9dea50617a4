/-! WHAT STAYS TRUE OF THE WHOLE -/
theorem settle_p : ∀ (k : Nat) (S : Sv), Sp (settleS k S) = Sp S
  | 0, _ => rfl
  | k + 1, S => by
    unfold settleS
    split
    · rfl
    · exact settle_p k _
theorem day_p (S : Sv) : Sp (dayS S) = Sp S := settle_p 8 (withQ S (addQ S 8))
theorem pass_p : ∀ (n : Nat) (S : Sv), Sp (passS n S) = Sp S
  | 0, _ => rfl
  | n + 1, S => (pass_p n (dayS S)).trans (day_p S)
theorem dst_pass {S : Sv} (h : Dst S) (n : Nat) : Dst (passS n S) := fun i j hi hj he => by
  rw [pass_p] at he
  exact h i j (pass_w n hi) (pass_w n hj) he
theorem atN_none {S : Sv} {p : Nat} : ∀ (k i : Nat), atN S p k i = none → ∀ j, i ≤ j → j < i + k → Sw S j = true → Sp S j ≠ p
  | 0, i, _, j, h1, h2, _ => by omega
  | k + 1, i, h, j, h1, h2, hw => by
    unfold atN at h
    split at h
    · cases h
    · rename_i hn
      by_cases he : j = i
      · subst he; exact fun q => hn ⟨hw, q⟩
      · exact atN_none k (i + 1) h j (by omega) (by omega) hw
theorem dst_add {S : Sv} {k f p : Nat} (hO : SOK S) (h : Dst S) (hn : Sn S < 8) (ha : atS S p = none) : Dst (addS S k f p) := by
  have hno : ∀ j, Sw S j = true → Sp S j ≠ p := fun j hw => atN_none 8 0 ha j (Nat.zero_le _) (by have := SOK_lt hO hw; omega) hw
  intro i j hi hj he
  have hi : fu (Sw S) (Sn S) true i = true := hi
  have hj : fu (Sw S) (Sn S) true j = true := hj
  have he : fu (Sp S) (Sn S) p i = fu (Sp S) (Sn S) p j := he
  unfold fu at hi hj he
  by_cases h1 : i = Sn S <;> by_cases h2 : j = Sn S
  · rw [h1, h2]
  · rw [if_pos h1, if_neg h2] at he
    rw [if_neg h2] at hj
    exact absurd he.symm (hno j hj)
  · rw [if_neg h1, if_pos h2] at he
    rw [if_neg h1] at hi
    exact absurd he (hno i hi)
  · rw [if_neg h1, if_neg h2] at he
    rw [if_neg h1] at hi
    rw [if_neg h2] at hj
    exact h i j hi hj he
theorem cry_dst {tp : Nat → Nat} {len p : Nat} {S S' : Sv} (hO : SOK S) (hD : Dst S) (h : cryN tp len p S = some S') : Dst S' := by
  unfold cryN at h
  split at h
  · unfold o1 at h
    split at h
    · rename_i hc
      cases h
      exact dst_add hO hD hc.2.2.1 hc.2.2.2
    · cases h
  · split at h
    · unfold o2 at h
      split at h
      · cases h; exact hD
      · cases h
    · split at h
      · unfold o3 at h
        split at h
        · cases h; exact hD
        · cases h
      · split at h
        · cases h; exact hD
        · split at h
          · unfold o2 at h
            split at h
            · cases h; exact hD
            · cases h
          · unfold o4 at h
            split at h
            · cases h; exact dst_pass hD _
            · cases h
theorem GOK_keep {F : Gv} {S : Sv} (hG : GOK F) (hO : SOK S) (hd : Sd S ≤ 999) (hD : Dst S) : GOK (keepF F S) := by
  obtain ⟨h1, h2, h3, h4⟩ := FOK_keep hG.1
  refine ⟨⟨⟨hO, hd⟩, h2, h3, h4⟩, hD, fun j hj => ?_, hG.2.2.2⟩
  have hj : j < min 8 (F.2.2.2.2.1.1 + 1) := hj
  cases j with
  | zero => exact hG.2.1
  | succ j => exact hG.2.2.1 j (by omega)
theorem GOK_rfu {F : Gv} (hG : GOK F) (k : Nat) : GOK (rfu F k).2 := hG
theorem g_bot {F : Gv} {x : Int32} {f : Nat → Int32 × Gv} (hG : GOK F) (h : ∀ k, k < Sn F.1 → GOK (f k).2) : GOK (botP F x f).2 := by
  rcases bot_or (Sn F.1) x with ⟨k, hk, rfl⟩ | hno
  · rw [botP_some hk hG.1.1.1.1]; exact h k hk
  · rw [botP_none hno]; exact hG
theorem g_max {F : Gv} {M : Nat} {x : Int32} {f : Nat → Int32 × Gv} (hG : GOK F) (hM : M < 2 ^ 31) (h : ∀ n, n ≤ M → GOK (f n).2) : GOK (maxP F M x f).2 := by
  rcases fMax_or M hM x with ⟨-, e⟩ | ⟨-, -, e⟩ | ⟨n, hn, rfl, e⟩
  · rw [maxP_e4 e]; exact hG
  · rw [maxP_e6 e]; exact hG
  · rw [maxP_e0 e (by omega)]; exact h n hn
theorem g_two {F : Gv} {x : Int32} {f : Nat → Int32 × Gv} (hG : GOK F) (h : ∀ n, n ≤ 1 → GOK (f n).2) : GOK (twoP F x f).2 := by
  by_cases h0 : x = 0
  · subst h0; rw [twoP_0]; exact h 0 (by decide)
  · by_cases h1 : x = 1
    · subst h1; rw [twoP_1]; exact h 1 (by decide)
    · rw [twoP_N h0 h1]; exact hG
theorem g_wh {F : Gv} {k : Nat} {r : Int32 × Gv} (hG : GOK F) (h : Sw F.1 k = true → GOK r.2) : GOK (whP F k r).2 := by
  cases hw : Sw F.1 k
  · rw [whP_f hw]; exact hG
  · rw [whP_t hw]; exact h hw
theorem g_ite {c : Prop} [Decidable c] {a b : Int32 × Gv} (h1 : c → GOK a.2) (h2 : ¬ c → GOK b.2) : GOK (if c then a else b).2 := by
  by_cases h : c
  · rw [if_pos h]; exact h1 h
  · rw [if_neg h]; exact h2 h
theorem GOK_now {F : Gv} {S : Sv} (hG : GOK F) (hO : SOK S) (hd : Sd S ≤ 999) (hD : Dst S) : GOK (S, F.2.1, F.2.2.1, F.2.2.2.1, (0, F.2.2.2.2.1.2), F.2.2.2.2.2) := ⟨⟨⟨hO, hd⟩, hG.1.2.1, hG.1.2.2.1, ⟨Nat.zero_le _, fun j hj => absurd hj (Nat.not_lt_zero j)⟩, hG.1.2.2.2.2⟩, hD, fun j hj => absurd hj (Nat.not_lt_zero j), hG.2.2.2⟩
theorem GOK_tape {F : Gv} {n : Nat} {tp : Nat → Nat} (hG : GOK F) (h1 : n ≤ 96) (h2 : ∀ i, tp i ≤ 255) : GOK (F.1, (n, tp), F.2.2) := ⟨⟨hG.1.1, ⟨h1, h2⟩, hG.1.2.2⟩, hG.2⟩
theorem GOK_row {F : Gv} {n : Nat} {w : Nat → Nat} (hG : GOK F) (h1 : n ≤ 12) (h2 : ∀ i, w i ≤ 99) : GOK (F.1, F.2.1, (n, w), F.2.2.2) := ⟨⟨hG.1.1, hG.1.2.1, ⟨h1, h2⟩, hG.1.2.2.2⟩, hG.2⟩

theorem g_pressIn {F : Gv} (hG : GOK F) (b : Int32) (n : Int32) : GOK (pressInP F b n).2 := g_bot hG (fun k _ => g_max hG (by decide) (fun n _ => hG))
theorem g_quiet {F : Gv} (hG : GOK F) : GOK (quietP F).2 := hG
theorem g_halved {F : Gv} (hG : GOK F) : GOK (halvedP F).2 := hG
theorem g_whoWent {F : Gv} (hG : GOK F) : GOK (whoWentP F).2 := hG
theorem g_takes {F : Gv} (hG : GOK F) (b : Int32) : GOK (takesP F b).2 := g_bot hG (fun k _ => g_wh hG (fun _ => hG))
theorem g_safe {F : Gv} (hG : GOK F) (b : Int32) (n : Int32) : GOK (safeP F b n).2 := g_bot hG (fun k _ => g_max hG (by decide) (fun n _ => g_wh hG (fun _ => hG)))
theorem g_towel {F : Gv} (hG : GOK F) (n : Int32) : GOK (towelP F n).2 := g_max hG (by decide) (fun n _ => hG)
theorem g_out {F : Gv} (hG : GOK F) (n : Int32) : GOK (outP F n).2 := g_max hG (by decide) (fun n _ => hG)
theorem g_move {F : Gv} (hG : GOK F) (n : Int32) : GOK (moveP F n).2 := g_max hG (by decide) (fun n _ => hG)
theorem g_spoon {F : Gv} (hG : GOK F) (n : Int32) (w : Int32) : GOK (spoonP F n w).2 := g_max hG (by decide) (fun n _ => g_two hG (fun z _ => hG))
theorem g_feedFor {F : Gv} (hG : GOK F) (b : Int32) (v : Int32) : GOK (feedForP F b v).2 := g_bot hG (fun k _ => g_max hG (by decide) (fun n _ => hG))
theorem g_whatKind {F : Gv} (hG : GOK F) (b : Int32) (w : Int32) : GOK (whatKindP F b w).2 := g_bot hG (fun k _ => g_two hG (fun z _ => hG))
theorem g_near {F : Gv} (hG : GOK F) (b : Int32) : GOK (nearP F b).2 := g_bot hG (fun k _ => hG)
theorem g_spare {F : Gv} (hG : GOK F) (b : Int32) : GOK (spareP F b).2 := g_bot hG (fun k _ => hG)
theorem g_goes {F : Gv} (hG : GOK F) (b : Int32) : GOK (goesP F b).2 := g_ite (fun _ => hG) (fun _ => g_bot hG (fun k _ => hG))
theorem g_shares {F : Gv} (hG : GOK F) (n : Int32) (w : Int32) : GOK (sharesP F n w).2 := g_ite (fun _ => hG) (fun _ => g_max hG (by decide) (fun n _ => g_two hG (fun z _ => hG)))
theorem g_lots {F : Gv} (hG : GOK F) (n : Int32) (z : Int32) (w : Int32) : GOK (lotsP F n z w).2 := g_ite (fun _ => hG) (fun _ => g_max hG (by decide) (fun n _ => g_two hG (fun z _ => hG)))
theorem g_tightest {F : Gv} (hG : GOK F) (w : Int32) : GOK (tightestP F w).2 := g_ite (fun _ => hG) (fun _ => g_ite (fun _ => hG) (fun _ => g_ite (fun _ => hG) (fun _ => hG)))
theorem g_pairs {F : Gv} (hG : GOK F) (w : Int32) : GOK (pairsP F w).2 := g_ite (fun _ => hG) (fun _ => g_ite (fun _ => hG) (fun _ => g_ite (fun _ => hG) (fun _ => g_ite (fun _ => hG) (fun _ => hG))))
theorem g_then {F : Gv} (hG : GOK F) (n : Int32) (w : Int32) : GOK (thenP F n w).2 := g_max hG (by decide) (fun n _ => g_ite (fun _ => hG) (fun _ => g_ite (fun _ => hG) (fun _ => g_ite (fun _ => hG) (fun _ => hG))))
theorem g_ready {F : Gv} (hG : GOK F) (b : Int32) (v : Int32) (n : Int32) : GOK (readyP F b v n).2 := g_bot hG (fun k _ => g_ite (fun _ => hG) (fun _ => g_ite (fun _ => hG) (fun _ => hG)))
theorem g_count {F : Gv} (hG : GOK F) (w : Int32) : GOK (countP F w).2 := g_ite (fun _ => hG) (fun _ => g_ite (fun _ => hG) (fun _ => g_ite (fun _ => hG) (fun _ => g_ite (fun _ => hG) (fun _ => g_ite (fun _ => hG) (fun _ => g_ite (fun _ => hG) (fun _ => g_ite (fun _ => hG) (fun _ => g_ite (fun _ => hG) (fun _ => g_ite (fun _ => hG) (fun _ => hG)))))))))
theorem g_bottleOf {F : Gv} (hG : GOK F) (b : Int32) (w : Int32) : GOK (bottleOfP F b w).2 := g_bot hG (fun k _ => g_ite (fun _ => hG) (fun _ => g_ite (fun _ => hG) (fun _ => g_ite (fun _ => hG) (fun _ => g_ite (fun _ => hG) (fun _ => g_ite (fun _ => hG) (fun _ => g_ite (fun _ => hG) (fun _ => g_ite (fun _ => hG) (fun _ => g_ite (fun _ => hG) (fun _ => g_ite (fun _ => hG) (fun _ => hG))))))))))
theorem g_worst {F : Gv} (hG : GOK F) (w : Int32) : GOK (worstP F w).2 := g_two hG (fun z _ => by
  cases worstS F.1 with
  | none => exact hG
  | some k => exact hG)
theorem g_officers {F : Gv} (hG : GOK F) (k : Int32) : GOK (officersP F k).2 := by
  unfold officersP
  cases botI 6 k with
  | none => exact hG
  | some k => exact hG
theorem g_at {F : Gv} (hG : GOK F) (k : Int32) : GOK (atP F k).2 := by
  unfold atP
  cases botI 15 k with
  | none => exact hG
  | some k => exact hG
theorem g_two9 {F : Gv} (hG : GOK F) (x y n : Int32) : GOK (twoRP F x y n).2 := by
  unfold twoRP
  cases pairO F x y with
  | none => exact hG
  | some q => exact g_max hG (by decide) (fun n _ => g_ite (fun _ => hG) (fun _ => hG))
theorem g_eased {F : Gv} (hG : GOK F) (x y n : Int32) : GOK (easedP F x y n).2 := by
  unfold easedP
  cases pairO F x y with
  | none => exact hG
  | some q =>
    dsimp only
    split
    · exact hG
    · exact hG
theorem g_mean {F : Gv} (hG : GOK F) (p : Int32) : GOK (meanP F p).2 := by
  unfold meanP
  split
  · exact hG
  · exact hG
theorem g_thunders {F : Gv} (hG : GOK F) (b n t p : Int32) : GOK (thundersP F b n t p).2 := by
  unfold thundersP
  cases botI (Sn F.1) b with
  | none => exact hG
  | some k =>
    dsimp only
    split
    · exact hG
    · split
      · exact hG
      · split
        · exact hG
        · exact hG
theorem g_image {F : Gv} (hG : GOK F) : GOK (imageP F).2 := ⟨⟨hG.1.1, hG.1.2.1, hG.1.2.2.1, hG.1.2.2.2.1, fun I h => by cases h; exact hG.1.1⟩, hG.2.1, hG.2.2.1, fun I h => by cases h; exact hG.2.1⟩
theorem g_restore {F : Gv} (hG : GOK F) : GOK (restoreP F).2 := by
  unfold restoreP
  cases hI : F.2.2.2.2.2 with
  | none => exact hG
  | some I =>
    have h1 := hG.1.2.2.2.2 I hI
    have h2 := hG.2.2.2 I hI
    have h3 := GOK_now (S := I) hG h1.1 h1.2 h2
    rw [hI] at h3
    exact h3
theorem g_clear {F : Gv} (hG : GOK F) : GOK (clearP F).2 := GOK_row hG (Nat.zero_le _) hG.1.2.2.1.2
theorem g_judge {F : Gv} (hG : GOK F) : GOK (judgeP F).2 := GOK_row hG (Nat.zero_le _) hG.1.2.2.1.2
theorem fu_le {f : Nat → Nat} {k x M : Nat} (h : ∀ i, f i ≤ M) (hx : x ≤ M) : ∀ i, fu f k x i ≤ M := fun i => by
  unfold fu; split
  · exact hx
  · exact h i
theorem g_row {F : Gv} (hG : GOK F) (x : Int32) : GOK (rowP F x).2 := g_max hG (by decide) (fun l hl => g_ite (fun h => GOK_row hG (by omega) (fu_le hG.1.2.2.1.2 hl)) (fun _ => hG))
theorem g_feed {F : Gv} (hG : GOK F) (x : Int32) : GOK (feedP F x).2 := g_max hG (by decide) (fun l hl => g_ite (fun h => GOK_tape hG (by omega) (fu_le hG.1.2.1.2 hl)) (fun _ => hG))
theorem g_feeds {F : Gv} (hG : GOK F) (w v : Int32) : GOK (feedsP F w v).2 := g_two hG (fun z _ => g_max hG (by decide) (fun v hv => g_ite (fun _ => GOK_keep hG (SOK_U hG.1.1.1 hv hG.1.1.1.2.2.2.2) hG.1.1.2 hG.2.1) (fun _ => GOK_keep hG (SOK_U hG.1.1.1 hG.1.1.1.2.2.2.1 hv) hG.1.1.2 hG.2.1)))
theorem g_outs {F : Gv} (hG : GOK F) (b : Int32) : GOK (outsP F b).2 := g_bot hG (fun k hk => g_wh hG (fun _ => GOK_keep hG (SOK_q hG.1.1.1 hk (by decide)) hG.1.1.2 hG.2.1))
theorem g_towels {F : Gv} (hG : GOK F) (b : Int32) : GOK (towelsP F b).2 := g_bot hG (fun k hk => g_wh hG (fun _ => GOK_keep hG (SOK_t hG.1.1.1 hk) hG.1.1.2 hG.2.1))
theorem g_days {F : Gv} (hG : GOK F) (n : Int32) : GOK (daysP F n).2 := g_ite (fun _ => hG) (fun _ => g_max hG (by decide) (fun n _ => g_ite (fun h => GOK_keep hG (SOK_pass n hG.1.1.1) (by rw [pass_d]; exact h) (dst_pass hG.2.1 n)) (fun _ => hG)))
theorem g_back {F : Gv} (hG : GOK F) : GOK (backP F).2 := by
  unfold backP
  cases hB : F.2.2.2.2.1.1 with
  | zero => exact hG
  | succ b =>
    have hp := hG.1.2.2.2.1
    have hd := hG.2.2.1
    rw [hB] at hp hd
    obtain ⟨h8, hp⟩ := hp
    exact ⟨⟨hp 0 (Nat.succ_pos b), hG.1.2.1, hG.1.2.2.1, ⟨by show b ≤ 8; omega, fun j hj => hp (j + 1) (by have hj : j < b := hj; omega)⟩, hG.1.2.2.2.2⟩, hd 0 (Nat.succ_pos b), fun j hj => hd (j + 1) (by have hj : j < b := hj; omega), hG.2.2.2⟩
theorem botI_lt {n : Nat} {x : Int32} {k : Nat} (h : botI n x = some k) : k < n := by
  unfold botI at h
  split at h
  · cases h
  · split at h
    · cases h; assumption
    · cases h
theorem g_bottle {F : Gv} (hG : GOK F) (k f p : Int32) : GOK (bottleP F k f p).2 := by
  unfold bottleP
  cases hk : botI 6 k with
  | none => exact hG
  | some k9 =>
    have hk9 := botI_lt hk
    refine g_max hG (by decide) (fun f9 hf9 => g_ite (fun h8 => ?_) (fun _ => hG))
    cases hp : botI 15 p with
    | none => exact hG
    | some p9 =>
      have hp9 := botI_lt hp
      dsimp only
      cases ha : atS F.1 p9 with
      | none => exact GOK_now hG (SOK_addS hG.1.1.1 h8 (by omega) hf9 (by omega)) hG.1.1.2 (dst_add hG.1.1.1 hG.2.1 h8 ha)
      | some q => exact hG
theorem exe_ok {tp : Nat → Nat} {len : Nat} (htp : ∀ i, tp i ≤ 255) : ∀ (k st p : Nat) (S S' : Sv) (r : Int32), SOK S → Sd S ≤ 999 → Dst S → (brkN tp len k st p = none) → exeN tp len k st p S = (r, some S') → SOK S' ∧ Sd S' ≤ 999 ∧ Dst S'
  | 0, st, p, S, S', r, h1, h2, h3, _, h => by
    cases h; exact ⟨h1, h2, h3⟩
  | k + 1, st, p, S, S', r, h1, h2, h3, hb, h => by
    unfold exeN at h
    split at h
    · cases h; exact ⟨h1, h2, h3⟩
    · rename_i hlt
      cases hc : cryN tp len p S with
      | none =>
        rw [hc] at h
        have h2 : (none : Option Sv) = some S' := congrArg Prod.snd h
        cases h2
      | some T =>
        rw [hc] at h
        have hb : (if 0 < st ∧ len ≤ p then none else match stN tp len p with | (false, q) => some q | (true, q) => brkN tp len k (st + 1) q) = none := hb
        rw [if_neg (fun q => hlt q.2)] at hb
        cases hs : stN tp len p with
        | mk b q =>
          rw [hs] at hb
          cases b with
          | false => cases hb
          | true =>
            obtain ⟨hO, hd⟩ := cry_ok h1 h2 hs (ltN_le htp) hc
            have hq := (stN_true hs).1
            have hb : brkN tp len k (st + 1) q = none := hb
            rw [hq, Nat.add_assoc] at hb
            exact exe_ok htp k (st + 1) _ T S' r hO hd (cry_dst h1 h3 hc) hb h
theorem g_cellar {F : Gv} (hG : GOK F) : GOK (cellarP F).2 := by
  unfold cellarP
  cases ht : telN F.2.1.2 F.2.1.1 F.1 with
  | mk r o =>
    cases o with
    | none => exact GOK_tape hG (Nat.zero_le _) hG.1.2.1.2
    | some S =>
      cases hb : brkN F.2.1.2 F.2.1.1 96 0 0 with
      | some q =>
        rw [tel_b hb] at ht
        have h2 : (none : Option Sv) = some S := congrArg Prod.snd ht
        cases h2
      | none =>
        rw [tel_e hb] at ht
        obtain ⟨h1, h2, h3⟩ := exe_ok hG.1.2.1.2 96 0 0 F.1 S r hG.1.1.1 hG.1.1.2 hG.2.1 hb ht
        exact GOK_tape (F := (S, F.2.1, F.2.2.1, F.2.2.2.1, (0, F.2.2.2.2.1.2), F.2.2.2.2.2)) (GOK_now hG h1 h2 h3) (Nat.zero_le _) hG.1.2.1.2

