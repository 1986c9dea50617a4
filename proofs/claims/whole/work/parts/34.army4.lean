/-! THE ARMY'S CHANGES -/
theorem oth_rfl {σ : St} : Oth σ σ := ⟨rfl, rfl⟩
theorem oth_trans {σ τ υ : St} (h : Oth σ τ) (h2 : Oth τ υ) : Oth σ υ := ⟨h2.1.trans h.1, h2.2.trans h.2⟩
theorem RepA_now {σ τ : St} {F : Gv} {S : Sv} (h : Only 2 0 σ τ) (hA : RepA σ F) (hR : RepS (τ 2 0) S) : RepA τ (S, F.2) ∧ Oth σ τ := by
  obtain ⟨h1, ⟨t1, t2, t3, t4⟩, ⟨r1, r2, r3, r4⟩, h4, ⟨nx, n1, n2, n3, n4⟩, h6⟩ := hA
  have e3 := h 3 0 (by omega)
  have e4 := h 4 0 (by omega)
  have e1 := h 1 0 (by omega)
  refine ⟨⟨hR, ⟨t1, t2, by rw [e3]; exact t3, fun i hi => by rw [e3]; exact t4 i hi⟩, ⟨by rw [e4]; exact r1, r2, r3, fun i hi => by rw [e4]; exact r4 i hi⟩, fun k hk hk2 => by rw [e4]; exact h4 k hk hk2, ⟨nx, n1, by rw [e1]; exact n2, by rw [e1]; exact n3, fun j hj => by rw [h 2 _ (by omega)]; exact n4 j hj⟩, ?_⟩, ?_, ?_⟩
  · revert h6
    show (match F.2.2.2.2.2 with | none => σ 4 0 0 9 = 0 | some I => σ 4 0 0 9 = 1 ∧ RepS (σ 2 2) I) → (match F.2.2.2.2.2 with | none => τ 4 0 0 9 = 0 | some I => τ 4 0 0 9 = 1 ∧ RepS (τ 2 2) I)
    cases F.2.2.2.2.2 with
    | none => intro h6; show τ 4 0 0 9 = 0; rw [e4]; exact h6
    | some I => intro h6; show τ 4 0 0 9 = 1 ∧ RepS (τ 2 2) I; rw [e4, h 2 2 (by omega)]; exact h6
  · funext i; exact h 5 i (by omega)
  · funext i; exact h 6 i (by omega)
theorem QA_now {σ τ υ : St} {F : Gv} {S : Sv} (hA : RepA τ F) (hX : Oth σ τ) (h : Only 2 0 τ υ) (hR : RepS (υ 2 0) S) : RepA υ (S, F.2) ∧ Oth σ υ := ⟨(RepA_now h hA hR).1, oth_trans hX (RepA_now h hA hR).2⟩
theorem RepA_keep {σ τ : St} {F : Gv} (hA : RepA σ F) {nx : Nat} (m1 : nx < 8) (m2 : σ 1 0 0 1 = nI nx) (m3 : σ 1 0 0 2 = nI F.2.2.2.2.1.1) (m4 : ∀ j, j < F.2.2.2.2.1.1 → RepS (σ 2 (4 + (nx + 7 - j) % 8)) (F.2.2.2.2.1.2 j)) (hB : F.2.2.2.2.1.1 ≤ 8) (k1 : RepS (τ 2 (4 + nx)) F.1) (k2 : τ 1 0 0 1 = nI ((nx + 1) % 8)) (k3 : τ 1 0 0 2 = nI (min 8 (F.2.2.2.2.1.1 + 1))) (k4 : ∀ c i, ¬ c = 1 → ¬ (c = 2 ∧ i = 4 + nx) → τ c i = σ c i) : RepA τ (keepF F F.1) ∧ Oth σ τ := by
  obtain ⟨h1, ⟨t1, t2, t3, t4⟩, ⟨r1, r2, r3, r4⟩, h4, -, h6⟩ := hA
  have e3 := k4 3 0 (by omega) (by omega)
  have e4 := k4 4 0 (by omega) (by omega)
  refine ⟨⟨by rw [k4 2 0 (by omega) (by omega)]; exact h1, ⟨t1, t2, by rw [e3]; exact t3, fun i hi => by rw [e3]; exact t4 i hi⟩, ⟨by rw [e4]; exact r1, r2, r3, fun i hi => by rw [e4]; exact r4 i hi⟩, fun k hk hk2 => by rw [e4]; exact h4 k hk hk2, ⟨(nx + 1) % 8, Nat.mod_lt _ (by omega), k2, k3, ?_⟩, ?_⟩, ?_, ?_⟩
  · intro j hj
    have hj : j < min 8 (F.2.2.2.2.1.1 + 1) := hj
    have hj8 : j < 8 := by omega
    cases j with
    | zero =>
      show RepS (τ 2 (4 + ((nx + 1) % 8 + 7 - 0) % 8)) F.1
      rw [show ((nx + 1) % 8 + 7 - 0) % 8 = nx by omega]; exact k1
    | succ j =>
      show RepS (τ 2 (4 + ((nx + 1) % 8 + 7 - (j + 1)) % 8)) (F.2.2.2.2.1.2 j)
      rw [show ((nx + 1) % 8 + 7 - (j + 1)) % 8 = (nx + 7 - j) % 8 by omega, k4 2 _ (by omega) (by omega)]
      exact m4 j (by omega)
  · revert h6
    show (match F.2.2.2.2.2 with | none => σ 4 0 0 9 = 0 | some I => σ 4 0 0 9 = 1 ∧ RepS (σ 2 2) I) → (match F.2.2.2.2.2 with | none => τ 4 0 0 9 = 0 | some I => τ 4 0 0 9 = 1 ∧ RepS (τ 2 2) I)
    cases F.2.2.2.2.2 with
    | none => intro h6; show τ 4 0 0 9 = 0; rw [e4]; exact h6
    | some I => intro h6; show τ 4 0 0 9 = 1 ∧ RepS (τ 2 2) I; rw [e4, k4 2 2 (by omega) (by omega)]; exact h6
  · funext i; exact k4 5 i (by omega) (by omega)
  · funext i; exact k4 6 i (by omega) (by omega)
/-- the past forgotten -/
def fgtF (F : Gv) : Gv := (F.1, F.2.1, F.2.2.1, F.2.2.2.1, (0, F.2.2.2.2.1.2), F.2.2.2.2.2)
theorem RepA_fgt {σ : St} {F : Gv} (hA : RepA σ F) : RepA (setM σ 1 0 0 2 0) (fgtF F) ∧ Oth σ (setM σ 1 0 0 2 0) := by
  obtain ⟨h1, ⟨t1, t2, t3, t4⟩, ⟨r1, r2, r3, r4⟩, h4, ⟨nx, n1, n2, n3, n4⟩, h6⟩ := hA
  have ne : ∀ c i, ¬ (c = 1 ∧ i = 0) → setM σ 1 0 0 2 0 c i = σ c i := fun c i hn => set_ne hn
  refine ⟨⟨by rw [ne 2 0 (by omega)]; exact h1, ⟨t1, t2, by rw [ne 3 0 (by omega)]; exact t3, fun i hi => by rw [ne 3 0 (by omega)]; exact t4 i hi⟩, ⟨by rw [ne 4 0 (by omega)]; exact r1, r2, r3, fun i hi => by rw [ne 4 0 (by omega)]; exact r4 i hi⟩, fun k hk hk2 => by rw [ne 4 0 (by omega)]; exact h4 k hk hk2, ⟨nx, n1, by rw [setM_at, if_neg (by omega)]; exact n2, by rw [setM_at, if_pos ⟨rfl, rfl⟩]; rfl, fun j hj => absurd hj (Nat.not_lt_zero j)⟩, ?_⟩, ?_, ?_⟩
  · revert h6
    show (match F.2.2.2.2.2 with | none => σ 4 0 0 9 = 0 | some I => σ 4 0 0 9 = 1 ∧ RepS (σ 2 2) I) → (match F.2.2.2.2.2 with | none => setM σ 1 0 0 2 0 4 0 0 9 = 0 | some I => setM σ 1 0 0 2 0 4 0 0 9 = 1 ∧ RepS (setM σ 1 0 0 2 0 2 2) I)
    rw [ne 4 0 (by omega), ne 2 2 (by omega)]
    exact id
  · funext i; exact ne 5 i (by omega)
  · funext i; exact ne 6 i (by omega)
theorem RepA_back {σ τ : St} {F : Gv} {b : Nat} (hA : RepA σ F) {nx : Nat} (m1 : nx < 8) (m4 : ∀ j, j < b + 1 → RepS (σ 2 (4 + (nx + 7 - j) % 8)) (F.2.2.2.2.1.2 j)) (hB : b < 8) (k1 : RepS (τ 2 0) (F.2.2.2.2.1.2 0)) (k2 : τ 1 0 0 1 = nI ((nx + 7) % 8)) (k3 : τ 1 0 0 2 = nI b) (k4 : ∀ c i, ¬ c = 1 → ¬ (c = 2 ∧ i = 0) → τ c i = σ c i) : RepA τ (F.2.2.2.2.1.2 0, F.2.1, F.2.2.1, F.2.2.2.1, (b, fun j => F.2.2.2.2.1.2 (j + 1)), F.2.2.2.2.2) ∧ Oth σ τ := by
  obtain ⟨h1, ⟨t1, t2, t3, t4⟩, ⟨r1, r2, r3, r4⟩, h4, -, h6⟩ := hA
  have e3 := k4 3 0 (by omega) (by omega)
  have e4 := k4 4 0 (by omega) (by omega)
  refine ⟨⟨k1, ⟨t1, t2, by rw [e3]; exact t3, fun i hi => by rw [e3]; exact t4 i hi⟩, ⟨by rw [e4]; exact r1, r2, r3, fun i hi => by rw [e4]; exact r4 i hi⟩, fun k hk hk2 => by rw [e4]; exact h4 k hk hk2, ⟨(nx + 7) % 8, Nat.mod_lt _ (by omega), k2, k3, ?_⟩, ?_⟩, ?_, ?_⟩
  · intro j hj
    have hj : j < b := hj
    show RepS (τ 2 (4 + ((nx + 7) % 8 + 7 - j) % 8)) (F.2.2.2.2.1.2 (j + 1))
    rw [show ((nx + 7) % 8 + 7 - j) % 8 = (nx + 7 - (j + 1)) % 8 by omega, k4 2 _ (by omega) (by omega)]
    exact m4 (j + 1) (by omega)
  · revert h6
    show (match F.2.2.2.2.2 with | none => σ 4 0 0 9 = 0 | some I => σ 4 0 0 9 = 1 ∧ RepS (σ 2 2) I) → (match F.2.2.2.2.2 with | none => τ 4 0 0 9 = 0 | some I => τ 4 0 0 9 = 1 ∧ RepS (τ 2 2) I)
    rw [e4, k4 2 2 (by omega) (by omega)]
    exact id
  · funext i; exact k4 5 i (by omega) (by omega)
  · funext i; exact k4 6 i (by omega) (by omega)
theorem RepA_img {σ τ : St} {F : Gv} (hA : RepA σ F) (h : Only 2 2 σ τ) (hR : RepS (τ 2 2) F.1) : RepA (setM τ 4 0 0 9 1) (F.1, F.2.1, F.2.2.1, F.2.2.2.1, F.2.2.2.2.1, some F.1) ∧ Oth σ (setM τ 4 0 0 9 1) := by
  obtain ⟨h1, ⟨t1, t2, t3, t4⟩, ⟨r1, r2, r3, r4⟩, h4, ⟨nx, n1, n2, n3, n4⟩, -⟩ := hA
  have ne : ∀ c i, ¬ (c = 4 ∧ i = 0) → ¬ (c = 2 ∧ i = 2) → setM τ 4 0 0 9 1 c i = σ c i := fun c i hn h2 => (set_ne hn).trans (h c i h2)
  have e4 := h 4 0 (by omega)
  refine ⟨⟨by rw [ne 2 0 (by omega) (by omega)]; exact h1, ⟨t1, t2, by rw [ne 3 0 (by omega) (by omega)]; exact t3, fun i hi => by rw [ne 3 0 (by omega) (by omega)]; exact t4 i hi⟩, ⟨by rw [setM_at, if_neg (by omega), e4]; exact r1, r2, r3, fun i hi => by rw [setM_at, if_neg (by omega), e4]; exact r4 i hi⟩, fun k hk hk2 => by rw [setM_at, if_neg (by omega), e4]; exact h4 k hk hk2, ⟨nx, n1, by rw [ne 1 0 (by omega) (by omega)]; exact n2, by rw [ne 1 0 (by omega) (by omega)]; exact n3, fun j hj => by rw [ne 2 _ (by omega) (by omega)]; exact n4 j hj⟩, ⟨by rw [setM_at, if_pos ⟨rfl, rfl⟩], by rw [set_ne (by omega)]; exact hR⟩⟩, ?_, ?_⟩
  · funext i; exact ne 5 i (by omega) (by omega)
  · funext i; exact ne 6 i (by omega) (by omega)
/-- the row's length, its next -/
theorem RepA_row {σ : St} {F : Gv} (hA : RepA σ F) {m v : Nat} (hm : m = F.2.2.1.1) (h12 : m < 12) (hv : v ≤ 99) {υ : St} (hu : υ = setM (setM σ 4 0 7 (nI m).toNatClampNeg (nI v)) 4 0 0 8 (nI (m + 1))) : RepA υ (F.1, F.2.1, (m + 1, fu F.2.2.1.2 m v), F.2.2.2) ∧ Oth σ υ := by
  subst hm hu
  obtain ⟨h1, ⟨t1, t2, t3, t4⟩, ⟨r1, r2, r3, r4⟩, h4, ⟨nx, n1, n2, n3, n4⟩, h6⟩ := hA
  rw [nI_clamp (by omega)]
  have ne : ∀ c i, ¬ (c = 4 ∧ i = 0) → setM (setM σ 4 0 7 F.2.2.1.1 (nI v)) 4 0 0 8 (nI (F.2.2.1.1 + 1)) c i = σ c i := fun c i hn => (set_ne hn).trans (set_ne hn)
  refine ⟨⟨by rw [ne 2 0 (by omega)]; exact h1, ⟨t1, t2, by rw [ne 3 0 (by omega)]; exact t3, fun i hi => by rw [ne 3 0 (by omega)]; exact t4 i hi⟩, ⟨by rw [setM_at, if_pos ⟨rfl, rfl⟩], by show _ + 1 ≤ 12; omega, fun i => ?_, fun i hi => ?_⟩, fun k hk hk2 => by rw [setM_at, if_neg (by omega), setM_at, if_neg (by omega)]; exact h4 k hk hk2, ⟨nx, n1, by rw [ne 1 0 (by omega)]; exact n2, by rw [ne 1 0 (by omega)]; exact n3, fun j hj => by rw [ne 2 _ (by omega)]; exact n4 j hj⟩, ?_⟩, ?_, ?_⟩
  · show fu F.2.2.1.2 F.2.2.1.1 v i ≤ 99
    unfold fu; split
    · exact hv
    · exact r3 i
  · have hi : i < F.2.2.1.1 + 1 := hi
    show _ = nI (fu F.2.2.1.2 F.2.2.1.1 v i)
    rw [setM_at, if_neg (by omega), setM_at]
    unfold fu
    by_cases he : i = F.2.2.1.1
    · rw [if_pos ⟨rfl, he⟩, if_pos he]
    · rw [if_neg (by omega), if_neg he]; exact r4 i (by omega)
  · revert h6
    show (match F.2.2.2.2.2 with | none => σ 4 0 0 9 = 0 | some I => σ 4 0 0 9 = 1 ∧ RepS (σ 2 2) I) → (match F.2.2.2.2.2 with | none => _ = (0 : Int32) | some I => _ = (1 : Int32) ∧ RepS (setM (setM σ 4 0 7 F.2.2.1.1 (nI v)) 4 0 0 8 (nI (F.2.2.1.1 + 1)) 2 2) I)
    rw [setM_at, if_neg (by omega), setM_at, if_neg (by omega), ne 2 2 (by omega)]
    exact id
  · funext i; exact ne 5 i (by omega)
  · funext i; exact ne 6 i (by omega)
theorem RepA_clr {σ : St} {F : Gv} (hA : RepA σ F) : RepA (setM σ 4 0 0 8 0) (F.1, F.2.1, (0, F.2.2.1.2), F.2.2.2) ∧ Oth σ (setM σ 4 0 0 8 0) := by
  obtain ⟨h1, ⟨t1, t2, t3, t4⟩, ⟨r1, r2, r3, r4⟩, h4, ⟨nx, n1, n2, n3, n4⟩, h6⟩ := hA
  have ne : ∀ c i, ¬ (c = 4 ∧ i = 0) → setM σ 4 0 0 8 0 c i = σ c i := fun c i hn => set_ne hn
  refine ⟨⟨by rw [ne 2 0 (by omega)]; exact h1, ⟨t1, t2, by rw [ne 3 0 (by omega)]; exact t3, fun i hi => by rw [ne 3 0 (by omega)]; exact t4 i hi⟩, ⟨by rw [setM_at, if_pos ⟨rfl, rfl⟩]; rfl, Nat.zero_le _, r3, fun i hi => absurd hi (Nat.not_lt_zero i)⟩, fun k hk hk2 => by rw [setM_at, if_neg (by omega)]; exact h4 k hk hk2, ⟨nx, n1, by rw [ne 1 0 (by omega)]; exact n2, by rw [ne 1 0 (by omega)]; exact n3, fun j hj => by rw [ne 2 _ (by omega)]; exact n4 j hj⟩, ?_⟩, ?_, ?_⟩
  · revert h6
    show (match F.2.2.2.2.2 with | none => σ 4 0 0 9 = 0 | some I => σ 4 0 0 9 = 1 ∧ RepS (σ 2 2) I) → (match F.2.2.2.2.2 with | none => _ = (0 : Int32) | some I => _ = (1 : Int32) ∧ RepS (setM σ 4 0 0 8 0 2 2) I)
    rw [setM_at, if_neg (by omega), ne 2 2 (by omega)]
    exact id
  · funext i; exact ne 5 i (by omega)
  · funext i; exact ne 6 i (by omega)
/-- the tale -/
theorem RepA_tale {σ τ : St} {F : Gv} {tp : Nat → Nat} {len : Nat} (hA : RepA σ F) (h : Only 3 0 σ τ) (hT : TaleR τ tp len) : RepA τ (F.1, (len, tp), F.2.2) ∧ Oth σ τ := by
  obtain ⟨h1, -, ⟨r1, r2, r3, r4⟩, h4, ⟨nx, n1, n2, n3, n4⟩, h6⟩ := hA
  have ne := fun c i (hn : ¬ (c = 3 ∧ i = 0)) => h c i hn
  refine ⟨⟨by rw [ne 2 0 (by omega)]; exact h1, hT, ⟨by rw [ne 4 0 (by omega)]; exact r1, r2, r3, fun i hi => by rw [ne 4 0 (by omega)]; exact r4 i hi⟩, fun k hk hk2 => by rw [ne 4 0 (by omega)]; exact h4 k hk hk2, ⟨nx, n1, by rw [ne 1 0 (by omega)]; exact n2, by rw [ne 1 0 (by omega)]; exact n3, fun j hj => by rw [ne 2 _ (by omega)]; exact n4 j hj⟩, ?_⟩, ?_, ?_⟩
  · revert h6
    show (match F.2.2.2.2.2 with | none => σ 4 0 0 9 = 0 | some I => σ 4 0 0 9 = 1 ∧ RepS (σ 2 2) I) → (match F.2.2.2.2.2 with | none => τ 4 0 0 9 = 0 | some I => τ 4 0 0 9 = 1 ∧ RepS (τ 2 2) I)
    rw [ne 4 0 (by omega), ne 2 2 (by omega)]
    exact id
  · funext i; exact ne 5 i (by omega)
  · funext i; exact ne 6 i (by omega)
theorem RepA_trial {σ τ : St} {F : Gv} (hA : RepA σ F) (h : Only 2 1 σ τ) : RepA τ F ∧ Oth σ τ := by
  obtain ⟨h1, ⟨t1, t2, t3, t4⟩, ⟨r1, r2, r3, r4⟩, h4, ⟨nx, n1, n2, n3, n4⟩, h6⟩ := hA
  have ne := fun c i (hn : ¬ (c = 2 ∧ i = 1)) => h c i hn
  refine ⟨⟨by rw [ne 2 0 (by omega)]; exact h1, ⟨t1, t2, by rw [ne 3 0 (by omega)]; exact t3, fun i hi => by rw [ne 3 0 (by omega)]; exact t4 i hi⟩, ⟨by rw [ne 4 0 (by omega)]; exact r1, r2, r3, fun i hi => by rw [ne 4 0 (by omega)]; exact r4 i hi⟩, fun k hk hk2 => by rw [ne 4 0 (by omega)]; exact h4 k hk hk2, ⟨nx, n1, by rw [ne 1 0 (by omega)]; exact n2, by rw [ne 1 0 (by omega)]; exact n3, fun j hj => by rw [ne 2 _ (by omega)]; exact n4 j hj⟩, ?_⟩, ?_, ?_⟩
  · revert h6
    cases F.2.2.2.2.2 with
    | none => intro h6; show τ 4 0 0 9 = 0; rw [ne 4 0 (by omega)]; exact h6
    | some I => intro h6; show τ 4 0 0 9 = 1 ∧ RepS (τ 2 2) I; rw [ne 4 0 (by omega), ne 2 2 (by omega)]; exact h6
  · funext i; exact ne 5 i (by omega)
  · funext i; exact ne 6 i (by omega)
theorem nI_s0 {b : Nat} (h : b + 1 < 2 ^ 31) : ¬ nI (b + 1) = 0 := fun q => by
  have := nI_lit (n := 0) q h (by decide)
  omega

set_option maxHeartbeats 4000000 in
set_option maxRecDepth 100000 in
theorem c5_feeds (F : Gv) (σ : St) (hA : RepA σ F) (hF : FOK F) (w : Int32) (v : Int32) : Ct M5_feeds 3 [.inr (.inr (4, 0, 0)), .inl w, .inl v] σ (QA σ (feedsP F w v)) := by
  refine Ct.of f_5_feeds (Nat.le_of_ble_eq_true rfl) ?_
  show AW M5_feeds 3 _ (0, [(0, .inr (.inr (4, 0, 0))), (1, .inl w), (2, .inl v)], [], σ)
  have hS : RepS (σ 2 0) F.1 := hA.1
  have hO : SOK F.1 := hF.1.1
  have hn8 : Sn F.1 ≤ 8 := hO.1
  obtain ⟨nx, m1, m2, m3, m4⟩ := id hA.2.2.2.2.1
  by_cases h0w : w = 0
  · subst h0w
    rcases fMax_or 9 (by decide) v with ⟨h4v1, ev1⟩ | ⟨h4v1, h6v1, ev1⟩ | ⟨v1, hv1, rfl, ev1⟩
    · skip
      refine AW.run 1 [] (1, [(0, .inr (.inr (4, 0, 0))), (1, .inl 0), (2, .inl v)], [.inl 0], σ) [] rfl ?_ ?_
      · exact trivial
      refine AW.callSI (d' := 0) [.inl 0] [] ⟨_, rfl⟩ f_5_isNoTwo s_5_isNoTwo l_5_114 rfl (Nat.le_of_ble_eq_true rfl) rfl (Nat.le_of_ble_eq_true rfl) (c5_isNoTwo0 σ) ?_
      rintro _ _ ⟨rfl, rfl⟩
      refine AW.run 5 [true, false] (21, [(0, .inr (.inr (4, 0, 0))), (1, .inl 0), (2, .inl v)], [.inl (-4), .inr (.inr (4, 0, 0))], σ) [icP .eq (0 : Int32) 0, ¬ icP .ge v 0] rfl ?_ ?_
      · exact ⟨(by decide : ((0 : Int32) = 0)), allP1 (nge_of h4v1)⟩
      refine AW.callVI (d' := 0) [.inl (-4)] [] ⟨_, rfl⟩ f_5_refuse v_5_refuse l_5_50 ⟨rfl, by decide⟩ rfl (Nat.le_of_ble_eq_true rfl) rfl (Nat.le_of_ble_eq_true rfl) (c5_refuse4 σ) ?_
      rintro _ _ ⟨rfl, rfl⟩
      refine AW.reti ⟨_, rfl⟩ rfl ?_
      exact ⟨rfuF F 4, (by unfold feedsP; rw [twoP_0, maxP_e4 ev1]; try rfl), RepA_ref hA (by decide) (by decide)⟩
    · skip
      refine AW.run 1 [] (1, [(0, .inr (.inr (4, 0, 0))), (1, .inl 0), (2, .inl v)], [.inl 0], σ) [] rfl ?_ ?_
      · exact trivial
      refine AW.callSI (d' := 0) [.inl 0] [] ⟨_, rfl⟩ f_5_isNoTwo s_5_isNoTwo l_5_114 rfl (Nat.le_of_ble_eq_true rfl) rfl (Nat.le_of_ble_eq_true rfl) (c5_isNoTwo0 σ) ?_
      rintro _ _ ⟨rfl, rfl⟩
      refine AW.run 8 [true, true, false] (34, [(0, .inr (.inr (4, 0, 0))), (1, .inl 0), (2, .inl v)], [.inl (-6), .inr (.inr (4, 0, 0))], σ) [icP .eq (0 : Int32) 0, icP .ge v 0, ¬ icP .le v 9] rfl ?_ ?_
      · exact ⟨(by decide : ((0 : Int32) = 0)), (ge_of h4v1), allP1 (nge_of h6v1)⟩
      refine AW.callVI (d' := 0) [.inl (-6)] [] ⟨_, rfl⟩ f_5_refuse v_5_refuse l_5_50 ⟨rfl, by decide⟩ rfl (Nat.le_of_ble_eq_true rfl) rfl (Nat.le_of_ble_eq_true rfl) (c5_refuse6 σ) ?_
      rintro _ _ ⟨rfl, rfl⟩
      refine AW.reti ⟨_, rfl⟩ rfl ?_
      exact ⟨rfuF F 6, (by unfold feedsP; rw [twoP_0, maxP_e6 ev1]; try rfl), RepA_ref hA (by decide) (by decide)⟩
    · skip
      refine AW.run 1 [] (1, [(0, .inr (.inr (4, 0, 0))), (1, .inl 0), (2, .inl (nI v1))], [.inl 0], σ) [] rfl ?_ ?_
      · exact trivial
      refine AW.callSI (d' := 0) [.inl 0] [] ⟨_, rfl⟩ f_5_isNoTwo s_5_isNoTwo l_5_114 rfl (Nat.le_of_ble_eq_true rfl) rfl (Nat.le_of_ble_eq_true rfl) (c5_isNoTwo0 σ) ?_
      rintro _ _ ⟨rfl, rfl⟩
      refine AW.run 10 [true, true, true] (46, [(0, .inr (.inr (4, 0, 0))), (1, .inl 0), (2, .inl (nI v1))], [.inr (.inr (2, 0, 0)), .inr (.inr (1, 0, 0))], σ) [icP .eq (0 : Int32) 0, icP .ge (nI v1) 0, icP .le (nI v1) 9] rfl ?_ ?_
      · exact ⟨(by decide : ((0 : Int32) = 0)), (nI_pos' (by omega)), allP1 (nI_le (b := 9) hv1 (by decide))⟩
      refine AW.callVV (d' := 2) [.inr (.inr (2, 0, 0))] [] ⟨_, rfl⟩ f_2_keep v_2_keep l_5_117 ⟨rfl, by decide⟩ rfl (Nat.le_of_ble_eq_true rfl) rfl (Nat.le_of_ble_eq_true rfl) (c2_keep F.1 σ hS hO nx F.2.2.2.2.1.1 m1 hF.2.2.2.1.1 m2 m3) ?_
      rintro τ ⟨k1, k2, k3, k4⟩
      obtain ⟨hA1, hX1⟩ := RepA_keep hA m1 m2 m3 m4 hF.2.2.2.1.1 k1 k2 k3 k4
      have hS1 : RepS (τ 2 0) F.1 := hA1.1
      refine AW.run 5 [false] (60, [(0, .inr (.inr (4, 0, 0))), (1, .inl 0), (2, .inl (nI v1))], [.inl (τ 2 0 0 10)], τ) [¬ icP .ne (0 : Int32) 0] rfl ?_ ?_
      · exact allP1 (by decide : ¬ (¬ (0 : Int32) = 0))
      rw [(hS1).1.2.2.2.1]
      refine AW.run 1 [] (70, [(0, .inr (.inr (4, 0, 0))), (1, .inl 0), (2, .inl (nI v1))], [.inl (nI (Su F.1))], τ) [] rfl ?_ ?_
      · exact trivial
      refine AW.run 9 [false] (87, [(3, .inl (nI (Su F.1))), (0, .inr (.inr (4, 0, 0))), (1, .inl 0), (2, .inl (nI v1))], [.inl (τ 2 0 0 11), .inl (nI v1), .inr (.inr (2, 0, 0))], τ) [¬ icP .ne (0 : Int32) 0] rfl ?_ ?_
      · exact allP1 (by decide : ¬ (¬ (0 : Int32) = 0))
      rw [(hS1).1.2.2.2.2.1]
      refine AW.callVV (d' := 2) [.inl (nI v1), .inl (nI (She F.1))] [] ⟨_, rfl⟩ f_3_nourish v_3_nourish l_5_126 ⟨rfl, by decide⟩ rfl (Nat.le_of_ble_eq_true rfl) rfl (Nat.le_of_ble_eq_true rfl) (c3_nourish 0 F.1 τ hS1 hO v1 (She F.1) hv1 hO.2.2.2.2) ?_
      rintro τ2 ⟨w1, w2⟩
      refine AW.run 2 [] (109, [(3, .inl (nI (Su F.1))), (0, .inr (.inr (4, 0, 0))), (1, .inl 0), (2, .inl (nI v1))], [.inl (nI (Su F.1))], τ2) [] rfl ?_ ?_
      · exact trivial
      refine AW.reti ⟨_, rfl⟩ rfl ?_
      exact ⟨_, (by unfold feedsP; rw [twoP_0, maxP_e0 ev1 (by omega)]; try rfl), QA_now hA1 hX1 w1 w2⟩
  by_cases h1w : w = 1
  · subst h1w
    rcases fMax_or 9 (by decide) v with ⟨h4v1, ev1⟩ | ⟨h4v1, h6v1, ev1⟩ | ⟨v1, hv1, rfl, ev1⟩
    · skip
      refine AW.run 1 [] (1, [(0, .inr (.inr (4, 0, 0))), (1, .inl 1), (2, .inl v)], [.inl 1], σ) [] rfl ?_ ?_
      · exact trivial
      refine AW.callSI (d' := 0) [.inl 1] [] ⟨_, rfl⟩ f_5_isNoTwo s_5_isNoTwo l_5_114 rfl (Nat.le_of_ble_eq_true rfl) rfl (Nat.le_of_ble_eq_true rfl) (c5_isNoTwo1 σ) ?_
      rintro _ _ ⟨rfl, rfl⟩
      refine AW.run 5 [true, false] (21, [(0, .inr (.inr (4, 0, 0))), (1, .inl 1), (2, .inl v)], [.inl (-4), .inr (.inr (4, 0, 0))], σ) [icP .eq (0 : Int32) 0, ¬ icP .ge v 0] rfl ?_ ?_
      · exact ⟨(by decide : ((0 : Int32) = 0)), allP1 (nge_of h4v1)⟩
      refine AW.callVI (d' := 0) [.inl (-4)] [] ⟨_, rfl⟩ f_5_refuse v_5_refuse l_5_50 ⟨rfl, by decide⟩ rfl (Nat.le_of_ble_eq_true rfl) rfl (Nat.le_of_ble_eq_true rfl) (c5_refuse4 σ) ?_
      rintro _ _ ⟨rfl, rfl⟩
      refine AW.reti ⟨_, rfl⟩ rfl ?_
      exact ⟨rfuF F 4, (by unfold feedsP; rw [twoP_1, maxP_e4 ev1]; try rfl), RepA_ref hA (by decide) (by decide)⟩
    · skip
      refine AW.run 1 [] (1, [(0, .inr (.inr (4, 0, 0))), (1, .inl 1), (2, .inl v)], [.inl 1], σ) [] rfl ?_ ?_
      · exact trivial
      refine AW.callSI (d' := 0) [.inl 1] [] ⟨_, rfl⟩ f_5_isNoTwo s_5_isNoTwo l_5_114 rfl (Nat.le_of_ble_eq_true rfl) rfl (Nat.le_of_ble_eq_true rfl) (c5_isNoTwo1 σ) ?_
      rintro _ _ ⟨rfl, rfl⟩
      refine AW.run 8 [true, true, false] (34, [(0, .inr (.inr (4, 0, 0))), (1, .inl 1), (2, .inl v)], [.inl (-6), .inr (.inr (4, 0, 0))], σ) [icP .eq (0 : Int32) 0, icP .ge v 0, ¬ icP .le v 9] rfl ?_ ?_
      · exact ⟨(by decide : ((0 : Int32) = 0)), (ge_of h4v1), allP1 (nge_of h6v1)⟩
      refine AW.callVI (d' := 0) [.inl (-6)] [] ⟨_, rfl⟩ f_5_refuse v_5_refuse l_5_50 ⟨rfl, by decide⟩ rfl (Nat.le_of_ble_eq_true rfl) rfl (Nat.le_of_ble_eq_true rfl) (c5_refuse6 σ) ?_
      rintro _ _ ⟨rfl, rfl⟩
      refine AW.reti ⟨_, rfl⟩ rfl ?_
      exact ⟨rfuF F 6, (by unfold feedsP; rw [twoP_1, maxP_e6 ev1]; try rfl), RepA_ref hA (by decide) (by decide)⟩
    · skip
      refine AW.run 1 [] (1, [(0, .inr (.inr (4, 0, 0))), (1, .inl 1), (2, .inl (nI v1))], [.inl 1], σ) [] rfl ?_ ?_
      · exact trivial
      refine AW.callSI (d' := 0) [.inl 1] [] ⟨_, rfl⟩ f_5_isNoTwo s_5_isNoTwo l_5_114 rfl (Nat.le_of_ble_eq_true rfl) rfl (Nat.le_of_ble_eq_true rfl) (c5_isNoTwo1 σ) ?_
      rintro _ _ ⟨rfl, rfl⟩
      refine AW.run 10 [true, true, true] (46, [(0, .inr (.inr (4, 0, 0))), (1, .inl 1), (2, .inl (nI v1))], [.inr (.inr (2, 0, 0)), .inr (.inr (1, 0, 0))], σ) [icP .eq (0 : Int32) 0, icP .ge (nI v1) 0, icP .le (nI v1) 9] rfl ?_ ?_
      · exact ⟨(by decide : ((0 : Int32) = 0)), (nI_pos' (by omega)), allP1 (nI_le (b := 9) hv1 (by decide))⟩
      refine AW.callVV (d' := 2) [.inr (.inr (2, 0, 0))] [] ⟨_, rfl⟩ f_2_keep v_2_keep l_5_117 ⟨rfl, by decide⟩ rfl (Nat.le_of_ble_eq_true rfl) rfl (Nat.le_of_ble_eq_true rfl) (c2_keep F.1 σ hS hO nx F.2.2.2.2.1.1 m1 hF.2.2.2.1.1 m2 m3) ?_
      rintro τ ⟨k1, k2, k3, k4⟩
      obtain ⟨hA1, hX1⟩ := RepA_keep hA m1 m2 m3 m4 hF.2.2.2.1.1 k1 k2 k3 k4
      have hS1 : RepS (τ 2 0) F.1 := hA1.1
      refine AW.run 5 [true] (70, [(0, .inr (.inr (4, 0, 0))), (1, .inl 1), (2, .inl (nI v1))], [.inl (τ 2 0 0 11)], τ) [icP .ne (1 : Int32) 0] rfl ?_ ?_
      · exact allP1 (by decide : (¬ (1 : Int32) = 0))
      rw [(hS1).1.2.2.2.2.1]
      refine AW.run 8 [true] (104, [(3, .inl (nI (She F.1))), (0, .inr (.inr (4, 0, 0))), (1, .inl 1), (2, .inl (nI v1))], [.inl (τ 2 0 0 10), .inr (.inr (2, 0, 0))], τ) [icP .ne (1 : Int32) 0] rfl ?_ ?_
      · exact allP1 (by decide : (¬ (1 : Int32) = 0))
      rw [(hS1).1.2.2.2.1]
      refine AW.run 1 [] (105, [(3, .inl (nI (She F.1))), (0, .inr (.inr (4, 0, 0))), (1, .inl 1), (2, .inl (nI v1))], [.inl (nI v1), .inl (nI (Su F.1)), .inr (.inr (2, 0, 0))], τ) [] rfl ?_ ?_
      · exact trivial
      refine AW.callVV (d' := 2) [.inl (nI (Su F.1)), .inl (nI v1)] [] ⟨_, rfl⟩ f_3_nourish v_3_nourish l_5_126 ⟨rfl, by decide⟩ rfl (Nat.le_of_ble_eq_true rfl) rfl (Nat.le_of_ble_eq_true rfl) (c3_nourish 0 F.1 τ hS1 hO (Su F.1) v1 hO.2.2.2.1 hv1) ?_
      rintro τ2 ⟨w1, w2⟩
      refine AW.run 1 [] (109, [(3, .inl (nI (She F.1))), (0, .inr (.inr (4, 0, 0))), (1, .inl 1), (2, .inl (nI v1))], [.inl (nI (She F.1))], τ2) [] rfl ?_ ?_
      · exact trivial
      refine AW.reti ⟨_, rfl⟩ rfl ?_
      exact ⟨_, (by unfold feedsP; rw [twoP_1, maxP_e0 ev1 (by omega)]; try rfl), QA_now hA1 hX1 w1 w2⟩
  · skip
    refine AW.run 1 [] (1, [(0, .inr (.inr (4, 0, 0))), (1, .inl w), (2, .inl v)], [.inl w], σ) [] rfl ?_ ?_
    · exact trivial
    refine AW.callSI (d' := 0) [.inl w] [] ⟨_, rfl⟩ f_5_isNoTwo s_5_isNoTwo l_5_114 rfl (Nat.le_of_ble_eq_true rfl) rfl (Nat.le_of_ble_eq_true rfl) (c5_isNoTwoN w h0w h1w σ) ?_
    rintro _ _ ⟨rfl, rfl⟩
    refine AW.run 3 [false] (10, [(0, .inr (.inr (4, 0, 0))), (1, .inl w), (2, .inl v)], [.inl (-2), .inr (.inr (4, 0, 0))], σ) [¬ icP .eq (1 : Int32) 0] rfl ?_ ?_
    · exact allP1 (by decide : ¬ ((1 : Int32) = 0))
    refine AW.callVI (d' := 0) [.inl (-2)] [] ⟨_, rfl⟩ f_5_refuse v_5_refuse l_5_50 ⟨rfl, by decide⟩ rfl (Nat.le_of_ble_eq_true rfl) rfl (Nat.le_of_ble_eq_true rfl) (c5_refuse2 σ) ?_
    rintro _ _ ⟨rfl, rfl⟩
    refine AW.reti ⟨_, rfl⟩ rfl ?_
    exact ⟨rfuF F 2, (by unfold feedsP; rw [twoP_N h0w h1w]; try rfl), RepA_ref hA (by decide) (by decide)⟩
set_option maxHeartbeats 4000000 in
set_option maxRecDepth 100000 in
theorem c5_outs (F : Gv) (σ : St) (hA : RepA σ F) (hF : FOK F) (b : Int32) : Ct M5_outs 3 [.inr (.inr (4, 0, 0)), .inl b] σ (QA σ (outsP F b)) := by
  refine Ct.of f_5_outs (Nat.le_of_ble_eq_true rfl) ?_
  show AW M5_outs 3 _ (0, [(0, .inr (.inr (4, 0, 0))), (1, .inl b)], [], σ)
  have hS : RepS (σ 2 0) F.1 := hA.1
  have hO : SOK F.1 := hF.1.1
  have hn8 : Sn F.1 ≤ 8 := hO.1
  obtain ⟨nx, m1, m2, m3, m4⟩ := id hA.2.2.2.2.1
  rcases bot_or (Sn F.1) b with ⟨k, hk, rfl⟩ | hnok
  · skip
    cases hw : Sw F.1 k
    · skip
      refine AW.run 3 [] (5, [(0, .inr (.inr (4, 0, 0))), (1, .inl (nI k))], [.inl (nI k), .inr (.inr (2, 0, 0))], σ) [] rfl ?_ ?_
      · exact trivial
      refine AW.callVI (d' := 0) [.inl (nI k)] [] ⟨_, rfl⟩ f_3_has v_3_has l_5_74 ⟨rfl, by decide⟩ rfl (Nat.le_of_ble_eq_true rfl) rfl (Nat.le_of_ble_eq_true rfl) (c3_has 0 F.1 σ hS hO (nI k)) ?_
      rintro v _ ⟨rfl, hv⟩
      obtain rfl : v = 1 := by
        rcases hv with h | h
        · exact h.1
        · exact absurd rfl (h.2 k hk)
      refine AW.run 4 [true] (22, [(0, .inr (.inr (4, 0, 0))), (1, .inl (nI k))], [.inl (nI k), .inr (.inr (2, 0, 0))], σ) [icP .ne (1 : Int32) 0] rfl ?_ ?_
      · exact allP1 (by decide : (¬ (1 : Int32) = 0))
      refine AW.callVI (d' := 0) [.inl (nI k)] [] ⟨_, rfl⟩ f_3_isWhole v_3_isWhole l_5_90 ⟨rfl, by decide⟩ rfl (Nat.le_of_ble_eq_true rfl) rfl (Nat.le_of_ble_eq_true rfl) (c3_isWhole 0 F.1 σ hS hO k (by omega)) ?_
      rintro v _ ⟨rfl, hv⟩
      obtain rfl : v = 0 := by
        rcases hv with h | h
        · exact absurd (hw.symm.trans h.2) (by decide)
        · exact h.1
      refine AW.run 3 [false] (31, [(0, .inr (.inr (4, 0, 0))), (1, .inl (nI k))], [.inl (-3), .inr (.inr (4, 0, 0))], σ) [¬ icP .ne (0 : Int32) 0] rfl ?_ ?_
      · exact allP1 (by decide : ¬ (¬ (0 : Int32) = 0))
      refine AW.callVI (d' := 0) [.inl (-3)] [] ⟨_, rfl⟩ f_5_refuse v_5_refuse l_5_50 ⟨rfl, by decide⟩ rfl (Nat.le_of_ble_eq_true rfl) rfl (Nat.le_of_ble_eq_true rfl) (c5_refuse3 σ) ?_
      rintro _ _ ⟨rfl, rfl⟩
      refine AW.reti ⟨_, rfl⟩ rfl ?_
      exact ⟨rfuF F 3, (by unfold outsP; rw [botP_some hk hn8, whP_f hw]; try rfl), RepA_ref hA (by decide) (by decide)⟩
    · skip
      refine AW.run 3 [] (5, [(0, .inr (.inr (4, 0, 0))), (1, .inl (nI k))], [.inl (nI k), .inr (.inr (2, 0, 0))], σ) [] rfl ?_ ?_
      · exact trivial
      refine AW.callVI (d' := 0) [.inl (nI k)] [] ⟨_, rfl⟩ f_3_has v_3_has l_5_74 ⟨rfl, by decide⟩ rfl (Nat.le_of_ble_eq_true rfl) rfl (Nat.le_of_ble_eq_true rfl) (c3_has 0 F.1 σ hS hO (nI k)) ?_
      rintro v _ ⟨rfl, hv⟩
      obtain rfl : v = 1 := by
        rcases hv with h | h
        · exact h.1
        · exact absurd rfl (h.2 k hk)
      refine AW.run 4 [true] (22, [(0, .inr (.inr (4, 0, 0))), (1, .inl (nI k))], [.inl (nI k), .inr (.inr (2, 0, 0))], σ) [icP .ne (1 : Int32) 0] rfl ?_ ?_
      · exact allP1 (by decide : (¬ (1 : Int32) = 0))
      refine AW.callVI (d' := 0) [.inl (nI k)] [] ⟨_, rfl⟩ f_3_isWhole v_3_isWhole l_5_90 ⟨rfl, by decide⟩ rfl (Nat.le_of_ble_eq_true rfl) rfl (Nat.le_of_ble_eq_true rfl) (c3_isWhole 0 F.1 σ hS hO k (by omega)) ?_
      rintro v _ ⟨rfl, hv⟩
      obtain rfl : v = 1 := by
        rcases hv with h | h
        · exact h.1
        · exact absurd (hw.symm.trans h.2) (by decide)
      refine AW.run 5 [true] (43, [(0, .inr (.inr (4, 0, 0))), (1, .inl (nI k))], [.inr (.inr (2, 0, 0)), .inr (.inr (1, 0, 0))], σ) [icP .ne (1 : Int32) 0] rfl ?_ ?_
      · exact allP1 (by decide : (¬ (1 : Int32) = 0))
      refine AW.callVV (d' := 2) [.inr (.inr (2, 0, 0))] [] ⟨_, rfl⟩ f_2_keep v_2_keep l_5_117 ⟨rfl, by decide⟩ rfl (Nat.le_of_ble_eq_true rfl) rfl (Nat.le_of_ble_eq_true rfl) (c2_keep F.1 σ hS hO nx F.2.2.2.2.1.1 m1 hF.2.2.2.1.1 m2 m3) ?_
      rintro τ ⟨k1, k2, k3, k4⟩
      obtain ⟨hA1, hX1⟩ := RepA_keep hA m1 m2 m3 m4 hF.2.2.2.1.1 k1 k2 k3 k4
      have hS1 : RepS (τ 2 0) F.1 := hA1.1
      refine AW.run 3 [] (51, [(0, .inr (.inr (4, 0, 0))), (1, .inl (nI k))], [.inl (nI k), .inr (.inr (2, 0, 0))], τ) [] rfl ?_ ?_
      · exact trivial
      refine AW.callVI (d' := 1) [.inl (nI k)] [] ⟨_, rfl⟩ f_3_pressOf v_3_pressOf l_5_87 ⟨rfl, by decide⟩ rfl (Nat.le_of_ble_eq_true rfl) rfl (Nat.le_of_ble_eq_true rfl) (c3_pressOf 0 F.1 τ hS1 hO k hk) ?_
      rintro _ _ ⟨rfl, rfl⟩
      refine AW.run 5 [] (61, [(2, .inl (nI (Sq F.1 k))), (0, .inr (.inr (4, 0, 0))), (1, .inl (nI k))], [.inl 0, .inl (nI k), .inr (.inr (2, 0, 0))], τ) [] rfl ?_ ?_
      · exact trivial
      refine AW.callVV (d' := 1) [.inl (nI k), .inl 0] [] ⟨_, rfl⟩ f_3_setPress v_3_setPress l_5_130 ⟨rfl, by decide⟩ rfl (Nat.le_of_ble_eq_true rfl) rfl (Nat.le_of_ble_eq_true rfl) (c3_setPress 0 F.1 τ hS1 hO k 0 hk) ?_
      rintro τ2 ⟨w1, w2⟩
      refine AW.run 1 [] (65, [(2, .inl (nI (Sq F.1 k))), (0, .inr (.inr (4, 0, 0))), (1, .inl (nI k))], [.inl (nI (Sq F.1 k))], τ2) [] rfl ?_ ?_
      · exact trivial
      refine AW.reti ⟨_, rfl⟩ rfl ?_
      exact ⟨_, (by unfold outsP; rw [botP_some hk hn8, whP_t hw]; try rfl), QA_now hA1 hX1 w1 w2⟩
  · skip
    refine AW.run 3 [] (5, [(0, .inr (.inr (4, 0, 0))), (1, .inl b)], [.inl b, .inr (.inr (2, 0, 0))], σ) [] rfl ?_ ?_
    · exact trivial
    refine AW.callVI (d' := 0) [.inl b] [] ⟨_, rfl⟩ f_3_has v_3_has l_5_74 ⟨rfl, by decide⟩ rfl (Nat.le_of_ble_eq_true rfl) rfl (Nat.le_of_ble_eq_true rfl) (c3_has 0 F.1 σ hS hO b) ?_
    rintro v _ ⟨rfl, hv⟩
    obtain rfl : v = 0 := by
      rcases hv with h | h
      · exact absurd h.2.choose_spec.2 (hnok _ h.2.choose_spec.1)
      · exact h.1
    refine AW.run 3 [false] (13, [(0, .inr (.inr (4, 0, 0))), (1, .inl b)], [.inl (-1), .inr (.inr (4, 0, 0))], σ) [¬ icP .ne (0 : Int32) 0] rfl ?_ ?_
    · exact allP1 (by decide : ¬ (¬ (0 : Int32) = 0))
    refine AW.callVI (d' := 0) [.inl (-1)] [] ⟨_, rfl⟩ f_5_refuse v_5_refuse l_5_50 ⟨rfl, by decide⟩ rfl (Nat.le_of_ble_eq_true rfl) rfl (Nat.le_of_ble_eq_true rfl) (c5_refuse1 σ) ?_
    rintro _ _ ⟨rfl, rfl⟩
    refine AW.reti ⟨_, rfl⟩ rfl ?_
    exact ⟨rfuF F 1, (by unfold outsP; rw [botP_none hnok]; try rfl), RepA_ref hA (by decide) (by decide)⟩
set_option maxHeartbeats 4000000 in
set_option maxRecDepth 100000 in
theorem c5_towels (F : Gv) (σ : St) (hA : RepA σ F) (hF : FOK F) (b : Int32) : Ct M5_towels 3 [.inr (.inr (4, 0, 0)), .inl b] σ (QA σ (towelsP F b)) := by
  refine Ct.of f_5_towels (Nat.le_of_ble_eq_true rfl) ?_
  show AW M5_towels 3 _ (0, [(0, .inr (.inr (4, 0, 0))), (1, .inl b)], [], σ)
  have hS : RepS (σ 2 0) F.1 := hA.1
  have hO : SOK F.1 := hF.1.1
  have hn8 : Sn F.1 ≤ 8 := hO.1
  obtain ⟨nx, m1, m2, m3, m4⟩ := id hA.2.2.2.2.1
  rcases bot_or (Sn F.1) b with ⟨k, hk, rfl⟩ | hnok
  · skip
    cases hw : Sw F.1 k
    · skip
      refine AW.run 3 [] (5, [(0, .inr (.inr (4, 0, 0))), (1, .inl (nI k))], [.inl (nI k), .inr (.inr (2, 0, 0))], σ) [] rfl ?_ ?_
      · exact trivial
      refine AW.callVI (d' := 0) [.inl (nI k)] [] ⟨_, rfl⟩ f_3_has v_3_has l_5_74 ⟨rfl, by decide⟩ rfl (Nat.le_of_ble_eq_true rfl) rfl (Nat.le_of_ble_eq_true rfl) (c3_has 0 F.1 σ hS hO (nI k)) ?_
      rintro v _ ⟨rfl, hv⟩
      obtain rfl : v = 1 := by
        rcases hv with h | h
        · exact h.1
        · exact absurd rfl (h.2 k hk)
      refine AW.run 4 [true] (22, [(0, .inr (.inr (4, 0, 0))), (1, .inl (nI k))], [.inl (nI k), .inr (.inr (2, 0, 0))], σ) [icP .ne (1 : Int32) 0] rfl ?_ ?_
      · exact allP1 (by decide : (¬ (1 : Int32) = 0))
      refine AW.callVI (d' := 0) [.inl (nI k)] [] ⟨_, rfl⟩ f_3_isWhole v_3_isWhole l_5_90 ⟨rfl, by decide⟩ rfl (Nat.le_of_ble_eq_true rfl) rfl (Nat.le_of_ble_eq_true rfl) (c3_isWhole 0 F.1 σ hS hO k (by omega)) ?_
      rintro v _ ⟨rfl, hv⟩
      obtain rfl : v = 0 := by
        rcases hv with h | h
        · exact absurd (hw.symm.trans h.2) (by decide)
        · exact h.1
      refine AW.run 3 [false] (31, [(0, .inr (.inr (4, 0, 0))), (1, .inl (nI k))], [.inl (-3), .inr (.inr (4, 0, 0))], σ) [¬ icP .ne (0 : Int32) 0] rfl ?_ ?_
      · exact allP1 (by decide : ¬ (¬ (0 : Int32) = 0))
      refine AW.callVI (d' := 0) [.inl (-3)] [] ⟨_, rfl⟩ f_5_refuse v_5_refuse l_5_50 ⟨rfl, by decide⟩ rfl (Nat.le_of_ble_eq_true rfl) rfl (Nat.le_of_ble_eq_true rfl) (c5_refuse3 σ) ?_
      rintro _ _ ⟨rfl, rfl⟩
      refine AW.reti ⟨_, rfl⟩ rfl ?_
      exact ⟨rfuF F 3, (by unfold towelsP; rw [botP_some hk hn8, whP_f hw]; try rfl), RepA_ref hA (by decide) (by decide)⟩
    · skip
      cases htw : Stw F.1 k
      · skip
        have hc9 : Stw (withT F.1 (fu (Stw F.1) k (!(Stw F.1 k)))) k = true := by show fu (Stw F.1) k (!(Stw F.1 k)) k = true; rw [fu_eq, htw]; rfl
        refine AW.run 3 [] (5, [(0, .inr (.inr (4, 0, 0))), (1, .inl (nI k))], [.inl (nI k), .inr (.inr (2, 0, 0))], σ) [] rfl ?_ ?_
        · exact trivial
        refine AW.callVI (d' := 0) [.inl (nI k)] [] ⟨_, rfl⟩ f_3_has v_3_has l_5_74 ⟨rfl, by decide⟩ rfl (Nat.le_of_ble_eq_true rfl) rfl (Nat.le_of_ble_eq_true rfl) (c3_has 0 F.1 σ hS hO (nI k)) ?_
        rintro v _ ⟨rfl, hv⟩
        obtain rfl : v = 1 := by
          rcases hv with h | h
          · exact h.1
          · exact absurd rfl (h.2 k hk)
        refine AW.run 4 [true] (22, [(0, .inr (.inr (4, 0, 0))), (1, .inl (nI k))], [.inl (nI k), .inr (.inr (2, 0, 0))], σ) [icP .ne (1 : Int32) 0] rfl ?_ ?_
        · exact allP1 (by decide : (¬ (1 : Int32) = 0))
        refine AW.callVI (d' := 0) [.inl (nI k)] [] ⟨_, rfl⟩ f_3_isWhole v_3_isWhole l_5_90 ⟨rfl, by decide⟩ rfl (Nat.le_of_ble_eq_true rfl) rfl (Nat.le_of_ble_eq_true rfl) (c3_isWhole 0 F.1 σ hS hO k (by omega)) ?_
        rintro v _ ⟨rfl, hv⟩
        obtain rfl : v = 1 := by
          rcases hv with h | h
          · exact h.1
          · exact absurd (hw.symm.trans h.2) (by decide)
        refine AW.run 5 [true] (43, [(0, .inr (.inr (4, 0, 0))), (1, .inl (nI k))], [.inr (.inr (2, 0, 0)), .inr (.inr (1, 0, 0))], σ) [icP .ne (1 : Int32) 0] rfl ?_ ?_
        · exact allP1 (by decide : (¬ (1 : Int32) = 0))
        refine AW.callVV (d' := 2) [.inr (.inr (2, 0, 0))] [] ⟨_, rfl⟩ f_2_keep v_2_keep l_5_117 ⟨rfl, by decide⟩ rfl (Nat.le_of_ble_eq_true rfl) rfl (Nat.le_of_ble_eq_true rfl) (c2_keep F.1 σ hS hO nx F.2.2.2.2.1.1 m1 hF.2.2.2.1.1 m2 m3) ?_
        rintro τ ⟨k1, k2, k3, k4⟩
        obtain ⟨hA1, hX1⟩ := RepA_keep hA m1 m2 m3 m4 hF.2.2.2.1.1 k1 k2 k3 k4
        have hS1 : RepS (τ 2 0) F.1 := hA1.1
        refine AW.run 3 [] (51, [(0, .inr (.inr (4, 0, 0))), (1, .inl (nI k))], [.inl (nI k), .inr (.inr (2, 0, 0))], τ) [] rfl ?_ ?_
        · exact trivial
        refine AW.callVV (d' := 1) [.inl (nI k)] [] ⟨_, rfl⟩ f_3_turnTowel v_3_turnTowel l_5_133 ⟨rfl, by decide⟩ rfl (Nat.le_of_ble_eq_true rfl) rfl (Nat.le_of_ble_eq_true rfl) (c3_turnTowel 0 F.1 τ hS1 hO k hk) ?_
        rintro τ2 ⟨w1, w2⟩
        refine AW.run 3 [] (59, [(0, .inr (.inr (4, 0, 0))), (1, .inl (nI k))], [.inl (nI k), .inr (.inr (2, 0, 0))], τ2) [] rfl ?_ ?_
        · exact trivial
        refine AW.callVI (d' := 0) [.inl (nI k)] [] ⟨_, rfl⟩ f_3_isCovered v_3_isCovered l_5_93 ⟨rfl, by decide⟩ rfl (Nat.le_of_ble_eq_true rfl) rfl (Nat.le_of_ble_eq_true rfl) (c3_isCovered 0 _ τ2 w2 (SOK_t hO hk) k (by omega)) ?_
        rintro v _ ⟨rfl, hv⟩
        obtain rfl : v = 1 := by
          rcases hv with h | h
          · exact h.1
          · exact absurd (hc9.symm.trans h.2) (by decide)
        refine AW.run 3 [false] (70, [(0, .inr (.inr (4, 0, 0))), (1, .inl (nI k))], [.inl 1], τ2) [¬ icP .eq (1 : Int32) 0] rfl ?_ ?_
        · exact allP1 (by decide : ¬ ((1 : Int32) = 0))
        refine AW.reti ⟨_, rfl⟩ rfl ?_
        exact ⟨_, (by unfold towelsP; rw [botP_some hk hn8, whP_t hw]; rw [if_neg (by rw [htw]; decide)]; try rfl), QA_now hA1 hX1 w1 w2⟩
      · skip
        have hc9 : Stw (withT F.1 (fu (Stw F.1) k (!(Stw F.1 k)))) k = false := by show fu (Stw F.1) k (!(Stw F.1 k)) k = false; rw [fu_eq, htw]; rfl
        refine AW.run 3 [] (5, [(0, .inr (.inr (4, 0, 0))), (1, .inl (nI k))], [.inl (nI k), .inr (.inr (2, 0, 0))], σ) [] rfl ?_ ?_
        · exact trivial
        refine AW.callVI (d' := 0) [.inl (nI k)] [] ⟨_, rfl⟩ f_3_has v_3_has l_5_74 ⟨rfl, by decide⟩ rfl (Nat.le_of_ble_eq_true rfl) rfl (Nat.le_of_ble_eq_true rfl) (c3_has 0 F.1 σ hS hO (nI k)) ?_
        rintro v _ ⟨rfl, hv⟩
        obtain rfl : v = 1 := by
          rcases hv with h | h
          · exact h.1
          · exact absurd rfl (h.2 k hk)
        refine AW.run 4 [true] (22, [(0, .inr (.inr (4, 0, 0))), (1, .inl (nI k))], [.inl (nI k), .inr (.inr (2, 0, 0))], σ) [icP .ne (1 : Int32) 0] rfl ?_ ?_
        · exact allP1 (by decide : (¬ (1 : Int32) = 0))
        refine AW.callVI (d' := 0) [.inl (nI k)] [] ⟨_, rfl⟩ f_3_isWhole v_3_isWhole l_5_90 ⟨rfl, by decide⟩ rfl (Nat.le_of_ble_eq_true rfl) rfl (Nat.le_of_ble_eq_true rfl) (c3_isWhole 0 F.1 σ hS hO k (by omega)) ?_
        rintro v _ ⟨rfl, hv⟩
        obtain rfl : v = 1 := by
          rcases hv with h | h
          · exact h.1
          · exact absurd (hw.symm.trans h.2) (by decide)
        refine AW.run 5 [true] (43, [(0, .inr (.inr (4, 0, 0))), (1, .inl (nI k))], [.inr (.inr (2, 0, 0)), .inr (.inr (1, 0, 0))], σ) [icP .ne (1 : Int32) 0] rfl ?_ ?_
        · exact allP1 (by decide : (¬ (1 : Int32) = 0))
        refine AW.callVV (d' := 2) [.inr (.inr (2, 0, 0))] [] ⟨_, rfl⟩ f_2_keep v_2_keep l_5_117 ⟨rfl, by decide⟩ rfl (Nat.le_of_ble_eq_true rfl) rfl (Nat.le_of_ble_eq_true rfl) (c2_keep F.1 σ hS hO nx F.2.2.2.2.1.1 m1 hF.2.2.2.1.1 m2 m3) ?_
        rintro τ ⟨k1, k2, k3, k4⟩
        obtain ⟨hA1, hX1⟩ := RepA_keep hA m1 m2 m3 m4 hF.2.2.2.1.1 k1 k2 k3 k4
        have hS1 : RepS (τ 2 0) F.1 := hA1.1
        refine AW.run 3 [] (51, [(0, .inr (.inr (4, 0, 0))), (1, .inl (nI k))], [.inl (nI k), .inr (.inr (2, 0, 0))], τ) [] rfl ?_ ?_
        · exact trivial
        refine AW.callVV (d' := 1) [.inl (nI k)] [] ⟨_, rfl⟩ f_3_turnTowel v_3_turnTowel l_5_133 ⟨rfl, by decide⟩ rfl (Nat.le_of_ble_eq_true rfl) rfl (Nat.le_of_ble_eq_true rfl) (c3_turnTowel 0 F.1 τ hS1 hO k hk) ?_
        rintro τ2 ⟨w1, w2⟩
        refine AW.run 3 [] (59, [(0, .inr (.inr (4, 0, 0))), (1, .inl (nI k))], [.inl (nI k), .inr (.inr (2, 0, 0))], τ2) [] rfl ?_ ?_
        · exact trivial
        refine AW.callVI (d' := 0) [.inl (nI k)] [] ⟨_, rfl⟩ f_3_isCovered v_3_isCovered l_5_93 ⟨rfl, by decide⟩ rfl (Nat.le_of_ble_eq_true rfl) rfl (Nat.le_of_ble_eq_true rfl) (c3_isCovered 0 _ τ2 w2 (SOK_t hO hk) k (by omega)) ?_
        rintro v _ ⟨rfl, hv⟩
        obtain rfl : v = 0 := by
          rcases hv with h | h
          · exact absurd (hc9.symm.trans h.2) (by decide)
          · exact h.1
        refine AW.run 2 [true] (70, [(0, .inr (.inr (4, 0, 0))), (1, .inl (nI k))], [.inl 0], τ2) [icP .eq (0 : Int32) 0] rfl ?_ ?_
        · exact allP1 (by decide : ((0 : Int32) = 0))
        refine AW.reti ⟨_, rfl⟩ rfl ?_
        exact ⟨_, (by unfold towelsP; rw [botP_some hk hn8, whP_t hw]; rw [if_pos htw]; try rfl), QA_now hA1 hX1 w1 w2⟩
  · skip
    refine AW.run 3 [] (5, [(0, .inr (.inr (4, 0, 0))), (1, .inl b)], [.inl b, .inr (.inr (2, 0, 0))], σ) [] rfl ?_ ?_
    · exact trivial
    refine AW.callVI (d' := 0) [.inl b] [] ⟨_, rfl⟩ f_3_has v_3_has l_5_74 ⟨rfl, by decide⟩ rfl (Nat.le_of_ble_eq_true rfl) rfl (Nat.le_of_ble_eq_true rfl) (c3_has 0 F.1 σ hS hO b) ?_
    rintro v _ ⟨rfl, hv⟩
    obtain rfl : v = 0 := by
      rcases hv with h | h
      · exact absurd h.2.choose_spec.2 (hnok _ h.2.choose_spec.1)
      · exact h.1
    refine AW.run 3 [false] (13, [(0, .inr (.inr (4, 0, 0))), (1, .inl b)], [.inl (-1), .inr (.inr (4, 0, 0))], σ) [¬ icP .ne (0 : Int32) 0] rfl ?_ ?_
    · exact allP1 (by decide : ¬ (¬ (0 : Int32) = 0))
    refine AW.callVI (d' := 0) [.inl (-1)] [] ⟨_, rfl⟩ f_5_refuse v_5_refuse l_5_50 ⟨rfl, by decide⟩ rfl (Nat.le_of_ble_eq_true rfl) rfl (Nat.le_of_ble_eq_true rfl) (c5_refuse1 σ) ?_
    rintro _ _ ⟨rfl, rfl⟩
    refine AW.reti ⟨_, rfl⟩ rfl ?_
    exact ⟨rfuF F 1, (by unfold towelsP; rw [botP_none hnok]; try rfl), RepA_ref hA (by decide) (by decide)⟩
set_option maxHeartbeats 4000000 in
set_option maxRecDepth 100000 in
theorem c5_days (F : Gv) (σ : St) (hA : RepA σ F) (hF : FOK F) (n : Int32) : Ct M5_days 4 [.inr (.inr (4, 0, 0)), .inl n] σ (QA σ (daysP F n)) := by
  refine Ct.of f_5_days (Nat.le_of_ble_eq_true rfl) ?_
  show AW M5_days 4 _ (0, [(0, .inr (.inr (4, 0, 0))), (1, .inl n)], [], σ)
  have hS : RepS (σ 2 0) F.1 := hA.1
  have hO : SOK F.1 := hF.1.1
  have hn8 : Sn F.1 ≤ 8 := hO.1
  obtain ⟨nx, m1, m2, m3, m4⟩ := id hA.2.2.2.2.1
  rcases lt1_or n with hl | ⟨n1, h1n1, h31, rfl, hl⟩
  · skip
    refine AW.run 5 [false] (8, [(0, .inr (.inr (4, 0, 0))), (1, .inl n)], [.inl (-4), .inr (.inr (4, 0, 0))], σ) [¬ icP .ge n 1] rfl ?_ ?_
    · exact allP1 (nge_of hl)
    refine AW.callVI (d' := 0) [.inl (-4)] [] ⟨_, rfl⟩ f_5_refuse v_5_refuse l_5_50 ⟨rfl, by decide⟩ rfl (Nat.le_of_ble_eq_true rfl) rfl (Nat.le_of_ble_eq_true rfl) (c5_refuse4 σ) ?_
    rintro _ _ ⟨rfl, rfl⟩
    refine AW.reti ⟨_, rfl⟩ rfl ?_
    exact ⟨rfuF F 4, (by unfold daysP; rw [if_pos hl]; try rfl), RepA_ref hA (by decide) (by decide)⟩
  · skip
    by_cases hn1 : n1 ≤ 60
    · skip
      by_cases h999 : Sd F.1 + n1 ≤ 999
      · skip
        refine AW.run 9 [true, false] (25, [(0, .inr (.inr (4, 0, 0))), (1, .inl (nI n1))], [.inl (σ 2 0 0 12)], σ) [icP .ge (nI n1) 1, ¬ icP .gt (nI n1) 60] rfl ?_ ?_
        · exact ⟨(ge_of hl), allP1 (nI_nlt (a := 60) hn1 (by decide))⟩
        rw [(hS).1.2.2.2.2.2]
        refine AW.run 2 [] (27, [(0, .inr (.inr (4, 0, 0))), (1, .inl (nI n1))], [.inl ((nI (Sd F.1)) + (nI n1))], σ) [] rfl ?_ ?_
        · exact trivial
        rw [nI_add]
        refine AW.run 6 [true] (48, [(0, .inr (.inr (4, 0, 0))), (1, .inl (nI n1))], [.inr (.inr (2, 0, 0)), .inr (.inr (1, 0, 0))], σ) [icP .le (nI (Sd F.1 + n1)) 999] rfl ?_ ?_
        · exact allP1 (nI_le h999 (by decide))
        refine AW.callVV (d' := 2) [.inr (.inr (2, 0, 0))] [] ⟨_, rfl⟩ f_2_keep v_2_keep l_5_117 ⟨rfl, by decide⟩ rfl (Nat.le_of_ble_eq_true rfl) rfl (Nat.le_of_ble_eq_true rfl) (c2_keep F.1 σ hS hO nx F.2.2.2.2.1.1 m1 hF.2.2.2.1.1 m2 m3) ?_
        rintro τ ⟨k1, k2, k3, k4⟩
        obtain ⟨hA1, hX1⟩ := RepA_keep hA m1 m2 m3 m4 hF.2.2.2.1.1 k1 k2 k3 k4
        have hS1 : RepS (τ 2 0) F.1 := hA1.1
        refine AW.run 3 [] (56, [(0, .inr (.inr (4, 0, 0))), (1, .inl (nI n1))], [.inl (nI n1), .inr (.inr (2, 0, 0))], τ) [] rfl ?_ ?_
        · exact trivial
        refine AW.callVV (d' := 3) [.inl (nI n1)] [] ⟨_, rfl⟩ f_3_pass v_3_pass l_5_139 ⟨rfl, by decide⟩ rfl (Nat.le_of_ble_eq_true rfl) rfl (Nat.le_of_ble_eq_true rfl) (c3_pass 0 F.1 τ hS1 hO n1 (by omega)) ?_
        rintro τ2 ⟨w1, w2⟩
        refine AW.run 3 [] (66, [(0, .inr (.inr (4, 0, 0))), (1, .inl (nI n1))], [.inl (τ2 2 0 0 8)], τ2) [] rfl ?_ ?_
        · exact trivial
        rw [w2.1.2.1]
        refine AW.callSI (d' := 0) [.inl (bI (Sw (passS n1 F.1)))] [] ⟨_, rfl⟩ f_J_bitCount s_J_bitCount l_5_145 rfl (Nat.le_of_ble_eq_true rfl) rfl (Nat.le_of_ble_eq_true rfl) (cJ_bitCount (bI (Sw (passS n1 F.1))) τ2) ?_
        rintro _ _ ⟨rfl, rfl⟩
        rw [bcV_bI]
        refine AW.reti ⟨_, rfl⟩ rfl ?_
        exact ⟨_, (by unfold daysP; rw [if_neg hl, maxP_e0 (fM0 (M := 60) hn1 (by decide)) (by omega), if_pos h999]; try rfl), QA_now hA1 hX1 w1 w2⟩
      · skip
        have hd9 := hF.1.2
        refine AW.run 9 [true, false] (25, [(0, .inr (.inr (4, 0, 0))), (1, .inl (nI n1))], [.inl (σ 2 0 0 12)], σ) [icP .ge (nI n1) 1, ¬ icP .gt (nI n1) 60] rfl ?_ ?_
        · exact ⟨(ge_of hl), allP1 (nI_nlt (a := 60) hn1 (by decide))⟩
        rw [(hS).1.2.2.2.2.2]
        refine AW.run 2 [] (27, [(0, .inr (.inr (4, 0, 0))), (1, .inl (nI n1))], [.inl ((nI (Sd F.1)) + (nI n1))], σ) [] rfl ?_ ?_
        · exact trivial
        rw [nI_add]
        refine AW.run 4 [false] (36, [(0, .inr (.inr (4, 0, 0))), (1, .inl (nI n1))], [.inl (-6), .inr (.inr (4, 0, 0))], σ) [¬ icP .le (nI (Sd F.1 + n1)) 999] rfl ?_ ?_
        · exact allP1 (nle_lit (b := 999) (by omega) (by omega))
        refine AW.callVI (d' := 0) [.inl (-6)] [] ⟨_, rfl⟩ f_5_refuse v_5_refuse l_5_50 ⟨rfl, by decide⟩ rfl (Nat.le_of_ble_eq_true rfl) rfl (Nat.le_of_ble_eq_true rfl) (c5_refuse6 σ) ?_
        rintro _ _ ⟨rfl, rfl⟩
        refine AW.reti ⟨_, rfl⟩ rfl ?_
        exact ⟨rfuF F 6, (by unfold daysP; rw [if_neg hl, maxP_e0 (fM0 (M := 60) hn1 (by decide)) (by omega), if_neg h999]; try rfl), RepA_ref hA (by decide) (by decide)⟩
    · skip
      refine AW.run 8 [true, true] (36, [(0, .inr (.inr (4, 0, 0))), (1, .inl (nI n1))], [.inl (-6), .inr (.inr (4, 0, 0))], σ) [icP .ge (nI n1) 1, icP .gt (nI n1) 60] rfl ?_ ?_
      · exact ⟨(ge_of hl), allP1 (nI_lt (a := 60) (by omega) (by omega))⟩
      refine AW.callVI (d' := 0) [.inl (-6)] [] ⟨_, rfl⟩ f_5_refuse v_5_refuse l_5_50 ⟨rfl, by decide⟩ rfl (Nat.le_of_ble_eq_true rfl) rfl (Nat.le_of_ble_eq_true rfl) (c5_refuse6 σ) ?_
      rintro _ _ ⟨rfl, rfl⟩
      refine AW.reti ⟨_, rfl⟩ rfl ?_
      exact ⟨rfuF F 6, (by unfold daysP; rw [if_neg hl, maxP_e6 (fM6 (M := 60) (by omega) h31)]; try rfl), RepA_ref hA (by decide) (by decide)⟩
set_option maxHeartbeats 4000000 in
set_option maxRecDepth 100000 in
theorem c5_back (F : Gv) (σ : St) (hA : RepA σ F) (hF : FOK F) : Ct M5_back 3 [.inr (.inr (4, 0, 0))] σ (QA σ (backP F)) := by
  refine Ct.of f_5_back (Nat.le_of_ble_eq_true rfl) ?_
  show AW M5_back 3 _ (0, [(0, .inr (.inr (4, 0, 0)))], [], σ)
  have hS : RepS (σ 2 0) F.1 := hA.1
  have hO : SOK F.1 := hF.1.1
  have hn8 : Sn F.1 ≤ 8 := hO.1
  obtain ⟨nx, m1, m2, m3, m4⟩ := id hA.2.2.2.2.1
  cases hB : F.2.2.2.2.1.1 with
  | zero =>
    rw [hB] at m3
    refine AW.run 3 [] (7, [(0, .inr (.inr (4, 0, 0)))], [.inl (σ 1 0 0 2)], σ) [] rfl ?_ ?_
    · exact trivial
    rw [m3]
    refine AW.run 3 [false] (13, [(0, .inr (.inr (4, 0, 0)))], [.inl (-3), .inr (.inr (4, 0, 0))], σ) [¬ icP .ne (nI 0) 0] rfl ?_ ?_
    · exact allP1 (fun q => q rfl)
    refine AW.callVI (d' := 0) [.inl (-3)] [] ⟨_, rfl⟩ f_5_refuse v_5_refuse l_5_50 ⟨rfl, by decide⟩ rfl (Nat.le_of_ble_eq_true rfl) rfl (Nat.le_of_ble_eq_true rfl) (c5_refuse3 σ) ?_
    rintro _ _ ⟨rfl, rfl⟩
    refine AW.reti ⟨_, rfl⟩ rfl ?_
    exact ⟨rfuF F 3, (by unfold backP; rw [hB]; try rfl), RepA_ref hA (by decide) (by decide)⟩
  | succ b =>
    rw [hB] at m3
    have hb8 := hF.2.2.2.1.1
    rw [hB] at hb8 m4
    have hp0 := hF.2.2.2.1.2 0 (by rw [hB]; exact Nat.succ_pos b)
    refine AW.run 3 [] (7, [(0, .inr (.inr (4, 0, 0)))], [.inl (σ 1 0 0 2)], σ) [] rfl ?_ ?_
    · exact trivial
    rw [m3]
    refine AW.run 5 [true] (25, [(0, .inr (.inr (4, 0, 0)))], [.inr (.inr (2, 0, 0)), .inr (.inr (1, 0, 0))], σ) [icP .ne (nI (b + 1)) 0] rfl ?_ ?_
    · exact allP1 (nI_s0 (by omega))
    refine AW.callVV (d' := 2) [.inr (.inr (2, 0, 0))] [] ⟨_, rfl⟩ f_2_takeBack v_2_takeBack l_5_153 ⟨rfl, by decide⟩ rfl (Nat.le_of_ble_eq_true rfl) rfl (Nat.le_of_ble_eq_true rfl) (c2_takeBack (F.2.2.2.2.1.2 0) σ hp0.1 nx (b + 1) m1 hb8 (Nat.succ_pos b) m2 m3 (m4 0 (Nat.succ_pos b))) ?_
    rintro τ ⟨k1, k2, k3, k4⟩
    refine AW.run 3 [] (35, [(0, .inr (.inr (4, 0, 0)))], [.inl (τ 1 0 0 2)], τ) [] rfl ?_ ?_
    · exact trivial
    rw [k3]
    refine AW.reti ⟨_, rfl⟩ rfl ?_
    exact ⟨_, (by unfold backP; rw [hB]; try rfl), RepA_back hA m1 m4 (by omega) k1 k2 k3 k4⟩
set_option maxHeartbeats 4000000 in
set_option maxRecDepth 100000 in
theorem c5_image (F : Gv) (σ : St) (hA : RepA σ F) (hF : FOK F) : Ct M5_image 2 [.inr (.inr (4, 0, 0))] σ (QA σ (imageP F)) := by
  refine Ct.of f_5_image (Nat.le_of_ble_eq_true rfl) ?_
  show AW M5_image 2 _ (0, [(0, .inr (.inr (4, 0, 0)))], [], σ)
  have hS : RepS (σ 2 0) F.1 := hA.1
  have hO : SOK F.1 := hF.1.1
  have hn8 : Sn F.1 ≤ 8 := hO.1
  obtain ⟨nx, m1, m2, m3, m4⟩ := id hA.2.2.2.2.1
  refine AW.run 4 [] (8, [(0, .inr (.inr (4, 0, 0)))], [.inr (.inr (2, 0, 0)), .inr (.inr (2, 2, 0))], σ) [] rfl ?_ ?_
  · exact trivial
  refine AW.callVV (d' := 1) [.inr (.inr (2, 0, 0))] [] ⟨_, rfl⟩ f_3_copyFrom v_3_copyFrom l_5_62 ⟨rfl, by decide⟩ rfl (Nat.le_of_ble_eq_true rfl) rfl (Nat.le_of_ble_eq_true rfl) (c3_copyFrom 2 0 (by decide) F.1 σ hS hO) ?_
  rintro τ ⟨w1, w2⟩
  refine AW.run 6 [] (23, [(0, .inr (.inr (4, 0, 0)))], [.inl ((setM τ 4 0 0 9 1) 2 0 0 12)], (setM τ 4 0 0 9 1)) [(1 : Int32) = 0 ∨ (1 : Int32) = 1] rfl ?_ ?_
  · exact allP1 (by decide)
  rw [show setM τ 4 0 0 9 1 2 0 0 12 = nI (Sd F.1) from (congrFun (congrFun (set_ne (by omega)) 0) 12).trans ((congrFun (congrFun (w1 2 0 (by omega)) 0) 12).trans hS.1.2.2.2.2.2)]
  refine AW.reti ⟨_, rfl⟩ rfl ?_
  exact ⟨_, rfl, RepA_img hA w1 w2⟩
set_option maxHeartbeats 4000000 in
set_option maxRecDepth 100000 in
theorem c5_restore (F : Gv) (σ : St) (hA : RepA σ F) (hF : FOK F) : Ct M5_restore 2 [.inr (.inr (4, 0, 0))] σ (QA σ (restoreP F)) := by
  refine Ct.of f_5_restore (Nat.le_of_ble_eq_true rfl) ?_
  show AW M5_restore 2 _ (0, [(0, .inr (.inr (4, 0, 0)))], [], σ)
  have hS : RepS (σ 2 0) F.1 := hA.1
  have hO : SOK F.1 := hF.1.1
  have hn8 : Sn F.1 ≤ 8 := hO.1
  obtain ⟨nx, m1, m2, m3, m4⟩ := id hA.2.2.2.2.1
  have h6 := hA.2.2.2.2.2
  cases hI : F.2.2.2.2.2 with
  | none =>
    have h6 : σ 4 0 0 9 = 0 := by rw [hI] at h6; exact h6
    refine AW.run 2 [] (4, [(0, .inr (.inr (4, 0, 0)))], [.inl (σ 4 0 0 9)], σ) [] rfl ?_ ?_
    · exact trivial
    rw [h6]
    refine AW.run 3 [false] (10, [(0, .inr (.inr (4, 0, 0)))], [.inl (-3), .inr (.inr (4, 0, 0))], σ) [¬ icP .ne (0 : Int32) 0] rfl ?_ ?_
    · exact allP1 (by decide : ¬ (¬ (0 : Int32) = 0))
    refine AW.callVI (d' := 0) [.inl (-3)] [] ⟨_, rfl⟩ f_5_refuse v_5_refuse l_5_50 ⟨rfl, by decide⟩ rfl (Nat.le_of_ble_eq_true rfl) rfl (Nat.le_of_ble_eq_true rfl) (c5_refuse3 σ) ?_
    rintro _ _ ⟨rfl, rfl⟩
    refine AW.reti ⟨_, rfl⟩ rfl ?_
    exact ⟨rfuF F 3, (by unfold restoreP; rw [hI]; try rfl), RepA_ref hA (by decide) (by decide)⟩
  | some I9 =>
    obtain ⟨h6, h7⟩ : σ 4 0 0 9 = 1 ∧ RepS (σ 2 2) I9 := by rw [hI] at h6; exact h6
    have hok := hF.2.2.2.2 I9 hI
    refine AW.run 2 [] (4, [(0, .inr (.inr (4, 0, 0)))], [.inl (σ 4 0 0 9)], σ) [] rfl ?_ ?_
    · exact trivial
    rw [h6]
    refine AW.run 5 [true] (22, [(0, .inr (.inr (4, 0, 0)))], [.inr (.inr (2, 2, 0)), .inr (.inr (2, 0, 0))], σ) [icP .ne (1 : Int32) 0] rfl ?_ ?_
    · exact allP1 (by decide : (¬ (1 : Int32) = 0))
    refine AW.callVV (d' := 1) [.inr (.inr (2, 2, 0))] [] ⟨_, rfl⟩ f_3_copyFrom v_3_copyFrom l_5_62 ⟨rfl, by decide⟩ rfl (Nat.le_of_ble_eq_true rfl) rfl (Nat.le_of_ble_eq_true rfl) (c3_copyFrom 0 2 (by decide) I9 σ h7 hok.1) ?_
    rintro τ ⟨w1, w2⟩
    refine AW.run 2 [] (29, [(0, .inr (.inr (4, 0, 0)))], [.inr (.inr (1, 0, 0))], τ) [] rfl ?_ ?_
    · exact trivial
    refine AW.callVV (d' := 0) [] [] ⟨_, rfl⟩ f_2_forget v_2_forget l_5_73 ⟨rfl, by decide⟩ rfl (Nat.le_of_ble_eq_true rfl) rfl (Nat.le_of_ble_eq_true rfl) (c2_forget τ) ?_
    rintro _ rfl
    refine AW.run 3 [] (39, [(0, .inr (.inr (4, 0, 0)))], [.inl ((setM τ 1 0 0 2 0) 2 0 0 12)], (setM τ 1 0 0 2 0)) [] rfl ?_ ?_
    · exact trivial
    rw [show setM τ 1 0 0 2 0 2 0 0 12 = nI (Sd I9) from (congrFun (congrFun (set_ne (by omega)) 0) 12).trans w2.1.2.2.2.2.2]
    refine AW.reti ⟨_, rfl⟩ rfl ?_
    have hA1 := RepA_now w1 hA w2
    have hA2 := RepA_fgt hA1.1
    refine ⟨_, (by unfold restoreP; rw [hI]; try rfl), ?_, oth_trans hA1.2 hA2.2⟩
    have hA3 := hA2.1
    unfold fgtF at hA3
    rw [hI] at hA3
    exact hA3
