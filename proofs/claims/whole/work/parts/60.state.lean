/-! ===== what both sides hold, as one thing: the town; the image; the tape; sheets; findings ===== -/
abbrev aV : Type := aH × (Bool × aH) × (Nat × (Nat → Int32)) × (Nat → Nat × Nat × (Nat → Int32)) × (Nat → Int32)
def bB (b : Bool) : Int32 := bif b then 1 else 0
/-- the class holds V -/
def CV (h : aH) (V : aV) : Prop :=
  tw h 1 = V.1 ∧ h 0 2 = bB V.2.1.1 ∧ (V.2.1.1 = true → tw h 14 = V.2.1.2) ∧ (h 27 1 = nI V.2.2.1.1 ∧ ∀ k, k < V.2.2.1.1 → h 28 k = V.2.2.1.2 k) ∧
  (∀ s, s < 4 → h (54 + 2 * s) 1 = nI (V.2.2.2.1 s).1 ∧ h (54 + 2 * s) 2 = nI (V.2.2.2.1 s).2.1 ∧ ∀ i, i < (V.2.2.2.1 s).2.1 → h (55 + 2 * s) i = (V.2.2.2.1 s).2.2 i) ∧
  ∀ k, k < 7 → h 62 k = V.2.2.2.2 k
/-- the reference holds V -/
def MV (h : aH) (V : aV) : Prop :=
  tm h 64 = V.1 ∧ h 63 3 = bB V.2.1.1 ∧ (V.2.1.1 = true → tm h 65 = V.2.1.2) ∧ (h 63 6 = nI V.2.2.1.1 ∧ ∀ k, k < V.2.2.1.1 → h 68 k = V.2.2.1.2 k) ∧
  (∀ s, s < 4 → h 72 s = nI (V.2.2.2.1 s).1 ∧ h 73 s = nI (V.2.2.2.1 s).2.1 ∧ ∀ i, i < (V.2.2.2.1 s).2.1 → h 74 (40 * s + i) = (V.2.2.2.1 s).2.2 i) ∧
  ∀ k, k < 7 → h 67 k = V.2.2.2.2 k
def VOk (V : aV) : Prop :=
  TOk V.1 ∧ (V.2.1.1 = true → TOk V.2.1.2) ∧ (V.2.2.1.1 ≤ 120 ∧ ∀ k, k < V.2.2.1.1 → ∃ x, x < 256 ∧ V.2.2.1.2 k = nI x) ∧
  ∀ s, s < 4 → ((V.2.2.2.1 s).1 = 0 ∨ (V.2.2.2.1 s).1 = 8 ∨ (V.2.2.2.1 s).1 = 16 ∨ (V.2.2.2.1 s).1 = 32) ∧ (V.2.2.2.1 s).2.1 ≤ 40 ∧ ((V.2.2.2.1 s).1 = 0 → (V.2.2.2.1 s).2.1 = 0)
/-- a finding answered -/
def fnV (V : aV) (k : Nat) : aV := (V.1, V.2.1, V.2.2.1, V.2.2.2.1, fun j => if j = k then V.2.2.2.2 k + 1 else V.2.2.2.2 j)
def fnd (V : aV) (k : Nat) (x : Int32) : Int32 × aV := (x, fnV V k)
theorem VOk.fn {V : aV} (h : VOk V) {k : Nat} : VOk (fnV V k) := h
/-- the town changed -/
def tnV (V : aV) (T : aH) : aV := (T, V.2)
theorem VOk.tn {V : aV} (h : VOk V) {T : aH} (ht : TOk T) : VOk (tnV V T) := ⟨ht, h.2⟩
theorem CV.fr {h h' : aH} {V : aV} (hv : CV h V) (f : ∀ a, a < 63 → (a < 29 ∨ 53 ≤ a) → h' a = h a) : CV h' V := by
  obtain ⟨h1, h2, h3, h4, h5, h6⟩ := hv
  refine ⟨(tw_out fun j hj => f _ (by omega) (Or.inl (by omega))).trans h1, by rw [f 0 (by decide) (Or.inl (by decide))]; exact h2, fun z => (tw_out fun j hj => f _ (by omega) (Or.inl (by omega))).trans (h3 z), ?_, fun s hs => ?_, fun k hk => by rw [f 62 (by decide) (Or.inr (by decide))]; exact h6 k hk⟩
  · rw [f 27 (by decide) (Or.inl (by decide)), f 28 (by decide) (Or.inl (by decide))]; exact h4
  · rw [f (54 + 2 * s) (by omega) (Or.inr (by omega)), f (55 + 2 * s) (by omega) (Or.inr (by omega))]; exact h5 s hs
theorem CV.tn {h h' : aH} {V : aV} {T : aH} (hv : CV h V) (e : tw h' 1 = T) (f : ∀ a, a = 0 ∨ (14 ≤ a ∧ a < 29) ∨ (53 ≤ a ∧ a < 63) → h' a = h a) : CV h' (tnV V T) := by
  obtain ⟨h1, h2, h3, h4, h5, h6⟩ := hv
  refine ⟨e, by rw [f 0 (Or.inl rfl)]; exact h2, fun z => (tw_out fun j hj => f _ (by omega)).trans (h3 z), ?_, fun s hs => ?_, fun k hk => by rw [f 62 (by decide)]; exact h6 k hk⟩
  · rw [f 27 (by decide), f 28 (by decide)]; exact h4
  · rw [f (54 + 2 * s) (by omega), f (55 + 2 * s) (by omega)]; exact h5 s hs
theorem CV.fn {h : aH} {V : aV} (hv : CV h V) {k : Nat} (hk : k < 7) : CV (up2 h 62 k (h 62 k + 1)) (fnV V k) := by
  obtain ⟨h1, h2, h3, h4, h5, h6⟩ := hv
  refine ⟨(tw_up (Or.inr (by decide))).trans h1, h2, fun z => (tw_up (Or.inr (by decide))).trans (h3 z), h4, fun s hs => ?_, fun j hj => ?_⟩
  · rw [up2_row (show 54 + 2 * s ≠ 62 by omega), up2_row (show 55 + 2 * s ≠ 62 by omega)]; exact h5 s hs
  · show up2 h 62 k (h 62 k + 1) 62 j = if j = k then V.2.2.2.2 k + 1 else V.2.2.2.2 j
    by_cases e : j = k
    · subst e; rw [up2_s, if_pos rfl, h6 j hj]
    · rw [up2_k e, if_neg e, h6 j hj]
theorem MV.fr {h h' : aH} {V : aV} (hv : MV h V) (f : ∀ a, a = 64 ∨ a = 65 ∨ a = 67 ∨ a = 68 ∨ a = 72 ∨ a = 73 ∨ a = 74 → h' a = h a) (f3 : h' 63 3 = h 63 3) (f6 : h' 63 6 = h 63 6) : MV h' V := by
  obtain ⟨h1, h2, h3, h4, h5, h6⟩ := hv
  refine ⟨(tm_row' (f 64 (by decide))).trans h1, f3.trans h2, fun z => (tm_row' (f 65 (by decide))).trans (h3 z), ?_, fun s hs => ?_, fun k hk => by rw [f 67 (by decide)]; exact h6 k hk⟩
  · rw [f6, f 68 (by decide)]; exact h4
  · rw [f 72 (by decide), f 73 (by decide), f 74 (by decide)]; exact h5 s hs
theorem MV.tn {h h' : aH} {V : aV} {T : aH} (hv : MV h V) (e : tm h' 64 = T) (f : ∀ a, a = 65 ∨ a = 67 ∨ a = 68 ∨ a = 72 ∨ a = 73 ∨ a = 74 → h' a = h a) (f3 : h' 63 3 = h 63 3) (f6 : h' 63 6 = h 63 6) : MV h' (tnV V T) := by
  obtain ⟨h1, h2, h3, h4, h5, h6⟩ := hv
  refine ⟨e, f3.trans h2, fun z => (tm_row' (f 65 (by decide))).trans (h3 z), ?_, fun s hs => ?_, fun k hk => by rw [f 67 (by decide)]; exact h6 k hk⟩
  · rw [f6, f 68 (by decide)]; exact h4
  · rw [f 72 (by decide), f 73 (by decide), f 74 (by decide)]; exact h5 s hs
theorem MV.fn {h : aH} {V : aV} (hv : MV h V) {k : Nat} (hk : k < 7) : MV (up2 h 67 k (h 67 k + 1)) (fnV V k) := by
  obtain ⟨h1, h2, h3, h4, h5, h6⟩ := hv
  refine ⟨(tm_up (by decide)).trans h1, h2, fun z => (tm_up (by decide)).trans (h3 z), h4, h5, fun j hj => ?_⟩
  show up2 h 67 k (h 67 k + 1) 67 j = if j = k then V.2.2.2.2 k + 1 else V.2.2.2.2 j
  by_cases e : j = k
  · subst e; rw [up2_s, if_pos rfl, h6 j hj]
  · rw [up2_k e, if_neg e, h6 j hj]
/-- a public method of the class, of the reference, over what is held -/
def enC (h : aH) (p : Int32 × aV) : List Value → aH → aG → Prop := fun r h' _ => r = [.int p.1] ∧ CV h' p.2 ∧ ∀ a, 63 ≤ a → h' a = h a
def enM (h : aH) (p : Int32 × aV) : List Value → aH → aG → Prop := fun r h' _ => r = [.int p.1] ∧ MV h' p.2 ∧ ∀ a, a < 63 → h' a = h a
def CX (mt : aM) (lv : Nat) (av : List Value) (V : aV) (p : Int32 × aV) : Prop := ∀ h g, CV h V → MX mt lv (.ref 0 :: av) h g (enC h p)
def DX (mt : aM) (lv : Nat) (av : List Value) (V : aV) (p : Int32 × aV) : Prop := ∀ h g, MV h V → MX mt lv (.ref 63 :: av) h g (enM h p)
theorem cfn {mt : aM} {lv : Nat} {h : aH} {g : aG} {V : aV} {p : Int32 × aV} {k : Nat} {x : Int32} (hv : CV h V) (hk : k < 7) (e : p = fnd V k x) : SegP mt lv (aRET, [], [.int x], nW, up2 h 62 k (h 62 k + 1), g, ρ) (enP (enC h p)) := by
  subst e
  exact SegP.ret ⟨rfl, hv.fn hk, fun a ha => up2_row (by omega)⟩
theorem mfn {mt : aM} {lv : Nat} {h : aH} {g : aG} {V : aV} {p : Int32 × aV} {k : Nat} {x : Int32} (hv : MV h V) (hk : k < 7) (e : p = fnd V k x) : SegP mt lv (aRET, [], [.int x], nW, up2 h 67 k (h 67 k + 1), g, ρ) (enP (enM h p)) := by
  subst e
  exact SegP.ret ⟨rfl, hv.fn hk, fun a ha => up2_row (by omega)⟩
/-- nothing changed -/
theorem cid {mt : aM} {lv : Nat} {h : aH} {g : aG} {V : aV} {p : Int32 × aV} {x : Int32} (hv : CV h V) (e : p = (x, V)) : SegP mt lv (aRET, [], [.int x], nW, h, g, ρ) (enP (enC h p)) := by
  subst e
  exact SegP.ret ⟨rfl, hv, fun a ha => rfl⟩
theorem mid {mt : aM} {lv : Nat} {h : aH} {g : aG} {V : aV} {p : Int32 × aV} {x : Int32} (hv : MV h V) (e : p = (x, V)) : SegP mt lv (aRET, [], [.int x], nW, h, g, ρ) (enP (enM h p)) := by
  subst e
  exact SegP.ret ⟨rfl, hv, fun a ha => rfl⟩
set_option maxRecDepth 100000 in
set_option maxHeartbeats 400000 in
theorem tX5_refuse (h : aH) (g : aG) (k : Nat) (hk : k < 7) (x : Int32) (hx : -1000001 - x = nI k) : MS mX5_refuse 2 [.ref 0, .int x] h g [.int x] (up2 h 62 k (h 62 k + 1)) g := by
  have hin := in10 (p := k) (n := 7) hk (by decide)
  have ck := cl10 (p := k) (by omega)
  refine MS.of okX5_refuse (by decide +kernel) (Nat.le_of_ble_eq_true rfl) (by decide) rfl (by decide) ?_
  refine Seg.run [] 400 ?_
  refine Seg.tr (Seg.cS ((tX5_isBetween (-1000001 - x) 0 6).ms h g) mlX5_59 syX5_isBetween oyX5_isBetween rfl (by decide) rfl rfl rfl (Nat.le_of_ble_eq_true rfl) (Nat.le_of_ble_eq_true rfl)) ?_
  refine Seg.run [] 400 ?_
  refine And.intro (fun z => ?_) (fun z => ?_)
  · exact absurd ⟨by rw [hx]; exact nI_pos' (by omega), by rw [hx]; exact nI_le (b := 6) (by omega) (by decide)⟩ (bq0 z)
  · refine And.intro (by rw [hx]; exact hin) ?_
    refine And.intro (by rw [hx]; exact hin) ?_
    exact Seg.of (by rw [hx, ck] <;> rfl)
set_option maxRecDepth 100000 in
set_option maxHeartbeats 400000 in
theorem tX6_finding (h : aH) (g : aG) (k : Nat) (hk : k < 7) (x : Int32) (hx : -1000001 - nI k = x) : MS mX6_finding 1 [.ref 63, .int (nI k)] h g [.int x] (up2 h 67 k (h 67 k + 1)) g := by
  have hin := in10 (p := k) (n := 7) hk (by decide)
  have ck := cl10 (p := k) (by omega)
  refine MS.of okX6_finding (by decide +kernel) (Nat.le_of_ble_eq_true rfl) (by decide) rfl (by decide) ?_
  refine Seg.run [] 400 ?_
  refine And.intro hin ?_
  refine And.intro hin ?_
  exact Seg.of (by rw [ck, hx] <;> rfl)
abbrev isP (T : aH) (p : Int32) : Prop := 0 ≤ p ∧ p < T 0 0
abbrev isN (T : aH) (p : Int32) : Prop := 0 ≤ p ∧ p < T 0 1
abbrev isS (T : aH) (s : Int32) : Prop := 0 ≤ s ∧ s < nI (2 ^ nP T)
