/-! ===== what is asked of arguments ===== -/
def loP (w : Int32) : Int32 := if w = 4 then 1 else 0
def hiP (w : Int32) : Int32 := if w = 0 then 6 else if w = 1 ∨ w = 2 then 7 else if w = 3 then 5 else if w = 4 then 9 else 49
abbrev gdP (w v : Int32) : Prop := loP w ≤ v ∧ v ≤ hiP w
theorem gdP_ok {w : Nat} (hw : w < 6) {v : Int32} (h : gdP (nI w) v) : ∃ x, okP w x ∧ v = nI x := by
  rcases (show w = 0 ∨ w = 1 ∨ w = 2 ∨ w = 3 ∨ w = 4 ∨ w = 5 by omega) with rfl | rfl | rfl | rfl | rfl | rfl
  · obtain ⟨x, h1, h2⟩ := rng (a := 0) (b := 6) (by decide) (show nI 0 ≤ v ∧ v ≤ nI 6 from h) (by decide); exact ⟨x, h1.2, h2⟩
  · obtain ⟨x, h1, h2⟩ := rng (a := 0) (b := 7) (by decide) (show nI 0 ≤ v ∧ v ≤ nI 7 from h) (by decide); exact ⟨x, h1.2, h2⟩
  · obtain ⟨x, h1, h2⟩ := rng (a := 0) (b := 7) (by decide) (show nI 0 ≤ v ∧ v ≤ nI 7 from h) (by decide); exact ⟨x, h1.2, h2⟩
  · obtain ⟨x, h1, h2⟩ := rng (a := 0) (b := 5) (by decide) (show nI 0 ≤ v ∧ v ≤ nI 5 from h) (by decide); exact ⟨x, h1.2, h2⟩
  · obtain ⟨x, h1, h2⟩ := rng (a := 1) (b := 9) (by decide) (show nI 1 ≤ v ∧ v ≤ nI 9 from h) (by decide); exact ⟨x, h1, h2⟩
  · obtain ⟨x, h1, h2⟩ := rng (a := 0) (b := 49) (by decide) (show nI 0 ≤ v ∧ v ≤ nI 49 from h) (by decide); exact ⟨x, h1.2, h2⟩
theorem isP_N {T : aH} (ht : TOk T) {p : Int32} (h : isP T p) : ∃ x, x < nP T ∧ p = nI x := by
  obtain ⟨x, h1, rfl⟩ := nI_of (x := p) (fun z => Int32.not_le.mpr z h.1)
  refine ⟨x, ?_, rfl⟩
  have h2 := h.2
  rw [ht.np.2] at h2
  exact (nI_ltI h1 (by have := ht.np.1; omega)).mp h2
theorem isN_N {T : aH} (ht : TOk T) {p : Int32} (h : isN T p) : ∃ x, x < nN T ∧ p = nI x := by
  obtain ⟨x, h1, rfl⟩ := nI_of (x := p) (fun z => Int32.not_le.mpr z h.1)
  refine ⟨x, ?_, rfl⟩
  have h2 := h.2
  rw [ht.nn.2] at h2
  exact (nI_ltI h1 (by have := ht.nn.1; omega)).mp h2
theorem isS_N {T : aH} (ht : TOk T) {p : Int32} (h : isS T p) : ∃ x, x < 2 ^ nP T ∧ p = nI x := by
  obtain ⟨x, h1, rfl⟩ := nI_of (x := p) (fun z => Int32.not_le.mpr z h.1)
  refine ⟨x, ?_, rfl⟩
  have := pow_le10 ht.np.1
  exact (nI_ltI h1 (by omega)).mp h.2
theorem isP_of {T : aH} (ht : TOk T) {x : Nat} (h : x < nP T) : isP T (nI x) := by
  have := ht.np.1
  exact ⟨nI_pos' (by omega), by rw [ht.np.2]; exact nI_lt h (by omega)⟩
theorem in_lt {x p : Int32} {n : Nat} (hn : n < 2 ^ 31) (hx : x = nI n) : (0 ≤ p ∧ p ≤ x - 1) ↔ (0 ≤ p ∧ p < x) := by
  subst hx
  rcases Nat.eq_zero_or_pos n with e | e
  · subst e
    constructor
    · rintro ⟨h1, h2⟩
      exact absurd (Int32.le_trans h1 h2) (by decide)
    · rintro ⟨h1, h2⟩
      exact absurd (Int32.lt_of_le_of_lt h1 h2) (by decide)
  · rw [show nI n - 1 = nI (n - 1) from nI_sb (b := 1) e]
    constructor
    · rintro ⟨h1, h2⟩
      exact ⟨h1, Int32.lt_of_le_of_lt h2 (nI_lt (by omega) hn)⟩
    · rintro ⟨h1, h2⟩
      obtain ⟨x, h3, rfl⟩ := nI_of (x := p) (fun z => Int32.not_le.mpr z h1)
      have := (nI_ltI h3 hn).mp h2
      exact ⟨h1, nI_le (by omega) (by omega)⟩
section
variable {h T : aH} {g : aG}
set_option maxRecDepth 100000 in
set_option maxHeartbeats 400000 in
theorem tX5_isPromise (e : tw h 1 = T) (p : Int32) : MS mX5_isPromise 1 [.ref 0, .int p] h g [.int (bI (isP T p))] h g := by
  have e1 := twT_0 e
  refine MS.of okX5_isPromise (by decide +kernel) (Nat.le_of_ble_eq_true rfl) (by decide) rfl (by decide) ?_
  refine Seg.run [] 400 ?_
  refine And.intro (fun z => ?_) (fun z => ?_)
  · exact And.intro (Or.inl rfl) (Seg.ri (bI_0 (fun y => nlt z y.1)))
  refine And.intro (fun z2 => ?_) (fun z2 => ?_)
  · exact And.intro (Or.inl rfl) (Seg.ri (bI_0 (fun y => nlt (show p < h 1 8 by rw [e1]; exact y.2) z2)))
  · exact And.intro (Or.inr rfl) (Seg.ri (bI_1 ⟨nle z, by rw [← e1]; exact Int32.not_le.mp z2⟩))
set_option maxRecDepth 100000 in
set_option maxHeartbeats 400000 in
theorem tX5_isNeed (e : tw h 1 = T) (p : Int32) : MS mX5_isNeed 1 [.ref 0, .int p] h g [.int (bI (isN T p))] h g := by
  have e1 := twT_1 e
  refine MS.of okX5_isNeed (by decide +kernel) (Nat.le_of_ble_eq_true rfl) (by decide) rfl (by decide) ?_
  refine Seg.run [] 400 ?_
  refine And.intro (fun z => ?_) (fun z => ?_)
  · exact And.intro (Or.inl rfl) (Seg.ri (bI_0 (fun y => nlt z y.1)))
  refine And.intro (fun z2 => ?_) (fun z2 => ?_)
  · exact And.intro (Or.inl rfl) (Seg.ri (bI_0 (fun y => nlt (show p < h 1 12 by rw [e1]; exact y.2) z2)))
  · exact And.intro (Or.inr rfl) (Seg.ri (bI_1 ⟨nle z, by rw [← e1]; exact Int32.not_le.mp z2⟩))
theorem shl_2 (ht : TOk T) (e : tw h 1 = T) : (1 : Int32) <<< (h 1 8 &&& 31) = nI (2 ^ nP T) := by
  rw [(twT_0 e).trans ht.np.2]
  exact bt1_nI (Nat.lt_succ_of_le ht.np.1)
set_option maxRecDepth 100000 in
set_option maxHeartbeats 400000 in
theorem tX5_isSet (ht : TOk T) (e : tw h 1 = T) (p : Int32) : MS mX5_isSet 1 [.ref 0, .int p] h g [.int (bI (isS T p))] h g := by
  have e1 := shl_2 ht e
  refine MS.of okX5_isSet (by decide +kernel) (Nat.le_of_ble_eq_true rfl) (by decide) rfl (by decide) ?_
  refine Seg.run [] 400 ?_
  refine And.intro (fun z => ?_) (fun z => ?_)
  · exact And.intro (Or.inl rfl) (Seg.ri (bI_0 (fun y => nlt z y.1)))
  refine And.intro (fun z2 => ?_) (fun z2 => ?_)
  · exact And.intro (Or.inl rfl) (Seg.ri (bI_0 (fun y => nlt (show p < (1 : Int32) <<< (h 1 8 &&& 31) by rw [e1]; exact y.2) z2)))
  · exact And.intro (Or.inr rfl) (Seg.ri (bI_1 ⟨nle z, by rw [← e1]; exact Int32.not_le.mp z2⟩))
set_option maxRecDepth 100000 in
set_option maxHeartbeats 400000 in
theorem tX5_fitsPart (w v : Int32) : MP mX5_fitsPart 2 [.int w, .int v] [.int (bI ((0 ≤ w ∧ w ≤ 5) ∧ gdP w v))] := by
  refine MP.of okX5_fitsPart (by decide +kernel) (Nat.le_of_ble_eq_true rfl) (by decide) rfl rfl (fun n h g q hn => ?_)
  refine Seg.run [] 400 ?_
  refine Seg.tr (Seg.pS (tX5_isBetween w 0 5) mlX5_59 syX5_isBetween oyX5_isBetween rfl (by decide) hn rfl rfl rfl (Nat.le_of_ble_eq_true rfl) (Nat.le_of_ble_eq_true rfl)) ?_
  refine Seg.run [] 400 ?_
  refine And.intro (fun z => ?_) (fun z => ?_)
  · exact And.intro (Or.inl rfl) (Seg.ri (bI_0 (fun y => bq0 z y.1)))
  have z1 := bq1 z
  obtain ⟨x, hx, rfl⟩ := rng (a := 0) (b := 5) (by decide) (show nI 0 ≤ w ∧ w ≤ nI 5 from z1) (by decide)
  have hin := in10 (p := x) (n := 6) (by omega) (by decide)
  have cx := cl10 (p := x) (by omega)
  have key : ∀ x, x ≤ 5 → sar 301 x = loP (nI x) ∧ sar 302 x = hiP (nI x) := by decide +kernel
  obtain ⟨k1, k2⟩ := key x hx.2
  refine And.intro hin ?_
  refine And.intro hin ?_
  rw [cx, k1]
  refine Seg.tr (Seg.of (b := (20, [some (.int (nI x)), some (.int v)], [.int (hiP (nI x)), .int (loP (nI x)), .int v], n, h, g, q)) (by rw [← k2] <;> rfl)) ?_
  refine Seg.tr (Seg.pS (tX5_isBetween v (loP (nI x)) (hiP (nI x))) mlX5_59 syX5_isBetween oyX5_isBetween rfl (by decide) hn rfl rfl rfl (Nat.le_of_ble_eq_true rfl) (Nat.le_of_ble_eq_true rfl)) ?_
  refine Seg.run [] 400 ?_
  refine And.intro (fun z2 => ?_) (fun z2 => ?_)
  · exact And.intro (Or.inl rfl) (Seg.ri (bI_0 (fun y => bq0 z2 y.2)))
  · exact And.intro (Or.inr rfl) (Seg.ri (bI_1 ⟨z1, bq1 z2⟩))
def loN (w : Nat) : Int32 := if w = 0 then 0 else 1
def hiN (w : Nat) : Int32 := if w = 0 then 5 else if w = 1 then 40 else 99
set_option maxRecDepth 100000 in
set_option maxHeartbeats 400000 in
theorem tX5_fitsNeed (w : Nat) (hw : w < 3) (v : Int32) : MP mX5_fitsNeed 2 [.int (nI w), .int v] [.int (bI (loN w ≤ v ∧ v ≤ hiN w))] := by
  have hin := in10 (p := w) (n := 3) hw (by decide)
  have cx := cl10 (p := w) (by omega)
  have key : ∀ x, x < 3 → sar 303 x = loN x ∧ sar 304 x = hiN x ∧ ((0 : Int32) ≤ nI x ∧ nI x ≤ 2) := by decide +kernel
  obtain ⟨k1, k2, k3⟩ := key w hw
  refine MP.of okX5_fitsNeed (by decide +kernel) (Nat.le_of_ble_eq_true rfl) (by decide) rfl rfl (fun n h g q hn => ?_)
  refine Seg.run [] 400 ?_
  refine Seg.tr (Seg.pS (tX5_isBetween (nI w) 0 2) mlX5_59 syX5_isBetween oyX5_isBetween rfl (by decide) hn rfl rfl rfl (Nat.le_of_ble_eq_true rfl) (Nat.le_of_ble_eq_true rfl)) ?_
  refine Seg.run [] 400 ?_
  refine And.intro (fun z => ?_) (fun z => ?_)
  · exact absurd k3 (bq0 z)
  refine And.intro hin ?_
  refine And.intro hin ?_
  rw [cx, k1]
  refine Seg.tr (Seg.of (b := (20, [some (.int (nI w)), some (.int v)], [.int (hiN w), .int (loN w), .int v], n, h, g, q)) (by rw [← k2] <;> rfl)) ?_
  refine Seg.tr (Seg.pS (tX5_isBetween v (loN w) (hiN w)) mlX5_59 syX5_isBetween oyX5_isBetween rfl (by decide) hn rfl rfl rfl (Nat.le_of_ble_eq_true rfl) (Nat.le_of_ble_eq_true rfl)) ?_
  refine Seg.run [] 400 ?_
  refine And.intro (fun z2 => ?_) (fun z2 => ?_)
  · exact And.intro (Or.inl rfl) (Seg.ri (bI_0 (bq0 z2)))
  · exact And.intro (Or.inr rfl) (Seg.ri (bI_1 (bq1 z2)))
/-- a kind is, or is under, another -/
abbrev unP (k t : Int32) : Prop := t = 0 ∨ k = t ∨ (t = 1 ∧ (k = 3 ∨ k = 6)) ∨ (t = 3 ∧ k = 6) ∨ (t = 2 ∧ k = 5)
def unC : Nat → List Int32
  | 0 => [0]
  | 1 => [1, 0]
  | 2 => [2, 0]
  | 3 => [3, 1, 0]
  | 4 => [4, 0]
  | 5 => [5, 2, 0]
  | _ => [6, 3, 1, 0]
theorem unC_ok' : ∀ k, k < 7 → ∀ t, t < 7 → decide (nI t ∈ unC k) = decide (unP (nI k) (nI t)) := by decide +kernel
theorem unC_ok (k : Nat) (hk : k < 7) (t : Nat) (ht : t < 7) : nI t ∈ unC k ↔ unP (nI k) (nI t) := decide_eq_decide.mp (unC_ok' k hk t ht)
set_option maxRecDepth 100000 in
set_option maxHeartbeats 400000 in
theorem tX5_isUnder (k t : Nat) (hk : k < 7) (ht : t < 7) : MS mX5_isUnder 3 [.int (nI k), .int (nI t)] h g [.int (bI (unP (nI k) (nI t)))] h g := by
  have base : ∀ i : Nat, Seg mX5_isUnder 3 (4, [some (.int (nI k)), some (.int (nI t)), some (.int (-1)), some (.int (nI i))], [], nW, h, g, ρ) (aRET, [], [.int 0], nW, h, g, ρ) := by
    intro i
    refine Seg.run [] 400 ?_
    refine And.intro (fun z => ?_) (fun z => ?_)
    · exact And.intro (Or.inl rfl) Seg.rf
    refine Seg.tr (Seg.cS ((tX5_isKind (-1)).ms h g) mlX5_100 syX5_isKind oyX5_isKind rfl (by decide) rfl rfl rfl (Nat.le_of_ble_eq_true rfl) (Nat.le_of_ble_eq_true rfl)) ?_
    refine Seg.run [] 400 ?_
    refine And.intro (fun z2 => ?_) (fun z2 => ?_)
    · exact And.intro (Or.inl rfl) Seg.rf
    · exact absurd (bq1 z2) (by decide)
  have step : ∀ (i a : Nat) (v : Int32), i < 7 → a < 7 → sar 300 a = v → Seg mX5_isUnder 3 (4, [some (.int (nI k)), some (.int (nI t)), some (.int (nI a)), some (.int (nI i))], [], nW, h, g, ρ) (if t = a then (aRET, [], [.int 1], nW, h, g, ρ) else (4, [some (.int (nI k)), some (.int (nI t)), some (.int v), some (.int (nI (i + 1)))], [], nW, h, g, ρ)) := by
    intro i a v hi ha hv
    have hin := in10 (p := a) (n := 7) ha (by decide)
    have ca := cl10 (p := a) (by omega)
    refine Seg.run [4] 400 ?_
    refine And.intro (fun z => ?_) (fun z => ?_)
    · exact (lim_ge (N := 7) hi (by decide) z).elim
    refine Seg.tr (Seg.cS ((tX5_isKind (nI a)).ms h g) mlX5_100 syX5_isKind oyX5_isKind rfl (by decide) rfl rfl rfl (Nat.le_of_ble_eq_true rfl) (Nat.le_of_ble_eq_true rfl)) ?_
    refine Seg.run [4] 400 ?_
    refine And.intro (fun z2 => ?_) (fun z2 => ?_)
    · exact absurd ⟨nI_pos' (n := a) (by omega), nI_le (b := 6) (by omega) (by decide)⟩ (bq0 z2)
    refine And.intro (fun z3 => ?_) (fun z3 => ?_)
    · refine And.intro hin ?_
      rw [if_neg (fun y => z3 (by rw [y]))]
      exact Seg.of (by rw [ca, hv, nI_succ] <;> rfl)
    · refine And.intro (Or.inr rfl) ?_
      rw [if_pos ((nI_eq (a := t) (b := a) (by omega) (by omega)).mp (Decidable.not_not.mp z3).symm)]
      exact Seg.rf
  refine MS.of okX5_isUnder (by decide +kernel) (Nat.le_of_ble_eq_true rfl) (by decide) rfl (by decide) ?_
  refine Seg.run [4] 400 ?_
  have res : ∀ x : Int32, (x = 1 ∧ nI t ∈ unC k) ∨ (x = 0 ∧ ¬ nI t ∈ unC k) → x = bI (unP (nI k) (nI t)) := by
    rintro x (⟨rfl, y⟩ | ⟨rfl, y⟩)
    · exact bI_1 ((unC_ok k hk t ht).mp y)
    · exact bI_0 (fun w => y ((unC_ok k hk t ht).mpr w))
  rcases (show k = 0 ∨ k = 1 ∨ k = 2 ∨ k = 3 ∨ k = 4 ∨ k = 5 ∨ k = 6 by omega) with rfl | rfl | rfl | rfl | rfl | rfl | rfl
  · have mem : ∀ a, a < 7 → (nI t ∈ unC 0 ↔ (t = 0)) := fun _ _ => by
      have key : ∀ t, t < 7 → (nI t ∈ unC 0 ↔ (t = 0)) := by decide +kernel
      exact key t ht
    have mem := mem 0 (by decide)
    have s0 := step 0 0 (-1) (by decide) (by decide) (by decide +kernel)
    by_cases e0 : t = 0
    · rw [if_pos e0] at s0
      refine Seg.tr s0 (Seg.ri (res 1 (Or.inl ⟨rfl, mem.mpr (by omega)⟩)))
    rw [if_neg e0] at s0
    refine Seg.tr s0 ?_
    refine Seg.tr (base 1) (Seg.ri (res 0 (Or.inr ⟨rfl, fun w => ?_⟩)))
    have := mem.mp w
    omega
  · have mem : ∀ a, a < 7 → (nI t ∈ unC 1 ↔ (t = 1 ∨ t = 0)) := fun _ _ => by
      have key : ∀ t, t < 7 → (nI t ∈ unC 1 ↔ (t = 1 ∨ t = 0)) := by decide +kernel
      exact key t ht
    have mem := mem 0 (by decide)
    have s0 := step 0 1 (nI 0) (by decide) (by decide) (by decide +kernel)
    by_cases e0 : t = 1
    · rw [if_pos e0] at s0
      refine Seg.tr s0 (Seg.ri (res 1 (Or.inl ⟨rfl, mem.mpr (by omega)⟩)))
    rw [if_neg e0] at s0
    refine Seg.tr s0 ?_
    have s1 := step 1 0 (-1) (by decide) (by decide) (by decide +kernel)
    by_cases e1 : t = 0
    · rw [if_pos e1] at s1
      refine Seg.tr s1 (Seg.ri (res 1 (Or.inl ⟨rfl, mem.mpr (by omega)⟩)))
    rw [if_neg e1] at s1
    refine Seg.tr s1 ?_
    refine Seg.tr (base 2) (Seg.ri (res 0 (Or.inr ⟨rfl, fun w => ?_⟩)))
    have := mem.mp w
    omega
  · have mem : ∀ a, a < 7 → (nI t ∈ unC 2 ↔ (t = 2 ∨ t = 0)) := fun _ _ => by
      have key : ∀ t, t < 7 → (nI t ∈ unC 2 ↔ (t = 2 ∨ t = 0)) := by decide +kernel
      exact key t ht
    have mem := mem 0 (by decide)
    have s0 := step 0 2 (nI 0) (by decide) (by decide) (by decide +kernel)
    by_cases e0 : t = 2
    · rw [if_pos e0] at s0
      refine Seg.tr s0 (Seg.ri (res 1 (Or.inl ⟨rfl, mem.mpr (by omega)⟩)))
    rw [if_neg e0] at s0
    refine Seg.tr s0 ?_
    have s1 := step 1 0 (-1) (by decide) (by decide) (by decide +kernel)
    by_cases e1 : t = 0
    · rw [if_pos e1] at s1
      refine Seg.tr s1 (Seg.ri (res 1 (Or.inl ⟨rfl, mem.mpr (by omega)⟩)))
    rw [if_neg e1] at s1
    refine Seg.tr s1 ?_
    refine Seg.tr (base 2) (Seg.ri (res 0 (Or.inr ⟨rfl, fun w => ?_⟩)))
    have := mem.mp w
    omega
  · have mem : ∀ a, a < 7 → (nI t ∈ unC 3 ↔ (t = 3 ∨ t = 1 ∨ t = 0)) := fun _ _ => by
      have key : ∀ t, t < 7 → (nI t ∈ unC 3 ↔ (t = 3 ∨ t = 1 ∨ t = 0)) := by decide +kernel
      exact key t ht
    have mem := mem 0 (by decide)
    have s0 := step 0 3 (nI 1) (by decide) (by decide) (by decide +kernel)
    by_cases e0 : t = 3
    · rw [if_pos e0] at s0
      refine Seg.tr s0 (Seg.ri (res 1 (Or.inl ⟨rfl, mem.mpr (by omega)⟩)))
    rw [if_neg e0] at s0
    refine Seg.tr s0 ?_
    have s1 := step 1 1 (nI 0) (by decide) (by decide) (by decide +kernel)
    by_cases e1 : t = 1
    · rw [if_pos e1] at s1
      refine Seg.tr s1 (Seg.ri (res 1 (Or.inl ⟨rfl, mem.mpr (by omega)⟩)))
    rw [if_neg e1] at s1
    refine Seg.tr s1 ?_
    have s2 := step 2 0 (-1) (by decide) (by decide) (by decide +kernel)
    by_cases e2 : t = 0
    · rw [if_pos e2] at s2
      refine Seg.tr s2 (Seg.ri (res 1 (Or.inl ⟨rfl, mem.mpr (by omega)⟩)))
    rw [if_neg e2] at s2
    refine Seg.tr s2 ?_
    refine Seg.tr (base 3) (Seg.ri (res 0 (Or.inr ⟨rfl, fun w => ?_⟩)))
    have := mem.mp w
    omega
  · have mem : ∀ a, a < 7 → (nI t ∈ unC 4 ↔ (t = 4 ∨ t = 0)) := fun _ _ => by
      have key : ∀ t, t < 7 → (nI t ∈ unC 4 ↔ (t = 4 ∨ t = 0)) := by decide +kernel
      exact key t ht
    have mem := mem 0 (by decide)
    have s0 := step 0 4 (nI 0) (by decide) (by decide) (by decide +kernel)
    by_cases e0 : t = 4
    · rw [if_pos e0] at s0
      refine Seg.tr s0 (Seg.ri (res 1 (Or.inl ⟨rfl, mem.mpr (by omega)⟩)))
    rw [if_neg e0] at s0
    refine Seg.tr s0 ?_
    have s1 := step 1 0 (-1) (by decide) (by decide) (by decide +kernel)
    by_cases e1 : t = 0
    · rw [if_pos e1] at s1
      refine Seg.tr s1 (Seg.ri (res 1 (Or.inl ⟨rfl, mem.mpr (by omega)⟩)))
    rw [if_neg e1] at s1
    refine Seg.tr s1 ?_
    refine Seg.tr (base 2) (Seg.ri (res 0 (Or.inr ⟨rfl, fun w => ?_⟩)))
    have := mem.mp w
    omega
  · have mem : ∀ a, a < 7 → (nI t ∈ unC 5 ↔ (t = 5 ∨ t = 2 ∨ t = 0)) := fun _ _ => by
      have key : ∀ t, t < 7 → (nI t ∈ unC 5 ↔ (t = 5 ∨ t = 2 ∨ t = 0)) := by decide +kernel
      exact key t ht
    have mem := mem 0 (by decide)
    have s0 := step 0 5 (nI 2) (by decide) (by decide) (by decide +kernel)
    by_cases e0 : t = 5
    · rw [if_pos e0] at s0
      refine Seg.tr s0 (Seg.ri (res 1 (Or.inl ⟨rfl, mem.mpr (by omega)⟩)))
    rw [if_neg e0] at s0
    refine Seg.tr s0 ?_
    have s1 := step 1 2 (nI 0) (by decide) (by decide) (by decide +kernel)
    by_cases e1 : t = 2
    · rw [if_pos e1] at s1
      refine Seg.tr s1 (Seg.ri (res 1 (Or.inl ⟨rfl, mem.mpr (by omega)⟩)))
    rw [if_neg e1] at s1
    refine Seg.tr s1 ?_
    have s2 := step 2 0 (-1) (by decide) (by decide) (by decide +kernel)
    by_cases e2 : t = 0
    · rw [if_pos e2] at s2
      refine Seg.tr s2 (Seg.ri (res 1 (Or.inl ⟨rfl, mem.mpr (by omega)⟩)))
    rw [if_neg e2] at s2
    refine Seg.tr s2 ?_
    refine Seg.tr (base 3) (Seg.ri (res 0 (Or.inr ⟨rfl, fun w => ?_⟩)))
    have := mem.mp w
    omega
  · have mem : ∀ a, a < 7 → (nI t ∈ unC 6 ↔ (t = 6 ∨ t = 3 ∨ t = 1 ∨ t = 0)) := fun _ _ => by
      have key : ∀ t, t < 7 → (nI t ∈ unC 6 ↔ (t = 6 ∨ t = 3 ∨ t = 1 ∨ t = 0)) := by decide +kernel
      exact key t ht
    have mem := mem 0 (by decide)
    have s0 := step 0 6 (nI 3) (by decide) (by decide) (by decide +kernel)
    by_cases e0 : t = 6
    · rw [if_pos e0] at s0
      refine Seg.tr s0 (Seg.ri (res 1 (Or.inl ⟨rfl, mem.mpr (by omega)⟩)))
    rw [if_neg e0] at s0
    refine Seg.tr s0 ?_
    have s1 := step 1 3 (nI 1) (by decide) (by decide) (by decide +kernel)
    by_cases e1 : t = 3
    · rw [if_pos e1] at s1
      refine Seg.tr s1 (Seg.ri (res 1 (Or.inl ⟨rfl, mem.mpr (by omega)⟩)))
    rw [if_neg e1] at s1
    refine Seg.tr s1 ?_
    have s2 := step 2 1 (nI 0) (by decide) (by decide) (by decide +kernel)
    by_cases e2 : t = 1
    · rw [if_pos e2] at s2
      refine Seg.tr s2 (Seg.ri (res 1 (Or.inl ⟨rfl, mem.mpr (by omega)⟩)))
    rw [if_neg e2] at s2
    refine Seg.tr s2 ?_
    have s3 := step 3 0 (-1) (by decide) (by decide) (by decide +kernel)
    by_cases e3 : t = 0
    · rw [if_pos e3] at s3
      refine Seg.tr s3 (Seg.ri (res 1 (Or.inl ⟨rfl, mem.mpr (by omega)⟩)))
    rw [if_neg e3] at s3
    refine Seg.tr s3 ?_
    refine Seg.tr (base 4) (Seg.ri (res 0 (Or.inr ⟨rfl, fun w => ?_⟩)))
    have := mem.mp w
    omega
set_option maxRecDepth 100000 in
set_option maxHeartbeats 400000 in
theorem tX6_isPromise (ht : TOk T) (e : tm h 64 = T) (p : Int32) : MS mX6_isPromise 2 [.ref 63, .int p] h g [.int (bI (isP T p))] h g := by
  have e1 : h 64 0 = T 0 0 := by rw [← e, tm_0 (by decide)]
  refine MS.of okX6_isPromise (by decide +kernel) (Nat.le_of_ble_eq_true rfl) (by decide) rfl (by decide) ?_
  refine Seg.run [] 400 ?_
  refine And.intro (in10 (p := 0) (by decide) (by decide)) ?_
  rw [show (0 : Int32).toNatClampNeg = 0 from rfl, e1]
  refine Seg.tr (Seg.cS ((tX6_in p 0 (T 0 0 - 1)).ms h g) mlX6_47 syX6_in oyX6_in rfl (by decide) rfl rfl rfl (Nat.le_of_ble_eq_true rfl) (Nat.le_of_ble_eq_true rfl)) ?_
  refine Seg.run [] 400 ?_
  exact And.intro (bI_01 _) (Seg.ri (bI_iff (in_lt (by have := ht.np.1; omega) ht.np.2)))
set_option maxRecDepth 100000 in
set_option maxHeartbeats 400000 in
theorem tX6_isNeed (ht : TOk T) (e : tm h 64 = T) (p : Int32) : MS mX6_isNeed 2 [.ref 63, .int p] h g [.int (bI (isN T p))] h g := by
  have e1 : h 64 1 = T 0 1 := by rw [← e, tm_0 (by decide)]
  refine MS.of okX6_isNeed (by decide +kernel) (Nat.le_of_ble_eq_true rfl) (by decide) rfl (by decide) ?_
  refine Seg.run [] 400 ?_
  refine And.intro (in10 (p := 1) (by decide) (by decide)) ?_
  rw [show (1 : Int32).toNatClampNeg = 1 from rfl, e1]
  refine Seg.tr (Seg.cS ((tX6_in p 0 (T 0 1 - 1)).ms h g) mlX6_47 syX6_in oyX6_in rfl (by decide) rfl rfl rfl (Nat.le_of_ble_eq_true rfl) (Nat.le_of_ble_eq_true rfl)) ?_
  refine Seg.run [] 400 ?_
  exact And.intro (bI_01 _) (Seg.ri (bI_iff (in_lt (by have := ht.nn.1; omega) ht.nn.2)))
set_option maxRecDepth 100000 in
set_option maxHeartbeats 400000 in
theorem tX6_isSet (ht : TOk T) (e : tm h 64 = T) (p : Int32) : MS mX6_isSet 2 [.ref 63, .int p] h g [.int (bI (isS T p))] h g := by
  have e1 : h 64 0 = nI (nP T) := by rw [← ht.np.2, ← e, tm_0 (by decide)]
  have e2 : (1 : Int32) <<< (nI (nP T) &&& 31) = nI (2 ^ nP T) := bt1_nI (Nat.lt_succ_of_le ht.np.1)
  have hp := pow_le10 ht.np.1
  refine MS.of okX6_isSet (by decide +kernel) (Nat.le_of_ble_eq_true rfl) (by decide) rfl (by decide) ?_
  refine Seg.run [] 400 ?_
  refine And.intro (in10 (p := 0) (by decide) (by decide)) ?_
  rw [show (0 : Int32).toNatClampNeg = 0 from rfl, e1]
  refine Seg.tr (Seg.cS ((tX6_in p 0 ((1 : Int32) <<< (nI (nP T) &&& 31) - 1)).ms h g) mlX6_47 syX6_in oyX6_in rfl (by decide) rfl rfl rfl (Nat.le_of_ble_eq_true rfl) (Nat.le_of_ble_eq_true rfl)) ?_
  refine Seg.run [] 400 ?_
  refine And.intro (bI_01 _) (Seg.ri (bI_iff ?_))
  rw [e2]
  exact in_lt (n := 2 ^ nP T) (by omega) rfl
set_option maxRecDepth 100000 in
set_option maxHeartbeats 400000 in
theorem tX6_isGood (w v : Int32) : MP mX6_isGood 2 [.int w, .int v] [.int (bI (gdP w v))] := by
  refine MP.of okX6_isGood (by decide +kernel) (Nat.le_of_ble_eq_true rfl) (by decide) rfl rfl (fun n h g q hn => ?_)
  have fin : ∀ x y : Int32, x = loP w → y = hiP w → Seg mX6_isGood 2 (56, [some (.int w), some (.int v)], [.int y, .int x, .int v], n, h, g, q) (aRET, [], [.int (bI (gdP w v))], n, h, g, q) := by
    intro x y hx hy
    subst hx; subst hy
    refine Seg.tr (Seg.pS (tX6_in v (loP w) (hiP w)) mlX6_47 syX6_in oyX6_in rfl (by decide) hn rfl rfl rfl (Nat.le_of_ble_eq_true rfl) (Nat.le_of_ble_eq_true rfl)) ?_
    refine Seg.run [] 400 ?_
    exact And.intro (bI_01 _) Seg.rf
  have mid : ∀ x : Int32, x = loP w → Seg mX6_isGood 2 (11, [some (.int w), some (.int v)], [.int x, .int v], n, h, g, q) (aRET, [], [.int (bI (gdP w v))], n, h, g, q) := by
    intro x hx
    refine Seg.run [56] 400 ?_
    refine And.intro (fun z0 => ?_) (fun z0 => ?_)
    · refine And.intro (fun z1 => ?_) (fun z1 => ?_)
      · exact fin _ _ hx (by unfold hiP; rw [if_neg z0, if_pos (Or.inl (show w = 1 from z1))])
      refine And.intro (fun z2 => ?_) (fun z2 => ?_)
      · refine And.intro (fun z3 => ?_) (fun z3 => ?_)
        · refine And.intro (fun z4 => ?_) (fun z4 => ?_)
          · exact fin _ _ hx (by unfold hiP; rw [if_neg z0, if_neg (fun y => y.elim z1 z2), if_neg z3, if_neg z4])
          · exact fin _ _ hx (by unfold hiP; rw [if_neg z0, if_neg (fun y => y.elim z1 z2), if_neg z3, if_pos (Decidable.not_not.mp z4)])
        · exact fin _ _ hx (by unfold hiP; rw [if_neg z0, if_neg (fun y => y.elim z1 z2), if_pos (Decidable.not_not.mp z3)])
      · exact fin _ _ hx (by unfold hiP; rw [if_neg z0, if_pos (Or.inr (Decidable.not_not.mp z2))])
    · exact fin _ _ hx (by unfold hiP; rw [if_pos (Decidable.not_not.mp z0)])
  refine Seg.run [11] 400 ?_
  refine And.intro (fun z => ?_) (fun z => ?_)
  · exact mid _ (if_neg z).symm
  · exact mid _ (if_pos (Decidable.not_not.mp z)).symm
set_option maxRecDepth 100000 in
set_option maxHeartbeats 400000 in
theorem tX6_isUnder (k t : Int32) : MP mX6_isUnder 1 [.int k, .int t] [.int (bI (unP k t))] := by
  refine MP.of okX6_isUnder (by decide +kernel) (Nat.le_of_ble_eq_true rfl) (by decide) rfl rfl (fun n h g q hn => ?_)
  have yes : unP k t → Seg mX6_isUnder 1 (46, [some (.int k), some (.int t)], [], n, h, g, q) (aRET, [], [.int (bI (unP k t))], n, h, g, q) := by
    intro y
    refine Seg.run [] 400 ?_
    exact And.intro (Or.inr rfl) (Seg.ri (bI_1 y))
  have no : ¬ unP k t → Seg mX6_isUnder 1 (50, [some (.int k), some (.int t)], [], n, h, g, q) (aRET, [], [.int (bI (unP k t))], n, h, g, q) := by
    intro y
    refine Seg.run [] 400 ?_
    exact And.intro (Or.inl rfl) (Seg.ri (bI_0 y))
  have p36 : t ≠ 0 → k ≠ t → ¬ (t = 1 ∧ (k = 3 ∨ k = 6)) → ¬ (t = 3 ∧ k = 6) → Seg mX6_isUnder 1 (36, [some (.int k), some (.int t)], [], n, h, g, q) (aRET, [], [.int (bI (unP k t))], n, h, g, q) := by
    intro a b c d
    refine Seg.run [46, 50] 400 ?_
    refine And.intro (fun z => ?_) (fun z => ?_)
    · exact no (fun y => by rcases y with y | y | y | y | y; exact a y; exact b y; exact c y; exact d y; exact z y.1)
    refine And.intro (fun z2 => ?_) (fun z2 => ?_)
    · exact no (fun y => by rcases y with y | y | y | y | y; exact a y; exact b y; exact c y; exact d y; exact z2 y.2)
    · exact yes (Or.inr (Or.inr (Or.inr (Or.inr ⟨Decidable.not_not.mp z, Decidable.not_not.mp z2⟩))))
  have p25 : t ≠ 0 → k ≠ t → ¬ (t = 1 ∧ (k = 3 ∨ k = 6)) → Seg mX6_isUnder 1 (25, [some (.int k), some (.int t)], [], n, h, g, q) (aRET, [], [.int (bI (unP k t))], n, h, g, q) := by
    intro a b c
    refine Seg.run [36, 46] 400 ?_
    refine And.intro (fun z => ?_) (fun z => ?_)
    · exact p36 a b c (fun y => z y.1)
    refine And.intro (fun z2 => ?_) (fun z2 => ?_)
    · exact yes (Or.inr (Or.inr (Or.inr (Or.inl ⟨Decidable.not_not.mp z, z2⟩))))
    · exact p36 a b c (fun y => z2 y.2)
  refine Seg.run [25, 46] 400 ?_
  refine And.intro (fun z => ?_) (fun z => ?_)
  · exact yes (Or.inl z)
  refine And.intro (fun z2 => ?_) (fun z2 => ?_)
  · exact yes (Or.inr (Or.inl z2))
  refine And.intro (fun z3 => ?_) (fun z3 => ?_)
  · exact p25 z z2 (fun y => z3 y.1)
  refine And.intro (fun z4 => ?_) (fun z4 => ?_)
  · exact yes (Or.inr (Or.inr (Or.inl ⟨Decidable.not_not.mp z3, Or.inl z4⟩)))
  refine And.intro (fun z5 => ?_) (fun z5 => ?_)
  · exact yes (Or.inr (Or.inr (Or.inl ⟨Decidable.not_not.mp z3, Or.inr z5⟩)))
  · exact p25 z z2 (fun y => y.2.elim z4 z5)
set_option maxRecDepth 100000 in
set_option maxHeartbeats 400000 in
theorem tX6_hangsBy (hk : ∀ t, t < 256 → h 69 t = nI (kN T t)) (c : Nat) (hc : c < 8) : MS mX6_hangsBy 1 [.ref 63, .int (nI c)] h g [.int (nI (hgN T c 256))] h g := by
  have e2 : (1 : Int32) <<< (nI c &&& 31) = nI (2 ^ c) := bt1_nI (by omega)
  refine MS.of okX6_hangsBy (by decide +kernel) (Nat.le_of_ble_eq_true rfl) (by decide) rfl (by decide) ?_
  refine Seg.run [4] 400 ?_
  refine Seg.tr (Seg.iter (fun i => (4, [some (.ref 63), some (.int (nI c)), some (.int (nI (hgN T c i))), some (.int (nI i))], [], nW, h, g, ρ)) 256 (fun i hi => ?_)) ?_
  · have hin := in10 (p := i) (n := 256) hi (by decide)
    have ci := cl10 hi
    have hx : i ^^^ 2 ^ c < 256 := xor_lt (n := 8) hi hc
    have hinx := in10 (p := i ^^^ 2 ^ c) (n := 256) hx (by decide)
    have cx := cl10 hx
    have ex : nI i ^^^ (1 : Int32) <<< (nI c &&& 31) = nI (i ^^^ 2 ^ c) := by rw [e2, nI_xor]
    refine Seg.run [4] 400 ?_
    refine And.intro (fun z => ?_) (fun z => ?_)
    · exact (lim_ge (N := 256) hi (by decide) z).elim
    refine And.intro hin ?_
    refine And.intro (by rw [ex]; exact hinx) ?_
    refine Seg.of ?_
    rw [ex, ci, cx, hk i hi, hk _ hx, nI_xor, nI_or, nI_succ] <;> rfl
  · refine Seg.run [] 400 ?_
    refine And.intro (fun z => ?_) (fun z => ?_)
    · exact Seg.rf
    · exact (lim_le (N := 256) (Nat.le_refl _) (by decide) z).elim
end
set_option maxRecDepth 100000 in
set_option maxHeartbeats 400000 in
theorem tX6_carry_64_65 (h : aH) (g : aG) : MX mX6_carry 1 [.ref 64, .ref 65] h g (fun r h' g' => r = [] ∧ tm h' 65 = tm h 64 ∧ ∀ a, a ≠ 65 → h' a = h a) := by
  refine MX.of okX6_carry (by decide +kernel) (Nat.le_of_ble_eq_true rfl) (by decide) rfl (by decide) ?_
  refine SegP.run [2] 400 ?_
  refine SegP.tp (SegP.iter (fun i d => ∃ h', d = (2, [some (.ref 64), some (.ref 65), some (.int (nI i))], [], nW, h', g, ρ) ∧ (∀ a, a ≠ 65 → h' a = h a) ∧ ∀ k, k < i → h' 65 k = h 64 k) 108 (fun i hi d hd => ?_) _ ⟨h, rfl, fun a _ => rfl, fun n hn => absurd hn (Nat.not_lt_zero _)⟩) (fun d hd => ?_)
  · obtain ⟨h', rfl, f1, q1⟩ := hd
    have hin := in10 (p := i) (n := 108) hi (by decide)
    refine SegP.run [2] 400 ?_
    refine And.intro (fun z => ?_) (fun z => ?_)
    · exact (lim_ge (N := 108) hi (by decide) z).elim
    refine And.intro hin ?_
    refine And.intro hin ?_
    refine SegP.rf ⟨_, by rw [nI_succ] <;> rfl, fun a ha => by rw [up2_row ha]; exact f1 a ha, fun n hn => ?_⟩
    rw [cl10 (p := i) (by omega)]
    by_cases y : n = i
    · subst y; rw [up2_s, f1 64 (by decide)]
    · rw [up2_k y]; exact q1 n (by omega)
  · obtain ⟨h', rfl, f1, q1⟩ := hd
    refine SegP.run [] 400 ?_
    refine And.intro (fun z => ?_) (fun z => ?_)
    · refine SegP.ret ⟨rfl, ?_, f1⟩
      funext j k
      rw [tm_pl, tm_pl]
      by_cases hk : k < lenT j
      · rw [if_pos hk, if_pos hk]; exact q1 _ (plT_lt hk)
      · rw [if_neg hk, if_neg hk]
    · exact (lim_le (N := 108) (Nat.le_refl _) (by decide) z).elim
set_option maxRecDepth 100000 in
set_option maxHeartbeats 400000 in
theorem tX6_carry_65_64 (h : aH) (g : aG) : MX mX6_carry 1 [.ref 65, .ref 64] h g (fun r h' g' => r = [] ∧ tm h' 64 = tm h 65 ∧ ∀ a, a ≠ 64 → h' a = h a) := by
  refine MX.of okX6_carry (by decide +kernel) (Nat.le_of_ble_eq_true rfl) (by decide) rfl (by decide) ?_
  refine SegP.run [2] 400 ?_
  refine SegP.tp (SegP.iter (fun i d => ∃ h', d = (2, [some (.ref 65), some (.ref 64), some (.int (nI i))], [], nW, h', g, ρ) ∧ (∀ a, a ≠ 64 → h' a = h a) ∧ ∀ k, k < i → h' 64 k = h 65 k) 108 (fun i hi d hd => ?_) _ ⟨h, rfl, fun a _ => rfl, fun n hn => absurd hn (Nat.not_lt_zero _)⟩) (fun d hd => ?_)
  · obtain ⟨h', rfl, f1, q1⟩ := hd
    have hin := in10 (p := i) (n := 108) hi (by decide)
    refine SegP.run [2] 400 ?_
    refine And.intro (fun z => ?_) (fun z => ?_)
    · exact (lim_ge (N := 108) hi (by decide) z).elim
    refine And.intro hin ?_
    refine And.intro hin ?_
    refine SegP.rf ⟨_, by rw [nI_succ] <;> rfl, fun a ha => by rw [up2_row ha]; exact f1 a ha, fun n hn => ?_⟩
    rw [cl10 (p := i) (by omega)]
    by_cases y : n = i
    · subst y; rw [up2_s, f1 65 (by decide)]
    · rw [up2_k y]; exact q1 n (by omega)
  · obtain ⟨h', rfl, f1, q1⟩ := hd
    refine SegP.run [] 400 ?_
    refine And.intro (fun z => ?_) (fun z => ?_)
    · refine SegP.ret ⟨rfl, ?_, f1⟩
      funext j k
      rw [tm_pl, tm_pl]
      by_cases hk : k < lenT j
      · rw [if_pos hk, if_pos hk]; exact q1 _ (plT_lt hk)
      · rw [if_neg hk, if_neg hk]
    · exact (lim_le (N := 108) (Nat.le_refl _) (by decide) z).elim
set_option maxRecDepth 100000 in
set_option maxHeartbeats 400000 in
theorem tX6_carry_64_66 (h : aH) (g : aG) : MX mX6_carry 1 [.ref 64, .ref 66] h g (fun r h' g' => r = [] ∧ tm h' 66 = tm h 64 ∧ ∀ a, a ≠ 66 → h' a = h a) := by
  refine MX.of okX6_carry (by decide +kernel) (Nat.le_of_ble_eq_true rfl) (by decide) rfl (by decide) ?_
  refine SegP.run [2] 400 ?_
  refine SegP.tp (SegP.iter (fun i d => ∃ h', d = (2, [some (.ref 64), some (.ref 66), some (.int (nI i))], [], nW, h', g, ρ) ∧ (∀ a, a ≠ 66 → h' a = h a) ∧ ∀ k, k < i → h' 66 k = h 64 k) 108 (fun i hi d hd => ?_) _ ⟨h, rfl, fun a _ => rfl, fun n hn => absurd hn (Nat.not_lt_zero _)⟩) (fun d hd => ?_)
  · obtain ⟨h', rfl, f1, q1⟩ := hd
    have hin := in10 (p := i) (n := 108) hi (by decide)
    refine SegP.run [2] 400 ?_
    refine And.intro (fun z => ?_) (fun z => ?_)
    · exact (lim_ge (N := 108) hi (by decide) z).elim
    refine And.intro hin ?_
    refine And.intro hin ?_
    refine SegP.rf ⟨_, by rw [nI_succ] <;> rfl, fun a ha => by rw [up2_row ha]; exact f1 a ha, fun n hn => ?_⟩
    rw [cl10 (p := i) (by omega)]
    by_cases y : n = i
    · subst y; rw [up2_s, f1 64 (by decide)]
    · rw [up2_k y]; exact q1 n (by omega)
  · obtain ⟨h', rfl, f1, q1⟩ := hd
    refine SegP.run [] 400 ?_
    refine And.intro (fun z => ?_) (fun z => ?_)
    · refine SegP.ret ⟨rfl, ?_, f1⟩
      funext j k
      rw [tm_pl, tm_pl]
      by_cases hk : k < lenT j
      · rw [if_pos hk, if_pos hk]; exact q1 _ (plT_lt hk)
      · rw [if_neg hk, if_neg hk]
    · exact (lim_le (N := 108) (Nat.le_refl _) (by decide) z).elim
set_option maxRecDepth 100000 in
set_option maxHeartbeats 400000 in
theorem tX6_carry_66_64 (h : aH) (g : aG) : MX mX6_carry 1 [.ref 66, .ref 64] h g (fun r h' g' => r = [] ∧ tm h' 64 = tm h 66 ∧ ∀ a, a ≠ 64 → h' a = h a) := by
  refine MX.of okX6_carry (by decide +kernel) (Nat.le_of_ble_eq_true rfl) (by decide) rfl (by decide) ?_
  refine SegP.run [2] 400 ?_
  refine SegP.tp (SegP.iter (fun i d => ∃ h', d = (2, [some (.ref 66), some (.ref 64), some (.int (nI i))], [], nW, h', g, ρ) ∧ (∀ a, a ≠ 64 → h' a = h a) ∧ ∀ k, k < i → h' 64 k = h 66 k) 108 (fun i hi d hd => ?_) _ ⟨h, rfl, fun a _ => rfl, fun n hn => absurd hn (Nat.not_lt_zero _)⟩) (fun d hd => ?_)
  · obtain ⟨h', rfl, f1, q1⟩ := hd
    have hin := in10 (p := i) (n := 108) hi (by decide)
    refine SegP.run [2] 400 ?_
    refine And.intro (fun z => ?_) (fun z => ?_)
    · exact (lim_ge (N := 108) hi (by decide) z).elim
    refine And.intro hin ?_
    refine And.intro hin ?_
    refine SegP.rf ⟨_, by rw [nI_succ] <;> rfl, fun a ha => by rw [up2_row ha]; exact f1 a ha, fun n hn => ?_⟩
    rw [cl10 (p := i) (by omega)]
    by_cases y : n = i
    · subst y; rw [up2_s, f1 66 (by decide)]
    · rw [up2_k y]; exact q1 n (by omega)
  · obtain ⟨h', rfl, f1, q1⟩ := hd
    refine SegP.run [] 400 ?_
    refine And.intro (fun z => ?_) (fun z => ?_)
    · refine SegP.ret ⟨rfl, ?_, f1⟩
      funext j k
      rw [tm_pl, tm_pl]
      by_cases hk : k < lenT j
      · rw [if_pos hk, if_pos hk]; exact q1 _ (plT_lt hk)
      · rw [if_neg hk, if_neg hk]
    · exact (lim_le (N := 108) (Nat.le_refl _) (by decide) z).elim
