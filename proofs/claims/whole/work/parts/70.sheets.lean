/-! ===== sheets, the tape: both sides; printed by wip/whole/gen70.py ===== -/
theorem sx8 (v : Int32) : (v <<< ((24 : Int32) &&& 31)) >>> ((24 : Int32) &&& 31) = v.toInt8.toInt32 := by
  apply Int32.toBitVec_inj.mp
  show (v.toBitVec <<< (24 : Nat)).sshiftRight 24 = (v.toBitVec.signExtend 8).signExtend 32
  apply BitVec.eq_of_getLsbD_eq
  intro i hi
  simp only [BitVec.getLsbD_sshiftRight, BitVec.getLsbD_shiftLeft, BitVec.getLsbD_signExtend, BitVec.msb_eq_getLsbD_last]
  by_cases h : i < 8
  · simp [h, hi, show 24 + i < 32 by omega, show i < 32 by omega, show ¬ 32 ≤ i by omega, show ¬ 24 + i < 24 by omega]
  · simp [h, hi, show ¬ 24 + i < 32 by omega, show i < 32 by omega]
theorem sx16 (v : Int32) : (v <<< ((16 : Int32) &&& 31)) >>> ((16 : Int32) &&& 31) = v.toInt16.toInt32 := by
  apply Int32.toBitVec_inj.mp
  show (v.toBitVec <<< (16 : Nat)).sshiftRight 16 = (v.toBitVec.signExtend 16).signExtend 32
  apply BitVec.eq_of_getLsbD_eq
  intro i hi
  simp only [BitVec.getLsbD_sshiftRight, BitVec.getLsbD_shiftLeft, BitVec.getLsbD_signExtend, BitVec.msb_eq_getLsbD_last]
  by_cases h : i < 16
  · simp [h, hi, show 16 + i < 32 by omega, show i < 32 by omega, show ¬ 32 ≤ i by omega, show ¬ 16 + i < 16 by omega]
  · simp [h, hi, show ¬ 16 + i < 32 by omega, show i < 32 by omega]
theorem sx32 (v : Int32) : (v <<< ((0 : Int32) &&& 31)) >>> ((0 : Int32) &&& 31) = v := by
  rw [show (0 : Int32) &&& 31 = 0 by decide, Int32.shiftLeft_zero, Int32.shiftRight_zero]
/-- a number cut to so many bits -/
def cutB (b : Nat) (v : Int32) : Int32 := if b = 8 then v.toInt8.toInt32 else if b = 16 then v.toInt16.toInt32 else v
theorem cut_M {b : Nat} (hb : b = 8 ∨ b = 16 ∨ b = 32) (v : Int32) : (v <<< ((32 - nI b) &&& 31)) >>> ((32 - nI b) &&& 31) = cutB b v := by
  rcases hb with rfl | rfl | rfl
  · exact sx8 v
  · exact sx16 v
  · exact sx32 v
/-- a sheet changed -/
def shV (V : aV) (s : Nat) (q : Nat × Nat × (Nat → Int32)) : aV := (V.1, V.2.1, V.2.2.1, (fun j => if j = s then q else V.2.2.2.1 j), V.2.2.2.2)
theorem VOk.sh {V : aV} (h : VOk V) {s : Nat} {q : Nat × Nat × (Nat → Int32)} (hq : (q.1 = 0 ∨ q.1 = 8 ∨ q.1 = 16 ∨ q.1 = 32) ∧ q.2.1 ≤ 40 ∧ (q.1 = 0 → q.2.1 = 0)) : VOk (shV V s q) := by
  obtain ⟨h1, h2, h3, h4⟩ := h
  refine ⟨h1, h2, h3, fun j hj => ?_⟩
  by_cases e : j = s
  · subst e; simpa [shV] using hq
  · simpa [shV, e] using h4 j hj
theorem CV.sh {h h' : aH} {V : aV} (hv : CV h V) {s : Nat} (hs : s < 4) {q : Nat × Nat × (Nat → Int32)} (e1 : h' (54 + 2 * s) 1 = nI q.1) (e2 : h' (54 + 2 * s) 2 = nI q.2.1) (e3 : ∀ i, i < q.2.1 → h' (55 + 2 * s) i = q.2.2 i) (f : ∀ a, a ≠ 54 + 2 * s → a ≠ 55 + 2 * s → h' a = h a) : CV h' (shV V s q) := by
  obtain ⟨h1, h2, h3, h4, h5, h6⟩ := hv
  refine ⟨(tw_out fun j hj => f _ (by omega) (by omega)).trans h1, by rw [f 0 (by omega) (by omega)]; exact h2, fun z => (tw_out fun j hj => f _ (by omega) (by omega)).trans (h3 z), ?_, fun j hj => ?_, fun k hk => by rw [f 62 (by omega) (by omega)]; exact h6 k hk⟩
  · rw [f 27 (by omega) (by omega), f 28 (by omega) (by omega)]; exact h4
  · by_cases e : j = s
    · subst e
      have : (shV V j q).2.2.2.1 j = q := by simp [shV]
      rw [this]
      exact ⟨e1, e2, e3⟩
    · have : (shV V s q).2.2.2.1 j = V.2.2.2.1 j := by simp [shV, e]
      rw [this, f (54 + 2 * j) (by omega) (by omega), f (55 + 2 * j) (by omega) (by omega)]
      exact h5 j hj
theorem MV.sh {h h' : aH} {V : aV} (hv : MV h V) {s : Nat} (hs : s < 4) {q : Nat × Nat × (Nat → Int32)} (e1 : h' 72 s = nI q.1) (e2 : h' 73 s = nI q.2.1) (e3 : ∀ i, i < q.2.1 → h' 74 (40 * s + i) = q.2.2 i)
    (f1 : ∀ j, j ≠ s → h' 72 j = h 72 j) (f2 : ∀ j, j ≠ s → h' 73 j = h 73 j) (f3 : ∀ j i, j < 4 → j ≠ s → i < 40 → h' 74 (40 * j + i) = h 74 (40 * j + i)) (f : ∀ a, a = 63 ∨ a = 64 ∨ a = 65 ∨ a = 67 ∨ a = 68 → h' a = h a) (hq : ∀ j, j < 4 → (V.2.2.2.1 j).2.1 ≤ 40) : MV h' (shV V s q) := by
  obtain ⟨h1, h2, h3, h4, h5, h6⟩ := hv
  refine ⟨(tm_row' (f 64 (by decide))).trans h1, by rw [f 63 (by decide)]; exact h2, fun z => (tm_row' (f 65 (by decide))).trans (h3 z), ?_, fun j hj => ?_, fun k hk => by rw [f 67 (by decide)]; exact h6 k hk⟩
  · rw [f 63 (by decide), f 68 (by decide)]; exact h4
  · by_cases e : j = s
    · subst e
      have : (shV V j q).2.2.2.1 j = q := by simp [shV]
      rw [this]
      exact ⟨e1, e2, e3⟩
    · have : (shV V s q).2.2.2.1 j = V.2.2.2.1 j := by simp [shV, e]
      rw [this, f1 j e, f2 j e]
      exact ⟨(h5 j hj).1, (h5 j hj).2.1, fun i hi => by rw [f3 j i hj e (by have := hq j hj; omega)]; exact (h5 j hj).2.2 i hi⟩
theorem mn40 {n : Nat} (h : n ≤ 40) : mxI 0 (mnI (nI n) 40) = nI n := by
  have e1 : mnI (nI n) 40 = nI n := by
    unfold mnI
    rw [if_neg (show ¬ (40 : Int32) < nI n from nI_nlt (a := 40) h (by decide))]
  rw [e1]
  unfold mxI
  rcases Nat.eq_zero_or_pos n with e | e
  · subst e; rfl
  · rw [if_pos (show (0 : Int32) < nI n from nI_lt (a := 0) e (by omega))]
/-- a span within a sheet -/
abbrev spP (sz f n : Int32) : Prop := 0 ≤ f ∧ 0 ≤ n ∧ f ≤ sz ∧ n ≤ sz - f
theorem sp_N {z : Nat} (hz : z ≤ 40) {f n : Int32} (h : spP (nI z) f n) : ∃ x y, f = nI x ∧ n = nI y ∧ x + y ≤ z := by
  obtain ⟨h1, h2, h3, h4⟩ := h
  obtain ⟨x, hx, rfl⟩ := rng (a := 0) (b := z) (by omega) ⟨h1, h3⟩ (Nat.zero_le _)
  rw [nI_sb hx.2] at h4
  obtain ⟨y, hy, rfl⟩ := rng (a := 0) (b := z - x) (by omega) ⟨h2, h4⟩ (Nat.zero_le _)
  exact ⟨x, y, rfl, rfl, by omega⟩
theorem sp_I {z : Nat} (hz : z ≤ 40) {f n : Int32} (h1 : 0 ≤ f) (h2 : 0 ≤ n) : spP (nI z) f n ↔ f ≤ nI z - n := by
  have a1 := Int32.le_iff_toInt_le.mp h1
  have a2 := Int32.le_iff_toInt_le.mp h2
  rw [show (0 : Int32).toInt = 0 from rfl] at a1 a2
  have b1 := Int32.toInt_lt f
  have b2 := Int32.toInt_lt n
  have key : ∀ x : Int32, 0 ≤ x.toInt → (nI z - x).toInt = (z : Int) - x.toInt := fun x hx => by
    have c1 := Int32.toInt_lt x
    rw [Int32.toInt_sub, nI_toInt (by omega)]
    apply Int.bmod_eq_of_le
    · simp only [show ((2 ^ 32 : Nat) : Int) = 4294967296 from rfl]; omega
    · simp only [show ((2 ^ 32 : Nat) : Int) = 4294967296 from rfl]; omega
  unfold spP
  rw [Int32.le_iff_toInt_le (x := f) (y := nI z), Int32.le_iff_toInt_le (x := n), Int32.le_iff_toInt_le (x := f) (y := nI z - n), key f a1, key n a2, nI_toInt (by omega)]
  constructor
  · rintro ⟨-, -, -, q⟩; omega
  · intro q; exact ⟨h1, h2, by omega, by omega⟩
set_option maxRecDepth 100000 in
set_option maxHeartbeats 400000 in
theorem tX2_isMissing_54 (h : aH) (g : aG) : MS mX2_isMissing 1 [.ref 54] h g [.int (bI (h 54 1 = 0))] h g := by
  refine MS.of okX2_isMissing (by decide +kernel) (Nat.le_of_ble_eq_true rfl) (by decide) rfl (by decide) ?_
  refine Seg.run [] 400 ?_
  refine And.intro (fun z => ?_) (fun z => ?_)
  · exact And.intro (Or.inl rfl) (Seg.ri (bI_0 z))
  · exact And.intro (Or.inr rfl) (Seg.ri (bI_1 (Decidable.not_not.mp z)))
set_option maxRecDepth 100000 in
set_option maxHeartbeats 400000 in
theorem tX2_begin_54 (h : aH) (g : aG) (b n : Nat) (hn : n ≤ 40) : MX mX2_begin 2 [.ref 54, .int (nI b), .int (nI n)] h g (fun r h' g' => r = [] ∧ h' 54 1 = nI b ∧ h' 54 2 = nI n ∧ (∀ i, i < n → h' (54 + 1) i = 0) ∧ ∀ a, a ≠ 54 → a ≠ 54 + 1 → h' a = h a) := by
  refine MX.of okX2_begin (by decide +kernel) (Nat.le_of_ble_eq_true rfl) (by decide) rfl (by decide) ?_
  refine SegP.run [21] 400 ?_
  refine And.intro (fun z => by cases z) ?_
  refine SegP.tr (Seg.cS ((tJ9_min (nI n) 40).ms (up2 h 54 1 (nI b)) g) mlX2_22 syJ9_min_7cf53 oyJ9_min_7cf53 rfl (by decide) rfl rfl rfl (Nat.le_of_ble_eq_true rfl) (Nat.le_of_ble_eq_true rfl)) ?_
  refine SegP.tr (Seg.cS ((tJ9_max 0 (mnI (nI n) 40)).ms (up2 h 54 1 (nI b)) g) mlX2_28 syJ9_max_7cf53 oyJ9_max_7cf53 rfl (by decide) rfl rfl rfl (Nat.le_of_ble_eq_true rfl) (Nat.le_of_ble_eq_true rfl)) ?_
  refine SegP.run [21] 400 ?_
  refine And.intro (fun z => by cases z) ?_
  rw [mn40 hn]
  refine SegP.tp (SegP.iter (fun i d => ∃ h', d = (21, [some (.ref 54), some (.int (nI b)), some (.int (nI n)), some (.int (nI i))], [], nW, h', g, ρ) ∧ h' 54 = up2 (up2 h 54 1 (nI b)) 54 2 (nI n) 54 ∧ (∀ a, a ≠ 54 → a ≠ 54 + 1 → h' a = h a) ∧ ∀ j, j < i → h' (54 + 1) j = 0) n (fun i hi d hd => ?_) _ ⟨_, rfl, rfl, fun a h1 h2 => by rw [up2_row h1, up2_row h1], fun j hj => absurd hj (Nat.not_lt_zero _)⟩) (fun d hd => ?_)
  · obtain ⟨h', rfl, q1, q2, q3⟩ := hd
    have e2 : h' 54 2 = nI n := by rw [q1, up2_s]
    refine SegP.run [21] 400 ?_
    refine And.intro (fun z => ?_) (fun z => ?_)
    · exact absurd (show nI n ≤ nI i by rw [← e2]; exact z) (nI_ge hi (by omega))
    refine And.intro (in10 (p := i) (n := 40) (by omega) (by decide)) ?_
    refine SegP.rf ⟨_, by rw [nI_succ] <;> rfl, by rw [up2_row (by decide)]; exact q1, fun a h1 h2 => by rw [up2_row h2]; exact q2 a h1 h2, fun j hj => ?_⟩
    rw [cl10 (p := i) (by omega)]
    by_cases y : j = i
    · subst y; exact up2_s
    · rw [up2_k y]; exact q3 j (by omega)
  · obtain ⟨h', rfl, q1, q2, q3⟩ := hd
    have e2 : h' 54 2 = nI n := by rw [q1, up2_s]
    refine SegP.run [] 400 ?_
    refine And.intro (fun z => ?_) (fun z => ?_)
    · exact SegP.ret ⟨rfl, by rw [q1, up2_k (by decide), up2_s], e2, q3, q2⟩
    · exact absurd (show h' 54 2 ≤ nI n by rw [e2]; exact nI_le (Nat.le_refl _) (by omega)) z
set_option maxRecDepth 100000 in
set_option maxHeartbeats 400000 in
theorem tX2_put_54 (h : aH) (g : aG) (b z i : Nat) (hz : z ≤ 40) (hb : b ≤ 32) (hi : i < z) (eb : h 54 1 = nI b) (ez : h 54 2 = nI z) (v : Int32) : MS mX2_put 2 [.ref 54, .int (nI i), .int v] h g [] (up2 h (54 + 1) i (cutB b v)) g := by
  have hin := in10 (p := i) (n := 40) (by omega) (by decide)
  have ci := cl10 (p := i) (by omega)
  have ex : ∀ {a : Nat}, nI b = nI a → a < 100 → b = a := fun y ha => (nI_eq (by omega) (by omega)).mp y
  refine MS.of okX2_put (by decide +kernel) (Nat.le_of_ble_eq_true rfl) (by decide) rfl (by decide) ?_
  refine Seg.run [] 400 ?_
  refine Seg.tr (Seg.cN ((tX5_isBetween (nI i) 0 (h 54 2 - 1)).ms h g) (by decide +kernel) syX5_isBetween oyX5_isBetween rfl (by decide) rfl rfl rfl (Nat.le_of_ble_eq_true rfl) (Nat.le_of_ble_eq_true rfl)) ?_
  refine Seg.run [] 400 ?_
  refine And.intro (fun y => ?_) (fun y => ?_)
  · refine And.intro (fun y8 => ?_) (fun y8 => ?_)
    · refine And.intro (fun y16 => ?_) (fun y16 => ?_)
      · refine And.intro hin ?_
        rw [eb] at y8 y16
        exact Seg.of (by rw [ci, cutB, if_neg (fun e => y8 (by rw [e]; rfl)), if_neg (fun e => y16 (by rw [e]; rfl))] <;> rfl)
      · refine And.intro hin ?_
        rw [eb] at y16
        have e16 := ex (a := 16) (Decidable.not_not.mp y16) (by decide)
        exact Seg.of (by rw [ci, cutB, if_neg (by omega), if_pos e16] <;> rfl)
    · refine And.intro hin ?_
      rw [eb] at y8
      have e8 := ex (a := 8) (Decidable.not_not.mp y8) (by decide)
      exact Seg.of (by rw [ci, cutB, if_pos e8] <;> rfl)
  · refine absurd ⟨nI_pos' (by omega), ?_⟩ (bn0 y)
    rw [ez, show nI z - 1 = nI (z - 1) from nI_sb (b := 1) (by omega)]
    exact nI_le (by omega) (by omega)
set_option maxRecDepth 100000 in
set_option maxHeartbeats 400000 in
theorem tX2_hasSpan_54 (h : aH) (g : aG) (f n : Int32) : MS mX2_hasSpan 1 [.ref 54, .int f, .int n] h g [.int (bI (spP (h 54 2) f n))] h g := by
  refine MS.of okX2_hasSpan (by decide +kernel) (Nat.le_of_ble_eq_true rfl) (by decide) rfl (by decide) ?_
  refine Seg.run [] 400 ?_
  refine And.intro (fun y1 => ?_) (fun y1 => ?_)
  · exact And.intro (Or.inl rfl) (Seg.ri (bI_0 (fun w => nlt y1 w.1)))
  refine And.intro (fun y2 => ?_) (fun y2 => ?_)
  · exact And.intro (Or.inl rfl) (Seg.ri (bI_0 (fun w => nlt y2 w.2.1)))
  refine And.intro (fun y3 => ?_) (fun y3 => ?_)
  · exact And.intro (Or.inl rfl) (Seg.ri (bI_0 (fun w => Int32.not_le.mpr y3 w.2.2.1)))
  refine And.intro (fun y4 => ?_) (fun y4 => ?_)
  · exact And.intro (Or.inl rfl) (Seg.ri (bI_0 (fun w => Int32.not_le.mpr y4 w.2.2.2)))
  · exact And.intro (Or.inr rfl) (Seg.ri (bI_1 ⟨nle y1, nle y2, Int32.not_lt.mp y3, Int32.not_lt.mp y4⟩))
set_option maxRecDepth 100000 in
set_option maxHeartbeats 400000 in
theorem tX2_isMissing_56 (h : aH) (g : aG) : MS mX2_isMissing 1 [.ref 56] h g [.int (bI (h 56 1 = 0))] h g := by
  refine MS.of okX2_isMissing (by decide +kernel) (Nat.le_of_ble_eq_true rfl) (by decide) rfl (by decide) ?_
  refine Seg.run [] 400 ?_
  refine And.intro (fun z => ?_) (fun z => ?_)
  · exact And.intro (Or.inl rfl) (Seg.ri (bI_0 z))
  · exact And.intro (Or.inr rfl) (Seg.ri (bI_1 (Decidable.not_not.mp z)))
set_option maxRecDepth 100000 in
set_option maxHeartbeats 400000 in
theorem tX2_begin_56 (h : aH) (g : aG) (b n : Nat) (hn : n ≤ 40) : MX mX2_begin 2 [.ref 56, .int (nI b), .int (nI n)] h g (fun r h' g' => r = [] ∧ h' 56 1 = nI b ∧ h' 56 2 = nI n ∧ (∀ i, i < n → h' (56 + 1) i = 0) ∧ ∀ a, a ≠ 56 → a ≠ 56 + 1 → h' a = h a) := by
  refine MX.of okX2_begin (by decide +kernel) (Nat.le_of_ble_eq_true rfl) (by decide) rfl (by decide) ?_
  refine SegP.run [21] 400 ?_
  refine And.intro (fun z => by cases z) ?_
  refine SegP.tr (Seg.cS ((tJ9_min (nI n) 40).ms (up2 h 56 1 (nI b)) g) mlX2_22 syJ9_min_7cf53 oyJ9_min_7cf53 rfl (by decide) rfl rfl rfl (Nat.le_of_ble_eq_true rfl) (Nat.le_of_ble_eq_true rfl)) ?_
  refine SegP.tr (Seg.cS ((tJ9_max 0 (mnI (nI n) 40)).ms (up2 h 56 1 (nI b)) g) mlX2_28 syJ9_max_7cf53 oyJ9_max_7cf53 rfl (by decide) rfl rfl rfl (Nat.le_of_ble_eq_true rfl) (Nat.le_of_ble_eq_true rfl)) ?_
  refine SegP.run [21] 400 ?_
  refine And.intro (fun z => by cases z) ?_
  rw [mn40 hn]
  refine SegP.tp (SegP.iter (fun i d => ∃ h', d = (21, [some (.ref 56), some (.int (nI b)), some (.int (nI n)), some (.int (nI i))], [], nW, h', g, ρ) ∧ h' 56 = up2 (up2 h 56 1 (nI b)) 56 2 (nI n) 56 ∧ (∀ a, a ≠ 56 → a ≠ 56 + 1 → h' a = h a) ∧ ∀ j, j < i → h' (56 + 1) j = 0) n (fun i hi d hd => ?_) _ ⟨_, rfl, rfl, fun a h1 h2 => by rw [up2_row h1, up2_row h1], fun j hj => absurd hj (Nat.not_lt_zero _)⟩) (fun d hd => ?_)
  · obtain ⟨h', rfl, q1, q2, q3⟩ := hd
    have e2 : h' 56 2 = nI n := by rw [q1, up2_s]
    refine SegP.run [21] 400 ?_
    refine And.intro (fun z => ?_) (fun z => ?_)
    · exact absurd (show nI n ≤ nI i by rw [← e2]; exact z) (nI_ge hi (by omega))
    refine And.intro (in10 (p := i) (n := 40) (by omega) (by decide)) ?_
    refine SegP.rf ⟨_, by rw [nI_succ] <;> rfl, by rw [up2_row (by decide)]; exact q1, fun a h1 h2 => by rw [up2_row h2]; exact q2 a h1 h2, fun j hj => ?_⟩
    rw [cl10 (p := i) (by omega)]
    by_cases y : j = i
    · subst y; exact up2_s
    · rw [up2_k y]; exact q3 j (by omega)
  · obtain ⟨h', rfl, q1, q2, q3⟩ := hd
    have e2 : h' 56 2 = nI n := by rw [q1, up2_s]
    refine SegP.run [] 400 ?_
    refine And.intro (fun z => ?_) (fun z => ?_)
    · exact SegP.ret ⟨rfl, by rw [q1, up2_k (by decide), up2_s], e2, q3, q2⟩
    · exact absurd (show h' 56 2 ≤ nI n by rw [e2]; exact nI_le (Nat.le_refl _) (by omega)) z
set_option maxRecDepth 100000 in
set_option maxHeartbeats 400000 in
theorem tX2_put_56 (h : aH) (g : aG) (b z i : Nat) (hz : z ≤ 40) (hb : b ≤ 32) (hi : i < z) (eb : h 56 1 = nI b) (ez : h 56 2 = nI z) (v : Int32) : MS mX2_put 2 [.ref 56, .int (nI i), .int v] h g [] (up2 h (56 + 1) i (cutB b v)) g := by
  have hin := in10 (p := i) (n := 40) (by omega) (by decide)
  have ci := cl10 (p := i) (by omega)
  have ex : ∀ {a : Nat}, nI b = nI a → a < 100 → b = a := fun y ha => (nI_eq (by omega) (by omega)).mp y
  refine MS.of okX2_put (by decide +kernel) (Nat.le_of_ble_eq_true rfl) (by decide) rfl (by decide) ?_
  refine Seg.run [] 400 ?_
  refine Seg.tr (Seg.cN ((tX5_isBetween (nI i) 0 (h 56 2 - 1)).ms h g) (by decide +kernel) syX5_isBetween oyX5_isBetween rfl (by decide) rfl rfl rfl (Nat.le_of_ble_eq_true rfl) (Nat.le_of_ble_eq_true rfl)) ?_
  refine Seg.run [] 400 ?_
  refine And.intro (fun y => ?_) (fun y => ?_)
  · refine And.intro (fun y8 => ?_) (fun y8 => ?_)
    · refine And.intro (fun y16 => ?_) (fun y16 => ?_)
      · refine And.intro hin ?_
        rw [eb] at y8 y16
        exact Seg.of (by rw [ci, cutB, if_neg (fun e => y8 (by rw [e]; rfl)), if_neg (fun e => y16 (by rw [e]; rfl))] <;> rfl)
      · refine And.intro hin ?_
        rw [eb] at y16
        have e16 := ex (a := 16) (Decidable.not_not.mp y16) (by decide)
        exact Seg.of (by rw [ci, cutB, if_neg (by omega), if_pos e16] <;> rfl)
    · refine And.intro hin ?_
      rw [eb] at y8
      have e8 := ex (a := 8) (Decidable.not_not.mp y8) (by decide)
      exact Seg.of (by rw [ci, cutB, if_pos e8] <;> rfl)
  · refine absurd ⟨nI_pos' (by omega), ?_⟩ (bn0 y)
    rw [ez, show nI z - 1 = nI (z - 1) from nI_sb (b := 1) (by omega)]
    exact nI_le (by omega) (by omega)
set_option maxRecDepth 100000 in
set_option maxHeartbeats 400000 in
theorem tX2_hasSpan_56 (h : aH) (g : aG) (f n : Int32) : MS mX2_hasSpan 1 [.ref 56, .int f, .int n] h g [.int (bI (spP (h 56 2) f n))] h g := by
  refine MS.of okX2_hasSpan (by decide +kernel) (Nat.le_of_ble_eq_true rfl) (by decide) rfl (by decide) ?_
  refine Seg.run [] 400 ?_
  refine And.intro (fun y1 => ?_) (fun y1 => ?_)
  · exact And.intro (Or.inl rfl) (Seg.ri (bI_0 (fun w => nlt y1 w.1)))
  refine And.intro (fun y2 => ?_) (fun y2 => ?_)
  · exact And.intro (Or.inl rfl) (Seg.ri (bI_0 (fun w => nlt y2 w.2.1)))
  refine And.intro (fun y3 => ?_) (fun y3 => ?_)
  · exact And.intro (Or.inl rfl) (Seg.ri (bI_0 (fun w => Int32.not_le.mpr y3 w.2.2.1)))
  refine And.intro (fun y4 => ?_) (fun y4 => ?_)
  · exact And.intro (Or.inl rfl) (Seg.ri (bI_0 (fun w => Int32.not_le.mpr y4 w.2.2.2)))
  · exact And.intro (Or.inr rfl) (Seg.ri (bI_1 ⟨nle y1, nle y2, Int32.not_lt.mp y3, Int32.not_lt.mp y4⟩))
set_option maxRecDepth 100000 in
set_option maxHeartbeats 400000 in
theorem tX2_isMissing_58 (h : aH) (g : aG) : MS mX2_isMissing 1 [.ref 58] h g [.int (bI (h 58 1 = 0))] h g := by
  refine MS.of okX2_isMissing (by decide +kernel) (Nat.le_of_ble_eq_true rfl) (by decide) rfl (by decide) ?_
  refine Seg.run [] 400 ?_
  refine And.intro (fun z => ?_) (fun z => ?_)
  · exact And.intro (Or.inl rfl) (Seg.ri (bI_0 z))
  · exact And.intro (Or.inr rfl) (Seg.ri (bI_1 (Decidable.not_not.mp z)))
set_option maxRecDepth 100000 in
set_option maxHeartbeats 400000 in
theorem tX2_begin_58 (h : aH) (g : aG) (b n : Nat) (hn : n ≤ 40) : MX mX2_begin 2 [.ref 58, .int (nI b), .int (nI n)] h g (fun r h' g' => r = [] ∧ h' 58 1 = nI b ∧ h' 58 2 = nI n ∧ (∀ i, i < n → h' (58 + 1) i = 0) ∧ ∀ a, a ≠ 58 → a ≠ 58 + 1 → h' a = h a) := by
  refine MX.of okX2_begin (by decide +kernel) (Nat.le_of_ble_eq_true rfl) (by decide) rfl (by decide) ?_
  refine SegP.run [21] 400 ?_
  refine And.intro (fun z => by cases z) ?_
  refine SegP.tr (Seg.cS ((tJ9_min (nI n) 40).ms (up2 h 58 1 (nI b)) g) mlX2_22 syJ9_min_7cf53 oyJ9_min_7cf53 rfl (by decide) rfl rfl rfl (Nat.le_of_ble_eq_true rfl) (Nat.le_of_ble_eq_true rfl)) ?_
  refine SegP.tr (Seg.cS ((tJ9_max 0 (mnI (nI n) 40)).ms (up2 h 58 1 (nI b)) g) mlX2_28 syJ9_max_7cf53 oyJ9_max_7cf53 rfl (by decide) rfl rfl rfl (Nat.le_of_ble_eq_true rfl) (Nat.le_of_ble_eq_true rfl)) ?_
  refine SegP.run [21] 400 ?_
  refine And.intro (fun z => by cases z) ?_
  rw [mn40 hn]
  refine SegP.tp (SegP.iter (fun i d => ∃ h', d = (21, [some (.ref 58), some (.int (nI b)), some (.int (nI n)), some (.int (nI i))], [], nW, h', g, ρ) ∧ h' 58 = up2 (up2 h 58 1 (nI b)) 58 2 (nI n) 58 ∧ (∀ a, a ≠ 58 → a ≠ 58 + 1 → h' a = h a) ∧ ∀ j, j < i → h' (58 + 1) j = 0) n (fun i hi d hd => ?_) _ ⟨_, rfl, rfl, fun a h1 h2 => by rw [up2_row h1, up2_row h1], fun j hj => absurd hj (Nat.not_lt_zero _)⟩) (fun d hd => ?_)
  · obtain ⟨h', rfl, q1, q2, q3⟩ := hd
    have e2 : h' 58 2 = nI n := by rw [q1, up2_s]
    refine SegP.run [21] 400 ?_
    refine And.intro (fun z => ?_) (fun z => ?_)
    · exact absurd (show nI n ≤ nI i by rw [← e2]; exact z) (nI_ge hi (by omega))
    refine And.intro (in10 (p := i) (n := 40) (by omega) (by decide)) ?_
    refine SegP.rf ⟨_, by rw [nI_succ] <;> rfl, by rw [up2_row (by decide)]; exact q1, fun a h1 h2 => by rw [up2_row h2]; exact q2 a h1 h2, fun j hj => ?_⟩
    rw [cl10 (p := i) (by omega)]
    by_cases y : j = i
    · subst y; exact up2_s
    · rw [up2_k y]; exact q3 j (by omega)
  · obtain ⟨h', rfl, q1, q2, q3⟩ := hd
    have e2 : h' 58 2 = nI n := by rw [q1, up2_s]
    refine SegP.run [] 400 ?_
    refine And.intro (fun z => ?_) (fun z => ?_)
    · exact SegP.ret ⟨rfl, by rw [q1, up2_k (by decide), up2_s], e2, q3, q2⟩
    · exact absurd (show h' 58 2 ≤ nI n by rw [e2]; exact nI_le (Nat.le_refl _) (by omega)) z
set_option maxRecDepth 100000 in
set_option maxHeartbeats 400000 in
theorem tX2_put_58 (h : aH) (g : aG) (b z i : Nat) (hz : z ≤ 40) (hb : b ≤ 32) (hi : i < z) (eb : h 58 1 = nI b) (ez : h 58 2 = nI z) (v : Int32) : MS mX2_put 2 [.ref 58, .int (nI i), .int v] h g [] (up2 h (58 + 1) i (cutB b v)) g := by
  have hin := in10 (p := i) (n := 40) (by omega) (by decide)
  have ci := cl10 (p := i) (by omega)
  have ex : ∀ {a : Nat}, nI b = nI a → a < 100 → b = a := fun y ha => (nI_eq (by omega) (by omega)).mp y
  refine MS.of okX2_put (by decide +kernel) (Nat.le_of_ble_eq_true rfl) (by decide) rfl (by decide) ?_
  refine Seg.run [] 400 ?_
  refine Seg.tr (Seg.cN ((tX5_isBetween (nI i) 0 (h 58 2 - 1)).ms h g) (by decide +kernel) syX5_isBetween oyX5_isBetween rfl (by decide) rfl rfl rfl (Nat.le_of_ble_eq_true rfl) (Nat.le_of_ble_eq_true rfl)) ?_
  refine Seg.run [] 400 ?_
  refine And.intro (fun y => ?_) (fun y => ?_)
  · refine And.intro (fun y8 => ?_) (fun y8 => ?_)
    · refine And.intro (fun y16 => ?_) (fun y16 => ?_)
      · refine And.intro hin ?_
        rw [eb] at y8 y16
        exact Seg.of (by rw [ci, cutB, if_neg (fun e => y8 (by rw [e]; rfl)), if_neg (fun e => y16 (by rw [e]; rfl))] <;> rfl)
      · refine And.intro hin ?_
        rw [eb] at y16
        have e16 := ex (a := 16) (Decidable.not_not.mp y16) (by decide)
        exact Seg.of (by rw [ci, cutB, if_neg (by omega), if_pos e16] <;> rfl)
    · refine And.intro hin ?_
      rw [eb] at y8
      have e8 := ex (a := 8) (Decidable.not_not.mp y8) (by decide)
      exact Seg.of (by rw [ci, cutB, if_pos e8] <;> rfl)
  · refine absurd ⟨nI_pos' (by omega), ?_⟩ (bn0 y)
    rw [ez, show nI z - 1 = nI (z - 1) from nI_sb (b := 1) (by omega)]
    exact nI_le (by omega) (by omega)
set_option maxRecDepth 100000 in
set_option maxHeartbeats 400000 in
theorem tX2_hasSpan_58 (h : aH) (g : aG) (f n : Int32) : MS mX2_hasSpan 1 [.ref 58, .int f, .int n] h g [.int (bI (spP (h 58 2) f n))] h g := by
  refine MS.of okX2_hasSpan (by decide +kernel) (Nat.le_of_ble_eq_true rfl) (by decide) rfl (by decide) ?_
  refine Seg.run [] 400 ?_
  refine And.intro (fun y1 => ?_) (fun y1 => ?_)
  · exact And.intro (Or.inl rfl) (Seg.ri (bI_0 (fun w => nlt y1 w.1)))
  refine And.intro (fun y2 => ?_) (fun y2 => ?_)
  · exact And.intro (Or.inl rfl) (Seg.ri (bI_0 (fun w => nlt y2 w.2.1)))
  refine And.intro (fun y3 => ?_) (fun y3 => ?_)
  · exact And.intro (Or.inl rfl) (Seg.ri (bI_0 (fun w => Int32.not_le.mpr y3 w.2.2.1)))
  refine And.intro (fun y4 => ?_) (fun y4 => ?_)
  · exact And.intro (Or.inl rfl) (Seg.ri (bI_0 (fun w => Int32.not_le.mpr y4 w.2.2.2)))
  · exact And.intro (Or.inr rfl) (Seg.ri (bI_1 ⟨nle y1, nle y2, Int32.not_lt.mp y3, Int32.not_lt.mp y4⟩))
set_option maxRecDepth 100000 in
set_option maxHeartbeats 400000 in
theorem tX2_isMissing_60 (h : aH) (g : aG) : MS mX2_isMissing 1 [.ref 60] h g [.int (bI (h 60 1 = 0))] h g := by
  refine MS.of okX2_isMissing (by decide +kernel) (Nat.le_of_ble_eq_true rfl) (by decide) rfl (by decide) ?_
  refine Seg.run [] 400 ?_
  refine And.intro (fun z => ?_) (fun z => ?_)
  · exact And.intro (Or.inl rfl) (Seg.ri (bI_0 z))
  · exact And.intro (Or.inr rfl) (Seg.ri (bI_1 (Decidable.not_not.mp z)))
set_option maxRecDepth 100000 in
set_option maxHeartbeats 400000 in
theorem tX2_begin_60 (h : aH) (g : aG) (b n : Nat) (hn : n ≤ 40) : MX mX2_begin 2 [.ref 60, .int (nI b), .int (nI n)] h g (fun r h' g' => r = [] ∧ h' 60 1 = nI b ∧ h' 60 2 = nI n ∧ (∀ i, i < n → h' (60 + 1) i = 0) ∧ ∀ a, a ≠ 60 → a ≠ 60 + 1 → h' a = h a) := by
  refine MX.of okX2_begin (by decide +kernel) (Nat.le_of_ble_eq_true rfl) (by decide) rfl (by decide) ?_
  refine SegP.run [21] 400 ?_
  refine And.intro (fun z => by cases z) ?_
  refine SegP.tr (Seg.cS ((tJ9_min (nI n) 40).ms (up2 h 60 1 (nI b)) g) mlX2_22 syJ9_min_7cf53 oyJ9_min_7cf53 rfl (by decide) rfl rfl rfl (Nat.le_of_ble_eq_true rfl) (Nat.le_of_ble_eq_true rfl)) ?_
  refine SegP.tr (Seg.cS ((tJ9_max 0 (mnI (nI n) 40)).ms (up2 h 60 1 (nI b)) g) mlX2_28 syJ9_max_7cf53 oyJ9_max_7cf53 rfl (by decide) rfl rfl rfl (Nat.le_of_ble_eq_true rfl) (Nat.le_of_ble_eq_true rfl)) ?_
  refine SegP.run [21] 400 ?_
  refine And.intro (fun z => by cases z) ?_
  rw [mn40 hn]
  refine SegP.tp (SegP.iter (fun i d => ∃ h', d = (21, [some (.ref 60), some (.int (nI b)), some (.int (nI n)), some (.int (nI i))], [], nW, h', g, ρ) ∧ h' 60 = up2 (up2 h 60 1 (nI b)) 60 2 (nI n) 60 ∧ (∀ a, a ≠ 60 → a ≠ 60 + 1 → h' a = h a) ∧ ∀ j, j < i → h' (60 + 1) j = 0) n (fun i hi d hd => ?_) _ ⟨_, rfl, rfl, fun a h1 h2 => by rw [up2_row h1, up2_row h1], fun j hj => absurd hj (Nat.not_lt_zero _)⟩) (fun d hd => ?_)
  · obtain ⟨h', rfl, q1, q2, q3⟩ := hd
    have e2 : h' 60 2 = nI n := by rw [q1, up2_s]
    refine SegP.run [21] 400 ?_
    refine And.intro (fun z => ?_) (fun z => ?_)
    · exact absurd (show nI n ≤ nI i by rw [← e2]; exact z) (nI_ge hi (by omega))
    refine And.intro (in10 (p := i) (n := 40) (by omega) (by decide)) ?_
    refine SegP.rf ⟨_, by rw [nI_succ] <;> rfl, by rw [up2_row (by decide)]; exact q1, fun a h1 h2 => by rw [up2_row h2]; exact q2 a h1 h2, fun j hj => ?_⟩
    rw [cl10 (p := i) (by omega)]
    by_cases y : j = i
    · subst y; exact up2_s
    · rw [up2_k y]; exact q3 j (by omega)
  · obtain ⟨h', rfl, q1, q2, q3⟩ := hd
    have e2 : h' 60 2 = nI n := by rw [q1, up2_s]
    refine SegP.run [] 400 ?_
    refine And.intro (fun z => ?_) (fun z => ?_)
    · exact SegP.ret ⟨rfl, by rw [q1, up2_k (by decide), up2_s], e2, q3, q2⟩
    · exact absurd (show h' 60 2 ≤ nI n by rw [e2]; exact nI_le (Nat.le_refl _) (by omega)) z
set_option maxRecDepth 100000 in
set_option maxHeartbeats 400000 in
theorem tX2_put_60 (h : aH) (g : aG) (b z i : Nat) (hz : z ≤ 40) (hb : b ≤ 32) (hi : i < z) (eb : h 60 1 = nI b) (ez : h 60 2 = nI z) (v : Int32) : MS mX2_put 2 [.ref 60, .int (nI i), .int v] h g [] (up2 h (60 + 1) i (cutB b v)) g := by
  have hin := in10 (p := i) (n := 40) (by omega) (by decide)
  have ci := cl10 (p := i) (by omega)
  have ex : ∀ {a : Nat}, nI b = nI a → a < 100 → b = a := fun y ha => (nI_eq (by omega) (by omega)).mp y
  refine MS.of okX2_put (by decide +kernel) (Nat.le_of_ble_eq_true rfl) (by decide) rfl (by decide) ?_
  refine Seg.run [] 400 ?_
  refine Seg.tr (Seg.cN ((tX5_isBetween (nI i) 0 (h 60 2 - 1)).ms h g) (by decide +kernel) syX5_isBetween oyX5_isBetween rfl (by decide) rfl rfl rfl (Nat.le_of_ble_eq_true rfl) (Nat.le_of_ble_eq_true rfl)) ?_
  refine Seg.run [] 400 ?_
  refine And.intro (fun y => ?_) (fun y => ?_)
  · refine And.intro (fun y8 => ?_) (fun y8 => ?_)
    · refine And.intro (fun y16 => ?_) (fun y16 => ?_)
      · refine And.intro hin ?_
        rw [eb] at y8 y16
        exact Seg.of (by rw [ci, cutB, if_neg (fun e => y8 (by rw [e]; rfl)), if_neg (fun e => y16 (by rw [e]; rfl))] <;> rfl)
      · refine And.intro hin ?_
        rw [eb] at y16
        have e16 := ex (a := 16) (Decidable.not_not.mp y16) (by decide)
        exact Seg.of (by rw [ci, cutB, if_neg (by omega), if_pos e16] <;> rfl)
    · refine And.intro hin ?_
      rw [eb] at y8
      have e8 := ex (a := 8) (Decidable.not_not.mp y8) (by decide)
      exact Seg.of (by rw [ci, cutB, if_pos e8] <;> rfl)
  · refine absurd ⟨nI_pos' (by omega), ?_⟩ (bn0 y)
    rw [ez, show nI z - 1 = nI (z - 1) from nI_sb (b := 1) (by omega)]
    exact nI_le (by omega) (by omega)
set_option maxRecDepth 100000 in
set_option maxHeartbeats 400000 in
theorem tX2_hasSpan_60 (h : aH) (g : aG) (f n : Int32) : MS mX2_hasSpan 1 [.ref 60, .int f, .int n] h g [.int (bI (spP (h 60 2) f n))] h g := by
  refine MS.of okX2_hasSpan (by decide +kernel) (Nat.le_of_ble_eq_true rfl) (by decide) rfl (by decide) ?_
  refine Seg.run [] 400 ?_
  refine And.intro (fun y1 => ?_) (fun y1 => ?_)
  · exact And.intro (Or.inl rfl) (Seg.ri (bI_0 (fun w => nlt y1 w.1)))
  refine And.intro (fun y2 => ?_) (fun y2 => ?_)
  · exact And.intro (Or.inl rfl) (Seg.ri (bI_0 (fun w => nlt y2 w.2.1)))
  refine And.intro (fun y3 => ?_) (fun y3 => ?_)
  · exact And.intro (Or.inl rfl) (Seg.ri (bI_0 (fun w => Int32.not_le.mpr y3 w.2.2.1)))
  refine And.intro (fun y4 => ?_) (fun y4 => ?_)
  · exact And.intro (Or.inl rfl) (Seg.ri (bI_0 (fun w => Int32.not_le.mpr y4 w.2.2.2)))
  · exact And.intro (Or.inr rfl) (Seg.ri (bI_1 ⟨nle y1, nle y2, Int32.not_lt.mp y3, Int32.not_lt.mp y4⟩))
