/-! ===== tokens: both readers step on ===== -/
/-- the tape is in order -/
def BT (n : Nat) (b : Nat → Int32) : Prop := n ≤ 120 ∧ ∀ i, i < n → ∃ x, x < 256 ∧ b i = nI x
def srA (n : Nat) (b : Nat → Int32) (p : Nat) : Nat := if p < n then (if 97 ≤ b p ∧ b p ≤ 122 then 1 else if 48 ≤ b p ∧ b p ≤ 57 then 2 else if b p = 59 then 3 else 4) else 0
def skD (n : Nat) (b : Nat → Int32) : Nat → Nat
  | 0 => n
  | d + 1 => if b (n - (d + 1)) = 32 then skD n b d else n - (d + 1)
def reD (n : Nat) (b : Nat → Int32) (k : Nat) : Nat → Nat
  | 0 => n
  | d + 1 => if srA n b (n - (d + 1)) = k then reD n b k d else n - (d + 1)
def vlU (b : Nat → Int32) (s : Nat) : Nat → Nat
  | 0 => 0
  | j + 1 => min (vlU b s j * 10 + (cl (b (s + j)) - 48)) 1000
def tS (n : Nat) (b : Nat → Int32) (p : Nat) : Nat := skD n b (n - p)
def tK (n : Nat) (b : Nat → Int32) (p : Nat) : Nat := srA n b (tS n b p)
def tE (n : Nat) (b : Nat → Int32) (p : Nat) : Nat := if tK n b p = 0 then tS n b p else if tK n b p = 1 ∨ tK n b p = 2 then reD n b (tK n b p) (n - tS n b p) else tS n b p + 1
def tV (n : Nat) (b : Nat → Int32) (p : Nat) : Nat := if tK n b p = 2 then vlU b (tS n b p) (tE n b p - tS n b p) else 0
theorem skD_r {n : Nat} {b : Nat → Int32} : ∀ d, d ≤ n → n - d ≤ skD n b d ∧ skD n b d ≤ n := by
  intro d
  induction d with
  | zero => intro _; exact ⟨Nat.le_refl _, Nat.le_refl _⟩
  | succ d ih =>
    intro hd
    simp only [skD]
    split
    · have := ih (by omega); omega
    · omega
theorem reD_r {n : Nat} {b : Nat → Int32} {k : Nat} : ∀ d, d ≤ n → n - d ≤ reD n b k d ∧ reD n b k d ≤ n := by
  intro d
  induction d with
  | zero => intro _; exact ⟨Nat.le_refl _, Nat.le_refl _⟩
  | succ d ih =>
    intro hd
    simp only [reD]
    split
    · have := ih (by omega); omega
    · omega
theorem srA_le {n : Nat} {b : Nat → Int32} {p : Nat} : srA n b p ≤ 4 := by
  unfold srA
  repeat' split
  all_goals omega
theorem srA_0 {n : Nat} {b : Nat → Int32} {p : Nat} : srA n b p = 0 ↔ n ≤ p := by
  unfold srA
  constructor
  · intro h
    rcases Nat.lt_or_ge p n with z | z
    · rw [if_pos z] at h
      repeat' split at h
      all_goals omega
    · exact z
  · intro h; rw [if_neg (by omega)]
theorem vlU_l {b : Nat → Int32} {s : Nat} : ∀ j, vlU b s j ≤ 1000 := by
  intro j
  cases j with
  | zero => exact Nat.zero_le _
  | succ j => exact Nat.min_le_right _ _
theorem tS_r {n : Nat} {b : Nat → Int32} {p : Nat} (hp : p ≤ n) : p ≤ tS n b p ∧ tS n b p ≤ n := by
  have := skD_r (n := n) (b := b) (n - p) (by omega)
  unfold tS
  omega
theorem tE_r {n : Nat} {b : Nat → Int32} {p : Nat} (hp : p ≤ n) : tS n b p ≤ tE n b p ∧ tE n b p ≤ n ∧ (tK n b p ≠ 0 → tS n b p < n) ∧ (tK n b p = 3 → tS n b p < tE n b p) := by
  have h1 := tS_r (b := b) hp
  have h2 := reD_r (n := n) (b := b) (k := tK n b p) (n - tS n b p) (by omega)
  have h3 : tK n b p ≠ 0 → tS n b p < n := fun z => by
    rcases Nat.lt_or_ge (tS n b p) n with y | y
    · exact y
    · exact absurd (srA_0.mpr y) z
  refine ⟨?_, ?_, h3, fun z => ?_⟩
  · unfold tE
    repeat' split
    all_goals omega
  · unfold tE
    by_cases z : tK n b p = 0
    · rw [if_pos z]; omega
    · have := h3 z
      rw [if_neg z]
      split <;> omega
  · unfold tE
    rw [if_neg (by omega), if_neg (by omega)]
    omega
/-- the tape lies in the class's memory -/
def TC (h : aH) (n : Nat) (b : Nat → Int32) : Prop := h 27 1 = nI n ∧ ∀ i, i < n → h 28 i = b i
def TM (h : aH) (n : Nat) (b : Nat → Int32) : Prop := h 63 6 = nI n ∧ ∀ i, i < n → h 68 i = b i
theorem TC.fr {h h' : aH} {n : Nat} {b : Nat → Int32} (t : TC h n b) (f : ∀ a, a ≠ 29 → h' a = h a) : TC h' n b := by
  unfold TC
  rw [f 27 (by decide), f 28 (by decide)]
  exact t
set_option maxRecDepth 100000 in
set_option maxHeartbeats 400000 in
theorem tX1_sortAt {h : aH} {g : aG} {n : Nat} {b : Nat → Int32} (hb : BT n b) (ht : TC h n b) (q : Nat) (hq : q ≤ n) : MS mX1_sortAt 1 [.ref 29, .int (nI q)] h g [.int (nI (srA n b q))] h g := by
  have hn := hb.1
  refine MS.of okX1_sortAt (by decide +kernel) (Nat.le_of_ble_eq_true rfl) (by decide) rfl (by decide) ?_
  refine Seg.run [41] 400 ?_
  refine And.intro (fun z => ?_) (fun z => ?_)
  · exact absurd z (nI_pos (by omega))
  refine And.intro (fun z2 => ?_) (fun z2 => ?_)
  case refine_2 =>
    have q1 : n ≤ q := by
      rcases Nat.lt_or_ge q n with y | y
      · exact absurd (show nI q < h 27 1 by rw [ht.1]; exact nI_lt y (by omega)) z2
      · exact y
    exact Seg.ri (by rw [srA_0.mpr q1]; rfl)
  have q1 : q < n := (nI_ltI (by omega) (by omega)).mp (by rw [← ht.1]; exact z2)
  refine And.intro (in10 (p := q) (n := 120) (by omega) (by decide)) ?_
  rw [cl10 (p := q) (by omega), ht.2 q q1]
  have e4 : ¬ (97 ≤ b q ∧ b q ≤ 122) → ¬ (48 ≤ b q ∧ b q ≤ 57) → Seg mX1_sortAt 1 (55, [some (.ref 29), some (.int (nI q)), some (.int (b q))], [], nW, h, g, ρ) (aRET, [], [.int (nI (srA n b q))], nW, h, g, ρ) := by
    intro y1 y2
    refine Seg.run [] 400 ?_
    refine And.intro (fun y3 => ?_) (fun y3 => ?_)
    · exact Seg.ri (by rw [srA, if_pos q1, if_neg y1, if_neg y2, if_neg y3]; rfl)
    · exact Seg.ri (by rw [srA, if_pos q1, if_neg y1, if_neg y2, if_pos (Decidable.not_not.mp y3)]; rfl)
  have e2 : ¬ (97 ≤ b q ∧ b q ≤ 122) → Seg mX1_sortAt 1 (41, [some (.ref 29), some (.int (nI q)), some (.int (b q))], [], nW, h, g, ρ) (aRET, [], [.int (nI (srA n b q))], nW, h, g, ρ) := by
    intro y1
    refine Seg.run [55] 400 ?_
    refine And.intro (fun y2 => ?_) (fun y2 => ?_)
    · exact e4 y1 (fun w => nlt y2 w.1)
    refine And.intro (fun y3 => ?_) (fun y3 => ?_)
    · exact e4 y1 (fun w => absurd w.2 (Int32.not_le.mpr y3))
    · exact Seg.ri (by rw [srA, if_pos q1, if_neg y1, if_pos ⟨nle y2, Int32.not_lt.mp y3⟩]; rfl)
  refine And.intro (fun y2 => ?_) (fun y2 => ?_)
  · exact e2 (fun w => nlt y2 w.1)
  refine And.intro (fun y3 => ?_) (fun y3 => ?_)
  · exact e2 (fun w => absurd w.2 (Int32.not_le.mpr y3))
  · exact Seg.ri (by rw [srA, if_pos q1, if_pos ⟨nle y2, Int32.not_lt.mp y3⟩]; rfl)
theorem mn1000 (x : Nat) (hx : x < 2 ^ 31) : mnI (nI x) 1000 = nI (min x 1000) := by
  unfold mnI
  by_cases z : 1000 < x
  · rw [if_pos (show (1000 : Int32) < nI x from nI_lt (a := 1000) z hx), show min x 1000 = 1000 by omega]; rfl
  · rw [if_neg (show ¬ (1000 : Int32) < nI x from nI_nlt (a := 1000) (by omega) (by decide)), show min x 1000 = x by omega]
theorem dig_I {n : Nat} {b : Nat → Int32} (hb : BT n b) {q : Nat} (hq : q < n) (h2 : srA n b q = 2) : ∃ x, (48 ≤ x ∧ x ≤ 57) ∧ b q = nI x ∧ cl (b q) = x := by
  have h : 48 ≤ b q ∧ b q ≤ 57 := by
    unfold srA at h2
    rw [if_pos hq] at h2
    by_cases y1 : 97 ≤ b q ∧ b q ≤ 122
    · rw [if_pos y1] at h2; omega
    · rw [if_neg y1] at h2
      by_cases y2 : 48 ≤ b q ∧ b q ≤ 57
      · exact y2
      · rw [if_neg y2] at h2
        split at h2 <;> omega
  obtain ⟨x, h1, e⟩ := rng (a := 48) (b := 57) (by decide) (show nI 48 ≤ b q ∧ b q ≤ nI 57 from h) (by decide)
  exact ⟨x, h1, e, by rw [e]; exact cl_nI (by omega)⟩
set_option maxRecDepth 100000 in
set_option maxHeartbeats 800000 in
theorem tX1_stepOn {h : aH} {g : aG} {n : Nat} {b : Nat → Int32} (hb : BT n b) (ht : TC h n b) (p : Nat) (hp : p ≤ n) (he : h 29 4 = nI p) : MX mX1_stepOn 3 [.ref 29] h g (fun r h' g' => r = [] ∧ RC h' n b (tS n b p) (tE n b p) (tK n b p) (tV n b p) ∧ ∀ a, a ≠ 29 → h' a = h a) := by
  have hn := hb.1
  have hr := tS_r (b := b) hp
  have her := tE_r (b := b) hp
  have fin : ∀ h' : aH, (∀ a, a ≠ 29 → h' a = h a) → h' 29 2 = nI (tK n b p) → h' 29 3 = nI (tS n b p) → h' 29 4 = nI (tE n b p) → h' 29 5 = nI (tV n b p) → SegP mX1_stepOn 3 (176, [some (.ref 29)], [], nW, h', g, ρ) (enP (fun r h' g' => r = [] ∧ RC h' n b (tS n b p) (tE n b p) (tK n b p) (tV n b p) ∧ ∀ a, a ≠ 29 → h' a = h a)) := by
    intro h' f k1 k2 k3 k4
    refine SegP.run [] 400 ?_
    refine SegP.ret ⟨rfl, ⟨ht.fr f, k1, k2, k3, k4, her.1, her.2.1, hn, srA_le, ?_⟩, f⟩
    unfold tV
    split
    · exact vlU_l _
    · exact Nat.zero_le _
  -- words and numbers
  have run2 : ∀ k, (k = 1 ∨ k = 2) → k = tK n b p → ∀ d q, n - q = d → tS n b p ≤ q → q ≤ n → reD n b k (n - tS n b p) = reD n b k d → ∀ h' : aH, (∀ a, a ≠ 29 → h' a = h a) → h' 29 2 = nI k → h' 29 3 = nI (tS n b p) → h' 29 4 = nI q → h' 29 5 = nI (if k = 2 then vlU b (tS n b p) (q - tS n b p) else 0) → SegP mX1_stepOn 3 (77, [some (.ref 29)], [], nW, h', g, ρ) (enP (fun r h' g' => r = [] ∧ RC h' n b (tS n b p) (tE n b p) (tK n b p) (tV n b p) ∧ ∀ a, a ≠ 29 → h' a = h a)) := by
    intro k hk hkk d
    have done : ∀ q, q = reD n b k (n - tS n b p) → ∀ h' : aH, (∀ a, a ≠ 29 → h' a = h a) → h' 29 2 = nI k → h' 29 3 = nI (tS n b p) → h' 29 4 = nI q → h' 29 5 = nI (if k = 2 then vlU b (tS n b p) (q - tS n b p) else 0) → SegP mX1_stepOn 3 (176, [some (.ref 29)], [], nW, h', g, ρ) (enP (fun r h' g' => r = [] ∧ RC h' n b (tS n b p) (tE n b p) (tK n b p) (tV n b p) ∧ ∀ a, a ≠ 29 → h' a = h a)) := by
      intro q hq h' f k1 k2 k3 k4
      have e1 : tE n b p = q := by
        unfold tE
        rw [← hkk, if_neg (by omega), if_pos hk, hq]
      refine fin h' f (by rw [← hkk]; exact k1) k2 (by rw [e1]; exact k3) ?_
      unfold tV
      rw [← hkk, e1]
      exact k4
    induction d with
    | zero =>
      intro q hd hs hq hre h' f k1 k2 k3 k4
      obtain rfl : q = n := by omega
      refine SegP.run [176] 400 ?_
      refine And.intro (fun _ => ?_) (fun z => absurd (show h' 27 1 ≤ h' 29 4 by rw [(ht.fr f).1, k3]; exact nI_le (Nat.le_refl _) (by omega)) z)
      exact done q (by rw [hre]; rfl) h' f k1 k2 k3 k4
    | succ d ih =>
      intro q hd hs hq hre h' f k1 k2 k3 k4
      have hq1 : q < n := by omega
      have tc := ht.fr f
      have ed : n - (d + 1) = q := by omega
      have cq : (h' 29 4).toNatClampNeg = q := by rw [k3]; exact cl10 (by omega)
      refine SegP.run [] 400 ?_
      refine And.intro (fun z => absurd (show nI n ≤ nI q by rw [← tc.1, ← k3]; exact z) (nI_ge hq1 (by omega))) (fun _ => ?_)
      refine SegP.tr (Seg.cV (show MS mX1_sortAt 1 [.ref 29, .int (h' 29 4)] h' g [.int (nI (srA n b q))] h' g by rw [k3]; exact tX1_sortAt hb tc q hq) mlX1_58 iyX1_sortAt seX1_sortAt oyX1_sortAt rfl (by decide) rfl (by decide) (by decide) rfl rfl rfl rfl (Nat.le_of_ble_eq_true rfl) (Nat.le_of_ble_eq_true rfl)) ?_
      refine SegP.run [77, 147, 176] 400 ?_
      have es : nI (srA n b q) = h' 29 2 ↔ srA n b q = k := by rw [k1]; exact nI_eq (by have := srA_le (n := n) (b := b) (p := q); omega) (by omega)
      refine And.intro (fun z => ?_) (fun z => ?_)
      · have z1 : ¬ srA n b q = k := fun y => z (es.mpr y)
        refine done q ?_ h' f k1 k2 k3 k4
        rw [hre]
        show q = if srA n b (n - (d + 1)) = k then _ else n - (d + 1)
        rw [ed, if_neg z1]
      have z1 : srA n b q = k := es.mp (Decidable.not_not.mp z)
      have hre2 : reD n b k (n - tS n b p) = reD n b k d := by
        rw [hre]
        show (if srA n b (n - (d + 1)) = k then _ else n - (d + 1)) = _
        rw [ed, if_pos z1]
      have step : ∀ v, v = (if k = 2 then vlU b (tS n b p) (q + 1 - tS n b p) else 0) → ∀ h2 : aH, (∀ a, a ≠ 29 → h2 a = h a) → h2 29 2 = nI k → h2 29 3 = nI (tS n b p) → h2 29 4 = nI q → h2 29 5 = nI v → SegP mX1_stepOn 3 (147, [some (.ref 29)], [], nW, h2, g, ρ) (enP (fun r h' g' => r = [] ∧ RC h' n b (tS n b p) (tE n b p) (tK n b p) (tV n b p) ∧ ∀ a, a ≠ 29 → h' a = h a)) := by
        intro v hv h2 f2 m1 m2 m3 m4
        have hk3 : ∀ x : Int32, up2 h2 29 4 x 29 2 = nI k := fun x => by rw [up2_k (by decide)]; exact m1
        refine SegP.run [77, 176] 400 ?_
        refine And.intro (fun z => by cases z) ?_
        refine And.intro (fun z => ?_) (fun _ => ?_)
        · have : nI k = nI 3 := by rw [← hk3]; exact z
          have := (nI_eq (by omega) (by decide)).mp this
          omega
        refine And.intro (fun _ => ?_) (fun z => ?_)
        · refine ih (q + 1) (by omega) (by omega) hq1 hre2 _ (fun a ha => by rw [up2_row ha]; exact f2 a ha) (hk3 _) (by rw [up2_k (by decide)]; exact m2) (by rw [up2_s, m3, ← nI_succ]) (by rw [up2_k (by decide), m4, hv])
        · have : nI k = nI 4 := by rw [← hk3]; exact Decidable.not_not.mp z
          have := (nI_eq (by omega) (by decide)).mp this
          omega
      refine And.intro (fun z2 => ?_) (fun z2 => ?_)
      · have k1' : k = 1 := by
          rcases hk with y | y
          · exact y
          · exact absurd (by rw [k1, y]; rfl) z2
        exact step 0 (by rw [if_neg (by omega)]) h' f k1 k2 k3 (by rw [k4, if_neg (by omega)])
      · have k2' : k = 2 := (nI_eq (by omega) (b := 2) (by decide)).mp (by rw [← k1]; exact Decidable.not_not.mp z2)
        obtain ⟨x, x1, x2, x3⟩ := dig_I hb hq1 (by rw [z1, k2'])
        have vl := vlU_l (b := b) (s := tS n b p) (q - tS n b p)
        rw [if_pos k2'] at k4
        refine And.intro (by rw [k3]; exact in10 (p := q) (n := 120) (by omega) (by decide)) ?_
        rw [cq, tc.2 q hq1]
        have ev : h' 29 5 * 10 + b q - 48 = nI (vlU b (tS n b p) (q - tS n b p) * 10 + (x - 48)) := by
          rw [k4, x2, show (10 : Int32) = nI 10 from rfl, nI_ml, nI_ad, show (48 : Int32) = nI 48 from rfl, nI_sb (by omega)]
          congr 1
          omega
        refine SegP.tr (Seg.cS (show MS mJ9_min_7cf53 1 [.int (h' 29 5 * 10 + b q - 48), .int 1000] h' g [.int (nI (min (vlU b (tS n b p) (q - tS n b p) * 10 + (x - 48)) 1000))] h' g by rw [ev, ← mn1000 _ (by omega)]; exact (tJ9_min _ _).ms h' g) mlX1_62 syJ9_min_7cf53 oyJ9_min_7cf53 rfl (by decide) rfl rfl rfl (Nat.le_of_ble_eq_true rfl) (Nat.le_of_ble_eq_true rfl)) ?_
        refine SegP.run [147] 400 ?_
        refine And.intro (fun z => by cases z) ?_
        refine step _ ?_ _ (fun a ha => by rw [up2_row ha]; exact f a ha) (by rw [up2_k (by decide)]; exact k1) (by rw [up2_k (by decide)]; exact k2) (by rw [up2_k (by decide)]; exact k3) up2_s
        rw [if_pos k2', show q + 1 - tS n b p = q - tS n b p + 1 by omega]
        show _ = min (vlU b (tS n b p) (q - tS n b p) * 10 + (cl (b (tS n b p + (q - tS n b p))) - 48)) 1000
        rw [show tS n b p + (q - tS n b p) = q by omega, x3]
  -- behind the blanks
  have go : ∀ h' : aH, (∀ a, a ≠ 29 → h' a = h a) → h' 29 3 = nI (tS n b p) → SegP mX1_stepOn 3 (52, [some (.ref 29)], [], nW, h', g, ρ) (enP (fun r h' g' => r = [] ∧ RC h' n b (tS n b p) (tE n b p) (tK n b p) (tV n b p) ∧ ∀ a, a ≠ 29 → h' a = h a)) := by
    intro h' f k3
    have f1 : ∀ a, a ≠ 29 → up2 h' 29 4 (h' 29 3) a = h a := fun a ha => by rw [up2_row ha]; exact f a ha
    have tc := ht.fr f1
    have s3 : up2 h' 29 4 (h' 29 3) 29 3 = nI (tS n b p) := by rw [up2_k (by decide)]; exact k3
    refine SegP.run [] 400 ?_
    refine And.intro (fun z => by cases z) ?_
    refine SegP.tr (Seg.cV (show MS mX1_sortAt 1 [.ref 29, .int (up2 h' 29 4 (h' 29 3) 29 3)] (up2 h' 29 4 (h' 29 3)) g [.int (nI (tK n b p))] (up2 h' 29 4 (h' 29 3)) g by rw [s3]; exact tX1_sortAt hb tc _ hr.2) mlX1_58 iyX1_sortAt seX1_sortAt oyX1_sortAt rfl (by decide) rfl (by decide) (by decide) rfl rfl rfl rfl (Nat.le_of_ble_eq_true rfl) (Nat.le_of_ble_eq_true rfl)) ?_
    refine SegP.run [77] 400 ?_
    refine And.intro (fun z => by cases z) ?_
    refine And.intro (fun z => by cases z) ?_
    refine SegP.tr (b := (77, [some (.ref 29)], [], nW, up2 (up2 (up2 h' 29 4 (h' 29 3)) 29 2 (nI (tK n b p))) 29 5 0, g, ρ)) Seg.rf ?_
    have fa : ∀ a, a ≠ 29 → up2 (up2 (up2 h' 29 4 (h' 29 3)) 29 2 (nI (tK n b p))) 29 5 0 a = h a := fun a ha => by rw [up2_row ha, up2_row ha]; exact f1 a ha
    have g2 : up2 (up2 (up2 h' 29 4 (h' 29 3)) 29 2 (nI (tK n b p))) 29 5 0 29 2 = nI (tK n b p) := by rw [up2_k (by decide), up2_s]
    have g3 : up2 (up2 (up2 h' 29 4 (h' 29 3)) 29 2 (nI (tK n b p))) 29 5 0 29 3 = nI (tS n b p) := by rw [up2_k (by decide), up2_k (by decide), up2_k (by decide)]; exact k3
    have g4 : up2 (up2 (up2 h' 29 4 (h' 29 3)) 29 2 (nI (tK n b p))) 29 5 0 29 4 = nI (tS n b p) := by rw [up2_k (by decide), up2_k (by decide), up2_s]; exact k3
    have g5 : up2 (up2 (up2 h' 29 4 (h' 29 3)) 29 2 (nI (tK n b p))) 29 5 0 29 5 = nI 0 := up2_s
    generalize up2 (up2 (up2 h' 29 4 (h' 29 3)) 29 2 (nI (tK n b p))) 29 5 0 = h2 at fa g2 g3 g4 g5 ⊢
    have tc2 := ht.fr fa
    by_cases w : tK n b p = 1 ∨ tK n b p = 2
    · refine run2 (tK n b p) w rfl (n - tS n b p) (tS n b p) rfl (Nat.le_refl _) hr.2 rfl h2 fa g2 g3 g4 ?_
      rw [g5, Nat.sub_self]
      split <;> rfl
    by_cases w0 : tK n b p = 0
    · have en : tS n b p = n := by have := srA_0.mp w0; omega
      have eE : tE n b p = tS n b p := by unfold tE; rw [if_pos w0]
      have eV : tV n b p = 0 := by unfold tV; rw [if_neg (by omega)]
      refine SegP.run [176] 400 ?_
      refine And.intro (fun _ => ?_) (fun z => absurd (show h2 27 1 ≤ h2 29 4 by rw [tc2.1, g4, en]; exact nI_le (Nat.le_refl _) (by omega)) z)
      exact fin h2 fa g2 g3 (by rw [eE]; exact g4) (by rw [eV]; exact g5)
    · have lt := her.2.2.1 w0
      have kl : tK n b p ≤ 4 := srA_le
      have eE : tE n b p = tS n b p + 1 := by unfold tE; rw [if_neg w0, if_neg w]
      have eV : tV n b p = 0 := by unfold tV; rw [if_neg (by omega)]
      refine SegP.run [] 400 ?_
      refine And.intro (fun z => absurd (show nI n ≤ nI (tS n b p) by rw [← tc2.1, ← g4]; exact z) (nI_ge lt (by omega))) (fun _ => ?_)
      refine SegP.tr (Seg.cV (show MS mX1_sortAt 1 [.ref 29, .int (h2 29 4)] h2 g [.int (nI (tK n b p))] h2 g by rw [g4]; exact tX1_sortAt hb tc2 _ hr.2) mlX1_58 iyX1_sortAt seX1_sortAt oyX1_sortAt rfl (by decide) rfl (by decide) (by decide) rfl rfl rfl rfl (Nat.le_of_ble_eq_true rfl) (Nat.le_of_ble_eq_true rfl)) ?_
      refine SegP.run [77, 176] 400 ?_
      refine And.intro (fun z => absurd g2.symm z) (fun _ => ?_)
      refine And.intro (fun _ => ?_) (fun z => ?_)
      · refine And.intro (fun z => by cases z) ?_
        have h3 : ∀ x : Int32, up2 h2 29 4 x 29 2 = nI (tK n b p) := fun x => by rw [up2_k (by decide)]; exact g2
        have out : SegP mX1_stepOn 3 (176, [some (.ref 29)], [], nW, up2 h2 29 4 (h2 29 4 + 1), g, ρ) (enP (fun r h' g' => r = [] ∧ RC h' n b (tS n b p) (tE n b p) (tK n b p) (tV n b p) ∧ ∀ a, a ≠ 29 → h' a = h a)) :=
          fin _ (fun a ha => by rw [up2_row ha]; exact fa a ha) (h3 _) (by rw [up2_k (by decide)]; exact g3) (by rw [up2_s, g4, eE, nI_succ]) (by rw [up2_k (by decide), eV]; exact g5)
        refine And.intro (fun _ => out) (fun z => ?_)
        refine And.intro (fun y => ?_) (fun _ => out)
        have n3 : tK n b p ≠ 3 := fun w => z (by rw [h3, w]; rfl)
        have n4 : tK n b p ≠ 4 := fun w => y (by rw [h3, w]; rfl)
        omega
      · have := (nI_eq (by omega) (b := 2) (by decide)).mp (show nI (tK n b p) = nI 2 by rw [← g2]; exact Decidable.not_not.mp z)
        omega
  -- blanks
  have blank : ∀ d q, n - q = d → q ≤ n → skD n b d = tS n b p → ∀ h' : aH, (∀ a, a ≠ 29 → h' a = h a) → h' 29 3 = nI q → SegP mX1_stepOn 3 (8, [some (.ref 29)], [], nW, h', g, ρ) (enP (fun r h' g' => r = [] ∧ RC h' n b (tS n b p) (tE n b p) (tK n b p) (tV n b p) ∧ ∀ a, a ≠ 29 → h' a = h a)) := by
    intro d
    induction d with
    | zero =>
      intro q hd hq hk h' f k3
      obtain rfl : q = n := by omega
      refine SegP.run [52] 400 ?_
      refine And.intro (fun _ => ?_) (fun z => absurd (show h' 27 1 ≤ h' 29 3 by rw [(ht.fr f).1, k3]; exact nI_le (Nat.le_refl _) (by omega)) z)
      exact go h' f (by rw [k3, ← hk]; rfl)
    | succ d ih =>
      intro q hd hq hk h' f k3
      have tc := ht.fr f
      have ed : n - (d + 1) = q := by omega
      have cq : (h' 29 3).toNatClampNeg = q := by rw [k3]; exact cl10 (by omega)
      have hk' : (if b q = 32 then skD n b d else q) = tS n b p := by rw [← hk]; show _ = if b (n - (d + 1)) = 32 then _ else n - (d + 1); rw [ed]
      refine SegP.run [8, 52] 400 ?_
      refine And.intro (fun z => absurd (show nI n ≤ nI q by rw [← tc.1, ← k3]; exact z) (nI_ge (by omega) (by omega))) (fun _ => ?_)
      refine And.intro (by rw [k3]; exact in10 (p := q) (n := 120) (by omega) (by decide)) ?_
      rw [cq, tc.2 q (by omega)]
      refine And.intro (fun z => ?_) (fun z => ?_)
      · rw [if_neg z] at hk'
        exact go h' f (by rw [k3, hk'])
      · rw [if_pos (Decidable.not_not.mp z)] at hk'
        refine And.intro (fun z => by cases z) ?_
        exact ih (q + 1) (by omega) (by omega) hk' _ (fun a ha => by rw [up2_row ha]; exact f a ha) (by rw [up2_s, k3, ← nI_succ])
  refine MX.of okX1_stepOn (by decide +kernel) (Nat.le_of_ble_eq_true rfl) (by decide) rfl (by decide) ?_
  refine SegP.run [8] 400 ?_
  refine And.intro (fun z => by cases z) ?_
  exact blank (n - p) p rfl hp rfl _ (fun a ha => up2_row ha) (by rw [up2_s]; exact he)
