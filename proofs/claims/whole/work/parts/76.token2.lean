/-! ===== tokens: the reference steps on ===== -/
theorem TM.fr {h h' : aH} {n : Nat} {b : Nat → Int32} (t : TM h n b) (f : ∀ a, a ≠ 63 → h' a = h a) (f6 : h' 63 6 = h 63 6) : TM h' n b := by
  unfold TM
  rw [f6, f 68 (by decide)]
  exact t
/-- what a step of the reference's reader leaves as it was -/
def frM (h h' : aH) : Prop := (∀ a, a ≠ 63 → h' a = h a) ∧ ∀ j, j ≠ 7 → j ≠ 8 → j ≠ 9 → j ≠ 10 → h' 63 j = h 63 j
theorem frM.rf {h : aH} : frM h h := ⟨fun _ _ => rfl, fun _ _ _ _ _ => rfl⟩
theorem frM.up {h h' : aH} (f : frM h h') {j : Nat} {x : Int32} (hj : j = 7 ∨ j = 8 ∨ j = 9 ∨ j = 10) : frM h (up2 h' 63 j x) := ⟨fun a ha => (up2_row ha).trans (f.1 a ha), fun i h1 h2 h3 h4 => (up2_k (by omega)).trans (f.2 i h1 h2 h3 h4)⟩
theorem frM.tm {h h' : aH} {n : Nat} {b : Nat → Int32} (f : frM h h') (t : TM h n b) : TM h' n b := t.fr f.1 (f.2 6 (by decide) (by decide) (by decide) (by decide))
/-- a byte as the reference looks at it -/
def byI (n : Nat) (b : Nat → Int32) (q : Nat) : Int32 := if q < n then b q else -1
set_option maxRecDepth 100000 in
set_option maxHeartbeats 400000 in
theorem tX6_byteAt {h : aH} {g : aG} {n : Nat} {b : Nat → Int32} (hn : n ≤ 120) (ht : TM h n b) (q : Nat) (hq : q ≤ n) : MS mX6_byteAt 1 [.ref 63, .int (nI q)] h g [.int (byI n b q)] h g := by
  refine MS.of okX6_byteAt (by decide +kernel) (Nat.le_of_ble_eq_true rfl) (by decide) rfl (by decide) ?_
  refine Seg.run [] 400 ?_
  refine And.intro (fun z => ?_) (fun z => ?_)
  · have q1 : ¬ q < n := fun y => absurd (show nI n ≤ nI q by rw [← ht.1]; exact z) (nI_ge y (by omega))
    exact Seg.ri (by rw [byI, if_neg q1])
  · have q1 : q < n := by
      rcases Nat.lt_or_ge q n with y | y
      · exact y
      · exact absurd (show h 63 6 ≤ nI q by rw [ht.1]; exact nI_le y (by omega)) z
    refine And.intro (in10 (p := q) (n := 120) (by omega) (by decide)) ?_
    exact Seg.ri (by rw [cl10 (p := q) (by omega), ht.2 q q1, byI, if_pos q1])
theorem by_ge {n : Nat} {b : Nat → Int32} (hb : BT n b) {q : Nat} (hq : q < n) : byI n b q = b q ∧ 0 ≤ b q := by
  obtain ⟨x, h1, h2⟩ := hb.2 q hq
  exact ⟨by rw [byI, if_pos hq], by rw [h2]; exact nI_pos' (by omega)⟩
theorem by_1 {n : Nat} {b : Nat → Int32} {q : Nat} : (97 ≤ byI n b q ∧ byI n b q ≤ 122) ↔ srA n b q = 1 := by
  unfold byI srA
  by_cases z : q < n
  · rw [if_pos z, if_pos z]
    by_cases y1 : 97 ≤ b q ∧ b q ≤ 122
    · rw [if_pos y1]; exact ⟨fun _ => rfl, fun _ => y1⟩
    · rw [if_neg y1]
      refine ⟨fun w => absurd w y1, fun w => ?_⟩
      split at w
      · omega
      · split at w <;> omega
  · rw [if_neg z, if_neg z]
    exact ⟨fun w => absurd w.1 (by decide), fun w => by omega⟩
theorem by_2 {n : Nat} {b : Nat → Int32} {q : Nat} : (48 ≤ byI n b q ∧ byI n b q ≤ 57) ↔ srA n b q = 2 := by
  unfold byI srA
  by_cases z : q < n
  · rw [if_pos z, if_pos z]
    by_cases y1 : 97 ≤ b q ∧ b q ≤ 122
    · rw [if_pos y1]
      refine ⟨fun w => ?_, fun w => by omega⟩
      exact absurd (Int32.le_trans y1.1 w.2) (by decide)
    · rw [if_neg y1]
      by_cases y2 : 48 ≤ b q ∧ b q ≤ 57
      · rw [if_pos y2]; exact ⟨fun _ => rfl, fun _ => y2⟩
      · rw [if_neg y2]
        refine ⟨fun w => absurd w y2, fun w => ?_⟩
        split at w <;> omega
  · rw [if_neg z, if_neg z]
    exact ⟨fun w => absurd w.1 (by decide), fun w => by omega⟩
def RMx (h : aH) (n : Nat) (b : Nat → Int32) (p : Nat) : Prop := ∃ w, RM h n b (tS n b p) (tE n b p) (tK n b p) w ∧ (tK n b p = 2 → min w 1000 = tV n b p)
set_option maxRecDepth 100000 in
set_option maxHeartbeats 800000 in
theorem tX6_next {h : aH} {g : aG} {n : Nat} {b : Nat → Int32} (hb : BT n b) (ht : TM h n b) (p : Nat) (hp : p ≤ n) (he : h 63 7 = nI p) : MX mX6_next 3 [.ref 63] h g (fun r h' g' => r = [] ∧ RMx h' n b p ∧ frM h h') := by
  have hn := hb.1
  have hr := tS_r (b := b) hp
  have her := tE_r (b := b) hp
  have fin : ∀ (h' : aH) (l1 : Option Value) (w : Nat), frM h h' → h' 63 8 = nI (tK n b p) → h' 63 9 = nI (tS n b p) → h' 63 7 = nI (tE n b p) → (tK n b p = 2 → h' 63 10 = nI w ∧ w ≤ 9999 ∧ min w 1000 = tV n b p) → SegP mX6_next 3 (219, [some (.ref 63), l1], [], nW, h', g, ρ) (enP (fun r h' g' => r = [] ∧ RMx h' n b p ∧ frM h h')) := by
    intro h' l1 w f k1 k2 k3 k4
    refine SegP.run [] 400 ?_
    exact SegP.ret ⟨rfl, ⟨w, ⟨f.tm ht, k1, k2, k3, fun z => ⟨(k4 z).1, (k4 z).2.1⟩, her.1, her.2.1, hn, srA_le⟩, fun z => (k4 z).2.2⟩, f⟩
  -- words
  have words : tK n b p = 1 → ∀ d q, n - q = d → tS n b p ≤ q → q ≤ n → reD n b 1 (n - tS n b p) = reD n b 1 d → ∀ (h' : aH) (y1 : Int32), frM h h' → h' 63 8 = nI 1 → h' 63 9 = nI (tS n b p) → h' 63 7 = nI q → SegP mX6_next 3 (71, [some (.ref 63), some (.int y1)], [], nW, h', g, ρ) (enP (fun r h' g' => r = [] ∧ RMx h' n b p ∧ frM h h')) := by
    intro hk d
    have done : ∀ q, q = reD n b 1 (n - tS n b p) → ∀ (h' : aH) (y1 : Int32), frM h h' → h' 63 8 = nI 1 → h' 63 9 = nI (tS n b p) → h' 63 7 = nI q → SegP mX6_next 3 (219, [some (.ref 63), some (.int y1)], [], nW, h', g, ρ) (enP (fun r h' g' => r = [] ∧ RMx h' n b p ∧ frM h h')) := by
      intro q hq h' y1 f k1 k2 k3
      have e1 : tE n b p = q := by
        unfold tE
        rw [hk, if_neg (by decide), if_pos (Or.inl rfl), hq]
      exact fin h' _ 0 f (by rw [hk]; exact k1) k2 (by rw [e1]; exact k3) (fun z => by omega)
    induction d with
    | zero =>
      intro q hd hs hq hre h' y1 f k1 k2 k3
      obtain rfl : q = n := by omega
      have hk0 : ¬ (97 ≤ byI q b q ∧ byI q b q ≤ 122) := fun z => by have := by_1.mp z; have := (srA_0 (n := q) (b := b) (p := q)).mpr (Nat.le_refl q); omega
      refine SegP.run [] 400 ?_
      refine SegP.tr (Seg.cV (show MS mX6_byteAt 1 [.ref 63, .int (h' 63 7)] h' g [.int (byI q b q)] h' g by rw [k3]; exact tX6_byteAt hn (f.tm ht) q hq) mlX6_62 iyX6_byteAt seX6_byteAt oyX6_byteAt rfl (by decide) rfl (by decide) (by decide) rfl rfl rfl rfl (Nat.le_of_ble_eq_true rfl) (Nat.le_of_ble_eq_true rfl)) ?_
      refine SegP.run [] 400 ?_
      refine SegP.tr (Seg.cS ((tX6_in (byI q b q) 97 122).ms h' g) mlX6_47 syX6_in oyX6_in rfl (by decide) rfl rfl rfl (Nat.le_of_ble_eq_true rfl) (Nat.le_of_ble_eq_true rfl)) ?_
      refine SegP.run [219] 400 ?_
      refine And.intro (fun _ => ?_) (fun z => absurd (bq1 z) hk0)
      exact done q (by rw [hre]; rfl) h' y1 f k1 k2 k3
    | succ d ih =>
      intro q hd hs hq hre h' y1 f k1 k2 k3
      have ed : n - (d + 1) = q := by omega
      refine SegP.run [] 400 ?_
      refine SegP.tr (Seg.cV (show MS mX6_byteAt 1 [.ref 63, .int (h' 63 7)] h' g [.int (byI n b q)] h' g by rw [k3]; exact tX6_byteAt hn (f.tm ht) q hq) mlX6_62 iyX6_byteAt seX6_byteAt oyX6_byteAt rfl (by decide) rfl (by decide) (by decide) rfl rfl rfl rfl (Nat.le_of_ble_eq_true rfl) (Nat.le_of_ble_eq_true rfl)) ?_
      refine SegP.run [] 400 ?_
      refine SegP.tr (Seg.cS ((tX6_in (byI n b q) 97 122).ms h' g) mlX6_47 syX6_in oyX6_in rfl (by decide) rfl rfl rfl (Nat.le_of_ble_eq_true rfl) (Nat.le_of_ble_eq_true rfl)) ?_
      refine SegP.run [71, 219] 400 ?_
      refine And.intro (fun z => ?_) (fun z => ?_)
      · have z1 : ¬ srA n b q = 1 := fun y => bq0 z (by_1.mpr y)
        refine done q ?_ h' y1 f k1 k2 k3
        rw [hre]
        show q = if srA n b (n - (d + 1)) = 1 then _ else n - (d + 1)
        rw [ed, if_neg z1]
      · have z1 : srA n b q = 1 := by_1.mp (bq1 z)
        refine And.intro (fun z => by cases z) ?_
        refine ih (q + 1) (by omega) (by omega) (by omega) ?_ _ y1 (f.up (Or.inl rfl)) (by rw [up2_k (by decide)]; exact k1) (by rw [up2_k (by decide)]; exact k2) (by rw [up2_s, k3, ← nI_succ])
        rw [hre]
        show (if srA n b (n - (d + 1)) = 1 then _ else n - (d + 1)) = _
        rw [ed, if_pos z1]
  -- numbers
  have nums : tK n b p = 2 → ∀ d q, n - q = d → tS n b p ≤ q → q ≤ n → reD n b 2 (n - tS n b p) = reD n b 2 d → ∀ (h' : aH) (y1 : Int32) (w : Nat), frM h h' → h' 63 8 = nI 2 → h' 63 9 = nI (tS n b p) → h' 63 7 = nI q → h' 63 10 = nI w → w ≤ 9999 → min w 1000 = vlU b (tS n b p) (q - tS n b p) → SegP mX6_next 3 (123, [some (.ref 63), some (.int y1)], [], nW, h', g, ρ) (enP (fun r h' g' => r = [] ∧ RMx h' n b p ∧ frM h h')) := by
    intro hk d
    have done : ∀ q, q = reD n b 2 (n - tS n b p) → ∀ (h' : aH) (y1 : Int32) (w : Nat), frM h h' → h' 63 8 = nI 2 → h' 63 9 = nI (tS n b p) → h' 63 7 = nI q → h' 63 10 = nI w → w ≤ 9999 → min w 1000 = vlU b (tS n b p) (q - tS n b p) → SegP mX6_next 3 (219, [some (.ref 63), some (.int y1)], [], nW, h', g, ρ) (enP (fun r h' g' => r = [] ∧ RMx h' n b p ∧ frM h h')) := by
      intro q hq h' y1 w f k1 k2 k3 k4 k5 k6
      have e1 : tE n b p = q := by
        unfold tE
        rw [hk, if_neg (by decide), if_pos (Or.inr rfl), hq]
      refine fin h' _ w f (by rw [hk]; exact k1) k2 (by rw [e1]; exact k3) (fun z => ⟨k4, k5, ?_⟩)
      unfold tV
      rw [if_pos z, e1]
      exact k6
    induction d with
    | zero =>
      intro q hd hs hq hre h' y1 w f k1 k2 k3 k4 k5 k6
      obtain rfl : q = n := by omega
      have hk0 : ¬ (48 ≤ byI q b q ∧ byI q b q ≤ 57) := fun z => by have := by_2.mp z; have := (srA_0 (n := q) (b := b) (p := q)).mpr (Nat.le_refl q); omega
      refine SegP.run [] 400 ?_
      refine SegP.tr (Seg.cV (show MS mX6_byteAt 1 [.ref 63, .int (h' 63 7)] h' g [.int (byI q b q)] h' g by rw [k3]; exact tX6_byteAt hn (f.tm ht) q hq) mlX6_62 iyX6_byteAt seX6_byteAt oyX6_byteAt rfl (by decide) rfl (by decide) (by decide) rfl rfl rfl rfl (Nat.le_of_ble_eq_true rfl) (Nat.le_of_ble_eq_true rfl)) ?_
      refine SegP.run [] 400 ?_
      refine SegP.tr (Seg.cS ((tX6_in (byI q b q) 48 57).ms h' g) mlX6_47 syX6_in oyX6_in rfl (by decide) rfl rfl rfl (Nat.le_of_ble_eq_true rfl) (Nat.le_of_ble_eq_true rfl)) ?_
      refine SegP.run [219] 400 ?_
      refine And.intro (fun _ => ?_) (fun z => absurd (bq1 z) hk0)
      exact done q (by rw [hre]; rfl) h' y1 w f k1 k2 k3 k4 k5 k6
    | succ d ih =>
      intro q hd hs hq hre h' y1 w f k1 k2 k3 k4 k5 k6
      have ed : n - (d + 1) = q := by omega
      have hq1 : q < n := by omega
      refine SegP.run [] 400 ?_
      refine SegP.tr (Seg.cV (show MS mX6_byteAt 1 [.ref 63, .int (h' 63 7)] h' g [.int (byI n b q)] h' g by rw [k3]; exact tX6_byteAt hn (f.tm ht) q hq) mlX6_62 iyX6_byteAt seX6_byteAt oyX6_byteAt rfl (by decide) rfl (by decide) (by decide) rfl rfl rfl rfl (Nat.le_of_ble_eq_true rfl) (Nat.le_of_ble_eq_true rfl)) ?_
      refine SegP.run [] 400 ?_
      refine SegP.tr (Seg.cS ((tX6_in (byI n b q) 48 57).ms h' g) mlX6_47 syX6_in oyX6_in rfl (by decide) rfl rfl rfl (Nat.le_of_ble_eq_true rfl) (Nat.le_of_ble_eq_true rfl)) ?_
      refine SegP.run [141, 219] 400 ?_
      refine And.intro (fun z => ?_) (fun z => ?_)
      · have z1 : ¬ srA n b q = 2 := fun y => bq0 z (by_2.mpr y)
        refine done q ?_ h' y1 w f k1 k2 k3 k4 k5 k6
        rw [hre]
        show q = if srA n b (n - (d + 1)) = 2 then _ else n - (d + 1)
        rw [ed, if_neg z1]
      have z1 : srA n b q = 2 := by_2.mp (bq1 z)
      obtain ⟨x, x1, x2, x3⟩ := dig_I hb hq1 z1
      have hre2 : reD n b 2 (n - tS n b p) = reD n b 2 d := by
        rw [hre]
        show (if srA n b (n - (d + 1)) = 2 then _ else n - (d + 1)) = _
        rw [ed, if_pos z1]
      have vs : vlU b (tS n b p) (q + 1 - tS n b p) = min (vlU b (tS n b p) (q - tS n b p) * 10 + (x - 48)) 1000 := by
        rw [show q + 1 - tS n b p = q - tS n b p + 1 by omega]
        show min (_ * 10 + (cl (b (tS n b p + (q - tS n b p))) - 48)) 1000 = _
        rw [show tS n b p + (q - tS n b p) = q by omega, x3]
      have step : ∀ w' : Nat, w' ≤ 9999 → min w' 1000 = vlU b (tS n b p) (q + 1 - tS n b p) → ∀ y : Int32, y = nI w' → SegP mX6_next 3 (178, [some (.ref 63), some (.int y1)], [.int y, .ref 63], nW, h', g, ρ) (enP (fun r h' g' => r = [] ∧ RMx h' n b p ∧ frM h h')) := by
        rintro w' hw1 hw2 y rfl
        refine SegP.run [123] 400 ?_
        refine And.intro (fun z => by cases z) ?_
        refine And.intro (fun z => by cases z) ?_
        refine ih (q + 1) (by omega) (by omega) hq1 hre2 _ y1 w' ((f.up (Or.inr (Or.inr (Or.inr rfl)))).up (Or.inl rfl)) ?_ ?_ ?_ ?_ hw1 hw2
        · rw [up2_k (by decide), up2_k (by decide)]; exact k1
        · rw [up2_k (by decide), up2_k (by decide)]; exact k2
        · rw [up2_s, up2_k (by decide), k3, ← nI_succ]
        · rw [up2_k (by decide), up2_s]
      refine SegP.run [178] 400 ?_
      refine And.intro (fun z2 => ?_) (fun z2 => ?_)
      · have w9 : w ≤ 999 := (nI_leI (by omega) (b := 999) (by decide)).mp (by rw [← k4]; exact z2)
        refine SegP.tr (Seg.cV (show MS mX6_byteAt 1 [.ref 63, .int (h' 63 7)] h' g [.int (b q)] h' g by rw [k3, ← (by_ge hb hq1).1]; exact tX6_byteAt hn (f.tm ht) q hq) mlX6_62 iyX6_byteAt seX6_byteAt oyX6_byteAt rfl (by decide) rfl (by decide) (by decide) rfl rfl rfl rfl (Nat.le_of_ble_eq_true rfl) (Nat.le_of_ble_eq_true rfl)) ?_
        refine SegP.run [178] 400 ?_
        refine step (w * 10 + (x - 48)) (by omega) (by rw [vs]; omega) _ ?_
        rw [k4, x2, show (10 : Int32) = nI 10 from rfl, nI_ml, nI_ad, show (48 : Int32) = nI 48 from rfl, nI_sb (by omega)]
        congr 1
        omega
      · have w9 : 999 < w := by
          rcases Nat.lt_or_ge 999 w with y | y
          · exact y
          · exact absurd (show h' 63 10 ≤ 999 by rw [k4]; exact nI_le (b := 999) y (by decide)) z2
        exact step w k5 (by rw [vs]; omega) _ k4
  -- behind the blanks
  have go : ∀ (h' : aH), frM h h' → h' 63 7 = nI (tS n b p) → SegP mX6_next 3 (26, [some (.ref 63), none], [], nW, h', g, ρ) (enP (fun r h' g' => r = [] ∧ RMx h' n b p ∧ frM h h')) := by
    intro h' f k3
    have f1 : frM h (up2 h' 63 9 (h' 63 7)) := f.up (Or.inr (Or.inr (Or.inl rfl)))
    have s7 : up2 h' 63 9 (h' 63 7) 63 7 = nI (tS n b p) := by rw [up2_k (by decide)]; exact k3
    have s9 : up2 h' 63 9 (h' 63 7) 63 9 = nI (tS n b p) := by rw [up2_s]; exact k3
    refine SegP.run [34] 400 ?_
    refine And.intro (fun z => by cases z) ?_
    refine SegP.tr (b := (34, [some (.ref 63), none], [], nW, up2 h' 63 9 (h' 63 7), g, ρ)) Seg.rf ?_
    generalize up2 h' 63 9 (h' 63 7) = h2 at f1 s7 s9 ⊢
    refine SegP.run [] 400 ?_
    refine SegP.tr (Seg.cV (show MS mX6_byteAt 1 [.ref 63, .int (h2 63 7)] h2 g [.int (byI n b (tS n b p))] h2 g by rw [s7]; exact tX6_byteAt hn (f1.tm ht) _ hr.2) mlX6_62 iyX6_byteAt seX6_byteAt oyX6_byteAt rfl (by decide) rfl (by decide) (by decide) rfl rfl rfl rfl (Nat.le_of_ble_eq_true rfl) (Nat.le_of_ble_eq_true rfl)) ?_
    refine SegP.run [219] 400 ?_
    have kdef : tK n b p = srA n b (tS n b p) := rfl
    refine And.intro (fun z => ?_) (fun z => ?_)
    case refine_2 =>
      refine And.intro (fun z => by cases z) ?_
      have lt : ¬ tS n b p < n := fun y => by
        have := by_ge hb y
        rw [this.1] at z
        exact z this.2
      have k0 : tK n b p = 0 := by rw [kdef]; exact srA_0.mpr (by omega)
      have eE : tE n b p = tS n b p := by unfold tE; rw [if_pos k0]
      exact fin _ _ 0 (f1.up (Or.inr (Or.inl rfl))) (by rw [up2_s, k0]; rfl) (by rw [up2_k (by decide)]; exact s9) (by rw [up2_k (by decide), eE]; exact s7) (fun y => by omega)
    have lt : tS n b p < n := by
      rcases Nat.lt_or_ge (tS n b p) n with y | y
      · exact y
      · rw [byI, if_neg (by omega)] at z
        exact absurd z (by decide : ¬ (0 : Int32) ≤ -1)
    have k0 : tK n b p ≠ 0 := fun y => by have := srA_0.mp (kdef ▸ y); omega
    refine SegP.tr (Seg.cS ((tX6_in (byI n b (tS n b p)) 97 122).ms h2 g) mlX6_47 syX6_in oyX6_in rfl (by decide) rfl rfl rfl (Nat.le_of_ble_eq_true rfl) (Nat.le_of_ble_eq_true rfl)) ?_
    refine SegP.run [71, 219] 400 ?_
    refine And.intro (fun y1 => ?_) (fun y1 => ?_)
    case refine_2 =>
      have k1 : tK n b p = 1 := by rw [kdef]; exact by_1.mp (bq1 y1)
      refine And.intro (fun z => by cases z) ?_
      exact words k1 (n - tS n b p) (tS n b p) rfl (Nat.le_refl _) hr.2 rfl _ _ (f1.up (Or.inr (Or.inl rfl))) up2_s (by rw [up2_k (by decide)]; exact s9) (by rw [up2_k (by decide)]; exact s7)
    have n1 : tK n b p ≠ 1 := fun w => bq0 y1 (by_1.mpr (by rw [← kdef]; exact w))
    refine SegP.tr (Seg.cS ((tX6_in (byI n b (tS n b p)) 48 57).ms h2 g) mlX6_47 syX6_in oyX6_in rfl (by decide) rfl rfl rfl (Nat.le_of_ble_eq_true rfl) (Nat.le_of_ble_eq_true rfl)) ?_
    refine SegP.run [123, 219] 400 ?_
    refine And.intro (fun y2 => ?_) (fun y2 => ?_)
    case refine_2 =>
      have k2 : tK n b p = 2 := by rw [kdef]; exact by_2.mp (bq1 y2)
      refine And.intro (fun z => by cases z) ?_
      refine And.intro (fun z => by cases z) ?_
      refine nums k2 (n - tS n b p) (tS n b p) rfl (Nat.le_refl _) hr.2 rfl _ _ 0 ((f1.up (Or.inr (Or.inl rfl))).up (Or.inr (Or.inr (Or.inr rfl)))) (by rw [up2_k (by decide), up2_s]; rfl) (by rw [up2_k (by decide), up2_k (by decide)]; exact s9) (by rw [up2_k (by decide), up2_k (by decide)]; exact s7) up2_s (by decide) ?_
      rw [Nat.sub_self]
      rfl
    have n2 : tK n b p ≠ 2 := fun w => bq0 y2 (by_2.mpr (by rw [← kdef]; exact w))
    have eE : tE n b p = tS n b p + 1 := by unfold tE; rw [if_neg k0, if_neg (by omega)]
    have kk : tK n b p = if b (tS n b p) = 59 then 3 else 4 := by
      rw [kdef]
      unfold srA
      rw [if_pos lt]
      have e1 : ¬ (97 ≤ b (tS n b p) ∧ b (tS n b p) ≤ 122) := fun w => bq0 y1 (by rw [(by_ge hb lt).1]; exact w)
      have e2 : ¬ (48 ≤ b (tS n b p) ∧ b (tS n b p) ≤ 57) := fun w => bq0 y2 (by rw [(by_ge hb lt).1]; exact w)
      rw [if_neg e1, if_neg e2]
    have eb := (by_ge hb lt).1
    refine And.intro (fun y3 => ?_) (fun y3 => ?_)
    · have k4 : tK n b p = 4 := by rw [kk, if_neg (by rw [← eb]; exact y3)]
      refine And.intro (fun z => by cases z) ?_
      refine And.intro (fun z => by cases z) ?_
      exact fin _ _ 0 ((f1.up (Or.inr (Or.inl rfl))).up (Or.inl rfl)) (by rw [up2_k (by decide), up2_s, k4]; rfl) (by rw [up2_k (by decide), up2_k (by decide)]; exact s9) (by rw [up2_s, up2_k (by decide), s7, eE, nI_succ]) (fun y => by omega)
    · have k3' : tK n b p = 3 := by rw [kk, if_pos (by rw [← eb]; exact Decidable.not_not.mp y3)]
      refine And.intro (fun z => by cases z) ?_
      refine And.intro (fun z => by cases z) ?_
      exact fin _ _ 0 ((f1.up (Or.inr (Or.inl rfl))).up (Or.inl rfl)) (by rw [up2_k (by decide), up2_s, k3']; rfl) (by rw [up2_k (by decide), up2_k (by decide)]; exact s9) (by rw [up2_s, up2_k (by decide), s7, eE, nI_succ]) (fun y => by omega)
  have blank : ∀ d q, n - q = d → q ≤ n → skD n b d = tS n b p → ∀ h' : aH, frM h h' → h' 63 7 = nI q → SegP mX6_next 3 (0, [some (.ref 63), none], [], nW, h', g, ρ) (enP (fun r h' g' => r = [] ∧ RMx h' n b p ∧ frM h h')) := by
    intro d
    induction d with
    | zero =>
      intro q hd hq hk h' f k3
      obtain rfl : q = n := by omega
      refine SegP.run [] 400 ?_
      refine SegP.tr (Seg.cV (show MS mX6_byteAt 1 [.ref 63, .int (h' 63 7)] h' g [.int (byI q b q)] h' g by rw [k3]; exact tX6_byteAt hn (f.tm ht) q hq) mlX6_62 iyX6_byteAt seX6_byteAt oyX6_byteAt rfl (by decide) rfl (by decide) (by decide) rfl rfl rfl rfl (Nat.le_of_ble_eq_true rfl) (Nat.le_of_ble_eq_true rfl)) ?_
      refine SegP.run [26] 400 ?_
      refine And.intro (fun _ => ?_) (fun z => absurd (Decidable.not_not.mp z) (by rw [byI, if_neg (Nat.lt_irrefl _)]; decide))
      exact go h' f (by rw [k3, ← hk]; rfl)
    | succ d ih =>
      intro q hd hq hk h' f k3
      have ed : n - (d + 1) = q := by omega
      have hk' : (if b q = 32 then skD n b d else q) = tS n b p := by rw [← hk]; show _ = if b (n - (d + 1)) = 32 then _ else n - (d + 1); rw [ed]
      refine SegP.run [] 400 ?_
      refine SegP.tr (Seg.cV (show MS mX6_byteAt 1 [.ref 63, .int (h' 63 7)] h' g [.int (b q)] h' g by rw [k3, ← (by_ge hb (show q < n by omega)).1]; exact tX6_byteAt hn (f.tm ht) q hq) mlX6_62 iyX6_byteAt seX6_byteAt oyX6_byteAt rfl (by decide) rfl (by decide) (by decide) rfl rfl rfl rfl (Nat.le_of_ble_eq_true rfl) (Nat.le_of_ble_eq_true rfl)) ?_
      refine SegP.run [0, 26] 400 ?_
      refine And.intro (fun z => ?_) (fun z => ?_)
      · rw [if_neg z] at hk'
        exact go h' f (by rw [k3, hk'])
      · rw [if_pos (Decidable.not_not.mp z)] at hk'
        refine And.intro (fun z => by cases z) ?_
        exact ih (q + 1) (by omega) (by omega) hk' _ (f.up (Or.inl rfl)) (by rw [up2_s, k3, ← nI_succ])
  refine MX.of okX6_next (by decide +kernel) (Nat.le_of_ble_eq_true rfl) (by decide) rfl (by decide) ?_
  exact blank (n - p) p rfl hp rfl h frM.rf he
