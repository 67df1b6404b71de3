/-! ===== parsing: numbers and words taken; printed by wip/whole/gen77.py ===== -/
abbrev nmQ (n : Nat) (b : Nat → Int32) (p lo hi : Nat) : Prop := tK n b p = 2 ∧ lo ≤ tV n b p ∧ tV n b p ≤ hi
abbrev wdP (n : Nat) (b : Nat → Int32) (p j : Nat) : Prop := tK n b p = 1 ∧ tE n b p - tS n b p = strLen.getD j 0 ∧ ∀ i, i < strLen.getD j 0 → b (tS n b p + i) = chJ j i
def RCx (h : aH) (n : Nat) (b : Nat → Int32) (p : Nat) : Prop := RC h n b (tS n b p) (tE n b p) (tK n b p) (tV n b p)
def qNum (n : Nat) (b : Nat → Int32) (p lo hi : Nat) (h : aH) : List Value → aH → aG → Prop := fun r h' _ => (r = [.int (nI (tV n b p))] ∧ nmQ n b p lo hi ∧ RCx h' n b (tE n b p) ∧ ∀ a, a ≠ 29 → h' a = h a) ∨ (r = [.int (-1)] ∧ ¬ nmQ n b p lo hi ∧ h' 29 6 = nI (tS n b p) ∧ ∀ a, a ≠ 29 → h' a = h a)
def qPass (n : Nat) (b : Nat → Int32) (p j : Nat) (h : aH) : List Value → aH → aG → Prop := fun r h' _ => (r = [.int 1] ∧ wdP n b p j ∧ RCx h' n b (tE n b p) ∧ ∀ a, a ≠ 29 → h' a = h a) ∨ (r = [.int 0] ∧ ¬ wdP n b p j ∧ h' = h)
set_option maxRecDepth 100000 in
set_option maxHeartbeats 400000 in
theorem tX1_takeNumber {h : aH} {g : aG} {n : Nat} {b : Nat → Int32} (hb : BT n b) {p : Nat} (hp : p ≤ n) (hr : RCx h n b p) (lo hi : Nat) (hlo : lo < 1000) (hhi : hi < 1000) : MX mX1_takeNumber 4 [.ref 29, .int (nI lo), .int (nI hi)] h g (qNum n b p lo hi h) := by
  obtain ⟨tc, rk, rs, re, rv, rr⟩ := id hr
  have her := tE_r (b := b) hp
  have bad : ¬ nmQ n b p lo hi → SegP mX1_takeNumber 4 (24, [some (.ref 29), some (.int (nI lo)), some (.int (nI hi)), none], [], nW, h, g, ρ) (enP (qNum n b p lo hi h)) := by
    intro w
    refine SegP.run [] 400 ?_
    refine And.intro (fun z => by cases z) ?_
    exact SegP.ret (Or.inr ⟨rfl, w, by rw [up2_s]; exact rs, fun a ha => up2_row ha⟩)
  refine MX.of okX1_takeNumber (by decide +kernel) (Nat.le_of_ble_eq_true rfl) (by decide) rfl (by decide) ?_
  refine SegP.run [24, 34] 400 ?_
  refine And.intro (fun z => ?_) (fun z => ?_)
  · exact bad (fun w => z (by rw [rk, w.1]; rfl))
  have k2 : tK n b p = 2 := (nI_eq (by omega) (b := 2) (by decide)).mp (by rw [← rk]; exact Decidable.not_not.mp z)
  refine And.intro (fun z1 => ?_) (fun z1 => ?_)
  · refine bad (fun w => ?_)
    rw [rv] at z1
    exact nI_nlt w.2.1 (by omega) z1
  refine And.intro (fun z2 => ?_) (fun z2 => ?_)
  · have w : nmQ n b p lo hi := by
      rw [rv] at z1 z2
      refine ⟨k2, ?_, (nI_leI (by omega) (by omega)).mp z2⟩
      rcases Nat.lt_or_ge (tV n b p) lo with y | y
      · exact absurd (nI_lt y (by omega)) z1
      · exact y
    refine SegP.run [] 400 ?_
    refine SegP.cV (tX1_stepOn (g := g) hb tc (tE n b p) her.2.1 re) mlX1_42 iyX1_stepOn seX1_stepOn oyX1_stepOn rfl (by decide) rfl (by decide) (by decide) rfl rfl rfl rfl (Nat.le_of_ble_eq_true rfl) ?_
    rintro _ h' g' ⟨rfl, q1, q2⟩
    refine SegP.run [] 400 ?_
    exact SegP.ret (Or.inl ⟨by rw [rv], w, q1, q2⟩)
  · refine bad (fun w => z2 ?_)
    rw [rv]
    exact nI_le w.2.2 (by omega)
/-- what taking leaves as it was, the reference's -/
def frT (h h' : aH) : Prop := (∀ a, a ≠ 63 → h' a = h a) ∧ ∀ j, j < 7 ∨ 11 < j → h' 63 j = h 63 j
theorem frT.rf {h : aH} : frT h h := ⟨fun _ _ => rfl, fun _ _ => rfl⟩
theorem frT.tr {h h' h2 : aH} (a : frT h h') (c : frT h' h2) : frT h h2 := ⟨fun q hq => (c.1 q hq).trans (a.1 q hq), fun j hj => (c.2 j hj).trans (a.2 j hj)⟩
theorem frM.T {h h' : aH} (a : frM h h') : frT h h' := ⟨a.1, fun j hj => a.2 j (by omega) (by omega) (by omega) (by omega)⟩
def qTN (n : Nat) (b : Nat → Int32) (p lo hi : Nat) (h : aH) : List Value → aH → aG → Prop := fun r h' _ => (r = [.int 1] ∧ nmQ n b p lo hi ∧ RMx h' n b (tE n b p) ∧ h' 63 11 = nI (tV n b p) ∧ frT h h') ∨ (r = [.int 0] ∧ ¬ nmQ n b p lo hi ∧ h' = h)
def qTk (n : Nat) (b : Nat → Int32) (p j : Nat) (h : aH) : List Value → aH → aG → Prop := fun r h' _ => (r = [.int 1] ∧ wdP n b p j ∧ RMx h' n b (tE n b p) ∧ frM h h') ∨ (r = [.int 0] ∧ ¬ wdP n b p j ∧ h' = h)
set_option maxRecDepth 100000 in
set_option maxHeartbeats 400000 in
theorem tX6_isNumber {h : aH} {g : aG} {n : Nat} {b : Nat → Int32} {p w : Nat} (hr : RM h n b (tS n b p) (tE n b p) (tK n b p) w) (hw : tK n b p = 2 → min w 1000 = tV n b p) (lo hi : Nat) (hlo : lo < 1000) (hhi : hi < 1000) (x : Int32) (hx : (x = 1 ∧ nmQ n b p lo hi) ∨ (x = 0 ∧ ¬ nmQ n b p lo hi)) : MS mX6_isNumber 2 [.ref 63, .int (nI lo), .int (nI hi)] h g [.int x] h g := by
  obtain ⟨tc, rk, rs, re, rv, rr⟩ := hr
  have no : ¬ nmQ n b p lo hi → x = 0 := fun y => hx.elim (fun w => absurd w.2 y) (fun w => w.1)
  have yes : nmQ n b p lo hi → x = 1 := fun y => hx.elim (fun w => w.1) (fun w => absurd y w.2)
  refine MS.of okX6_isNumber (by decide +kernel) (Nat.le_of_ble_eq_true rfl) (by decide) rfl (by decide) ?_
  refine Seg.run [25] 400 ?_
  refine And.intro (fun z => ?_) (fun z => ?_)
  · refine Seg.run [] 400 ?_
    exact And.intro (Or.inl rfl) (Seg.ri (no (fun w => z (by rw [rk, w.1]; rfl))).symm)
  have k2 : tK n b p = 2 := (nI_eq (by omega) (b := 2) (by decide)).mp (by rw [← rk]; exact Decidable.not_not.mp z)
  have v := rv k2
  have m := hw k2
  refine Seg.tr (Seg.cS ((tX6_in (h 63 10) (nI lo) (nI hi)).ms h g) mlX6_47 syX6_in oyX6_in rfl (by decide) rfl rfl rfl (Nat.le_of_ble_eq_true rfl) (Nat.le_of_ble_eq_true rfl)) ?_
  refine Seg.run [] 400 ?_
  refine And.intro (fun z2 => ?_) (fun z2 => ?_)
  · refine And.intro (Or.inl rfl) (Seg.ri (no (fun y => bq0 z2 ⟨?_, ?_⟩)).symm)
    · rw [v.1]; exact nI_le (by have := y.2.1; omega) (by omega)
    · rw [v.1]; exact nI_le (by have := y.2.2; omega) (by omega)
  · have q := bq1 z2
    rw [v.1] at q
    have q1 := (nI_leI (by omega) (by omega)).mp q.1
    have q2 := (nI_leI (by omega) (by omega)).mp q.2
    exact And.intro (Or.inr rfl) (Seg.ri (yes ⟨k2, by omega, by omega⟩).symm)
set_option maxRecDepth 100000 in
set_option maxHeartbeats 400000 in
theorem tX6_takesNumber {h : aH} {g : aG} {n : Nat} {b : Nat → Int32} (hb : BT n b) {p : Nat} (hp : p ≤ n) (hr : RMx h n b p) (lo hi : Nat) (hlo : lo < 1000) (hhi : hi < 1000) : MX mX6_takesNumber 4 [.ref 63, .int (nI lo), .int (nI hi)] h g (qTN n b p lo hi h) := by
  obtain ⟨w, hr, hw⟩ := hr
  have her := tE_r (b := b) hp
  refine MX.of okX6_takesNumber (by decide +kernel) (Nat.le_of_ble_eq_true rfl) (by decide) rfl (by decide) ?_
  refine SegP.run [] 400 ?_
  by_cases c : nmQ n b p lo hi
  · refine SegP.tr (Seg.cV (tX6_isNumber (g := g) hr hw lo hi hlo hhi 1 (Or.inl ⟨rfl, c⟩)) mlX6_91 iyX6_isNumber seX6_isNumber oyX6_isNumber rfl (by decide) rfl (by decide) (by decide) rfl rfl rfl rfl (Nat.le_of_ble_eq_true rfl) (Nat.le_of_ble_eq_true rfl)) ?_
    refine SegP.run [] 400 ?_
    refine And.intro (fun _ => ?_) (fun z => absurd (show (1 : Int32) ≠ 0 by decide) z)
    refine And.intro (fun z => by cases z) ?_
    obtain ⟨tc, rk, rs, re, rv, rr⟩ := id hr
    have v := rv c.1
    have m := hw c.1
    have c2 := c.2.2
    have tm2 : TM (up2 h 63 11 (h 63 10)) n b := TM.fr (h := h) tc (fun a ha => up2_row ha) (up2_k (by decide))
    refine SegP.cV (tX6_next (g := g) hb tm2 (tE n b p) her.2.1 (by rw [up2_k (by decide)]; exact re)) mlX6_88 iyX6_next seX6_next oyX6_next rfl (by decide) rfl (by decide) (by decide) rfl rfl rfl rfl (Nat.le_of_ble_eq_true rfl) ?_
    rintro _ h' g' ⟨rfl, q1, q2⟩
    refine SegP.run [] 400 ?_
    have ff : frT h h' := ⟨fun a ha => (q2.1 a ha).trans (up2_row ha), fun j hj => (q2.2 j (by omega) (by omega) (by omega) (by omega)).trans (up2_k (by omega))⟩
    refine And.intro (Or.inr rfl) (SegP.ret (Or.inl ⟨rfl, c, q1, ?_, ff⟩))
    rw [q2.2 11 (by decide) (by decide) (by decide) (by decide), up2_s, v.1]
    congr 1
    omega
  · refine SegP.tr (Seg.cV (tX6_isNumber (g := g) hr hw lo hi hlo hhi 0 (Or.inr ⟨rfl, c⟩)) mlX6_91 iyX6_isNumber seX6_isNumber oyX6_isNumber rfl (by decide) rfl (by decide) (by decide) rfl rfl rfl rfl (Nat.le_of_ble_eq_true rfl) (Nat.le_of_ble_eq_true rfl)) ?_
    refine SegP.run [] 400 ?_
    refine And.intro (fun z => absurd rfl z) (fun _ => ?_)
    exact And.intro (Or.inl rfl) (SegP.ret (Or.inr ⟨rfl, c, rfl⟩))
set_option maxRecDepth 100000 in
set_option maxHeartbeats 400000 in
theorem tX1_passWord_9 {h : aH} {g : aG} {n : Nat} {b : Nat → Int32} (hb : BT n b) {p : Nat} (hp : p ≤ n) (hr : RCx h n b p) : MX mX1_passWord 6 [.ref 29, .ref (100 + 9)] h g (qPass n b p 9 h) := by
  have her := tE_r (b := b) hp
  refine MX.of okX1_passWord (by decide +kernel) (Nat.le_of_ble_eq_true rfl) (by decide) rfl (by decide) ?_
  refine SegP.run [] 400 ?_
  by_cases c : wdP n b p 9
  · refine SegP.tr (Seg.cV (tX1_isWord_9 (g := g) hr 1 (Or.inl ⟨rfl, c⟩)) mlX1_81 iyX1_isWord seX1_isWord oyX1_isWord rfl (by decide) rfl (by decide) (by decide) rfl rfl rfl rfl (Nat.le_of_ble_eq_true rfl) (Nat.le_of_ble_eq_true rfl)) ?_
    refine SegP.run [] 400 ?_
    refine And.intro (fun _ => ?_) (fun z => absurd (show (1 : Int32) ≠ 0 by decide) z)
    refine SegP.cV (tX1_stepOn (g := g) hb hr.1 (tE n b p) her.2.1 hr.2.2.2.1) mlX1_42 iyX1_stepOn seX1_stepOn oyX1_stepOn rfl (by decide) rfl (by decide) (by decide) rfl rfl rfl rfl (Nat.le_of_ble_eq_true rfl) ?_
    rintro _ h' g' ⟨rfl, q1, q2⟩
    refine SegP.run [] 400 ?_
    exact And.intro (Or.inr rfl) (SegP.ret (Or.inl ⟨rfl, c, q1, q2⟩))
  · refine SegP.tr (Seg.cV (tX1_isWord_9 (g := g) hr 0 (Or.inr ⟨rfl, c⟩)) mlX1_81 iyX1_isWord seX1_isWord oyX1_isWord rfl (by decide) rfl (by decide) (by decide) rfl rfl rfl rfl (Nat.le_of_ble_eq_true rfl) (Nat.le_of_ble_eq_true rfl)) ?_
    refine SegP.run [] 400 ?_
    refine And.intro (fun z => absurd rfl z) (fun _ => ?_)
    exact And.intro (Or.inl rfl) (SegP.ret (Or.inr ⟨rfl, c, rfl⟩))
set_option maxRecDepth 100000 in
set_option maxHeartbeats 400000 in
theorem tX1_passWord_10 {h : aH} {g : aG} {n : Nat} {b : Nat → Int32} (hb : BT n b) {p : Nat} (hp : p ≤ n) (hr : RCx h n b p) : MX mX1_passWord 6 [.ref 29, .ref (100 + 10)] h g (qPass n b p 10 h) := by
  have her := tE_r (b := b) hp
  refine MX.of okX1_passWord (by decide +kernel) (Nat.le_of_ble_eq_true rfl) (by decide) rfl (by decide) ?_
  refine SegP.run [] 400 ?_
  by_cases c : wdP n b p 10
  · refine SegP.tr (Seg.cV (tX1_isWord_10 (g := g) hr 1 (Or.inl ⟨rfl, c⟩)) mlX1_81 iyX1_isWord seX1_isWord oyX1_isWord rfl (by decide) rfl (by decide) (by decide) rfl rfl rfl rfl (Nat.le_of_ble_eq_true rfl) (Nat.le_of_ble_eq_true rfl)) ?_
    refine SegP.run [] 400 ?_
    refine And.intro (fun _ => ?_) (fun z => absurd (show (1 : Int32) ≠ 0 by decide) z)
    refine SegP.cV (tX1_stepOn (g := g) hb hr.1 (tE n b p) her.2.1 hr.2.2.2.1) mlX1_42 iyX1_stepOn seX1_stepOn oyX1_stepOn rfl (by decide) rfl (by decide) (by decide) rfl rfl rfl rfl (Nat.le_of_ble_eq_true rfl) ?_
    rintro _ h' g' ⟨rfl, q1, q2⟩
    refine SegP.run [] 400 ?_
    exact And.intro (Or.inr rfl) (SegP.ret (Or.inl ⟨rfl, c, q1, q2⟩))
  · refine SegP.tr (Seg.cV (tX1_isWord_10 (g := g) hr 0 (Or.inr ⟨rfl, c⟩)) mlX1_81 iyX1_isWord seX1_isWord oyX1_isWord rfl (by decide) rfl (by decide) (by decide) rfl rfl rfl rfl (Nat.le_of_ble_eq_true rfl) (Nat.le_of_ble_eq_true rfl)) ?_
    refine SegP.run [] 400 ?_
    refine And.intro (fun z => absurd rfl z) (fun _ => ?_)
    exact And.intro (Or.inl rfl) (SegP.ret (Or.inr ⟨rfl, c, rfl⟩))
set_option maxRecDepth 100000 in
set_option maxHeartbeats 400000 in
theorem tX1_passWord_11 {h : aH} {g : aG} {n : Nat} {b : Nat → Int32} (hb : BT n b) {p : Nat} (hp : p ≤ n) (hr : RCx h n b p) : MX mX1_passWord 6 [.ref 29, .ref (100 + 11)] h g (qPass n b p 11 h) := by
  have her := tE_r (b := b) hp
  refine MX.of okX1_passWord (by decide +kernel) (Nat.le_of_ble_eq_true rfl) (by decide) rfl (by decide) ?_
  refine SegP.run [] 400 ?_
  by_cases c : wdP n b p 11
  · refine SegP.tr (Seg.cV (tX1_isWord_11 (g := g) hr 1 (Or.inl ⟨rfl, c⟩)) mlX1_81 iyX1_isWord seX1_isWord oyX1_isWord rfl (by decide) rfl (by decide) (by decide) rfl rfl rfl rfl (Nat.le_of_ble_eq_true rfl) (Nat.le_of_ble_eq_true rfl)) ?_
    refine SegP.run [] 400 ?_
    refine And.intro (fun _ => ?_) (fun z => absurd (show (1 : Int32) ≠ 0 by decide) z)
    refine SegP.cV (tX1_stepOn (g := g) hb hr.1 (tE n b p) her.2.1 hr.2.2.2.1) mlX1_42 iyX1_stepOn seX1_stepOn oyX1_stepOn rfl (by decide) rfl (by decide) (by decide) rfl rfl rfl rfl (Nat.le_of_ble_eq_true rfl) ?_
    rintro _ h' g' ⟨rfl, q1, q2⟩
    refine SegP.run [] 400 ?_
    exact And.intro (Or.inr rfl) (SegP.ret (Or.inl ⟨rfl, c, q1, q2⟩))
  · refine SegP.tr (Seg.cV (tX1_isWord_11 (g := g) hr 0 (Or.inr ⟨rfl, c⟩)) mlX1_81 iyX1_isWord seX1_isWord oyX1_isWord rfl (by decide) rfl (by decide) (by decide) rfl rfl rfl rfl (Nat.le_of_ble_eq_true rfl) (Nat.le_of_ble_eq_true rfl)) ?_
    refine SegP.run [] 400 ?_
    refine And.intro (fun z => absurd rfl z) (fun _ => ?_)
    exact And.intro (Or.inl rfl) (SegP.ret (Or.inr ⟨rfl, c, rfl⟩))
set_option maxRecDepth 100000 in
set_option maxHeartbeats 400000 in
theorem tX1_passWord_12 {h : aH} {g : aG} {n : Nat} {b : Nat → Int32} (hb : BT n b) {p : Nat} (hp : p ≤ n) (hr : RCx h n b p) : MX mX1_passWord 6 [.ref 29, .ref (100 + 12)] h g (qPass n b p 12 h) := by
  have her := tE_r (b := b) hp
  refine MX.of okX1_passWord (by decide +kernel) (Nat.le_of_ble_eq_true rfl) (by decide) rfl (by decide) ?_
  refine SegP.run [] 400 ?_
  by_cases c : wdP n b p 12
  · refine SegP.tr (Seg.cV (tX1_isWord_12 (g := g) hr 1 (Or.inl ⟨rfl, c⟩)) mlX1_81 iyX1_isWord seX1_isWord oyX1_isWord rfl (by decide) rfl (by decide) (by decide) rfl rfl rfl rfl (Nat.le_of_ble_eq_true rfl) (Nat.le_of_ble_eq_true rfl)) ?_
    refine SegP.run [] 400 ?_
    refine And.intro (fun _ => ?_) (fun z => absurd (show (1 : Int32) ≠ 0 by decide) z)
    refine SegP.cV (tX1_stepOn (g := g) hb hr.1 (tE n b p) her.2.1 hr.2.2.2.1) mlX1_42 iyX1_stepOn seX1_stepOn oyX1_stepOn rfl (by decide) rfl (by decide) (by decide) rfl rfl rfl rfl (Nat.le_of_ble_eq_true rfl) ?_
    rintro _ h' g' ⟨rfl, q1, q2⟩
    refine SegP.run [] 400 ?_
    exact And.intro (Or.inr rfl) (SegP.ret (Or.inl ⟨rfl, c, q1, q2⟩))
  · refine SegP.tr (Seg.cV (tX1_isWord_12 (g := g) hr 0 (Or.inr ⟨rfl, c⟩)) mlX1_81 iyX1_isWord seX1_isWord oyX1_isWord rfl (by decide) rfl (by decide) (by decide) rfl rfl rfl rfl (Nat.le_of_ble_eq_true rfl) (Nat.le_of_ble_eq_true rfl)) ?_
    refine SegP.run [] 400 ?_
    refine And.intro (fun z => absurd rfl z) (fun _ => ?_)
    exact And.intro (Or.inl rfl) (SegP.ret (Or.inr ⟨rfl, c, rfl⟩))
set_option maxRecDepth 100000 in
set_option maxHeartbeats 400000 in
theorem tX1_passWord_13 {h : aH} {g : aG} {n : Nat} {b : Nat → Int32} (hb : BT n b) {p : Nat} (hp : p ≤ n) (hr : RCx h n b p) : MX mX1_passWord 6 [.ref 29, .ref (100 + 13)] h g (qPass n b p 13 h) := by
  have her := tE_r (b := b) hp
  refine MX.of okX1_passWord (by decide +kernel) (Nat.le_of_ble_eq_true rfl) (by decide) rfl (by decide) ?_
  refine SegP.run [] 400 ?_
  by_cases c : wdP n b p 13
  · refine SegP.tr (Seg.cV (tX1_isWord_13 (g := g) hr 1 (Or.inl ⟨rfl, c⟩)) mlX1_81 iyX1_isWord seX1_isWord oyX1_isWord rfl (by decide) rfl (by decide) (by decide) rfl rfl rfl rfl (Nat.le_of_ble_eq_true rfl) (Nat.le_of_ble_eq_true rfl)) ?_
    refine SegP.run [] 400 ?_
    refine And.intro (fun _ => ?_) (fun z => absurd (show (1 : Int32) ≠ 0 by decide) z)
    refine SegP.cV (tX1_stepOn (g := g) hb hr.1 (tE n b p) her.2.1 hr.2.2.2.1) mlX1_42 iyX1_stepOn seX1_stepOn oyX1_stepOn rfl (by decide) rfl (by decide) (by decide) rfl rfl rfl rfl (Nat.le_of_ble_eq_true rfl) ?_
    rintro _ h' g' ⟨rfl, q1, q2⟩
    refine SegP.run [] 400 ?_
    exact And.intro (Or.inr rfl) (SegP.ret (Or.inl ⟨rfl, c, q1, q2⟩))
  · refine SegP.tr (Seg.cV (tX1_isWord_13 (g := g) hr 0 (Or.inr ⟨rfl, c⟩)) mlX1_81 iyX1_isWord seX1_isWord oyX1_isWord rfl (by decide) rfl (by decide) (by decide) rfl rfl rfl rfl (Nat.le_of_ble_eq_true rfl) (Nat.le_of_ble_eq_true rfl)) ?_
    refine SegP.run [] 400 ?_
    refine And.intro (fun z => absurd rfl z) (fun _ => ?_)
    exact And.intro (Or.inl rfl) (SegP.ret (Or.inr ⟨rfl, c, rfl⟩))
set_option maxRecDepth 100000 in
set_option maxHeartbeats 400000 in
theorem tX6_takes_7 {h : aH} {g : aG} {n : Nat} {b : Nat → Int32} (hb : BT n b) {p : Nat} (hp : p ≤ n) (hr : RMx h n b p) : MX mX6_takes 6 [.ref 63, .ref (100 + 7)] h g (qTk n b p 7 h) := by
  obtain ⟨w, hr, hw⟩ := hr
  have her := tE_r (b := b) hp
  refine MX.of okX6_takes (by decide +kernel) (Nat.le_of_ble_eq_true rfl) (by decide) rfl (by decide) ?_
  refine SegP.run [] 400 ?_
  by_cases c : wdP n b p 7
  · refine SegP.tr (Seg.cV (tX6_isWord_7 (g := g) hr 1 (Or.inl ⟨rfl, c⟩)) mlX6_84 iyX6_isWord seX6_isWord oyX6_isWord rfl (by decide) rfl (by decide) (by decide) rfl rfl rfl rfl (Nat.le_of_ble_eq_true rfl) (Nat.le_of_ble_eq_true rfl)) ?_
    refine SegP.run [] 400 ?_
    refine And.intro (fun _ => ?_) (fun z => absurd (show (1 : Int32) ≠ 0 by decide) z)
    refine SegP.cV (tX6_next (g := g) hb hr.1 (tE n b p) her.2.1 hr.2.2.2.1) mlX6_88 iyX6_next seX6_next oyX6_next rfl (by decide) rfl (by decide) (by decide) rfl rfl rfl rfl (Nat.le_of_ble_eq_true rfl) ?_
    rintro _ h' g' ⟨rfl, q1, q2⟩
    refine SegP.run [] 400 ?_
    exact And.intro (Or.inr rfl) (SegP.ret (Or.inl ⟨rfl, c, q1, q2⟩))
  · refine SegP.tr (Seg.cV (tX6_isWord_7 (g := g) hr 0 (Or.inr ⟨rfl, c⟩)) mlX6_84 iyX6_isWord seX6_isWord oyX6_isWord rfl (by decide) rfl (by decide) (by decide) rfl rfl rfl rfl (Nat.le_of_ble_eq_true rfl) (Nat.le_of_ble_eq_true rfl)) ?_
    refine SegP.run [] 400 ?_
    refine And.intro (fun z => absurd rfl z) (fun _ => ?_)
    exact And.intro (Or.inl rfl) (SegP.ret (Or.inr ⟨rfl, c, rfl⟩))
set_option maxRecDepth 100000 in
set_option maxHeartbeats 400000 in
theorem tX6_takes_9 {h : aH} {g : aG} {n : Nat} {b : Nat → Int32} (hb : BT n b) {p : Nat} (hp : p ≤ n) (hr : RMx h n b p) : MX mX6_takes 6 [.ref 63, .ref (100 + 9)] h g (qTk n b p 9 h) := by
  obtain ⟨w, hr, hw⟩ := hr
  have her := tE_r (b := b) hp
  refine MX.of okX6_takes (by decide +kernel) (Nat.le_of_ble_eq_true rfl) (by decide) rfl (by decide) ?_
  refine SegP.run [] 400 ?_
  by_cases c : wdP n b p 9
  · refine SegP.tr (Seg.cV (tX6_isWord_9 (g := g) hr 1 (Or.inl ⟨rfl, c⟩)) mlX6_84 iyX6_isWord seX6_isWord oyX6_isWord rfl (by decide) rfl (by decide) (by decide) rfl rfl rfl rfl (Nat.le_of_ble_eq_true rfl) (Nat.le_of_ble_eq_true rfl)) ?_
    refine SegP.run [] 400 ?_
    refine And.intro (fun _ => ?_) (fun z => absurd (show (1 : Int32) ≠ 0 by decide) z)
    refine SegP.cV (tX6_next (g := g) hb hr.1 (tE n b p) her.2.1 hr.2.2.2.1) mlX6_88 iyX6_next seX6_next oyX6_next rfl (by decide) rfl (by decide) (by decide) rfl rfl rfl rfl (Nat.le_of_ble_eq_true rfl) ?_
    rintro _ h' g' ⟨rfl, q1, q2⟩
    refine SegP.run [] 400 ?_
    exact And.intro (Or.inr rfl) (SegP.ret (Or.inl ⟨rfl, c, q1, q2⟩))
  · refine SegP.tr (Seg.cV (tX6_isWord_9 (g := g) hr 0 (Or.inr ⟨rfl, c⟩)) mlX6_84 iyX6_isWord seX6_isWord oyX6_isWord rfl (by decide) rfl (by decide) (by decide) rfl rfl rfl rfl (Nat.le_of_ble_eq_true rfl) (Nat.le_of_ble_eq_true rfl)) ?_
    refine SegP.run [] 400 ?_
    refine And.intro (fun z => absurd rfl z) (fun _ => ?_)
    exact And.intro (Or.inl rfl) (SegP.ret (Or.inr ⟨rfl, c, rfl⟩))
set_option maxRecDepth 100000 in
set_option maxHeartbeats 400000 in
theorem tX6_takes_10 {h : aH} {g : aG} {n : Nat} {b : Nat → Int32} (hb : BT n b) {p : Nat} (hp : p ≤ n) (hr : RMx h n b p) : MX mX6_takes 6 [.ref 63, .ref (100 + 10)] h g (qTk n b p 10 h) := by
  obtain ⟨w, hr, hw⟩ := hr
  have her := tE_r (b := b) hp
  refine MX.of okX6_takes (by decide +kernel) (Nat.le_of_ble_eq_true rfl) (by decide) rfl (by decide) ?_
  refine SegP.run [] 400 ?_
  by_cases c : wdP n b p 10
  · refine SegP.tr (Seg.cV (tX6_isWord_10 (g := g) hr 1 (Or.inl ⟨rfl, c⟩)) mlX6_84 iyX6_isWord seX6_isWord oyX6_isWord rfl (by decide) rfl (by decide) (by decide) rfl rfl rfl rfl (Nat.le_of_ble_eq_true rfl) (Nat.le_of_ble_eq_true rfl)) ?_
    refine SegP.run [] 400 ?_
    refine And.intro (fun _ => ?_) (fun z => absurd (show (1 : Int32) ≠ 0 by decide) z)
    refine SegP.cV (tX6_next (g := g) hb hr.1 (tE n b p) her.2.1 hr.2.2.2.1) mlX6_88 iyX6_next seX6_next oyX6_next rfl (by decide) rfl (by decide) (by decide) rfl rfl rfl rfl (Nat.le_of_ble_eq_true rfl) ?_
    rintro _ h' g' ⟨rfl, q1, q2⟩
    refine SegP.run [] 400 ?_
    exact And.intro (Or.inr rfl) (SegP.ret (Or.inl ⟨rfl, c, q1, q2⟩))
  · refine SegP.tr (Seg.cV (tX6_isWord_10 (g := g) hr 0 (Or.inr ⟨rfl, c⟩)) mlX6_84 iyX6_isWord seX6_isWord oyX6_isWord rfl (by decide) rfl (by decide) (by decide) rfl rfl rfl rfl (Nat.le_of_ble_eq_true rfl) (Nat.le_of_ble_eq_true rfl)) ?_
    refine SegP.run [] 400 ?_
    refine And.intro (fun z => absurd rfl z) (fun _ => ?_)
    exact And.intro (Or.inl rfl) (SegP.ret (Or.inr ⟨rfl, c, rfl⟩))
set_option maxRecDepth 100000 in
set_option maxHeartbeats 400000 in
theorem tX6_takes_11 {h : aH} {g : aG} {n : Nat} {b : Nat → Int32} (hb : BT n b) {p : Nat} (hp : p ≤ n) (hr : RMx h n b p) : MX mX6_takes 6 [.ref 63, .ref (100 + 11)] h g (qTk n b p 11 h) := by
  obtain ⟨w, hr, hw⟩ := hr
  have her := tE_r (b := b) hp
  refine MX.of okX6_takes (by decide +kernel) (Nat.le_of_ble_eq_true rfl) (by decide) rfl (by decide) ?_
  refine SegP.run [] 400 ?_
  by_cases c : wdP n b p 11
  · refine SegP.tr (Seg.cV (tX6_isWord_11 (g := g) hr 1 (Or.inl ⟨rfl, c⟩)) mlX6_84 iyX6_isWord seX6_isWord oyX6_isWord rfl (by decide) rfl (by decide) (by decide) rfl rfl rfl rfl (Nat.le_of_ble_eq_true rfl) (Nat.le_of_ble_eq_true rfl)) ?_
    refine SegP.run [] 400 ?_
    refine And.intro (fun _ => ?_) (fun z => absurd (show (1 : Int32) ≠ 0 by decide) z)
    refine SegP.cV (tX6_next (g := g) hb hr.1 (tE n b p) her.2.1 hr.2.2.2.1) mlX6_88 iyX6_next seX6_next oyX6_next rfl (by decide) rfl (by decide) (by decide) rfl rfl rfl rfl (Nat.le_of_ble_eq_true rfl) ?_
    rintro _ h' g' ⟨rfl, q1, q2⟩
    refine SegP.run [] 400 ?_
    exact And.intro (Or.inr rfl) (SegP.ret (Or.inl ⟨rfl, c, q1, q2⟩))
  · refine SegP.tr (Seg.cV (tX6_isWord_11 (g := g) hr 0 (Or.inr ⟨rfl, c⟩)) mlX6_84 iyX6_isWord seX6_isWord oyX6_isWord rfl (by decide) rfl (by decide) (by decide) rfl rfl rfl rfl (Nat.le_of_ble_eq_true rfl) (Nat.le_of_ble_eq_true rfl)) ?_
    refine SegP.run [] 400 ?_
    refine And.intro (fun z => absurd rfl z) (fun _ => ?_)
    exact And.intro (Or.inl rfl) (SegP.ret (Or.inr ⟨rfl, c, rfl⟩))
set_option maxRecDepth 100000 in
set_option maxHeartbeats 400000 in
theorem tX6_takes_12 {h : aH} {g : aG} {n : Nat} {b : Nat → Int32} (hb : BT n b) {p : Nat} (hp : p ≤ n) (hr : RMx h n b p) : MX mX6_takes 6 [.ref 63, .ref (100 + 12)] h g (qTk n b p 12 h) := by
  obtain ⟨w, hr, hw⟩ := hr
  have her := tE_r (b := b) hp
  refine MX.of okX6_takes (by decide +kernel) (Nat.le_of_ble_eq_true rfl) (by decide) rfl (by decide) ?_
  refine SegP.run [] 400 ?_
  by_cases c : wdP n b p 12
  · refine SegP.tr (Seg.cV (tX6_isWord_12 (g := g) hr 1 (Or.inl ⟨rfl, c⟩)) mlX6_84 iyX6_isWord seX6_isWord oyX6_isWord rfl (by decide) rfl (by decide) (by decide) rfl rfl rfl rfl (Nat.le_of_ble_eq_true rfl) (Nat.le_of_ble_eq_true rfl)) ?_
    refine SegP.run [] 400 ?_
    refine And.intro (fun _ => ?_) (fun z => absurd (show (1 : Int32) ≠ 0 by decide) z)
    refine SegP.cV (tX6_next (g := g) hb hr.1 (tE n b p) her.2.1 hr.2.2.2.1) mlX6_88 iyX6_next seX6_next oyX6_next rfl (by decide) rfl (by decide) (by decide) rfl rfl rfl rfl (Nat.le_of_ble_eq_true rfl) ?_
    rintro _ h' g' ⟨rfl, q1, q2⟩
    refine SegP.run [] 400 ?_
    exact And.intro (Or.inr rfl) (SegP.ret (Or.inl ⟨rfl, c, q1, q2⟩))
  · refine SegP.tr (Seg.cV (tX6_isWord_12 (g := g) hr 0 (Or.inr ⟨rfl, c⟩)) mlX6_84 iyX6_isWord seX6_isWord oyX6_isWord rfl (by decide) rfl (by decide) (by decide) rfl rfl rfl rfl (Nat.le_of_ble_eq_true rfl) (Nat.le_of_ble_eq_true rfl)) ?_
    refine SegP.run [] 400 ?_
    refine And.intro (fun z => absurd rfl z) (fun _ => ?_)
    exact And.intro (Or.inl rfl) (SegP.ret (Or.inr ⟨rfl, c, rfl⟩))
set_option maxRecDepth 100000 in
set_option maxHeartbeats 400000 in
theorem tX6_takes_13 {h : aH} {g : aG} {n : Nat} {b : Nat → Int32} (hb : BT n b) {p : Nat} (hp : p ≤ n) (hr : RMx h n b p) : MX mX6_takes 6 [.ref 63, .ref (100 + 13)] h g (qTk n b p 13 h) := by
  obtain ⟨w, hr, hw⟩ := hr
  have her := tE_r (b := b) hp
  refine MX.of okX6_takes (by decide +kernel) (Nat.le_of_ble_eq_true rfl) (by decide) rfl (by decide) ?_
  refine SegP.run [] 400 ?_
  by_cases c : wdP n b p 13
  · refine SegP.tr (Seg.cV (tX6_isWord_13 (g := g) hr 1 (Or.inl ⟨rfl, c⟩)) mlX6_84 iyX6_isWord seX6_isWord oyX6_isWord rfl (by decide) rfl (by decide) (by decide) rfl rfl rfl rfl (Nat.le_of_ble_eq_true rfl) (Nat.le_of_ble_eq_true rfl)) ?_
    refine SegP.run [] 400 ?_
    refine And.intro (fun _ => ?_) (fun z => absurd (show (1 : Int32) ≠ 0 by decide) z)
    refine SegP.cV (tX6_next (g := g) hb hr.1 (tE n b p) her.2.1 hr.2.2.2.1) mlX6_88 iyX6_next seX6_next oyX6_next rfl (by decide) rfl (by decide) (by decide) rfl rfl rfl rfl (Nat.le_of_ble_eq_true rfl) ?_
    rintro _ h' g' ⟨rfl, q1, q2⟩
    refine SegP.run [] 400 ?_
    exact And.intro (Or.inr rfl) (SegP.ret (Or.inl ⟨rfl, c, q1, q2⟩))
  · refine SegP.tr (Seg.cV (tX6_isWord_13 (g := g) hr 0 (Or.inr ⟨rfl, c⟩)) mlX6_84 iyX6_isWord seX6_isWord oyX6_isWord rfl (by decide) rfl (by decide) (by decide) rfl rfl rfl rfl (Nat.le_of_ble_eq_true rfl) (Nat.le_of_ble_eq_true rfl)) ?_
    refine SegP.run [] 400 ?_
    refine And.intro (fun z => absurd rfl z) (fun _ => ?_)
    exact And.intro (Or.inl rfl) (SegP.ret (Or.inr ⟨rfl, c, rfl⟩))
