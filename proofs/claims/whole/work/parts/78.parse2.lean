/-! ===== parsing: what an item says; the class reads coins and needs ===== -/
abbrev rP : Type := Sum Nat (Nat × aH)
def pOpt (n : Nat) (b : Nat → Int32) (p j lo hi d : Nat) : Sum Nat (Nat × Nat) := if wdP n b p j then (if nmQ n b (tE n b p) lo hi then .inr (tE n b (tE n b p), tV n b (tE n b p)) else .inl (tE n b p)) else .inr (p, d)
def pCoin (n : Nat) (b : Nat → Int32) (p : Nat) (T : aH) : rP :=
  if nmQ n b p 0 7 then (if nmQ n b (tE n b p) 0 6 then (if wdP n b (tE n b (tE n b p)) 9 then (if nmQ n b (tE n b (tE n b (tE n b p))) (max 1 (tV n b (tE n b p))) 6 then
    .inr (tE n b (tE n b (tE n b (tE n b p))), up2 (up2 T 1 (tV n b p) (nI (tV n b (tE n b p)))) 2 (tV n b p) (nI (tV n b (tE n b (tE n b (tE n b p))))))
    else .inl (tE n b (tE n b (tE n b p)))) else .inl (tE n b (tE n b p))) else .inl (tE n b p)) else .inl p
def pNeed (n : Nat) (b : Nat → Int32) (p : Nat) (T : aH) : rP :=
  if nmQ n b p 0 5 then (if nmQ n b (tE n b p) 1 40 then (match pOpt n b (tE n b (tE n b p)) 13 1 99 1 with
    | .inl q => .inl q
    | .inr (q, w) => .inr (q, adN T (nN T) (nI (tV n b p)) (nI (tV n b (tE n b p))) (nI w)))
    else .inl (tE n b p)) else .inl p
def pPro2 (n : Nat) (b : Nat → Int32) (q : Nat) (T : aH) (k c s : Nat) : rP :=
  if wdP n b q 11 then (if nmQ n b (tE n b q) 0 5 then (if nmQ n b (tE n b (tE n b q)) 1 9 then (match pOpt n b (tE n b (tE n b (tE n b q))) 12 0 49 0 with
    | .inl q => .inl q
    | .inr (q2, co) => .inr (q2, adP T (nP T) (nI k) (nI c) (nI s) (nI (tV n b (tE n b q))) (nI (tV n b (tE n b (tE n b q)))) (nI co)))
    else .inl (tE n b (tE n b q))) else .inl (tE n b q)) else .inl q
def pPro (n : Nat) (b : Nat → Int32) (p : Nat) (T : aH) (k : Nat) : rP :=
  if nmQ n b p 0 7 then (match pOpt n b (tE n b p) 10 0 7 (tV n b p) with
    | .inl q => .inl q
    | .inr (q, s) => pPro2 n b q T k (tV n b p) s) else .inl p
/-- what an item read leaves as it was, the class's -/
def frC (h h' : aH) : Prop := ∀ a, a ≠ 29 → (a < 30 ∨ 42 < a) → h' a = h a
def qC (n : Nat) (b : Nat → Int32) (res : rP) (h : aH) : List Value → aH → aG → Prop := fun r h' _ => (∃ q T', res = .inr (q, T') ∧ r = [.int 1] ∧ RCx h' n b q ∧ tw h' 30 = T' ∧ frC h h') ∨ (∃ q, res = .inl q ∧ r = [.int 0] ∧ h' 29 6 = nI (tS n b q) ∧ frC h h')
theorem tw30 {h h' : aH} (f : ∀ a, a ≠ 29 → h' a = h a) : tw h' 30 = tw h 30 := tw_out fun j _ => f _ (by omega)
theorem mx1 {a : Nat} (ha : a < 1000) : mxI 1 (nI a) = nI (max 1 a) := by
  unfold mxI
  by_cases z : 1 < a
  · rw [if_pos (show (1 : Int32) < nI a from nI_lt (a := 1) z (by omega)), show max 1 a = a by omega]
  · rcases (show a = 0 ∨ a = 1 by omega) with rfl | rfl <;> decide
set_option maxRecDepth 100000 in
set_option maxHeartbeats 400000 in
theorem tX1_faultHere (h : aH) (g : aG) : MS mX1_faultHere 1 [.ref 29] h g [.int 0] (up2 h 29 6 (h 29 3)) g := by
  refine MS.of okX1_faultHere (by decide +kernel) (Nat.le_of_ble_eq_true rfl) (by decide) rfl (by decide) ?_
  refine Seg.run [] 400 ?_
  refine And.intro (fun z => by cases z) ?_
  exact And.intro (Or.inl rfl) Seg.rf
set_option maxRecDepth 100000 in
set_option maxHeartbeats 400000 in
theorem tX1_readCoin {h : aH} {g : aG} {n : Nat} {b : Nat → Int32} (hb : BT n b) {p : Nat} (hp : p ≤ n) (hr : RCx h n b p) : MX mX1_readCoin 7 [.ref 29] h g (qC n b (pCoin n b (tE n b p) (tw h 30)) h) := by
  have her := (tE_r (b := b) hp).2.1
  refine MX.of okX1_readCoin (by decide +kernel) (Nat.le_of_ble_eq_true rfl) (by decide) rfl (by decide) ?_
  refine SegP.run [] 400 ?_
  refine SegP.cV (tX1_stepOn (g := g) hb hr.1 (tE n b p) her hr.2.2.2.1) mlX1_42 iyX1_stepOn seX1_stepOn oyX1_stepOn rfl (by decide) rfl (by decide) (by decide) rfl rfl rfl rfl (Nat.le_of_ble_eq_true rfl) ?_
  rintro _ h1 g1 ⟨rfl, r1, f1⟩
  generalize tE n b p = p1 at *
  have t1 := tw30 f1
  have n2 := (tE_r (b := b) her).2.1
  have n3 := (tE_r (b := b) n2).2.1
  have n4 := (tE_r (b := b) n3).2.1
  refine SegP.run [] 400 ?_
  refine SegP.cV (tX1_takeNumber (g := g1) hb her r1 0 7 (by decide) (by decide)) mlX1_119 iyX1_takeNumber seX1_takeNumber oyX1_takeNumber rfl (by decide) rfl (by decide) (by decide) rfl rfl rfl rfl (Nat.le_of_ble_eq_true rfl) ?_
  rintro _ h2 g2 (⟨rfl, w1, r2, f2⟩ | ⟨rfl, w1, e2, f2⟩)
  case inr =>
    refine SegP.run [] 400 ?_
    refine And.intro (fun z => absurd z (by decide : ¬ (0 : Int32) ≤ -1)) (fun _ => ?_)
    exact And.intro (Or.inl rfl) (SegP.ret (Or.inr ⟨p1, by rw [pCoin, if_neg w1], rfl, e2, fun a ha _ => (f2 a ha).trans (f1 a ha)⟩))
  have v1 := w1.2.2
  refine SegP.run [18] 400 ?_
  refine And.intro (fun _ => ?_) (fun z => absurd (show (0 : Int32) ≤ nI (tV n b p1) from nI_pos' (by omega)) z)
  refine SegP.run [] 400 ?_
  refine SegP.cV (tX1_takeNumber (g := g2) hb n2 r2 0 6 (by decide) (by decide)) mlX1_119 iyX1_takeNumber seX1_takeNumber oyX1_takeNumber rfl (by decide) rfl (by decide) (by decide) rfl rfl rfl rfl (Nat.le_of_ble_eq_true rfl) ?_
  rintro _ h3 g3 (⟨rfl, w2, r3, f3⟩ | ⟨rfl, w2, e3, f3⟩)
  case inr =>
    refine SegP.run [] 400 ?_
    refine And.intro (fun z => absurd z (by decide : ¬ (0 : Int32) ≤ -1)) (fun _ => ?_)
    exact And.intro (Or.inl rfl) (SegP.ret (Or.inr ⟨_, by rw [pCoin, if_pos w1, if_neg w2], rfl, e3, fun a ha _ => (f3 a ha).trans ((f2 a ha).trans (f1 a ha))⟩))
  have v2 := w2.2.2
  refine SegP.run [32] 400 ?_
  refine And.intro (fun _ => ?_) (fun z => absurd (show (0 : Int32) ≤ nI (tV n b (tE n b p1)) from nI_pos' (by omega)) z)
  refine SegP.run [] 400 ?_
  refine SegP.cV (tX1_passWord_9 (g := g3) hb n3 r3) mlX1_124 iyX1_passWord seX1_passWord oyX1_passWord rfl (by decide) rfl (by decide) (by decide) rfl rfl rfl rfl (Nat.le_of_ble_eq_true rfl) ?_
  rintro _ h4 g4 (⟨rfl, w3, r4, f4⟩ | ⟨rfl, w3, rfl⟩)
  case inr =>
    refine SegP.run [] 400 ?_
    refine And.intro (fun z => absurd rfl z) (fun _ => ?_)
    refine SegP.tr (Seg.cV (tX1_faultHere h4 g4) mlX1_112 iyX1_faultHere seX1_faultHere oyX1_faultHere rfl (by decide) rfl (by decide) (by decide) rfl rfl rfl rfl (Nat.le_of_ble_eq_true rfl) (Nat.le_of_ble_eq_true rfl)) ?_
    refine SegP.run [] 400 ?_
    exact And.intro (Or.inl rfl) (SegP.ret (Or.inr ⟨_, by rw [pCoin, if_pos w1, if_pos w2, if_neg w3], rfl, by rw [up2_s]; exact r3.2.2.1, fun a ha _ => (up2_row ha).trans ((f3 a ha).trans ((f2 a ha).trans (f1 a ha)))⟩))
  refine SegP.run [46] 400 ?_
  refine And.intro (fun _ => ?_) (fun z => absurd (show (1 : Int32) ≠ 0 by decide) z)
  refine SegP.run [] 400 ?_
  refine SegP.tr (Seg.cS (show MS mJ9_max_7cf53 1 [.int 1, .int (nI (tV n b (tE n b p1)))] h4 g4 [.int (nI (max 1 (tV n b (tE n b p1))))] h4 g4 by rw [← mx1 (by omega)]; exact (tJ9_max _ _).ms h4 g4) mlX1_127 syJ9_max_7cf53 oyJ9_max_7cf53 rfl (by decide) rfl rfl rfl (Nat.le_of_ble_eq_true rfl) (Nat.le_of_ble_eq_true rfl)) ?_
  refine SegP.run [] 400 ?_
  refine SegP.cV (tX1_takeNumber (g := g4) hb n4 r4 (max 1 (tV n b (tE n b p1))) 6 (by omega) (by decide)) mlX1_119 iyX1_takeNumber seX1_takeNumber oyX1_takeNumber rfl (by decide) rfl (by decide) (by decide) rfl rfl rfl rfl (Nat.le_of_ble_eq_true rfl) ?_
  rintro _ h5 g5 (⟨rfl, w4, r5, f5⟩ | ⟨rfl, w4, e5, f5⟩)
  case inr =>
    refine SegP.run [] 400 ?_
    refine And.intro (fun z => absurd z (by decide : ¬ (0 : Int32) ≤ -1)) (fun _ => ?_)
    exact And.intro (Or.inl rfl) (SegP.ret (Or.inr ⟨_, by rw [pCoin, if_pos w1, if_pos w2, if_pos w3, if_neg w4], rfl, e5, fun a ha _ => (f5 a ha).trans ((f4 a ha).trans ((f3 a ha).trans ((f2 a ha).trans (f1 a ha))))⟩))
  have v4 := w4.2.2
  have hin := in10 (p := tV n b p1) (n := 8) (by omega) (by decide)
  have cc := cl10 (p := tV n b p1) (by omega)
  refine SegP.run [64] 400 ?_
  refine And.intro (fun _ => ?_) (fun z => absurd (show (0 : Int32) ≤ nI (tV n b (tE n b (tE n b (tE n b p1)))) from nI_pos' (by omega)) z)
  refine SegP.run [] 400 ?_
  refine And.intro hin ?_
  refine And.intro hin ?_
  rw [cc]
  refine And.intro (Or.inr rfl) (SegP.ret (Or.inl ⟨_, _, by rw [pCoin, if_pos w1, if_pos w2, if_pos w3, if_pos w4], rfl, ?_, ?_, fun a ha hb => ?_⟩))
  · exact r5
  · rw [tw_row (b := 30) (j := 2) (by decide) (show tV n b p1 < 8 by omega), tw_row (b := 30) (j := 1) (by decide) (show tV n b p1 < 8 by omega), tw30 f5, tw30 f4, tw30 f3, tw30 f2, t1]
  · rw [up2_row (by omega), up2_row (by omega)]
    exact (f5 a ha).trans ((f4 a ha).trans ((f3 a ha).trans ((f2 a ha).trans (f1 a ha))))
