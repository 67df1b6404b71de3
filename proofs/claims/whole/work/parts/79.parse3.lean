/-! ===== parsing: the class reads needs and promises ===== -/
set_option maxRecDepth 100000 in
set_option maxHeartbeats 400000 in
theorem tX1_readNeed {h : aH} {g : aG} {n : Nat} {b : Nat → Int32} (hb : BT n b) {p : Nat} (hp : p ≤ n) (hr : RCx h n b p) (ht : TOk (tw h 30)) : MX mX1_readNeed 7 [.ref 29] h g (qC n b (if nN (tw h 30) < 6 then pNeed n b (tE n b p) (tw h 30) else .inl p) h) := by
  have her := (tE_r (b := b) hp).2.1
  have eN : h 30 12 = nI (nN (tw h 30)) := ht.nn.2
  have lN := ht.nn.1
  refine MX.of okX1_readNeed (by decide +kernel) (Nat.le_of_ble_eq_true rfl) (by decide) rfl (by decide) ?_
  refine SegP.run [17] 400 ?_
  refine And.intro (fun z => ?_) (fun z => ?_)
  case refine_2 =>
    have hn : ¬ nN (tw h 30) < 6 := fun y => z (show h 30 12 < nI 6 by rw [eN]; exact nI_lt y (by decide))
    refine SegP.tr (Seg.cV (tX1_faultHere h g) mlX1_112 iyX1_faultHere seX1_faultHere oyX1_faultHere rfl (by decide) rfl (by decide) (by decide) rfl rfl rfl rfl (Nat.le_of_ble_eq_true rfl) (Nat.le_of_ble_eq_true rfl)) ?_
    refine SegP.run [] 400 ?_
    exact And.intro (Or.inl rfl) (SegP.ret (Or.inr ⟨p, by rw [if_neg hn], rfl, by rw [up2_s]; exact hr.2.2.1, fun a ha _ => up2_row ha⟩))
  have hn : nN (tw h 30) < 6 := (nI_ltI (by omega) (b := 6) (by decide)).mp (by rw [← eN]; exact z)
  rw [if_pos hn]
  refine SegP.run [] 400 ?_
  refine SegP.cV (tX1_stepOn (g := g) hb hr.1 (tE n b p) her hr.2.2.2.1) mlX1_42 iyX1_stepOn seX1_stepOn oyX1_stepOn rfl (by decide) rfl (by decide) (by decide) rfl rfl rfl rfl (Nat.le_of_ble_eq_true rfl) ?_
  rintro _ h1 g1 ⟨rfl, r1, f1⟩
  generalize tE n b p = p1 at *
  have t1 := tw30 f1
  have n2 := (tE_r (b := b) her).2.1
  have n3 := (tE_r (b := b) n2).2.1
  have n4 := (tE_r (b := b) n3).2.1
  refine SegP.run [] 400 ?_
  refine And.intro (in10 (p := 0) (n := 3) (by decide) (by decide)) ?_
  refine And.intro (in10 (p := 0) (n := 3) (by decide) (by decide)) ?_
  refine SegP.cV (tX1_takeNumber (g := g1) hb her r1 0 5 (by decide) (by decide)) mlX1_119 iyX1_takeNumber seX1_takeNumber oyX1_takeNumber rfl (by decide) rfl (by decide) (by decide) rfl rfl rfl rfl (Nat.le_of_ble_eq_true rfl) ?_
  rintro _ h2 g2 (⟨rfl, w1, r2, f2⟩ | ⟨rfl, w1, e2, f2⟩)
  case inr =>
    refine SegP.run [] 400 ?_
    refine And.intro (fun z => absurd z (by decide : ¬ (0 : Int32) ≤ -1)) (fun _ => ?_)
    exact And.intro (Or.inl rfl) (SegP.ret (Or.inr ⟨p1, by rw [pNeed, if_neg w1], rfl, e2, fun a ha _ => (f2 a ha).trans (f1 a ha)⟩))
  have v1 := w1.2.2
  refine SegP.run [42] 400 ?_
  refine And.intro (fun _ => ?_) (fun z => absurd (show (0 : Int32) ≤ nI (tV n b p1) from nI_pos' (by omega)) z)
  refine SegP.run [] 400 ?_
  refine And.intro (in10 (p := 1) (n := 3) (by decide) (by decide)) ?_
  refine And.intro (in10 (p := 1) (n := 3) (by decide) (by decide)) ?_
  refine SegP.cV (tX1_takeNumber (g := g2) hb n2 r2 1 40 (by decide) (by decide)) mlX1_119 iyX1_takeNumber seX1_takeNumber oyX1_takeNumber rfl (by decide) rfl (by decide) (by decide) rfl rfl rfl rfl (Nat.le_of_ble_eq_true rfl) ?_
  rintro _ h3 g3 (⟨rfl, w2, r3, f3⟩ | ⟨rfl, w2, e3, f3⟩)
  case inr =>
    refine SegP.run [] 400 ?_
    refine And.intro (fun z => absurd z (by decide : ¬ (0 : Int32) ≤ -1)) (fun _ => ?_)
    exact And.intro (Or.inl rfl) (SegP.ret (Or.inr ⟨_, by rw [pNeed, if_pos w1, if_neg w2], rfl, e3, fun a ha _ => (f3 a ha).trans ((f2 a ha).trans (f1 a ha))⟩))
  have v2 := w2.2.2
  have f3' : ∀ a, a ≠ 29 → h3 a = h a := fun a ha => (f3 a ha).trans ((f2 a ha).trans (f1 a ha))
  refine SegP.run [63] 400 ?_
  refine And.intro (fun _ => ?_) (fun z => absurd (show (0 : Int32) ≤ nI (tV n b (tE n b p1)) from nI_pos' (by omega)) z)
  have rest : ∀ (q w : Nat) (h5 : aH) (g5 : aG), pOpt n b (tE n b (tE n b p1)) 13 1 99 1 = .inr (q, w) → w ≤ 99 → RCx h5 n b q → (∀ a, a ≠ 29 → h5 a = h a) → SegP mX1_readNeed 7 (90, [some (.ref 29), some (.int (nI (tV n b p1))), some (.int (nI (tV n b (tE n b p1)))), none], [.int (nI w)], nW, h5, g5, ρ) (enP (qC n b (pNeed n b p1 (tw h 30)) h)) := by
    intro q w h5 g5 e w9 r5 f5
    have t5 := tw30 f5
    refine SegP.run [97] 400 ?_
    refine And.intro (fun _ => ?_) (fun z => absurd (show (0 : Int32) ≤ nI w from nI_pos' (by omega)) z)
    refine SegP.run [] 400 ?_
    refine SegP.cV (tX4_addNeed_30 h5 g5 (by rw [t5]; exact ht) (by rw [t5]; exact hn) (nI (tV n b p1)) (nI (tV n b (tE n b p1))) (nI w)) mlX1_166 iyX4_addNeed seX4_addNeed oyX4_addNeed rfl (by decide) rfl (by decide) (by decide) rfl rfl rfl rfl (Nat.le_of_ble_eq_true rfl) ?_
    rintro _ h6 g6 ⟨rfl, -, e6, f6⟩
    refine SegP.run [] 400 ?_
    refine And.intro (Or.inr rfl) (SegP.ret (Or.inl ⟨q, _, by rw [pNeed, if_pos w1, if_pos w2, e], rfl, ?_, by rw [e6, t5], fun a ha hb => (f6 a hb).trans (f5 a ha)⟩))
    unfold RCx RC
    rw [f6 27 (by decide), f6 28 (by decide), f6 29 (by decide)]
    exact r5
  refine SegP.run [90] 400 ?_
  refine SegP.cV (tX1_passWord_13 (g := g3) hb n3 r3) mlX1_124 iyX1_passWord seX1_passWord oyX1_passWord rfl (by decide) rfl (by decide) (by decide) rfl rfl rfl rfl (Nat.le_of_ble_eq_true rfl) ?_
  rintro _ h4 g4 (⟨rfl, w3, r4, f4⟩ | ⟨rfl, w3, rfl⟩)
  case inr =>
    refine SegP.run [90] 400 ?_
    refine And.intro (fun _ => ?_) (fun z => absurd rfl z)
    exact rest _ 1 h4 g4 (by rw [pOpt, if_neg w3]) (by decide) r3 f3'
  refine SegP.run [90] 400 ?_
  refine And.intro (fun z => absurd z (by decide : ¬ (1 : Int32) = 0)) (fun _ => ?_)
  refine And.intro (in10 (p := 2) (n := 3) (by decide) (by decide)) ?_
  refine And.intro (in10 (p := 2) (n := 3) (by decide) (by decide)) ?_
  refine SegP.cV (tX1_takeNumber (g := g4) hb n4 r4 1 99 (by decide) (by decide)) mlX1_119 iyX1_takeNumber seX1_takeNumber oyX1_takeNumber rfl (by decide) rfl (by decide) (by decide) rfl rfl rfl rfl (Nat.le_of_ble_eq_true rfl) ?_
  rintro _ h5 g5 (⟨rfl, w4, r5, f5⟩ | ⟨rfl, w4, e5, f5⟩)
  case inl =>
    refine SegP.run [90] 400 ?_
    exact rest _ _ h5 g5 (by rw [pOpt, if_pos w3, if_pos w4]) w4.2.2 r5 (fun a ha => (f5 a ha).trans ((f4 a ha).trans (f3' a ha)))
  refine SegP.run [] 400 ?_
  refine And.intro (fun z => absurd z (by decide : ¬ (0 : Int32) ≤ -1)) (fun _ => ?_)
  exact And.intro (Or.inl rfl) (SegP.ret (Or.inr ⟨_, by rw [pNeed, if_pos w1, if_pos w2, pOpt, if_pos w3, if_neg w4], rfl, e5, fun a ha _ => (f5 a ha).trans ((f4 a ha).trans (f3' a ha))⟩))
