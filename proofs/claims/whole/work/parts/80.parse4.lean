/-! ===== parsing: the class reads promises ===== -/
set_option maxRecDepth 100000 in
set_option maxHeartbeats 400000 in
theorem tX1_readPromise {h : aH} {g : aG} {n : Nat} {b : Nat → Int32} (hb : BT n b) {p : Nat} (hp : p ≤ n) (hr : RCx h n b p) (ht : TOk (tw h 30)) (k : Nat) (hk : k < 7) : MX mX1_readPromise 7 [.ref 29, .int (nI k)] h g (qC n b (if nP (tw h 30) < 10 then pPro n b (tE n b p) (tw h 30) k else .inl p) h) := by
  have her := (tE_r (b := b) hp).2.1
  have eN : h 30 8 = nI (nP (tw h 30)) := ht.np.2
  have lN := ht.np.1
  refine MX.of okX1_readPromise (by decide +kernel) (Nat.le_of_ble_eq_true rfl) (by decide) rfl (by decide) ?_
  refine SegP.run [17] 400 ?_
  refine And.intro (fun z => ?_) (fun z => ?_)
  case refine_2 =>
    have hn : ¬ nP (tw h 30) < 10 := fun y => z (show h 30 8 < nI 10 by rw [eN]; exact nI_lt y (by decide))
    refine SegP.tr (Seg.cV (tX1_faultHere h g) mlX1_112 iyX1_faultHere seX1_faultHere oyX1_faultHere rfl (by decide) rfl (by decide) (by decide) rfl rfl rfl rfl (Nat.le_of_ble_eq_true rfl) (Nat.le_of_ble_eq_true rfl)) ?_
    refine SegP.run [] 400 ?_
    exact And.intro (Or.inl rfl) (SegP.ret (Or.inr ⟨p, by rw [if_neg hn], rfl, by rw [up2_s]; exact hr.2.2.1, fun a ha _ => up2_row ha⟩))
  have hn : nP (tw h 30) < 10 := (nI_ltI (by omega) (b := 10) (by decide)).mp (by rw [← eN]; exact z)
  rw [if_pos hn]
  refine SegP.run [] 400 ?_
  refine SegP.cV (tX1_stepOn (g := g) hb hr.1 (tE n b p) her hr.2.2.2.1) mlX1_42 iyX1_stepOn seX1_stepOn oyX1_stepOn rfl (by decide) rfl (by decide) (by decide) rfl rfl rfl rfl (Nat.le_of_ble_eq_true rfl) ?_
  rintro _ h1 g1 ⟨rfl, r1, f1⟩
  generalize tE n b p = p1 at *
  have t1 := tw30 f1
  have n2 := (tE_r (b := b) her).2.1
  have n3 := (tE_r (b := b) n2).2.1
  refine SegP.run [] 400 ?_
  refine SegP.cV (tX1_takeNumber (g := g1) hb her r1 0 7 (by decide) (by decide)) mlX1_119 iyX1_takeNumber seX1_takeNumber oyX1_takeNumber rfl (by decide) rfl (by decide) (by decide) rfl rfl rfl rfl (Nat.le_of_ble_eq_true rfl) ?_
  rintro _ h2 g2 (⟨rfl, w1, r2, f2⟩ | ⟨rfl, w1, e2, f2⟩)
  case inr =>
    refine SegP.run [] 400 ?_
    refine And.intro (fun z => absurd z (by decide : ¬ (0 : Int32) ≤ -1)) (fun _ => ?_)
    exact And.intro (Or.inl rfl) (SegP.ret (Or.inr ⟨p1, by rw [pPro, if_neg w1], rfl, e2, fun a ha _ => (f2 a ha).trans (f1 a ha)⟩))
  have v1 := w1.2.2
  have f2' : ∀ a, a ≠ 29 → h2 a = h a := fun a ha => (f2 a ha).trans (f1 a ha)
  refine SegP.run [35] 400 ?_
  refine And.intro (fun _ => ?_) (fun z => absurd (show (0 : Int32) ≤ nI (tV n b p1) from nI_pos' (by omega)) z)
  -- from "brings" on
  have rest : ∀ (q s : Nat) (h3 : aH) (g3 : aG), pOpt n b (tE n b p1) 10 0 7 (tV n b p1) = .inr (q, s) → s ≤ 7 → q ≤ n → RCx h3 n b q → (∀ a, a ≠ 29 → h3 a = h a) → SegP mX1_readPromise 7 (55, [some (.ref 29), some (.int (nI k)), some (.int (nI (tV n b p1))), none, none, none, none], [.int (nI s)], nW, h3, g3, ρ) (enP (qC n b (pPro n b p1 (tw h 30) k) h)) := by
    intro q s h3 g3 e s7 hq r3 f3
    have eP : pPro n b p1 (tw h 30) k = pPro2 n b q (tw h 30) k (tV n b p1) s := by rw [pPro, if_pos w1, e]
    rw [eP]
    have m2 := (tE_r (b := b) hq).2.1
    have m3 := (tE_r (b := b) m2).2.1
    have m4 := (tE_r (b := b) m3).2.1
    have m5 := (tE_r (b := b) m4).2.1
    refine SegP.run [62] 400 ?_
    refine And.intro (fun _ => ?_) (fun z => absurd (show (0 : Int32) ≤ nI s from nI_pos' (by omega)) z)
    refine SegP.run [76] 400 ?_
    refine SegP.cV (tX1_passWord_11 (g := g3) hb hq r3) mlX1_124 iyX1_passWord seX1_passWord oyX1_passWord rfl (by decide) rfl (by decide) (by decide) rfl rfl rfl rfl (Nat.le_of_ble_eq_true rfl) ?_
    rintro _ h4 g4 (⟨rfl, y1, r4, f4⟩ | ⟨rfl, y1, rfl⟩)
    case inr =>
      refine SegP.run [] 400 ?_
      refine And.intro (fun z => absurd rfl z) (fun _ => ?_)
      refine SegP.tr (Seg.cV (tX1_faultHere h4 g4) mlX1_112 iyX1_faultHere seX1_faultHere oyX1_faultHere rfl (by decide) rfl (by decide) (by decide) rfl rfl rfl rfl (Nat.le_of_ble_eq_true rfl) (Nat.le_of_ble_eq_true rfl)) ?_
      refine SegP.run [] 400 ?_
      exact And.intro (Or.inl rfl) (SegP.ret (Or.inr ⟨_, by rw [pPro2, if_neg y1], rfl, by rw [up2_s]; exact r3.2.2.1, fun a ha _ => (up2_row ha).trans (f3 a ha)⟩))
    refine SegP.run [76] 400 ?_
    refine And.intro (fun _ => ?_) (fun z => absurd (show (1 : Int32) ≠ 0 by decide) z)
    refine SegP.run [] 400 ?_
    refine And.intro (in10 (p := 3) (n := 6) (by decide) (by decide)) ?_
    refine And.intro (in10 (p := 3) (n := 6) (by decide) (by decide)) ?_
    refine SegP.cV (tX1_takeNumber (g := g4) hb m2 r4 0 5 (by decide) (by decide)) mlX1_119 iyX1_takeNumber seX1_takeNumber oyX1_takeNumber rfl (by decide) rfl (by decide) (by decide) rfl rfl rfl rfl (Nat.le_of_ble_eq_true rfl) ?_
    rintro _ h5 g5 (⟨rfl, y2, r5, f5⟩ | ⟨rfl, y2, e5, f5⟩)
    case inr =>
      refine SegP.run [] 400 ?_
      refine And.intro (fun z => absurd z (by decide : ¬ (0 : Int32) ≤ -1)) (fun _ => ?_)
      exact And.intro (Or.inl rfl) (SegP.ret (Or.inr ⟨_, by rw [pPro2, if_pos y1, if_neg y2], rfl, e5, fun a ha _ => (f5 a ha).trans ((f4 a ha).trans (f3 a ha))⟩))
    have u2 := y2.2.2
    refine SegP.run [99] 400 ?_
    refine And.intro (fun _ => ?_) (fun z => absurd (show (0 : Int32) ≤ nI (tV n b (tE n b q)) from nI_pos' (by omega)) z)
    refine SegP.run [] 400 ?_
    refine And.intro (in10 (p := 4) (n := 6) (by decide) (by decide)) ?_
    refine And.intro (in10 (p := 4) (n := 6) (by decide) (by decide)) ?_
    refine SegP.cV (tX1_takeNumber (g := g5) hb m3 r5 1 9 (by decide) (by decide)) mlX1_119 iyX1_takeNumber seX1_takeNumber oyX1_takeNumber rfl (by decide) rfl (by decide) (by decide) rfl rfl rfl rfl (Nat.le_of_ble_eq_true rfl) ?_
    rintro _ h6 g6 (⟨rfl, y3, r6, f6⟩ | ⟨rfl, y3, e6, f6⟩)
    case inr =>
      refine SegP.run [] 400 ?_
      refine And.intro (fun z => absurd z (by decide : ¬ (0 : Int32) ≤ -1)) (fun _ => ?_)
      exact And.intro (Or.inl rfl) (SegP.ret (Or.inr ⟨_, by rw [pPro2, if_pos y1, if_pos y2, if_neg y3], rfl, e6, fun a ha _ => (f6 a ha).trans ((f5 a ha).trans ((f4 a ha).trans (f3 a ha)))⟩))
    have u3 := y3.2.2
    have f6' : ∀ a, a ≠ 29 → h6 a = h a := fun a ha => (f6 a ha).trans ((f5 a ha).trans ((f4 a ha).trans (f3 a ha)))
    refine SegP.run [122] 400 ?_
    refine And.intro (fun _ => ?_) (fun z => absurd (show (0 : Int32) ≤ nI (tV n b (tE n b (tE n b q))) from nI_pos' (by omega)) z)
    have last : ∀ (q2 w : Nat) (h8 : aH) (g8 : aG), pOpt n b (tE n b (tE n b (tE n b q))) 12 0 49 0 = .inr (q2, w) → w ≤ 49 → RCx h8 n b q2 → (∀ a, a ≠ 29 → h8 a = h a) → SegP mX1_readPromise 7 (149, [some (.ref 29), some (.int (nI k)), some (.int (nI (tV n b p1))), some (.int (nI s)), some (.int (nI (tV n b (tE n b q)))), some (.int (nI (tV n b (tE n b (tE n b q))))), none], [.int (nI w)], nW, h8, g8, ρ) (enP (qC n b (pPro2 n b q (tw h 30) k (tV n b p1) s) h)) := by
      intro q2 w h8 g8 e w9 r8 f8
      have t8 := tw30 f8
      refine SegP.run [158] 400 ?_
      refine And.intro (fun _ => ?_) (fun z => absurd (show (0 : Int32) ≤ nI w from nI_pos' (by omega)) z)
      refine SegP.run [] 400 ?_
      refine SegP.cV (tX4_addPromise_30 h8 g8 (by rw [t8]; exact ht) (by rw [t8]; exact hn) (nI k) (nI (tV n b p1)) (nI s) (nI (tV n b (tE n b q))) (nI (tV n b (tE n b (tE n b q)))) (nI w)) mlX1_151 iyX4_addPromise seX4_addPromise oyX4_addPromise rfl (by decide) rfl (by decide) (by decide) rfl rfl rfl rfl (Nat.le_of_ble_eq_true rfl) ?_
      rintro _ h9 g9 ⟨rfl, -, e9, f9⟩
      refine SegP.run [] 400 ?_
      refine And.intro (Or.inr rfl) (SegP.ret (Or.inl ⟨q2, _, by rw [pPro2, if_pos y1, if_pos y2, if_pos y3, e], rfl, ?_, by rw [e9, t8], fun a ha hb => (f9 a hb).trans (f8 a ha)⟩))
      unfold RCx RC
      rw [f9 27 (by decide), f9 28 (by decide), f9 29 (by decide)]
      exact r8
    refine SegP.run [149] 400 ?_
    refine SegP.cV (tX1_passWord_12 (g := g6) hb m4 r6) mlX1_124 iyX1_passWord seX1_passWord oyX1_passWord rfl (by decide) rfl (by decide) (by decide) rfl rfl rfl rfl (Nat.le_of_ble_eq_true rfl) ?_
    rintro _ h7 g7 (⟨rfl, y4, r7, f7⟩ | ⟨rfl, y4, rfl⟩)
    case inr =>
      refine SegP.run [149] 400 ?_
      refine And.intro (fun _ => ?_) (fun z => absurd rfl z)
      exact last _ 0 h7 g7 (by rw [pOpt, if_neg y4]) (by decide) r6 f6'
    refine SegP.run [149] 400 ?_
    refine And.intro (fun z => absurd z (by decide : ¬ (1 : Int32) = 0)) (fun _ => ?_)
    refine And.intro (in10 (p := 5) (n := 6) (by decide) (by decide)) ?_
    refine And.intro (in10 (p := 5) (n := 6) (by decide) (by decide)) ?_
    refine SegP.cV (tX1_takeNumber (g := g7) hb m5 r7 0 49 (by decide) (by decide)) mlX1_119 iyX1_takeNumber seX1_takeNumber oyX1_takeNumber rfl (by decide) rfl (by decide) (by decide) rfl rfl rfl rfl (Nat.le_of_ble_eq_true rfl) ?_
    rintro _ h8 g8 (⟨rfl, y5, r8, f8⟩ | ⟨rfl, y5, e8, f8⟩)
    case inl =>
      refine SegP.run [149] 400 ?_
      exact last _ _ h8 g8 (by rw [pOpt, if_pos y4, if_pos y5]) y5.2.2 r8 (fun a ha => (f8 a ha).trans ((f7 a ha).trans (f6' a ha)))
    refine SegP.run [] 400 ?_
    refine And.intro (fun z => absurd z (by decide : ¬ (0 : Int32) ≤ -1)) (fun _ => ?_)
    exact And.intro (Or.inl rfl) (SegP.ret (Or.inr ⟨_, by rw [pPro2, if_pos y1, if_pos y2, if_pos y3, pOpt, if_pos y4, if_neg y5], rfl, e8, fun a ha _ => (f8 a ha).trans ((f7 a ha).trans (f6' a ha))⟩))
  refine SegP.run [55] 400 ?_
  refine SegP.cV (tX1_passWord_10 (g := g2) hb n2 r2) mlX1_124 iyX1_passWord seX1_passWord oyX1_passWord rfl (by decide) rfl (by decide) (by decide) rfl rfl rfl rfl (Nat.le_of_ble_eq_true rfl) ?_
  rintro _ h3 g3 (⟨rfl, w3, r3, f3⟩ | ⟨rfl, w3, rfl⟩)
  case inr =>
    refine SegP.run [55] 400 ?_
    refine And.intro (fun _ => ?_) (fun z => absurd rfl z)
    exact rest _ _ h3 g3 (by rw [pOpt, if_neg w3]) v1 n2 r2 f2'
  refine SegP.run [55] 400 ?_
  refine And.intro (fun z => absurd z (by decide : ¬ (1 : Int32) = 0)) (fun _ => ?_)
  refine SegP.cV (tX1_takeNumber (g := g3) hb n3 r3 0 7 (by decide) (by decide)) mlX1_119 iyX1_takeNumber seX1_takeNumber oyX1_takeNumber rfl (by decide) rfl (by decide) (by decide) rfl rfl rfl rfl (Nat.le_of_ble_eq_true rfl) ?_
  rintro _ h4 g4 (⟨rfl, w4, r4, f4⟩ | ⟨rfl, w4, e4, f4⟩)
  case inl =>
    refine SegP.run [55] 400 ?_
    exact rest _ _ h4 g4 (by rw [pOpt, if_pos w3, if_pos w4]) w4.2.2 (tE_r (b := b) n3).2.1 r4 (fun a ha => (f4 a ha).trans ((f3 a ha).trans (f2' a ha)))
  refine SegP.run [] 400 ?_
  refine And.intro (fun z => absurd z (by decide : ¬ (0 : Int32) ≤ -1)) (fun _ => ?_)
  exact And.intro (Or.inl rfl) (SegP.ret (Or.inr ⟨_, by rw [pPro, if_pos w1, pOpt, if_pos w3, if_neg w4], rfl, e4, fun a ha _ => (f4 a ha).trans ((f3 a ha).trans (f2' a ha))⟩))
