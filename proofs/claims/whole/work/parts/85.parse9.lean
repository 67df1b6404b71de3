/-! ===== parsing: the reference takes promises and items; printed by wip/whole/gen85.py ===== -/
set_option maxRecDepth 100000 in
set_option maxHeartbeats 400000 in
theorem tX6_takesPromise {h : aH} {g : aG} {n : Nat} {b : Nat → Int32} (hb : BT n b) {p : Nat} (hp : p ≤ n) (hr : RMx h n b p) (ht : TOk (tm h 64)) (hn : nP (tm h 64) < 10) (k : Nat) : MX mX6_takesPromise 7 [.ref 63, .int (nI k)] h g (qM n b (pPro n b p (tm h 64) k) h) := by
  have n2 := (tE_r (b := b) hp).2.1
  have n3 := (tE_r (b := b) n2).2.1
  have eN : h 64 0 = nI (nP (tm h 64)) := (tm_0 (h := h) (k := 0) (by decide)).symm.trans ht.np.2
  have eL : (20 : Int32) + 6 * h 64 (0 : Int32).toNatClampNeg = nI (20 + 6 * nP (tm h 64)) := by
    rw [show h 64 (0 : Int32).toNatClampNeg = nI (nP (tm h 64)) from eN, show (20 : Int32) = nI 20 from rfl, show (6 : Int32) = nI 6 from rfl, nI_ml, nI_ad]
  generalize hN : nP (tm h 64) = N at *
  generalize hL : 20 + 6 * N = L at *
  have i0 := iL (L := L) (w := 0) (by omega) (x := 0) rfl
  have i1 := iL (L := L) (w := 1) (by omega) (x := 1) rfl
  have i2 := iL (L := L) (w := 2) (by omega) (x := 2) rfl
  have i3 := iL (L := L) (w := 3) (by omega) (x := 3) rfl
  have i4 := iL (L := L) (w := 4) (by omega) (x := 4) rfl
  have i5 := iL (L := L) (w := 5) (by omega) (x := 5) rfl
  refine MX.of okX6_takesPromise (by decide +kernel) (Nat.le_of_ble_eq_true rfl) (by decide) rfl (by decide) ?_
  refine SegP.run [13] 400 ?_
  refine And.intro (in10 (p := 0) (by decide) (by decide)) ?_
  refine SegP.tr (Seg.of (b := (13, [some (.ref 63), some (.int (nI k)), some (.int (nI L))], [], nW, h, g, ρ)) (by rw [← eL] <;> rfl)) ?_
  refine SegP.run [] 400 ?_
  refine SegP.cV (tX6_takesNumber (g := g) hb hp hr 0 7 (by decide) (by decide)) mlX6_98 iyX6_takesNumber seX6_takesNumber oyX6_takesNumber rfl (by decide) rfl (by decide) (by decide) rfl rfl rfl rfl (Nat.le_of_ble_eq_true rfl) ?_
  rintro _ h1 g1 (⟨rfl, w1, r1, c1, f1⟩ | ⟨rfl, w1, rfl⟩)
  case inr =>
    refine SegP.run [] 400 ?_
    refine And.intro (fun z => absurd rfl z) (fun _ => ?_)
    exact And.intro (Or.inl rfl) (SegP.ret (Or.inr ⟨p, by rw [pPro, if_neg w1], rfl, hr.s, frN.rf⟩))
  have v1 := w1.2.2
  refine SegP.run [25] 400 ?_
  refine And.intro (fun _ => ?_) (fun z => absurd (show (1 : Int32) ≠ 0 by decide) z)
  refine SegP.run [] 400 ?_
  refine And.intro i0.1 ?_
  refine And.intro i1.1 ?_
  refine And.intro i2.1 ?_
  refine And.intro i5.1 ?_
  rw [i0.2, i1.2, i2.2, i5.2]
  repeat rw [up2_row (show (63 : Nat) ≠ 64 by decide)]
  rw [c1]
  have T2 : tm (up2 (up2 (up2 (up2 h1 64 (L + 0) (nI k)) 64 (L + 1) (nI (tV n b p))) 64 (L + 2) (nI (tV n b p))) 64 (L + 5) 0) 64 = up2 (up2 (up2 (up2 (tm h 64) 3 N (nI k)) 4 N (nI (tV n b p))) 5 N (nI (tV n b p))) 8 N 0 := by
    rw [tm_set (j := 8) (k := N) (q := L + 5) hn (by rw [← hL]; rfl), tm_set (j := 5) (k := N) (q := L + 2) hn (by rw [← hL]; rfl), tm_set (j := 4) (k := N) (q := L + 1) hn (by rw [← hL]; rfl), tm_set (j := 3) (k := N) (q := L + 0) hn (by rw [← hL]; rfl), tm_row (f1.1 64 (by decide))]
  have F2 : frN h (up2 (up2 (up2 (up2 h1 64 (L + 0) (nI k)) 64 (L + 1) (nI (tV n b p))) 64 (L + 2) (nI (tV n b p))) 64 (L + 5) 0) := f1.N.up.up.up.up
  have r2 : RMx (up2 (up2 (up2 (up2 h1 64 (L + 0) (nI k)) 64 (L + 1) (nI (tV n b p))) 64 (L + 2) (nI (tV n b p))) 64 (L + 5) 0) n b (tE n b p) := r1.up.up.up.up
  generalize up2 (up2 (up2 (up2 h1 64 (L + 0) (nI k)) 64 (L + 1) (nI (tV n b p))) 64 (L + 2) (nI (tV n b p))) 64 (L + 5) 0 = h2 at T2 F2 r2 ⊢
  have rest : ∀ (q s : Nat) (h3 : aH) (g3 : aG), pOpt n b (tE n b p) 10 0 7 (tV n b p) = .inr (q, s) → q ≤ n → RMx h3 n b q → frN h h3 → tm h3 64 = up2 (up2 (up2 (up2 (tm h 64) 3 N (nI k)) 4 N (nI (tV n b p))) 5 N (nI s)) 8 N 0 → SegP mX6_takesPromise 7 (100, [some (.ref 63), some (.int (nI k)), some (.int (nI L))], [], nW, h3, g3, ρ) (enP (qM n b (pPro n b p (tm h 64) k) h)) := by
    intro q s h3 g3 e hq r3 F3 T3
    have eP : pPro n b p (tm h 64) k = pPro2 n b q (tm h 64) k (tV n b p) s := by rw [pPro, if_pos w1, e]
    rw [eP]
    have m2 := (tE_r (b := b) hq).2.1
    have m3 := (tE_r (b := b) m2).2.1
    have m4 := (tE_r (b := b) m3).2.1
    have m5 := (tE_r (b := b) m4).2.1
    refine SegP.run [118] 400 ?_
    refine SegP.cV (tX6_takes_11 (g := g3) hb hq r3) mlX6_102 iyX6_takes seX6_takes oyX6_takes rfl (by decide) rfl (by decide) (by decide) rfl rfl rfl rfl (Nat.le_of_ble_eq_true rfl) ?_
    rintro _ h4 g4 (⟨rfl, y1, r4, f4⟩ | ⟨rfl, y1, rfl⟩)
    case inr =>
      refine SegP.run [118] 400 ?_
      refine And.intro (fun _ => ?_) (fun z => absurd rfl z)
      refine SegP.run [] 400 ?_
      exact And.intro (Or.inl rfl) (SegP.ret (Or.inr ⟨_, by rw [pPro2, if_neg y1], rfl, r3.s, F3⟩))
    have F4 := F3.tr f4.T.N
    refine SegP.run [118] 400 ?_
    refine And.intro (fun z => absurd z (by decide : ¬ (1 : Int32) = 0)) (fun _ => ?_)
    refine SegP.cV (tX6_takesNumber (g := g4) hb m2 r4 0 5 (by decide) (by decide)) mlX6_98 iyX6_takesNumber seX6_takesNumber oyX6_takesNumber rfl (by decide) rfl (by decide) (by decide) rfl rfl rfl rfl (Nat.le_of_ble_eq_true rfl) ?_
    rintro _ h5 g5 (⟨rfl, y2, r5, c5, f5⟩ | ⟨rfl, y2, rfl⟩)
    case inr =>
      refine SegP.run [] 400 ?_
      refine And.intro (fun z => absurd rfl z) (fun _ => ?_)
      exact And.intro (Or.inl rfl) (SegP.ret (Or.inr ⟨_, by rw [pPro2, if_pos y1, if_neg y2], rfl, r4.s, F4⟩))
    have F5 := F4.tr f5.N
    refine SegP.run [120] 400 ?_
    refine And.intro (fun _ => ?_) (fun z => absurd (show (1 : Int32) ≠ 0 by decide) z)
    refine SegP.run [] 400 ?_
    refine And.intro i3.1 ?_
    rw [i3.2, c5]
    refine SegP.cV (tX6_takesNumber (g := g5) hb m3 (r5.up (j := L + 3) (x := nI (tV n b (tE n b q)))) 1 9 (by decide) (by decide)) mlX6_98 iyX6_takesNumber seX6_takesNumber oyX6_takesNumber rfl (by decide) rfl (by decide) (by decide) rfl rfl rfl rfl (Nat.le_of_ble_eq_true rfl) ?_
    rintro _ h6 g6 (⟨rfl, y3, r6, c6, f6⟩ | ⟨rfl, y3, rfl⟩)
    case inr =>
      refine SegP.run [] 400 ?_
      refine And.intro (fun z => absurd rfl z) (fun _ => ?_)
      exact And.intro (Or.inl rfl) (SegP.ret (Or.inr ⟨_, by rw [pPro2, if_pos y1, if_pos y2, if_neg y3], rfl, r5.up.s, F5.up⟩))
    have F6 := F5.up.tr f6.N
    have T6 : tm h6 64 = up2 (up2 (up2 (up2 (up2 (tm h 64) 3 N (nI k)) 4 N (nI (tV n b p))) 5 N (nI s)) 6 N (nI (tV n b (tE n b q)))) 8 N 0 := by
      rw [tm_row (f6.1 64 (by decide)), tm_set (j := 6) (k := N) (q := L + 3) hn (by rw [← hL]; rfl), tm_row (f5.1 64 (by decide)), tm_row (f4.1 64 (by decide)), T3]
      exact up2_sw (Or.inl (by decide))
    refine SegP.run [144] 400 ?_
    refine And.intro (fun _ => ?_) (fun z => absurd (show (1 : Int32) ≠ 0 by decide) z)
    refine SegP.run [] 400 ?_
    refine And.intro i4.1 ?_
    rw [i4.2, c6]
    have T7 : tm (up2 h6 64 (L + 4) (nI (tV n b (tE n b (tE n b q))))) 64 = up2 (up2 (up2 (up2 (up2 (up2 (tm h 64) 3 N (nI k)) 4 N (nI (tV n b p))) 5 N (nI s)) 6 N (nI (tV n b (tE n b q)))) 7 N (nI (tV n b (tE n b (tE n b q))))) 8 N 0 := by
      rw [tm_set (j := 7) (k := N) (q := L + 4) hn (by rw [← hL]; rfl), T6]
      exact up2_sw (Or.inl (by decide))
    have F7 : frN h (up2 h6 64 (L + 4) (nI (tV n b (tE n b (tE n b q))))) := F6.up
    have r7 : RMx (up2 h6 64 (L + 4) (nI (tV n b (tE n b (tE n b q))))) n b (tE n b (tE n b (tE n b q))) := r6.up
    generalize up2 h6 64 (L + 4) (nI (tV n b (tE n b (tE n b q)))) = h7 at T7 F7 r7 ⊢
    have last : ∀ (q2 w : Nat) (h8 : aH) (g8 : aG), pOpt n b (tE n b (tE n b (tE n b q))) 12 0 49 0 = .inr (q2, w) → RMx h8 n b q2 → frN h h8 → tm h8 64 = up2 (up2 (up2 (up2 (up2 (up2 (tm h 64) 3 N (nI k)) 4 N (nI (tV n b p))) 5 N (nI s)) 6 N (nI (tV n b (tE n b q)))) 7 N (nI (tV n b (tE n b (tE n b q))))) 8 N (nI w) → SegP mX6_takesPromise 7 (189, [some (.ref 63), some (.int (nI k)), some (.int (nI L))], [], nW, h8, g8, ρ) (enP (qM n b (pPro2 n b q (tm h 64) k (tV n b p) s) h)) := by
      intro q2 w h8 g8 e r8 F8 T8
      have e1 : h8 64 0 = nI N := by
        rw [← tm_0 (h := h8) (k := 0) (by decide), T8]
        rw [up2_row (by decide), up2_row (by decide), up2_row (by decide), up2_row (by decide), up2_row (by decide), up2_row (by decide), tm_0 (by decide)]
        exact eN
      refine SegP.run [] 400 ?_
      refine And.intro (in10 (p := 0) (by decide) (by decide)) ?_
      refine And.intro (in10 (p := 0) (by decide) (by decide)) ?_
      refine And.intro (Or.inr rfl) (SegP.ret (Or.inl ⟨q2, _, by rw [pPro2, if_pos y1, if_pos y2, if_pos y3, e], rfl, r8.up, ?_, F8.up⟩))
      show tm (up2 h8 64 0 (h8 64 0 + 1)) 64 = _
      rw [tm_set (j := 0) (k := 0) (q := 0) (by decide) rfl, T8, e1, ← nI_succ N, adP, hN]
    refine SegP.cV (tX6_takes_12 (g := g6) hb m4 r7) mlX6_102 iyX6_takes seX6_takes oyX6_takes rfl (by decide) rfl (by decide) (by decide) rfl rfl rfl rfl (Nat.le_of_ble_eq_true rfl) ?_
    rintro _ h8 g8 (⟨rfl, y4, r8, f8⟩ | ⟨rfl, y4, rfl⟩)
    case inr =>
      refine SegP.run [189] 400 ?_
      refine And.intro (fun _ => ?_) (fun z => absurd rfl z)
      exact last _ 0 _ _ (by rw [pOpt, if_neg y4]) r7 F7 T7
    refine SegP.run [189] 400 ?_
    refine And.intro (fun z => absurd z (by decide : ¬ (1 : Int32) = 0)) (fun _ => ?_)
    refine SegP.cV (tX6_takesNumber (g := g8) hb m5 r8 0 49 (by decide) (by decide)) mlX6_98 iyX6_takesNumber seX6_takesNumber oyX6_takesNumber rfl (by decide) rfl (by decide) (by decide) rfl rfl rfl rfl (Nat.le_of_ble_eq_true rfl) ?_
    rintro _ h9 g9 (⟨rfl, y5, r9, c9, f9⟩ | ⟨rfl, y5, rfl⟩)
    case inl =>
      refine SegP.run [177] 400 ?_
      refine And.intro (fun _ => ?_) (fun z => absurd (show (1 : Int32) ≠ 0 by decide) z)
      refine SegP.run [189] 400 ?_
      refine And.intro i5.1 ?_
      rw [i5.2, c9]
      refine last _ _ _ _ (by rw [pOpt, if_pos y4, if_pos y5]) r9.up ((F7.tr f8.T.N).tr f9.N).up ?_
      rw [tm_set (j := 8) (k := N) (q := L + 5) hn (by rw [← hL]; rfl), tm_row (f9.1 64 (by decide)), tm_row (f8.1 64 (by decide)), T7, up2_rp]
    refine SegP.run [] 400 ?_
    refine And.intro (fun z => absurd rfl z) (fun _ => ?_)
    exact And.intro (Or.inl rfl) (SegP.ret (Or.inr ⟨_, by rw [pPro2, if_pos y1, if_pos y2, if_pos y3, pOpt, if_pos y4, if_neg y5], rfl, r8.s, F7.tr f8.T.N⟩))
  refine SegP.cV (tX6_takes_10 (g := g1) hb n2 r2) mlX6_102 iyX6_takes seX6_takes oyX6_takes rfl (by decide) rfl (by decide) (by decide) rfl rfl rfl rfl (Nat.le_of_ble_eq_true rfl) ?_
  rintro _ h3 g3 (⟨rfl, w3, r3, f3⟩ | ⟨rfl, w3, rfl⟩)
  case inr =>
    refine SegP.run [100] 400 ?_
    refine And.intro (fun _ => ?_) (fun z => absurd rfl z)
    exact rest _ _ _ _ (by rw [pOpt, if_neg w3]) n2 r2 F2 T2
  refine SegP.run [100] 400 ?_
  refine And.intro (fun z => absurd z (by decide : ¬ (1 : Int32) = 0)) (fun _ => ?_)
  refine SegP.cV (tX6_takesNumber (g := g3) hb n3 r3 0 7 (by decide) (by decide)) mlX6_98 iyX6_takesNumber seX6_takesNumber oyX6_takesNumber rfl (by decide) rfl (by decide) (by decide) rfl rfl rfl rfl (Nat.le_of_ble_eq_true rfl) ?_
  rintro _ h4 g4 (⟨rfl, w4, r4, c4, f4⟩ | ⟨rfl, w4, rfl⟩)
  case inl =>
    refine SegP.run [88] 400 ?_
    refine And.intro (fun _ => ?_) (fun z => absurd (show (1 : Int32) ≠ 0 by decide) z)
    refine SegP.run [100] 400 ?_
    refine And.intro i2.1 ?_
    rw [i2.2, c4]
    refine rest _ _ _ _ (by rw [pOpt, if_pos w3, if_pos w4]) (tE_r (b := b) n3).2.1 r4.up ((F2.tr f3.T.N).tr f4.N).up ?_
    rw [tm_set (j := 5) (k := N) (q := L + 2) hn (by rw [← hL]; rfl), tm_row (f4.1 64 (by decide)), tm_row (f3.1 64 (by decide)), T2, up2_sw (j := 8) (j2 := 5) (Or.inl (by decide)), up2_rp]
  refine SegP.run [] 400 ?_
  refine And.intro (fun z => absurd rfl z) (fun _ => ?_)
  exact And.intro (Or.inl rfl) (SegP.ret (Or.inr ⟨_, by rw [pPro, if_pos w1, pOpt, if_pos w3, if_neg w4], rfl, r3.s, F2.tr f3.T.N⟩))
theorem qM_on {n : Nat} {b : Nat → Int32} {res : rP} {h h1 : aH} {r : List Value} {h' : aH} {g' : aG} (f : frN h h1) (q : qM n b res h1 r h' g') : ∃ x, (x = 0 ∨ x = 1) ∧ r = [.int x] ∧ qM n b res h [.int x] h' g' := by
  rcases q with ⟨q, T', e, rfl, z1, z2, z3⟩ | ⟨q, e, rfl, z1, z2⟩
  · exact ⟨1, Or.inr rfl, rfl, Or.inl ⟨q, T', e, rfl, z1, z2, f.tr z3⟩⟩
  · exact ⟨0, Or.inl rfl, rfl, Or.inr ⟨q, e, rfl, z1, f.tr z2⟩⟩
set_option maxRecDepth 100000 in
set_option maxHeartbeats 400000 in
theorem tX6_takesItem {h : aH} {g : aG} {n : Nat} {b : Nat → Int32} (hb : BT n b) {p : Nat} (hp : p ≤ n) (hr : RMx h n b p) (ht : TOk (tm h 64)) : MX mX6_takesItem 8 [.ref 63] h g (qM n b (pItem n b p (tm h 64)) h) := by
  have her := (tE_r (b := b) hp).2.1
  have kl := kw_le (n := n) (b := b) (p := p)
  obtain ⟨w, hr1, hw⟩ := id hr
  refine MX.of okX6_takesItem (by decide +kernel) (Nat.le_of_ble_eq_true rfl) (by decide) rfl (by decide) ?_
  refine SegP.run [14] 400 ?_
  refine SegP.cV (tX6_takes_7 (g := g) hb hp hr) mlX6_102 iyX6_takes seX6_takes oyX6_takes rfl (by decide) rfl (by decide) (by decide) rfl rfl rfl rfl (Nat.le_of_ble_eq_true rfl) ?_
  rintro _ h1 g1 (⟨rfl, w1, r1, f1⟩ | ⟨rfl, w1, rfl⟩)
  case inl =>
    refine SegP.run [14] 400 ?_
    refine And.intro (fun z => absurd z (by decide : ¬ (1 : Int32) = 0)) (fun _ => ?_)
    refine SegP.cV (tX6_takesCoin (g := g1) hb her r1) mlX6_115 iyX6_takesCoin seX6_takesCoin oyX6_takesCoin rfl (by decide) rfl (by decide) (by decide) rfl rfl rfl rfl (Nat.le_of_ble_eq_true rfl) ?_
    intro r h' g' q0
    obtain ⟨x, hx, rfl, q⟩ := qM_on f1.T.N q0
    rw [tm_row (f1.1 64 (by decide))] at q
    rw [pItem, if_pos w1]
    refine SegP.run [] 400 ?_
    exact And.intro hx (SegP.ret q)
  rw [pItem, if_neg w1]
  refine SegP.run [14] 400 ?_
  refine And.intro (fun _ => ?_) (fun z => absurd rfl z)
  refine SegP.run [36, 45] 400 ?_
  by_cases w2 : wdP n b p 8
  · rw [if_pos w2]
    have eN : h1 64 1 = nI (nN (tm h1 64)) := (tm_0 (h := h1) (k := 1) (by decide)).symm.trans ht.nn.2
    have lN := ht.nn.1
    refine SegP.tr (Seg.cV (tX6_isWord_8 (g := g1) hr1 1 (Or.inl ⟨rfl, w2⟩)) mlX6_84 iyX6_isWord seX6_isWord oyX6_isWord rfl (by decide) rfl (by decide) (by decide) rfl rfl rfl rfl (Nat.le_of_ble_eq_true rfl) (Nat.le_of_ble_eq_true rfl)) ?_
    refine SegP.run [36, 45] 400 ?_
    refine And.intro (fun z => absurd z (by decide : ¬ (1 : Int32) = 0)) (fun _ => ?_)
    refine And.intro (in10 (p := 1) (by decide) (by decide)) ?_
    refine And.intro (fun z => ?_) (fun z => ?_)
    case refine_2 =>
      have h6 : nN (tm h1 64) = 6 := (nI_eq (by omega) (b := 6) (by decide)).mp (by rw [← eN]; exact Decidable.not_not.mp z)
      exact And.intro (Or.inl rfl) (SegP.ret (Or.inr ⟨p, by rw [if_neg (by omega)], rfl, hr.s, frN.rf⟩))
    have h6 : nN (tm h1 64) < 6 := by
      have : nN (tm h1 64) ≠ 6 := fun y => z (show h1 64 1 = 6 by rw [eN, y]; rfl)
      omega
    rw [if_pos h6]
    refine SegP.run [] 400 ?_
    refine SegP.cV (tX6_next (g := g1) hb hr1.1 (tE n b p) her hr1.2.2.2.1) mlX6_88 iyX6_next seX6_next oyX6_next rfl (by decide) rfl (by decide) (by decide) rfl rfl rfl rfl (Nat.le_of_ble_eq_true rfl) ?_
    rintro _ h2 g2 ⟨rfl, r2, f2⟩
    have e2 : tm h2 64 = tm h1 64 := tm_row (f2.1 64 (by decide))
    refine SegP.run [] 400 ?_
    refine SegP.cV (tX6_takesNeed (g := g2) hb her r2 (by rw [e2]; exact ht) (by rw [e2]; exact h6)) mlX6_121 iyX6_takesNeed seX6_takesNeed oyX6_takesNeed rfl (by decide) rfl (by decide) (by decide) rfl rfl rfl rfl (Nat.le_of_ble_eq_true rfl) ?_
    intro r h' g' q0
    obtain ⟨x, hx, rfl, q⟩ := qM_on f2.T.N q0
    rw [e2] at q
    refine SegP.run [] 400 ?_
    exact And.intro hx (SegP.ret q)
  rw [if_neg w2]
  refine SegP.tr (Seg.cV (tX6_isWord_8 (g := g1) hr1 0 (Or.inr ⟨rfl, w2⟩)) mlX6_84 iyX6_isWord seX6_isWord oyX6_isWord rfl (by decide) rfl (by decide) (by decide) rfl rfl rfl rfl (Nat.le_of_ble_eq_true rfl) (Nat.le_of_ble_eq_true rfl)) ?_
  refine SegP.run [36, 45] 400 ?_
  refine And.intro (fun _ => ?_) (fun z => absurd rfl z)
  have eN : h1 64 0 = nI (nP (tm h1 64)) := (tm_0 (h := h1) (k := 0) (by decide)).symm.trans ht.np.2
  have lN := ht.np.1
  have fin : ∀ x, x = kwI n b p → SegP mX6_takesItem 8 (138, [some (.ref 63), none], [.int x], nW, h1, g1, ρ) (enP (qM n b (if kw n b p = 7 then .inl p else (if nP (tm h1 64) < 10 then pPro n b (tE n b p) (tm h1 64) (kw n b p) else .inl p)) h1)) := by
    rintro x rfl
    refine SegP.run [155, 157] 400 ?_
    by_cases w3 : kw n b p = 7
    · rw [if_pos w3, kwI, if_pos w3]
      refine And.intro (fun _ => ?_) (fun z => absurd rfl z)
      refine SegP.run [] 400 ?_
      exact And.intro (Or.inl rfl) (SegP.ret (Or.inr ⟨p, rfl, rfl, hr.s, frN.rf⟩))
    rw [if_neg w3, kwI, if_neg w3]
    refine And.intro (fun z => absurd (show (0 : Int32) ≤ nI (kw n b p) from nI_pos' (by omega)) (by rw [show nI (kw n b p) = -1 from z]; decide)) (fun _ => ?_)
    refine And.intro (in10 (p := 0) (by decide) (by decide)) ?_
    refine And.intro (fun z => ?_) (fun z => ?_)
    case refine_2 =>
      have h6 : nP (tm h1 64) = 10 := (nI_eq (by omega) (b := 10) (by decide)).mp (by rw [← eN]; exact Decidable.not_not.mp z)
      refine SegP.run [] 400 ?_
      exact And.intro (Or.inl rfl) (SegP.ret (Or.inr ⟨p, by rw [if_neg (by omega)], rfl, hr.s, frN.rf⟩))
    have h6 : nP (tm h1 64) < 10 := by
      have : nP (tm h1 64) ≠ 10 := fun y => z (show h1 64 0 = 10 by rw [eN, y]; rfl)
      omega
    rw [if_pos h6]
    refine SegP.run [] 400 ?_
    refine SegP.cV (tX6_next (g := g1) hb hr1.1 (tE n b p) her hr1.2.2.2.1) mlX6_88 iyX6_next seX6_next oyX6_next rfl (by decide) rfl (by decide) (by decide) rfl rfl rfl rfl (Nat.le_of_ble_eq_true rfl) ?_
    rintro _ h2 g2 ⟨rfl, r2, f2⟩
    have e2 : tm h2 64 = tm h1 64 := tm_row (f2.1 64 (by decide))
    refine SegP.run [] 400 ?_
    refine SegP.cV (tX6_takesPromise (g := g2) hb her r2 (by rw [e2]; exact ht) (by rw [e2]; exact h6) (kw n b p)) mlX6_138 iyX6_takesPromise seX6_takesPromise oyX6_takesPromise rfl (by decide) rfl (by decide) (by decide) rfl rfl rfl rfl (Nat.le_of_ble_eq_true rfl) ?_
    intro r h' g' q0
    obtain ⟨x, hx, rfl, q⟩ := qM_on f2.T.N q0
    rw [e2] at q
    refine SegP.run [] 400 ?_
    exact And.intro hx (SegP.ret q)
  refine SegP.run [58, 138] 400 ?_
  by_cases c0 : wdP n b p 0
  · refine SegP.tr (Seg.cV (tX6_isWord_0 (g := g1) hr1 1 (Or.inl ⟨rfl, c0⟩)) mlX6_84 iyX6_isWord seX6_isWord oyX6_isWord rfl (by decide) rfl (by decide) (by decide) rfl rfl rfl rfl (Nat.le_of_ble_eq_true rfl) (Nat.le_of_ble_eq_true rfl)) ?_
    refine SegP.run [58, 138] 400 ?_
    refine And.intro (fun z => absurd z (by decide : ¬ (1 : Int32) = 0)) (fun _ => ?_)
    exact fin _ (by rw [kwI, kw, if_pos c0] <;> rfl)
  refine SegP.tr (Seg.cV (tX6_isWord_0 (g := g1) hr1 0 (Or.inr ⟨rfl, c0⟩)) mlX6_84 iyX6_isWord seX6_isWord oyX6_isWord rfl (by decide) rfl (by decide) (by decide) rfl rfl rfl rfl (Nat.le_of_ble_eq_true rfl) (Nat.le_of_ble_eq_true rfl)) ?_
  refine SegP.run [58, 138] 400 ?_
  refine And.intro (fun _ => ?_) (fun z => absurd rfl z)
  refine SegP.run [71, 138] 400 ?_
  by_cases c1 : wdP n b p 1
  · refine SegP.tr (Seg.cV (tX6_isWord_1 (g := g1) hr1 1 (Or.inl ⟨rfl, c1⟩)) mlX6_84 iyX6_isWord seX6_isWord oyX6_isWord rfl (by decide) rfl (by decide) (by decide) rfl rfl rfl rfl (Nat.le_of_ble_eq_true rfl) (Nat.le_of_ble_eq_true rfl)) ?_
    refine SegP.run [71, 138] 400 ?_
    refine And.intro (fun z => absurd z (by decide : ¬ (1 : Int32) = 0)) (fun _ => ?_)
    exact fin _ (by rw [kwI, kw, if_neg c0, if_pos c1] <;> rfl)
  refine SegP.tr (Seg.cV (tX6_isWord_1 (g := g1) hr1 0 (Or.inr ⟨rfl, c1⟩)) mlX6_84 iyX6_isWord seX6_isWord oyX6_isWord rfl (by decide) rfl (by decide) (by decide) rfl rfl rfl rfl (Nat.le_of_ble_eq_true rfl) (Nat.le_of_ble_eq_true rfl)) ?_
  refine SegP.run [71, 138] 400 ?_
  refine And.intro (fun _ => ?_) (fun z => absurd rfl z)
  refine SegP.run [84, 138] 400 ?_
  by_cases c2 : wdP n b p 2
  · refine SegP.tr (Seg.cV (tX6_isWord_2 (g := g1) hr1 1 (Or.inl ⟨rfl, c2⟩)) mlX6_84 iyX6_isWord seX6_isWord oyX6_isWord rfl (by decide) rfl (by decide) (by decide) rfl rfl rfl rfl (Nat.le_of_ble_eq_true rfl) (Nat.le_of_ble_eq_true rfl)) ?_
    refine SegP.run [84, 138] 400 ?_
    refine And.intro (fun z => absurd z (by decide : ¬ (1 : Int32) = 0)) (fun _ => ?_)
    exact fin _ (by rw [kwI, kw, if_neg c0, if_neg c1, if_pos c2] <;> rfl)
  refine SegP.tr (Seg.cV (tX6_isWord_2 (g := g1) hr1 0 (Or.inr ⟨rfl, c2⟩)) mlX6_84 iyX6_isWord seX6_isWord oyX6_isWord rfl (by decide) rfl (by decide) (by decide) rfl rfl rfl rfl (Nat.le_of_ble_eq_true rfl) (Nat.le_of_ble_eq_true rfl)) ?_
  refine SegP.run [84, 138] 400 ?_
  refine And.intro (fun _ => ?_) (fun z => absurd rfl z)
  refine SegP.run [97, 138] 400 ?_
  by_cases c3 : wdP n b p 3
  · refine SegP.tr (Seg.cV (tX6_isWord_3 (g := g1) hr1 1 (Or.inl ⟨rfl, c3⟩)) mlX6_84 iyX6_isWord seX6_isWord oyX6_isWord rfl (by decide) rfl (by decide) (by decide) rfl rfl rfl rfl (Nat.le_of_ble_eq_true rfl) (Nat.le_of_ble_eq_true rfl)) ?_
    refine SegP.run [97, 138] 400 ?_
    refine And.intro (fun z => absurd z (by decide : ¬ (1 : Int32) = 0)) (fun _ => ?_)
    exact fin _ (by rw [kwI, kw, if_neg c0, if_neg c1, if_neg c2, if_pos c3] <;> rfl)
  refine SegP.tr (Seg.cV (tX6_isWord_3 (g := g1) hr1 0 (Or.inr ⟨rfl, c3⟩)) mlX6_84 iyX6_isWord seX6_isWord oyX6_isWord rfl (by decide) rfl (by decide) (by decide) rfl rfl rfl rfl (Nat.le_of_ble_eq_true rfl) (Nat.le_of_ble_eq_true rfl)) ?_
  refine SegP.run [97, 138] 400 ?_
  refine And.intro (fun _ => ?_) (fun z => absurd rfl z)
  refine SegP.run [110, 138] 400 ?_
  by_cases c4 : wdP n b p 4
  · refine SegP.tr (Seg.cV (tX6_isWord_4 (g := g1) hr1 1 (Or.inl ⟨rfl, c4⟩)) mlX6_84 iyX6_isWord seX6_isWord oyX6_isWord rfl (by decide) rfl (by decide) (by decide) rfl rfl rfl rfl (Nat.le_of_ble_eq_true rfl) (Nat.le_of_ble_eq_true rfl)) ?_
    refine SegP.run [110, 138] 400 ?_
    refine And.intro (fun z => absurd z (by decide : ¬ (1 : Int32) = 0)) (fun _ => ?_)
    exact fin _ (by rw [kwI, kw, if_neg c0, if_neg c1, if_neg c2, if_neg c3, if_pos c4] <;> rfl)
  refine SegP.tr (Seg.cV (tX6_isWord_4 (g := g1) hr1 0 (Or.inr ⟨rfl, c4⟩)) mlX6_84 iyX6_isWord seX6_isWord oyX6_isWord rfl (by decide) rfl (by decide) (by decide) rfl rfl rfl rfl (Nat.le_of_ble_eq_true rfl) (Nat.le_of_ble_eq_true rfl)) ?_
  refine SegP.run [110, 138] 400 ?_
  refine And.intro (fun _ => ?_) (fun z => absurd rfl z)
  refine SegP.run [123, 138] 400 ?_
  by_cases c5 : wdP n b p 5
  · refine SegP.tr (Seg.cV (tX6_isWord_5 (g := g1) hr1 1 (Or.inl ⟨rfl, c5⟩)) mlX6_84 iyX6_isWord seX6_isWord oyX6_isWord rfl (by decide) rfl (by decide) (by decide) rfl rfl rfl rfl (Nat.le_of_ble_eq_true rfl) (Nat.le_of_ble_eq_true rfl)) ?_
    refine SegP.run [123, 138] 400 ?_
    refine And.intro (fun z => absurd z (by decide : ¬ (1 : Int32) = 0)) (fun _ => ?_)
    exact fin _ (by rw [kwI, kw, if_neg c0, if_neg c1, if_neg c2, if_neg c3, if_neg c4, if_pos c5] <;> rfl)
  refine SegP.tr (Seg.cV (tX6_isWord_5 (g := g1) hr1 0 (Or.inr ⟨rfl, c5⟩)) mlX6_84 iyX6_isWord seX6_isWord oyX6_isWord rfl (by decide) rfl (by decide) (by decide) rfl rfl rfl rfl (Nat.le_of_ble_eq_true rfl) (Nat.le_of_ble_eq_true rfl)) ?_
  refine SegP.run [123, 138] 400 ?_
  refine And.intro (fun _ => ?_) (fun z => absurd rfl z)
  refine SegP.run [137, 138] 400 ?_
  by_cases c6 : wdP n b p 6
  · refine SegP.tr (Seg.cV (tX6_isWord_6 (g := g1) hr1 1 (Or.inl ⟨rfl, c6⟩)) mlX6_84 iyX6_isWord seX6_isWord oyX6_isWord rfl (by decide) rfl (by decide) (by decide) rfl rfl rfl rfl (Nat.le_of_ble_eq_true rfl) (Nat.le_of_ble_eq_true rfl)) ?_
    refine SegP.run [137, 138] 400 ?_
    refine And.intro (fun z => absurd z (by decide : ¬ (1 : Int32) = 0)) (fun _ => ?_)
    exact fin _ (by rw [kwI, kw, if_neg c0, if_neg c1, if_neg c2, if_neg c3, if_neg c4, if_neg c5, if_pos c6] <;> rfl)
  refine SegP.tr (Seg.cV (tX6_isWord_6 (g := g1) hr1 0 (Or.inr ⟨rfl, c6⟩)) mlX6_84 iyX6_isWord seX6_isWord oyX6_isWord rfl (by decide) rfl (by decide) (by decide) rfl rfl rfl rfl (Nat.le_of_ble_eq_true rfl) (Nat.le_of_ble_eq_true rfl)) ?_
  refine SegP.run [137, 138] 400 ?_
  refine And.intro (fun _ => ?_) (fun z => absurd rfl z)
  refine SegP.run [138] 400 ?_
  exact fin _ (by rw [kwI, kw, if_neg c0, if_neg c1, if_neg c2, if_neg c3, if_neg c4, if_neg c5, if_neg c6] <;> rfl)
