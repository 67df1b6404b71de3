/-! ===== parsing: the reference takes needs ===== -/
theorem up2_rp {T : aH} {j k : Nat} {x y : Int32} : up2 (up2 T j k x) j k y = up2 T j k y := by
  funext a i
  simp only [up2]
  repeat' split
  all_goals first | rfl | (exfalso; omega)
theorem up2_id {T : aH} {j k : Nat} {x : Int32} (e : T j k = x) : up2 T j k x = T := by
  subst e
  funext a i
  by_cases h1 : a = j
  · subst h1
    by_cases h2 : i = k
    · subst h2; exact up2_s
    · exact up2_k h2
  · rw [up2_row h1]
theorem up2_sw {T : aH} {j k j2 k2 : Nat} {x y : Int32} (d : j ≠ j2 ∨ k ≠ k2) : up2 (up2 T j k x) j2 k2 y = up2 (up2 T j2 k2 y) j k x := by
  funext a i
  simp only [up2]
  repeat' split
  all_goals first | rfl | (exfalso; omega)
set_option maxRecDepth 100000 in
set_option maxHeartbeats 400000 in
theorem tX6_takesNeed {h : aH} {g : aG} {n : Nat} {b : Nat → Int32} (hb : BT n b) {p : Nat} (hp : p ≤ n) (hr : RMx h n b p) (ht : TOk (tm h 64)) (hn : nN (tm h 64) < 6) : MX mX6_takesNeed 7 [.ref 63] h g (qM n b (pNeed n b p (tm h 64)) h) := by
  have n2 := (tE_r (b := b) hp).2.1
  have n3 := (tE_r (b := b) n2).2.1
  have n4 := (tE_r (b := b) n3).2.1
  have eN : h 64 1 = nI (nN (tm h 64)) := (tm_0 (h := h) (k := 1) (by decide)).symm.trans ht.nn.2
  have eL : (80 : Int32) + 3 * h 64 (1 : Int32).toNatClampNeg = nI (80 + 3 * nN (tm h 64)) := by
    rw [show h 64 (1 : Int32).toNatClampNeg = nI (nN (tm h 64)) from eN, show (80 : Int32) = nI 80 from rfl, show (3 : Int32) = nI 3 from rfl, nI_ml, nI_ad]
  generalize hN : nN (tm h 64) = N at *
  generalize hL : 80 + 3 * N = L at *
  have i0 : vp_in (nI L) 108 ∧ (nI L).toNatClampNeg = L := ⟨in10 (by omega) (by decide), cl10 (by omega)⟩
  have i1 := iL (L := L) (w := 1) (by omega) (x := 1) rfl
  have i2 := iL (L := L) (w := 2) (by omega) (x := 2) rfl
  refine MX.of okX6_takesNeed (by decide +kernel) (Nat.le_of_ble_eq_true rfl) (by decide) rfl (by decide) ?_
  refine SegP.run [12] 400 ?_
  refine And.intro (in10 (p := 1) (by decide) (by decide)) ?_
  refine SegP.tr (Seg.of (b := (12, [some (.ref 63), some (.int (nI L))], [], nW, h, g, ρ)) (by rw [← eL] <;> rfl)) ?_
  refine SegP.run [] 400 ?_
  refine SegP.cV (tX6_takesNumber (g := g) hb hp hr 0 5 (by decide) (by decide)) mlX6_98 iyX6_takesNumber seX6_takesNumber oyX6_takesNumber rfl (by decide) rfl (by decide) (by decide) rfl rfl rfl rfl (Nat.le_of_ble_eq_true rfl) ?_
  rintro _ h1 g1 (⟨rfl, w1, r1, c1, f1⟩ | ⟨rfl, w1, rfl⟩)
  case inr =>
    refine SegP.run [] 400 ?_
    refine And.intro (fun z => absurd rfl z) (fun _ => ?_)
    exact And.intro (Or.inl rfl) (SegP.ret (Or.inr ⟨p, by rw [pNeed, if_neg w1], rfl, hr.s, frN.rf⟩))
  have v1 := w1.2.2
  refine SegP.run [23] 400 ?_
  refine And.intro (fun _ => ?_) (fun z => absurd (show (1 : Int32) ≠ 0 by decide) z)
  refine SegP.run [] 400 ?_
  refine And.intro i0.1 ?_
  rw [i0.2, c1]
  refine SegP.cV (tX6_takesNumber (g := g1) hb n2 (r1.up (j := L) (x := nI (tV n b p))) 1 40 (by decide) (by decide)) mlX6_98 iyX6_takesNumber seX6_takesNumber oyX6_takesNumber rfl (by decide) rfl (by decide) (by decide) rfl rfl rfl rfl (Nat.le_of_ble_eq_true rfl) ?_
  rintro _ h2 g2 (⟨rfl, w2, r2, c2, f2⟩ | ⟨rfl, w2, rfl⟩)
  case inr =>
    refine SegP.run [] 400 ?_
    refine And.intro (fun z => absurd rfl z) (fun _ => ?_)
    exact And.intro (Or.inl rfl) (SegP.ret (Or.inr ⟨_, by rw [pNeed, if_pos w1, if_neg w2], rfl, r1.up.s, f1.N.up⟩))
  have v2 := w2.2.2
  have F2 : frN h h2 := f1.N.up.tr f2.N
  have T2 : tm h2 64 = up2 (tm h 64) 9 N (nI (tV n b p)) := by
    rw [tm_row (f2.1 64 (by decide)), tm_set (j := 9) (k := N) (q := L) hn hL.symm, tm_row (f1.1 64 (by decide))]
  refine SegP.run [45] 400 ?_
  refine And.intro (fun _ => ?_) (fun z => absurd (show (1 : Int32) ≠ 0 by decide) z)
  refine SegP.run [] 400 ?_
  refine And.intro i1.1 ?_
  refine And.intro i2.1 ?_
  rw [i1.2, i2.2, c2]
  have T3 : tm (up2 (up2 h2 64 (L + 1) (nI (tV n b (tE n b p)))) 64 (L + 2) 1) 64 = up2 (up2 (up2 (tm h 64) 9 N (nI (tV n b p))) 10 N (nI (tV n b (tE n b p)))) 11 N 1 := by
    rw [tm_set (j := 11) (k := N) (q := L + 2) hn (by rw [← hL]; rfl), tm_set (j := 10) (k := N) (q := L + 1) hn (by rw [← hL]; rfl), T2]
  have F3 : frN h (up2 (up2 h2 64 (L + 1) (nI (tV n b (tE n b p)))) 64 (L + 2) 1) := F2.up.up
  have r3 : RMx (up2 (up2 h2 64 (L + 1) (nI (tV n b (tE n b p)))) 64 (L + 2) 1) n b (tE n b (tE n b p)) := r2.up.up
  generalize up2 (up2 h2 64 (L + 1) (nI (tV n b (tE n b p)))) 64 (L + 2) 1 = h3 at T3 F3 r3 ⊢
  have rest : ∀ (q w : Nat) (h5 : aH) (g5 : aG), pOpt n b (tE n b (tE n b p)) 13 1 99 1 = .inr (q, w) → RMx h5 n b q → frN h h5 → tm h5 64 = up2 (up2 (up2 (tm h 64) 9 N (nI (tV n b p))) 10 N (nI (tV n b (tE n b p)))) 11 N (nI w) → SegP mX6_takesNeed 7 (99, [some (.ref 63), some (.int (nI L))], [], nW, h5, g5, ρ) (enP (qM n b (pNeed n b p (tm h 64)) h)) := by
    intro q w h5 g5 e r5 F5 T5
    have e1 : h5 64 1 = nI N := by
      rw [← tm_0 (h := h5) (k := 1) (by decide), T5]
      rw [up2_row (by decide), up2_row (by decide), up2_row (by decide), tm_0 (by decide)]
      exact eN
    refine SegP.run [] 400 ?_
    refine And.intro (in10 (p := 1) (by decide) (by decide)) ?_
    refine And.intro (in10 (p := 1) (by decide) (by decide)) ?_
    refine And.intro (Or.inr rfl) (SegP.ret (Or.inl ⟨q, _, by rw [pNeed, if_pos w1, if_pos w2, e], rfl, r5.up, ?_, F5.up⟩))
    show tm (up2 h5 64 1 (h5 64 1 + 1)) 64 = _
    rw [tm_set (j := 0) (k := 1) (q := 1) (by decide) rfl, T5, e1, ← nI_succ N, adN, hN]
  refine SegP.cV (tX6_takes_13 (g := g2) hb n3 r3) mlX6_102 iyX6_takes seX6_takes oyX6_takes rfl (by decide) rfl (by decide) (by decide) rfl rfl rfl rfl (Nat.le_of_ble_eq_true rfl) ?_
  rintro _ h4 g4 (⟨rfl, w3, r4, f4⟩ | ⟨rfl, w3, rfl⟩)
  case inr =>
    refine SegP.run [99] 400 ?_
    refine And.intro (fun _ => ?_) (fun z => absurd rfl z)
    exact rest _ 1 _ _ (by rw [pOpt, if_neg w3]) r3 F3 T3
  refine SegP.run [99] 400 ?_
  refine And.intro (fun z => absurd z (by decide : ¬ (1 : Int32) = 0)) (fun _ => ?_)
  refine SegP.cV (tX6_takesNumber (g := g4) hb n4 r4 1 99 (by decide) (by decide)) mlX6_98 iyX6_takesNumber seX6_takesNumber oyX6_takesNumber rfl (by decide) rfl (by decide) (by decide) rfl rfl rfl rfl (Nat.le_of_ble_eq_true rfl) ?_
  rintro _ h5 g5 (⟨rfl, w4, r5, c5, f5⟩ | ⟨rfl, w4, rfl⟩)
  case inl =>
    refine SegP.run [87] 400 ?_
    refine And.intro (fun _ => ?_) (fun z => absurd (show (1 : Int32) ≠ 0 by decide) z)
    refine SegP.run [99] 400 ?_
    refine And.intro i2.1 ?_
    rw [i2.2, c5]
    refine rest _ _ _ _ (by rw [pOpt, if_pos w3, if_pos w4]) r5.up ((F3.tr f4.T.N).tr f5.N).up ?_
    rw [tm_set (j := 11) (k := N) (q := L + 2) hn (by rw [← hL]; rfl), tm_row (f5.1 64 (by decide)), tm_row (f4.1 64 (by decide)), T3, up2_rp]
  refine SegP.run [] 400 ?_
  refine And.intro (fun z => absurd rfl z) (fun _ => ?_)
  exact And.intro (Or.inl rfl) (SegP.ret (Or.inr ⟨_, by rw [pNeed, if_pos w1, if_pos w2, pOpt, if_pos w3, if_neg w4], rfl, r4.s, F3.tr f4.T.N⟩))
