/-! ===== parsing: the class's town; the reference takes coins and needs ===== -/
def sp_town (V : aV) : Int32 × aV := match pAll V.2.2.1.1 V.2.2.1.2 120 0 0 V.1 with
  | .inl q => (-1 - nI (tS V.2.2.1.1 V.2.2.1.2 q), (V.1, V.2.1, (0, V.2.2.1.2), V.2.2.2))
  | .inr (i, T') => (nI i, (T', V.2.1, (0, V.2.2.1.2), V.2.2.2))
theorem CV.wp {h h' : aH} {V : aV} {T : aH} (hv : CV h V) (e : tw h' 1 = T) (f : ∀ a, a = 0 ∨ (14 ≤ a ∧ a < 27) ∨ (53 ≤ a ∧ a < 63) → h' a = h a) (e27 : h' 27 1 = nI 0) : CV h' (T, V.2.1, (0, V.2.2.1.2), V.2.2.2) := by
  obtain ⟨h1, h2, h3, h4, h5, h6⟩ := hv
  refine ⟨e, by rw [f 0 (Or.inl rfl)]; exact h2, fun z => (tw_out fun j hj => f _ (by omega)).trans (h3 z), ⟨e27, fun k hk => absurd hk (Nat.not_lt_zero _)⟩, fun s hs => ?_, fun k hk => by rw [f 62 (by decide)]; exact h6 k hk⟩
  rw [f (54 + 2 * s) (by omega), f (55 + 2 * s) (by omega)]
  exact h5 s hs
set_option maxRecDepth 100000 in
set_option maxHeartbeats 400000 in
theorem zC_town {V : aV} (hV : VOk V) : CX mX5_town 11 [] V (sp_town V) := by
  intro h g hv
  obtain ⟨v1, v2, v3, v4, v5, v6⟩ := id hv
  have ht := hV.1
  refine MX.of okX5_town (by decide +kernel) (Nat.le_of_ble_eq_true rfl) (by decide) rfl (by decide) ?_
  refine SegP.run [] 400 ?_
  refine SegP.cV (tX1_readText (g := g) hV.2.2.1 v4 (by rw [v1]; exact ht)) mlX5_77 iyX1_readText seX1_readText oyX1_readText rfl (by decide) rfl (by decide) (by decide) rfl rfl rfl rfl (Nat.le_of_ble_eq_true rfl) ?_
  rintro _ h1 g1 (⟨i, T', e, rfl, e1, f⟩ | ⟨q, e, rfl, e6, f⟩)
  · rw [v1] at e
    have o := pAll_ok _ _ _ _ _ _ (Nat.zero_le _) ht e
    have es : sp_town V = (nI i, (T', V.2.1, (0, V.2.2.1.2), V.2.2.2)) := by rw [sp_town, e]
    rw [es]
    refine SegP.run [34] 400 ?_
    refine And.intro (fun z => by cases z) ?_
    refine And.intro (fun _ => ?_) (fun z => absurd (show (0 : Int32) ≤ nI i from nI_pos' (by omega)) z)
    refine SegP.run [] 400 ?_
    refine SegP.cV (tX4_becomeAs_1_30 (up2 h1 27 1 0) g1) mlX5_87 iyX4_becomeAs seX4_becomeAs oyX4_becomeAs rfl (by decide) rfl (by decide) (by decide) rfl rfl rfl rfl (Nat.le_of_ble_eq_true rfl) ?_
    rintro _ h2 g2 ⟨rfl, -, e2, f2⟩
    refine SegP.run [] 400 ?_
    refine SegP.ret ⟨rfl, hv.wp (by rw [e2, tw_up (Or.inl (by decide))]; exact e1) (fun a ha => (f2 a (by omega)).trans ((up2_row (by omega)).trans (f a (by omega) (by omega)))) (by rw [f2 27 (by decide)]; exact up2_s), fun a ha => (f2 a (by omega)).trans ((up2_row (by omega)).trans (f a (by omega) (by omega)))⟩
  · rw [v1] at e
    have es : sp_town V = (-1 - nI (tS V.2.2.1.1 V.2.2.1.2 q), (V.1, V.2.1, (0, V.2.2.1.2), V.2.2.2)) := by rw [sp_town, e]
    rw [es]
    refine SegP.run [34] 400 ?_
    refine And.intro (fun z => by cases z) ?_
    refine And.intro (fun z => absurd z (by decide : ¬ (0 : Int32) ≤ -1)) (fun _ => ?_)
    refine SegP.ret ⟨by rw [up2_row (show (29 : Nat) ≠ 27 by decide), e6], hv.wp (by rw [tw_up (Or.inr (by decide)), ← v1]; exact tw_out fun j hj => f _ (by omega) (by omega)) (fun a ha => (up2_row (by omega)).trans (f a (by omega) (by omega))) up2_s, fun a ha => (up2_row (by omega)).trans (f a (by omega) (by omega))⟩
/-- what an item taken leaves as it was, the reference's -/
def frN (h h' : aH) : Prop := (∀ a, a ≠ 63 → a ≠ 64 → h' a = h a) ∧ ∀ j, j < 7 ∨ 11 < j → h' 63 j = h 63 j
theorem frT.N {h h' : aH} (a : frT h h') : frN h h' := ⟨fun q hq _ => a.1 q hq, a.2⟩
theorem frN.tr {h h' h2 : aH} (a : frN h h') (c : frN h' h2) : frN h h2 := ⟨fun q hq hq2 => (c.1 q hq hq2).trans (a.1 q hq hq2), fun j hj => (c.2 j hj).trans (a.2 j hj)⟩
theorem frN.up {h h' : aH} (a : frN h h') {j : Nat} {x : Int32} : frN h (up2 h' 64 j x) := ⟨fun q hq hq2 => (up2_row hq2).trans (a.1 q hq hq2), fun j hj => (by rw [up2_row (show (63 : Nat) ≠ 64 by decide)]; exact a.2 j hj)⟩
theorem frN.rf {h : aH} : frN h h := ⟨fun _ _ _ => rfl, fun _ _ => rfl⟩
theorem RMx.up {h : aH} {n : Nat} {b : Nat → Int32} {p j : Nat} {x : Int32} (r : RMx h n b p) : RMx (up2 h 64 j x) n b p := by
  unfold RMx RM
  rw [up2_row (show (63 : Nat) ≠ 64 by decide), up2_row (show (68 : Nat) ≠ 64 by decide)]
  exact r
theorem RMx.s {h : aH} {n : Nat} {b : Nat → Int32} {p : Nat} (r : RMx h n b p) : h 63 9 = nI (tS n b p) := by
  obtain ⟨w, r, -⟩ := r
  exact r.2.2.1
def qM (n : Nat) (b : Nat → Int32) (res : rP) (h : aH) : List Value → aH → aG → Prop := fun r h' _ => (∃ q T', res = .inr (q, T') ∧ r = [.int 1] ∧ RMx h' n b q ∧ tm h' 64 = T' ∧ frN h h') ∨ (∃ q, res = .inl q ∧ r = [.int 0] ∧ h' 63 9 = nI (tS n b q) ∧ frN h h')
theorem iL {L w : Nat} (h : L + w < 108) {x : Int32} (hx : x = nI w) : vp_in (nI L + x) 108 ∧ (nI L + x).toNatClampNeg = L + w := by
  subst hx
  rw [nI_ad]
  exact ⟨in10 h (by decide), cl10 (by omega)⟩
set_option maxRecDepth 100000 in
set_option maxHeartbeats 400000 in
theorem tX6_takesCoin {h : aH} {g : aG} {n : Nat} {b : Nat → Int32} (hb : BT n b) {p : Nat} (hp : p ≤ n) (hr : RMx h n b p) : MX mX6_takesCoin 7 [.ref 63] h g (qM n b (pCoin n b p (tm h 64)) h) := by
  have n2 := (tE_r (b := b) hp).2.1
  have n3 := (tE_r (b := b) n2).2.1
  have n4 := (tE_r (b := b) n3).2.1
  refine MX.of okX6_takesCoin (by decide +kernel) (Nat.le_of_ble_eq_true rfl) (by decide) rfl (by decide) ?_
  refine SegP.run [] 400 ?_
  refine SegP.cV (tX6_takesNumber (g := g) hb hp hr 0 7 (by decide) (by decide)) mlX6_98 iyX6_takesNumber seX6_takesNumber oyX6_takesNumber rfl (by decide) rfl (by decide) (by decide) rfl rfl rfl rfl (Nat.le_of_ble_eq_true rfl) ?_
  rintro _ h1 g1 (⟨rfl, w1, r1, c1, f1⟩ | ⟨rfl, w1, rfl⟩)
  case inr =>
    refine SegP.run [] 400 ?_
    refine And.intro (fun z => absurd rfl z) (fun _ => ?_)
    exact And.intro (Or.inl rfl) (SegP.ret (Or.inr ⟨p, by rw [pCoin, if_neg w1], rfl, hr.s, frN.rf⟩))
  have v1 := w1.2.2
  refine SegP.run [12] 400 ?_
  refine And.intro (fun _ => ?_) (fun z => absurd (show (1 : Int32) ≠ 0 by decide) z)
  refine SegP.run [17] 400 ?_
  refine SegP.tr (Seg.of (b := (17, [some (.ref 63), some (.int (nI (tV n b p))), none], [], nW, h1, g1, ρ)) (by rw [← c1] <;> rfl)) ?_
  refine SegP.run [] 400 ?_
  refine SegP.cV (tX6_takesNumber (g := g1) hb n2 r1 0 6 (by decide) (by decide)) mlX6_98 iyX6_takesNumber seX6_takesNumber oyX6_takesNumber rfl (by decide) rfl (by decide) (by decide) rfl rfl rfl rfl (Nat.le_of_ble_eq_true rfl) ?_
  rintro _ h2 g2 (⟨rfl, w2, r2, c2, f2⟩ | ⟨rfl, w2, rfl⟩)
  case inr =>
    refine SegP.run [] 400 ?_
    refine And.intro (fun z => absurd rfl z) (fun _ => ?_)
    exact And.intro (Or.inl rfl) (SegP.ret (Or.inr ⟨_, by rw [pCoin, if_pos w1, if_neg w2], rfl, r1.s, f1.N⟩))
  have v2 := w2.2.2
  refine SegP.run [29] 400 ?_
  refine And.intro (fun _ => ?_) (fun z => absurd (show (1 : Int32) ≠ 0 by decide) z)
  refine SegP.run [34] 400 ?_
  refine SegP.tr (Seg.of (b := (34, [some (.ref 63), some (.int (nI (tV n b p))), some (.int (nI (tV n b (tE n b p))))], [], nW, h2, g2, ρ)) (by rw [← c2] <;> rfl)) ?_
  refine SegP.run [62] 400 ?_
  refine SegP.cV (tX6_takes_9 (g := g2) hb n3 r2) mlX6_102 iyX6_takes seX6_takes oyX6_takes rfl (by decide) rfl (by decide) (by decide) rfl rfl rfl rfl (Nat.le_of_ble_eq_true rfl) ?_
  rintro _ h3 g3 (⟨rfl, w3, r3, f3⟩ | ⟨rfl, w3, rfl⟩)
  case inr =>
    refine SegP.run [62] 400 ?_
    refine And.intro (fun _ => ?_) (fun z => absurd rfl z)
    refine SegP.run [] 400 ?_
    exact And.intro (Or.inl rfl) (SegP.ret (Or.inr ⟨_, by rw [pCoin, if_pos w1, if_pos w2, if_neg w3], rfl, r2.s, (f1.tr f2).N⟩))
  have f3' := (f1.tr f2).tr f3.T
  have rest : SegP mX6_takesCoin 7 (54, [some (.ref 63), some (.int (nI (tV n b p))), some (.int (nI (tV n b (tE n b p))))], [.int (nI (max 1 (tV n b (tE n b p)))), .ref 63], nW, h3, g3, ρ) (enP (qM n b (pCoin n b p (tm h 64)) h)) := by
    refine SegP.run [62] 400 ?_
    refine SegP.cV (tX6_takesNumber (g := g3) hb n4 r3 (max 1 (tV n b (tE n b p))) 6 (by omega) (by decide)) mlX6_98 iyX6_takesNumber seX6_takesNumber oyX6_takesNumber rfl (by decide) rfl (by decide) (by decide) rfl rfl rfl rfl (Nat.le_of_ble_eq_true rfl) ?_
    rintro _ h4 g4 (⟨rfl, w4, r4, c4, f4⟩ | ⟨rfl, w4, rfl⟩)
    case inr =>
      refine SegP.run [62] 400 ?_
      refine And.intro (fun z => absurd rfl z) (fun _ => ?_)
      refine SegP.run [] 400 ?_
      exact And.intro (Or.inl rfl) (SegP.ret (Or.inr ⟨_, by rw [pCoin, if_pos w1, if_pos w2, if_pos w3, if_neg w4], rfl, r3.s, f3'.N⟩))
    have x4 := in10 (p := 4 + tV n b p) (n := 108) (by omega) (by decide)
    have x12 := in10 (p := 12 + tV n b p) (n := 108) (by omega) (by decide)
    refine SegP.run [64] 400 ?_
    refine And.intro (fun _ => ?_) (fun z => absurd (show (1 : Int32) ≠ 0 by decide) z)
    refine SegP.run [] 400 ?_
    refine And.intro (by rw [idx4]; exact x4) ?_
    refine And.intro (by rw [idx12]; exact x12) ?_
    rw [idx4, idx12, cl10 (p := 4 + tV n b p) (by omega), cl10 (p := 12 + tV n b p) (by omega), up2_row (show (63 : Nat) ≠ 64 by decide), c4]
    have e64 : tm h4 64 = tm h 64 := tm_row ((f4.1 64 (by decide)).trans (f3'.1 64 (by decide)))
    refine And.intro (Or.inr rfl) (SegP.ret (Or.inl ⟨_, _, by rw [pCoin, if_pos w1, if_pos w2, if_pos w3, if_pos w4], rfl, r4.up.up, ?_, (f3'.tr f4).N.up.up⟩))
    rw [tm_set (j := 2) (k := tV n b p) (q := 12 + tV n b p) (show tV n b p < 8 by omega) rfl, tm_set (j := 1) (k := tV n b p) (q := 4 + tV n b p) (show tV n b p < 8 by omega) rfl, e64]
  refine SegP.run [54, 62] 400 ?_
  refine And.intro (fun z => absurd z (by decide : ¬ (1 : Int32) = 0)) (fun _ => ?_)
  refine And.intro (fun z => ?_) (fun z => ?_)
  · have : max 1 (tV n b (tE n b p)) = 1 := by have := (nI_leI (by omega) (b := 1) (by decide)).mp z; omega
    rw [this] at rest
    exact rest
  · have : max 1 (tV n b (tE n b p)) = tV n b (tE n b p) := by
      have : ¬ tV n b (tE n b p) ≤ 1 := fun y => z (nI_le (b := 1) y (by decide))
      omega
    rw [this] at rest
    exact rest
