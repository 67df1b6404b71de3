/-! ===== parsing: the reference takes a text; town ===== -/
def frG (h h' : aH) : Prop := (∀ a, a ≠ 63 → a ≠ 64 → h' a = h a) ∧ ∀ j, j < 7 ∨ 12 < j → h' 63 j = h 63 j
theorem frN.G {h h' : aH} (a : frN h h') : frG h h' := ⟨a.1, fun j hj => a.2 j (by omega)⟩
theorem frG.tr {h h' h2 : aH} (a : frG h h') (c : frG h' h2) : frG h h2 := ⟨fun q hq hq2 => (c.1 q hq hq2).trans (a.1 q hq hq2), fun j hj => (c.2 j hj).trans (a.2 j hj)⟩
theorem frG.up {h h' : aH} (a : frG h h') {x : Int32} : frG h (up2 h' 63 12 x) := ⟨fun q hq hq2 => (up2_row hq).trans (a.1 q hq hq2), fun j hj => (up2_k (by omega)).trans (a.2 j hj)⟩
theorem RMx.up12 {h : aH} {n : Nat} {b : Nat → Int32} {p : Nat} {x : Int32} (r : RMx h n b p) : RMx (up2 h 63 12 x) n b p := by
  unfold RMx RM
  rw [up2_k (show (6 : Nat) ≠ 12 by decide), up2_k (show (8 : Nat) ≠ 12 by decide), up2_k (show (9 : Nat) ≠ 12 by decide), up2_k (show (7 : Nat) ≠ 12 by decide), up2_k (show (10 : Nat) ≠ 12 by decide), up2_row (show (68 : Nat) ≠ 63 by decide)]
  exact r
theorem RMx.k {h : aH} {n : Nat} {b : Nat → Int32} {p : Nat} (r : RMx h n b p) : h 63 8 = nI (tK n b p) := by
  obtain ⟨w, r, -⟩ := r
  exact r.2.1
def qB (n : Nat) (b : Nat → Int32) (res : rP) (h : aH) : List Value → aH → aG → Prop := fun r h' _ => (∃ i T', res = .inr (i, T') ∧ r = [.int 1] ∧ h' 63 12 = nI i ∧ tm h' 64 = T' ∧ frG h h') ∨ (∃ q, res = .inl q ∧ r = [.int 0] ∧ h' 63 9 = nI (tS n b q) ∧ frG h h')
theorem pItem_end {n : Nat} {b : Nat → Int32} {p : Nat} {T : aH} (hp : p = n) : pItem n b p T = .inl p := by
  subst hp
  have s := (tS_r (n := p) (b := b) (Nat.le_refl p))
  have k0 : tK p b p = 0 := srA_0.mpr (by omega)
  have no : ∀ j, ¬ wdP p b p j := fun j w => by have := w.1; omega
  have k7 : kw p b p = 7 := by rw [kw, if_neg (no 0), if_neg (no 1), if_neg (no 2), if_neg (no 3), if_neg (no 4), if_neg (no 5), if_neg (no 6)]
  rw [pItem, if_neg (no 7), if_neg (no 8), if_pos k7]
set_option maxRecDepth 100000 in
set_option maxHeartbeats 400000 in
theorem tX6_takesAll {h : aH} {g : aG} {n : Nat} {b : Nat → Int32} (hb : BT n b) (tc : TM h n b) (ht : TOk (tm h 64)) : MX mX6_takesAll 9 [.ref 63] h g (qB n b (pAll n b 120 0 0 (tm h 64)) h) := by
  have hn := hb.1
  have loop : ∀ d i p (h1 : aH) (g1 : aG), d + i = 120 → p ≤ n → i ≤ p → RMx h1 n b p → TOk (tm h1 64) → h1 63 12 = nI i → frG h h1 → SegP mX6_takesAll 9 (16, [some (.ref 63), some (.int 1)], [], nW, h1, g1, ρ) (enP (qB n b (pAll n b d i p (tm h1 64)) h)) := by
    intro d
    induction d with
    | zero =>
      intro i p h1 g1 hd hp hi r1 t1 c1 f1
      have ee := pItem_end (n := n) (b := b) (p := p) (T := tm h1 64) (by omega)
      refine SegP.run [64] 400 ?_
      refine And.intro (fun z => absurd z (by decide : ¬ (1 : Int32) = 0)) (fun _ => ?_)
      refine SegP.cV (tX6_takesItem (g := g1) hb hp r1 t1) mlX6_145 iyX6_takesItem seX6_takesItem oyX6_takesItem rfl (by decide) rfl (by decide) (by decide) rfl rfl rfl rfl (Nat.le_of_ble_eq_true rfl) ?_
      rintro _ h2 g2 (⟨q, T', e, rfl, r2, et, f2⟩ | ⟨q, e, rfl, e2, f2⟩)
      · rw [ee] at e; cases e
      rw [ee] at e
      cases e
      refine SegP.run [] 400 ?_
      refine And.intro (fun z => absurd rfl z) (fun _ => ?_)
      exact And.intro (Or.inl rfl) (SegP.ret (Or.inr ⟨p, rfl, rfl, e2, f1.tr f2.G⟩))
    | succ d ih =>
      intro i p h1 g1 hd hp hi r1 t1 c1 f1
      refine SegP.run [64] 400 ?_
      refine And.intro (fun z => absurd z (by decide : ¬ (1 : Int32) = 0)) (fun _ => ?_)
      refine SegP.cV (tX6_takesItem (g := g1) hb hp r1 t1) mlX6_145 iyX6_takesItem seX6_takesItem oyX6_takesItem rfl (by decide) rfl (by decide) (by decide) rfl rfl rfl rfl (Nat.le_of_ble_eq_true rfl) ?_
      rintro _ h2 g2 (⟨q, T', e, rfl, r2, et, f2⟩ | ⟨q, e, rfl, e2, f2⟩)
      case inr =>
        refine SegP.run [] 400 ?_
        refine And.intro (fun z => absurd rfl z) (fun _ => ?_)
        exact And.intro (Or.inl rfl) (SegP.ret (Or.inr ⟨q, by rw [pAll, e], rfl, e2, f1.tr f2.G⟩))
      have o := pItem_ok hp t1 e
      subst et
      have k4 : tK n b q ≤ 4 := srA_le
      have f3 : frG h (up2 h2 63 12 (h2 63 12 + 1)) := (f1.tr f2.G).up
      have r3 : RMx (up2 h2 63 12 (h2 63 12 + 1)) n b q := r2.up12
      have c3 : up2 h2 63 12 (h2 63 12 + 1) 63 12 = nI (i + 1) := by rw [up2_s, f2.2 12 (Or.inr (by decide)), c1, nI_succ i]
      have t3 : tm (up2 h2 63 12 (h2 63 12 + 1)) 64 = tm h2 64 := tm_up (by decide)
      refine SegP.run [29] 400 ?_
      refine And.intro (fun _ => ?_) (fun z => absurd (show (1 : Int32) ≠ 0 by decide) z)
      refine SegP.run [39] 400 ?_
      refine And.intro (fun z => by cases z) ?_
      generalize up2 h2 63 12 (h2 63 12 + 1) = h3 at f3 r3 c3 t3 ⊢
      have bk := r3.k
      refine SegP.run [51, 53] 400 ?_
      refine And.intro (fun z => ?_) (fun z => ?_)
      case refine_2 =>
        have k3 : tK n b q = 3 := (nI_eq (by omega) (b := 3) (by decide)).mp (by rw [← bk]; exact Decidable.not_not.mp z)
        have u := tE_up (b := b) o.2.2
        have u2 := (tE_r (b := b) o.2.2).2.2.2 k3
        have u3 := (tS_r (b := b) o.2.2).1
        obtain ⟨w, r4, -⟩ := id r3
        refine SegP.run [16] 400 ?_
        refine And.intro (fun z => absurd z (by decide : ¬ (1 : Int32) = 0)) (fun _ => ?_)
        refine SegP.cV (tX6_next (g := g2) hb r4.1 (tE n b q) u.2 r4.2.2.2.1) mlX6_88 iyX6_next seX6_next oyX6_next rfl (by decide) rfl (by decide) (by decide) rfl rfl rfl rfl (Nat.le_of_ble_eq_true rfl) ?_
        rintro _ h5 g5 ⟨rfl, r5, f5⟩
        have e5 : tm h5 64 = tm h2 64 := (tm_row (f5.1 64 (by decide))).trans t3
        have e9 : pAll n b (d + 1) i p (tm h1 64) = pAll n b d (i + 1) (tE n b q) (tm h5 64) := by
          rw [pAll, e, e5]
          exact (if_neg (by omega)).trans (if_pos k3)
        rw [e9]
        refine SegP.run [16] 400 ?_
        exact ih (i + 1) (tE n b q) h5 g5 (by omega) u.2 (by omega) r5 (by rw [e5]; exact o.1) (by rw [f5.2 12 (by decide) (by decide) (by decide) (by decide)]; exact c3) (f3.tr f5.T.N.G)
      have k3 : tK n b q ≠ 3 := fun y => z (by rw [bk, y]; rfl)
      refine SegP.run [16] 400 ?_
      refine And.intro (fun _ => ?_) (fun z => absurd rfl z)
      refine SegP.run [64] 400 ?_
      refine And.intro (fun _ => ?_) (fun z => absurd rfl z)
      refine SegP.run [] 400 ?_
      refine And.intro (fun z => ?_) (fun z => ?_)
      · have k0 : tK n b q ≠ 0 := fun y => z (by rw [bk, y]; rfl)
        exact And.intro (Or.inl rfl) (SegP.ret (Or.inr ⟨q, by rw [pAll, e]; exact (if_neg k0).trans (if_neg k3), rfl, r3.s, f3⟩))
      · have k0 : tK n b q = 0 := (nI_eq (by omega) (b := 0) (by decide)).mp (by rw [← bk]; exact Decidable.not_not.mp z)
        exact And.intro (Or.inr rfl) (SegP.ret (Or.inl ⟨i + 1, tm h2 64, by rw [pAll, e]; exact if_pos k0, rfl, c3, t3, f3⟩))
  refine MX.of okX6_takesAll (by decide +kernel) (Nat.le_of_ble_eq_true rfl) (by decide) rfl (by decide) ?_
  refine SegP.run [] 400 ?_
  refine And.intro (fun z => by cases z) ?_
  refine And.intro (fun z => by cases z) ?_
  have tc1 : TM (up2 (up2 h 63 7 0) 63 12 0) n b := by
    unfold TM
    rw [up2_k (show (6 : Nat) ≠ 12 by decide), up2_k (show (6 : Nat) ≠ 7 by decide), up2_row (show (68 : Nat) ≠ 63 by decide), up2_row (show (68 : Nat) ≠ 63 by decide)]
    exact tc
  refine SegP.cV (tX6_next (g := g) hb tc1 0 (Nat.zero_le _) (by rw [up2_k (by decide), up2_s]; rfl)) mlX6_88 iyX6_next seX6_next oyX6_next rfl (by decide) rfl (by decide) (by decide) rfl rfl rfl rfl (Nat.le_of_ble_eq_true rfl) ?_
  rintro _ h2 g2 ⟨rfl, r2, f2⟩
  have e2 : tm h2 64 = tm h 64 := by rw [tm_row (f2.1 64 (by decide)), tm_up (by decide), tm_up (by decide)]
  have f1 : frG h (up2 (up2 h 63 7 0) 63 12 0) := ⟨fun a ha _ => (up2_row ha).trans (up2_row ha), fun j hj => (up2_k (by omega)).trans (up2_k (by omega))⟩
  refine SegP.run [16] 400 ?_
  have := loop 120 0 0 h2 g2 rfl (Nat.zero_le _) (Nat.zero_le _) r2 (by rw [e2]; exact ht) (by rw [f2.2 12 (by decide) (by decide) (by decide) (by decide), up2_s]; rfl) (f1.tr f2.T.N.G)
  rw [e2] at this
  exact this
theorem MV.wp {h h' : aH} {V : aV} {T : aH} (hv : MV h V) (e : tm h' 64 = T) (f : ∀ a, a = 65 ∨ a = 67 ∨ a = 72 ∨ a = 73 ∨ a = 74 → h' a = h a) (f3 : h' 63 3 = h 63 3) (f6 : h' 63 6 = nI 0) : MV h' (T, V.2.1, (0, V.2.2.1.2), V.2.2.2) := by
  obtain ⟨h1, h2, h3, h4, h5, h6⟩ := hv
  refine ⟨e, f3.trans h2, fun z => (tm_row' (f 65 (by decide))).trans (h3 z), ⟨f6, fun k hk => absurd hk (Nat.not_lt_zero _)⟩, fun s hs => ?_, fun k hk => by rw [f 67 (by decide)]; exact h6 k hk⟩
  rw [f 72 (by decide), f 73 (by decide), f 74 (by decide)]
  exact h5 s hs
set_option maxRecDepth 100000 in
set_option maxHeartbeats 400000 in
theorem zM_town {V : aV} (hV : VOk V) : DX mX6_town 11 [] V (sp_town V) := by
  intro h g hv
  obtain ⟨v1, v2, v3, v4, v5, v6⟩ := id hv
  have ht := hV.1
  refine MX.of okX6_town (by decide +kernel) (Nat.le_of_ble_eq_true rfl) (by decide) rfl (by decide) ?_
  refine SegP.run [] 400 ?_
  refine SegP.sX (tX6_carry_64_66 h g) mlX6_148 syX6_carry oyX6_carry rfl (by decide) rfl rfl rfl (Nat.le_of_ble_eq_true rfl) ?_
  rintro _ h1 g1 ⟨rfl, e1, f1⟩
  have t1 : tm h1 64 = V.1 := (tm_row (f1 64 (by decide))).trans v1
  have tc : TM h1 V.2.2.1.1 V.2.2.1.2 := by
    unfold TM
    rw [f1 63 (by decide), f1 68 (by decide)]
    exact v4
  refine SegP.run [] 400 ?_
  refine SegP.cV (tX6_takesAll (g := g1) hV.2.2.1 tc (by rw [t1]; exact ht)) mlX6_152 iyX6_takesAll seX6_takesAll oyX6_takesAll rfl (by decide) rfl (by decide) (by decide) rfl rfl rfl rfl (Nat.le_of_ble_eq_true rfl) ?_
  rintro _ h2 g2 (⟨i, T', e, rfl, c2, e2, f2⟩ | ⟨q, e, rfl, e6, f2⟩)
  · rw [t1] at e
    have es : sp_town V = (nI i, (T', V.2.1, (0, V.2.2.1.2), V.2.2.2)) := by rw [sp_town, e]
    rw [es]
    refine SegP.run [43] 400 ?_
    refine And.intro (fun z => by cases z) ?_
    refine And.intro (fun _ => ?_) (fun z => absurd (show (1 : Int32) ≠ 0 by decide) z)
    refine SegP.run [] 400 ?_
    refine SegP.ret ⟨by rw [up2_k (show (12 : Nat) ≠ 6 by decide), c2], hv.wp (by rw [tm_up (by decide)]; exact e2) (fun a ha => (up2_row (by omega)).trans ((f2.1 a (by omega) (by omega)).trans (f1 a (by omega)))) ((up2_k (by decide)).trans ((f2.2 3 (by decide)).trans (by rw [f1 63 (by decide)]))) up2_s, fun a ha => (up2_row (by omega)).trans ((f2.1 a (by omega) (by omega)).trans (f1 a (by omega)))⟩
  · rw [t1] at e
    have es : sp_town V = (-1 - nI (tS V.2.2.1.1 V.2.2.1.2 q), (V.1, V.2.1, (0, V.2.2.1.2), V.2.2.2)) := by rw [sp_town, e]
    rw [es]
    refine SegP.run [43] 400 ?_
    refine And.intro (fun z => by cases z) ?_
    refine And.intro (fun z => absurd rfl z) (fun _ => ?_)
    refine SegP.sX (tX6_carry_66_64 (up2 h2 63 6 0) g2) mlX6_148 syX6_carry oyX6_carry rfl (by decide) rfl rfl rfl (Nat.le_of_ble_eq_true rfl) ?_
    rintro _ h3 g3 ⟨rfl, e3, f3⟩
    refine SegP.run [] 400 ?_
    have t3 : tm h3 64 = V.1 := by rw [e3, tm_up (by decide), tm_row' (f2.1 66 (by decide) (by decide)), e1, v1]
    refine SegP.ret ⟨by rw [f3 63 (by decide), up2_k (show (9 : Nat) ≠ 6 by decide), e6], hv.wp t3 (fun a ha => (f3 a (by omega)).trans ((up2_row (by omega)).trans ((f2.1 a (by omega) (by omega)).trans (f1 a (by omega))))) (by rw [f3 63 (by decide)]; exact (up2_k (by decide)).trans ((f2.2 3 (by decide)).trans (by rw [f1 63 (by decide)]))) (by rw [f3 63 (by decide)]; exact up2_s), fun a ha => (f3 a (by omega)).trans ((up2_row (by omega)).trans ((f2.1 a (by omega) (by omega)).trans (f1 a (by omega))))⟩
