/-! ===== parsing: what an item leaves; the class reads a text; town ===== -/
theorem tE_up {n : Nat} {b : Nat → Int32} {p : Nat} (hp : p ≤ n) : p ≤ tE n b p ∧ tE n b p ≤ n := by
  have := tS_r (b := b) hp
  have := tE_r (b := b) hp
  omega
theorem pOpt_ok {n : Nat} {b : Nat → Int32} {p j lo hi d q w : Nat} (hp : p ≤ n) (e : pOpt n b p j lo hi d = .inr (q, w)) : (p ≤ q ∧ q ≤ n) ∧ ((lo ≤ w ∧ w ≤ hi) ∨ w = d) := by
  have u1 := tE_up (b := b) hp
  have u2 := tE_up (b := b) u1.2
  unfold pOpt at e
  split at e
  case isFalse => cases e; exact ⟨by omega, Or.inr rfl⟩
  case isTrue =>
    split at e
    case isFalse => cases e
    case isTrue w2 => cases e; exact ⟨by omega, Or.inl w2.2⟩
theorem pCoin_ok {n : Nat} {b : Nat → Int32} {p q : Nat} {T T' : aH} (hp : p ≤ n) (ht : TOk T) (e : pCoin n b p T = .inr (q, T')) : TOk T' ∧ p ≤ q ∧ q ≤ n := by
  have u1 := tE_up (b := b) hp
  have u2 := tE_up (b := b) u1.2
  have u3 := tE_up (b := b) u2.2
  have u4 := tE_up (b := b) u3.2
  unfold pCoin at e
  split at e
  case isFalse => cases e
  case isTrue w1 =>
  split at e
  case isFalse => cases e
  case isTrue w2 =>
  split at e
  case isFalse => cases e
  case isTrue w3 =>
  split at e
  case isFalse => cases e
  case isTrue w4 =>
  cases e
  have := w4.2
  exact ⟨ht.coin (by omega), by omega⟩
theorem pNeed_ok {n : Nat} {b : Nat → Int32} {p q : Nat} {T T' : aH} (hp : p ≤ n) (ht : TOk T) (hn : nN T < 6) (e : pNeed n b p T = .inr (q, T')) : TOk T' ∧ p ≤ q ∧ q ≤ n := by
  have u1 := tE_up (b := b) hp
  have u2 := tE_up (b := b) u1.2
  unfold pNeed at e
  split at e
  case isFalse => cases e
  case isTrue w1 =>
  split at e
  case isFalse => cases e
  case isTrue w2 =>
  split at e
  · cases e
  · rename_i q' w e'
    cases e
    have o := pOpt_ok u2.2 e'
    have := w1.2
    have := w2.2
    exact ⟨(ht.newN hn (by omega)).1, by omega⟩
theorem pPro2_ok {n : Nat} {b : Nat → Int32} {p q k c s : Nat} {T T' : aH} (hp : p ≤ n) (ht : TOk T) (hn : nP T < 10) (hk : k ≤ 6 ∧ c ≤ 7 ∧ s ≤ 7) (e : pPro2 n b p T k c s = .inr (q, T')) : TOk T' ∧ p ≤ q ∧ q ≤ n := by
  have u1 := tE_up (b := b) hp
  have u2 := tE_up (b := b) u1.2
  have u3 := tE_up (b := b) u2.2
  unfold pPro2 at e
  split at e
  case isFalse => cases e
  case isTrue w1 =>
  split at e
  case isFalse => cases e
  case isTrue w2 =>
  split at e
  case isFalse => cases e
  case isTrue w3 =>
  split at e
  · cases e
  · rename_i q' w e'
    cases e
    have o := pOpt_ok u3.2 e'
    have := w2.2
    have := w3.2
    exact ⟨(ht.newP hn ⟨hk, by omega⟩).1, by omega⟩
theorem pPro_ok {n : Nat} {b : Nat → Int32} {p q k : Nat} {T T' : aH} (hp : p ≤ n) (ht : TOk T) (hn : nP T < 10) (hk : k ≤ 6) (e : pPro n b p T k = .inr (q, T')) : TOk T' ∧ p ≤ q ∧ q ≤ n := by
  have u1 := tE_up (b := b) hp
  unfold pPro at e
  split at e
  case isFalse => cases e
  case isTrue w1 =>
  split at e
  · cases e
  · rename_i q' w e'
    have o := pOpt_ok u1.2 e'
    have := w1.2
    have r := pPro2_ok o.1.2 ht hn ⟨hk, by omega, by omega⟩ e
    exact ⟨r.1, by omega⟩
theorem pItem_ok {n : Nat} {b : Nat → Int32} {p q : Nat} {T T' : aH} (hp : p ≤ n) (ht : TOk T) (e : pItem n b p T = .inr (q, T')) : TOk T' ∧ p ≤ q ∧ q ≤ n := by
  have u1 := tE_up (b := b) hp
  have kl := kw_le (n := n) (b := b) (p := p)
  unfold pItem at e
  split at e
  · have := pCoin_ok u1.2 ht e
    exact ⟨this.1, by omega⟩
  split at e
  · split at e
    case isFalse => cases e
    case isTrue w =>
    have := pNeed_ok u1.2 ht w e
    exact ⟨this.1, by omega⟩
  split at e
  · cases e
  · split at e
    case isFalse => cases e
    case isTrue w =>
    have := pPro_ok u1.2 ht w (by omega) e
    exact ⟨this.1, by omega⟩
/-- items, d of them at most, i read before -/
def pAll (n : Nat) (b : Nat → Int32) : Nat → Nat → Nat → aH → rP
  | 0, _, p, _ => .inl p
  | d + 1, i, p, T => match pItem n b p T with
    | .inl q => .inl q
    | .inr (q, T') => if tK n b q = 0 then .inr (i + 1, T') else if tK n b q = 3 then pAll n b d (i + 1) (tE n b q) T' else .inl q
theorem pAll_ok {n : Nat} {b : Nat → Int32} : ∀ d i p (T : aH) j T', p ≤ n → TOk T → pAll n b d i p T = .inr (j, T') → TOk T' ∧ j ≤ i + d := by
  intro d
  induction d with
  | zero => intro i p T j T' _ _ e; cases e
  | succ d ih =>
    intro i p T j T' hp ht e
    unfold pAll at e
    split at e
    · cases e
    · rename_i q T2 e2
      have o := pItem_ok hp ht e2
      split at e
      · cases e; exact ⟨o.1, by omega⟩
      split at e
      · have := ih _ _ _ _ _ (tE_up (b := b) o.2.2).2 o.1 e
        exact ⟨this.1, by omega⟩
      · cases e
def qA (n : Nat) (b : Nat → Int32) (res : rP) (h : aH) : List Value → aH → aG → Prop := fun r h' _ => (∃ i T', res = .inr (i, T') ∧ r = [.int (nI i)] ∧ tw h' 30 = T' ∧ frC h h') ∨ (∃ q, res = .inl q ∧ r = [.int (-1)] ∧ h' 29 6 = nI (tS n b q) ∧ frC h h')
set_option maxRecDepth 100000 in
set_option maxHeartbeats 400000 in
theorem tX1_readText {h : aH} {g : aG} {n : Nat} {b : Nat → Int32} (hb : BT n b) (tc : TC h n b) (ht : TOk (tw h 1)) : MX mX1_readText 9 [.ref 29, .ref 1] h g (qA n b (pAll n b 120 0 0 (tw h 1)) h) := by
  have bad : ∀ (q : Nat) (res : rP) (h' : aH) (g' : aG) (x : Int32), res = .inl q → h' 29 3 = nI (tS n b q) → frC h h' → SegP mX1_readText 9 (64, [some (.ref 29), some (.ref 1), some (.int x)], [], nW, h', g', ρ) (enP (qA n b res h)) := by
    intro q res h' g' x e e3 f
    refine SegP.run [] 400 ?_
    refine And.intro (fun z => by cases z) ?_
    exact SegP.ret (Or.inr ⟨q, e, rfl, by rw [up2_s]; exact e3, fun a ha hb => (up2_row ha).trans (f a ha hb)⟩)
  have loop : ∀ d i p (h1 : aH) (g1 : aG), d + i = 120 → p ≤ n → RCx h1 n b p → TOk (tw h1 30) → frC h h1 → SegP mX1_readText 9 (19, [some (.ref 29), some (.ref 1), some (.int (nI (i + 1)))], [], nW, h1, g1, ρ) (enP (qA n b (pAll n b d i p (tw h1 30)) h)) := by
    intro d
    induction d with
    | zero =>
      intro i p h1 g1 hd hp r1 t1 f1
      obtain rfl : i = 120 := by omega
      refine SegP.run [64] 400 ?_
      refine And.intro (fun _ => ?_) (fun z => absurd (show (120 : Int32) < nI (120 + 1) by decide) z)
      exact bad p _ h1 g1 _ rfl r1.2.2.1 f1
    | succ d ih =>
      intro i p h1 g1 hd hp r1 t1 f1
      refine SegP.run [64] 400 ?_
      refine And.intro (fun z => absurd z (nI_nlt (a := 120) (by omega) (by decide))) (fun _ => ?_)
      refine SegP.cV (tX1_readItem (g := g1) hb hp r1 t1) mlX1_45 iyX1_readItem seX1_readItem oyX1_readItem rfl (by decide) rfl (by decide) (by decide) rfl rfl rfl rfl (Nat.le_of_ble_eq_true rfl) ?_
      rintro _ h2 g2 (⟨q, T', e, rfl, r2, et, f2⟩ | ⟨q, e, rfl, e2, f2⟩)
      case inr =>
        refine SegP.run [] 400 ?_
        refine And.intro (fun z => absurd rfl z) (fun _ => ?_)
        exact SegP.ret (Or.inr ⟨q, by rw [pAll, e], rfl, e2, fun a ha hb => (f2 a ha hb).trans (f1 a ha hb)⟩)
      have f2' : frC h h2 := fun a ha hb => (f2 a ha hb).trans (f1 a ha hb)
      have o := pItem_ok hp t1 e
      subst et
      have k4 : tK n b q ≤ 4 := srA_le
      refine SegP.run [34] 400 ?_
      refine And.intro (fun _ => ?_) (fun z => absurd (show (1 : Int32) ≠ 0 by decide) z)
      refine SegP.run [43] 400 ?_
      refine And.intro (fun z => ?_) (fun z => ?_)
      case refine_2 =>
        have k0 : tK n b q = 0 := (nI_eq (by omega) (b := 0) (by decide)).mp (by rw [← r2.2.1]; exact Decidable.not_not.mp z)
        exact SegP.ret (Or.inl ⟨i + 1, tw h2 30, by rw [pAll, e]; exact if_pos k0, rfl, rfl, f2'⟩)
      have k0 : tK n b q ≠ 0 := fun y => z (by rw [r2.2.1, y]; rfl)
      refine SegP.run [54, 64] 400 ?_
      refine And.intro (fun z => ?_) (fun z => ?_)
      case refine_2 =>
        have k3 : tK n b q ≠ 3 := fun y => z (by rw [r2.2.1, y]; rfl)
        exact bad q _ h2 g2 _ (by rw [pAll, e]; exact (if_neg k0).trans (if_neg k3)) r2.2.2.1 f2'
      have k3 : tK n b q = 3 := (nI_eq (by omega) (b := 3) (by decide)).mp (by rw [← r2.2.1]; exact z)
      have u := (tE_up (b := b) o.2.2).2
      refine SegP.run [] 400 ?_
      refine SegP.cV (tX1_stepOn (g := g2) hb r2.1 (tE n b q) u r2.2.2.2.1) mlX1_42 iyX1_stepOn seX1_stepOn oyX1_stepOn rfl (by decide) rfl (by decide) (by decide) rfl rfl rfl rfl (Nat.le_of_ble_eq_true rfl) ?_
      rintro _ h3 g3 ⟨rfl, r3, f3⟩
      refine SegP.run [19] 400 ?_
      have et : tw h3 30 = tw h2 30 := tw30 f3
      have e9 : pAll n b (d + 1) i p (tw h1 30) = pAll n b d (i + 1) (tE n b q) (tw h3 30) := by
        rw [pAll, e, et]
        exact (if_neg k0).trans (if_pos k3)
      rw [e9]
      have := ih (i + 1) (tE n b q) h3 g3 (by omega) u r3 (by rw [et]; exact o.1) (fun a ha hb => (f3 a ha).trans (f2' a ha hb))
      rw [nI_succ (i + 1)] at this
      exact this
  refine MX.of okX1_readText (by decide +kernel) (Nat.le_of_ble_eq_true rfl) (by decide) rfl (by decide) ?_
  refine SegP.run [] 400 ?_
  refine SegP.cV (tX4_becomeAs_30_1 h g) mlX1_38 iyX4_becomeAs seX4_becomeAs oyX4_becomeAs rfl (by decide) rfl (by decide) (by decide) rfl rfl rfl rfl (Nat.le_of_ble_eq_true rfl) ?_
  rintro _ h1 g1 ⟨rfl, -, e1, f1⟩
  refine SegP.run [] 400 ?_
  refine And.intro (fun z => by cases z) ?_
  have tc1 : TC (up2 h1 29 4 0) n b := by
    unfold TC
    rw [up2_row (show (27 : Nat) ≠ 29 by decide), up2_row (show (28 : Nat) ≠ 29 by decide), f1 27 (by decide), f1 28 (by decide)]
    exact tc
  refine SegP.cV (tX1_stepOn (g := g1) hb tc1 0 (Nat.zero_le _) up2_s) mlX1_42 iyX1_stepOn seX1_stepOn oyX1_stepOn rfl (by decide) rfl (by decide) (by decide) rfl rfl rfl rfl (Nat.le_of_ble_eq_true rfl) ?_
  rintro _ h2 g2 ⟨rfl, r2, f2⟩
  have e2 : tw h2 30 = tw h 1 := by rw [tw30 f2, tw_up (Or.inl (by decide)), e1]
  refine SegP.run [19] 400 ?_
  have := loop 120 0 0 h2 g2 rfl (Nat.zero_le _) r2 (by rw [e2]; exact ht) (fun a ha hb => (f2 a ha).trans ((up2_row ha).trans (f1 a hb)))
  rw [e2] at this
  exact this
