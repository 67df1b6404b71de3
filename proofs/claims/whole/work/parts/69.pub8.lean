/-! ===== the reference: likely, helps ===== -/
/-- a coin as 1 in 1 -/
def cnT (T : aH) (c : Nat) : aH := up2 (up2 T 1 c 1) 2 c 1
theorem cn_kU {T : aH} {c t : Nat} : ∀ p, kU (cnT T c) t p = kU T t p := by
  intro p
  induction p with
  | zero => rfl
  | succ p ih => simp only [kU, ih]; rfl
theorem cn_kN {T : aH} {c t : Nat} : kN (cnT T c) t = kN T t := cn_kU (nP T)
theorem cn_brg {T : aH} {c : Nat} {s t : Int32} : ∀ p, brgU (cnT T c) s t p = brgU T s t p := by
  intro p
  induction p with
  | zero => rfl
  | succ p ih => simp only [brgU, ih]; rfl
theorem cn_met {T : aH} {c k : Nat} {s : Int32} : metB (cnT T c) k s = metB T k s := by
  unfold metB brg
  rw [show nP (cnT T c) = nP T from rfl, show cnT T c 9 k = T 9 k from rfl, show cnT T c 10 k = T 10 k from rfl, cn_brg]
theorem cn_wr {T : aH} {c : Nat} {s : Int32} : wrN (cnT T c) s = wrN T s := by
  show SN _ (nN T) = SN _ (nN T)
  exact SN_congr fun k _ => by rw [cn_met]; rfl
theorem su_a {T : aH} {c j : Nat} (hc : c < 8) (hj : j < 8) : aN (suT T (nI c)) j = if j = c then bN T c else aN T j := by
  by_cases e : j = c
  · subst e
    rw [if_pos rfl]
    simp [aN, bN, suT, hj]
  · rw [if_neg e]
    have : ¬ nI j = nI c := fun z => e ((nI_eq (by omega) (by omega)).mp z)
    simp [aN, suT, this]
theorem cn_a {T : aH} {c j : Nat} : aN (cnT T c) j = if j = c then 1 else aN T j := by
  by_cases e : j = c
  · subst e; simp [aN, cnT, up2]
  · simp [aN, cnT, up2, e]
theorem cn_b {T : aH} {c j : Nat} : bN (cnT T c) j = if j = c then 1 else bN T j := by
  by_cases e : j = c
  · subst e; simp [bN, cnT, up2]
  · simp [bN, cnT, up2, e]
theorem su_cn {T : aH} {c t : Nat} (hc : c < 8) : ∀ k, k ≤ 8 → wNU (suT T (nI c)) t k = (if c < k then bN T c else 1) * wNU (cnT T c) t k := by
  intro k
  induction k with
  | zero => intro _; simp [wNU]
  | succ k ih =>
    intro hk
    have sb : bN (suT T (nI c)) k = bN T k := by simp [bN, suT]
    simp only [wNU]
    rw [ih (by omega), su_a hc (by omega), sb, cn_a, cn_b]
    by_cases e : k = c
    · subst e
      rw [if_pos rfl, if_pos rfl, if_pos rfl, if_neg (Nat.lt_irrefl _), if_pos (Nat.lt_succ_self _), Nat.one_mul, Nat.sub_self]
      by_cases z : t.testBit k = true
      · rw [if_pos z, if_pos z, Nat.mul_one, Nat.mul_comm]
      · rw [if_neg z, if_neg z]; simp
    · rw [if_neg e, if_neg e, if_neg e, Nat.mul_assoc]
      by_cases z : c < k
      · rw [if_pos z, if_pos (show c < k + 1 by omega)]
      · rw [if_neg z, if_neg (show ¬ c < k + 1 by omega)]
theorem wh_cn {T : aH} {c : Nat} : ∀ k, k ≤ 8 → whNU T k = (if c < k then bN T c else 1) * whNU (cnT T c) k := by
  intro k
  induction k with
  | zero => intro _; simp [whNU]
  | succ k ih =>
    intro hk
    simp only [whNU]
    rw [ih (by omega), cn_b]
    by_cases e : k = c
    · subst e
      rw [if_pos rfl, if_neg (Nat.lt_irrefl _), if_pos (Nat.lt_succ_self _), Nat.one_mul, Nat.mul_one, Nat.mul_comm]
    · rw [if_neg e, Nat.mul_assoc]
      by_cases z : c < k
      · rw [if_pos z, if_pos (show c < k + 1 by omega)]
      · rw [if_neg z, if_neg (show ¬ c < k + 1 by omega)]
/-- the worth of all promises with a coin as 1 in 1 -/
def wcN (T : aH) (c : Nat) : Nat := woN (cnT T c) (nI (2 ^ nP T - 1)) (nN T)
theorem hp_wc {T : aH} (ht : TOk T) {c : Nat} (hc : c < 8) : hpN T c = bN T c * wcN T c := by
  have htc : TOk (cnT T c) := ht.coin (a := 1) (b := 1) (by decide)
  have hp := pow_le10 ht.np.1
  have e : wcN T c = FN (cnT T c) (fun K => wrN (cnT T c) (nI (2 ^ nP T - 1) &&& nI K)) := wo_FN htc
  rw [e]
  unfold FN hpN
  rw [← SN_mul]
  refine SN_congr fun t _ => ?_
  have kl := (kept_nI ht t).2
  show wN (suT T (nI c)) t * wrN T (nI (kN T t)) = bN T c * (wrN (cnT T c) (nI (2 ^ nP T - 1) &&& nI (kN (cnT T c) t)) * wN (cnT T c) t)
  rw [cn_kN, cn_wr, nI_and, Nat.and_comm, Nat.and_two_pow_sub_one_of_lt_two_pow kl]
  have := su_cn (T := T) (t := t) hc 8 (by decide)
  rw [if_pos hc] at this
  show wNU _ t 8 * _ = _ * (_ * wNU _ t 8)
  rw [this]
  ac_rfl
theorem wh_wc {T : aH} {c : Nat} (hc : c < 8) : whN T = bN T c * whN (cnT T c) := by
  have := wh_cn (T := T) (c := c) 8 (by decide)
  rw [if_pos hc] at this
  exact this
theorem cross {x y u v bi bf hi hf W : Nat} (h1 : hi = bi * x) (h2 : hf = bf * y) (h3 : W = bi * u) (h4 : W = bf * v) (hW : 0 < W) : y * u < x * v ↔ hf < hi := by
  have hb1 : 0 < bi := Nat.pos_of_ne_zero fun z => by rw [z, Nat.zero_mul] at h3; omega
  have hb2 : 0 < bf := Nat.pos_of_ne_zero fun z => by rw [z, Nat.zero_mul] at h4; omega
  have e1 : bi * bf * (y * u) = W * hf := by rw [h2, h3]; ac_rfl
  have e2 : bi * bf * (x * v) = W * hi := by rw [h1, h4]; ac_rfl
  rw [← Nat.mul_lt_mul_left (Nat.mul_pos hb1 hb2), e1, e2]
  exact Nat.mul_lt_mul_left hW
def abL (T : aH) : Option Nat → Int64
  | none => 0
  | some f => lN (wcN T f)
def beL (T : aH) : Option Nat → Int64
  | none => 1
  | some f => lN (whN (cnT T f))
theorem he_some {T : aH} : ∀ i, ∃ f, heS T (i + 1) = some f := by
  intro i
  induction i with
  | zero => exact ⟨0, se_pos trivial (fun k h => by cases h)⟩
  | succ i ih =>
    obtain ⟨f, hf⟩ := ih
    by_cases z : (True ∧ ∀ k, heS T (i + 1) = some k → hpN T k < hpN T (i + 1))
    · exact ⟨i + 1, se_pos z.1 z.2⟩
    · exact ⟨f, (se_neg z).trans hf⟩
set_option maxRecDepth 100000 in
set_option maxHeartbeats 800000 in
theorem zM_helps {V : aV} (hV : VOk V) : DX mX6_helps 11 [] V (sp_helps V) := by
  intro h g hv
  have ht := hV.1
  have np10 := ht.np.1
  have hp := pow_le10 ht.np.1
  have w8 := wh8 ht
  refine MX.of okX6_helps (by decide +kernel) (Nat.le_of_ble_eq_true rfl) (by decide) rfl (by decide) ?_
  refine SegP.run [10] 400 ?_
  let I : Nat → aCfg → Prop := fun i d => ∃ h', d = (10, [some (.ref 63), some (.int (foI (heS V.1 i))), some (.long (abL V.1 (heS V.1 i))), none, some (.long (beL V.1 (heS V.1 i))), none, some (.int (nI i)), none, none, none, none], [], nW, h', g, ρ) ∧ MV h' V ∧ ∀ a, a < 63 → h' a = h a
  refine SegP.tp (SegP.iter I 8 (fun i hi d hd => ?_) _ ⟨h, rfl, hv, fun a _ => rfl⟩) (fun d hd => ?_)
  · obtain ⟨h', rfl, hv', fr⟩ := hd
    have x4 : vp_in ((4 : Int32) + nI i) 108 := by rw [idx4]; exact in10 (by omega) (by decide)
    have x12 : vp_in ((12 : Int32) + nI i) 108 := by rw [idx12]; exact in10 (by omega) (by decide)
    have c4 : ((4 : Int32) + nI i).toNatClampNeg = 4 + i := by rw [idx4]; exact cl10 (by omega)
    have c12 : ((12 : Int32) + nI i).toNatClampNeg = 12 + i := by rw [idx12]; exact cl10 (by omega)
    have htc : TOk (cnT V.1 i) := ht.coin (a := 1) (b := 1) (by decide)
    let h1 : aH := up2 (up2 h' 64 (4 + i) 1) 64 (12 + i) 1
    have et : tm h1 64 = cnT V.1 i := by
      show tm (up2 (up2 h' 64 (4 + i) 1) 64 (12 + i) 1) 64 = _
      rw [tm_set (j := 2) (k := i) (q := 12 + i) (show i < 8 from hi) rfl, tm_set (j := 1) (k := i) (q := 4 + i) (show i < 8 from hi) rfl, hv'.1]
      rfl
    have hft := tX6_findThrows h1 g (by rw [et]; exact htc)
    have hf := FT_ft (h := h1) (by rw [et]; exact htc)
    rw [et] at hf
    have hwo : MS mX6_worthOf 5 [.ref 63, .int (nI (2 ^ nP V.1 - 1))] (ftH h1) g [.int (nI (wcN V.1 i))] (ftH h1) g := tX6_worthOf (ftH h1) (cnT V.1 i) g hf (nI (2 ^ nP V.1 - 1))
    have e0 : ftH h1 64 (0 : Int32).toNatClampNeg = nI (nP V.1) := by
      show ftH h1 64 0 = _
      unfold ftH
      rw [ftU_o (by decide) (by decide), up2_row (by decide)]
      show up2 (up2 h' 64 (4 + i) 1) 64 (12 + i) 1 64 0 = _
      rw [up2_k (by omega), up2_k (by omega)]
      exact (mR0 hv').1.trans ht.np.2
    have es : (1 : Int32) <<< (ftH h1 64 (0 : Int32).toNatClampNeg &&& 31) - 1 = nI (2 ^ nP V.1 - 1) := by
      rw [e0, show (1 : Int32) <<< (nI (nP V.1) &&& 31) = nI (2 ^ nP V.1) from bt1_nI (by omega)]
      exact nI_sb (b := 1) Nat.one_le_two_pow
    have w8c := wh8 htc
    have wol : wcN V.1 i < 2 ^ 31 := wo_l htc
    have e15 : (ftH h1 63 15).toInt64 = lN (whN (cnT V.1 i)) := by rw [hf.2.2.1, w8c.2.2]; exact nI_l (by omega)
    have ewo : (nI (wcN V.1 i)).toInt64 = lN (wcN V.1 i) := nI_l wol
    -- the end: the coin as it was
    have fin : ∀ (bs : Int32) (ab be : Int64) (s9 : Option Value), bs = foI (heS V.1 (i + 1)) → ab = abL V.1 (heS V.1 (i + 1)) → be = beL V.1 (heS V.1 (i + 1)) → SegP mX6_helps 11 (115, [some (.ref 63), some (.int bs), some (.long ab), none, some (.long be), none, some (.int (nI i)), some (.int (h' 64 (4 + i))), some (.int (h' 64 (12 + i))), s9, none], [], nW, ftH h1, g, ρ) (I (i + 1)) := by
      rintro bs ab be s9 rfl rfl rfl
      refine SegP.run [10] 400 ?_
      refine And.intro x4 ?_
      refine And.intro x12 ?_
      rw [c4, c12]
      refine SegP.tr (Seg.fg 7) (SegP.tr (Seg.fg 8) (SegP.tr (Seg.fg 9) ?_))
      refine SegP.rf ⟨up2 (up2 (ftH h1) 64 (4 + i) (h' 64 (4 + i))) 64 (12 + i) (h' 64 (12 + i)), by rw [nI_succ] <;> rfl, ?_, fun a ha => ?_⟩
      · have r64 : up2 (up2 (ftH h1) 64 (4 + i) (h' 64 (4 + i))) 64 (12 + i) (h' 64 (12 + i)) 64 = h' 64 := by
          funext k
          by_cases k12 : k = 12 + i
          · subst k12; rw [up2_s]
          · rw [up2_k k12]
            by_cases k4 : k = 4 + i
            · subst k4; rw [up2_s]
            · rw [up2_k k4]
              show ftU _ _ _ 64 k = _
              rw [ftU_o (by decide) (by decide), up2_row (by decide)]
              show up2 (up2 h' 64 (4 + i) 1) 64 (12 + i) 1 64 k = _
              rw [up2_k k12, up2_k k4]
        have ro : ∀ a, a ≠ 63 → a ≠ 64 → a ≠ 69 → a ≠ 70 → up2 (up2 (ftH h1) 64 (4 + i) (h' 64 (4 + i))) 64 (12 + i) (h' 64 (12 + i)) a = h' a := fun a q1 q2 q3 q4 => by
          rw [up2_row q2, up2_row q2]
          show ftU _ _ _ a = _
          rw [ftU_o q3 q4, up2_row q1]
          show up2 (up2 h' 64 (4 + i) 1) 64 (12 + i) 1 a = _
          rw [up2_row q2, up2_row q2]
        have r63 : ∀ j, j ≠ 15 → up2 (up2 (ftH h1) 64 (4 + i) (h' 64 (4 + i))) 64 (12 + i) (h' 64 (12 + i)) 63 j = h' 63 j := fun j hj => by
          rw [up2_row (show (63 : Nat) ≠ 64 by decide), up2_row (show (63 : Nat) ≠ 64 by decide)]
          show ftU _ _ _ 63 j = _
          rw [ftU_o (by decide) (by decide), up2_k hj]
          show up2 (up2 h' 64 (4 + i) 1) 64 (12 + i) 1 63 j = _
          rw [up2_row (show (63 : Nat) ≠ 64 by decide), up2_row (show (63 : Nat) ≠ 64 by decide)]
        refine hv'.fr (fun a ha => ?_) (r63 3 (by decide)) (r63 6 (by decide))
        rcases ha with rfl | ha
        · exact r64
        · exact ro a (by omega) (by omega) (by omega) (by omega)
      · rw [up2_row (by omega), up2_row (by omega), ftF a ha]
        show up2 (up2 h' 64 (4 + i) 1) 64 (12 + i) 1 a = _
        rw [up2_row (by omega), up2_row (by omega)]
        exact fr a ha
    refine SegP.run [10, 115] 400 ?_
    refine And.intro (fun c => ?_) (fun c => ?_)
    · exact (lim_ge (N := 8) hi (by decide) c).elim
    refine And.intro x4 ?_
    refine And.intro x12 ?_
    refine And.intro x4 ?_
    refine And.intro x12 ?_
    rw [c4, c12]
    refine SegP.tr (Seg.cV hft mlX6_218 iyX6_findThrows seX6_findThrows oyX6_findThrows rfl (by decide) rfl (by decide) (by decide) rfl rfl rfl rfl (Nat.le_of_ble_eq_true rfl) (Nat.le_of_ble_eq_true rfl)) ?_
    refine SegP.run [115] 400 ?_
    refine And.intro (in10 (p := 0) (by decide) (by decide)) ?_
    refine SegP.tr (Seg.cV (show MS mX6_worthOf 5 [.ref 63, .int ((1 : Int32) <<< (ftH h1 64 (0 : Int32).toNatClampNeg &&& 31) - 1)] (ftH h1) g [.int (nI (wcN V.1 i))] (ftH h1) g by rw [es]; exact hwo) mlX6_234 iyX6_worthOf seX6_worthOf oyX6_worthOf rfl (by decide) rfl (by decide) (by decide) rfl rfl rfl rfl (Nat.le_of_ble_eq_true rfl) (Nat.le_of_ble_eq_true rfl)) ?_
    refine SegP.run [115] 400 ?_
    have take : (∀ f, heS V.1 i = some f → hpN V.1 f < hpN V.1 i) → foI (some i) = foI (heS V.1 (i + 1)) ∧ (nI (wcN V.1 i)).toInt64 = abL V.1 (heS V.1 (i + 1)) ∧ (ftH h1 63 15).toInt64 = beL V.1 (heS V.1 (i + 1)) := fun y => by
      rw [show heS V.1 (i + 1) = some i from se_pos trivial y]
      exact ⟨rfl, ewo, e15⟩
    cases hx : heS V.1 i with
    | none =>
      rw [hx] at take
      obtain ⟨t1, t2, t3⟩ := take (fun f y => by cases y)
      refine And.intro (fun _ => ?_) (fun z => absurd (show (-1 : Int32) < 0 by decide) z)
      exact fin _ _ _ _ t1 t2 t3
    | some f =>
      rw [hx] at take
      have fl : f < 8 := by have := (se_lt i f hx).1; omega
      have htf : TOk (cnT V.1 f) := ht.coin (a := 1) (b := 1) (by decide)
      have wfl : wcN V.1 f < 2 ^ 31 := wo_l htf
      have w8f := wh8 htf
      refine And.intro (fun z => absurd (show nI f < 0 from z) (nI_pos (by omega))) (fun _ => ?_)
      have cr := cross (hp_wc ht hi) (hp_wc ht fl) (wh_wc hi) (wh_wc fl) (show 0 < whN V.1 by omega)
      have cmp : (lN (wcN V.1 f) * lN (whN (cnT V.1 i)) < lN (wcN V.1 i) * lN (whN (cnT V.1 f))) ↔ hpN V.1 f < hpN V.1 i := by
        rw [← cr, lN_mul, lN_mul, lI_nat, lI_nat]
        have m1 : wcN V.1 f * whN (cnT V.1 i) ≤ 2 ^ 31 * 1679616 := Nat.mul_le_mul (by omega) w8c.2.1
        have m2 : wcN V.1 i * whN (cnT V.1 f) ≤ 2 ^ 31 * 1679616 := Nat.mul_le_mul (by omega) w8f.2.1
        generalize wcN V.1 f * whN (cnT V.1 i) = A at m1 ⊢
        generalize wcN V.1 i * whN (cnT V.1 f) = B at m2 ⊢
        rw [lI_lt (by omega) (by omega)]
        omega
      refine And.intro (fun z => ?_) (fun z => ?_)
      · have z1 : lg_cmp ((nI (wcN V.1 i)).toInt64 * lN (whN (cnT V.1 f))) (lN (wcN V.1 f) * (ftH h1 63 15).toInt64) ≤ 0 := z
        rw [ewo, e15] at z1
        have z2 : ¬ hpN V.1 f < hpN V.1 i := fun y => absurd (cmp.mpr y) (Int64.not_lt.mpr ((lg_cmp_le _ _).mp z1))
        have en : heS V.1 (i + 1) = some f := (se_neg fun y => z2 (y.2 f hx)).trans hx
        exact fin _ _ _ _ (by rw [en]) (by rw [en]) (by rw [en])
      · have z1 : ¬ lg_cmp ((nI (wcN V.1 i)).toInt64 * lN (whN (cnT V.1 f))) (lN (wcN V.1 f) * (ftH h1 63 15).toInt64) ≤ 0 := z
        rw [ewo, e15] at z1
        have z2 : hpN V.1 f < hpN V.1 i := cmp.mp (Int64.not_le.mp fun y => z1 ((lg_cmp_le _ _).mpr y))
        obtain ⟨t1, t2, t3⟩ := take (fun f' y => by obtain rfl : f = f' := Option.some.inj y; exact z2)
        exact fin _ _ _ _ t1 t2 t3
  · obtain ⟨h', rfl, hv', fr⟩ := hd
    refine SegP.run [] 400 ?_
    refine And.intro (fun c => ?_) (fun c => ?_)
    · obtain ⟨f, hx⟩ := he_some (T := V.1) 7
      refine mid' hv' fr ?_
      show (hfI (heS V.1 (7 + 1)), V) = (foI (heS V.1 (7 + 1)), V)
      rw [hx]
      rfl
    · exact (lim_le (N := 8) (Nat.le_refl _) (by decide) c).elim
set_option maxRecDepth 100000 in
set_option maxHeartbeats 400000 in
theorem zM_likely {V : aV} (hV : VOk V) (p : Int32) : DX mX6_likely 11 [.int p] V (sp_likely V p) := by
  intro h g hv
  obtain ⟨v1, v2, v3, v4, v5, v6⟩ := id hv
  have ht := hV.1
  refine MX.of okX6_likely (by decide +kernel) (Nat.le_of_ble_eq_true rfl) (by decide) rfl (by decide) ?_
  refine SegP.run [] 400 ?_
  refine SegP.tr (Seg.cV (tX6_isSet ht v1 p) mlX6_200 iyX6_isSet seX6_isSet oyX6_isSet rfl (by decide) rfl (by decide) (by decide) rfl rfl rfl rfl (Nat.le_of_ble_eq_true rfl) (Nat.le_of_ble_eq_true rfl)) ?_
  refine SegP.run [8] 400 ?_
  have ref : ¬ isS V.1 p → SegP mX6_likely 11 (8, [some (.ref 63), some (.int p), none, none], [], nW, h, g, ρ) (enP (enM h (sp_likely V p))) := fun z0 => by
    refine SegP.run [] 400 ?_
    refine SegP.tr (Seg.cV (tX6_fd h g 0 (by decide) 0 (by decide) (-1000001) (by decide)) mlX6_51 iyX6_finding seX6_finding oyX6_finding rfl (by decide) rfl (by decide) (by decide) rfl rfl rfl rfl (Nat.le_of_ble_eq_true rfl) (Nat.le_of_ble_eq_true rfl)) ?_
    refine SegP.run [] 400 ?_
    exact mfn hv (k := 0) (by decide) (by rw [sp_likely, if_neg z0])
  by_cases q0 : isS V.1 p
  case neg =>
    refine And.intro (fun z => absurd (bn1 z) q0) (fun _ => ?_)
    exact ref q0
  refine And.intro (fun _ => ?_) (fun z => absurd q0 (bn0 z))
  obtain ⟨S, hS, rfl⟩ := isS_N ht q0
  have hp := pow_le10 ht.np.1
  have hs := sets_lt ht hS
  refine SegP.tr (Seg.cV (tX6_findThrows h g (by rw [v1]; exact ht)) mlX6_218 iyX6_findThrows seX6_findThrows oyX6_findThrows rfl (by decide) rfl (by decide) (by decide) rfl rfl rfl rfl (Nat.le_of_ble_eq_true rfl) (Nat.le_of_ble_eq_true rfl)) ?_
  have hf := FT_ft (h := h) (by rw [v1]; exact ht)
  rw [v1] at hf
  refine SegP.run [20] 400 ?_
  refine SegP.tp (SegP.iter (fun i d => ∃ h', d = (20, [some (.ref 63), some (.int (nI S)), some (.int (nI i)), none], [], nW, h', g, ρ) ∧ (∀ a, a ≠ 71 → h' a = ftH h a) ∧ ∀ n, n < i → h' 71 n = nI 0) 11 (fun i hi d hd => ?_) _ ⟨ftH h, rfl, fun a _ => rfl, fun n hn => absurd hn (Nat.not_lt_zero _)⟩) (fun d hd => ?_)
  · obtain ⟨h', rfl, f1, q1⟩ := hd
    refine SegP.run [20] 400 ?_
    refine And.intro (fun z => ?_) (fun z => ?_)
    · exact absurd z (fun y => absurd (show nI 10 < nI i from y) (nI_nlt (by omega) (by decide)))
    refine And.intro (in10 (p := i) (n := 11) hi (by decide)) ?_
    refine SegP.rf ⟨_, by rw [nI_succ] <;> rfl, fun a ha => by rw [up2_row ha]; exact f1 a ha, fun n hn => ?_⟩
    rw [cl10 (p := i) (by omega)]
    by_cases y : n = i
    · subst y; rw [up2_s]; rfl
    · rw [up2_k y]; exact q1 n (by omega)
  obtain ⟨h1, rfl, f1, q1⟩ := hd
  refine SegP.run [41] 400 ?_
  refine And.intro (fun z => ?_) (fun z => absurd (show nI 10 < nI 11 from nI_lt (by decide) (by decide)) z)
  let J : Nat → aCfg → Prop := fun i d => ∃ h', d = (41, [some (.ref 63), some (.int (nI S)), some (.int (nI i)), none], [], nW, h', g, ρ) ∧ (∀ a, a ≠ 71 → h' a = ftH h a) ∧ ∀ n, n < 11 → h' 71 n = nI (SN (fun t => (if pcN (S &&& kN V.1 t) = n then 1 else 0) * wN V.1 t) i)
  refine SegP.tp (SegP.iter J 256 (fun i hi d hd => ?_) _ ⟨h1, rfl, f1, q1⟩) (fun d hd => ?_)
  · obtain ⟨h', rfl, f2, q2⟩ := hd
    have ci := cl10 hi
    have hin := in10 (p := i) (n := 256) hi (by decide)
    have hl : S &&& kN V.1 i < 1024 := Nat.lt_of_le_of_lt Nat.and_le_left hs
    have pl := pcN_le _ hl
    have hinp := in10 (p := pcN (S &&& kN V.1 i)) (n := 11) (by omega) (by decide)
    have cp := cl10 (p := pcN (S &&& kN V.1 i)) (by omega)
    have c69 : h' 69 i = nI (kN V.1 i) := by rw [f2 69 (by decide), hf.1 i hi]; exact (kept_nI ht i).1
    have c70 : h' 70 i = nI (wN V.1 i) := by rw [f2 70 (by decide), hf.2.1 i hi]; exact wg8 ht hi
    have ea : nI S &&& nI (kN V.1 i) = nI (S &&& kN V.1 i) := nI_and _ _
    refine SegP.run [41] 400 ?_
    refine And.intro (fun z => ?_) (fun z => ?_)
    · exact (lim_ge (N := 256) hi (by decide) z).elim
    refine And.intro hin ?_
    rw [ci, c69]
    refine SegP.tr (Seg.cS (show MS mX6_many 1 [.int (nI S &&& nI (kN V.1 i))] h' g [.int (nI (pcN (S &&& kN V.1 i)))] h' g by rw [ea]; exact tX6_many h' g _ hl) mlX6_240 syX6_many oyX6_many rfl (by decide) rfl rfl rfl (Nat.le_of_ble_eq_true rfl) (Nat.le_of_ble_eq_true rfl)) ?_
    refine SegP.run [41] 400 ?_
    refine And.intro hinp ?_
    refine And.intro hin ?_
    refine And.intro hinp ?_
    rw [ci, cp, c70, q2 _ (by omega), nI_ad]
    refine SegP.rf ⟨_, by rw [nI_succ i] <;> rfl, fun a ha => by rw [up2_row ha]; exact f2 a ha, fun n hn => ?_⟩
    show _ = nI (SN _ i + (if pcN (S &&& kN V.1 i) = n then 1 else 0) * wN V.1 i)
    by_cases y : n = pcN (S &&& kN V.1 i)
    · subst y; rw [up2_s, if_pos rfl, Nat.one_mul]
    · rw [up2_k y, if_neg (fun w => y w.symm), Nat.zero_mul, Nat.add_zero]; exact q2 n hn
  obtain ⟨h2, rfl, f2, q2⟩ := hd
  have q3 : ∀ n, n < 11 → h2 71 n = nI (lkN V.1 S n) := q2
  have hv2 : MV h2 V := (ftV hv).fr (fun a ha => f2 a (by omega)) (by rw [f2 63 (by decide)]) (by rw [f2 63 (by decide)])
  have fr : ∀ a, a < 63 → h2 a = h a := fun a ha => (f2 a (by omega)).trans (ftF a ha)
  have hk0 : lkS V.1 S (0 + 1) = some 0 := se_pos trivial (fun k h => by cases h)
  refine SegP.run [83] 400 ?_
  refine And.intro (fun z => ?_) (fun z => ?_)
  · refine SegP.tr (Seg.of (b := (83, [some (.ref 63), some (.int (nI S)), some (.int (foI (lkS V.1 S (0 + 1)))), some (.int (nI (0 + 1)))], [], nW, h2, g, ρ)) (by rw [hk0] <;> rfl)) ?_
    refine SegP.tr (Seg.iter (fun i => (83, [some (.ref 63), some (.int (nI S)), some (.int (foI (lkS V.1 S (i + 1)))), some (.int (nI (i + 1)))], [], nW, h2, g, ρ)) 10 (fun i hi => ?_)) ?_
    · obtain ⟨f, hf'⟩ := lk_some (T := V.1) (S := S) i
      have fl := (se_lt (i + 1) f hf').1
      have hin := in10 (p := i + 1) (n := 11) (by omega) (by decide)
      have ci := cl10 (p := i + 1) (by omega)
      have hinf := in10 (p := f) (n := 11) (by omega) (by decide)
      have cf := cl10 (p := f) (by omega)
      rw [hf']
      refine Seg.run [83] 400 ?_
      refine And.intro (fun z => ?_) (fun z => ?_)
      · exact absurd (show nI 10 < nI (i + 1) from z) (nI_nlt (by omega) (by decide))
      refine And.intro hin ?_
      refine And.intro hinf ?_
      rw [ci, show foI (some f) = nI f from rfl, cf, q3 _ (show f < 11 by omega)]
      refine And.intro (fun z => ?_) (fun z => ?_)
      · have z1 : h2 71 (i + 1) ≤ nI (lkN V.1 S f) := z
        rw [q3 _ (by omega)] at z1
        have z2 := (nI_leI (lk_l ht _ _) (lk_l ht _ _)).mp z1
        refine Seg.of ?_
        rw [lk_step0 hf' (by omega), nI_succ (i + 1)] <;> rfl
      · have z1 : ¬ h2 71 (i + 1) ≤ nI (lkN V.1 S f) := z
        rw [q3 _ (by omega)] at z1
        have z2 : lkN V.1 S f < lkN V.1 S (i + 1) := by
          rcases Nat.lt_or_ge (lkN V.1 S f) (lkN V.1 S (i + 1)) with y | y
          · exact y
          · exact absurd ((nI_leI (lk_l ht _ _) (lk_l ht _ _)).mpr y) z1
        refine Seg.of ?_
        rw [lk_step1 hf' z2, nI_succ (i + 1)] <;> rfl
    · refine SegP.run [] 400 ?_
      refine And.intro (fun z => ?_) (fun z => ?_)
      · exact mid' hv2 fr (by rw [sp_likely, if_pos q0, cl_nI (by omega)])
      · exact absurd (show nI 10 < nI 11 from nI_lt (by decide) (by decide)) z
  · exact (lim_le (N := 256) (Nat.le_refl _) (by decide) z).elim
