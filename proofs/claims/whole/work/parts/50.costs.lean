/-! ===== the class's chances: what sets cost ===== -/
def osN (T : aH) (S K : Nat) : Nat → Nat := SN (fun q => if S.testBit q = true then ow1N T q (K.testBit q) else 0)
theorem os_ow {T : aH} {S K : Nat} (hS : S < 1024) (hK : K < 1024) : ∀ p, p ≤ 10 → owNU T (nI S) (nI K) p = osN T S K p := by
  intro p
  induction p with
  | zero => intro _; rfl
  | succ p ih =>
    intro hp
    have e : osN T S K (p + 1) = osN T S K p + (if S.testBit p = true then ow1N T p (K.testBit p) else 0) := rfl
    simp only [owNU]
    rw [e, ih (by omega), hsB_nI hS (by omega), hsB_nI hK (by omega)]
    by_cases z : S.testBit p = true
    · rw [if_pos z, if_pos z]
    · rw [if_neg z, if_neg z]; rfl
theorem ow_os {T : aH} (ht : TOk T) {S K : Nat} (hS : S < 1024) (hK : K < 1024) : owN T (nI S) (nI K) = osN T S K (nP T) := os_ow hS hK (nP T) ht.np.1
theorem os_rs {T : aH} {S K : Nat} (hS : S < 1024) (h0 : 0 < S) : ∀ p, p ≤ 10 → osN T S K p = osN T (rsN S) K p + (if tzN S < p then ow1N T (tzN S) (K.testBit (tzN S)) else 0) := by
  obtain ⟨t1, t2, t3, t4, t5⟩ := tzN_ok S hS h0
  intro p
  induction p with
  | zero => intro _; rfl
  | succ p ih =>
    intro hp
    have hb := rsN_bit S hS h0 p (by omega)
    show osN T S K p + (if S.testBit p = true then ow1N T p (K.testBit p) else 0) = osN T (rsN S) K p + (if (rsN S).testBit p = true then ow1N T p (K.testBit p) else 0) + _
    rw [ih (by omega)]
    by_cases e : p = tzN S
    · rw [e, t2, t5, if_pos rfl, if_neg (Nat.lt_irrefl _), if_neg (by simp), if_pos (Nat.lt_succ_self _)]
    · rw [show S.testBit p = (rsN S).testBit p by rw [hb, decide_eq_false e, Bool.or_false]]
      by_cases e2 : tzN S < p
      · rw [if_pos e2, if_pos (show tzN S < p + 1 by omega)]; omega
      · rw [if_neg e2, if_neg (show ¬ tzN S < p + 1 by omega)]; omega
theorem os_0 {T : aH} {K : Nat} {p : Nat} : osN T 0 K p = 0 := SN_zero fun q _ => if_neg (by simp)
/-- the mean of what a set costs, times all -/
def mcN (T : aH) (S : Nat) : Nat := FN T (fun K => owN T (nI S) (nI K))
def c1N (T : aH) (q : Nat) : Nat := FN T (fun K => ow1N T q (K.testBit q))
theorem FN_add {T : aH} {F G : Nat → Nat} : FN T (fun K => F K + G K) = FN T F + FN T G := by
  unfold FN
  rw [← SN_add]
  exact SN_congr fun t _ => Nat.add_mul _ _ _
theorem FN_mul {T : aH} {F : Nat → Nat} {c : Nat} : FN T (fun K => c * F K) = c * FN T F := by
  unfold FN
  rw [← SN_mul]
  exact SN_congr fun t _ => Nat.mul_assoc _ _ _
theorem FN_1 {T : aH} (ht : TOk T) : FN T (fun _ => 1) = whN T := by
  rw [← wN8 ht]
  exact SN_congr fun t _ => Nat.one_mul _
theorem mc_rs {T : aH} (ht : TOk T) {S : Nat} (hS : S < 2 ^ nP T) (h0 : 0 < S) : mcN T S = mcN T (rsN S) + c1N T (tzN S) := by
  have hs := sets_lt ht hS
  have hr := (pcN_rs S hs h0).2
  unfold mcN c1N
  rw [← FN_add]
  refine FN_congr fun t _ => ?_
  have hk := kN_lt ht t
  rw [ow_os ht hs hk, ow_os ht (by omega) hk, os_rs hs h0 (nP T) ht.np.1, if_pos (tz_lt hS ht.np.1 h0)]
theorem mc_0 {T : aH} (ht : TOk T) : mcN T 0 = 0 := by
  have : mcN T 0 = FN T (fun _ => 0) := FN_congr fun t _ => by rw [ow_os ht (by decide) (kN_lt ht t), os_0]
  rw [this]
  exact SN_zero fun t _ => Nat.zero_mul _
theorem and_pow {K q : Nat} (hK : K < 1024) (hq : q < 10) : (nI K &&& nI (2 ^ q) = nI (2 ^ q)) ↔ K.testBit q = true := by
  have h2 : 2 ^ q < 1024 := Nat.lt_of_lt_of_le (Nat.pow_lt_pow_right (show 1 < 2 by decide) hq) (show 2 ^ 10 ≤ 1024 by decide)
  have h1 : K &&& 2 ^ q < 1024 := Nat.lt_of_le_of_lt Nat.and_le_left hK
  rw [nI_and, nI_eq (by omega) (by omega)]
  constructor
  · intro e
    have h3 : (2 ^ q).testBit q = true := Nat.testBit_two_pow_self
    rw [← e] at h3
    simpa [Nat.testBit_two_pow] using h3
  · intro e
    apply Nat.eq_of_testBit_eq
    intro i
    simp only [Nat.testBit_and, Nat.testBit_two_pow]
    by_cases z : q = i
    · subst z; simp [e]
    · simp [z]
/-- one promise's cost out of the weight with which it is kept -/
theorem c1_of {T : aH} (ht : TOk T) {q : Nat} (hq : q < 10) : FN T (fun K => if nI K &&& nI (2 ^ q) = nI (2 ^ q) then 1 else 0) ≤ whN T ∧ c1N T q = FN T (fun K => if nI K &&& nI (2 ^ q) = nI (2 ^ q) then 1 else 0) * ow1N T q true + (whN T - FN T (fun K => if nI K &&& nI (2 ^ q) = nI (2 ^ q) then 1 else 0)) * ow1N T q false := by
  let A := FN T (fun K => if nI K &&& nI (2 ^ q) = nI (2 ^ q) then 1 else 0)
  let B := FN T (fun K => if K.testBit q = true then 0 else 1)
  have e1 : A = FN T (fun K => if K.testBit q = true then 1 else 0) := FN_congr fun t _ => by
    by_cases z : (kN T t).testBit q = true
    · rw [if_pos z, if_pos ((and_pow (kN_lt ht t) hq).mpr z)]
    · rw [if_neg z, if_neg (fun y => z ((and_pow (kN_lt ht t) hq).mp y))]
  have e2 : A + B = whN T := by
    rw [e1, ← FN_add, ← FN_1 ht]
    exact FN_congr fun t _ => by split <;> rfl
  have e3 : c1N T q = ow1N T q true * A + ow1N T q false * B := by
    rw [e1, ← FN_mul, ← FN_mul, ← FN_add]
    exact FN_congr fun t _ => by
      cases (kN T t).testBit q <;> simp
  refine ⟨show A ≤ _ by omega, ?_⟩
  show _ = A * _ + (whN T - A) * _
  rw [e3, show whN T - A = B by omega, Nat.mul_comm, Nat.mul_comm (ow1N T q false)]
theorem rs_I0 {s : Nat} (hs : s < 1024) (h0 : 0 < s) : (nI s &&& (nI s - 1) = 0) ↔ rsN s = 0 := by
  rw [rs_I h0]
  have := (pcN_rs s hs h0).2
  exact nI_eq (b := 0) (by omega) (by decide)
set_option maxRecDepth 100000 in
set_option maxHeartbeats 400000 in
theorem tX0_fillWeighedCosts (h T : aH) (g : aG) (hc : CG h T) : MX mX0_fillWeighedCosts 3 [.ref 43] h g (fun r h' g' => r = [] ∧ h' = h ∧ (∀ a, a ≠ 50 → g' a = g a) ∧ ∀ S, S < 2 ^ nP T → g' 50 S = lN (mcN T S)) := by
  have hc' := hc
  obtain ⟨⟨e, ht, -, -⟩, -⟩ := hc'
  have hp := pow_le10 ht.np.1
  have h1p : 1 ≤ 2 ^ nP T := Nat.one_le_two_pow
  have w8 := wh8 ht
  have hw := tX4_wholeWeight h g
  refine MX.of okX0_fillWeighedCosts (by decide +kernel) (Nat.le_of_ble_eq_true rfl) (by decide) rfl (by decide) ?_
  refine SegP.run [] 400 ?_
  refine And.intro (in10 (p := 0) (by decide) (by decide)) ?_
  have hw := tX4_wholeWeight h (up2 g 50 (0 : Int32).toNatClampNeg 0)
  rw [e, w8.2.2] at hw
  refine SegP.tr (Seg.cV hw mlX0_83 iyX4_wholeWeight seX4_wholeWeight oyX4_wholeWeight rfl (by decide) rfl (by decide) (by decide) rfl rfl rfl rfl (Nat.le_of_ble_eq_true rfl) (Nat.le_of_ble_eq_true rfl)) ?_
  let I : Nat → aCfg → Prop := fun i d => ∃ g', d = (18, [some (.ref 43), some (.long (lN (whN T))), none, some (.int (nI (i + 1))), none, none, none], [], nW, h, g', ρ) ∧ (∀ a, a ≠ 50 → g' a = g a) ∧ ∀ K, K < i + 1 → g' 50 K = lN (mcN T K)
  refine SegP.run [18] 400 ?_
  refine SegP.tr (Seg.of (b := (18, [some (.ref 43), some (.long (lN (whN T))), none, some (.int (nI (0 + 1))), none, none, none], [], nW, h, up2 g 50 (0 : Int32).toNatClampNeg 0, ρ)) (by rw [← nI_l (n := whN T) (by omega)] <;> rfl)) ?_
  refine SegP.tp (SegP.iter I (2 ^ nP T - 1) (fun i hi d hd => ?_) _ ⟨_, rfl, fun a ha => up2_row ha, fun K hK => ?_⟩) (fun d hd => ?_)
  · obtain ⟨g', rfl, f1, f2⟩ := hd
    have hi2 : i + 1 < 2 ^ nP T := by omega
    have hs : i + 1 < 1024 := by omega
    have hin := in10 (p := i + 1) (n := 1024) hs (by decide)
    have ci := nI_clamp (n := i + 1) (by omega)
    have h0 := Nat.succ_pos i
    obtain ⟨r1, r2⟩ := pcN_rs (i + 1) hs h0
    obtain ⟨t1, t2, t3, t4, t5⟩ := tzN_ok (i + 1) hs h0
    have hmc := mc_rs ht hi2 h0
    have fin : ∀ g'' : aG, g'' = up2 g' 50 (i + 1) (lN (mcN T (i + 1))) → ∀ x y z : Option Value, SegP mX0_fillWeighedCosts 3 (18, [some (.ref 43), some (.long (lN (whN T))), none, some (.int (nI (i + 1 + 1))), x, y, z], [], nW, h, g'', ρ) (I (i + 1)) := by
      rintro g'' rfl x y z
      refine SegP.tr (Seg.fg 4) (SegP.tr (Seg.fg 5) (SegP.tr (Seg.fg 6) ?_))
      refine SegP.rf ⟨_, rfl, fun a ha => by rw [up2_row ha]; exact f1 a ha, fun K hK => ?_⟩
      by_cases q : K = i + 1
      · subst q; rw [up2_s]
      · rw [up2_k q]; exact f2 K (by omega)
    refine SegP.run [] 400 ?_
    refine SegP.tr (Seg.cV (tX0_sets h T g' e ht) mlX0_79 iyX0_sets seX0_sets oyX0_sets rfl (by decide) rfl (by decide) (by decide) rfl rfl rfl rfl (Nat.le_of_ble_eq_true rfl) (Nat.le_of_ble_eq_true rfl)) ?_
    refine SegP.run [] 400 ?_
    refine And.intro (fun z => ?_) (fun z => ?_)
    · exact absurd z (nI_ge hi2 (by omega))
    refine SegP.tr (Seg.cS ((tJ6_tz hs h0).ms h g') mlX0_142 syJ6_numberOfTrailingZeros_0f7a4 oyJ6_numberOfTrailingZeros_0f7a4 rfl (by decide) rfl rfl rfl (Nat.le_of_ble_eq_true rfl) (Nat.le_of_ble_eq_true rfl)) ?_
    refine SegP.run [18] 400 ?_
    refine And.intro (fun z => ?_) (fun z => ?_)
    · -- more than one
      have rz : rsN (i + 1) ≠ 0 := fun y => z ((rs_I0 hs h0).mpr y)
      have hinr := in10 (p := rsN (i + 1)) (n := 1024) (by omega) (by decide)
      have cr := nI_clamp (n := rsN (i + 1)) (by omega)
      have hp2 : 2 ^ tzN (i + 1) < i + 1 := by
        rcases Nat.lt_or_ge (2 ^ tzN (i + 1)) (i + 1) with y | y
        · exact y
        · exact absurd (show rsN (i + 1) = 0 by omega) rz
      have hin2 := in10 (p := 2 ^ tzN (i + 1)) (n := 1024) (by omega) (by decide)
      have c2 := nI_clamp (n := 2 ^ tzN (i + 1)) (by omega)
      have e2 : (1 : Int32) <<< (nI (tzN (i + 1)) &&& 31) = nI (2 ^ tzN (i + 1)) := bt1_nI (by omega)
      have p2s : 2 ^ tzN (i + 1) < 2 ^ nP T := by omega
      have p2p : 0 < 2 ^ tzN (i + 1) := Nat.two_pow_pos _
      have m2 : mcN T (2 ^ tzN (i + 1)) = c1N T (tzN (i + 1)) := by
        have key : ∀ q, q < 10 → rsN (2 ^ q) = 0 ∧ tzN (2 ^ q) = q := by decide +kernel
        obtain ⟨y1, y2⟩ := key _ t1
        have := mc_rs ht p2s p2p
        rw [y1, y2, mc_0 ht, Nat.zero_add] at this
        exact this
      refine And.intro (by rw [rs_I h0]; exact hinr) ?_
      refine And.intro (by rw [e2]; exact hin2) ?_
      refine And.intro hin ?_
      refine SegP.tr (Seg.of (b := (18, [some (.ref 43), some (.long (lN (whN T))), none, some (.int (nI (i + 1 + 1))), some (.int (nI (tzN (i + 1)))), none, none], [], nW, h, up2 g' 50 (i + 1) (lN (mcN T (i + 1))), ρ)) ?_) (fin _ rfl _ _ _)
      rw [rs_I h0, e2, cr, c2, ci, f2 _ (by omega), f2 _ (by omega), lN_add, hmc, m2, nI_succ (i + 1)] <;> rfl
    · have rz : rsN (i + 1) = 0 := (rs_I0 hs h0).mp (Decidable.not_not.mp z)
      have es : i + 1 = 2 ^ tzN (i + 1) := rsN_0 (i + 1) hs h0 rz
      obtain ⟨k1, k2⟩ := c1_of ht t1
      rw [← es] at k1 k2
      have tl := tz_lt hi2 ht.np.1 h0
      obtain ⟨o1, o2⟩ := ow1_nI ht tl true
      obtain ⟨o3, o4⟩ := ow1_nI ht tl false
      have ho1 : MS mX4_owedOf 1 [.ref 1, .int (nI (tzN (i + 1))), .int 1] h g' [.int (nI (ow1N T (tzN (i + 1)) true))] h g' := by
        rw [← o1, ← e]; exact tX4_owedOf h g' (tzN (i + 1)) t1 true
      have ho2 : MS mX4_owedOf 1 [.ref 1, .int (nI (tzN (i + 1))), .int 0] h g' [.int (nI (ow1N T (tzN (i + 1)) false))] h g' := by
        rw [← o3, ← e]; exact tX4_owedOf h g' (tzN (i + 1)) t1 false
      refine SegP.tr (Seg.cV (tX0_weightOfAllKept h T g' hc (nI (i + 1))) mlX0_157 iyX0_weightOfAllKept seX0_weightOfAllKept oyX0_weightOfAllKept rfl (by decide) rfl (by decide) (by decide) rfl rfl rfl rfl (Nat.le_of_ble_eq_true rfl) (Nat.le_of_ble_eq_true rfl)) ?_
      refine SegP.run [] 400 ?_
      refine SegP.tr (Seg.cV ho1 mlX0_161 iyX4_owedOf seX4_owedOf oyX4_owedOf rfl (by decide) rfl (by decide) (by decide) rfl rfl rfl rfl (Nat.le_of_ble_eq_true rfl) (Nat.le_of_ble_eq_true rfl)) ?_
      refine SegP.run [] 400 ?_
      refine SegP.tr (Seg.cV ho2 mlX0_161 iyX4_owedOf seX4_owedOf oyX4_owedOf rfl (by decide) rfl (by decide) (by decide) rfl rfl rfl rfl (Nat.le_of_ble_eq_true rfl) (Nat.le_of_ble_eq_true rfl)) ?_
      refine SegP.run [18] 400 ?_
      refine And.intro hin ?_
      refine SegP.tr (Seg.of (b := (18, [some (.ref 43), some (.long (lN (whN T))), none, some (.int (nI (i + 1 + 1))), some (.int (nI (tzN (i + 1)))), some (.long (lN (FN T (fun K => if nI K &&& nI (i + 1) = nI (i + 1) then 1 else 0)))), none], [], nW, h, up2 g' 50 (i + 1) (lN (mcN T (i + 1))), ρ)) ?_) (fin _ rfl _ _ _)
      rw [ci, nI_l (by omega), nI_l (by omega), lN_mul, lN_sub k1, lN_mul, lN_add, ← k2, hmc, rz, mc_0 ht, Nat.zero_add, nI_succ (i + 1)] <;> rfl
  · obtain rfl : K = 0 := by omega
    rw [show (0 : Int32).toNatClampNeg = 0 from rfl, up2_s, mc_0 ht]
    rfl
  · obtain ⟨g', rfl, f1, f2⟩ := hd
    have eN : 2 ^ nP T - 1 + 1 = 2 ^ nP T := by omega
    refine SegP.run [] 400 ?_
    refine SegP.tr (Seg.cV (tX0_sets h T g' e ht) mlX0_79 iyX0_sets seX0_sets oyX0_sets rfl (by decide) rfl (by decide) (by decide) rfl rfl rfl rfl (Nat.le_of_ble_eq_true rfl) (Nat.le_of_ble_eq_true rfl)) ?_
    refine SegP.run [] 400 ?_
    refine And.intro (fun z => ?_) (fun z => ?_)
    · exact SegP.ret ⟨rfl, rfl, f1, fun K hK => f2 K (by omega)⟩
    · exact absurd (by rw [eN]; exact nI_le (Nat.le_refl _) (by omega)) z
