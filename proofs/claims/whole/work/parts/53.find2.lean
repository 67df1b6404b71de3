/-! ===== the class's chances: the best sets, the coin that helps ===== -/
theorem lI_toInt {x : Int} (h : -2 ^ 62 < x ∧ x < 2 ^ 62) : (lI x).toInt = x := Int64.toInt_ofInt_of_le (by omega) (by omega)
theorem lI_le {x y : Int} (hx : -2 ^ 62 < x ∧ x < 2 ^ 62) (hy : -2 ^ 62 < y ∧ y < 2 ^ 62) : lI x ≤ lI y ↔ x ≤ y := by
  rw [Int64.le_iff_toInt_le, lI_toInt hx, lI_toInt hy]
theorem lI_lt {x y : Int} (hx : -2 ^ 62 < x ∧ x < 2 ^ 62) (hy : -2 ^ 62 < y ∧ y < 2 ^ 62) : lI x < lI y ↔ x < y := by
  rw [Int64.lt_iff_toInt_lt, lI_toInt hx, lI_toInt hy]
theorem mcN_l {T : aH} (ht : TOk T) (S : Nat) : mcN T S < 2 ^ 31 := by
  have w8 := wh8 ht
  have : mcN T S ≤ 980 * whN T := FN_le ht fun t _ => (ow_nI ht _ _).2
  omega
theorem wrN_le {T : aH} (ht : TOk T) (s : Int32) : wrN T s ≤ 594 := by
  have h1 := (wr_nI ht s (nN T) (Nat.le_refl _)).2
  have h2 := ht.nn.1
  show wrNU T s (nN T) ≤ 594
  omega
theorem mwN_l {T : aH} (ht : TOk T) (S : Nat) : mwN T S < 2 ^ 31 := by
  have w8 := wh8 ht
  have : mwN T S ≤ 594 * whN T := FN_le ht fun t _ => wrN_le ht _
  omega
theorem mo_some {T : aH} {m : Nat} {a b : Int32} : ∀ i, ∃ f, moS T m a b (i + 1) = some f := by
  intro i
  induction i with
  | zero => exact ⟨0, se_pos (Or.inl rfl) (fun k h => by cases h)⟩
  | succ i ih =>
    obtain ⟨f, hf⟩ := ih
    by_cases z : ((i + 1 = 0 ∨ okM T (i + 1) m a b) ∧ ∀ k, moS T m a b (i + 1) = some k → pcN k < pcN (i + 1))
    · exact ⟨i + 1, se_pos z.1 z.2⟩
    · exact ⟨f, (se_neg z).trans hf⟩
theorem be_some {T : aH} : ∀ i, ∃ f, beS T (i + 1) = some f := by
  intro i
  induction i with
  | zero => exact ⟨0, se_pos trivial (fun k h => by cases h)⟩
  | succ i ih =>
    obtain ⟨f, hf⟩ := ih
    by_cases z : (True ∧ ∀ k, beS T (i + 1) = some k → (mwN T k : Int) - mcN T k < (mwN T (i + 1) : Int) - mcN T (i + 1))
    · exact ⟨i + 1, se_pos z.1 z.2⟩
    · exact ⟨f, (se_neg z).trans hf⟩
set_option maxRecDepth 100000 in
set_option maxHeartbeats 400000 in
theorem tX0_mostWithin (h T : aH) (g : aG) (hc : CG h T) (m : Nat) (hm : m < 2 ^ 31) (a b : Int32) : MX mX0_mostWithin 4 [.ref 43, .int (nI m), .int a, .int b] h g (fun r h' g' => r = [.int (foI (moS T m a b (2 ^ nP T)))] ∧ h' = h) := by
  have hc' := hc
  obtain ⟨⟨e, ht, -, -⟩, -⟩ := hc'
  have hp := pow_le10 ht.np.1
  have h1p : 1 ≤ 2 ^ nP T := Nat.one_le_two_pow
  have w8 := wh8 ht
  refine MX.of okX0_mostWithin (by decide +kernel) (Nat.le_of_ble_eq_true rfl) (by decide) rfl (by decide) ?_
  refine SegP.run [] 400 ?_
  refine SegP.cV (tX0_fillOwedRows h T g e ht) mlX0_120 iyX0_fillOwedRows seX0_fillOwedRows oyX0_fillOwedRows rfl (by decide) rfl (by decide) (by decide) rfl rfl rfl rfl (Nat.le_of_ble_eq_true rfl) ?_
  rintro r h1 g1 ⟨rfl, rfl, q1⟩
  have hw := tX4_wholeWeight h1 g1
  rw [e, w8.2.2] at hw
  refine SegP.run [] 400 ?_
  refine SegP.tr (Seg.cV hw mlX0_83 iyX4_wholeWeight seX4_wholeWeight oyX4_wholeWeight rfl (by decide) rfl (by decide) (by decide) rfl rfl rfl rfl (Nat.le_of_ble_eq_true rfl) (Nat.le_of_ble_eq_true rfl)) ?_
  have mo0 : moS T m a b (0 + 1) = some 0 := se_pos (Or.inl rfl) (fun k h => by cases h)
  refine SegP.run [23] 400 ?_
  refine SegP.tr (Seg.of (b := (23, [some (.ref 43), some (.int (nI m)), some (.int a), some (.int b), some (.long (a.toInt64 * lN (whN T))), none, some (.int (foI (moS T m a b (0 + 1)))), some (.int (nI (0 + 1)))], [], nW, h1, g1, ρ)) (by rw [mo0, ← nI_l (n := whN T) (by omega)] <;> rfl)) ?_
  refine SegP.tr (Seg.iter (fun i => (23, [some (.ref 43), some (.int (nI m)), some (.int a), some (.int b), some (.long (a.toInt64 * lN (whN T))), none, some (.int (foI (moS T m a b (i + 1)))), some (.int (nI (i + 1)))], [], nW, h1, g1, ρ)) (2 ^ nP T - 1) (fun i hi => ?_)) ?_
  · have hi2 : i + 1 < 2 ^ nP T := by omega
    have his := sets_lt ht hi2
    obtain ⟨f, hf⟩ := mo_some (T := T) (m := m) (a := a) (b := b) i
    have fl : f < 1024 := by have := (se_lt (i + 1) f hf).1; omega
    have pi := pcN_le (i + 1) his
    have pf := pcN_le f fl
    have no : ¬ ((i + 1 = 0 ∨ okM T (i + 1) m a b) ∧ pcN f < pcN (i + 1)) → Seg mX0_mostWithin 4 (65, [some (.ref 43), some (.int (nI m)), some (.int a), some (.int b), some (.long (a.toInt64 * lN (whN T))), none, some (.int (nI f)), some (.int (nI (i + 1)))], [], nW, h1, g1, ρ) (23, [some (.ref 43), some (.int (nI m)), some (.int a), some (.int b), some (.long (a.toInt64 * lN (whN T))), none, some (.int (foI (moS T m a b (i + 1 + 1)))), some (.int (nI (i + 1 + 1)))], [], nW, h1, g1, ρ) := by
      intro z
      refine Seg.run [23] 400 ?_
      refine Seg.of ?_
      rw [show moS T m a b (i + 1 + 1) = moS T m a b (i + 1) from se_neg fun y => z ⟨y.1, y.2 f hf⟩, hf, nI_succ (i + 1)] <;> rfl
    rw [hf]
    refine Seg.run [] 400 ?_
    refine Seg.tr (Seg.cV (tX0_sets h1 T g1 e ht) mlX0_79 iyX0_sets seX0_sets oyX0_sets rfl (by decide) rfl (by decide) (by decide) rfl rfl rfl rfl (Nat.le_of_ble_eq_true rfl) (Nat.le_of_ble_eq_true rfl)) ?_
    refine Seg.run [] 400 ?_
    refine And.intro (fun z => ?_) (fun z => ?_)
    · exact absurd z (nI_ge hi2 (by omega))
    refine Seg.tr (Seg.cS ((tJ6_bc his).ms h1 g1) mlX0_106 syJ6_bitCount_0f7a4 oyJ6_bitCount_0f7a4 rfl (by decide) rfl rfl rfl (Nat.le_of_ble_eq_true rfl) (Nat.le_of_ble_eq_true rfl)) ?_
    refine Seg.run [] 400 ?_
    refine Seg.tr (Seg.cS ((tJ6_bc fl).ms h1 g1) mlX0_106 syJ6_bitCount_0f7a4 oyJ6_bitCount_0f7a4 rfl (by decide) rfl rfl rfl (Nat.le_of_ble_eq_true rfl) (Nat.le_of_ble_eq_true rfl)) ?_
    refine Seg.run [65] 400 ?_
    refine And.intro (fun z => ?_) (fun z => ?_)
    · have z3 := (nI_leI (by omega) (by omega)).mp z
      exact no fun y => by omega
    have z3 : pcN f < pcN (i + 1) := by
      rcases Nat.lt_or_ge (pcN f) (pcN (i + 1)) with y | y
      · exact y
      · exact absurd ((nI_leI (by omega) (by omega)).mpr y) z
    refine Seg.tr (Seg.cV (tX0_weightOfMoreByRows h1 T g1 hc (i + 1) m hi2 hm q1) mlX0_123 iyX0_weightOfMoreByRows seX0_weightOfMoreByRows oyX0_weightOfMoreByRows rfl (by decide) rfl (by decide) (by decide) rfl rfl rfl rfl (Nat.le_of_ble_eq_true rfl) (Nat.le_of_ble_eq_true rfl)) ?_
    refine Seg.run [23, 65] 400 ?_
    refine And.intro (fun z => ?_) (fun z => ?_)
    · refine no fun y => ?_
      rcases y.1 with y1 | y1
      · omega
      · exact absurd ((lg_cmp_gt _ _).mp z) (Int64.not_lt.mpr y1)
    · have ok : okM T (i + 1) m a b := Int64.not_lt.mp fun y => z ((lg_cmp_gt _ _).mpr y)
      refine Seg.run [23] 400 ?_
      refine Seg.of ?_
      rw [show moS T m a b (i + 1 + 1) = some (i + 1) from se_pos (Or.inr ok) (fun k hk => by obtain rfl : f = k := Option.some.inj (hf.symm.trans hk); exact z3), nI_succ (i + 1)] <;> rfl
  · have eN : 2 ^ nP T - 1 + 1 = 2 ^ nP T := by omega
    rw [eN]
    refine SegP.run [] 400 ?_
    refine SegP.tr (Seg.cV (tX0_sets h1 T g1 e ht) mlX0_79 iyX0_sets seX0_sets oyX0_sets rfl (by decide) rfl (by decide) (by decide) rfl rfl rfl rfl (Nat.le_of_ble_eq_true rfl) (Nat.le_of_ble_eq_true rfl)) ?_
    refine SegP.run [] 400 ?_
    refine And.intro (fun z => ?_) (fun z => ?_)
    · exact SegP.ret ⟨rfl, rfl⟩
    · exact absurd (nI_le (Nat.le_refl _) (by omega)) z
set_option maxRecDepth 100000 in
set_option maxHeartbeats 400000 in
theorem tX0_bestSet (h T : aH) (g : aG) (hc : CG h T) : MX mX0_bestSet 5 [.ref 43] h g (fun r h' g' => r = [.int (foI (beS T (2 ^ nP T)))] ∧ ∀ a, a ≠ 51 → h' a = h a) := by
  have hc' := hc
  obtain ⟨hl, hcs⟩ := hc'
  have hl' := hl
  obtain ⟨e, ht, -, -⟩ := hl'
  have hp := pow_le10 ht.np.1
  have h1p : 1 ≤ 2 ^ nP T := Nat.one_le_two_pow
  have w8 := wh8 ht
  refine MX.of okX0_bestSet (by decide +kernel) (Nat.le_of_ble_eq_true rfl) (by decide) rfl (by decide) ?_
  refine SegP.run [] 400 ?_
  refine SegP.cV (tX0_fillGainsOfWorth h T g e ht) mlX0_127 iyX0_fillGainsOfWorth seX0_fillGainsOfWorth oyX0_fillGainsOfWorth rfl (by decide) rfl (by decide) (by decide) rfl rfl rfl rfl (Nat.le_of_ble_eq_true rfl) ?_
  rintro r h1 g1 ⟨rfl, f1, q1⟩
  have e1 : tw h1 1 = T := (tw_out fun j hj => f1 _ (by omega)).trans e
  have hl1 : LD h1 T := ⟨e1, ht, fun t h0 => by rw [f1 44 (by decide)]; exact hl.2.2.1 t h0, fun t h0 => by rw [f1 45 (by decide)]; exact hl.2.2.2 t h0⟩
  have hc1 : CG h1 T := by
    obtain ⟨C, cs, cw, x1, x2, x3, x4⟩ := hcs
    exact ⟨hl1, C, cs, cw, x1, by rw [f1 43 (by decide)]; exact x2, fun c hc => by rw [f1 46 (by decide), f1 47 (by decide)]; exact x3 c hc, x4⟩
  refine SegP.run [] 400 ?_
  refine SegP.cV (tX0_weighGains h1 T g1 hl1 (fun K => wrN T (nI K)) q1) mlX0_114 iyX0_weighGains seX0_weighGains oyX0_weighGains rfl (by decide) rfl (by decide) (by decide) rfl rfl rfl rfl (Nat.le_of_ble_eq_true rfl) ?_
  rintro r h2 g2 ⟨rfl, rfl, q2⟩
  refine SegP.run [] 400 ?_
  refine SegP.cV (tX0_fillWeighedCosts h2 T g2 hc1) mlX0_117 iyX0_fillWeighedCosts seX0_fillWeighedCosts oyX0_fillWeighedCosts rfl (by decide) rfl (by decide) (by decide) rfl rfl rfl rfl (Nat.le_of_ble_eq_true rfl) ?_
  rintro r h3 g3 ⟨rfl, rfl, f3, q3⟩
  have q4 : ∀ S, S < 2 ^ nP T → g3 49 S = lN (mwN T S) := fun S hS => by rw [f3 49 (by decide)]; exact q2 S hS
  have be0 : beS T (0 + 1) = some 0 := se_pos trivial (fun k h => by cases h)
  refine SegP.run [16] 400 ?_
  refine SegP.tr (Seg.of (b := (16, [some (.ref 43), some (.int (foI (beS T (0 + 1)))), some (.int (nI (0 + 1)))], [], nW, h3, g3, ρ)) (by rw [be0] <;> rfl)) ?_
  refine SegP.tr (Seg.iter (fun i => (16, [some (.ref 43), some (.int (foI (beS T (i + 1)))), some (.int (nI (i + 1)))], [], nW, h3, g3, ρ)) (2 ^ nP T - 1) (fun i hi => ?_)) ?_
  · have hi2 : i + 1 < 2 ^ nP T := by omega
    have his := sets_lt ht hi2
    obtain ⟨f, hf⟩ := be_some (T := T) i
    have fl2 : f < 2 ^ nP T := by have := (se_lt (i + 1) f hf).1; omega
    have fl := sets_lt ht fl2
    have hin := in10 (p := i + 1) (n := 1024) his (by decide)
    have ci := nI_clamp (n := i + 1) (by omega)
    have hinf := in10 (p := f) (n := 1024) fl (by decide)
    have cf := nI_clamp (n := f) (by omega)
    have b1 := mwN_l ht (i + 1)
    have b2 := mcN_l ht (i + 1)
    have b3 := mwN_l ht f
    have b4 := mcN_l ht f
    rw [hf]
    refine Seg.run [] 400 ?_
    refine Seg.tr (Seg.cV (tX0_sets h3 T g3 e1 ht) mlX0_79 iyX0_sets seX0_sets oyX0_sets rfl (by decide) rfl (by decide) (by decide) rfl rfl rfl rfl (Nat.le_of_ble_eq_true rfl) (Nat.le_of_ble_eq_true rfl)) ?_
    refine Seg.run [16] 400 ?_
    refine And.intro (fun z => ?_) (fun z => ?_)
    · exact absurd z (nI_ge hi2 (by omega))
    refine And.intro hin ?_
    refine And.intro hin ?_
    refine And.intro hinf ?_
    refine And.intro hinf ?_
    rw [ci, show foI (some f) = nI f from rfl, cf, q4 _ hi2, q4 _ fl2, q3 _ fl2]
    refine And.intro (fun z => ?_) (fun z => ?_)
    · have z1 : lg_cmp (lN (mwN T (i + 1)) - g3 50 (i + 1)) (lN (mwN T f) - lN (mcN T f)) ≤ 0 := z
      rw [q3 _ hi2, lI_nat, lI_nat, lI_nat, lI_nat, lI_sub, lI_sub] at z1
      have z2 := (lI_le (by omega) (by omega)).mp ((lg_cmp_le _ _).mp z1)
      refine Seg.of ?_
      rw [show beS T (i + 1 + 1) = beS T (i + 1) from se_neg fun y => by have := y.2 f hf; omega, hf, nI_succ (i + 1)] <;> rfl
    · have z1 : ¬ lg_cmp (lN (mwN T (i + 1)) - g3 50 (i + 1)) (lN (mwN T f) - lN (mcN T f)) ≤ 0 := z
      rw [q3 _ hi2, lI_nat, lI_nat, lI_nat, lI_nat, lI_sub, lI_sub] at z1
      refine Seg.of ?_
      rw [show beS T (i + 1 + 1) = some (i + 1) from se_pos trivial (fun k hk => by
        obtain rfl : f = k := Option.some.inj (hf.symm.trans hk)
        rcases Int.lt_or_le ((mwN T f : Int) - mcN T f) ((mwN T (i + 1) : Int) - mcN T (i + 1)) with y | y
        · exact y
        · exact absurd ((lg_cmp_le _ _).mpr ((lI_le (by omega) (by omega)).mpr y)) z1), nI_succ (i + 1)] <;> rfl
  · have eN : 2 ^ nP T - 1 + 1 = 2 ^ nP T := by omega
    rw [eN]
    refine SegP.run [] 400 ?_
    refine SegP.tr (Seg.cV (tX0_sets h3 T g3 e1 ht) mlX0_79 iyX0_sets seX0_sets oyX0_sets rfl (by decide) rfl (by decide) (by decide) rfl rfl rfl rfl (Nat.le_of_ble_eq_true rfl) (Nat.le_of_ble_eq_true rfl)) ?_
    refine SegP.run [] 400 ?_
    refine And.intro (fun z => ?_) (fun z => ?_)
    · exact SegP.ret ⟨rfl, f1⟩
    · exact absurd (nI_le (Nat.le_refl _) (by omega)) z
/-- what a sure coin is worth -/
def hpN (T : aH) (c : Nat) : Nat := SN (fun t => wN (suT T (nI c)) t * wrN T (nI (kN T t))) 256
noncomputable def heS (T : aH) : Nat → Option Nat := seU (fun _ => True) (fun f i => hpN T f < hpN T i)
def hfI : Option Nat → Int32
  | none => 0
  | some k => nI k
def hmL (T : aH) : Option Nat → Int64
  | none => (-1 : Int32).toInt64
  | some k => lN (hpN T k)
theorem hp_l {T : aH} (ht : TOk T) (c : Nat) : hpN T c < 2 ^ 31 := by
  have w8 := wh8 (ht.su (nI c))
  have : hpN T c ≤ 594 * SN (wN (suT T (nI c))) 256 := by
    rw [← SN_mul]
    exact SN_le fun t _ => by rw [Nat.mul_comm]; exact Nat.mul_le_mul_right _ (wrN_le ht _)
  rw [wN8 (ht.su (nI c))] at this
  omega
theorem wN_l {T : aH} (ht : TOk T) {i : Nat} (hi : i < 256) : wN T i < 2 ^ 31 := by
  have w8 := wh8 ht
  have h1 : wN T i ≤ SN (wN T) 256 := by
    have e1 := SN_split (f := wN T) (m := i + 1) (n := 256 - (i + 1))
    rw [show i + 1 + (256 - (i + 1)) = 256 by omega] at e1
    have e2 : SN (wN T) (i + 1) = SN (wN T) i + wN T i := rfl
    omega
  rw [wN8 ht] at h1
  omega
set_option maxRecDepth 100000 in
set_option maxHeartbeats 400000 in
theorem tX0_helpingCoin (h T : aH) (g : aG) (e : tw h 1 = T) (ht : TOk T) : MX mX0_helpingCoin 5 [.ref 43] h g (fun r h' g' => r = [.int (hfI (heS T 8))] ∧ frO h h') := by
  refine MX.of okX0_helpingCoin (by decide +kernel) (Nat.le_of_ble_eq_true rfl) (by decide) rfl (by decide) ?_
  refine SegP.run [] 400 ?_
  refine SegP.cV (tX0_fillKeptSets h T g e ht) mlX0_73 iyX0_fillKeptSets seX0_fillKeptSets oyX0_fillKeptSets rfl (by decide) rfl (by decide) (by decide) rfl rfl rfl rfl (Nat.le_of_ble_eq_true rfl) ?_
  rintro r h1 g1 ⟨rfl, rfl, f1, q1⟩
  have e1 : tw h1 1 = T := (tw_out fun j hj => f1 _ (by omega)).trans e
  refine SegP.run [] 400 ?_
  refine SegP.cV (tX0_fillGainsOfWorth h1 T _ e1 ht) mlX0_127 iyX0_fillGainsOfWorth seX0_fillGainsOfWorth oyX0_fillGainsOfWorth rfl (by decide) rfl (by decide) (by decide) rfl rfl rfl rfl (Nat.le_of_ble_eq_true rfl) ?_
  rintro r h2 g2 ⟨rfl, f2, q2⟩
  have e2 : tw h2 1 = T := (tw_out fun j hj => f2 _ (by omega)).trans e1
  let I : Nat → aCfg → Prop := fun i d => ∃ h', d = (17, [some (.ref 43), some (.int (hfI (heS T i))), some (.long (hmL T (heS T i))), none, some (.int (nI i)), none, none, none], [], nW, h', g2, ρ) ∧ ∀ a, a ≠ 44 → h' a = h2 a
  refine SegP.run [17] 400 ?_
  refine SegP.tp (SegP.iter I 8 (fun i hi d hd => ?_) _ ⟨h2, rfl, fun a _ => rfl⟩) (fun d hd => ?_)
  · obtain ⟨h', rfl, fr⟩ := hd
    have e' : tw h' 1 = T := (tw_out fun j hj => fr _ (by omega)).trans e2
    refine SegP.run [] 400 ?_
    refine And.intro (fun z => ?_) (fun z => ?_)
    · exact (lim_ge (N := 8) hi (by decide) z).elim
    refine SegP.cV (tX0_fillWeights h' T g2 e' ht (nI i)) mlX0_69 iyX0_fillWeights seX0_fillWeights oyX0_fillWeights rfl (by decide) rfl (by decide) (by decide) rfl rfl rfl rfl (Nat.le_of_ble_eq_true rfl) ?_
    rintro r h3 g3 ⟨rfl, rfl, f3, q3⟩
    have k45 : ∀ t, t < 256 → h3 45 t = nI (kN T t) := fun t h0 => by rw [f3 45 (by decide), fr 45 (by decide), f2 45 (by decide)]; exact q1 t h0
    refine SegP.run [36] 400 ?_
    refine SegP.tr (Seg.iter (fun j => (36, [some (.ref 43), some (.int (hfI (heS T i))), some (.long (hmL T (heS T i))), none, some (.int (nI i)), some (.long (lN (SN (fun t => wN (suT T (nI i)) t * wrN T (nI (kN T t))) j))), none, some (.int (nI j))], [], nW, h3, g3, ρ)) 256 (fun j hj => ?_)) ?_
    · have hin := in10 (p := j) (n := 256) hj (by decide)
      have cj := cl10 hj
      have kl := (kept_nI ht j).2
      have kl2 := kN_lt ht j
      have hink := in10 (p := kN T j) (n := 1024) kl2 (by decide)
      have ck := nI_clamp (n := kN T j) (by omega)
      have wl := wN_l (ht.su (nI i)) hj
      refine Seg.run [36] 400 ?_
      refine And.intro (fun z => ?_) (fun z => ?_)
      · exact (lim_ge (N := 256) hj (by decide) z).elim
      refine And.intro hin ?_
      refine And.intro hin ?_
      rw [cj, k45 j hj]
      refine And.intro hink ?_
      refine Seg.of ?_
      rw [ck, q3 j hj, q2 _ kl, nI_l wl, lN_mul, lN_add, nI_succ] <;> rfl
    · refine SegP.run [17] 400 ?_
      refine And.intro (fun z => ?_) (fun z => ?_)
      · have hpl := hp_l ht i
        refine And.intro (fun z1 => ?_) (fun z1 => ?_)
        · refine SegP.tr (Seg.fg 5) (SegP.tr (Seg.fg 7) ?_)
          refine SegP.rf ⟨h3, ?_, fun a ha => (f3 a ha).trans (fr a ha)⟩
          have z2 : lg_cmp (lN (hpN T i)) (hmL T (heS T i)) ≤ 0 := z1
          have ng : ¬ (True ∧ ∀ k, heS T i = some k → hpN T k < hpN T i) := by
            rintro ⟨-, y⟩
            cases hx : heS T i with
            | none =>
              rw [hx] at z2
              have z3 := (lg_cmp_le _ _).mp z2
              have z4 : lN (hpN T i) ≤ lI (-1) := z3
              rw [lI_nat] at z4
              have := (lI_le (by omega) (by omega)).mp z4
              omega
            | some f =>
              rw [hx] at z2
              have := (lN_le hpl (hp_l ht f)).mp ((lg_cmp_le _ _).mp z2)
              have := y f hx
              omega
          rw [show heS T (i + 1) = heS T i from se_neg ng, nI_succ i] <;> rfl
        · refine SegP.tr (Seg.fg 5) (SegP.tr (Seg.fg 7) ?_)
          refine SegP.rf ⟨h3, ?_, fun a ha => (f3 a ha).trans (fr a ha)⟩
          have z2 : ¬ lg_cmp (lN (hpN T i)) (hmL T (heS T i)) ≤ 0 := z1
          rw [show heS T (i + 1) = some i from se_pos trivial (fun f hx => by
            rw [show heS T i = some f from hx] at z2
            rcases Nat.lt_or_ge (hpN T f) (hpN T i) with y | y
            · exact y
            · exact absurd ((lg_cmp_le _ _).mpr ((lN_le hpl (hp_l ht f)).mpr y)) z2), nI_succ i] <;> rfl
      · exact (lim_le (N := 256) (Nat.le_refl _) (by decide) z).elim
  · obtain ⟨h', rfl, fr⟩ := hd
    refine SegP.run [] 400 ?_
    refine And.intro (fun z => ?_) (fun z => ?_)
    · exact SegP.ret ⟨rfl, fun a ha => (fr a (by omega)).trans ((f2 a (by omega)).trans (f1 a (by omega)))⟩
    · exact (lim_le (N := 8) (Nat.le_refl _) (by decide) z).elim
/-- what hangs by a coin -/
def hgN (T : aH) (c : Nat) : Nat → Nat
  | 0 => 0
  | t + 1 => hgN T c t ||| (kN T t ^^^ kN T (t ^^^ 2 ^ c))
set_option maxRecDepth 100000 in
set_option maxHeartbeats 400000 in
theorem tX0_hangingBy (h T : aH) (g : aG) (hk : ∀ t, t < 256 → h 45 t = nI (kN T t)) (c : Nat) (hc : c < 8) : MS mX0_hangingBy 1 [.ref 43, .int (nI c)] h g [.int (nI (hgN T c 256))] h g := by
  have e2 : (1 : Int32) <<< (nI c &&& 31) = nI (2 ^ c) := bt1_nI (by omega)
  refine MS.of okX0_hangingBy (by decide +kernel) (Nat.le_of_ble_eq_true rfl) (by decide) rfl (by decide) ?_
  refine Seg.run [4] 400 ?_
  refine Seg.tr (Seg.iter (fun i => (4, [some (.ref 43), some (.int (nI c)), some (.int (nI (hgN T c i))), some (.int (nI i))], [], nW, h, g, ρ)) 256 (fun i hi => ?_)) ?_
  · have hin := in10 (p := i) (n := 256) hi (by decide)
    have ci := cl10 hi
    have hx : i ^^^ 2 ^ c < 256 := xor_lt (n := 8) hi hc
    have hinx := in10 (p := i ^^^ 2 ^ c) (n := 256) hx (by decide)
    have cx := cl10 hx
    have ex : (nI i ^^^ (1 : Int32) <<< (nI c &&& 31)) &&& 255 = nI (i ^^^ 2 ^ c) := by
      rw [e2, nI_xor, show (255 : Int32) = nI (2 ^ 8 - 1) from rfl, nI_and, Nat.and_two_pow_sub_one_of_lt_two_pow hx]
    refine Seg.run [4] 400 ?_
    refine And.intro (fun z => ?_) (fun z => ?_)
    · exact (lim_ge (N := 256) hi (by decide) z).elim
    refine And.intro hin ?_
    refine And.intro (by rw [ex]; exact hinx) ?_
    refine Seg.of ?_
    rw [ex, ci, cx, hk i hi, hk _ hx, nI_xor, nI_or, nI_succ] <;> rfl
  · refine Seg.run [] 400 ?_
    refine And.intro (fun z => ?_) (fun z => ?_)
    · exact Seg.rf
    · exact (lim_le (N := 256) (Nat.le_refl _) (by decide) z).elim
