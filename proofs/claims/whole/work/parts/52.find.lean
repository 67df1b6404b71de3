/-! ===== the class's chances: the best sets ===== -/
/-- a set as sure as asked for, of the fewest -/
noncomputable def feS (T : aH) (k : Nat) (a b : Int32) : Nat → Option Nat := seU (fun S => okS T k S a b) (fun f i => pcN i < pcN f)
/-- of the least mean -/
noncomputable def chS (T : aH) (k : Nat) (a b : Int32) : Nat → Option Nat := seU (fun S => okS T k S a b) (fun f i => mcN T i < mcN T f)
/-- the most that owe too much seldom enough -/
noncomputable def moS (T : aH) (m : Nat) (a b : Int32) : Nat → Option Nat := seU (fun S => S = 0 ∨ okM T S m a b) (fun f i => pcN f < pcN i)
/-- mean of worths, times all -/
def mwN (T : aH) (S : Nat) : Nat := FN T (fun K => wrN T (nI (S &&& K)))
/-- of the greatest worths less costs -/
noncomputable def beS (T : aH) : Nat → Option Nat := seU (fun _ => True) (fun f i => (mwN T f : Int) - mcN T f < (mwN T i : Int) - mcN T i)
theorem gS_ok {x y z : Int64} : cmpP .lt (lg_cmp x y) 0 ↔ x < y := lg_cmp_lt x y
set_option maxRecDepth 100000 in
set_option maxHeartbeats 400000 in
theorem tX0_fewestFor (h T : aH) (g : aG) (hl : LD h T) (k : Nat) (hk : k < nN T) (a b : Int32) : MX mX0_fewestFor 5 [.ref 43, .int (nI k), .int a, .int b] h g (fun r h' g' => r = [.int (foI (feS T k a b (2 ^ nP T)))] ∧ ∀ a, a ≠ 51 → h' a = h a) := by
  have hl' := hl
  obtain ⟨e, ht, -, -⟩ := hl'
  have hp := pow_le10 ht.np.1
  have w8 := wh8 ht
  refine MX.of okX0_fewestFor (by decide +kernel) (Nat.le_of_ble_eq_true rfl) (by decide) rfl (by decide) ?_
  refine SegP.run [] 400 ?_
  refine SegP.cV (tX0_fillGainsOfNeed h T g e ht k hk) mlX0_111 iyX0_fillGainsOfNeed seX0_fillGainsOfNeed oyX0_fillGainsOfNeed rfl (by decide) rfl (by decide) (by decide) rfl rfl rfl rfl (Nat.le_of_ble_eq_true rfl) ?_
  rintro r h1 g1 ⟨rfl, f1, q1⟩
  have e1 : tw h1 1 = T := (tw_out fun j hj => f1 _ (by omega)).trans e
  have hl1 : LD h1 T := ⟨e1, ht, fun t h0 => by rw [f1 44 (by decide)]; exact hl.2.2.1 t h0, fun t h0 => by rw [f1 45 (by decide)]; exact hl.2.2.2 t h0⟩
  refine SegP.run [] 400 ?_
  refine SegP.cV (tX0_weighGains h1 T g1 hl1 (fun K => if metB T k (nI K) = true then 1 else 0) q1) mlX0_114 iyX0_weighGains seX0_weighGains oyX0_weighGains rfl (by decide) rfl (by decide) (by decide) rfl rfl rfl rfl (Nat.le_of_ble_eq_true rfl) ?_
  rintro r h2 g2 ⟨rfl, rfl, q2⟩
  have hw := tX4_wholeWeight h2 g2
  rw [e1, w8.2.2] at hw
  refine SegP.run [] 400 ?_
  refine SegP.tr (Seg.cV hw mlX0_83 iyX4_wholeWeight seX4_wholeWeight oyX4_wholeWeight rfl (by decide) rfl (by decide) (by decide) rfl rfl rfl rfl (Nat.le_of_ble_eq_true rfl) (Nat.le_of_ble_eq_true rfl)) ?_
  have lt : ∀ i, i ≤ 2 ^ nP T → ∀ f, feS T k a b i = some f → f < 1024 := fun i hi f hf => by have := (se_lt i f hf).1; omega
  refine SegP.run [28] 400 ?_
  refine SegP.tr (Seg.of (b := (28, [some (.ref 43), some (.int (nI k)), some (.int a), some (.int b), some (.long (a.toInt64 * lN (whN T))), none, some (.int (foI (feS T k a b 0))), some (.int (nI 0))], [], nW, h2, g2, ρ)) (by rw [← nI_l (n := whN T) (by omega)] <;> rfl)) ?_
  refine SegP.tr (Seg.iter (fun i => (28, [some (.ref 43), some (.int (nI k)), some (.int a), some (.int b), some (.long (a.toInt64 * lN (whN T))), none, some (.int (foI (feS T k a b i))), some (.int (nI i))], [], nW, h2, g2, ρ)) (2 ^ nP T) (fun i hi => ?_)) ?_
  · have his := sets_lt ht hi
    have hin := in10 (p := i) (n := 1024) his (by decide)
    have ci := nI_clamp (n := i) (by omega)
    have no : ¬ okS T k i a b → Seg mX0_fewestFor 5 (76, [some (.ref 43), some (.int (nI k)), some (.int a), some (.int b), some (.long (a.toInt64 * lN (whN T))), none, some (.int (foI (feS T k a b i))), some (.int (nI i))], [], nW, h2, g2, ρ) (28, [some (.ref 43), some (.int (nI k)), some (.int a), some (.int b), some (.long (a.toInt64 * lN (whN T))), none, some (.int (foI (feS T k a b (i + 1)))), some (.int (nI (i + 1)))], [], nW, h2, g2, ρ) := by
      intro z
      refine Seg.run [28] 400 ?_
      refine Seg.of ?_
      rw [show feS T k a b (i + 1) = feS T k a b i from se_neg fun y => z y.1, nI_succ] <;> rfl
    have yes : okS T k i a b → (∀ f, feS T k a b i = some f → pcN i < pcN f) → Seg mX0_fewestFor 5 (72, [some (.ref 43), some (.int (nI k)), some (.int a), some (.int b), some (.long (a.toInt64 * lN (whN T))), none, some (.int (foI (feS T k a b i))), some (.int (nI i))], [], nW, h2, g2, ρ) (28, [some (.ref 43), some (.int (nI k)), some (.int a), some (.int b), some (.long (a.toInt64 * lN (whN T))), none, some (.int (foI (feS T k a b (i + 1)))), some (.int (nI (i + 1)))], [], nW, h2, g2, ρ) := by
      intro z z2
      refine Seg.run [28] 400 ?_
      refine Seg.of ?_
      rw [show feS T k a b (i + 1) = some i from se_pos z z2, nI_succ] <;> rfl
    refine Seg.run [] 400 ?_
    refine Seg.tr (Seg.cV (tX0_sets h2 T g2 e1 ht) mlX0_79 iyX0_sets seX0_sets oyX0_sets rfl (by decide) rfl (by decide) (by decide) rfl rfl rfl rfl (Nat.le_of_ble_eq_true rfl) (Nat.le_of_ble_eq_true rfl)) ?_
    refine Seg.run [28, 72, 76] 400 ?_
    refine And.intro (fun z => ?_) (fun z => ?_)
    · exact absurd z (nI_ge hi (by omega))
    refine And.intro hin ?_
    rw [ci, q2 i hi]
    refine And.intro (fun z => ?_) (fun z => ?_)
    · exact no fun y => absurd ((lg_cmp_lt _ _).mp z) (Int64.not_lt.mpr y)
    have ok : okS T k i a b := Int64.not_lt.mp fun y => z ((lg_cmp_lt _ _).mpr y)
    refine And.intro (fun z1 => ?_) (fun z1 => ?_)
    · exact yes ok fun f hf => by rw [(foI_no (lt i (by omega))).mp z1] at hf; cases hf
    · cases hf : feS T k a b i with
      | none => exact absurd ((foI_no (lt i (by omega))).mpr hf) z1
      | some f =>
        have fl := lt i (by omega) f hf
        rw [hf] at no yes
        refine Seg.tr (Seg.cS ((tJ6_bc his).ms h2 g2) mlX0_106 syJ6_bitCount_0f7a4 oyJ6_bitCount_0f7a4 rfl (by decide) rfl rfl rfl (Nat.le_of_ble_eq_true rfl) (Nat.le_of_ble_eq_true rfl)) ?_
        refine Seg.run [] 400 ?_
        refine Seg.tr (Seg.cS ((tJ6_bc fl).ms h2 g2) mlX0_106 syJ6_bitCount_0f7a4 oyJ6_bitCount_0f7a4 rfl (by decide) rfl rfl rfl (Nat.le_of_ble_eq_true rfl) (Nat.le_of_ble_eq_true rfl)) ?_
        have pi := pcN_le i his
        have pf := pcN_le f fl
        refine Seg.run [28, 72, 76] 400 ?_
        refine And.intro (fun z2 => ?_) (fun z2 => ?_)
        · have z3 := (nI_leI (by omega) (by omega)).mp z2
          refine Seg.run [28] 400 ?_
          refine Seg.of ?_
          rw [show feS T k a b (i + 1) = feS T k a b i from se_neg fun y => by have := y.2 f hf; omega, hf, nI_succ] <;> rfl
        · exact yes ok fun f' hf' => by
            cases hf'
            rcases Nat.lt_or_ge (pcN i) (pcN f) with y | y
            · exact y
            · exact absurd ((nI_leI (by omega) (by omega)).mpr y) z2
  · refine SegP.run [] 400 ?_
    refine SegP.tr (Seg.cV (tX0_sets h2 T g2 e1 ht) mlX0_79 iyX0_sets seX0_sets oyX0_sets rfl (by decide) rfl (by decide) (by decide) rfl rfl rfl rfl (Nat.le_of_ble_eq_true rfl) (Nat.le_of_ble_eq_true rfl)) ?_
    refine SegP.run [] 400 ?_
    refine And.intro (fun z => ?_) (fun z => ?_)
    · exact SegP.ret ⟨rfl, f1⟩
    · exact absurd (nI_le (Nat.le_refl _) (by omega)) z
set_option maxRecDepth 100000 in
set_option maxHeartbeats 400000 in
theorem tX0_cheapestFor (h T : aH) (g : aG) (hc : CG h T) (k : Nat) (hk : k < nN T) (a b : Int32) : MX mX0_cheapestFor 5 [.ref 43, .int (nI k), .int a, .int b] h g (fun r h' g' => r = [.int (foI (chS T k a b (2 ^ nP T)))] ∧ ∀ a, a ≠ 51 → h' a = h a) := by
  have hc' := hc
  obtain ⟨hl, hcs⟩ := hc'
  have hl' := hl
  obtain ⟨e, ht, -, -⟩ := hl'
  have hp := pow_le10 ht.np.1
  have w8 := wh8 ht
  refine MX.of okX0_cheapestFor (by decide +kernel) (Nat.le_of_ble_eq_true rfl) (by decide) rfl (by decide) ?_
  refine SegP.run [] 400 ?_
  refine SegP.cV (tX0_fillGainsOfNeed h T g e ht k hk) mlX0_111 iyX0_fillGainsOfNeed seX0_fillGainsOfNeed oyX0_fillGainsOfNeed rfl (by decide) rfl (by decide) (by decide) rfl rfl rfl rfl (Nat.le_of_ble_eq_true rfl) ?_
  rintro r h1 g1 ⟨rfl, f1, q1⟩
  have e1 : tw h1 1 = T := (tw_out fun j hj => f1 _ (by omega)).trans e
  have hl1 : LD h1 T := ⟨e1, ht, fun t h0 => by rw [f1 44 (by decide)]; exact hl.2.2.1 t h0, fun t h0 => by rw [f1 45 (by decide)]; exact hl.2.2.2 t h0⟩
  have hc1 : CG h1 T := by
    obtain ⟨C, cs, cw, x1, x2, x3, x4⟩ := hcs
    exact ⟨hl1, C, cs, cw, x1, by rw [f1 43 (by decide)]; exact x2, fun c hc => by rw [f1 46 (by decide), f1 47 (by decide)]; exact x3 c hc, x4⟩
  refine SegP.run [] 400 ?_
  refine SegP.cV (tX0_weighGains h1 T g1 hl1 (fun K => if metB T k (nI K) = true then 1 else 0) q1) mlX0_114 iyX0_weighGains seX0_weighGains oyX0_weighGains rfl (by decide) rfl (by decide) (by decide) rfl rfl rfl rfl (Nat.le_of_ble_eq_true rfl) ?_
  rintro r h2 g2 ⟨rfl, rfl, q2⟩
  refine SegP.run [] 400 ?_
  refine SegP.cV (tX0_fillWeighedCosts h2 T g2 hc1) mlX0_117 iyX0_fillWeighedCosts seX0_fillWeighedCosts oyX0_fillWeighedCosts rfl (by decide) rfl (by decide) (by decide) rfl rfl rfl rfl (Nat.le_of_ble_eq_true rfl) ?_
  rintro r h3 g3 ⟨rfl, rfl, f3, q3⟩
  have q4 : ∀ S, S < 2 ^ nP T → g3 49 S = lN (FN T (fun K => if metB T k (nI (S &&& K)) = true then 1 else 0)) := fun S hS => by rw [f3 49 (by decide)]; exact q2 S hS
  have hw := tX4_wholeWeight h3 g3
  rw [e1, w8.2.2] at hw
  refine SegP.run [] 400 ?_
  refine SegP.tr (Seg.cV hw mlX0_83 iyX4_wholeWeight seX4_wholeWeight oyX4_wholeWeight rfl (by decide) rfl (by decide) (by decide) rfl rfl rfl rfl (Nat.le_of_ble_eq_true rfl) (Nat.le_of_ble_eq_true rfl)) ?_
  have lt : ∀ i, i ≤ 2 ^ nP T → ∀ f, chS T k a b i = some f → f < 1024 ∧ f < 2 ^ nP T := fun i hi f hf => by have := (se_lt i f hf).1; omega
  have mcl : ∀ S, mcN T S < 2 ^ 31 := fun S => by
    have : mcN T S ≤ 980 * whN T := FN_le ht fun t _ => (ow_nI ht _ _).2
    omega
  refine SegP.run [32] 400 ?_
  refine SegP.tr (Seg.of (b := (32, [some (.ref 43), some (.int (nI k)), some (.int a), some (.int b), some (.long (a.toInt64 * lN (whN T))), none, some (.int (foI (chS T k a b 0))), some (.int (nI 0))], [], nW, h3, g3, ρ)) (by rw [← nI_l (n := whN T) (by omega)] <;> rfl)) ?_
  refine SegP.tr (Seg.iter (fun i => (32, [some (.ref 43), some (.int (nI k)), some (.int a), some (.int b), some (.long (a.toInt64 * lN (whN T))), none, some (.int (foI (chS T k a b i))), some (.int (nI i))], [], nW, h3, g3, ρ)) (2 ^ nP T) (fun i hi => ?_)) ?_
  · have his := sets_lt ht hi
    have hin := in10 (p := i) (n := 1024) his (by decide)
    have ci := nI_clamp (n := i) (by omega)
    have no : ¬ okS T k i a b → Seg mX0_cheapestFor 5 (85, [some (.ref 43), some (.int (nI k)), some (.int a), some (.int b), some (.long (a.toInt64 * lN (whN T))), none, some (.int (foI (chS T k a b i))), some (.int (nI i))], [], nW, h3, g3, ρ) (32, [some (.ref 43), some (.int (nI k)), some (.int a), some (.int b), some (.long (a.toInt64 * lN (whN T))), none, some (.int (foI (chS T k a b (i + 1)))), some (.int (nI (i + 1)))], [], nW, h3, g3, ρ) := by
      intro z
      refine Seg.run [32] 400 ?_
      refine Seg.of ?_
      rw [show chS T k a b (i + 1) = chS T k a b i from se_neg fun y => z y.1, nI_succ] <;> rfl
    have yes : okS T k i a b → (∀ f, chS T k a b i = some f → mcN T i < mcN T f) → Seg mX0_cheapestFor 5 (81, [some (.ref 43), some (.int (nI k)), some (.int a), some (.int b), some (.long (a.toInt64 * lN (whN T))), none, some (.int (foI (chS T k a b i))), some (.int (nI i))], [], nW, h3, g3, ρ) (32, [some (.ref 43), some (.int (nI k)), some (.int a), some (.int b), some (.long (a.toInt64 * lN (whN T))), none, some (.int (foI (chS T k a b (i + 1)))), some (.int (nI (i + 1)))], [], nW, h3, g3, ρ) := by
      intro z z2
      refine Seg.run [32] 400 ?_
      refine Seg.of ?_
      rw [show chS T k a b (i + 1) = some i from se_pos z z2, nI_succ] <;> rfl
    refine Seg.run [] 400 ?_
    refine Seg.tr (Seg.cV (tX0_sets h3 T g3 e1 ht) mlX0_79 iyX0_sets seX0_sets oyX0_sets rfl (by decide) rfl (by decide) (by decide) rfl rfl rfl rfl (Nat.le_of_ble_eq_true rfl) (Nat.le_of_ble_eq_true rfl)) ?_
    refine Seg.run [32, 81, 85] 400 ?_
    refine And.intro (fun z => ?_) (fun z => ?_)
    · exact absurd z (nI_ge hi (by omega))
    refine And.intro hin ?_
    rw [ci, q4 i hi]
    refine And.intro (fun z => ?_) (fun z => ?_)
    · exact no fun y => absurd ((lg_cmp_lt _ _).mp z) (Int64.not_lt.mpr y)
    have ok : okS T k i a b := Int64.not_lt.mp fun y => z ((lg_cmp_lt _ _).mpr y)
    refine And.intro (fun z1 => ?_) (fun z1 => ?_)
    · exact yes ok fun f hf => by rw [(foI_no (fun f hf => (lt i (by omega) f hf).1)).mp z1] at hf; cases hf
    · cases hf : chS T k a b i with
      | none => exact absurd ((foI_no (fun f hf => (lt i (by omega) f hf).1)).mpr hf) z1
      | some f =>
        obtain ⟨fl, fl2⟩ := lt i (by omega) f hf
        have hinf := in10 (p := f) (n := 1024) fl (by decide)
        have cf := nI_clamp (n := f) (by omega)
        rw [hf] at no yes
        refine And.intro hin ?_
        refine And.intro hinf ?_
        rw [ci, show foI (some f) = nI f from rfl, cf, q3 i hi, q3 f fl2]
        refine And.intro (fun z2 => ?_) (fun z2 => ?_)
        · have z3 := (lN_le (mcl f) (mcl i)).mp ((lg_cmp_ge _ _).mp z2)
          refine Seg.run [32] 400 ?_
          refine Seg.of ?_
          rw [show chS T k a b (i + 1) = chS T k a b i from se_neg fun y => by have := y.2 f hf; omega, hf, nI_succ] <;> rfl
        · exact yes ok fun f' hf' => by
            cases hf'
            rcases Nat.lt_or_ge (mcN T i) (mcN T f) with y | y
            · exact y
            · exact absurd ((lg_cmp_ge _ _).mpr ((lN_le (mcl f) (mcl i)).mpr y)) z2
  · refine SegP.run [] 400 ?_
    refine SegP.tr (Seg.cV (tX0_sets h3 T g3 e1 ht) mlX0_79 iyX0_sets seX0_sets oyX0_sets rfl (by decide) rfl (by decide) (by decide) rfl rfl rfl rfl (Nat.le_of_ble_eq_true rfl) (Nat.le_of_ble_eq_true rfl)) ?_
    refine SegP.run [] 400 ?_
    refine And.intro (fun z => ?_) (fun z => ?_)
    · exact SegP.ret ⟨rfl, f1⟩
    · exact absurd (nI_le (Nat.le_refl _) (by omega)) z
