/-! ===== the class's chances: what sets gain ===== -/
/-- what the long rows leave as they were -/
theorem lN_0 : lN 0 = (0 : Int64) := rfl
theorem sets_lt {T : aH} (ht : TOk T) {i : Nat} (h : i < 2 ^ nP T) : i < 1024 := Nat.lt_of_lt_of_le h (pow_le10 ht.np.1)
set_option maxRecDepth 100000 in
set_option maxHeartbeats 400000 in
theorem tX0_clearGains (h T : aH) (g : aG) (e : tw h 1 = T) (ht : TOk T) : MX mX0_clearGains 3 [.ref 43] h g (fun r h' g' => r = [] ∧ h' = h ∧ ∀ K, K < 2 ^ nP T → g' 49 K = lN 0) := by
  have hp := pow_le10 ht.np.1
  refine MX.of okX0_clearGains (by decide +kernel) (Nat.le_of_ble_eq_true rfl) (by decide) rfl (by decide) ?_
  refine SegP.run [2] 400 ?_
  refine SegP.tp (SegP.iter (fun i d => ∃ g', d = (2, [some (.ref 43), some (.int (nI i))], [], nW, h, g', ρ) ∧ ∀ K, K < i → g' 49 K = lN 0) (2 ^ nP T) (fun i hi d hd => ?_) _ ⟨_, rfl, fun t h0 => absurd h0 (Nat.not_lt_zero _)⟩) (fun d hd => ?_)
  · obtain ⟨g', rfl, hz⟩ := hd
    refine SegP.run [] 400 ?_
    refine SegP.tr (Seg.cV (tX0_sets h T g' e ht) mlX0_79 iyX0_sets seX0_sets oyX0_sets rfl (by decide) rfl (by decide) (by decide) rfl rfl rfl rfl (Nat.le_of_ble_eq_true rfl) (Nat.le_of_ble_eq_true rfl)) ?_
    refine SegP.run [2] 400 ?_
    refine And.intro (fun z => ?_) (fun z => ?_)
    · exact absurd z (nI_ge hi (by omega))
    refine And.intro (in10 (n := 1024) (by omega) (by decide)) ?_
    rw [nI_clamp (n := i) (by omega)]
    refine SegP.rf ⟨_, by rw [nI_succ] <;> rfl, fun t h1 => ?_⟩
    by_cases q : t = i
    · subst q; rw [up2_s]; rfl
    · rw [up2_k q]; exact hz t (by omega)
  · obtain ⟨g', rfl, hz⟩ := hd
    refine SegP.run [] 400 ?_
    refine SegP.tr (Seg.cV (tX0_sets h T g' e ht) mlX0_79 iyX0_sets seX0_sets oyX0_sets rfl (by decide) rfl (by decide) (by decide) rfl rfl rfl rfl (Nat.le_of_ble_eq_true rfl) (Nat.le_of_ble_eq_true rfl)) ?_
    refine SegP.run [] 400 ?_
    refine And.intro (fun z => ?_) (fun z => ?_)
    · exact SegP.ret ⟨rfl, rfl, hz⟩
    · exact absurd (nI_le (Nat.le_refl _) (by omega)) z
/-! what a set brings, with and without its lowest -/
theorem brgU_rs {T : aH} {s : Nat} (hs : s < 1024) (h0 : 0 < s) {thing : Int32} : ∀ p, p ≤ 10 → brgU T (nI s) thing p = brgU T (nI (rsN s)) thing p + (if tzN s < p ∧ T 6 (tzN s) = thing then T 7 (tzN s) else 0) := by
  intro p
  have hr : rsN s < 1024 := by have := (pcN_rs s hs h0).2; omega
  obtain ⟨t1, t2, t3, t4, t5⟩ := tzN_ok s hs h0
  induction p with
  | zero => intro _; simp [brgU]
  | succ p ih =>
    intro hp
    have hb := rsN_bit s hs h0 p (by omega)
    simp only [brgU, hsB_nI hs (show p < 10 by omega), hsB_nI hr (show p < 10 by omega)]
    rw [ih (by omega)]
    by_cases e : p = tzN s
    · rw [e] at hb ⊢
      have hb2 : s.testBit (tzN s) = true := t2
      rw [hb2, t5]
      by_cases e2 : T 6 (tzN s) = thing
      · simp [e2]
      · simp [e2]
    · have hb3 : s.testBit p = (rsN s).testBit p := by rw [hb, decide_eq_false e, Bool.or_false]
      rw [hb3]
      have e4 : (tzN s < p + 1 ∧ T 6 (tzN s) = thing) ↔ (tzN s < p ∧ T 6 (tzN s) = thing) := by
        constructor
        · rintro ⟨a, b⟩; exact ⟨by omega, b⟩
        · rintro ⟨a, b⟩; exact ⟨by omega, b⟩
      by_cases e5 : (rsN s).testBit p = true ∧ T 6 p = thing
      · rw [if_pos e5, if_pos e5]
        by_cases e6 : tzN s < p ∧ T 6 (tzN s) = thing
        · rw [if_pos e6, if_pos (e4.mpr e6), Int32.add_assoc, Int32.add_assoc, Int32.add_comm (T 7 p)]
        · rw [if_neg e6, if_neg (fun z => e6 (e4.mp z)), Int32.add_zero, Int32.add_zero]
      · rw [if_neg e5, if_neg e5]
        by_cases e6 : tzN s < p ∧ T 6 (tzN s) = thing
        · rw [if_pos e6, if_pos (e4.mpr e6)]
        · rw [if_neg e6, if_neg (fun z => e6 (e4.mp z))]
theorem tz_lt {n s : Nat} (hs : s < 2 ^ n) (hn : n ≤ 10) (h0 : 0 < s) : tzN s < n := by
  have h1 : s < 1024 := Nat.lt_of_lt_of_le hs (pow_le10 hn)
  have h2 := (tzN_ok s h1 h0).2.1
  rcases Nat.lt_or_ge (tzN s) n with h | h
  · exact h
  · rw [Nat.testBit_lt_two_pow (Nat.lt_of_lt_of_le hs (Nat.pow_le_pow_right (by decide) h))] at h2
    cases h2
theorem brg_rs {T : aH} (ht : TOk T) {s : Nat} (hs : s < 2 ^ nP T) (h0 : 0 < s) {thing : Int32} : brg T (nI s) thing = brg T (nI (rsN s)) thing + (if T 6 (tzN s) = thing then T 7 (tzN s) else 0) := by
  have h1 := brgU_rs (T := T) (sets_lt ht hs) h0 (thing := thing) (nP T) ht.np.1
  have h2 := tz_lt hs ht.np.1 h0
  unfold brg
  rw [h1]
  congr 1
  by_cases e : T 6 (tzN s) = thing
  · rw [if_pos ⟨h2, e⟩, if_pos e]
  · rw [if_neg (fun z => e z.2), if_neg e]
theorem brg_0 {T : aH} {thing : Int32} : brg T (nI 0) thing = 0 := by
  have : ∀ p, p ≤ nP T → brgU T (nI 0) thing p = 0 := by
    intro p
    induction p with
    | zero => intro _; rfl
    | succ p ih =>
      intro hp
      simp only [brgU]
      rw [ih (by omega), if_neg]
      rintro ⟨h1, -⟩
      have : hsB (nI 0) (nI p) = false := by
        unfold hsB
        rw [show nI 0 = 0 from rfl, Int32.zero_shiftRight, Int32.zero_and]
        rfl
      rw [this] at h1
      cases h1
  exact this (nP T) (Nat.le_refl _)
set_option maxRecDepth 100000 in
set_option maxHeartbeats 400000 in
theorem tX0_addGains (h T : aH) (g : aG) (e : tw h 1 = T) (ht : TOk T) (k : Nat) (hk : k < nN T) (v : Nat) (hv : v < 2 ^ 31) (f : Nat → Nat) (hf : ∀ K, K < 2 ^ nP T → g 49 K = lN (f K)) : MX mX0_addGains 3 [.ref 43, .int (nI k), .int (nI v)] h g (fun r h' g' => r = [] ∧ (∀ a, a ≠ 51 → h' a = h a) ∧ ∀ K, K < 2 ^ nP T → g' 49 K = lN (f K + if metB T k (nI K) = true then v else 0)) := by
  have hp := pow_le10 ht.np.1
  have h1p : 1 ≤ 2 ^ nP T := Nat.one_le_two_pow
  have hN := ht.nn.1
  have hk6 : k < 6 := by omega
  have ck := cl10 (p := k) (by omega)
  have hink := in10 (p := k) (n := 6) hk6 (by decide)
  -- all sets: the empty one is not met
  have m0 : metB T k (nI 0) = false := by
    obtain ⟨x, ⟨x1, x2⟩, x3⟩ := (ht.2.2.2.2.2.1 k hk).2.1
    unfold metB
    rw [brg_0, x3]
    exact decide_eq_false fun z => nI_nle (n := x) (by omega) (by omega) z
  refine MX.of okX0_addGains (by decide +kernel) (Nat.le_of_ble_eq_true rfl) (by decide) rfl (by decide) ?_
  refine SegP.run [9] 400 ?_
  refine And.intro (in10 (p := 0) (by decide) (by decide)) ?_
  let I : Nat → aCfg → Prop := fun i d => ∃ h' g', d = (9, [some (.ref 43), some (.int (nI k)), some (.int (nI v)), some (.int (nI (i + 1))), none, none], [], nW, h', g', ρ) ∧ (∀ a, a ≠ 51 → h' a = h a) ∧ (∀ K, K < i + 1 → h' 51 K = brg T (nI K) (T 9 k)) ∧ (∀ K, K < i + 1 → K < 2 ^ nP T → g' 49 K = lN (f K + if metB T k (nI K) = true then v else 0)) ∧ ∀ K, i + 1 ≤ K → K < 2 ^ nP T → g' 49 K = lN (f K)
  refine SegP.tp (SegP.iter I (2 ^ nP T - 1) (fun i hi d hd => ?_) _ ⟨_, _, rfl, fun a ha => up2_row ha, fun K hK => ?_, fun K hK hK2 => ?_, fun K _ hK2 => hf K hK2⟩) (fun d hd => ?_)
  · obtain ⟨h', g', rfl, f1, f2, f3, f4⟩ := hd
    have hi2 : i + 1 < 2 ^ nP T := by omega
    have hs : i + 1 < 1024 := by omega
    have e' : tw h' 1 = T := (tw_out fun j hj => f1 _ (by omega)).trans e
    have hin := in10 (p := i + 1) (n := 1024) hs (by decide)
    have ci := nI_clamp (n := i + 1) (by omega)
    obtain ⟨r1, r2⟩ := pcN_rs (i + 1) hs (Nat.succ_pos i)
    have tl := tz_lt hi2 ht.np.1 (Nat.succ_pos i)
    have tl10 : tzN (i + 1) < 10 := by have := ht.np.1; omega
    have hint := in10 (p := tzN (i + 1)) (n := 10) tl10 (by decide)
    have ct := cl10 (p := tzN (i + 1)) (by omega)
    have hinr := in10 (p := rsN (i + 1)) (n := 1024) (by omega) (by decide)
    have cr := nI_clamp (n := rsN (i + 1)) (by omega)
    have eth : h' 7 (tzN (i + 1)) = T 6 (tzN (i + 1)) := by rw [← e']; exact (tw_6 tl10).symm
    have enm : h' 8 (tzN (i + 1)) = T 7 (tzN (i + 1)) := by rw [← e']; exact (tw_7 tl10).symm
    have ent : h' 10 k = T 9 k := by rw [← e']; exact (tw_9 hk6).symm
    have enn : ∀ x y : Int32, up2 h' 51 (i + 1) x 11 k = T 10 k := fun x y => by rw [up2_o (by decide), ← e']; exact (tw_10 hk6).symm
    have hb := brg_rs ht hi2 (Nat.succ_pos i) (thing := T 9 k)
    have met : metB T k (nI (i + 1)) = decide (T 10 k ≤ brg T (nI (i + 1)) (T 9 k)) := rfl
    have fin : ∀ x : Int32, x = (if T 6 (tzN (i + 1)) = T 9 k then T 7 (tzN (i + 1)) else 0) → SegP mX0_addGains 3 (59, [some (.ref 43), some (.int (nI k)), some (.int (nI v)), some (.int (nI (i + 1))), some (.int (nI (tzN (i + 1)))), none], [.int x], nW, h', g', ρ) (I (i + 1)) := by
      intro x hx
      subst hx
      refine SegP.run [9] 400 ?_
      refine And.intro (by rw [rs_I (Nat.succ_pos i)]; exact hinr) ?_
      refine And.intro hin ?_
      refine And.intro hin ?_
      refine And.intro hink ?_
      rw [rs_I (Nat.succ_pos i), cr, ci, ck, f2 _ (by omega), ← hb, enn _ 0]
      have x51 : up2 h' 51 (i + 1) (brg T (nI (i + 1)) (T 9 k)) 51 (i + 1) = brg T (nI (i + 1)) (T 9 k) := up2_s
      rw [x51]
      have fin2 : ∀ g'' : aG, (∀ K, K < i + 1 + 1 → K < 2 ^ nP T → g'' 49 K = lN (f K + if metB T k (nI K) = true then v else 0)) → (∀ K, i + 1 + 1 ≤ K → K < 2 ^ nP T → g'' 49 K = lN (f K)) → SegP mX0_addGains 3 (9, [some (.ref 43), some (.int (nI k)), some (.int (nI v)), some (.int (nI (i + 1 + 1))), none, none], [], nW, up2 h' 51 (i + 1) (brg T (nI (i + 1)) (T 9 k)), g'', ρ) (I (i + 1)) := by
        intro g'' q1 q2
        refine SegP.rf ⟨_, g'', rfl, fun a ha => by rw [up2_row ha]; exact f1 a ha, fun K hK => ?_, q1, q2⟩
        by_cases y : K = i + 1
        · subst y; rw [up2_s]
        · rw [up2_k y]; exact f2 K (by omega)
      refine And.intro (fun z => ?_) (fun z => ?_)
      · refine SegP.tr (Seg.fg 4) (SegP.tr (Seg.fg 5) ?_)
        refine SegP.tr (Seg.of (b := (9, [some (.ref 43), some (.int (nI k)), some (.int (nI v)), some (.int (nI (i + 1 + 1))), none, none], [], nW, up2 h' 51 (i + 1) (brg T (nI (i + 1)) (T 9 k)), g', ρ)) (by rw [nI_succ (i + 1)] <;> rfl)) ?_
        refine fin2 g' (fun K hK hK2 => ?_) (fun K hK hK2 => f4 K (by omega) hK2)
        by_cases y : K = i + 1
        · subst y
          rw [f4 _ (Nat.le_refl _) hK2, if_neg (by rw [met]; exact fun w => nlt z (of_decide_eq_true w))] <;> rfl
        · exact f3 K (by omega) hK2
      · refine And.intro hin ?_
        refine And.intro hin ?_
        rw [ci, f4 _ (Nat.le_refl _) hi2, nI_l hv, lN_add]
        refine SegP.tr (Seg.fg 4) (SegP.tr (Seg.fg 5) ?_)
        refine SegP.tr (Seg.of (b := (9, [some (.ref 43), some (.int (nI k)), some (.int (nI v)), some (.int (nI (i + 1 + 1))), none, none], [], nW, up2 h' 51 (i + 1) (brg T (nI (i + 1)) (T 9 k)), up2 g' 49 (i + 1) (lN (f (i + 1) + v)), ρ)) (by rw [nI_succ (i + 1)] <;> rfl)) ?_
        refine fin2 _ (fun K hK hK2 => ?_) (fun K hK hK2 => ?_)
        · by_cases y : K = i + 1
          · subst y
            rw [up2_s, if_pos (by rw [met]; exact decide_eq_true (nle z))]
          · rw [up2_k y]; exact f3 K (by omega) hK2
        · rw [up2_k (by omega)]; exact f4 K (by omega) hK2
    refine SegP.run [] 400 ?_
    refine SegP.tr (Seg.cV (tX0_sets h' T g' e' ht) mlX0_79 iyX0_sets seX0_sets oyX0_sets rfl (by decide) rfl (by decide) (by decide) rfl rfl rfl rfl (Nat.le_of_ble_eq_true rfl) (Nat.le_of_ble_eq_true rfl)) ?_
    refine SegP.run [] 400 ?_
    refine And.intro (fun z => ?_) (fun z => ?_)
    · exact absurd z (nI_ge hi2 (by omega))
    refine SegP.tr (Seg.cS ((tJ6_tz hs (Nat.succ_pos i)).ms h' g') mlX0_142 syJ6_numberOfTrailingZeros_0f7a4 oyJ6_numberOfTrailingZeros_0f7a4 rfl (by decide) rfl rfl rfl (Nat.le_of_ble_eq_true rfl) (Nat.le_of_ble_eq_true rfl)) ?_
    refine SegP.run [59] 400 ?_
    refine And.intro hint ?_
    refine And.intro hink ?_
    rw [ct, ck, eth, ent]
    refine And.intro (fun z => ?_) (fun z => ?_)
    · exact fin _ (if_neg z).symm
    · refine And.intro hint ?_
      rw [ct, enm]
      exact fin _ (if_pos (Decidable.not_not.mp z)).symm
  · obtain rfl : K = 0 := by omega
    rw [show (0 : Int32).toNatClampNeg = 0 from rfl, up2_s, brg_0]
  · obtain rfl : K = 0 := by omega
    rw [m0, hf 0 hK2]
    simp
  · obtain ⟨h', g', rfl, f1, f2, f3, f4⟩ := hd
    have e' : tw h' 1 = T := (tw_out fun j hj => f1 _ (by omega)).trans e
    have eN : 2 ^ nP T - 1 + 1 = 2 ^ nP T := by omega
    refine SegP.run [] 400 ?_
    refine SegP.tr (Seg.cV (tX0_sets h' T g' e' ht) mlX0_79 iyX0_sets seX0_sets oyX0_sets rfl (by decide) rfl (by decide) (by decide) rfl rfl rfl rfl (Nat.le_of_ble_eq_true rfl) (Nat.le_of_ble_eq_true rfl)) ?_
    refine SegP.run [] 400 ?_
    refine And.intro (fun z => ?_) (fun z => ?_)
    · exact SegP.ret ⟨rfl, f1, fun K hK => f3 K (by omega) hK⟩
    · exact absurd (by rw [eN]; exact nI_le (Nat.le_refl _) (by omega)) z
set_option maxRecDepth 100000 in
set_option maxHeartbeats 400000 in
theorem tX0_fillGainsOfNeed (h T : aH) (g : aG) (e : tw h 1 = T) (ht : TOk T) (k : Nat) (hk : k < nN T) : MX mX0_fillGainsOfNeed 4 [.ref 43, .int (nI k)] h g (fun r h' g' => r = [] ∧ (∀ a, a ≠ 51 → h' a = h a) ∧ ∀ K, K < 2 ^ nP T → g' 49 K = lN (if metB T k (nI K) = true then 1 else 0)) := by
  refine MX.of okX0_fillGainsOfNeed (by decide +kernel) (Nat.le_of_ble_eq_true rfl) (by decide) rfl (by decide) ?_
  refine SegP.run [] 400 ?_
  refine SegP.cV (tX0_clearGains h T g e ht) mlX0_132 iyX0_clearGains seX0_clearGains oyX0_clearGains rfl (by decide) rfl (by decide) (by decide) rfl rfl rfl rfl (Nat.le_of_ble_eq_true rfl) ?_
  rintro r h1 g1 ⟨rfl, rfl, q1⟩
  refine SegP.run [] 400 ?_
  refine SegP.cV (tX0_addGains h1 T g1 e ht k hk 1 (by decide) (fun _ => 0) q1) mlX0_135 iyX0_addGains seX0_addGains oyX0_addGains rfl (by decide) rfl (by decide) (by decide) rfl rfl rfl rfl (Nat.le_of_ble_eq_true rfl) ?_
  rintro r h2 g2 ⟨rfl, f2, q2⟩
  refine SegP.run [] 400 ?_
  exact SegP.ret ⟨rfl, f2, fun K hK => by rw [q2 K hK, Nat.zero_add]⟩
set_option maxRecDepth 100000 in
set_option maxHeartbeats 400000 in
theorem tX0_fillGainsOfWorth (h T : aH) (g : aG) (e : tw h 1 = T) (ht : TOk T) : MX mX0_fillGainsOfWorth 4 [.ref 43] h g (fun r h' g' => r = [] ∧ (∀ a, a ≠ 51 → h' a = h a) ∧ ∀ K, K < 2 ^ nP T → g' 49 K = lN (wrN T (nI K))) := by
  have hN := ht.nn.1
  refine MX.of okX0_fillGainsOfWorth (by decide +kernel) (Nat.le_of_ble_eq_true rfl) (by decide) rfl (by decide) ?_
  refine SegP.run [] 400 ?_
  refine SegP.cV (tX0_clearGains h T g e ht) mlX0_132 iyX0_clearGains seX0_clearGains oyX0_clearGains rfl (by decide) rfl (by decide) (by decide) rfl rfl rfl rfl (Nat.le_of_ble_eq_true rfl) ?_
  rintro r h1 g1 ⟨rfl, rfl, q1⟩
  refine SegP.run [6] 400 ?_
  refine SegP.tp (SegP.iter (fun i d => ∃ h' g', d = (6, [some (.ref 43), some (.int (nI i))], [], nW, h', g', ρ) ∧ (∀ a, a ≠ 51 → h' a = h1 a) ∧ ∀ K, K < 2 ^ nP T → g' 49 K = lN (wrNU T (nI K) i)) (nN T) (fun i hi d hd => ?_) _ ⟨_, _, rfl, fun a ha => rfl, q1⟩) (fun d hd => ?_)
  · obtain ⟨h', g', rfl, f1, q⟩ := hd
    have e' : tw h' 1 = T := (tw_out fun j hj => f1 _ (by omega)).trans e
    have eN : h' 1 12 = nI (nN T) := (twT_1 e').trans ht.nn.2
    obtain ⟨v1, v2⟩ := ht.v hi
    have ew : h' 12 i = nI (vN T i) := by rw [← v2, ← e']; exact (tw_11 (by omega)).symm
    refine SegP.run [] 400 ?_
    refine And.intro (fun z => ?_) (fun z => ?_)
    · exact absurd (show nI (nN T) ≤ nI i by rw [← eN]; exact z) (nI_ge hi (by omega))
    refine And.intro (in10 (p := i) (n := 6) (by omega) (by decide)) ?_
    rw [cl10 (p := i) (by omega), ew]
    refine SegP.cV (tX0_addGains h' T g' e' ht i hi (vN T i) (by omega) (fun K => wrNU T (nI K) i) q) mlX0_135 iyX0_addGains seX0_addGains oyX0_addGains rfl (by decide) rfl (by decide) (by decide) rfl rfl rfl rfl (Nat.le_of_ble_eq_true rfl) ?_
    rintro r h2 g2 ⟨rfl, f2, q2⟩
    refine SegP.run [6] 400 ?_
    refine SegP.rf ⟨h2, g2, by rw [nI_succ] <;> rfl, fun a ha => (f2 a ha).trans (f1 a ha), fun K hK => q2 K hK⟩
  · obtain ⟨h', g', rfl, f1, q⟩ := hd
    have e' : tw h' 1 = T := (tw_out fun j hj => f1 _ (by omega)).trans e
    have eN : h' 1 12 = nI (nN T) := (twT_1 e').trans ht.nn.2
    refine SegP.run [] 400 ?_
    refine And.intro (fun z => ?_) (fun z => ?_)
    · exact SegP.ret ⟨rfl, f1, q⟩
    · exact absurd (show h' 1 12 ≤ nI (nN T) by rw [eN]; exact nI_le (Nat.le_refl _) (by omega)) z
