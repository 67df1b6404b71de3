/-! ===== the class's chances: how many are likeliest; fractions ===== -/
def lkN (T : aH) (S n : Nat) : Nat := FN T (fun K => if pcN (S &&& K) = n then 1 else 0)
noncomputable def lkS (T : aH) (S : Nat) : Nat → Option Nat := seU (fun _ => True) (fun f i => lkN T S f < lkN T S i)
theorem lk_l {T : aH} (ht : TOk T) (S n : Nat) : lkN T S n < 2 ^ 31 := by
  have w8 := wh8 ht
  have : lkN T S n ≤ 1 * whN T := FN_le ht fun t _ => by split <;> omega
  omega
theorem lk_some {T : aH} {S : Nat} : ∀ i, ∃ f, lkS T S (i + 1) = some f := by
  intro i
  induction i with
  | zero => exact ⟨0, se_pos trivial (fun k h => by cases h)⟩
  | succ i ih =>
    obtain ⟨f, hf⟩ := ih
    by_cases z : (True ∧ ∀ k, lkS T S (i + 1) = some k → lkN T S k < lkN T S (i + 1))
    · exact ⟨i + 1, se_pos z.1 z.2⟩
    · exact ⟨f, (se_neg z).trans hf⟩
theorem lk_step0 {T : aH} {S i f : Nat} (hf : lkS T S i = some f) (h : ¬ lkN T S f < lkN T S i) : lkS T S (i + 1) = some f := (se_neg fun y => h (y.2 f hf)).trans hf
theorem lk_step1 {T : aH} {S i f : Nat} (hf : lkS T S i = some f) (h : lkN T S f < lkN T S i) : lkS T S (i + 1) = some i := se_pos trivial fun k hk => by obtain rfl : f = k := Option.some.inj (hf.symm.trans hk); exact h
set_option maxRecDepth 100000 in
set_option maxHeartbeats 400000 in
theorem tX0_likeliestCount (h T : aH) (g : aG) (hc : CG h T) (S : Nat) (hS : S < 2 ^ nP T) : MX mX0_likeliestCount 2 [.ref 43, .int (nI S)] h g (fun r h' g' => r = [.int (foI (lkS T S 11))] ∧ frO h h') := by
  obtain ⟨⟨eT, ht, -, -⟩, C, cs, cw, hC, eC, hcs, hsum⟩ := hc
  have w8 := wh8 ht
  have hp := pow_le10 ht.np.1
  have hs := sets_lt ht hS
  refine MX.of okX0_likeliestCount (by decide +kernel) (Nat.le_of_ble_eq_true rfl) (by decide) rfl (by decide) ?_
  refine SegP.run [2] 400 ?_
  refine SegP.tp (SegP.iter (fun i d => ∃ h', d = (2, [some (.ref 43), some (.int (nI S)), some (.int (nI i)), none], [], nW, h', g, ρ) ∧ (∀ a, a ≠ 52 → h' a = h a) ∧ ∀ n, n < i → h' 52 n = nI 0) 11 (fun i hi d hd => ?_) _ ⟨h, rfl, fun a _ => rfl, fun n hn => absurd hn (Nat.not_lt_zero _)⟩) (fun d hd => ?_)
  · obtain ⟨h', rfl, f1, q1⟩ := hd
    refine SegP.run [2] 400 ?_
    refine And.intro (fun z => ?_) (fun z => ?_)
    · exact absurd z (fun y => absurd (show nI 10 < nI i from y) (nI_nlt (by omega) (by decide)))
    refine And.intro (in10 (p := i) (n := 11) hi (by decide)) ?_
    refine SegP.rf ⟨_, by rw [nI_succ] <;> rfl, fun a ha => by rw [up2_row ha]; exact f1 a ha, fun n hn => ?_⟩
    rw [cl10 (p := i) (by omega)]
    by_cases y : n = i
    · subst y; rw [up2_s]; rfl
    · rw [up2_k y]; exact q1 n (by omega)
  obtain ⟨h1, rfl, f1, q1⟩ := hd
  let J : Nat → aCfg → Prop := fun i d => ∃ h', d = (23, [some (.ref 43), some (.int (nI S)), some (.int (nI i)), none], [], nW, h', g, ρ) ∧ (∀ a, a ≠ 52 → h' a = h a) ∧ ∀ n, n < 11 → h' 52 n = nI (SN (fun c => (if pcN (S &&& cs c) = n then 1 else 0) * cw c) i)
  refine SegP.run [23] 400 ?_
  refine And.intro (fun z => ?_) (fun z => absurd (show nI 10 < nI 11 from nI_lt (by decide) (by decide)) z)
  refine SegP.tp (SegP.iter J C (fun i hi d hd => ?_) _ ⟨h1, rfl, f1, q1⟩) (fun d hd => ?_)
  · obtain ⟨h', rfl, f2, q2⟩ := hd
    obtain ⟨e1, e2, l1, l2⟩ := hcs i hi
    have ci := cl10 (p := i) (by omega)
    have hin := in10 (p := i) (n := 256) (by omega) (by decide)
    have hl : S &&& cs i < 1024 := Nat.lt_of_le_of_lt Nat.and_le_left hs
    have pl := pcN_le _ hl
    have hinp := in10 (p := pcN (S &&& cs i)) (n := 11) (by omega) (by decide)
    have cp := cl10 (p := pcN (S &&& cs i)) (by omega)
    have c46 : h' 46 i = nI (cs i) := by rw [f2 46 (by decide)]; exact e1
    have c47 : h' 47 i = nI (cw i) := by rw [f2 47 (by decide)]; exact e2
    have c43 : h' 43 5 = nI C := by rw [f2 43 (by decide)]; exact eC
    have ea : nI (cs i) &&& nI S = nI (S &&& cs i) := by rw [nI_and, Nat.and_comm]
    refine SegP.run [23] 400 ?_
    refine And.intro (fun z => ?_) (fun z => ?_)
    · exact absurd (show nI C ≤ nI i by rw [← c43]; exact z) (nI_ge hi (by omega))
    refine And.intro hin ?_
    rw [ci, c46]
    refine SegP.tr (Seg.cS (show MS mJ6_bitCount_0f7a4 1 [.int (nI (cs i) &&& nI S)] h' g [.int (nI (pcN (S &&& cs i)))] h' g by rw [ea]; exact (tJ6_bc hl).ms h' g) mlX0_106 syJ6_bitCount_0f7a4 oyJ6_bitCount_0f7a4 rfl (by decide) rfl rfl rfl (Nat.le_of_ble_eq_true rfl) (Nat.le_of_ble_eq_true rfl)) ?_
    refine SegP.run [23] 400 ?_
    refine And.intro (fun z => ?_) (fun z => ?_)
    · exact absurd (show nI 10 < nI (pcN (S &&& cs i)) from z) (nI_nlt (by omega) (by decide))
    refine And.intro hinp ?_
    refine And.intro hin ?_
    refine And.intro hinp ?_
    rw [ci, cp, c47, q2 _ (by omega), nI_ad]
    refine SegP.tr (Seg.fg 3) ?_
    refine SegP.rf ⟨_, by rw [nI_succ i] <;> rfl, fun a ha => by rw [up2_row ha]; exact f2 a ha, fun n hn => ?_⟩
    show _ = nI (SN _ i + (if pcN (S &&& cs i) = n then 1 else 0) * cw i)
    by_cases y : n = pcN (S &&& cs i)
    · subst y; rw [up2_s, if_pos rfl, Nat.one_mul]
    · rw [up2_k y, if_neg (fun w => y w.symm), Nat.zero_mul, Nat.add_zero]; exact q2 n hn
  obtain ⟨h2, rfl, f2, q2⟩ := hd
  have q3 : ∀ n, n < 11 → h2 52 n = nI (lkN T S n) := fun n hn => by
    rw [q2 n hn, hsum (fun K => if pcN (S &&& K) = n then 1 else 0)]; rfl
  have c43 : h2 43 5 = nI C := by rw [f2 43 (by decide)]; exact eC
  have fr : frO h h2 := fun a ha => f2 a (by omega)
  obtain ⟨k0, hk0⟩ : ∃ f, lkS T S (0 + 1) = some f := lk_some 0
  obtain rfl : (0 : Nat) = k0 := Option.some.inj ((show lkS T S (0 + 1) = some 0 from se_pos trivial (fun k h => by cases h)).symm.trans hk0)
  refine SegP.run [74] 400 ?_
  refine And.intro (fun z => ?_) (fun z => ?_)
  · refine SegP.tr (Seg.of (b := (74, [some (.ref 43), some (.int (nI S)), some (.int (foI (lkS T S (0 + 1)))), some (.int (nI (0 + 1)))], [], nW, h2, g, ρ)) (by rw [hk0] <;> rfl)) ?_
    refine SegP.tr (Seg.iter (fun i => (74, [some (.ref 43), some (.int (nI S)), some (.int (foI (lkS T S (i + 1)))), some (.int (nI (i + 1)))], [], nW, h2, g, ρ)) 10 (fun i hi => ?_)) ?_
    · obtain ⟨f, hf⟩ := lk_some (T := T) (S := S) i
      have fl := (se_lt (i + 1) f hf).1
      have hin := in10 (p := i + 1) (n := 11) (by omega) (by decide)
      have ci := cl10 (p := i + 1) (by omega)
      have hinf := in10 (p := f) (n := 11) (by omega) (by decide)
      have cf := cl10 (p := f) (by omega)
      rw [hf]
      refine Seg.run [74] 400 ?_
      refine And.intro (fun z => ?_) (fun z => ?_)
      · exact absurd (show nI 10 < nI (i + 1) from z) (nI_nlt (by omega) (by decide))
      refine And.intro hin ?_
      refine And.intro hinf ?_
      rw [ci, show foI (some f) = nI f from rfl, cf, q3 _ (show f < 11 by omega)]
      refine And.intro (fun z => ?_) (fun z => ?_)
      · have z1 : h2 52 (i + 1) ≤ nI (lkN T S f) := z
        rw [q3 _ (by omega)] at z1
        have z2 := (nI_leI (lk_l ht _ _) (lk_l ht _ _)).mp z1
        refine Seg.of ?_
        rw [lk_step0 hf (by omega), nI_succ (i + 1)] <;> rfl
      · have z1 : ¬ h2 52 (i + 1) ≤ nI (lkN T S f) := z
        rw [q3 _ (by omega)] at z1
        have z2 : lkN T S f < lkN T S (i + 1) := by
          rcases Nat.lt_or_ge (lkN T S f) (lkN T S (i + 1)) with y | y
          · exact y
          · exact absurd ((nI_leI (lk_l ht _ _) (lk_l ht _ _)).mpr y) z1
        refine Seg.of ?_
        rw [lk_step1 hf z2, nI_succ (i + 1)] <;> rfl
    · refine SegP.run [] 400 ?_
      refine And.intro (fun z => ?_) (fun z => ?_)
      · exact SegP.ret ⟨rfl, fr⟩
      · exact absurd (show nI 10 < nI 11 from nI_lt (by decide) (by decide)) z
  · exact absurd (show h2 43 5 ≤ nI C by rw [c43]; exact nI_le (Nat.le_refl _) (by omega)) z
theorem jremL_lN {a b : Nat} (ha : a < 2 ^ 63) (h0 : 0 < b) (hb : b < 2 ^ 63) : jremL (lN a) (lN b) = lN (a % b) := by
  unfold jremL
  rw [pk_lDiv ha h0 hb, lN_mul, lN_sub (Nat.div_mul_le_self a b)]
  congr 1
  rw [Nat.mul_comm]
  exact (Nat.mod_eq_sub_mul_div ..).symm
theorem lN_ne0 {b : Nat} (hb : b < 2 ^ 31) (h0 : b ≠ 0) : lN b ≠ 0 := fun z => h0 ((lN_eq hb (by decide)).mp (z.trans lN_0.symm))
theorem mod_half {a b : Nat} (h : 0 < a % b) (hb : 0 < b) : 2 * (b % (a % b)) < b := by
  have h1 := Nat.mod_lt a hb
  have h2 := Nat.mod_lt b h
  rcases Nat.lt_or_ge b (2 * (a % b)) with z | z
  · have : b % (a % b) = b - a % b := by
      rw [Nat.mod_eq_sub_mod (Nat.le_of_lt h1), Nat.mod_eq_of_lt (by omega)]
    omega
  · omega
set_option maxRecDepth 100000 in
set_option maxHeartbeats 400000 in
theorem tX0_commonDivisor (h : aH) (g : aG) (x y : Nat) (hx : x < 2 ^ 31) (hy : y < 2 ^ 31) : MS mX0_commonDivisor 1 [.long (lN x), .long (lN y)] h g [.long (lN (Nat.gcd x y))] h g := by
  have out : ∀ a i, Seg mX0_commonDivisor 1 (9, [some (.long (lN x)), none, some (.long (lN y)), none, some (.long (lN a)), none, some (.long (lN 0)), none, some (.int (nI i)), none, none], [], nW, h, g, ρ) (aRET, [], [.long (lN a)], nW, h, g, ρ) := by
    intro a i
    refine Seg.run [9] 400 ?_
    refine And.intro (fun z => ?_) (fun z => ?_)
    · exact Seg.rf
    refine And.intro (fun z => ?_) (fun z => ?_)
    · exact Seg.rf
    · exact absurd ((lg_cmp_eq _ _).mpr rfl) z
  have one : ∀ a b i, a < 2 ^ 31 → b < 2 ^ 31 → b ≠ 0 → i < 100 → Seg mX0_commonDivisor 1 (9, [some (.long (lN x)), none, some (.long (lN y)), none, some (.long (lN a)), none, some (.long (lN b)), none, some (.int (nI i)), none, none], [], nW, h, g, ρ) (9, [some (.long (lN x)), none, some (.long (lN y)), none, some (.long (lN b)), none, some (.long (lN (a % b))), none, some (.int (nI (i + 1))), none, none], [], nW, h, g, ρ) := by
    intro a b i ha hb h0 hi
    refine Seg.run [9] 400 ?_
    refine And.intro (fun z => ?_) (fun z => ?_)
    · exact (lim_ge (N := 100) hi (by decide) z).elim
    refine And.intro (fun z => ?_) (fun z => ?_)
    · exact absurd ((lg_cmp_eq _ _).mp z) (lN_ne0 hb h0)
    refine And.intro (lN_ne0 hb h0) ?_
    rw [jremL_lN (by omega) (Nat.pos_of_ne_zero h0) (by omega)]
    refine Seg.tr (Seg.fg 9) ?_
    exact Seg.of (by rw [nI_succ] <;> rfl)
  have loop : ∀ n a b i, a < 2 ^ 31 → b < 2 ^ 31 → b < 2 ^ n → i + 2 * n ≤ 98 → Seg mX0_commonDivisor 1 (9, [some (.long (lN x)), none, some (.long (lN y)), none, some (.long (lN a)), none, some (.long (lN b)), none, some (.int (nI i)), none, none], [], nW, h, g, ρ) (aRET, [], [.long (lN (Nat.gcd a b))], nW, h, g, ρ) := by
    intro n
    induction n with
    | zero =>
      intro a b i ha hb hn hi
      obtain rfl : b = 0 := by omega
      rw [Nat.gcd_zero_right]
      exact out a i
    | succ n ih =>
      intro a b i ha hb hn hi
      by_cases h0 : b = 0
      · subst h0
        rw [Nat.gcd_zero_right]
        exact out a i
      · refine Seg.tr (one a b i ha hb h0 (by omega)) ?_
        have hr := Nat.mod_lt a (Nat.pos_of_ne_zero h0)
        have eg : Nat.gcd a b = Nat.gcd b (a % b) := by
          rw [Nat.gcd_comm a b, Nat.gcd_rec b a, Nat.gcd_comm]
        by_cases h1 : a % b = 0
        · rw [eg, h1, Nat.gcd_zero_right]
          exact out b (i + 1)
        · refine Seg.tr (one b (a % b) (i + 1) hb (by omega) h1 (by omega)) ?_
          have hh := mod_half (Nat.pos_of_ne_zero h1) (Nat.pos_of_ne_zero h0)
          have eg2 : Nat.gcd b (a % b) = Nat.gcd (a % b) (b % (a % b)) := by
            rw [Nat.gcd_comm b (a % b), Nat.gcd_rec (a % b) b, Nat.gcd_comm]
          rw [eg, eg2]
          exact ih (a % b) (b % (a % b)) (i + 1 + 1) (by omega) (by omega) (by omega) (by omega)
  refine MS.of okX0_commonDivisor (by decide +kernel) (Nat.le_of_ble_eq_true rfl) (by decide) rfl (by decide) ?_
  refine Seg.run [9] 400 ?_
  exact loop 31 x y 0 hx hy hy (by decide)
set_option maxRecDepth 100000 in
set_option maxHeartbeats 400000 in
theorem tX0_fraction (h T : aH) (g : aG) (e : tw h 1 = T) (ht : TOk T) (A : Nat) (hA : A < 2 ^ 31) (part : Int32) : MS mX0_fraction 2 [.ref 43, .long (lN A), .int part] h g [.int (tldN A (whN T) part)] h g := by
  have w8 := wh8 ht
  have hw := tX4_wholeWeight h g
  rw [e, w8.2.2] at hw
  have gp : 0 < Nat.gcd A (whN T) := Nat.gcd_pos_of_pos_right _ w8.1
  have gl : Nat.gcd A (whN T) ≤ whN T := Nat.gcd_le_right _ w8.1
  have ew : (nI (whN T)).toInt64 = lN (whN T) := nI_l (by omega)
  refine MS.of okX0_fraction (by decide +kernel) (Nat.le_of_ble_eq_true rfl) (by decide) rfl (by decide) ?_
  refine Seg.run [] 400 ?_
  refine Seg.tr (Seg.cV hw mlX0_83 iyX4_wholeWeight seX4_wholeWeight oyX4_wholeWeight rfl (by decide) rfl (by decide) (by decide) rfl rfl rfl rfl (Nat.le_of_ble_eq_true rfl) (Nat.le_of_ble_eq_true rfl)) ?_
  refine Seg.run [] 400 ?_
  refine Seg.tr (Seg.cS (show MS mX0_commonDivisor 1 [.long (lN A), .long (nI (whN T)).toInt64] h g [.long (lN (Nat.gcd A (whN T)))] h g by rw [ew]; exact tX0_commonDivisor h g A (whN T) hA (by omega)) mlX0_86 syX0_commonDivisor oyX0_commonDivisor rfl (by decide) rfl rfl rfl (Nat.le_of_ble_eq_true rfl) (Nat.le_of_ble_eq_true rfl)) ?_
  refine Seg.run [] 400 ?_
  refine And.intro (fun z => ?_) (fun z => ?_)
  · refine And.intro (fun z2 => ?_) (fun z2 => ?_)
    · refine And.intro (lN_ne0 (by omega) (by omega)) (Seg.ri ?_)
      rw [ew, pk_lDiv (by omega) gp (by omega), lN_i, tldN, if_neg (show ¬ part = 0 from z2)]
    · refine And.intro (lN_ne0 (by omega) (by omega)) (Seg.ri ?_)
      rw [pk_lDiv (by omega) gp (by omega), lN_i, tldN, if_pos (Decidable.not_not.mp (show ¬ ¬ part = 0 from z2))]
  · exact absurd ((lg_cmp_gt _ _).mpr ((lN_lt (a := 0) (by decide) (by omega)).mpr gp)) z
