/-! ===== the class's chances: all sets weighed at once ===== -/
def lI (x : Int) : Int64 := Int64.ofInt x
theorem lI_add (a b : Int) : lI a + lI b = lI (a + b) := (Int64.ofInt_add a b).symm
theorem lI_sub (a b : Int) : lI a - lI b = lI (a - b) := (Int64.ofInt_sub a b).symm
theorem lI_mul (a b : Int) : lI a * lI b = lI (a * b) := (Int64.ofInt_mul a b).symm
theorem lI_nat (n : Nat) : lN n = lI (n : Int) := by
  unfold lN lI
  rw [Int64.ofInt_eq_ofNat]
theorem bit_and {s j : Nat} : (nI s &&& nI (2 ^ j) = 0) ↔ s.testBit j = false ∨ nI (s &&& 2 ^ j) = 0 := by
  rw [nI_and]
  constructor
  · intro h; exact Or.inr h
  · rintro (h | h)
    · have : s &&& 2 ^ j = 0 := by
        apply Nat.eq_of_testBit_eq
        intro i
        simp only [Nat.testBit_and, Nat.testBit_two_pow, Nat.zero_testBit]
        by_cases e : j = i
        · subst e; rw [h]; rfl
        · simp [e]
      rw [this]; rfl
    · exact h
theorem bit_nz {s j : Nat} (hs : s < 1024) (h : s.testBit j = true) : ¬ nI s &&& nI (2 ^ j) = 0 := by
  rw [nI_and]
  intro z
  have h1 : s &&& 2 ^ j < 1024 := Nat.lt_of_le_of_lt Nat.and_le_left hs
  have h2 := (nI_eq (b := 0) (by omega) (by decide)).mp (z.trans nI_0.symm)
  have h3 : (s &&& 2 ^ j).testBit j = true := by simp [h, Nat.testBit_two_pow]
  rw [h2] at h3
  simp at h3
theorem bit_z {s j : Nat} (h : s.testBit j = false) : nI s &&& nI (2 ^ j) = 0 := bit_and.mpr (Or.inl h)
theorem cmp_eq_iff {x y : Int32} : cmpP .eq x y ↔ x = y := Iff.rfl
theorem nI_two (n : Nat) : nI n * 2 = nI (n * 2) := nI_ml n 2
theorem pow_two_succ (j : Nat) : 2 ^ j * 2 = 2 ^ (j + 1) := (Nat.pow_succ 2 j).symm
theorem bit_lt {s j n : Nat} (hs : s < 2 ^ n) (h : s.testBit j = true) : j < n := by
  rcases Nat.lt_or_ge j n with z | z
  · exact z
  · rw [Nat.testBit_lt_two_pow (Nat.lt_of_lt_of_le hs (Nat.pow_le_pow_right (by decide) z))] at h; cases h
theorem or_gt {s j : Nat} (h : s.testBit j = false) : s < s ||| 2 ^ j := by
  have h1 : s ≤ s ||| 2 ^ j := Nat.left_le_or
  rcases Nat.lt_or_ge s (s ||| 2 ^ j) with z | z
  · exact z
  · have e : s = s ||| 2 ^ j := by omega
    have h3 : (s ||| 2 ^ j).testBit j = true := by simp [Nat.testBit_two_pow]
    rw [← e, h] at h3
    cases h3
theorem xor_less {s j : Nat} (h : s.testBit j = true) : s ^^^ 2 ^ j < s := by
  have e : (s ^^^ 2 ^ j) ||| 2 ^ j = s := by
    apply Nat.eq_of_testBit_eq
    intro i
    simp only [Nat.testBit_xor, Nat.testBit_or, Nat.testBit_two_pow]
    by_cases z : j = i
    · subst z; rw [h]; simp
    · simp [z]
  have b : (s ^^^ 2 ^ j).testBit j = false := by simp [h, Nat.testBit_two_pow]
  have := or_gt b
  rw [e] at this
  exact this
theorem or_bit {s j : Nat} : (s ||| 2 ^ j).testBit j = true := by simp [Nat.testBit_two_pow]
theorem xor_bit {s j : Nat} (h : s.testBit j = true) : (s ^^^ 2 ^ j).testBit j = false := by simp [h, Nat.testBit_two_pow]
set_option maxRecDepth 100000 in
set_option maxHeartbeats 400000 in
theorem tX0_weighGains (h T : aH) (g : aG) (hl : LD h T) (f : Nat → Nat) (hf : ∀ K, K < 2 ^ nP T → g 49 K = lN (f K)) : MX mX0_weighGains 4 [.ref 43] h g (fun r h' g' => r = [] ∧ h' = h ∧ ∀ S, S < 2 ^ nP T → g' 49 S = lN (FN T (fun K => f (S &&& K)))) := by
  obtain ⟨e, ht, hw, hk⟩ := hl
  have hp := pow_le10 ht.np.1
  have hP := ht.np.1
  let F : Nat → Int := fun K => (f K : Int)
  let t : Nat → Int := fun K => (tgN T K : Int)
  refine MX.of okX0_weighGains (by decide +kernel) (Nat.le_of_ble_eq_true rfl) (by decide) rfl (by decide) ?_
  refine SegP.run [] 400 ?_
  refine SegP.tr (Seg.cV (tX0_sets h T g e ht) mlX0_79 iyX0_sets seX0_sets oyX0_sets rfl (by decide) rfl (by decide) (by decide) rfl rfl rfl rfl (Nat.le_of_ble_eq_true rfl) (Nat.le_of_ble_eq_true rfl)) ?_
  refine SegP.run [] 400 ?_
  refine SegP.cV (tX0_fillTogether h T g e ht hw hk) mlX0_76 iyX0_fillTogether seX0_fillTogether oyX0_fillTogether rfl (by decide) rfl (by decide) (by decide) rfl rfl rfl rfl (Nat.le_of_ble_eq_true rfl) ?_
  rintro r h1 g1 ⟨rfl, rfl, q1, q2⟩
  have a0 : ∀ K, K < 2 ^ nP T → g1 48 K = lI (spU 0 t K) := fun K hK => by rw [q2 K hK, lI_nat]; rfl
  have b0 : ∀ K, K < 2 ^ nP T → g1 49 K = lI (mpU 0 F K) := fun K hK => by rw [q1 49 (by decide), hf K hK, lI_nat]; rfl
  -- the two downward turns
  let A : Nat → aCfg → Prop := fun j d => ∃ g', d = (11, [some (.ref 43), some (.int (nI (2 ^ nP T))), some (.int (nI (2 ^ j))), none], [], nW, h1, g', ρ) ∧ (∀ K, K < 2 ^ nP T → g' 48 K = lI (spU j t K)) ∧ ∀ K, K < 2 ^ nP T → g' 49 K = lI (mpU j F K)
  let B : Nat → aCfg → Prop := fun i d => ∃ g', d = (81, [some (.ref 43), some (.int (nI (2 ^ nP T))), some (.int (nI i)), none], [], nW, h1, g', ρ) ∧ (∀ K, K < 2 ^ nP T → g' 48 K = lI (spU (nP T) t K)) ∧ (∀ K, i ≤ K → K < 2 ^ nP T → g' 49 K = lI (mpU (nP T) F K)) ∧ ∀ K, K < i → g' 49 K = lI (mpU (nP T) F K * spU (nP T) t K)
  let G : Nat → Int := fun K => mpU (nP T) F K * spU (nP T) t K
  let D : Nat → aCfg → Prop := fun j d => ∃ g', d = (109, [some (.ref 43), some (.int (nI (2 ^ nP T))), some (.int (nI (2 ^ j))), none], [], nW, h1, g', ρ) ∧ ∀ K, K < 2 ^ nP T → g' 49 K = lI (zpU j G K)
  have stepA : ∀ j, j < nP T → ∀ d, A j d → SegP mX0_weighGains 4 d (A (j + 1)) := by
    rintro j hj d ⟨g', rfl, p1, p2⟩
    have hjp : 2 ^ j < 2 ^ nP T := Nat.pow_lt_pow_right (by decide) hj
    let I : Nat → aCfg → Prop := fun i d => ∃ g', d = (18, [some (.ref 43), some (.int (nI (2 ^ nP T))), some (.int (nI (2 ^ j))), some (.int (nI i))], [], nW, h1, g', ρ) ∧ (∀ K, K < i → g' 48 K = lI (spU (j + 1) t K) ∧ g' 49 K = lI (mpU (j + 1) F K)) ∧ ∀ K, i ≤ K → K < 2 ^ nP T → g' 48 K = lI (spU j t K) ∧ g' 49 K = lI (mpU j F K)
    refine SegP.run [18] 400 ?_
    refine And.intro (fun z => ?_) (fun z => ?_)
    · exact absurd z (nI_ge hjp (by omega))
    refine SegP.tp (SegP.iter I (2 ^ nP T) (fun i hi d hd => ?_) _ ⟨_, rfl, fun K hK => absurd hK (Nat.not_lt_zero _), fun K _ hK => ⟨p1 K hK, p2 K hK⟩⟩) (fun d hd => ?_)
    · obtain ⟨g', rfl, k1, k2⟩ := hd
      have his := sets_lt ht hi
      have hin := in10 (p := i) (n := 1024) his (by decide)
      have ci := nI_clamp (n := i) (by omega)
      refine SegP.run [18] 400 ?_
      refine And.intro (fun z => ?_) (fun z => ?_)
      · exact absurd z (nI_ge hi (by omega))
      by_cases hb : i.testBit j = true
      · have hx := xor_less hb
        have hinx := in10 (p := i ^^^ 2 ^ j) (n := 1024) (by omega) (by decide)
        have cx := nI_clamp (n := i ^^^ 2 ^ j) (by omega)
        refine And.intro (fun z => ?_) (fun z => absurd (bit_nz his hb) z)
        refine And.intro hin ?_
        refine And.intro (by rw [nI_xor]; exact hinx) ?_
        refine And.intro hin ?_
        rw [nI_xor, cx, ci]
        have ex : g' 49 (i ^^^ 2 ^ j) = lI (mpU j F (i ^^^ 2 ^ j)) := by
          rw [(k1 _ hx).2]
          congr 1
          show mpS j (mpU j F) (i ^^^ 2 ^ j) = _
          unfold mpS
          rw [if_neg (by rw [xor_bit hb]; simp)]
        rw [(k2 i (Nat.le_refl _) hi).2, ex, lI_sub]
        refine SegP.rf ⟨_, by rw [nI_succ] <;> rfl, fun K hK => ?_, fun K hK hK2 => ?_⟩
        · by_cases y : K = i
          · subst y
            refine ⟨?_, ?_⟩
            · rw [up2_o (by decide), (k2 K (Nat.le_refl _) hi).1]
              congr 1
              show _ = spS j (spU j t) K
              unfold spS
              rw [if_pos hb]
            · rw [up2_s]
              congr 1
              show _ = mpS j (mpU j F) K
              unfold mpS
              rw [if_pos hb]
          · refine ⟨?_, ?_⟩
            · rw [up2_o (by decide)]; exact (k1 K (by omega)).1
            · rw [up2_k y]; exact (k1 K (by omega)).2
        · refine ⟨?_, ?_⟩
          · rw [up2_o (by decide)]; exact (k2 K (by omega) hK2).1
          · rw [up2_k (by omega)]; exact (k2 K (by omega) hK2).2
      · have hb0 : i.testBit j = false := by simpa using hb
        have hx := or_gt hb0
        have hxl : i ||| 2 ^ j < 2 ^ nP T := or_lt hi hj
        have hinx := in10 (p := i ||| 2 ^ j) (n := 1024) (by omega) (by decide)
        have cx := nI_clamp (n := i ||| 2 ^ j) (by omega)
        refine And.intro (fun z => absurd (bit_z hb0) z) (fun z => ?_)
        refine And.intro hin ?_
        refine And.intro (by rw [nI_or]; exact hinx) ?_
        refine And.intro hin ?_
        rw [nI_or, cx, ci]
        rw [(k2 i (Nat.le_refl _) hi).1, (k2 (i ||| 2 ^ j) (by omega) hxl).1, lI_add]
        refine SegP.rf ⟨_, by rw [nI_succ] <;> rfl, fun K hK => ?_, fun K hK hK2 => ?_⟩
        · by_cases y : K = i
          · subst y
            refine ⟨?_, ?_⟩
            · rw [up2_s]
              congr 1
              show _ = spS j (spU j t) K
              unfold spS
              rw [if_neg hb]
            · rw [up2_o (by decide), (k2 K (Nat.le_refl _) hi).2]
              congr 1
              show _ = mpS j (mpU j F) K
              unfold mpS
              rw [if_neg hb]
          · refine ⟨?_, ?_⟩
            · rw [up2_k y]; exact (k1 K (by omega)).1
            · rw [up2_o (by decide)]; exact (k1 K (by omega)).2
        · refine ⟨?_, ?_⟩
          · rw [up2_k (by omega)]; exact (k2 K (by omega) hK2).1
          · rw [up2_o (by decide)]; exact (k2 K (by omega) hK2).2
    · obtain ⟨g', rfl, k1, k2⟩ := hd
      refine SegP.run [11] 400 ?_
      refine And.intro (fun z => ?_) (fun z => ?_)
      · refine SegP.tr (Seg.fg 3) ?_
        refine SegP.rf ⟨g', ?_, fun K hK => (k1 K hK).1, fun K hK => (k1 K hK).2⟩
        rw [nI_two, pow_two_succ]
        rfl
      · exact absurd (nI_le (Nat.le_refl _) (by omega)) z
  have stepB : ∀ i, i < 2 ^ nP T → ∀ d, B i d → SegP mX0_weighGains 4 d (B (i + 1)) := by
    rintro i hi d ⟨g', rfl, p1, p2, p3⟩
    have his := sets_lt ht hi
    have hin := in10 (p := i) (n := 1024) his (by decide)
    have ci := nI_clamp (n := i) (by omega)
    refine SegP.run [81] 400 ?_
    refine And.intro (fun z => ?_) (fun z => ?_)
    · exact absurd z (nI_ge hi (by omega))
    refine And.intro hin ?_
    refine And.intro hin ?_
    refine And.intro hin ?_
    rw [ci, p1 i hi, p2 i (Nat.le_refl _) hi, lI_mul]
    refine SegP.rf ⟨_, by rw [nI_succ] <;> rfl, fun K hK => ?_, fun K hK hK2 => ?_, fun K hK => ?_⟩
    · rw [up2_o (by decide)]; exact p1 K hK
    · rw [up2_k (by omega)]; exact p2 K (by omega) hK2
    · by_cases y : K = i
      · subst y; rw [up2_s]
      · rw [up2_k y]; exact p3 K (by omega)
  have stepD : ∀ j, j < nP T → ∀ d, D j d → SegP mX0_weighGains 4 d (D (j + 1)) := by
    rintro j hj d ⟨g', rfl, p2⟩
    have hjp : 2 ^ j < 2 ^ nP T := Nat.pow_lt_pow_right (by decide) hj
    let I : Nat → aCfg → Prop := fun i d => ∃ g', d = (116, [some (.ref 43), some (.int (nI (2 ^ nP T))), some (.int (nI (2 ^ j))), some (.int (nI i))], [], nW, h1, g', ρ) ∧ (∀ K, K < i → g' 49 K = lI (zpU (j + 1) G K)) ∧ ∀ K, i ≤ K → K < 2 ^ nP T → g' 49 K = lI (zpU j G K)
    refine SegP.run [116] 400 ?_
    refine And.intro (fun z => ?_) (fun z => ?_)
    · exact absurd z (nI_ge hjp (by omega))
    refine SegP.tp (SegP.iter I (2 ^ nP T) (fun i hi d hd => ?_) _ ⟨_, rfl, fun K hK => absurd hK (Nat.not_lt_zero _), fun K _ hK => p2 K hK⟩) (fun d hd => ?_)
    · obtain ⟨g', rfl, k1, k2⟩ := hd
      have his := sets_lt ht hi
      have hin := in10 (p := i) (n := 1024) his (by decide)
      have ci := nI_clamp (n := i) (by omega)
      refine SegP.run [116] 400 ?_
      refine And.intro (fun z => ?_) (fun z => ?_)
      · exact absurd z (nI_ge hi (by omega))
      by_cases hb : i.testBit j = true
      · have hx := xor_less hb
        have hinx := in10 (p := i ^^^ 2 ^ j) (n := 1024) (by omega) (by decide)
        have cx := nI_clamp (n := i ^^^ 2 ^ j) (by omega)
        refine And.intro (fun z => absurd z (bit_nz his hb)) (fun z => ?_)
        refine And.intro hin ?_
        refine And.intro (by rw [nI_xor]; exact hinx) ?_
        refine And.intro hin ?_
        rw [nI_xor, cx, ci]
        have ex : g' 49 (i ^^^ 2 ^ j) = lI (zpU j G (i ^^^ 2 ^ j)) := by
          rw [k1 _ hx]
          congr 1
          show zpS j (zpU j G) (i ^^^ 2 ^ j) = _
          unfold zpS
          rw [if_neg (by rw [xor_bit hb]; simp)]
        rw [k2 i (Nat.le_refl _) hi, ex, lI_add]
        refine SegP.rf ⟨_, by rw [nI_succ] <;> rfl, fun K hK => ?_, fun K hK hK2 => ?_⟩
        · by_cases y : K = i
          · subst y
            rw [up2_s]
            congr 1
            show _ = zpS j (zpU j G) K
            unfold zpS
            rw [if_pos hb]
          · rw [up2_k y]; exact k1 K (by omega)
        · rw [up2_k (by omega)]; exact k2 K (by omega) hK2
      · have hb0 : i.testBit j = false := by simpa using hb
        refine And.intro (fun z => ?_) (fun z => absurd (bit_z hb0) z)
        refine SegP.rf ⟨_, by rw [nI_succ] <;> rfl, fun K hK => ?_, fun K hK hK2 => k2 K (by omega) hK2⟩
        by_cases y : K = i
        · subst y
          rw [k2 K (Nat.le_refl _) hi]
          congr 1
          show _ = zpS j (zpU j G) K
          unfold zpS
          rw [if_neg hb]
        · exact k1 K (by omega)
    · obtain ⟨g', rfl, k1, k2⟩ := hd
      refine SegP.run [109] 400 ?_
      refine And.intro (fun z => ?_) (fun z => ?_)
      · refine SegP.tr (Seg.fg 3) ?_
        refine SegP.rf ⟨g', ?_, fun K hK => k1 K hK⟩
        rw [nI_two, pow_two_succ]
        rfl
      · exact absurd (nI_le (Nat.le_refl _) (by omega)) z
  refine SegP.run [11] 400 ?_
  refine SegP.tp (SegP.iter A (nP T) stepA _ ⟨_, rfl, a0, b0⟩) (fun d hd => ?_)
  obtain ⟨g2, rfl, a1, b1⟩ := hd
  refine SegP.run [81] 400 ?_
  refine And.intro (fun z => ?_) (fun z => absurd (nI_le (Nat.le_refl _) (by omega)) z)
  refine SegP.tp (SegP.iter B (2 ^ nP T) stepB _ ⟨_, rfl, a1, fun K _ hK => b1 K hK, fun K hK => absurd hK (Nat.not_lt_zero _)⟩) (fun d hd => ?_)
  obtain ⟨g3, rfl, a2, -, b2⟩ := hd
  refine SegP.run [109] 400 ?_
  refine And.intro (fun z => ?_) (fun z => absurd (nI_le (Nat.le_refl _) (by omega)) z)
  refine SegP.tp (SegP.iter D (nP T) stepD _ ⟨_, rfl, b2⟩) (fun d hd => ?_)
  obtain ⟨g4, rfl, b3⟩ := hd
  refine SegP.run [] 400 ?_
  refine And.intro (fun z => ?_) (fun z => absurd (nI_le (Nat.le_refl _) (by omega)) z)
  refine SegP.ret ⟨rfl, rfl, fun S hS => ?_⟩
  rw [b3 S hS, mob (nP T) F t S hS, lI_nat]
  congr 1
  rw [← tg_sum (fun t _ => (kept_nI ht t).2), ← SI_nat]
  refine SI_congr fun K hK => ?_
  show (tgN T K : Int) * (f (S &&& K) : Int) = ((f (S &&& K) * tgN T K : Nat) : Int)
  rw [Int.natCast_mul, Int.mul_comm]
