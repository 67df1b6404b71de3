/-! ===== the class's chances: weights, what is kept, the cases; printed by wip/whole/gen46.py ===== -/
theorem twT_0 {h T : aH} (e : tw h 1 = T) : h 1 8 = T 0 0 := by rw [← e]; rfl
theorem twT_1 {h T : aH} (e : tw h 1 = T) : h 1 12 = T 0 1 := by rw [← e]; rfl
theorem mnI_1024 {n : Nat} (h : n ≤ 1024) : mnI (nI n) 1024 = nI n := by
  unfold mnI
  rw [if_neg (show ¬ (1024 : Int32) < nI n from nI_nlt (a := 1024) h (by decide))]
set_option maxRecDepth 100000 in
set_option maxHeartbeats 400000 in
theorem tX0_sets (h T : aH) (g : aG) (e : tw h 1 = T) (ht : TOk T) : MS mX0_sets 2 [.ref 43] h g [.int (nI (2 ^ nP T))] h g := by
  have e1 : h 1 8 = nI (nP T) := (twT_0 e).trans ht.np.2
  have e2 : (1 : Int32) <<< (nI (nP T) &&& 31) = nI (2 ^ nP T) := bt1_nI (Nat.lt_succ_of_le ht.np.1)
  refine MS.of okX0_sets (by decide +kernel) (Nat.le_of_ble_eq_true rfl) (by decide) rfl (by decide) ?_
  refine Seg.run [] 400 ?_
  refine Seg.tr (Seg.cS ((tJ9_min ((1 : Int32) <<< (h 1 8 &&& 31)) 1024).ms h g) mlX0_53 syJ9_min_7cf53 oyJ9_min_7cf53 rfl (by decide) rfl rfl rfl (Nat.le_of_ble_eq_true rfl) (Nat.le_of_ble_eq_true rfl)) ?_
  refine Seg.run [] 400 ?_
  exact Seg.ri (by rw [e1, e2]; exact mnI_1024 (pow_le10 ht.np.1))
/-- what the class's chances leave as it was -/
def frO (h h' : aH) : Prop := ∀ a, a < 43 ∨ 52 < a → h' a = h a
theorem frO.tw {h h' : aH} (f : frO h h') : tw h' 1 = tw h 1 := tw_out fun j hj => f _ (Or.inl (by omega))
theorem frO.rf {h : aH} : frO h h := fun _ _ => rfl
theorem frO.tr {h h' h'' : aH} (f : frO h h') (f' : frO h' h'') : frO h h'' := fun a ha => (f' a ha).trans (f a ha)
theorem frO.up {h h' : aH} {a k : Nat} {x : Int32} (f : frO h h') (ha : 43 ≤ a ∧ a ≤ 52) : frO h (up2 h' a k x) := fun b hb => (up2_row (by omega)).trans (f b hb)
/-- the town in which a coin is sure (nI of no coin: none is) -/
def suT (T : aH) (c : Int32) : aH := fun j k => if j = 1 ∧ k < 8 ∧ nI k = c then T 2 k else T j k
theorem TOk.su {T : aH} (h : TOk T) (c : Int32) : TOk (suT T c) := by
  obtain ⟨h1, h2, h3, h4, h5, h6, h7⟩ := h
  refine ⟨h1, h2, h3, fun k hk => ?_, h5, h6, h7⟩
  obtain ⟨a, b, g1, g2, g3, g4, g5⟩ := h4 k hk
  by_cases z : nI k = c
  · exact ⟨b, b, Nat.le_refl _, g2, g3, by simp [suT, hk, z, g5], by simp [suT, g5]⟩
  · exact ⟨a, b, g1, g2, g3, by simp [suT, z, g4], by simp [suT, g5]⟩
theorem suT_no {T : aH} : suT T (-1) = T := by
  funext j k
  unfold suT
  by_cases z : j = 1 ∧ k < 8 ∧ nI k = -1
  · have := nI_pos' (n := k) (by omega)
    rw [z.2.2] at this
    exact absurd this (by decide)
  · rw [if_neg z]
theorem wNU_0 {T : aH} {t i : Nat} (h : t < 2 ^ i) : wNU T t (i + 1) = wNU T t i * (bN T i - aN T i) := by
  simp only [wNU]
  rw [if_neg (by rw [Nat.testBit_lt_two_pow h]; simp)]
theorem wNU_1 {T : aH} {t i : Nat} (h : t < 2 ^ i) : wNU T (2 ^ i + t) (i + 1) = wNU T t i * aN T i := by
  simp only [wNU]
  rw [if_pos (top_bit h)]
  congr 1
  exact wNU_low i fun c hc => Nat.testBit_two_pow_add_gt hc t
set_option maxRecDepth 100000 in
set_option maxHeartbeats 400000 in
theorem tX0_fillWeights (h T : aH) (g : aG) (e : tw h 1 = T) (ht : TOk T) (c : Int32) : MX mX0_fillWeights 1 [.ref 43, .int c] h g (fun r h' g' => r = [] ∧ g' = g ∧ (∀ a, a ≠ 44 → h' a = h a) ∧ ∀ t, t < 256 → h' 44 t = nI (wN (suT T c) t)) := by
  have ht' := ht.su c
  have ea : ∀ i, i < 8 → h 2 i = T 1 i := fun i hi => by rw [← e]; exact (tw_1 hi).symm
  have eb : ∀ i, i < 8 → h 3 i = T 2 i := fun i hi => by rw [← e]; exact (tw_2 hi).symm
  refine MX.of okX0_fillWeights (by decide +kernel) (Nat.le_of_ble_eq_true rfl) (by decide) rfl (by decide) ?_
  refine SegP.run [11] 400 ?_
  refine And.intro (in10 (p := 0) (by decide) (by decide)) ?_
  refine SegP.tp (SegP.iter (fun i d => ∃ h', d = (11, [some (.ref 43), some (.int c), some (.int (nI (2 ^ i))), some (.int (nI i)), none, none, none], [], nW, h', g, ρ) ∧ (∀ a, a ≠ 44 → h' a = h a) ∧ ∀ t, t < 2 ^ i → h' 44 t = nI (wNU (suT T c) t i)) 8 (fun i hi d hd => ?_) _ ⟨_, rfl, fun a ha => up2_row ha, fun t h0 => ?_⟩) (fun d hd => ?_)
  · obtain ⟨h', rfl, hf, hw⟩ := hd
    have hp : 2 ^ i ≤ 128 := Nat.pow_le_pow_right (by decide) (show i ≤ 7 by omega)
    have h2 : 2 ^ (i + 1) = 2 ^ i + 2 ^ i := by omega
    obtain ⟨a1, a2, a3, a4, a5⟩ := ht'.ab hi
    have ci := cl10 (p := i) (by omega)
    have hin := in10 (n := 8) hi (by decide)
    have e3 : h' 3 i = nI (bN (suT T c) i) := by rw [hf 3 (by decide), eb i hi, ← a5]; rfl
    have loop : ∀ y : Int32, y = nI (bN (suT T c) i - aN (suT T c) i) → SegP mX0_fillWeights 1 (71, [some (.ref 43), some (.int c), some (.int (nI (2 ^ i))), some (.int (nI i)), some (.int (nI (aN (suT T c) i))), some (.int y), some (.int (nI 0))], [], nW, h', g, ρ) (fun d => ∃ h', d = (11, [some (.ref 43), some (.int c), some (.int (nI (2 ^ (i + 1)))), some (.int (nI (i + 1))), none, none, none], [], nW, h', g, ρ) ∧ (∀ a, a ≠ 44 → h' a = h a) ∧ ∀ t, t < 2 ^ (i + 1) → h' 44 t = nI (wNU (suT T c) t (i + 1))) := by
      intro y hy
      subst hy
      refine SegP.tp (SegP.iter (fun j d => ∃ h', d = (71, [some (.ref 43), some (.int c), some (.int (nI (2 ^ i))), some (.int (nI i)), some (.int (nI (aN (suT T c) i))), some (.int (nI (bN (suT T c) i - aN (suT T c) i))), some (.int (nI j))], [], nW, h', g, ρ) ∧ (∀ a, a ≠ 44 → h' a = h a) ∧ (∀ t, t < j → h' 44 t = nI (wNU (suT T c) t (i + 1)) ∧ h' 44 (2 ^ i + t) = nI (wNU (suT T c) (2 ^ i + t) (i + 1))) ∧ ∀ t, j ≤ t → t < 2 ^ i → h' 44 t = nI (wNU (suT T c) t i)) (2 ^ i) (fun j hj d hd => ?_) _ ⟨h', rfl, hf, fun t h0 => absurd h0 (Nat.not_lt_zero _), fun t _ h0 => hw t h0⟩) (fun d hd => ?_)
      · obtain ⟨k', rfl, kf, k1, k2⟩ := hd
        have cj := cl10 (p := j) (by omega)
        have cj2 := cl10 (p := 2 ^ i + j) (by omega)
        have hin1 := in10 (p := j) (n := 256) (by omega) (by decide)
        have hin2 := in10 (p := 2 ^ i + j) (n := 256) (by omega) (by decide)
        refine SegP.run [71] 400 ?_
        refine And.intro (fun z => ?_) (fun z => ?_)
        · exact absurd z (nI_ge hj (by omega))
        refine And.intro hin1 ?_
        refine And.intro (by rw [nI_ad]; exact hin2) ?_
        refine And.intro hin1 ?_
        refine And.intro hin1 ?_
        rw [nI_ad, cj, cj2, up2_k (show j ≠ 2 ^ i + j by omega), k2 j (Nat.le_refl _) hj, nI_ml, nI_ml]
        refine SegP.rf ⟨_, by rw [nI_succ] <;> rfl, fun a ha => by rw [up2_row ha, up2_row ha]; exact kf a ha, fun t h1 => ?_, fun t h1 h3 => ?_⟩
        · by_cases q : t = j
          · subst q
            exact ⟨by rw [up2_s, wNU_0 hj], by rw [up2_k (by omega), up2_s, wNU_1 hj]⟩
          · have := k1 t (by omega)
            exact ⟨by rw [up2_k q, up2_k (by omega)]; exact this.1, by rw [up2_k (by omega), up2_k (by omega)]; exact this.2⟩
        · rw [up2_k (by omega), up2_k (by omega)]
          exact k2 t (by omega) h3
      · obtain ⟨k', rfl, kf, k1, -⟩ := hd
        refine SegP.run [11] 400 ?_
        refine And.intro (fun z => ?_) (fun z => ?_)
        · refine SegP.tr (Seg.fg 4) (SegP.tr (Seg.fg 5) (SegP.tr (Seg.fg 6) ?_))
          refine SegP.rf ⟨k', ?_, kf, fun t h1 => ?_⟩
          · rw [nI_succ, show (2 : Int32) = nI 2 from rfl, nI_ml, h2, Nat.mul_two]
            rfl
          · rcases Nat.lt_or_ge t (2 ^ i) with q | q
            · exact (k1 t q).1
            · have := (k1 (t - 2 ^ i) (by omega)).2
              rw [show 2 ^ i + (t - 2 ^ i) = t by omega] at this
              exact this
        · exact absurd (nI_le (Nat.le_refl _) (by omega)) z
    have loop' : ∀ x : Int32, x = nI (aN (suT T c) i) → SegP mX0_fillWeights 1 (52, [some (.ref 43), some (.int c), some (.int (nI (2 ^ i))), some (.int (nI i)), none, none, none], [.int x], nW, h', g, ρ) (fun d => ∃ h', d = (11, [some (.ref 43), some (.int c), some (.int (nI (2 ^ (i + 1)))), some (.int (nI (i + 1))), none, none, none], [], nW, h', g, ρ) ∧ (∀ a, a ≠ 44 → h' a = h a) ∧ ∀ t, t < 2 ^ (i + 1) → h' 44 t = nI (wNU (suT T c) t (i + 1))) := by
      intro x hx
      subst hx
      refine SegP.run [71] 400 ?_
      refine And.intro hin ?_
      rw [ci, e3]
      exact loop _ (nI_sb a1)
    refine SegP.run [11, 52] 400 ?_
    refine And.intro (fun z => ?_) (fun z => ?_)
    · exact (lim_ge (N := 8) hi (by decide) z).elim
    refine And.intro (fun z => ?_) (fun z => ?_)
    · exact absurd (show nI 256 < nI (2 * 2 ^ i) by rw [← nI_ml]; exact z) (nI_nlt (by omega) (by decide))
    refine And.intro (fun z => ?_) (fun z => ?_)
    · refine And.intro hin ?_
      rw [ci]
      refine loop' _ ?_
      rw [hf 2 (by decide), ea i hi, ← a4]
      simp [suT, show ¬ nI i = c from z]
    · refine And.intro hin ?_
      rw [ci]
      refine loop' _ ?_
      rw [hf 3 (by decide), eb i hi, ← a4]
      simp [suT, hi, show nI i = c from Decidable.not_not.mp z]
  · have : t = 0 := by simpa using h0
    subst this
    rw [show (0 : Int32).toNatClampNeg = 0 from rfl, up2_s]
    rfl
  · obtain ⟨h', rfl, hf, hw⟩ := hd
    refine SegP.run [] 400 ?_
    refine And.intro (fun z => ?_) (fun z => ?_)
    · exact SegP.ret ⟨rfl, rfl, hf, fun t h0 => hw t h0⟩
    · exact (lim_le (N := 8) (Nat.le_refl _) (by decide) z).elim
set_option maxRecDepth 100000 in
set_option maxHeartbeats 400000 in
theorem tX0_fillKeptSets (h T : aH) (g : aG) (e : tw h 1 = T) (ht : TOk T) : MX mX0_fillKeptSets 4 [.ref 43] h g (fun r h' g' => r = [] ∧ g' = g ∧ (∀ a, a ≠ 45 → h' a = h a) ∧ ∀ t, t < 256 → h' 45 t = nI (kN T t)) := by
  refine MX.of okX0_fillKeptSets (by decide +kernel) (Nat.le_of_ble_eq_true rfl) (by decide) rfl (by decide) ?_
  refine SegP.run [2] 400 ?_
  refine SegP.tp (SegP.iter (fun i d => ∃ h', d = (2, [some (.ref 43), some (.int (nI i))], [], nW, h', g, ρ) ∧ (∀ a, a ≠ 45 → h' a = h a) ∧ ∀ t, t < i → h' 45 t = nI (kN T t)) 256 (fun i hi d hd => ?_) _ ⟨_, rfl, fun a ha => rfl, fun t h0 => absurd h0 (Nat.not_lt_zero _)⟩) (fun d hd => ?_)
  · obtain ⟨h', rfl, hf, hw⟩ := hd
    have e' : tw h' 1 = T := (tw_out fun j hj => hf _ (by omega)).trans e
    have hk := tX4_keptIn h' g (by rw [e']; exact ht) (nI i)
    rw [e', (kept_nI ht i).1] at hk
    refine SegP.run [2] 400 ?_
    refine And.intro (fun z => ?_) (fun z => ?_)
    · exact (lim_ge (N := 256) hi (by decide) z).elim
    refine SegP.tr (Seg.cV hk mlX0_65 iyX4_keptIn seX4_keptIn oyX4_keptIn rfl (by decide) rfl (by decide) (by decide) rfl rfl rfl rfl (Nat.le_of_ble_eq_true rfl) (Nat.le_of_ble_eq_true rfl)) ?_
    refine SegP.run [2] 400 ?_
    refine And.intro (in10 hi (by decide)) ?_
    rw [cl10 hi]
    refine SegP.rf ⟨_, by rw [nI_succ] <;> rfl, fun a ha => by rw [up2_row ha]; exact hf a ha, fun t h1 => ?_⟩
    by_cases q : t = i
    · subst q; rw [up2_s]
    · rw [up2_k q]; exact hw t (by omega)
  · obtain ⟨h', rfl, hf, hw⟩ := hd
    refine SegP.run [] 400 ?_
    refine And.intro (fun z => ?_) (fun z => ?_)
    · exact SegP.ret ⟨rfl, rfl, hf, hw⟩
    · exact (lim_le (N := 256) (Nat.le_refl _) (by decide) z).elim
set_option maxRecDepth 100000 in
set_option maxHeartbeats 400000 in
theorem tX0_fillTogether (h T : aH) (g : aG) (e : tw h 1 = T) (ht : TOk T) (hw : ∀ t, t < 256 → h 44 t = nI (wN T t)) (hk : ∀ t, t < 256 → h 45 t = nI (kN T t)) : MX mX0_fillTogether 3 [.ref 43] h g (fun r h' g' => r = [] ∧ h' = h ∧ (∀ a, a ≠ 48 → g' a = g a) ∧ ∀ K, K < 2 ^ nP T → g' 48 K = lN (tgN T K)) := by
  have hp := pow_le10 ht.np.1
  have w8 := wh8 ht
  refine MX.of okX0_fillTogether (by decide +kernel) (Nat.le_of_ble_eq_true rfl) (by decide) rfl (by decide) ?_
  refine SegP.run [] 400 ?_
  refine SegP.tr (Seg.cV (tX0_sets h T g e ht) mlX0_79 iyX0_sets seX0_sets oyX0_sets rfl (by decide) rfl (by decide) (by decide) rfl rfl rfl rfl (Nat.le_of_ble_eq_true rfl) (Nat.le_of_ble_eq_true rfl)) ?_
  refine SegP.run [7] 400 ?_
  refine SegP.tp (SegP.iter (fun i d => ∃ g', d = (7, [some (.ref 43), some (.int (nI (2 ^ nP T))), some (.int (nI i))], [], nW, h, g', ρ) ∧ (∀ a, a ≠ 48 → g' a = g a) ∧ ∀ K, K < i → g' 48 K = 0) (2 ^ nP T) (fun i hi d hd => ?_) _ ⟨_, rfl, fun a ha => rfl, fun t h0 => absurd h0 (Nat.not_lt_zero _)⟩) (fun d hd => ?_)
  · obtain ⟨g', rfl, hf, hz⟩ := hd
    refine SegP.run [7] 400 ?_
    refine And.intro (fun z => ?_) (fun z => ?_)
    · exact absurd z (nI_ge hi (by omega))
    refine And.intro (in10 (n := 1024) (by omega) (by decide)) ?_
    rw [nI_clamp (n := i) (by omega)]
    refine SegP.rf ⟨_, by rw [nI_succ] <;> rfl, fun a ha => by rw [up2_row ha]; exact hf a ha, fun t h1 => ?_⟩
    by_cases q : t = i
    · subst q; rw [up2_s]
    · rw [up2_k q]; exact hz t (by omega)
  · obtain ⟨g', rfl, hf, hz⟩ := hd
    refine SegP.run [27] 400 ?_
    refine And.intro (fun z => ?_) (fun z => ?_)
    · refine SegP.tp (SegP.iter (fun i d => ∃ g', d = (27, [some (.ref 43), some (.int (nI (2 ^ nP T))), some (.int (nI i))], [], nW, h, g', ρ) ∧ (∀ a, a ≠ 48 → g' a = g a) ∧ ∀ K, K < 2 ^ nP T → g' 48 K = lN (SN (fun t => if kN T t = K then wN T t else 0) i)) 256 (fun i hi d hd => ?_) _ ⟨_, rfl, hf, fun K hK => hz K hK⟩) (fun d hd => ?_)
      · obtain ⟨g', rfl, hf, hz⟩ := hd
        have hl := (kept_nI ht i).2
        have hin := in10 (n := 256) hi (by decide)
        have hin2 := in10 (p := kN T i) (n := 1024) (by omega) (by decide)
        have ck := nI_clamp (n := kN T i) (by omega)
        have wl : wN T i < 2 ^ 31 := by
          have h1 : wN T i ≤ SN (wN T) 256 := by
            have e1 := SN_split (f := wN T) (m := i + 1) (n := 256 - (i + 1))
            rw [show i + 1 + (256 - (i + 1)) = 256 by omega] at e1
            have e2 : SN (wN T) (i + 1) = SN (wN T) i + wN T i := rfl
            omega
          rw [wN8 ht] at h1
          omega
        refine SegP.run [27] 400 ?_
        refine And.intro (fun z => ?_) (fun z => ?_)
        · exact (lim_ge (N := 256) hi (by decide) z).elim
        refine And.intro hin ?_
        rw [cl10 hi, hk i hi]
        refine And.intro (fun q => ?_) (fun q => ?_)
        · exact absurd q (nI_ge hl (by omega))
        refine And.intro hin ?_
        rw [cl10 hi, hk i hi]
        refine And.intro hin2 ?_
        refine And.intro hin ?_
        refine And.intro hin2 ?_
        rw [cl10 hi, ck, hw i hi, nI_l wl, hz _ hl, lN_add]
        refine SegP.rf ⟨_, by rw [nI_succ] <;> rfl, fun a ha => by rw [up2_row ha]; exact hf a ha, fun K h1 => ?_⟩
        by_cases y : K = kN T i
        · subst y
          rw [up2_s]
          show _ = lN (SN _ i + (if kN T i = kN T i then wN T i else 0))
          rw [if_pos rfl]
        · rw [up2_k y, hz K h1]
          show _ = lN (SN _ i + (if kN T i = K then wN T i else 0))
          rw [if_neg (fun z => y z.symm), Nat.add_zero]
      · obtain ⟨g', rfl, hf, hz⟩ := hd
        refine SegP.run [] 400 ?_
        refine And.intro (fun z => ?_) (fun z => ?_)
        · exact SegP.ret ⟨rfl, rfl, hf, hz⟩
        · exact (lim_le (N := 256) (Nat.le_refl _) (by decide) z).elim
    · exact absurd (nI_le (Nat.le_refl _) (by omega)) z
/-- weights and what is kept are laid down, the cases gathered -/
def LD (h T : aH) : Prop := tw h 1 = T ∧ TOk T ∧ (∀ t, t < 256 → h 44 t = nI (wN T t)) ∧ (∀ t, t < 256 → h 45 t = nI (kN T t))
def CS (h T : aH) (C : Nat) (cs cw : Nat → Nat) : Prop := C ≤ 256 ∧ h 43 5 = nI C ∧ (∀ c, c < C → h 46 c = nI (cs c) ∧ h 47 c = nI (cw c) ∧ cs c < 2 ^ nP T ∧ cw c ≤ whN T) ∧ ∀ F : Nat → Nat, SN (fun c => F (cs c) * cw c) C = FN T F
def CG (h T : aH) : Prop := LD h T ∧ ∃ C cs cw, CS h T C cs cw
theorem lN_pos {n : Nat} (h : n < 2 ^ 31) : (cmpP .le (lg_cmp (lN n) 0) 0) ↔ n = 0 := by
  show lg_cmp (lN n) 0 ≤ 0 ↔ _
  rw [lg_cmp_le, show (0 : Int64) = lN 0 from rfl, lN_le h (by decide)]
  omega
set_option maxRecDepth 100000 in
set_option maxHeartbeats 400000 in
theorem tX0_gather (h T : aH) (g : aG) (e : tw h 1 = T) (ht : TOk T) : MX mX0_gather 5 [.ref 43] h g (fun r h' g' => r = [] ∧ frO h h' ∧ CG h' T) := by
  have hp := pow_le10 ht.np.1
  have w8 := wh8 ht
  refine MX.of okX0_gather (by decide +kernel) (Nat.le_of_ble_eq_true rfl) (by decide) rfl (by decide) ?_
  refine SegP.run [] 400 ?_
  refine SegP.cV (tX0_fillWeights h T g e ht (-1)) mlX0_69 iyX0_fillWeights seX0_fillWeights oyX0_fillWeights rfl (by decide) rfl (by decide) (by decide) rfl rfl rfl rfl (Nat.le_of_ble_eq_true rfl) ?_
  rintro r h1 g1 ⟨rfl, rfl, f1, q1⟩
  rw [suT_no] at q1
  have e1 : tw h1 1 = T := (tw_out fun j hj => f1 _ (by omega)).trans e
  refine SegP.run [] 400 ?_
  refine SegP.cV (tX0_fillKeptSets h1 T _ e1 ht) mlX0_73 iyX0_fillKeptSets seX0_fillKeptSets oyX0_fillKeptSets rfl (by decide) rfl (by decide) (by decide) rfl rfl rfl rfl (Nat.le_of_ble_eq_true rfl) ?_
  rintro r h2 g2 ⟨rfl, rfl, f2, q2⟩
  have e2 : tw h2 1 = T := (tw_out fun j hj => f2 _ (by omega)).trans e1
  have q3 : ∀ t, t < 256 → h2 44 t = nI (wN T t) := fun t h0 => by rw [f2 44 (by decide)]; exact q1 t h0
  refine SegP.run [] 400 ?_
  refine SegP.cV (tX0_fillTogether h2 T _ e2 ht q3 q2) mlX0_76 iyX0_fillTogether seX0_fillTogether oyX0_fillTogether rfl (by decide) rfl (by decide) (by decide) rfl rfl rfl rfl (Nat.le_of_ble_eq_true rfl) ?_
  rintro r h3 g3 ⟨rfl, rfl, f3, q4⟩
  have fr : frO h h3 := fun a ha => (f2 a (by omega)).trans (f1 a (by omega))
  have ld : LD h3 T := ⟨e2, ht, q3, q2⟩
  let I : Nat → aCfg → Prop := fun i d => ∃ h', d = (20, [some (.ref 43), some (.int (nI i))], [], nW, h', g3, ρ) ∧ frO h h' ∧ LD h' T ∧ h' 43 5 = nI (cnN T i) ∧ ∀ c, c < cnN T i → h' 46 c = nI (csF T i c) ∧ h' 47 c = nI (tgN T (csF T i c))
  have fin : ∀ i, i ≤ 2 ^ nP T → (i = 2 ^ nP T ∨ cnN T i = 256) → ∀ h', frO h h' → LD h' T → h' 43 5 = nI (cnN T i) → (∀ c, c < cnN T i → h' 46 c = nI (csF T i c) ∧ h' 47 c = nI (tgN T (csF T i c))) → CG h' T := by
    intro i hi hend h' hf hl h5 hc
    refine ⟨hl, cnN T i, csF T i, fun c => tgN T (csF T i c), cn_le i, h5, fun c hc' => ⟨(hc c hc').1, (hc c hc').2, ?_, tg_le ht _⟩, fun F => ?_⟩
    · have := cs_lt i c hc'
      omega
    · rw [cs_sum i]
      have e5 : SN (fun K => F K * tgN T K) i = SN (fun K => F K * tgN T K) (2 ^ nP T) := by
        rcases hend with rfl | z
        · rfl
        · exact (cn_full hi z).symm
      rw [e5]
      exact tg_sum (fun t _ => (kept_nI ht t).2)
  have loop : ∀ n i, n + i = 2 ^ nP T → ∀ d, I i d → SegP mX0_gather 5 d (enP (fun r h' g' => r = [] ∧ frO h h' ∧ CG h' T)) := by
    intro n
    induction n with
    | zero =>
      rintro i hi d ⟨h', rfl, hf, hl, h5, hc⟩
      obtain rfl : i = 2 ^ nP T := by omega
      refine SegP.run [] 400 ?_
      refine SegP.tr (Seg.cV (tX0_sets h' T g3 hl.1 ht) mlX0_79 iyX0_sets seX0_sets oyX0_sets rfl (by decide) rfl (by decide) (by decide) rfl rfl rfl rfl (Nat.le_of_ble_eq_true rfl) (Nat.le_of_ble_eq_true rfl)) ?_
      refine SegP.run [] 400 ?_
      refine And.intro (fun z => ?_) (fun z => ?_)
      · exact SegP.ret ⟨rfl, hf, fin _ (Nat.le_refl _) (Or.inl rfl) h' hf hl h5 hc⟩
      · exact absurd (nI_le (Nat.le_refl _) (by omega)) z
    | succ n ih =>
      rintro i hi d ⟨h', rfl, hf, hl, h5, hc⟩
      have hi2 : i < 2 ^ nP T := by omega
      have hin := in10 (p := i) (n := 1024) (by omega) (by decide)
      have ci := nI_clamp (n := i) (by omega)
      refine SegP.run [] 400 ?_
      refine SegP.tr (Seg.cV (tX0_sets h' T g3 hl.1 ht) mlX0_79 iyX0_sets seX0_sets oyX0_sets rfl (by decide) rfl (by decide) (by decide) rfl rfl rfl rfl (Nat.le_of_ble_eq_true rfl) (Nat.le_of_ble_eq_true rfl)) ?_
      refine SegP.run [20] 400 ?_
      refine And.intro (fun z => ?_) (fun z => ?_)
      · exact absurd z (nI_ge hi2 (by omega))
      refine And.intro (fun z => ?_) (fun z => ?_)
      · refine SegP.ret ⟨rfl, hf, fin i (by omega) (Or.inr ?_) h' hf hl h5 hc⟩
        have c1 := cn_le (T := T) i
        have c2 : 256 ≤ cnN T i := (nI_leI (a := 256) (by decide) (by omega)).mp (show nI 256 ≤ nI (cnN T i) by rw [← h5]; exact z)
        omega
      have c1 : cnN T i < 256 := by
        have c1 := cn_le (T := T) i
        rcases Nat.lt_or_ge (cnN T i) 256 with q | q
        · exact q
        · exact absurd (show nI 256 ≤ h' 43 5 by rw [h5]; exact nI_le q (by omega)) z
      have hin5 : vp_in (h' 43 5) 256 := by rw [h5]; exact in10 c1 (by decide)
      have c5 : (h' 43 5).toNatClampNeg = cnN T i := by rw [h5]; exact cl10 c1
      have tl := tg_le ht i
      refine And.intro hin ?_
      rw [ci, q4 i hi2]
      refine And.intro (fun z => ?_) (fun z => ?_)
      · have z0 : tgN T i = 0 := (lN_pos (by omega)).mp z
        have x1 : cnN T (i + 1) = cnN T i := by
          show cnN T i + (if 0 < tgN T i then 1 else 0) = _
          rw [if_neg (by omega)]; rfl
        have x2 : csF T (i + 1) = csF T i := by
          show (if 0 < tgN T i then _ else _) = _
          rw [if_neg (by omega)]
        exact ih (i + 1) (by omega) _ ⟨h', by rw [nI_succ] <;> rfl, hf, hl, by rw [x1]; exact h5, by rw [x1, x2]; exact hc⟩
      · have z0 : 0 < tgN T i := Nat.pos_of_ne_zero fun y => z ((lN_pos (by omega)).mpr y)
        have x1 : cnN T (i + 1) = cnN T i + 1 := by
          show cnN T i + (if 0 < tgN T i then 1 else 0) = _
          rw [if_pos z0]
        have x2 : csF T (i + 1) = fun k => if k = cnN T i then i else csF T i k := by
          show (if 0 < tgN T i then _ else _) = _
          rw [if_pos z0]
        refine And.intro hin5 ?_
        refine And.intro hin ?_
        refine And.intro (by rw [up2_o (show (43 : Nat) ≠ 46 by decide)]; exact hin5) ?_
        refine And.intro (fun z => by cases z) ?_
        rw [up2_o (show (43 : Nat) ≠ 47 by decide), up2_o (show (43 : Nat) ≠ 46 by decide), ci, c5, q4 i hi2, lN_i, h5, ← nI_succ]
        refine ih (i + 1) (by omega) _ ⟨_, by rw [nI_succ i] <;> rfl, ((hf.up (by decide)).up (by decide)).up (by decide), ⟨?_, ht, fun t h0 => ?_, fun t h0 => ?_⟩, ?_, fun c hc' => ?_⟩
        · rw [tw_up (Or.inr (by decide)), tw_up (Or.inr (by decide)), tw_up (Or.inr (by decide))]; exact hl.1
        · rw [up2_o (by decide), up2_o (by decide), up2_o (by decide)]; exact hl.2.2.1 t h0
        · rw [up2_o (by decide), up2_o (by decide), up2_o (by decide)]; exact hl.2.2.2 t h0
        · rw [up2_s, x1]
        · rw [x1] at hc'
          rw [x2]
          by_cases y : c = cnN T i
          · subst y
            simp only [if_true]
            exact ⟨by rw [up2_o (by decide), up2_o (by decide), up2_s], by rw [up2_o (by decide), up2_s]⟩
          · simp only [if_neg y]
            have := hc c (by omega)
            exact ⟨by rw [up2_o (by decide), up2_o (by decide), up2_k y]; exact this.1, by rw [up2_o (by decide), up2_k y, up2_o (by decide)]; exact this.2⟩
  refine SegP.run [20] 400 ?_
  refine And.intro (fun z => by cases z) ?_
  refine loop (2 ^ nP T) 0 (by omega) _ ⟨_, rfl, fr.up (by decide), ⟨?_, ht, fun t h0 => ?_, fun t h0 => ?_⟩, up2_s, fun c hc' => absurd hc' (Nat.not_lt_zero _)⟩
  · rw [tw_up (Or.inr (by decide))]; exact e2
  · rw [up2_o (by decide)]; exact q3 t h0
  · rw [up2_o (by decide)]; exact q2 t h0
set_option maxRecDepth 100000 in
set_option maxHeartbeats 400000 in
theorem tX0_weightOfAllKept (h T : aH) (g : aG) (hc : CG h T) (set : Int32) : MS mX0_weightOfAllKept 1 [.ref 43, .int set] h g [.long (lN (FN T (fun K => (if nI K &&& set = set then 1 else 0))))] h g := by
  obtain ⟨⟨eT, ht, -, -⟩, C, cs, cw, hC, eC, hcs, hsum⟩ := hc
  have w8 := wh8 ht
  have hp := pow_le10 ht.np.1
  refine MS.of okX0_weightOfAllKept (by decide +kernel) (Nat.le_of_ble_eq_true rfl) (by decide) rfl (by decide) ?_
  refine Seg.run [5] 400 ?_
  refine Seg.tr (Seg.iter (fun i => (5, [some (.ref 43), some (.int set), some (.long (lN (SN (fun c => (if nI (cs c) &&& set = set then 1 else 0) * cw c) i))), none, some (.int (nI i))], [], nW, h, g, ρ)) C (fun i hi => ?_)) ?_
  · obtain ⟨e1, e2, l1, l2⟩ := hcs i hi
    have step : SN (fun c => (if nI (cs c) &&& set = set then 1 else 0) * cw c) (i + 1) = SN (fun c => (if nI (cs c) &&& set = set then 1 else 0) * cw c) i + (if nI (cs i) &&& set = set then 1 else 0) * cw i := rfl
    have ci := cl10 (p := i) (by omega)
    have hin := in10 (p := i) (n := 256) (by omega) (by decide)
    refine Seg.run [5] 400 ?_
    refine And.intro (fun c => ?_) (fun c => ?_)
    · exact absurd (show nI C ≤ nI i by rw [← eC]; exact c) (nI_ge hi (by omega))
    refine And.intro hin ?_
    rw [ci, e1]
    refine And.intro (fun d => ?_) (fun d => ?_)
    · exact Seg.of (by rw [step, if_neg d, Nat.zero_mul, Nat.add_zero, nI_succ] <;> rfl)
    · refine And.intro hin ?_
      exact Seg.of (by rw [step, if_pos (Decidable.not_not.mp d), Nat.one_mul, ci, e2, nI_l (by omega), lN_add, nI_succ] <;> rfl)
  · refine Seg.run [] 400 ?_
    refine And.intro (fun c => ?_) (fun c => ?_)
    · exact Seg.rl (by rw [← hsum])
    · exact absurd (show h 43 5 ≤ nI C by rw [eC]; exact nI_le (Nat.le_refl _) (by omega)) c
set_option maxRecDepth 100000 in
set_option maxHeartbeats 400000 in
theorem tX0_weightOfAnyKept (h T : aH) (g : aG) (hc : CG h T) (set : Int32) : MS mX0_weightOfAnyKept 1 [.ref 43, .int set] h g [.long (lN (FN T (fun K => (if nI K &&& set ≠ 0 then 1 else 0))))] h g := by
  obtain ⟨⟨eT, ht, -, -⟩, C, cs, cw, hC, eC, hcs, hsum⟩ := hc
  have w8 := wh8 ht
  have hp := pow_le10 ht.np.1
  refine MS.of okX0_weightOfAnyKept (by decide +kernel) (Nat.le_of_ble_eq_true rfl) (by decide) rfl (by decide) ?_
  refine Seg.run [5] 400 ?_
  refine Seg.tr (Seg.iter (fun i => (5, [some (.ref 43), some (.int set), some (.long (lN (SN (fun c => (if nI (cs c) &&& set ≠ 0 then 1 else 0) * cw c) i))), none, some (.int (nI i))], [], nW, h, g, ρ)) C (fun i hi => ?_)) ?_
  · obtain ⟨e1, e2, l1, l2⟩ := hcs i hi
    have step : SN (fun c => (if nI (cs c) &&& set ≠ 0 then 1 else 0) * cw c) (i + 1) = SN (fun c => (if nI (cs c) &&& set ≠ 0 then 1 else 0) * cw c) i + (if nI (cs i) &&& set ≠ 0 then 1 else 0) * cw i := rfl
    have ci := cl10 (p := i) (by omega)
    have hin := in10 (p := i) (n := 256) (by omega) (by decide)
    refine Seg.run [5] 400 ?_
    refine And.intro (fun c => ?_) (fun c => ?_)
    · exact absurd (show nI C ≤ nI i by rw [← eC]; exact c) (nI_ge hi (by omega))
    refine And.intro hin ?_
    rw [ci, e1]
    refine And.intro (fun d => ?_) (fun d => ?_)
    · exact Seg.of (by rw [step, if_neg (fun z => z d), Nat.zero_mul, Nat.add_zero, nI_succ] <;> rfl)
    · refine And.intro hin ?_
      exact Seg.of (by rw [step, if_pos (show nI (cs i) &&& set ≠ 0 from d), Nat.one_mul, ci, e2, nI_l (by omega), lN_add, nI_succ] <;> rfl)
  · refine Seg.run [] 400 ?_
    refine And.intro (fun c => ?_) (fun c => ?_)
    · exact Seg.rl (by rw [← hsum])
    · exact absurd (show h 43 5 ≤ nI C by rw [eC]; exact nI_le (Nat.le_refl _) (by omega)) c
set_option maxRecDepth 100000 in
set_option maxHeartbeats 400000 in
theorem tX0_weightOfMet (h T : aH) (g : aG) (hc : CG h T) (k : Nat) (hk : k < 6) (set : Int32) : MS mX0_weightOfMet 4 [.ref 43, .int (nI k), .int set] h g [.long (lN (FN T (fun K => (if metB T k (nI K &&& set) = true then 1 else 0))))] h g := by
  obtain ⟨⟨eT, ht, -, -⟩, C, cs, cw, hC, eC, hcs, hsum⟩ := hc
  have w8 := wh8 ht
  have hp := pow_le10 ht.np.1
  refine MS.of okX0_weightOfMet (by decide +kernel) (Nat.le_of_ble_eq_true rfl) (by decide) rfl (by decide) ?_
  refine Seg.run [5] 400 ?_
  refine Seg.tr (Seg.iter (fun i => (5, [some (.ref 43), some (.int (nI k)), some (.int set), some (.long (lN (SN (fun c => (if metB T k (nI (cs c) &&& set) = true then 1 else 0) * cw c) i))), none, some (.int (nI i))], [], nW, h, g, ρ)) C (fun i hi => ?_)) ?_
  · obtain ⟨e1, e2, l1, l2⟩ := hcs i hi
    have step : SN (fun c => (if metB T k (nI (cs c) &&& set) = true then 1 else 0) * cw c) (i + 1) = SN (fun c => (if metB T k (nI (cs c) &&& set) = true then 1 else 0) * cw c) i + (if metB T k (nI (cs i) &&& set) = true then 1 else 0) * cw i := rfl
    have ci := cl10 (p := i) (by omega)
    have hin := in10 (p := i) (n := 256) (by omega) (by decide)
    have hm := tX4_isMet h g (by rw [eT]; exact ht) k hk (nI (cs i) &&& set)
    rw [eT] at hm
    refine Seg.run [5] 400 ?_
    refine And.intro (fun c => ?_) (fun c => ?_)
    · exact absurd (show nI C ≤ nI i by rw [← eC]; exact c) (nI_ge hi (by omega))
    refine And.intro hin ?_
    rw [ci, e1]
    refine Seg.tr (Seg.cV hm mlX0_90 iyX4_isMet seX4_isMet oyX4_isMet rfl (by decide) rfl (by decide) (by decide) rfl rfl rfl rfl (Nat.le_of_ble_eq_true rfl) (Nat.le_of_ble_eq_true rfl)) ?_
    refine Seg.run [5] 400 ?_
    refine And.intro (fun d => ?_) (fun d => ?_)
    · exact Seg.of (by rw [step, if_neg (bq0 d), Nat.zero_mul, Nat.add_zero, nI_succ] <;> rfl)
    · refine And.intro hin ?_
      exact Seg.of (by rw [step, if_pos (bq1 d), Nat.one_mul, ci, e2, nI_l (by omega), lN_add, nI_succ] <;> rfl)
  · refine Seg.run [] 400 ?_
    refine And.intro (fun c => ?_) (fun c => ?_)
    · exact Seg.rl (by rw [← hsum])
    · exact absurd (show h 43 5 ≤ nI C by rw [eC]; exact nI_le (Nat.le_refl _) (by omega)) c
set_option maxRecDepth 100000 in
set_option maxHeartbeats 400000 in
theorem tX0_weightOfAllMet (h T : aH) (g : aG) (hc : CG h T) (set : Int32) : MS mX0_weightOfAllMet 5 [.ref 43, .int set] h g [.long (lN (FN T (fun K => (if metI T (nI K &&& set) = nI (2 ^ nN T - 1) then 1 else 0))))] h g := by
  obtain ⟨⟨eT, ht, -, -⟩, C, cs, cw, hC, eC, hcs, hsum⟩ := hc
  have w8 := wh8 ht
  have hp := pow_le10 ht.np.1
  refine MS.of okX0_weightOfAllMet (by decide +kernel) (Nat.le_of_ble_eq_true rfl) (by decide) rfl (by decide) ?_
  have hN := ht.nn.1
  have eN : h 1 12 = nI (nN T) := (twT_1 eT).trans ht.nn.2
  have e0 : (1 : Int32) <<< (nI (nN T) &&& 31) - 1 = nI (2 ^ nN T - 1) := by
    have : (1 : Int32) <<< (nI (nN T) &&& 31) = nI (2 ^ nN T) := bt1_nI (by omega)
    rw [this]
    exact nI_sb (b := 1) (Nat.one_le_two_pow)
  refine Seg.run [17] 400 ?_
  refine Seg.tr (b := (17, [some (.ref 43), some (.int set), some (.int (nI (2 ^ nN T - 1))), some (.long (lN 0)), none, some (.int (nI 0))], [], nW, h, g, ρ)) (Seg.of (by rw [← e0, ← eN] <;> rfl)) ?_
  refine Seg.tr (Seg.iter (fun i => (17, [some (.ref 43), some (.int set), some (.int (nI (2 ^ nN T - 1))), some (.long (lN (SN (fun c => (if metI T (nI (cs c) &&& set) = nI (2 ^ nN T - 1) then 1 else 0) * cw c) i))), none, some (.int (nI i))], [], nW, h, g, ρ)) C (fun i hi => ?_)) ?_
  · obtain ⟨e1, e2, l1, l2⟩ := hcs i hi
    have step : SN (fun c => (if metI T (nI (cs c) &&& set) = nI (2 ^ nN T - 1) then 1 else 0) * cw c) (i + 1) = SN (fun c => (if metI T (nI (cs c) &&& set) = nI (2 ^ nN T - 1) then 1 else 0) * cw c) i + (if metI T (nI (cs i) &&& set) = nI (2 ^ nN T - 1) then 1 else 0) * cw i := rfl
    have ci := cl10 (p := i) (by omega)
    have hin := in10 (p := i) (n := 256) (by omega) (by decide)
    have hm := tX4_needsMetBy h g (by rw [eT]; exact ht) (nI (cs i) &&& set)
    rw [eT] at hm
    refine Seg.run [17] 400 ?_
    refine And.intro (fun c => ?_) (fun c => ?_)
    · exact absurd (show nI C ≤ nI i by rw [← eC]; exact c) (nI_ge hi (by omega))
    refine And.intro hin ?_
    rw [ci, e1]
    refine Seg.tr (Seg.cV hm mlX0_97 iyX4_needsMetBy seX4_needsMetBy oyX4_needsMetBy rfl (by decide) rfl (by decide) (by decide) rfl rfl rfl rfl (Nat.le_of_ble_eq_true rfl) (Nat.le_of_ble_eq_true rfl)) ?_
    refine Seg.run [17] 400 ?_
    refine And.intro (fun d => ?_) (fun d => ?_)
    · exact Seg.of (by rw [step, if_neg d, Nat.zero_mul, Nat.add_zero, nI_succ] <;> rfl)
    · refine And.intro hin ?_
      exact Seg.of (by rw [step, if_pos (Decidable.not_not.mp d), Nat.one_mul, ci, e2, nI_l (by omega), lN_add, nI_succ] <;> rfl)
  · refine Seg.run [] 400 ?_
    refine And.intro (fun c => ?_) (fun c => ?_)
    · exact Seg.rl (by rw [← hsum])
    · exact absurd (show h 43 5 ≤ nI C by rw [eC]; exact nI_le (Nat.le_refl _) (by omega)) c
set_option maxRecDepth 100000 in
set_option maxHeartbeats 400000 in
theorem tX0_weighedOwed (h T : aH) (g : aG) (hc : CG h T) (set : Int32) : MS mX0_weighedOwed 3 [.ref 43, .int set] h g [.long (lN (FN T (fun K => (owN T set (nI K)))))] h g := by
  obtain ⟨⟨eT, ht, -, -⟩, C, cs, cw, hC, eC, hcs, hsum⟩ := hc
  have w8 := wh8 ht
  have hp := pow_le10 ht.np.1
  refine MS.of okX0_weighedOwed (by decide +kernel) (Nat.le_of_ble_eq_true rfl) (by decide) rfl (by decide) ?_
  refine Seg.run [5] 400 ?_
  refine Seg.tr (Seg.iter (fun i => (5, [some (.ref 43), some (.int set), some (.long (lN (SN (fun c => (owN T set (nI (cs c))) * cw c) i))), none, some (.int (nI i))], [], nW, h, g, ρ)) C (fun i hi => ?_)) ?_
  · obtain ⟨e1, e2, l1, l2⟩ := hcs i hi
    have step : SN (fun c => (owN T set (nI (cs c))) * cw c) (i + 1) = SN (fun c => (owN T set (nI (cs c))) * cw c) i + (owN T set (nI (cs i))) * cw i := rfl
    have ci := cl10 (p := i) (by omega)
    have hin := in10 (p := i) (n := 256) (by omega) (by decide)
    have hm := tX4_owedBy h g (by rw [eT]; exact ht) set (nI (cs i))
    rw [eT, (ow_nI ht set _).1] at hm
    have hb := (ow_nI ht set (nI (cs i))).2
    refine Seg.run [5] 400 ?_
    refine And.intro (fun c => ?_) (fun c => ?_)
    · exact absurd (show nI C ≤ nI i by rw [← eC]; exact c) (nI_ge hi (by omega))
    refine And.intro hin ?_
    rw [ci, e1]
    refine Seg.tr (Seg.cV hm mlX0_100 iyX4_owedBy seX4_owedBy oyX4_owedBy rfl (by decide) rfl (by decide) (by decide) rfl rfl rfl rfl (Nat.le_of_ble_eq_true rfl) (Nat.le_of_ble_eq_true rfl)) ?_
    refine Seg.run [5] 400 ?_
    refine And.intro hin ?_
    exact Seg.of (by rw [step, ci, e2, nI_l (by omega), nI_l (by omega), lN_mul, lN_add, nI_succ] <;> rfl)
  · refine Seg.run [] 400 ?_
    refine And.intro (fun c => ?_) (fun c => ?_)
    · exact Seg.rl (by rw [← hsum])
    · exact absurd (show h 43 5 ≤ nI C by rw [eC]; exact nI_le (Nat.le_refl _) (by omega)) c
set_option maxRecDepth 100000 in
set_option maxHeartbeats 400000 in
theorem tX0_weighedWorth (h T : aH) (g : aG) (hc : CG h T) (set : Int32) : MS mX0_weighedWorth 5 [.ref 43, .int set] h g [.long (lN (FN T (fun K => (wrN T (nI K &&& set)))))] h g := by
  obtain ⟨⟨eT, ht, -, -⟩, C, cs, cw, hC, eC, hcs, hsum⟩ := hc
  have w8 := wh8 ht
  have hp := pow_le10 ht.np.1
  refine MS.of okX0_weighedWorth (by decide +kernel) (Nat.le_of_ble_eq_true rfl) (by decide) rfl (by decide) ?_
  refine Seg.run [5] 400 ?_
  refine Seg.tr (Seg.iter (fun i => (5, [some (.ref 43), some (.int set), some (.long (lN (SN (fun c => (wrN T (nI (cs c) &&& set)) * cw c) i))), none, some (.int (nI i))], [], nW, h, g, ρ)) C (fun i hi => ?_)) ?_
  · obtain ⟨e1, e2, l1, l2⟩ := hcs i hi
    have step : SN (fun c => (wrN T (nI (cs c) &&& set)) * cw c) (i + 1) = SN (fun c => (wrN T (nI (cs c) &&& set)) * cw c) i + (wrN T (nI (cs i) &&& set)) * cw i := rfl
    have ci := cl10 (p := i) (by omega)
    have hin := in10 (p := i) (n := 256) (by omega) (by decide)
    have hm := tX4_worthMetBy h g (by rw [eT]; exact ht) (nI (cs i) &&& set)
    have hw := wr_nI ht (nI (cs i) &&& set) (nN T) (Nat.le_refl _)
    have hN := ht.nn.1
    have hb : wrN T (nI (cs i) &&& set) < 2 ^ 31 := by
      show wrNU T _ (nN T) < _
      omega
    rw [eT, show wrt T (nI (cs i) &&& set) = nI (wrN T (nI (cs i) &&& set)) from hw.1] at hm
    refine Seg.run [5] 400 ?_
    refine And.intro (fun c => ?_) (fun c => ?_)
    · exact absurd (show nI C ≤ nI i by rw [← eC]; exact c) (nI_ge hi (by omega))
    refine And.intro hin ?_
    rw [ci, e1]
    refine Seg.tr (Seg.cV hm mlX0_103 iyX4_worthMetBy seX4_worthMetBy oyX4_worthMetBy rfl (by decide) rfl (by decide) (by decide) rfl rfl rfl rfl (Nat.le_of_ble_eq_true rfl) (Nat.le_of_ble_eq_true rfl)) ?_
    refine Seg.run [5] 400 ?_
    refine And.intro hin ?_
    exact Seg.of (by rw [step, ci, e2, nI_l hb, nI_l (by omega), lN_mul, lN_add, nI_succ] <;> rfl)
  · refine Seg.run [] 400 ?_
    refine And.intro (fun c => ?_) (fun c => ?_)
    · exact Seg.rl (by rw [← hsum])
    · exact absurd (show h 43 5 ≤ nI C by rw [eC]; exact nI_le (Nat.le_refl _) (by omega)) c
set_option maxRecDepth 100000 in
set_option maxHeartbeats 400000 in
theorem tX0_weightOfMore (h T : aH) (g : aG) (hc : CG h T) (set much : Int32) : MS mX0_weightOfMore 3 [.ref 43, .int set, .int much] h g [.long (lN (FN T (fun K => (if much < owed T set (nI K) then 1 else 0))))] h g := by
  obtain ⟨⟨eT, ht, -, -⟩, C, cs, cw, hC, eC, hcs, hsum⟩ := hc
  have w8 := wh8 ht
  have hp := pow_le10 ht.np.1
  refine MS.of okX0_weightOfMore (by decide +kernel) (Nat.le_of_ble_eq_true rfl) (by decide) rfl (by decide) ?_
  refine Seg.run [5] 400 ?_
  refine Seg.tr (Seg.iter (fun i => (5, [some (.ref 43), some (.int set), some (.int much), some (.long (lN (SN (fun c => (if much < owed T set (nI (cs c)) then 1 else 0) * cw c) i))), none, some (.int (nI i))], [], nW, h, g, ρ)) C (fun i hi => ?_)) ?_
  · obtain ⟨e1, e2, l1, l2⟩ := hcs i hi
    have step : SN (fun c => (if much < owed T set (nI (cs c)) then 1 else 0) * cw c) (i + 1) = SN (fun c => (if much < owed T set (nI (cs c)) then 1 else 0) * cw c) i + (if much < owed T set (nI (cs i)) then 1 else 0) * cw i := rfl
    have ci := cl10 (p := i) (by omega)
    have hin := in10 (p := i) (n := 256) (by omega) (by decide)
    have hm := tX4_owedBy h g (by rw [eT]; exact ht) set (nI (cs i))
    rw [eT] at hm
    refine Seg.run [5] 400 ?_
    refine And.intro (fun c => ?_) (fun c => ?_)
    · exact absurd (show nI C ≤ nI i by rw [← eC]; exact c) (nI_ge hi (by omega))
    refine And.intro hin ?_
    rw [ci, e1]
    refine Seg.tr (Seg.cV hm mlX0_100 iyX4_owedBy seX4_owedBy oyX4_owedBy rfl (by decide) rfl (by decide) (by decide) rfl rfl rfl rfl (Nat.le_of_ble_eq_true rfl) (Nat.le_of_ble_eq_true rfl)) ?_
    refine Seg.run [5] 400 ?_
    refine And.intro (fun d => ?_) (fun d => ?_)
    · exact Seg.of (by rw [step, if_neg (fun z => nlt z d), Nat.zero_mul, Nat.add_zero, nI_succ] <;> rfl)
    · refine And.intro hin ?_
      exact Seg.of (by rw [step, if_pos (Int32.not_le.mp d), Nat.one_mul, ci, e2, nI_l (by omega), lN_add, nI_succ] <;> rfl)
  · refine Seg.run [] 400 ?_
    refine And.intro (fun c => ?_) (fun c => ?_)
    · exact Seg.rl (by rw [← hsum])
    · exact absurd (show h 43 5 ≤ nI C by rw [eC]; exact nI_le (Nat.le_refl _) (by omega)) c
