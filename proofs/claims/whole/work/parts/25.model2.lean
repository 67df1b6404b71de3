/-! ===== the reference: all throws laid down, sums over them ===== -/
theorem tm_row {h h' : aH} (e : h' 64 = h 64) : tm h' 64 = tm h 64 := by
  funext j k
  unfold tm
  rw [e]
def ftU (T : aH) (h : aH) (i : Nat) : aH := fun b j => if b = 70 ∧ j < i then wg T (nI j) else if b = 69 ∧ j < i then kept T (nI j) else h b j
theorem ftU_0 {T h : aH} : ftU T h 0 = h := by
  funext b j
  simp [ftU]
theorem ftU_s {T h : aH} {i : Nat} : up2 (up2 (ftU T h i) 70 i (wg T (nI i))) 69 i (kept T (nI i)) = ftU T h (i + 1) := by
  funext b j
  simp only [up2, ftU]
  by_cases h1 : b = 69
  · subst h1
    by_cases h2 : j = i
    · subst h2; simp
    · by_cases h3 : j < i
      · simp [h2, h3, show j < i + 1 by omega]
      · simp [h2, h3, show ¬ j < i + 1 by omega]
  · by_cases h4 : b = 70
    · subst h4
      by_cases h2 : j = i
      · subst h2; simp
      · by_cases h3 : j < i
        · simp [h2, h3, show j < i + 1 by omega]
        · simp [h2, h3, show ¬ j < i + 1 by omega]
    · simp [h1, h4]
theorem ftU_o {T h : aH} {i b : Nat} (h1 : b ≠ 69) (h2 : b ≠ 70) : ftU T h i b = h b := by
  funext j
  simp [ftU, h1, h2]
/-- the memory with all throws laid down -/
def ftH (h : aH) : aH := ftU (tm h 64) (up2 h 63 15 (wh (tm h 64))) 256
set_option maxRecDepth 100000 in
set_option maxHeartbeats 2000000 in
theorem tX6_findThrows (h : aH) (g : aG) (ht : TOk (tm h 64)) : MS mX6_findThrows 3 [.ref 63] h g [] (ftH h) g := by
  refine MS.of okX6_findThrows (by decide +kernel) (Nat.le_of_ble_eq_true rfl) (by decide) rfl (by decide) ?_
  refine Seg.run [7] 400 ?_
  refine And.intro (fun z => by cases z) ?_
  refine Seg.tr (Seg.iter (fun i => (7, [some (.ref 63), some (.int (nI i))], [], nW, up2 h 63 15 (whU (tm h 64) i), g, ρ)) 8 (fun i hi => ?_)) ?_
  · have e2 := tm_2 (h := h) hi
    refine Seg.run [7] 400 ?_
    refine And.intro (fun c => ?_) (fun c => ?_)
    · exact (lim_ge (N := 8) hi (by decide) c).elim
    refine And.intro (by rw [idx12]; exact in10 (by omega) (by decide)) ?_
    refine And.intro (fun z => by cases z) ?_
    exact Seg.of (by rw [idx12, cl10 (by omega), up2_s, up2_up2, up2_o (by decide), ← e2, whU, nI_succ] <;> rfl)
  · refine Seg.run [39] 400 ?_
    refine And.intro (fun c => ?_) (fun c => ?_)
    · refine Seg.tr (b := (39, [some (.ref 63), some (.int (nI 0))], [], nW, ftU (tm h 64) (up2 h 63 15 (wh (tm h 64))) 0, g, ρ)) (Seg.of (by rw [ftU_0] <;> rfl)) ?_
      refine Seg.tr (Seg.iter (fun i => (39, [some (.ref 63), some (.int (nI i))], [], nW, ftU (tm h 64) (up2 h 63 15 (wh (tm h 64))) i, g, ρ)) 256 (fun i hi => ?_)) ?_
      · have er : tm (ftU (tm h 64) (up2 h 63 15 (wh (tm h 64))) i) 64 = tm h 64 := tm_row (by rw [ftU_o (by decide) (by decide), up2_row (by decide)])
        have hw := tX6_weightOf (ftU (tm h 64) (up2 h 63 15 (wh (tm h 64))) i) g (nI i)
        rw [er] at hw
        have er2 : tm (up2 (ftU (tm h 64) (up2 h 63 15 (wh (tm h 64))) i) 70 i (wg (tm h 64) (nI i))) 64 = tm h 64 := (tm_row (by rw [up2_row (by decide)])).trans er
        have hk := tX6_keptIn (up2 (ftU (tm h 64) (up2 h 63 15 (wh (tm h 64))) i) 70 i (wg (tm h 64) (nI i))) g (by rw [er2]; exact ht) (nI i)
        rw [er2] at hk
        refine Seg.run [39] 400 ?_
        refine And.intro (fun c => ?_) (fun c => ?_)
        · exact (lim_ge (N := 256) hi (by decide) c).elim
        refine Seg.tr (Seg.cV hw mlX6_212 iyX6_weightOf seX6_weightOf oyX6_weightOf rfl (by decide) rfl (by decide) (by decide) rfl rfl rfl rfl (Nat.le_of_ble_eq_true rfl) (Nat.le_of_ble_eq_true rfl)) ?_
        refine Seg.run [39] 400 ?_
        refine And.intro (in10 hi (by decide)) ?_
        rw [cl10 hi]
        refine Seg.tr (Seg.cV hk mlX6_197 iyX6_keptIn seX6_keptIn oyX6_keptIn rfl (by decide) rfl (by decide) (by decide) rfl rfl rfl rfl (Nat.le_of_ble_eq_true rfl) (Nat.le_of_ble_eq_true rfl)) ?_
        refine Seg.run [39] 400 ?_
        refine And.intro (in10 hi (by decide)) ?_
        exact Seg.of (by rw [cl10 hi, ftU_s, nI_succ] <;> rfl)
      · refine Seg.run [] 400 ?_
        refine And.intro (fun c => ?_) (fun c => ?_)
        · exact Seg.rf
        · exact (lim_le (N := 256) (Nat.le_refl _) (by decide) c).elim
    · exact (lim_le (N := 8) (Nat.le_refl _) (by decide) c).elim
/-- all throws are laid down for T -/
def FT (h T : aH) : Prop := (∀ t, t < 256 → h 69 t = kept T (nI t)) ∧ (∀ t, t < 256 → h 70 t = wg T (nI t)) ∧ h 63 15 = wh T ∧ tm h 64 = T ∧ TOk T
theorem FT_ft {h : aH} (ht : TOk (tm h 64)) : FT (ftH h) (tm h 64) := by
  refine ⟨fun t h1 => by simp [ftH, ftU, h1], fun t h1 => by simp [ftH, ftU, h1], ?_, ?_, ht⟩
  · show ftU _ _ _ 63 15 = _
    rw [ftU_o (by decide) (by decide), up2_s]
  · exact tm_row (by unfold ftH; rw [ftU_o (by decide) (by decide), up2_row (by decide)])
/-- a fraction told: part 0 above, else below -/
def tldN (A S : Nat) (part : Int32) : Int32 := if part = 0 then nI (A / Nat.gcd A S) else nI (S / Nat.gcd A S)
set_option maxRecDepth 100000 in
set_option maxHeartbeats 2000000 in
theorem tX6_told (h T : aH) (g : aG) (hf : FT h T) (A : Nat) (hA : A < 2 ^ 31) (part : Int32) : MS mX6_told 1 [.ref 63, .int (nI A), .int part] h g [.int (tldN A (whN T) part)] h g := by
  obtain ⟨w1, w2, w3⟩ := wh8 hf.2.2.2.2
  have es : h 63 15 = nI (whN T) := hf.2.2.1.trans w3
  refine MS.of okX6_told (by decide +kernel) (Nat.le_of_ble_eq_true rfl) (by decide) rfl (by decide) ?_
  refine Seg.run [8] 400 ?_
  refine Seg.tr (b := (8, [some (.ref 63), some (.int (nI A)), some (.int part), some (.int (nI A)), some (.int (nI (whN T))), none], [], nW, h, g, ρ)) (Seg.of (by rw [← es] <;> rfl)) ?_
  have loop : ∀ b a : Nat, b < 2 ^ 31 → a < 2 ^ 31 → Seg mX6_told 1 (8, [some (.ref 63), some (.int (nI A)), some (.int part), some (.int (nI a)), some (.int (nI b)), none], [], nW, h, g, ρ) (29, [some (.ref 63), some (.int (nI A)), some (.int part), some (.int (nI (Nat.gcd a b))), some (.int (nI 0)), none], [], nW, h, g, ρ) := by
    intro b
    induction b using Nat.strongRecOn with
    | ind b ih =>
      intro a hb ha
      refine Seg.run [8, 29] 400 ?_
      refine And.intro (fun c => ?_) (fun c => ?_)
      · have hz : b = 0 := (nI_eq hb (by decide)).mp (show nI b = nI 0 from c)
        subst hz
        exact Seg.of (by rw [Nat.gcd_zero_right])
      · have hz : b ≠ 0 := fun z => c (by rw [z]; rfl)
        refine And.intro c ?_
        rw [jrem_nI ha hb]
        refine Seg.tr (Seg.fg 5) ?_
        have hr := Nat.mod_lt a (Nat.pos_of_ne_zero hz)
        refine Seg.tr (ih (a % b) hr b (by omega) hb) ?_
        exact Seg.of (by rw [Nat.gcd_comm b (a % b), ← Nat.gcd_rec b a, Nat.gcd_comm] <;> rfl)
  refine Seg.tr (loop (whN T) A (by omega) hA) ?_
  have gp : 0 < Nat.gcd A (whN T) := Nat.gcd_pos_of_pos_right _ w1
  have gl : Nat.gcd A (whN T) ≤ whN T := Nat.gcd_le_right _ w1
  have gn : nI (Nat.gcd A (whN T)) ≠ 0 := fun z => by
    have := (nI_eq (by omega) (by decide)).mp (z.trans nI_0.symm)
    omega
  refine Seg.run [] 400 ?_
  refine And.intro (fun c => ?_) (fun c => ?_)
  · refine And.intro gn (Seg.ri ?_)
    rw [es, nI_divN (by omega) (by omega), tldN, if_neg (show ¬ part = 0 from c)]
  · refine And.intro gn (Seg.ri ?_)
    rw [nI_divN hA (by omega), tldN, if_pos (Decidable.not_not.mp (show ¬ ¬ part = 0 from c))]
