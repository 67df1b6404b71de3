/-! ===== the class's town: changes; printed by wip/whole/gen41.py ===== -/
theorem cpy00 {f g : Nat → Int32} {n j : Nat} (h : j < n) : va_cpy f g 0 0 n j = f j := sb_cpy0 h
set_option maxRecDepth 100000 in
set_option maxHeartbeats 2000000 in
theorem tX4_becomeAs_1_30 (h : aH) (g : aG) : ∃ h', MS mX4_becomeAs 1 [.ref 1, .ref 30] h g [] h' g ∧ tw h' 1 = tw h 30 ∧ (∀ a, a < 1 ∨ 13 < a → h' a = h a) := by
  refine ⟨_, ?_, ?_, ?_⟩
  · refine MS.of okX4_becomeAs (by decide +kernel) (Nat.le_of_ble_eq_true rfl) (by decide) rfl (by decide) ?_
    refine Seg.run [] 400 ?_
    iterate 8 (refine And.intro (by decide) ?_)
    refine And.intro (fun z => by cases z) ?_
    iterate 3 (refine And.intro (by decide) ?_)
    iterate 3 (refine And.intro (fun z => by cases z) ?_)
    refine And.intro (by decide) ?_
    exact Seg.rf
  · funext j k
    match j with
    | 0 => match k with
      | 0 => simp [tw, lenT, up2, upR]
      | 1 => simp [tw, lenT, up2, upR]
      | 2 => simp [tw, lenT, up2, upR]
      | 3 => simp [tw, lenT, up2, upR]
      | k + 4 => simp [tw, lenT, up2, upR]
    | 1 =>
      by_cases hk : k < 8
      · simp only [tw, lenT, if_pos hk]
        simp only [up2, upR, Nat.reduceAdd, Nat.reduceEqDiff, if_true, if_false, reduceIte, va_cpy]
        simp [hk]
      · simp only [tw, lenT, if_neg hk]
    | 2 =>
      by_cases hk : k < 8
      · simp only [tw, lenT, if_pos hk]
        simp only [up2, upR, Nat.reduceAdd, Nat.reduceEqDiff, if_true, if_false, reduceIte, va_cpy]
        simp [hk]
      · simp only [tw, lenT, if_neg hk]
    | 3 =>
      by_cases hk : k < 10
      · simp only [tw, lenT, if_pos hk]
        simp only [up2, upR, Nat.reduceAdd, Nat.reduceEqDiff, if_true, if_false, reduceIte, va_cpy]
        simp [hk]
      · simp only [tw, lenT, if_neg hk]
    | 4 =>
      by_cases hk : k < 10
      · simp only [tw, lenT, if_pos hk]
        simp only [up2, upR, Nat.reduceAdd, Nat.reduceEqDiff, if_true, if_false, reduceIte, va_cpy]
        simp [hk]
      · simp only [tw, lenT, if_neg hk]
    | 5 =>
      by_cases hk : k < 10
      · simp only [tw, lenT, if_pos hk]
        simp only [up2, upR, Nat.reduceAdd, Nat.reduceEqDiff, if_true, if_false, reduceIte, va_cpy]
        simp [hk]
      · simp only [tw, lenT, if_neg hk]
    | 6 =>
      by_cases hk : k < 10
      · simp only [tw, lenT, if_pos hk]
        simp only [up2, upR, Nat.reduceAdd, Nat.reduceEqDiff, if_true, if_false, reduceIte, va_cpy]
        simp [hk]
      · simp only [tw, lenT, if_neg hk]
    | 7 =>
      by_cases hk : k < 10
      · simp only [tw, lenT, if_pos hk]
        simp only [up2, upR, Nat.reduceAdd, Nat.reduceEqDiff, if_true, if_false, reduceIte, va_cpy]
        simp [hk]
      · simp only [tw, lenT, if_neg hk]
    | 8 =>
      by_cases hk : k < 10
      · simp only [tw, lenT, if_pos hk]
        simp only [up2, upR, Nat.reduceAdd, Nat.reduceEqDiff, if_true, if_false, reduceIte, va_cpy]
        simp [hk]
      · simp only [tw, lenT, if_neg hk]
    | 9 =>
      by_cases hk : k < 6
      · simp only [tw, lenT, if_pos hk]
        simp only [up2, upR, Nat.reduceAdd, Nat.reduceEqDiff, if_true, if_false, reduceIte, va_cpy]
        simp [hk]
      · simp only [tw, lenT, if_neg hk]
    | 10 =>
      by_cases hk : k < 6
      · simp only [tw, lenT, if_pos hk]
        simp only [up2, upR, Nat.reduceAdd, Nat.reduceEqDiff, if_true, if_false, reduceIte, va_cpy]
        simp [hk]
      · simp only [tw, lenT, if_neg hk]
    | 11 =>
      by_cases hk : k < 6
      · simp only [tw, lenT, if_pos hk]
        simp only [up2, upR, Nat.reduceAdd, Nat.reduceEqDiff, if_true, if_false, reduceIte, va_cpy]
        simp [hk]
      · simp only [tw, lenT, if_neg hk]
    | 12 =>
      by_cases hk : k < 10
      · simp only [tw, lenT, if_pos hk]
        simp only [up2, upR, Nat.reduceAdd, Nat.reduceEqDiff, if_true, if_false, reduceIte, va_cpy]
        simp [hk]
      · simp only [tw, lenT, if_neg hk]
    | j + 13 => simp only [tw, lenT, if_neg (Nat.not_lt_zero _)]
  · intro a ha
    simp only [up2, upR]
    funext k
    repeat rw [if_neg (by omega)]
set_option maxRecDepth 100000 in
set_option maxHeartbeats 2000000 in
theorem tX4_becomeAs_30_1 (h : aH) (g : aG) : ∃ h', MS mX4_becomeAs 1 [.ref 30, .ref 1] h g [] h' g ∧ tw h' 30 = tw h 1 ∧ (∀ a, a < 30 ∨ 42 < a → h' a = h a) := by
  refine ⟨_, ?_, ?_, ?_⟩
  · refine MS.of okX4_becomeAs (by decide +kernel) (Nat.le_of_ble_eq_true rfl) (by decide) rfl (by decide) ?_
    refine Seg.run [] 400 ?_
    iterate 8 (refine And.intro (by decide) ?_)
    refine And.intro (fun z => by cases z) ?_
    iterate 3 (refine And.intro (by decide) ?_)
    iterate 3 (refine And.intro (fun z => by cases z) ?_)
    refine And.intro (by decide) ?_
    exact Seg.rf
  · funext j k
    match j with
    | 0 => match k with
      | 0 => simp [tw, lenT, up2, upR]
      | 1 => simp [tw, lenT, up2, upR]
      | 2 => simp [tw, lenT, up2, upR]
      | 3 => simp [tw, lenT, up2, upR]
      | k + 4 => simp [tw, lenT, up2, upR]
    | 1 =>
      by_cases hk : k < 8
      · simp only [tw, lenT, if_pos hk]
        simp only [up2, upR, Nat.reduceAdd, Nat.reduceEqDiff, if_true, if_false, reduceIte, va_cpy]
        simp [hk]
      · simp only [tw, lenT, if_neg hk]
    | 2 =>
      by_cases hk : k < 8
      · simp only [tw, lenT, if_pos hk]
        simp only [up2, upR, Nat.reduceAdd, Nat.reduceEqDiff, if_true, if_false, reduceIte, va_cpy]
        simp [hk]
      · simp only [tw, lenT, if_neg hk]
    | 3 =>
      by_cases hk : k < 10
      · simp only [tw, lenT, if_pos hk]
        simp only [up2, upR, Nat.reduceAdd, Nat.reduceEqDiff, if_true, if_false, reduceIte, va_cpy]
        simp [hk]
      · simp only [tw, lenT, if_neg hk]
    | 4 =>
      by_cases hk : k < 10
      · simp only [tw, lenT, if_pos hk]
        simp only [up2, upR, Nat.reduceAdd, Nat.reduceEqDiff, if_true, if_false, reduceIte, va_cpy]
        simp [hk]
      · simp only [tw, lenT, if_neg hk]
    | 5 =>
      by_cases hk : k < 10
      · simp only [tw, lenT, if_pos hk]
        simp only [up2, upR, Nat.reduceAdd, Nat.reduceEqDiff, if_true, if_false, reduceIte, va_cpy]
        simp [hk]
      · simp only [tw, lenT, if_neg hk]
    | 6 =>
      by_cases hk : k < 10
      · simp only [tw, lenT, if_pos hk]
        simp only [up2, upR, Nat.reduceAdd, Nat.reduceEqDiff, if_true, if_false, reduceIte, va_cpy]
        simp [hk]
      · simp only [tw, lenT, if_neg hk]
    | 7 =>
      by_cases hk : k < 10
      · simp only [tw, lenT, if_pos hk]
        simp only [up2, upR, Nat.reduceAdd, Nat.reduceEqDiff, if_true, if_false, reduceIte, va_cpy]
        simp [hk]
      · simp only [tw, lenT, if_neg hk]
    | 8 =>
      by_cases hk : k < 10
      · simp only [tw, lenT, if_pos hk]
        simp only [up2, upR, Nat.reduceAdd, Nat.reduceEqDiff, if_true, if_false, reduceIte, va_cpy]
        simp [hk]
      · simp only [tw, lenT, if_neg hk]
    | 9 =>
      by_cases hk : k < 6
      · simp only [tw, lenT, if_pos hk]
        simp only [up2, upR, Nat.reduceAdd, Nat.reduceEqDiff, if_true, if_false, reduceIte, va_cpy]
        simp [hk]
      · simp only [tw, lenT, if_neg hk]
    | 10 =>
      by_cases hk : k < 6
      · simp only [tw, lenT, if_pos hk]
        simp only [up2, upR, Nat.reduceAdd, Nat.reduceEqDiff, if_true, if_false, reduceIte, va_cpy]
        simp [hk]
      · simp only [tw, lenT, if_neg hk]
    | 11 =>
      by_cases hk : k < 6
      · simp only [tw, lenT, if_pos hk]
        simp only [up2, upR, Nat.reduceAdd, Nat.reduceEqDiff, if_true, if_false, reduceIte, va_cpy]
        simp [hk]
      · simp only [tw, lenT, if_neg hk]
    | 12 =>
      by_cases hk : k < 10
      · simp only [tw, lenT, if_pos hk]
        simp only [up2, upR, Nat.reduceAdd, Nat.reduceEqDiff, if_true, if_false, reduceIte, va_cpy]
        simp [hk]
      · simp only [tw, lenT, if_neg hk]
    | j + 13 => simp only [tw, lenT, if_neg (Nat.not_lt_zero _)]
  · intro a ha
    simp only [up2, upR]
    funext k
    repeat rw [if_neg (by omega)]
set_option maxRecDepth 100000 in
set_option maxHeartbeats 2000000 in
theorem tX4_becomeAs_14_1 (h : aH) (g : aG) : ∃ h', MS mX4_becomeAs 1 [.ref 14, .ref 1] h g [] h' g ∧ tw h' 14 = tw h 1 ∧ (∀ a, a < 14 ∨ 26 < a → h' a = h a) := by
  refine ⟨_, ?_, ?_, ?_⟩
  · refine MS.of okX4_becomeAs (by decide +kernel) (Nat.le_of_ble_eq_true rfl) (by decide) rfl (by decide) ?_
    refine Seg.run [] 400 ?_
    iterate 8 (refine And.intro (by decide) ?_)
    refine And.intro (fun z => by cases z) ?_
    iterate 3 (refine And.intro (by decide) ?_)
    iterate 3 (refine And.intro (fun z => by cases z) ?_)
    refine And.intro (by decide) ?_
    exact Seg.rf
  · funext j k
    match j with
    | 0 => match k with
      | 0 => simp [tw, lenT, up2, upR]
      | 1 => simp [tw, lenT, up2, upR]
      | 2 => simp [tw, lenT, up2, upR]
      | 3 => simp [tw, lenT, up2, upR]
      | k + 4 => simp [tw, lenT, up2, upR]
    | 1 =>
      by_cases hk : k < 8
      · simp only [tw, lenT, if_pos hk]
        simp only [up2, upR, Nat.reduceAdd, Nat.reduceEqDiff, if_true, if_false, reduceIte, va_cpy]
        simp [hk]
      · simp only [tw, lenT, if_neg hk]
    | 2 =>
      by_cases hk : k < 8
      · simp only [tw, lenT, if_pos hk]
        simp only [up2, upR, Nat.reduceAdd, Nat.reduceEqDiff, if_true, if_false, reduceIte, va_cpy]
        simp [hk]
      · simp only [tw, lenT, if_neg hk]
    | 3 =>
      by_cases hk : k < 10
      · simp only [tw, lenT, if_pos hk]
        simp only [up2, upR, Nat.reduceAdd, Nat.reduceEqDiff, if_true, if_false, reduceIte, va_cpy]
        simp [hk]
      · simp only [tw, lenT, if_neg hk]
    | 4 =>
      by_cases hk : k < 10
      · simp only [tw, lenT, if_pos hk]
        simp only [up2, upR, Nat.reduceAdd, Nat.reduceEqDiff, if_true, if_false, reduceIte, va_cpy]
        simp [hk]
      · simp only [tw, lenT, if_neg hk]
    | 5 =>
      by_cases hk : k < 10
      · simp only [tw, lenT, if_pos hk]
        simp only [up2, upR, Nat.reduceAdd, Nat.reduceEqDiff, if_true, if_false, reduceIte, va_cpy]
        simp [hk]
      · simp only [tw, lenT, if_neg hk]
    | 6 =>
      by_cases hk : k < 10
      · simp only [tw, lenT, if_pos hk]
        simp only [up2, upR, Nat.reduceAdd, Nat.reduceEqDiff, if_true, if_false, reduceIte, va_cpy]
        simp [hk]
      · simp only [tw, lenT, if_neg hk]
    | 7 =>
      by_cases hk : k < 10
      · simp only [tw, lenT, if_pos hk]
        simp only [up2, upR, Nat.reduceAdd, Nat.reduceEqDiff, if_true, if_false, reduceIte, va_cpy]
        simp [hk]
      · simp only [tw, lenT, if_neg hk]
    | 8 =>
      by_cases hk : k < 10
      · simp only [tw, lenT, if_pos hk]
        simp only [up2, upR, Nat.reduceAdd, Nat.reduceEqDiff, if_true, if_false, reduceIte, va_cpy]
        simp [hk]
      · simp only [tw, lenT, if_neg hk]
    | 9 =>
      by_cases hk : k < 6
      · simp only [tw, lenT, if_pos hk]
        simp only [up2, upR, Nat.reduceAdd, Nat.reduceEqDiff, if_true, if_false, reduceIte, va_cpy]
        simp [hk]
      · simp only [tw, lenT, if_neg hk]
    | 10 =>
      by_cases hk : k < 6
      · simp only [tw, lenT, if_pos hk]
        simp only [up2, upR, Nat.reduceAdd, Nat.reduceEqDiff, if_true, if_false, reduceIte, va_cpy]
        simp [hk]
      · simp only [tw, lenT, if_neg hk]
    | 11 =>
      by_cases hk : k < 6
      · simp only [tw, lenT, if_pos hk]
        simp only [up2, upR, Nat.reduceAdd, Nat.reduceEqDiff, if_true, if_false, reduceIte, va_cpy]
        simp [hk]
      · simp only [tw, lenT, if_neg hk]
    | 12 =>
      by_cases hk : k < 10
      · simp only [tw, lenT, if_pos hk]
        simp only [up2, upR, Nat.reduceAdd, Nat.reduceEqDiff, if_true, if_false, reduceIte, va_cpy]
        simp [hk]
      · simp only [tw, lenT, if_neg hk]
    | j + 13 => simp only [tw, lenT, if_neg (Nat.not_lt_zero _)]
  · intro a ha
    simp only [up2, upR]
    funext k
    repeat rw [if_neg (by omega)]
set_option maxRecDepth 100000 in
set_option maxHeartbeats 2000000 in
theorem tX4_becomeAs_1_14 (h : aH) (g : aG) : ∃ h', MS mX4_becomeAs 1 [.ref 1, .ref 14] h g [] h' g ∧ tw h' 1 = tw h 14 ∧ (∀ a, a < 1 ∨ 13 < a → h' a = h a) := by
  refine ⟨_, ?_, ?_, ?_⟩
  · refine MS.of okX4_becomeAs (by decide +kernel) (Nat.le_of_ble_eq_true rfl) (by decide) rfl (by decide) ?_
    refine Seg.run [] 400 ?_
    iterate 8 (refine And.intro (by decide) ?_)
    refine And.intro (fun z => by cases z) ?_
    iterate 3 (refine And.intro (by decide) ?_)
    iterate 3 (refine And.intro (fun z => by cases z) ?_)
    refine And.intro (by decide) ?_
    exact Seg.rf
  · funext j k
    match j with
    | 0 => match k with
      | 0 => simp [tw, lenT, up2, upR]
      | 1 => simp [tw, lenT, up2, upR]
      | 2 => simp [tw, lenT, up2, upR]
      | 3 => simp [tw, lenT, up2, upR]
      | k + 4 => simp [tw, lenT, up2, upR]
    | 1 =>
      by_cases hk : k < 8
      · simp only [tw, lenT, if_pos hk]
        simp only [up2, upR, Nat.reduceAdd, Nat.reduceEqDiff, if_true, if_false, reduceIte, va_cpy]
        simp [hk]
      · simp only [tw, lenT, if_neg hk]
    | 2 =>
      by_cases hk : k < 8
      · simp only [tw, lenT, if_pos hk]
        simp only [up2, upR, Nat.reduceAdd, Nat.reduceEqDiff, if_true, if_false, reduceIte, va_cpy]
        simp [hk]
      · simp only [tw, lenT, if_neg hk]
    | 3 =>
      by_cases hk : k < 10
      · simp only [tw, lenT, if_pos hk]
        simp only [up2, upR, Nat.reduceAdd, Nat.reduceEqDiff, if_true, if_false, reduceIte, va_cpy]
        simp [hk]
      · simp only [tw, lenT, if_neg hk]
    | 4 =>
      by_cases hk : k < 10
      · simp only [tw, lenT, if_pos hk]
        simp only [up2, upR, Nat.reduceAdd, Nat.reduceEqDiff, if_true, if_false, reduceIte, va_cpy]
        simp [hk]
      · simp only [tw, lenT, if_neg hk]
    | 5 =>
      by_cases hk : k < 10
      · simp only [tw, lenT, if_pos hk]
        simp only [up2, upR, Nat.reduceAdd, Nat.reduceEqDiff, if_true, if_false, reduceIte, va_cpy]
        simp [hk]
      · simp only [tw, lenT, if_neg hk]
    | 6 =>
      by_cases hk : k < 10
      · simp only [tw, lenT, if_pos hk]
        simp only [up2, upR, Nat.reduceAdd, Nat.reduceEqDiff, if_true, if_false, reduceIte, va_cpy]
        simp [hk]
      · simp only [tw, lenT, if_neg hk]
    | 7 =>
      by_cases hk : k < 10
      · simp only [tw, lenT, if_pos hk]
        simp only [up2, upR, Nat.reduceAdd, Nat.reduceEqDiff, if_true, if_false, reduceIte, va_cpy]
        simp [hk]
      · simp only [tw, lenT, if_neg hk]
    | 8 =>
      by_cases hk : k < 10
      · simp only [tw, lenT, if_pos hk]
        simp only [up2, upR, Nat.reduceAdd, Nat.reduceEqDiff, if_true, if_false, reduceIte, va_cpy]
        simp [hk]
      · simp only [tw, lenT, if_neg hk]
    | 9 =>
      by_cases hk : k < 6
      · simp only [tw, lenT, if_pos hk]
        simp only [up2, upR, Nat.reduceAdd, Nat.reduceEqDiff, if_true, if_false, reduceIte, va_cpy]
        simp [hk]
      · simp only [tw, lenT, if_neg hk]
    | 10 =>
      by_cases hk : k < 6
      · simp only [tw, lenT, if_pos hk]
        simp only [up2, upR, Nat.reduceAdd, Nat.reduceEqDiff, if_true, if_false, reduceIte, va_cpy]
        simp [hk]
      · simp only [tw, lenT, if_neg hk]
    | 11 =>
      by_cases hk : k < 6
      · simp only [tw, lenT, if_pos hk]
        simp only [up2, upR, Nat.reduceAdd, Nat.reduceEqDiff, if_true, if_false, reduceIte, va_cpy]
        simp [hk]
      · simp only [tw, lenT, if_neg hk]
    | 12 =>
      by_cases hk : k < 10
      · simp only [tw, lenT, if_pos hk]
        simp only [up2, upR, Nat.reduceAdd, Nat.reduceEqDiff, if_true, if_false, reduceIte, va_cpy]
        simp [hk]
      · simp only [tw, lenT, if_neg hk]
    | j + 13 => simp only [tw, lenT, if_neg (Nat.not_lt_zero _)]
  · intro a ha
    simp only [up2, upR]
    funext k
    repeat rw [if_neg (by omega)]
set_option maxRecDepth 100000 in
set_option maxHeartbeats 2000000 in
theorem tX4_addPromise_1 (h : aH) (g : aG) (ht : TOk (tw h 1)) (hp : nP (tw h 1) < 10) (k c s t n co : Int32) : ∃ h', MS mX4_addPromise 1 [.ref 1, .int k, .int c, .int s, .int t, .int n, .int co] h g [] h' g ∧ tw h' 1 = adP (tw h 1) (nP (tw h 1)) k c s t n co ∧ (∀ a, a < 1 ∨ 13 < a → h' a = h a) := by
  have eP : h 1 8 = nI (nP (tw h 1)) := ht.np.2
  generalize hPn : nP (tw h 1) = P at hp eP ⊢
  refine ⟨up2 (up2 (up2 (up2 (up2 (up2 (up2 h (1 + 3) P k) (1 + 4) P c) (1 + 5) P s) (1 + 6) P t) (1 + 7) P n) (1 + 8) P co) 1 8 (nI (P + 1)), ?_, ?_, ?_⟩
  · have cP : (h 1 8).toNatClampNeg = P := by rw [eP]; exact cl10 (by omega)
    have hin : vp_in (h 1 8) 10 := by rw [eP]; exact in10 hp (by decide)
    refine MS.of okX4_addPromise (by decide +kernel) (Nat.le_of_ble_eq_true rfl) (by decide) rfl (by decide) ?_
    refine Seg.run [] 400 ?_
    refine And.intro (fun z => ?_) (fun z => ?_)
    · exact absurd (show nI P < 0 by rw [← eP]; exact z) (nI_pos (by omega))
    refine And.intro (fun z => ?_) (fun z => ?_)
    · refine And.intro hin ?_
      refine And.intro hin ?_
      refine And.intro hin ?_
      refine And.intro hin ?_
      refine And.intro hin ?_
      refine And.intro hin ?_
      refine And.intro (fun z => by cases z) ?_
      refine Seg.of ?_
      simp only [cP, up2_o (show (1 : Nat) ≠ 1 + 3 by decide), up2_o (show (1 : Nat) ≠ 1 + 4 by decide), up2_o (show (1 : Nat) ≠ 1 + 5 by decide), up2_o (show (1 : Nat) ≠ 1 + 6 by decide), up2_o (show (1 : Nat) ≠ 1 + 7 by decide), up2_o (show (1 : Nat) ≠ 1 + 8 by decide), eP, nI_succ]
      rfl
    · exact absurd (show nI P < nI 10 from nI_lt hp (by decide)) (by rw [← eP]; exact z)
  · rw [tw_c (k := 0) (Or.inl ⟨rfl, rfl⟩), tw_row (by decide) (by exact hp), tw_row (by decide) (by exact hp), tw_row (by decide) (by exact hp), tw_row (by decide) (by exact hp), tw_row (by decide) (by exact hp), tw_row (by decide) (by exact hp)]
    rfl
  · intro a ha
    iterate 7 rw [up2_row (by omega)]
set_option maxRecDepth 100000 in
set_option maxHeartbeats 2000000 in
theorem tX4_addPromise_30 (h : aH) (g : aG) (ht : TOk (tw h 30)) (hp : nP (tw h 30) < 10) (k c s t n co : Int32) : ∃ h', MS mX4_addPromise 1 [.ref 30, .int k, .int c, .int s, .int t, .int n, .int co] h g [] h' g ∧ tw h' 30 = adP (tw h 30) (nP (tw h 30)) k c s t n co ∧ (∀ a, a < 30 ∨ 42 < a → h' a = h a) := by
  have eP : h 30 8 = nI (nP (tw h 30)) := ht.np.2
  generalize hPn : nP (tw h 30) = P at hp eP ⊢
  refine ⟨up2 (up2 (up2 (up2 (up2 (up2 (up2 h (30 + 3) P k) (30 + 4) P c) (30 + 5) P s) (30 + 6) P t) (30 + 7) P n) (30 + 8) P co) 30 8 (nI (P + 1)), ?_, ?_, ?_⟩
  · have cP : (h 30 8).toNatClampNeg = P := by rw [eP]; exact cl10 (by omega)
    have hin : vp_in (h 30 8) 10 := by rw [eP]; exact in10 hp (by decide)
    refine MS.of okX4_addPromise (by decide +kernel) (Nat.le_of_ble_eq_true rfl) (by decide) rfl (by decide) ?_
    refine Seg.run [] 400 ?_
    refine And.intro (fun z => ?_) (fun z => ?_)
    · exact absurd (show nI P < 0 by rw [← eP]; exact z) (nI_pos (by omega))
    refine And.intro (fun z => ?_) (fun z => ?_)
    · refine And.intro hin ?_
      refine And.intro hin ?_
      refine And.intro hin ?_
      refine And.intro hin ?_
      refine And.intro hin ?_
      refine And.intro hin ?_
      refine And.intro (fun z => by cases z) ?_
      refine Seg.of ?_
      simp only [cP, up2_o (show (30 : Nat) ≠ 30 + 3 by decide), up2_o (show (30 : Nat) ≠ 30 + 4 by decide), up2_o (show (30 : Nat) ≠ 30 + 5 by decide), up2_o (show (30 : Nat) ≠ 30 + 6 by decide), up2_o (show (30 : Nat) ≠ 30 + 7 by decide), up2_o (show (30 : Nat) ≠ 30 + 8 by decide), eP, nI_succ]
      rfl
    · exact absurd (show nI P < nI 10 from nI_lt hp (by decide)) (by rw [← eP]; exact z)
  · rw [tw_c (k := 0) (Or.inl ⟨rfl, rfl⟩), tw_row (by decide) (by exact hp), tw_row (by decide) (by exact hp), tw_row (by decide) (by exact hp), tw_row (by decide) (by exact hp), tw_row (by decide) (by exact hp), tw_row (by decide) (by exact hp)]
    rfl
  · intro a ha
    iterate 7 rw [up2_row (by omega)]
set_option maxRecDepth 100000 in
set_option maxHeartbeats 2000000 in
theorem tX4_addNeed_1 (h : aH) (g : aG) (ht : TOk (tw h 1)) (hp : nN (tw h 1) < 6) (t n w : Int32) : ∃ h', MS mX4_addNeed 1 [.ref 1, .int t, .int n, .int w] h g [] h' g ∧ tw h' 1 = adN (tw h 1) (nN (tw h 1)) t n w ∧ (∀ a, a < 1 ∨ 13 < a → h' a = h a) := by
  have eP : h 1 12 = nI (nN (tw h 1)) := ht.nn.2
  generalize hPn : nN (tw h 1) = P at hp eP ⊢
  refine ⟨up2 (up2 (up2 (up2 h (1 + 9) P t) (1 + 10) P n) (1 + 11) P w) 1 12 (nI (P + 1)), ?_, ?_, ?_⟩
  · have cP : (h 1 12).toNatClampNeg = P := by rw [eP]; exact cl10 (by omega)
    have hin : vp_in (h 1 12) 6 := by rw [eP]; exact in10 hp (by decide)
    refine MS.of okX4_addNeed (by decide +kernel) (Nat.le_of_ble_eq_true rfl) (by decide) rfl (by decide) ?_
    refine Seg.run [] 400 ?_
    refine And.intro (fun z => ?_) (fun z => ?_)
    · exact absurd (show nI P < 0 by rw [← eP]; exact z) (nI_pos (by omega))
    refine And.intro (fun z => ?_) (fun z => ?_)
    · refine And.intro hin ?_
      refine And.intro hin ?_
      refine And.intro hin ?_
      refine And.intro (fun z => by cases z) ?_
      refine Seg.of ?_
      simp only [cP, up2_o (show (1 : Nat) ≠ 1 + 9 by decide), up2_o (show (1 : Nat) ≠ 1 + 10 by decide), up2_o (show (1 : Nat) ≠ 1 + 11 by decide), eP, nI_succ]
      rfl
    · exact absurd (show nI P < nI 6 from nI_lt hp (by decide)) (by rw [← eP]; exact z)
  · rw [tw_c (k := 1) (Or.inr (Or.inl ⟨rfl, rfl⟩)), tw_row (by decide) (by exact hp), tw_row (by decide) (by exact hp), tw_row (by decide) (by exact hp)]
    rfl
  · intro a ha
    iterate 4 rw [up2_row (by omega)]
set_option maxRecDepth 100000 in
set_option maxHeartbeats 2000000 in
theorem tX4_addNeed_30 (h : aH) (g : aG) (ht : TOk (tw h 30)) (hp : nN (tw h 30) < 6) (t n w : Int32) : ∃ h', MS mX4_addNeed 1 [.ref 30, .int t, .int n, .int w] h g [] h' g ∧ tw h' 30 = adN (tw h 30) (nN (tw h 30)) t n w ∧ (∀ a, a < 30 ∨ 42 < a → h' a = h a) := by
  have eP : h 30 12 = nI (nN (tw h 30)) := ht.nn.2
  generalize hPn : nN (tw h 30) = P at hp eP ⊢
  refine ⟨up2 (up2 (up2 (up2 h (30 + 9) P t) (30 + 10) P n) (30 + 11) P w) 30 12 (nI (P + 1)), ?_, ?_, ?_⟩
  · have cP : (h 30 12).toNatClampNeg = P := by rw [eP]; exact cl10 (by omega)
    have hin : vp_in (h 30 12) 6 := by rw [eP]; exact in10 hp (by decide)
    refine MS.of okX4_addNeed (by decide +kernel) (Nat.le_of_ble_eq_true rfl) (by decide) rfl (by decide) ?_
    refine Seg.run [] 400 ?_
    refine And.intro (fun z => ?_) (fun z => ?_)
    · exact absurd (show nI P < 0 by rw [← eP]; exact z) (nI_pos (by omega))
    refine And.intro (fun z => ?_) (fun z => ?_)
    · refine And.intro hin ?_
      refine And.intro hin ?_
      refine And.intro hin ?_
      refine And.intro (fun z => by cases z) ?_
      refine Seg.of ?_
      simp only [cP, up2_o (show (30 : Nat) ≠ 30 + 9 by decide), up2_o (show (30 : Nat) ≠ 30 + 10 by decide), up2_o (show (30 : Nat) ≠ 30 + 11 by decide), eP, nI_succ]
      rfl
    · exact absurd (show nI P < nI 6 from nI_lt hp (by decide)) (by rw [← eP]; exact z)
  · rw [tw_c (k := 1) (Or.inr (Or.inl ⟨rfl, rfl⟩)), tw_row (by decide) (by exact hp), tw_row (by decide) (by exact hp), tw_row (by decide) (by exact hp)]
    rfl
  · intro a ha
    iterate 4 rw [up2_row (by omega)]
set_option maxRecDepth 100000 in
set_option maxHeartbeats 2000000 in
theorem tX4_setPart (h : aH) (g : aG) (p w : Nat) (hp : p < 10) (hw : w < 6) (v : Int32) : MS mX4_setPart 1 [.ref 1, .int (nI p), .int (nI w), .int v] h g [] (up2 h (1 + (3 + w)) p v) g := by
  have cp := cl10 (p := p) (by omega)
  have hi := in10 hp (by decide)
  have ex : ∀ {a : Nat}, nI w = nI a → a < 6 → w = a := fun z ha => (nI_eq (by omega) (by omega)).mp z
  refine MS.of okX4_setPart (by decide +kernel) (Nat.le_of_ble_eq_true rfl) (by decide) rfl (by decide) ?_
  refine Seg.run [] 400 ?_
  refine And.intro (fun k0 => ?_) (fun k0 => ?_)
  · obtain rfl := ex (a := 0) k0 (by decide)
    exact And.intro hi (Seg.of (by rw [cp]))
  refine And.intro (fun k1 => ?_) (fun k1 => ?_)
  · obtain rfl := ex (a := 1) k1 (by decide)
    exact And.intro hi (Seg.of (by rw [cp]))
  refine And.intro (fun k2 => ?_) (fun k2 => ?_)
  · obtain rfl := ex (a := 2) k2 (by decide)
    exact And.intro hi (Seg.of (by rw [cp]))
  refine And.intro (fun k3 => ?_) (fun k3 => ?_)
  · obtain rfl := ex (a := 3) k3 (by decide)
    exact And.intro hi (Seg.of (by rw [cp]))
  refine And.intro (fun k4 => ?_) (fun k4 => ?_)
  · obtain rfl := ex (a := 4) k4 (by decide)
    exact And.intro hi (Seg.of (by rw [cp]))
  have : w = 5 := by
    rcases (show w = 0 ∨ w = 1 ∨ w = 2 ∨ w = 3 ∨ w = 4 ∨ w = 5 by omega) with rfl | rfl | rfl | rfl | rfl | rfl
    · exact absurd rfl k0
    · exact absurd rfl k1
    · exact absurd rfl k2
    · exact absurd rfl k3
    · exact absurd rfl k4
    · rfl
  subst this
  exact And.intro hi (Seg.of (by rw [cp]))
/-- the class's memory with the latest promise dropped, of the spots the first i looked at -/
def dlH (h : aH) (p i : Nat) : aH := fun a k => if a = 13 ∧ k < i then (if h 13 k = nI p then -1 else h 13 k) else up2 h 1 8 (nI p) a k
theorem dlH_0 {h : aH} {p : Nat} : dlH h p 0 = up2 h 1 8 (nI p) := by
  funext a k
  simp [dlH]
theorem dlH_s1 {h : aH} {p i : Nat} (e : h 13 i = nI p) : up2 (dlH h p i) 13 i (-1) = dlH h p (i + 1) := by
  funext a k
  simp only [up2, dlH]
  by_cases ha : a = 13
  · subst ha
    by_cases h1 : k = i
    · subst h1; simp [e]
    · by_cases h2 : k < i
      · simp [h1, h2, show k < i + 1 by omega]
      · simp [h1, h2, show ¬ k < i + 1 by omega]
  · simp [ha]
theorem dlH_s0 {h : aH} {p i : Nat} (e : ¬ h 13 i = nI p) : dlH h p i = dlH h p (i + 1) := by
  funext a k
  simp only [up2, dlH]
  by_cases ha : a = 13
  · subst ha
    by_cases h1 : k = i
    · subst h1; simp [e]
    · by_cases h2 : k < i
      · simp [h2, show k < i + 1 by omega]
      · simp [h2, show ¬ k < i + 1 by omega]
  · simp [ha]
theorem dlH_i {h : aH} {p i : Nat} : dlH h p i 13 i = h 13 i := by simp [dlH, up2]
theorem dlH_8 {h : aH} {p i : Nat} : dlH h p i 1 8 = nI p := by simp [dlH, up2]
theorem dlH_tw {h : aH} {p : Nat} : tw (dlH h p 10) 1 = drU (tw h 1) p 10 := by
  funext j k
  match j with
  | 0 => match k with
    | 0 => simp [tw, lenT, drU, dlH, up2]
    | 1 => simp [tw, lenT, drU, dlH, up2]
    | 2 => simp [tw, lenT, drU, dlH, up2]
    | 3 => simp [tw, lenT, drU, dlH, up2]
    | k + 4 => simp [tw, lenT, drU, dlH, up2]
  | 12 =>
    by_cases hk : k < 10
    · simp only [tw, lenT, drU, dlH, if_pos hk, hk, and_self, and_true, if_true, true_and, reduceIte, Nat.reduceAdd]
    · simp [tw, lenT, drU, dlH, hk, up2]
  | 1 => simp [tw, drU, dlH, up2]
  | 2 => simp [tw, drU, dlH, up2]
  | 3 => simp [tw, drU, dlH, up2]
  | 4 => simp [tw, drU, dlH, up2]
  | 5 => simp [tw, drU, dlH, up2]
  | 6 => simp [tw, drU, dlH, up2]
  | 7 => simp [tw, drU, dlH, up2]
  | 8 => simp [tw, drU, dlH, up2]
  | 9 => simp [tw, drU, dlH, up2]
  | 10 => simp [tw, drU, dlH, up2]
  | 11 => simp [tw, drU, dlH, up2]
  | j + 13 => simp [tw, lenT, drU, up2]
set_option maxRecDepth 100000 in
set_option maxHeartbeats 2000000 in
theorem tX4_dropLatest (h : aH) (g : aG) (p : Nat) (hp : p < 10) (eP : h 1 8 = nI (p + 1)) : MS mX4_dropLatest 1 [.ref 1] h g [] (dlH h p 10) g := by
  refine MS.of okX4_dropLatest (by decide +kernel) (Nat.le_of_ble_eq_true rfl) (by decide) rfl (by decide) ?_
  refine Seg.run [20] 400 ?_
  refine And.intro (fun z => ?_) (fun z => ?_)
  · refine And.intro (fun z => by cases z) ?_
    refine Seg.tr (b := (20, [some (.ref 1), some (.int (nI 0))], [], nW, dlH h p 0, g, ρ)) (Seg.of (by rw [dlH_0, eP, nI_pred] <;> rfl)) ?_
    refine Seg.tr (Seg.iter (fun i => (20, [some (.ref 1), some (.int (nI i))], [], nW, dlH h p i, g, ρ)) 10 (fun i hi => ?_)) ?_
    · have ci := cl10 (p := i) (by omega)
      refine Seg.run [20] 400 ?_
      refine And.intro (fun c => ?_) (fun c => ?_)
      · exact (lim_ge (N := 10) hi (by decide) c).elim
      refine And.intro (in10 hi (by decide)) ?_
      rw [ci, dlH_i, dlH_8]
      refine And.intro (fun d => ?_) (fun d => ?_)
      · exact Seg.of (by rw [dlH_s0 d, nI_succ] <;> rfl)
      · refine And.intro (in10 hi (by decide)) ?_
        exact Seg.of (by rw [dlH_s1 (Decidable.not_not.mp d), nI_succ] <;> rfl)
    · refine Seg.run [] 400 ?_
      refine And.intro (fun c => ?_) (fun c => ?_)
      · exact Seg.rf
      · exact (lim_le (N := 10) (Nat.le_refl _) (by decide) c).elim
  · exact absurd (show 0 < h 1 8 by rw [eP]; exact nI_lt (Nat.succ_pos p) (by omega)) z
