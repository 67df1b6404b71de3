/-! ===== tables changed ===== -/
theorem tw_row {h : aH} {b j k : Nat} {x : Int32} (hj : 1 ≤ j) (hk : k < lenT j) : tw (up2 h (b + j) k x) b = up2 (tw h b) j k x := by
  funext j' i
  cases j' with
  | zero =>
    have e : up2 h (b + j) k x b = h b := up2_row (by omega)
    simp only [tw, up2, if_neg (show ¬ (0 : Nat) = j by omega), if_neg (show ¬ b = b + j by omega)]
  | succ j' =>
    by_cases e : j' + 1 = j
    · subst e
      by_cases e2 : i = k
      · subst e2; simp [tw, up2, hk]
      · simp [tw, up2, e2]
    · simp only [tw, up2, if_neg e, if_neg (show ¬ b + (j' + 1) = b + j by omega)]
theorem tw_c {h : aH} {b k c : Nat} {x : Int32} (hk : (k = 0 ∧ c = 8) ∨ (k = 1 ∧ c = 12) ∨ (k = 2 ∧ c = 13) ∨ (k = 3 ∧ c = 14)) : tw (up2 h b c x) b = up2 (tw h b) 0 k x := by
  funext j' i
  cases j' with
  | zero =>
    rcases hk with ⟨rfl, rfl⟩ | ⟨rfl, rfl⟩ | ⟨rfl, rfl⟩ | ⟨rfl, rfl⟩ <;> match i with
      | 0 => simp [tw, up2, lenT]
      | 1 => simp [tw, up2, lenT]
      | 2 => simp [tw, up2, lenT]
      | 3 => simp [tw, up2, lenT]
      | i + 4 => simp [tw, up2, lenT, show ¬ i + 4 < 4 by omega]
  | succ j' => simp [tw, up2]
theorem lenT_0 {j : Nat} (h : 13 ≤ j) : lenT j = 0 := by
  match j, h with
  | j + 13, _ => rfl
theorem tw_out {h h' : aH} {b : Nat} (e : ∀ j, j ≤ 12 → h' (b + j) = h (b + j)) : tw h' b = tw h b := by
  funext j i
  unfold tw
  by_cases hj : j ≤ 12
  · have e0 : h' b = h b := e 0 (by decide)
    cases j with
    | zero => rw [e0]
    | succ j =>
      show (if i < lenT (j + 1) then h' (b + (j + 1)) i else 0) = (if i < lenT (j + 1) then h (b + (j + 1)) i else 0)
      rw [e (j + 1) hj]
  · rw [lenT_0 (by omega), if_neg (Nat.not_lt_zero _), if_neg (Nat.not_lt_zero _)]
theorem tw_up {h : aH} {b a k : Nat} {x : Int32} (ha : a < b ∨ b + 12 < a) : tw (up2 h a k x) b = tw h b := tw_out fun j hj => up2_row (by omega)
theorem tm_up {h : aH} {b a k : Nat} {x : Int32} (ha : a ≠ b) : tm (up2 h a k x) b = tm h b := by
  funext j i
  unfold tm
  rw [up2_row (fun z => ha z.symm)]
theorem tm_row' {h h' : aH} {b : Nat} (e : h' b = h b) : tm h' b = tm h b := by
  funext j i
  unfold tm
  rw [e]
/-- the place of a table's number in the reference's row -/
def plT (j k : Nat) : Nat := match j with
  | 0 => k
  | 1 => 4 + k
  | 2 => 12 + k
  | 9 => 80 + 3 * k
  | 10 => 80 + 3 * k + 1
  | 11 => 80 + 3 * k + 2
  | 12 => 98 + k
  | j => 20 + 6 * k + (j - 3)
theorem tm_pl {h : aH} {b j k : Nat} : tm h b j k = if k < lenT j then h b (plT j k) else 0 := by
  by_cases hk : k < lenT j
  · rw [if_pos hk]
    unfold tm
    rw [if_pos hk]
    match j, hk with
    | 0, _ => rfl
    | 1, _ => rfl
    | 2, _ => rfl
    | 3, _ => rfl
    | 4, _ => rfl
    | 5, _ => rfl
    | 6, _ => rfl
    | 7, _ => rfl
    | 8, _ => rfl
    | 9, _ => rfl
    | 10, _ => rfl
    | 11, _ => rfl
    | 12, _ => rfl
    | j + 13, hk => exact absurd hk (Nat.not_lt_zero _)
  · rw [if_neg hk]
    unfold tm
    rw [if_neg hk]
theorem plT_ge {j : Nat} (h : 3 ≤ j) (h8 : j ≤ 8) (k : Nat) : plT j k = 20 + 6 * k + (j - 3) := by
  match j, h, h8 with
  | 3, _, _ => rfl
  | 4, _, _ => rfl
  | 5, _, _ => rfl
  | 6, _, _ => rfl
  | 7, _, _ => rfl
  | 8, _, _ => rfl
theorem lt_cases {j k : Nat} (h : k < lenT j) : (j = 0 ∧ k < 4 ∧ plT j k = k) ∨ (j = 1 ∧ k < 8 ∧ plT j k = 4 + k) ∨ (j = 2 ∧ k < 8 ∧ plT j k = 12 + k) ∨ (3 ≤ j ∧ j ≤ 8 ∧ k < 10 ∧ plT j k = 20 + 6 * k + (j - 3)) ∨ (9 ≤ j ∧ j ≤ 11 ∧ k < 6 ∧ plT j k = 80 + 3 * k + (j - 9)) ∨ (j = 12 ∧ k < 10 ∧ plT j k = 98 + k) := by
  match j, h with
  | 0, h => exact Or.inl ⟨rfl, h, rfl⟩
  | 1, h => exact Or.inr (Or.inl ⟨rfl, h, rfl⟩)
  | 2, h => exact Or.inr (Or.inr (Or.inl ⟨rfl, h, rfl⟩))
  | 3, h => exact Or.inr (Or.inr (Or.inr (Or.inl ⟨by decide, by decide, h, rfl⟩)))
  | 4, h => exact Or.inr (Or.inr (Or.inr (Or.inl ⟨by decide, by decide, h, rfl⟩)))
  | 5, h => exact Or.inr (Or.inr (Or.inr (Or.inl ⟨by decide, by decide, h, rfl⟩)))
  | 6, h => exact Or.inr (Or.inr (Or.inr (Or.inl ⟨by decide, by decide, h, rfl⟩)))
  | 7, h => exact Or.inr (Or.inr (Or.inr (Or.inl ⟨by decide, by decide, h, rfl⟩)))
  | 8, h => exact Or.inr (Or.inr (Or.inr (Or.inl ⟨by decide, by decide, h, rfl⟩)))
  | 9, h => exact Or.inr (Or.inr (Or.inr (Or.inr (Or.inl ⟨by decide, by decide, h, rfl⟩))))
  | 10, h => exact Or.inr (Or.inr (Or.inr (Or.inr (Or.inl ⟨by decide, by decide, h, rfl⟩))))
  | 11, h => exact Or.inr (Or.inr (Or.inr (Or.inr (Or.inl ⟨by decide, by decide, h, rfl⟩))))
  | 12, h => exact Or.inr (Or.inr (Or.inr (Or.inr (Or.inr ⟨rfl, h, rfl⟩))))
  | j + 13, h => exact absurd h (Nat.not_lt_zero _)
theorem plT_lt {j k : Nat} (h : k < lenT j) : plT j k < 108 := by
  rcases lt_cases h with ⟨h1, h2, h3⟩ | ⟨h1, h2, h3⟩ | ⟨h1, h2, h3⟩ | ⟨h1, h1', h2, h3⟩ | ⟨h1, h1', h2, h3⟩ | ⟨h1, h2, h3⟩ <;> omega
theorem plT_inj {j k j' k' : Nat} (h : k < lenT j) (h' : k' < lenT j') (e : plT j k = plT j' k') : j = j' ∧ k = k' := by
  rcases lt_cases h with ⟨h1, h2, h3⟩ | ⟨h1, h2, h3⟩ | ⟨h1, h2, h3⟩ | ⟨h1, h1', h2, h3⟩ | ⟨h1, h1', h2, h3⟩ | ⟨h1, h2, h3⟩ <;>
  rcases lt_cases h' with ⟨g1, g2, g3⟩ | ⟨g1, g2, g3⟩ | ⟨g1, g2, g3⟩ | ⟨g1, g1', g2, g3⟩ | ⟨g1, g1', g2, g3⟩ | ⟨g1, g2, g3⟩ <;> omega
theorem tm_set {h : aH} {b j k q : Nat} {x : Int32} (hk : k < lenT j) (hq : q = plT j k) : tm (up2 h b q x) b = up2 (tm h b) j k x := by
  subst hq
  funext j' i
  simp only [up2, tm_pl]
  by_cases hi : i < lenT j'
  · simp only [if_pos hi, if_true]
    by_cases e : plT j' i = plT j k
    · obtain ⟨rfl, rfl⟩ := plT_inj hi hk e
      simp
    · rw [if_neg e]
      by_cases e1 : j' = j
      · subst e1
        rw [if_pos rfl, if_neg (fun z => e (by rw [z]))]
      · rw [if_neg e1]
  · simp only [if_neg hi]
    by_cases e1 : j' = j
    · subst e1
      rw [if_pos rfl, if_neg (fun (z : i = k) => hi (by rw [z]; exact hk))]
    · rw [if_neg e1]
/-! tables that are towns, changed -/
theorem rng {v : Int32} {a b : Nat} (hb : b < 2 ^ 31) (h : nI a ≤ v ∧ v ≤ nI b) (ha : a ≤ b) : ∃ x, (a ≤ x ∧ x ≤ b) ∧ v = nI x := by
  have h0 : ¬ v < 0 := fun z => by
    have := Int32.lt_of_le_of_lt h.1 z
    exact nI_pos (n := a) (by omega) this
  obtain ⟨j, hj, e⟩ := nI_of h0
  subst e
  exact ⟨j, ⟨(nI_leI (by omega) hj).mp h.1, (nI_leI hj hb).mp h.2⟩, rfl⟩
theorem nP_of {T T' : aH} (e : T' 0 0 = T 0 0) : nP T' = nP T := by unfold nP; rw [e]
theorem nN_of {T T' : aH} (e : T' 0 1 = T 0 1) : nN T' = nN T := by unfold nN; rw [e]
theorem TOk.coin {T : aH} (h : TOk T) {c a b : Nat} (hab : a ≤ b ∧ 1 ≤ b ∧ b ≤ 6) : TOk (up2 (up2 T 1 c (nI a)) 2 c (nI b)) := by
  obtain ⟨h1, h2, h3, h4, h5, h6, h7⟩ := h
  refine ⟨h1, h2, h3, fun c' hc' => ?_, h5, h6, h7⟩
  by_cases e : c' = c
  · subst e
    exact ⟨a, b, hab.1, hab.2.1, hab.2.2, by simp [up2], by simp [up2]⟩
  · obtain ⟨a', b', g⟩ := h4 c' hc'
    refine ⟨a', b', ?_⟩
    rw [up2_o (by decide), up2_k e, up2_k e]
    exact g
theorem TOk.lat {T : aH} (h : TOk T) {x : Int32} (hx : x = -1 ∨ ∃ t, t < 256 ∧ x = nI t) : TOk (up2 T 0 2 x) := by
  obtain ⟨h1, h2, h3, h4, h5, h6, h7⟩ := h
  exact ⟨h1, h2, hx, h4, h5, h6, h7⟩
theorem TOk.z {T : aH} (h : TOk T) {x : Int32} : TOk (up2 T 0 3 x) := by
  obtain ⟨h1, h2, h3, h4, h5, h6, h7⟩ := h
  exact ⟨h1, h2, h3, h4, h5, h6, h7⟩
theorem TOk.spot {T : aH} (h : TOk T) {s : Nat} {x : Int32} (hx : x = -1 ∨ ∃ p, p < nP T ∧ x = nI p) : TOk (up2 T 12 s x) := by
  obtain ⟨h1, h2, h3, h4, h5, h6, h7⟩ := h
  refine ⟨h1, h2, h3, h4, h5, h6, fun k hk => ?_⟩
  by_cases e : k = s
  · subst e; rw [up2_s]; exact hx
  · rw [up2_k e]; exact h7 k hk
/-- a part of a promise may be so -/
def okP (w : Nat) (v : Nat) : Prop := match w with
  | 0 => v ≤ 6
  | 1 => v ≤ 7
  | 2 => v ≤ 7
  | 3 => v ≤ 5
  | 4 => 1 ≤ v ∧ v ≤ 9
  | _ => v ≤ 49
theorem TOk.set {T : aH} (h : TOk T) {w p v : Nat} (hw : w < 6) (hv : okP w v) : TOk (up2 T (3 + w) p (nI v)) := by
  obtain ⟨h1, h2, h3, h4, h5, h6, h7⟩ := h
  rcases (show w = 0 ∨ w = 1 ∨ w = 2 ∨ w = 3 ∨ w = 4 ∨ w = 5 by omega) with rfl | rfl | rfl | rfl | rfl | rfl
  all_goals
    refine ⟨h1, h2, h3, h4, fun q hq => ?_, h6, h7⟩
    obtain ⟨⟨g1, g2, g3⟩, g4, g5, g6⟩ := h5 q hq
    by_cases e : q = p
    · subst e
      refine ⟨⟨?_, ?_, ?_⟩, ?_, ?_, ?_⟩
      all_goals first
        | exact g1 | exact g2 | exact g3 | exact g4 | exact g5 | exact g6
        | exact ⟨v, Nat.lt_succ_of_le hv, by simp [up2]⟩
        | exact ⟨v, hv, by simp [up2]⟩
    · refine ⟨⟨?_, ?_, ?_⟩, ?_, ?_, ?_⟩
      all_goals first
        | exact g1 | exact g2 | exact g3 | exact g4 | exact g5 | exact g6
        | (rw [up2_k e]; first | exact g1 | exact g2 | exact g3 | exact g4 | exact g5 | exact g6)
/-- a new promise -/
def adP (T : aH) (p : Nat) (k c s t n co : Int32) : aH := up2 (up2 (up2 (up2 (up2 (up2 (up2 T 3 p k) 4 p c) 5 p s) 6 p t) 7 p n) 8 p co) 0 0 (nI (p + 1))
theorem TOk.newP {T : aH} (h : TOk T) (hp : nP T < 10) {k c s t n co : Nat} (v : (k ≤ 6 ∧ c ≤ 7 ∧ s ≤ 7) ∧ t ≤ 5 ∧ (1 ≤ n ∧ n ≤ 9) ∧ co ≤ 49) : TOk (adP T (nP T) (nI k) (nI c) (nI s) (nI t) (nI n) (nI co)) ∧ nP (adP T (nP T) (nI k) (nI c) (nI s) (nI t) (nI n) (nI co)) = nP T + 1 := by
  have g := (((((h.set (w := 0) (p := nP T) (by decide) v.1.1).set (w := 1) (p := nP T) (by decide) v.1.2.1).set (w := 2) (p := nP T) (by decide) v.1.2.2).set (w := 3) (p := nP T) (by decide) v.2.1).set (w := 4) (p := nP T) (by decide) v.2.2.1).set (w := 5) (p := nP T) (by decide) v.2.2.2
  have en : nP (adP T (nP T) (nI k) (nI c) (nI s) (nI t) (nI n) (nI co)) = nP T + 1 := by
    show (nI (nP T + 1)).toNatClampNeg = _
    exact nI_clamp (by omega)
  refine ⟨?_, en⟩
  obtain ⟨h1, h2, h3, h4, h5, h6, h7⟩ := g
  refine ⟨⟨nP T + 1, by omega, rfl⟩, h2, h3, h4, fun q hq => ?_, h6, fun q hq => ?_⟩
  · rw [en] at hq
    by_cases e : q = nP T
    · subst e
      exact ⟨⟨⟨k, by omega, by simp [adP, up2]⟩, ⟨c, by omega, by simp [adP, up2]⟩, ⟨s, by omega, by simp [adP, up2]⟩⟩, ⟨t, by omega, by simp [adP, up2]⟩, ⟨n, v.2.2.1, by simp [adP, up2]⟩, ⟨co, by omega, by simp [adP, up2]⟩⟩
    · exact h5 q (show q < nP T by omega)
  · rcases h7 q hq with z | ⟨p, z1, z2⟩
    · exact Or.inl z
    · exact Or.inr ⟨p, by rw [en]; exact Nat.lt_succ_of_lt z1, z2⟩
/-- a new need -/
def adN (T : aH) (p : Nat) (t n w : Int32) : aH := up2 (up2 (up2 (up2 T 9 p t) 10 p n) 11 p w) 0 1 (nI (p + 1))
theorem TOk.newN {T : aH} (h : TOk T) (hp : nN T < 6) {t n w : Nat} (v : t ≤ 5 ∧ (1 ≤ n ∧ n ≤ 40) ∧ (1 ≤ w ∧ w ≤ 99)) : TOk (adN T (nN T) (nI t) (nI n) (nI w)) ∧ nN (adN T (nN T) (nI t) (nI n) (nI w)) = nN T + 1 := by
  have en : nN (adN T (nN T) (nI t) (nI n) (nI w)) = nN T + 1 := by
    show (nI (nN T + 1)).toNatClampNeg = _
    exact nI_clamp (by omega)
  refine ⟨?_, en⟩
  obtain ⟨h1, h2, h3, h4, h5, h6, h7⟩ := h
  refine ⟨h1, ⟨nN T + 1, by omega, rfl⟩, h3, h4, h5, fun q hq => ?_, h7⟩
  rw [en] at hq
  by_cases e : q = nN T
  · subst e
    exact ⟨⟨t, by omega, by simp [adN, up2]⟩, ⟨n, v.2.1, by simp [adN, up2]⟩, ⟨w, v.2.2, by simp [adN, up2]⟩⟩
  · have := h6 q (by omega)
    simp only [adN, up2_o (show (9 : Nat) ≠ 0 by decide), up2_o (show (9 : Nat) ≠ 10 by decide), up2_o (show (9 : Nat) ≠ 11 by decide), up2_o (show (10 : Nat) ≠ 0 by decide), up2_o (show (10 : Nat) ≠ 9 by decide), up2_o (show (10 : Nat) ≠ 11 by decide), up2_o (show (11 : Nat) ≠ 0 by decide), up2_o (show (11 : Nat) ≠ 10 by decide), up2_o (show (11 : Nat) ≠ 9 by decide), up2_k e]
    exact this
/-- the latest promise dropped: p of them stay, of the spots the first i are looked at -/
def drU (T : aH) (p i : Nat) : aH := fun a k => if a = 12 ∧ k < i then (if T 12 k = nI p then -1 else T 12 k) else up2 T 0 0 (nI p) a k
theorem drU_0 {T : aH} {p : Nat} : drU T p 0 = up2 T 0 0 (nI p) := by
  funext a k
  simp [drU]
theorem drU_s {T : aH} {p i : Nat} : up2 (drU T p i) 12 i (if T 12 i = nI p then -1 else T 12 i) = drU T p (i + 1) := by
  funext a k
  simp only [up2, drU]
  by_cases ha : a = 12
  · subst ha
    by_cases h1 : k = i
    · subst h1; simp
    · by_cases h2 : k < i
      · simp [h1, h2, show k < i + 1 by omega]
      · simp [h1, h2, show ¬ k < i + 1 by omega]
  · simp [ha]
theorem TOk.dr {T : aH} (h : TOk T) {p : Nat} (hp : nP T = p + 1) : TOk (drU T p 10) ∧ nP (drU T p 10) = p := by
  have en : nP (drU T p 10) = p := by
    show (nI p).toNatClampNeg = _
    have := h.np.1
    exact nI_clamp (by omega)
  refine ⟨?_, en⟩
  have hp10 := h.np.1
  obtain ⟨h1, h2, h3, h4, h5, h6, h7⟩ := h
  refine ⟨⟨p, by omega, rfl⟩, h2, h3, h4, fun q hq => h5 q (by rw [en] at hq; omega), h6, fun q hq => ?_⟩
  have e : drU T p 10 12 q = if T 12 q = nI p then -1 else T 12 q := by simp [drU, hq]
  rw [e]
  by_cases z : T 12 q = nI p
  · rw [if_pos z]; exact Or.inl rfl
  · rw [if_neg z]
    rcases h7 q hq with y | ⟨x, y1, y2⟩
    · exact Or.inl y
    · refine Or.inr ⟨x, ?_, y2⟩
      rw [en]
      have : x ≠ p := fun y => z (by rw [y2, y])
      omega
