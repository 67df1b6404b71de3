/-! ===== texts: the JDK's methods, is the token a word; printed by wip/whole/gen74.py ===== -/
def chJ (j i : Nat) : Int32 := (strByt.getD j []).getD i 0
theorem ch_ok : ∀ j, j < 14 → ∀ i, i < 10 → jchr (chJ j i &&& 255) = chJ j i := by decide +kernel
theorem len_ok : ∀ j, j < 14 → strLen.getD j 0 < 10 := by decide +kernel
set_option maxRecDepth 100000 in
set_option maxHeartbeats 400000 in
theorem tJ3_checkIndex (h : aH) (g : aG) (i n : Nat) (hi : i < n) (hn : n < 2 ^ 31) (v : Value) (hv : v = .null ∨ v = .ref 500) : MS mJ3_checkIndex_8e157 1 [.int (nI i), .int (nI n), v] h g [.int (nI i)] h g := by
  rcases hv with rfl | rfl
  · refine MS.of okJ3_checkIndex_8e157 (by decide +kernel) (Nat.le_of_ble_eq_true rfl) (by decide) rfl (by decide) ?_
    refine Seg.run [] 400 ?_
    refine And.intro (fun z => ?_) (fun z => ?_)
    · exact absurd z (nI_pos (by omega))
    refine And.intro (fun z2 => ?_) (fun z2 => ?_)
    · exact Seg.rf
    · exact absurd (nI_lt hi hn) z2
  · refine MS.of okJ3_checkIndex_8e157 (by decide +kernel) (Nat.le_of_ble_eq_true rfl) (by decide) rfl (by decide) ?_
    refine Seg.run [] 400 ?_
    refine And.intro (fun z => ?_) (fun z => ?_)
    · exact absurd z (nI_pos (by omega))
    refine And.intro (fun z2 => ?_) (fun z2 => ?_)
    · exact Seg.rf
    · exact absurd (nI_lt hi hn) z2
set_option maxRecDepth 100000 in
set_option maxHeartbeats 400000 in
theorem tJ0_checkIndex (h : aH) (g : aG) (i n : Nat) (hi : i < n) (hn : n < 2 ^ 31) : MS mJ0_checkIndex_df160 2 [.int (nI i), .int (nI n)] h g [] h g := by
  refine MS.of okJ0_checkIndex_df160 (by decide +kernel) (Nat.le_of_ble_eq_true rfl) (by decide) rfl (by decide) ?_
  refine Seg.run [] 400 ?_
  refine And.intro ?_ ?_
  · refine Seg.tr (Seg.cS (tJ3_checkIndex h g i n hi hn .null (Or.inl rfl)) mlJ0_1059 syJ3_checkIndex_8e157 oyJ3_checkIndex_8e157 rfl (by decide) rfl rfl rfl (Nat.le_of_ble_eq_true rfl) (Nat.le_of_ble_eq_true rfl)) ?_
    refine Seg.run [] 400 ?_
    exact Seg.rf
  · refine Seg.tr (Seg.cS (tJ3_checkIndex h g i n hi hn (.ref 500) (Or.inr rfl)) mlJ0_1059 syJ3_checkIndex_8e157 oyJ3_checkIndex_8e157 rfl (by decide) rfl rfl rfl (Nat.le_of_ble_eq_true rfl) (Nat.le_of_ble_eq_true rfl)) ?_
    refine Seg.run [] 400 ?_
    exact Seg.rf
/-- the token is a word -/
def wdQ (b : Nat → Int32) (s e k j : Nat) : Prop := k = 1 ∧ e - s = strLen.getD j 0 ∧ ∀ i, i < strLen.getD j 0 → b (s + i) = chJ j i
/-- the class's reader stands at a token -/
def RC (h : aH) (n : Nat) (b : Nat → Int32) (s e k v : Nat) : Prop := (h 27 1 = nI n ∧ ∀ i, i < n → h 28 i = b i) ∧ h 29 2 = nI k ∧ h 29 3 = nI s ∧ h 29 4 = nI e ∧ h 29 5 = nI v ∧ (s ≤ e ∧ e ≤ n ∧ n ≤ 120 ∧ k ≤ 4 ∧ v ≤ 1000)
/-- the reference's -/
def RM (h : aH) (n : Nat) (b : Nat → Int32) (s e k w : Nat) : Prop := (h 63 6 = nI n ∧ ∀ i, i < n → h 68 i = b i) ∧ h 63 8 = nI k ∧ h 63 9 = nI s ∧ h 63 7 = nI e ∧ (k = 2 → h 63 10 = nI w ∧ w ≤ 9999) ∧ (s ≤ e ∧ e ≤ n ∧ n ≤ 120 ∧ k ≤ 4)
set_option maxRecDepth 100000 in
set_option maxHeartbeats 400000 in
theorem tJ0_coder_0 (h : aH) (g : aG) : MS mJ0_coder_7d493 1 [.ref (100 + 0)] h g [.int 0] h g := by
  refine MS.of okJ0_coder_7d493 (by decide +kernel) (Nat.le_of_ble_eq_true rfl) (by decide) rfl (by decide) ?_
  refine Seg.run [] 400 ?_
  refine And.intro (fun z => absurd z (by decide : ¬ (1 : Int32) = 0)) (fun _ => ?_)
  exact And.intro rfl Seg.rf
set_option maxRecDepth 100000 in
set_option maxHeartbeats 400000 in
theorem tJ0_isLatin1_0 (h : aH) (g : aG) : MS mJ0_isLatin1_aae02 1 [.ref (100 + 0)] h g [.int 1] h g := by
  refine MS.of okJ0_isLatin1_aae02 (by decide +kernel) (Nat.le_of_ble_eq_true rfl) (by decide) rfl (by decide) ?_
  refine Seg.run [] 400 ?_
  refine And.intro (fun z => absurd z (by decide : ¬ (1 : Int32) = 0)) (fun _ => ?_)
  refine And.intro (fun z => absurd rfl z) (fun _ => ?_)
  exact And.intro (Or.inr rfl) Seg.rf
set_option maxRecDepth 100000 in
set_option maxHeartbeats 400000 in
theorem tJ0_length_0 (h : aH) (g : aG) : MS mJ0_length_8abf5 2 [.ref (100 + 0)] h g [.int (nI 7)] h g := by
  refine MS.of okJ0_length_8abf5 (by decide +kernel) (Nat.le_of_ble_eq_true rfl) (by decide) rfl (by decide) ?_
  refine Seg.run [] 400 ?_
  refine Seg.tr (Seg.cT (j := 0) (tJ0_coder_0 h g) mlJ0_335 iyJ0_coder_7d493 seJ0_coder_7d493 oyJ0_coder_7d493 rfl (by decide) (by decide) rfl rfl rfl rfl (Nat.le_of_ble_eq_true rfl) (Nat.le_of_ble_eq_true rfl)) ?_
  refine Seg.run [] 400 ?_
  exact Seg.ri (by decide)
set_option maxRecDepth 100000 in
set_option maxHeartbeats 400000 in
theorem tJ1_charAt_0 (h : aH) (g : aG) (i : Nat) (hi : i < 7) : MS mJ1_charAt_3b067 3 [.ref (200 + 0), .int (nI i)] h g [.int (chJ 0 i)] h g := by
  refine MS.of okJ1_charAt_3b067 (by decide +kernel) (Nat.le_of_ble_eq_true rfl) (by decide) rfl (by decide) ?_
  refine Seg.run [] 400 ?_
  refine Seg.tr (Seg.cS (tJ0_checkIndex h g i 7 hi (by decide)) mlJ1_9 syJ0_checkIndex_df160 oyJ0_checkIndex_df160 rfl (by decide) rfl rfl rfl (Nat.le_of_ble_eq_true rfl) (Nat.le_of_ble_eq_true rfl)) ?_
  refine Seg.run [] 400 ?_
  refine And.intro (in10 (p := i) (n := 7) hi (by decide)) ?_
  refine And.intro (pk_nc _) ?_
  exact Seg.ri (by rw [cl10 (p := i) (by omega)]; exact ch_ok 0 (by decide) i (by omega))
set_option maxRecDepth 100000 in
set_option maxHeartbeats 400000 in
theorem tJ0_charAt_0 (h : aH) (g : aG) (i : Nat) (hi : i < 7) : MS mJ0_charAt_5068e 4 [.ref (100 + 0), .int (nI i)] h g [.int (chJ 0 i)] h g := by
  refine MS.of okJ0_charAt_5068e (by decide +kernel) (Nat.le_of_ble_eq_true rfl) (by decide) rfl (by decide) ?_
  refine Seg.run [] 400 ?_
  refine Seg.tr (Seg.cT (j := 0) (tJ0_isLatin1_0 h g) mlJ0_492 iyJ0_isLatin1_aae02 seJ0_isLatin1_aae02 oyJ0_isLatin1_aae02 rfl (by decide) (by decide) rfl rfl rfl rfl (Nat.le_of_ble_eq_true rfl) (Nat.le_of_ble_eq_true rfl)) ?_
  refine Seg.run [] 400 ?_
  refine And.intro (fun z => absurd z (by decide : ¬ (1 : Int32) = 0)) (fun _ => ?_)
  refine Seg.tr (Seg.cS (tJ1_charAt_0 h g i hi) mlJ0_495 syJ1_charAt_3b067 oyJ1_charAt_3b067 rfl (by decide) rfl rfl rfl (Nat.le_of_ble_eq_true rfl) (Nat.le_of_ble_eq_true rfl)) ?_
  refine Seg.run [] 400 ?_
  exact And.intro (by rw [← ch_ok 0 (by decide) i (by omega)]; exact pk_nc _) Seg.rf
set_option maxRecDepth 100000 in
set_option maxHeartbeats 400000 in
theorem tX1_isWord_0 {h : aH} {g : aG} {n : Nat} {b : Nat → Int32} {s e k v : Nat} (hr : RC h n b s e k v) (x : Int32) (hx : (x = 1 ∧ wdQ b s e k 0) ∨ (x = 0 ∧ ¬ wdQ b s e k 0)) : MS mX1_isWord 5 [.ref 29, .ref (100 + 0)] h g [.int x] h g := by
  obtain ⟨⟨r1, r2⟩, r3, r4, r5, r6, r7⟩ := hr
  have no : ¬ wdQ b s e k 0 → x = 0 := fun y => hx.elim (fun w => absurd w.2 y) (fun w => w.1)
  have yes : wdQ b s e k 0 → x = 1 := fun y => hx.elim (fun w => w.1) (fun w => absurd y w.2)
  have loop : k = 1 → e - s = 7 → ∀ m i, m + i = 7 → (∀ q, q < i → b (s + q) = chJ 0 q) → Seg mX1_isWord 5 (28, [some (.ref 29), some (.ref (100 + 0)), some (.int (nI i))], [], nW, h, g, ρ) (aRET, [], [.int x], nW, h, g, ρ) := by
    intro hk hl m
    induction m with
    | zero =>
      intro i hi hq
      obtain rfl : i = 7 := by omega
      refine Seg.run [] 400 ?_
      refine Seg.tr (Seg.cT (j := 0) (tJ0_length_0 h g) mlX1_68 iyJ0_length_8abf5 seJ0_length_8abf5 oyJ0_length_8abf5 rfl (by decide) (by decide) rfl rfl rfl rfl (Nat.le_of_ble_eq_true rfl) (Nat.le_of_ble_eq_true rfl)) ?_
      refine Seg.run [] 400 ?_
      refine And.intro (fun _ => ?_) (fun z => absurd (nI_le (Nat.le_refl _) (by decide)) z)
      exact And.intro (Or.inr rfl) (Seg.ri (yes ⟨hk, hl, hq⟩).symm)
    | succ m ih =>
      intro i hi hq
      have es : nI s + nI i = nI (s + i) := nI_ad _ _
      refine Seg.run [] 400 ?_
      refine Seg.tr (Seg.cT (j := 0) (tJ0_length_0 h g) mlX1_68 iyJ0_length_8abf5 seJ0_length_8abf5 oyJ0_length_8abf5 rfl (by decide) (by decide) rfl rfl rfl rfl (Nat.le_of_ble_eq_true rfl) (Nat.le_of_ble_eq_true rfl)) ?_
      refine Seg.run [28] 400 ?_
      refine And.intro (fun z => absurd z (nI_ge (by omega) (by decide))) (fun _ => ?_)
      refine And.intro (by rw [r4, es]; exact in10 (by omega) (by decide)) ?_
      rw [r4, es, cl10 (p := s + i) (by omega), r2 (s + i) (by omega)]
      refine Seg.tr (Seg.cT (j := 0) (tJ0_charAt_0 h g i (by omega)) mlX1_73 iyJ0_charAt_5068e seJ0_charAt_5068e oyJ0_charAt_5068e rfl (by decide) (by decide) rfl rfl rfl rfl (Nat.le_of_ble_eq_true rfl) (Nat.le_of_ble_eq_true rfl)) ?_
      refine Seg.run [28] 400 ?_
      refine And.intro (fun z => ?_) (fun z => ?_)
      · refine Seg.tr (Seg.of (b := (28, [some (.ref 29), some (.ref (100 + 0)), some (.int (nI (i + 1)))], [], nW, h, g, ρ)) (by rw [nI_succ i] <;> rfl)) ?_
        refine ih (i + 1) (by omega) (fun q hq2 => ?_)
        by_cases y : q = i
        · subst y; exact z
        · exact hq q (by omega)
      · exact And.intro (Or.inl rfl) (Seg.ri (no (fun w => z (w.2.2 i (show i < 7 by omega)))).symm)
  refine MS.of okX1_isWord (by decide +kernel) (Nat.le_of_ble_eq_true rfl) (by decide) rfl (by decide) ?_
  refine Seg.run [] 400 ?_
  refine And.intro (fun z => ?_) (fun z => ?_)
  · refine And.intro (Or.inl rfl) (Seg.ri (no (fun w => z (by rw [r3, w.1]; rfl))).symm)
  have hk : k = 1 := (nI_eq (by omega) (b := 1) (by decide)).mp (by rw [← r3]; exact Decidable.not_not.mp z)
  have el : h 29 4 - h 29 3 = nI (e - s) := by rw [r5, r4]; exact nI_sb r7.1
  refine Seg.tr (Seg.cT (j := 0) (tJ0_length_0 h g) mlX1_68 iyJ0_length_8abf5 seJ0_length_8abf5 oyJ0_length_8abf5 rfl (by decide) (by decide) rfl rfl rfl rfl (Nat.le_of_ble_eq_true rfl) (Nat.le_of_ble_eq_true rfl)) ?_
  refine Seg.run [28] 400 ?_
  refine And.intro (fun z2 => ?_) (fun z2 => ?_)
  · exact loop hk ((nI_eq (by omega) (b := 7) (by decide)).mp (by rw [← el]; exact z2)) 7 0 rfl (fun q hq => absurd hq (Nat.not_lt_zero _))
  · exact And.intro (Or.inl rfl) (Seg.ri (no (fun w => z2 (show h 29 4 - h 29 3 = nI 7 by rw [el, w.2.1]; rfl))).symm)
set_option maxRecDepth 100000 in
set_option maxHeartbeats 400000 in
theorem tX6_isWord_0 {h : aH} {g : aG} {n : Nat} {b : Nat → Int32} {s e k v : Nat} (hr : RM h n b s e k v) (x : Int32) (hx : (x = 1 ∧ wdQ b s e k 0) ∨ (x = 0 ∧ ¬ wdQ b s e k 0)) : MS mX6_isWord 5 [.ref 63, .ref (100 + 0)] h g [.int x] h g := by
  obtain ⟨⟨r1, r2⟩, r3, r4, r5, r6, r7⟩ := hr
  have no : ¬ wdQ b s e k 0 → x = 0 := fun y => hx.elim (fun w => absurd w.2 y) (fun w => w.1)
  have yes : wdQ b s e k 0 → x = 1 := fun y => hx.elim (fun w => w.1) (fun w => absurd y w.2)
  have stop : ¬ wdQ b s e k 0 → ∀ i, i ≤ 7 → Seg mX6_isWord 5 (32, [some (.ref 63), some (.ref (100 + 0)), some (.int 0), some (.int (nI i))], [], nW, h, g, ρ) (aRET, [], [.int x], nW, h, g, ρ) := by
    intro nw i hi
    refine Seg.run [] 400 ?_
    refine Seg.tr (Seg.cT (j := 0) (tJ0_length_0 h g) mlX6_74 iyJ0_length_8abf5 seJ0_length_8abf5 oyJ0_length_8abf5 rfl (by decide) (by decide) rfl rfl rfl rfl (Nat.le_of_ble_eq_true rfl) (Nat.le_of_ble_eq_true rfl)) ?_
    refine Seg.run [] 400 ?_
    refine And.intro (fun z => ?_) (fun z => ?_)
    · exact And.intro (Or.inl rfl) (Seg.ri (no nw).symm)
    refine And.intro (fun _ => ?_) (fun z => absurd rfl z)
    exact And.intro (Or.inl rfl) (Seg.ri (no nw).symm)
  have loop : k = 1 → e - s = 7 → ∀ m i, m + i = 7 → (∀ q, q < i → b (s + q) = chJ 0 q) → Seg mX6_isWord 5 (32, [some (.ref 63), some (.ref (100 + 0)), some (.int 1), some (.int (nI i))], [], nW, h, g, ρ) (aRET, [], [.int x], nW, h, g, ρ) := by
    intro hk hl m
    induction m with
    | zero =>
      intro i hi hq
      obtain rfl : i = 7 := by omega
      refine Seg.run [] 400 ?_
      refine Seg.tr (Seg.cT (j := 0) (tJ0_length_0 h g) mlX6_74 iyJ0_length_8abf5 seJ0_length_8abf5 oyJ0_length_8abf5 rfl (by decide) (by decide) rfl rfl rfl rfl (Nat.le_of_ble_eq_true rfl) (Nat.le_of_ble_eq_true rfl)) ?_
      refine Seg.run [] 400 ?_
      refine And.intro (fun _ => ?_) (fun z => absurd (nI_le (Nat.le_refl _) (by decide)) z)
      exact And.intro (Or.inr rfl) (Seg.ri (yes ⟨hk, hl, hq⟩).symm)
    | succ m ih =>
      intro i hi hq
      have es : nI s + nI i = nI (s + i) := nI_ad _ _
      refine Seg.run [] 400 ?_
      refine Seg.tr (Seg.cT (j := 0) (tJ0_length_0 h g) mlX6_74 iyJ0_length_8abf5 seJ0_length_8abf5 oyJ0_length_8abf5 rfl (by decide) (by decide) rfl rfl rfl rfl (Nat.le_of_ble_eq_true rfl) (Nat.le_of_ble_eq_true rfl)) ?_
      refine Seg.run [32] 400 ?_
      refine And.intro (fun z => absurd z (nI_ge (by omega) (by decide))) (fun _ => ?_)
      refine And.intro (fun z => absurd z (by decide : ¬ (1 : Int32) = 0)) (fun _ => ?_)
      refine And.intro (by rw [r4, es]; exact in10 (by omega) (by decide)) ?_
      rw [r4, es, cl10 (p := s + i) (by omega), r2 (s + i) (by omega)]
      refine Seg.tr (Seg.cT (j := 0) (tJ0_charAt_0 h g i (by omega)) mlX6_80 iyJ0_charAt_5068e seJ0_charAt_5068e oyJ0_charAt_5068e rfl (by decide) (by decide) rfl rfl rfl rfl (Nat.le_of_ble_eq_true rfl) (Nat.le_of_ble_eq_true rfl)) ?_
      refine Seg.run [32] 400 ?_
      refine And.intro (fun z => ?_) (fun z => ?_)
      · refine Seg.tr (Seg.of (b := (32, [some (.ref 63), some (.ref (100 + 0)), some (.int 0), some (.int (nI (i + 1)))], [], nW, h, g, ρ)) (by rw [nI_succ i] <;> rfl)) ?_
        exact stop (fun w => z (w.2.2 i (show i < 7 by omega))) (i + 1) (by omega)
      · refine Seg.tr (Seg.of (b := (32, [some (.ref 63), some (.ref (100 + 0)), some (.int 1), some (.int (nI (i + 1)))], [], nW, h, g, ρ)) (by rw [nI_succ i] <;> rfl)) ?_
        refine ih (i + 1) (by omega) (fun q hq2 => ?_)
        by_cases y : q = i
        · subst y; exact Decidable.not_not.mp z
        · exact hq q (by omega)
  refine MS.of okX6_isWord (by decide +kernel) (Nat.le_of_ble_eq_true rfl) (by decide) rfl (by decide) ?_
  refine Seg.run [32] 400 ?_
  refine And.intro (fun z => ?_) (fun z => ?_)
  · exact stop (fun w => z (by rw [r3, w.1]; rfl)) 0 (Nat.zero_le _)
  have hk : k = 1 := (nI_eq (by omega) (b := 1) (by decide)).mp (by rw [← r3]; exact Decidable.not_not.mp z)
  have el : h 63 7 - h 63 9 = nI (e - s) := by rw [r5, r4]; exact nI_sb r7.1
  refine Seg.tr (Seg.cT (j := 0) (tJ0_length_0 h g) mlX6_74 iyJ0_length_8abf5 seJ0_length_8abf5 oyJ0_length_8abf5 rfl (by decide) (by decide) rfl rfl rfl rfl (Nat.le_of_ble_eq_true rfl) (Nat.le_of_ble_eq_true rfl)) ?_
  refine Seg.run [32] 400 ?_
  refine And.intro (fun z2 => ?_) (fun z2 => ?_)
  · exact stop (fun w => z2 (show h 63 7 - h 63 9 = nI 7 by rw [el, w.2.1]; rfl)) 0 (Nat.zero_le _)
  · exact loop hk ((nI_eq (by omega) (b := 7) (by decide)).mp (by rw [← el]; exact Decidable.not_not.mp z2)) 7 0 rfl (fun q hq => absurd hq (Nat.not_lt_zero _))
set_option maxRecDepth 100000 in
set_option maxHeartbeats 400000 in
theorem tJ0_coder_1 (h : aH) (g : aG) : MS mJ0_coder_7d493 1 [.ref (100 + 1)] h g [.int 0] h g := by
  refine MS.of okJ0_coder_7d493 (by decide +kernel) (Nat.le_of_ble_eq_true rfl) (by decide) rfl (by decide) ?_
  refine Seg.run [] 400 ?_
  refine And.intro (fun z => absurd z (by decide : ¬ (1 : Int32) = 0)) (fun _ => ?_)
  exact And.intro rfl Seg.rf
set_option maxRecDepth 100000 in
set_option maxHeartbeats 400000 in
theorem tJ0_isLatin1_1 (h : aH) (g : aG) : MS mJ0_isLatin1_aae02 1 [.ref (100 + 1)] h g [.int 1] h g := by
  refine MS.of okJ0_isLatin1_aae02 (by decide +kernel) (Nat.le_of_ble_eq_true rfl) (by decide) rfl (by decide) ?_
  refine Seg.run [] 400 ?_
  refine And.intro (fun z => absurd z (by decide : ¬ (1 : Int32) = 0)) (fun _ => ?_)
  refine And.intro (fun z => absurd rfl z) (fun _ => ?_)
  exact And.intro (Or.inr rfl) Seg.rf
set_option maxRecDepth 100000 in
set_option maxHeartbeats 400000 in
theorem tJ0_length_1 (h : aH) (g : aG) : MS mJ0_length_8abf5 2 [.ref (100 + 1)] h g [.int (nI 5)] h g := by
  refine MS.of okJ0_length_8abf5 (by decide +kernel) (Nat.le_of_ble_eq_true rfl) (by decide) rfl (by decide) ?_
  refine Seg.run [] 400 ?_
  refine Seg.tr (Seg.cT (j := 1) (tJ0_coder_1 h g) mlJ0_335 iyJ0_coder_7d493 seJ0_coder_7d493 oyJ0_coder_7d493 rfl (by decide) (by decide) rfl rfl rfl rfl (Nat.le_of_ble_eq_true rfl) (Nat.le_of_ble_eq_true rfl)) ?_
  refine Seg.run [] 400 ?_
  exact Seg.ri (by decide)
set_option maxRecDepth 100000 in
set_option maxHeartbeats 400000 in
theorem tJ1_charAt_1 (h : aH) (g : aG) (i : Nat) (hi : i < 5) : MS mJ1_charAt_3b067 3 [.ref (200 + 1), .int (nI i)] h g [.int (chJ 1 i)] h g := by
  refine MS.of okJ1_charAt_3b067 (by decide +kernel) (Nat.le_of_ble_eq_true rfl) (by decide) rfl (by decide) ?_
  refine Seg.run [] 400 ?_
  refine Seg.tr (Seg.cS (tJ0_checkIndex h g i 5 hi (by decide)) mlJ1_9 syJ0_checkIndex_df160 oyJ0_checkIndex_df160 rfl (by decide) rfl rfl rfl (Nat.le_of_ble_eq_true rfl) (Nat.le_of_ble_eq_true rfl)) ?_
  refine Seg.run [] 400 ?_
  refine And.intro (in10 (p := i) (n := 5) hi (by decide)) ?_
  refine And.intro (pk_nc _) ?_
  exact Seg.ri (by rw [cl10 (p := i) (by omega)]; exact ch_ok 1 (by decide) i (by omega))
set_option maxRecDepth 100000 in
set_option maxHeartbeats 400000 in
theorem tJ0_charAt_1 (h : aH) (g : aG) (i : Nat) (hi : i < 5) : MS mJ0_charAt_5068e 4 [.ref (100 + 1), .int (nI i)] h g [.int (chJ 1 i)] h g := by
  refine MS.of okJ0_charAt_5068e (by decide +kernel) (Nat.le_of_ble_eq_true rfl) (by decide) rfl (by decide) ?_
  refine Seg.run [] 400 ?_
  refine Seg.tr (Seg.cT (j := 1) (tJ0_isLatin1_1 h g) mlJ0_492 iyJ0_isLatin1_aae02 seJ0_isLatin1_aae02 oyJ0_isLatin1_aae02 rfl (by decide) (by decide) rfl rfl rfl rfl (Nat.le_of_ble_eq_true rfl) (Nat.le_of_ble_eq_true rfl)) ?_
  refine Seg.run [] 400 ?_
  refine And.intro (fun z => absurd z (by decide : ¬ (1 : Int32) = 0)) (fun _ => ?_)
  refine Seg.tr (Seg.cS (tJ1_charAt_1 h g i hi) mlJ0_495 syJ1_charAt_3b067 oyJ1_charAt_3b067 rfl (by decide) rfl rfl rfl (Nat.le_of_ble_eq_true rfl) (Nat.le_of_ble_eq_true rfl)) ?_
  refine Seg.run [] 400 ?_
  exact And.intro (by rw [← ch_ok 1 (by decide) i (by omega)]; exact pk_nc _) Seg.rf
set_option maxRecDepth 100000 in
set_option maxHeartbeats 400000 in
theorem tX1_isWord_1 {h : aH} {g : aG} {n : Nat} {b : Nat → Int32} {s e k v : Nat} (hr : RC h n b s e k v) (x : Int32) (hx : (x = 1 ∧ wdQ b s e k 1) ∨ (x = 0 ∧ ¬ wdQ b s e k 1)) : MS mX1_isWord 5 [.ref 29, .ref (100 + 1)] h g [.int x] h g := by
  obtain ⟨⟨r1, r2⟩, r3, r4, r5, r6, r7⟩ := hr
  have no : ¬ wdQ b s e k 1 → x = 0 := fun y => hx.elim (fun w => absurd w.2 y) (fun w => w.1)
  have yes : wdQ b s e k 1 → x = 1 := fun y => hx.elim (fun w => w.1) (fun w => absurd y w.2)
  have loop : k = 1 → e - s = 5 → ∀ m i, m + i = 5 → (∀ q, q < i → b (s + q) = chJ 1 q) → Seg mX1_isWord 5 (28, [some (.ref 29), some (.ref (100 + 1)), some (.int (nI i))], [], nW, h, g, ρ) (aRET, [], [.int x], nW, h, g, ρ) := by
    intro hk hl m
    induction m with
    | zero =>
      intro i hi hq
      obtain rfl : i = 5 := by omega
      refine Seg.run [] 400 ?_
      refine Seg.tr (Seg.cT (j := 1) (tJ0_length_1 h g) mlX1_68 iyJ0_length_8abf5 seJ0_length_8abf5 oyJ0_length_8abf5 rfl (by decide) (by decide) rfl rfl rfl rfl (Nat.le_of_ble_eq_true rfl) (Nat.le_of_ble_eq_true rfl)) ?_
      refine Seg.run [] 400 ?_
      refine And.intro (fun _ => ?_) (fun z => absurd (nI_le (Nat.le_refl _) (by decide)) z)
      exact And.intro (Or.inr rfl) (Seg.ri (yes ⟨hk, hl, hq⟩).symm)
    | succ m ih =>
      intro i hi hq
      have es : nI s + nI i = nI (s + i) := nI_ad _ _
      refine Seg.run [] 400 ?_
      refine Seg.tr (Seg.cT (j := 1) (tJ0_length_1 h g) mlX1_68 iyJ0_length_8abf5 seJ0_length_8abf5 oyJ0_length_8abf5 rfl (by decide) (by decide) rfl rfl rfl rfl (Nat.le_of_ble_eq_true rfl) (Nat.le_of_ble_eq_true rfl)) ?_
      refine Seg.run [28] 400 ?_
      refine And.intro (fun z => absurd z (nI_ge (by omega) (by decide))) (fun _ => ?_)
      refine And.intro (by rw [r4, es]; exact in10 (by omega) (by decide)) ?_
      rw [r4, es, cl10 (p := s + i) (by omega), r2 (s + i) (by omega)]
      refine Seg.tr (Seg.cT (j := 1) (tJ0_charAt_1 h g i (by omega)) mlX1_73 iyJ0_charAt_5068e seJ0_charAt_5068e oyJ0_charAt_5068e rfl (by decide) (by decide) rfl rfl rfl rfl (Nat.le_of_ble_eq_true rfl) (Nat.le_of_ble_eq_true rfl)) ?_
      refine Seg.run [28] 400 ?_
      refine And.intro (fun z => ?_) (fun z => ?_)
      · refine Seg.tr (Seg.of (b := (28, [some (.ref 29), some (.ref (100 + 1)), some (.int (nI (i + 1)))], [], nW, h, g, ρ)) (by rw [nI_succ i] <;> rfl)) ?_
        refine ih (i + 1) (by omega) (fun q hq2 => ?_)
        by_cases y : q = i
        · subst y; exact z
        · exact hq q (by omega)
      · exact And.intro (Or.inl rfl) (Seg.ri (no (fun w => z (w.2.2 i (show i < 5 by omega)))).symm)
  refine MS.of okX1_isWord (by decide +kernel) (Nat.le_of_ble_eq_true rfl) (by decide) rfl (by decide) ?_
  refine Seg.run [] 400 ?_
  refine And.intro (fun z => ?_) (fun z => ?_)
  · refine And.intro (Or.inl rfl) (Seg.ri (no (fun w => z (by rw [r3, w.1]; rfl))).symm)
  have hk : k = 1 := (nI_eq (by omega) (b := 1) (by decide)).mp (by rw [← r3]; exact Decidable.not_not.mp z)
  have el : h 29 4 - h 29 3 = nI (e - s) := by rw [r5, r4]; exact nI_sb r7.1
  refine Seg.tr (Seg.cT (j := 1) (tJ0_length_1 h g) mlX1_68 iyJ0_length_8abf5 seJ0_length_8abf5 oyJ0_length_8abf5 rfl (by decide) (by decide) rfl rfl rfl rfl (Nat.le_of_ble_eq_true rfl) (Nat.le_of_ble_eq_true rfl)) ?_
  refine Seg.run [28] 400 ?_
  refine And.intro (fun z2 => ?_) (fun z2 => ?_)
  · exact loop hk ((nI_eq (by omega) (b := 5) (by decide)).mp (by rw [← el]; exact z2)) 5 0 rfl (fun q hq => absurd hq (Nat.not_lt_zero _))
  · exact And.intro (Or.inl rfl) (Seg.ri (no (fun w => z2 (show h 29 4 - h 29 3 = nI 5 by rw [el, w.2.1]; rfl))).symm)
set_option maxRecDepth 100000 in
set_option maxHeartbeats 400000 in
theorem tX6_isWord_1 {h : aH} {g : aG} {n : Nat} {b : Nat → Int32} {s e k v : Nat} (hr : RM h n b s e k v) (x : Int32) (hx : (x = 1 ∧ wdQ b s e k 1) ∨ (x = 0 ∧ ¬ wdQ b s e k 1)) : MS mX6_isWord 5 [.ref 63, .ref (100 + 1)] h g [.int x] h g := by
  obtain ⟨⟨r1, r2⟩, r3, r4, r5, r6, r7⟩ := hr
  have no : ¬ wdQ b s e k 1 → x = 0 := fun y => hx.elim (fun w => absurd w.2 y) (fun w => w.1)
  have yes : wdQ b s e k 1 → x = 1 := fun y => hx.elim (fun w => w.1) (fun w => absurd y w.2)
  have stop : ¬ wdQ b s e k 1 → ∀ i, i ≤ 5 → Seg mX6_isWord 5 (32, [some (.ref 63), some (.ref (100 + 1)), some (.int 0), some (.int (nI i))], [], nW, h, g, ρ) (aRET, [], [.int x], nW, h, g, ρ) := by
    intro nw i hi
    refine Seg.run [] 400 ?_
    refine Seg.tr (Seg.cT (j := 1) (tJ0_length_1 h g) mlX6_74 iyJ0_length_8abf5 seJ0_length_8abf5 oyJ0_length_8abf5 rfl (by decide) (by decide) rfl rfl rfl rfl (Nat.le_of_ble_eq_true rfl) (Nat.le_of_ble_eq_true rfl)) ?_
    refine Seg.run [] 400 ?_
    refine And.intro (fun z => ?_) (fun z => ?_)
    · exact And.intro (Or.inl rfl) (Seg.ri (no nw).symm)
    refine And.intro (fun _ => ?_) (fun z => absurd rfl z)
    exact And.intro (Or.inl rfl) (Seg.ri (no nw).symm)
  have loop : k = 1 → e - s = 5 → ∀ m i, m + i = 5 → (∀ q, q < i → b (s + q) = chJ 1 q) → Seg mX6_isWord 5 (32, [some (.ref 63), some (.ref (100 + 1)), some (.int 1), some (.int (nI i))], [], nW, h, g, ρ) (aRET, [], [.int x], nW, h, g, ρ) := by
    intro hk hl m
    induction m with
    | zero =>
      intro i hi hq
      obtain rfl : i = 5 := by omega
      refine Seg.run [] 400 ?_
      refine Seg.tr (Seg.cT (j := 1) (tJ0_length_1 h g) mlX6_74 iyJ0_length_8abf5 seJ0_length_8abf5 oyJ0_length_8abf5 rfl (by decide) (by decide) rfl rfl rfl rfl (Nat.le_of_ble_eq_true rfl) (Nat.le_of_ble_eq_true rfl)) ?_
      refine Seg.run [] 400 ?_
      refine And.intro (fun _ => ?_) (fun z => absurd (nI_le (Nat.le_refl _) (by decide)) z)
      exact And.intro (Or.inr rfl) (Seg.ri (yes ⟨hk, hl, hq⟩).symm)
    | succ m ih =>
      intro i hi hq
      have es : nI s + nI i = nI (s + i) := nI_ad _ _
      refine Seg.run [] 400 ?_
      refine Seg.tr (Seg.cT (j := 1) (tJ0_length_1 h g) mlX6_74 iyJ0_length_8abf5 seJ0_length_8abf5 oyJ0_length_8abf5 rfl (by decide) (by decide) rfl rfl rfl rfl (Nat.le_of_ble_eq_true rfl) (Nat.le_of_ble_eq_true rfl)) ?_
      refine Seg.run [32] 400 ?_
      refine And.intro (fun z => absurd z (nI_ge (by omega) (by decide))) (fun _ => ?_)
      refine And.intro (fun z => absurd z (by decide : ¬ (1 : Int32) = 0)) (fun _ => ?_)
      refine And.intro (by rw [r4, es]; exact in10 (by omega) (by decide)) ?_
      rw [r4, es, cl10 (p := s + i) (by omega), r2 (s + i) (by omega)]
      refine Seg.tr (Seg.cT (j := 1) (tJ0_charAt_1 h g i (by omega)) mlX6_80 iyJ0_charAt_5068e seJ0_charAt_5068e oyJ0_charAt_5068e rfl (by decide) (by decide) rfl rfl rfl rfl (Nat.le_of_ble_eq_true rfl) (Nat.le_of_ble_eq_true rfl)) ?_
      refine Seg.run [32] 400 ?_
      refine And.intro (fun z => ?_) (fun z => ?_)
      · refine Seg.tr (Seg.of (b := (32, [some (.ref 63), some (.ref (100 + 1)), some (.int 0), some (.int (nI (i + 1)))], [], nW, h, g, ρ)) (by rw [nI_succ i] <;> rfl)) ?_
        exact stop (fun w => z (w.2.2 i (show i < 5 by omega))) (i + 1) (by omega)
      · refine Seg.tr (Seg.of (b := (32, [some (.ref 63), some (.ref (100 + 1)), some (.int 1), some (.int (nI (i + 1)))], [], nW, h, g, ρ)) (by rw [nI_succ i] <;> rfl)) ?_
        refine ih (i + 1) (by omega) (fun q hq2 => ?_)
        by_cases y : q = i
        · subst y; exact Decidable.not_not.mp z
        · exact hq q (by omega)
  refine MS.of okX6_isWord (by decide +kernel) (Nat.le_of_ble_eq_true rfl) (by decide) rfl (by decide) ?_
  refine Seg.run [32] 400 ?_
  refine And.intro (fun z => ?_) (fun z => ?_)
  · exact stop (fun w => z (by rw [r3, w.1]; rfl)) 0 (Nat.zero_le _)
  have hk : k = 1 := (nI_eq (by omega) (b := 1) (by decide)).mp (by rw [← r3]; exact Decidable.not_not.mp z)
  have el : h 63 7 - h 63 9 = nI (e - s) := by rw [r5, r4]; exact nI_sb r7.1
  refine Seg.tr (Seg.cT (j := 1) (tJ0_length_1 h g) mlX6_74 iyJ0_length_8abf5 seJ0_length_8abf5 oyJ0_length_8abf5 rfl (by decide) (by decide) rfl rfl rfl rfl (Nat.le_of_ble_eq_true rfl) (Nat.le_of_ble_eq_true rfl)) ?_
  refine Seg.run [32] 400 ?_
  refine And.intro (fun z2 => ?_) (fun z2 => ?_)
  · exact stop (fun w => z2 (show h 63 7 - h 63 9 = nI 5 by rw [el, w.2.1]; rfl)) 0 (Nat.zero_le _)
  · exact loop hk ((nI_eq (by omega) (b := 5) (by decide)).mp (by rw [← el]; exact Decidable.not_not.mp z2)) 5 0 rfl (fun q hq => absurd hq (Nat.not_lt_zero _))
set_option maxRecDepth 100000 in
set_option maxHeartbeats 400000 in
theorem tJ0_coder_2 (h : aH) (g : aG) : MS mJ0_coder_7d493 1 [.ref (100 + 2)] h g [.int 0] h g := by
  refine MS.of okJ0_coder_7d493 (by decide +kernel) (Nat.le_of_ble_eq_true rfl) (by decide) rfl (by decide) ?_
  refine Seg.run [] 400 ?_
  refine And.intro (fun z => absurd z (by decide : ¬ (1 : Int32) = 0)) (fun _ => ?_)
  exact And.intro rfl Seg.rf
set_option maxRecDepth 100000 in
set_option maxHeartbeats 400000 in
theorem tJ0_isLatin1_2 (h : aH) (g : aG) : MS mJ0_isLatin1_aae02 1 [.ref (100 + 2)] h g [.int 1] h g := by
  refine MS.of okJ0_isLatin1_aae02 (by decide +kernel) (Nat.le_of_ble_eq_true rfl) (by decide) rfl (by decide) ?_
  refine Seg.run [] 400 ?_
  refine And.intro (fun z => absurd z (by decide : ¬ (1 : Int32) = 0)) (fun _ => ?_)
  refine And.intro (fun z => absurd rfl z) (fun _ => ?_)
  exact And.intro (Or.inr rfl) Seg.rf
set_option maxRecDepth 100000 in
set_option maxHeartbeats 400000 in
theorem tJ0_length_2 (h : aH) (g : aG) : MS mJ0_length_8abf5 2 [.ref (100 + 2)] h g [.int (nI 6)] h g := by
  refine MS.of okJ0_length_8abf5 (by decide +kernel) (Nat.le_of_ble_eq_true rfl) (by decide) rfl (by decide) ?_
  refine Seg.run [] 400 ?_
  refine Seg.tr (Seg.cT (j := 2) (tJ0_coder_2 h g) mlJ0_335 iyJ0_coder_7d493 seJ0_coder_7d493 oyJ0_coder_7d493 rfl (by decide) (by decide) rfl rfl rfl rfl (Nat.le_of_ble_eq_true rfl) (Nat.le_of_ble_eq_true rfl)) ?_
  refine Seg.run [] 400 ?_
  exact Seg.ri (by decide)
set_option maxRecDepth 100000 in
set_option maxHeartbeats 400000 in
theorem tJ1_charAt_2 (h : aH) (g : aG) (i : Nat) (hi : i < 6) : MS mJ1_charAt_3b067 3 [.ref (200 + 2), .int (nI i)] h g [.int (chJ 2 i)] h g := by
  refine MS.of okJ1_charAt_3b067 (by decide +kernel) (Nat.le_of_ble_eq_true rfl) (by decide) rfl (by decide) ?_
  refine Seg.run [] 400 ?_
  refine Seg.tr (Seg.cS (tJ0_checkIndex h g i 6 hi (by decide)) mlJ1_9 syJ0_checkIndex_df160 oyJ0_checkIndex_df160 rfl (by decide) rfl rfl rfl (Nat.le_of_ble_eq_true rfl) (Nat.le_of_ble_eq_true rfl)) ?_
  refine Seg.run [] 400 ?_
  refine And.intro (in10 (p := i) (n := 6) hi (by decide)) ?_
  refine And.intro (pk_nc _) ?_
  exact Seg.ri (by rw [cl10 (p := i) (by omega)]; exact ch_ok 2 (by decide) i (by omega))
set_option maxRecDepth 100000 in
set_option maxHeartbeats 400000 in
theorem tJ0_charAt_2 (h : aH) (g : aG) (i : Nat) (hi : i < 6) : MS mJ0_charAt_5068e 4 [.ref (100 + 2), .int (nI i)] h g [.int (chJ 2 i)] h g := by
  refine MS.of okJ0_charAt_5068e (by decide +kernel) (Nat.le_of_ble_eq_true rfl) (by decide) rfl (by decide) ?_
  refine Seg.run [] 400 ?_
  refine Seg.tr (Seg.cT (j := 2) (tJ0_isLatin1_2 h g) mlJ0_492 iyJ0_isLatin1_aae02 seJ0_isLatin1_aae02 oyJ0_isLatin1_aae02 rfl (by decide) (by decide) rfl rfl rfl rfl (Nat.le_of_ble_eq_true rfl) (Nat.le_of_ble_eq_true rfl)) ?_
  refine Seg.run [] 400 ?_
  refine And.intro (fun z => absurd z (by decide : ¬ (1 : Int32) = 0)) (fun _ => ?_)
  refine Seg.tr (Seg.cS (tJ1_charAt_2 h g i hi) mlJ0_495 syJ1_charAt_3b067 oyJ1_charAt_3b067 rfl (by decide) rfl rfl rfl (Nat.le_of_ble_eq_true rfl) (Nat.le_of_ble_eq_true rfl)) ?_
  refine Seg.run [] 400 ?_
  exact And.intro (by rw [← ch_ok 2 (by decide) i (by omega)]; exact pk_nc _) Seg.rf
set_option maxRecDepth 100000 in
set_option maxHeartbeats 400000 in
theorem tX1_isWord_2 {h : aH} {g : aG} {n : Nat} {b : Nat → Int32} {s e k v : Nat} (hr : RC h n b s e k v) (x : Int32) (hx : (x = 1 ∧ wdQ b s e k 2) ∨ (x = 0 ∧ ¬ wdQ b s e k 2)) : MS mX1_isWord 5 [.ref 29, .ref (100 + 2)] h g [.int x] h g := by
  obtain ⟨⟨r1, r2⟩, r3, r4, r5, r6, r7⟩ := hr
  have no : ¬ wdQ b s e k 2 → x = 0 := fun y => hx.elim (fun w => absurd w.2 y) (fun w => w.1)
  have yes : wdQ b s e k 2 → x = 1 := fun y => hx.elim (fun w => w.1) (fun w => absurd y w.2)
  have loop : k = 1 → e - s = 6 → ∀ m i, m + i = 6 → (∀ q, q < i → b (s + q) = chJ 2 q) → Seg mX1_isWord 5 (28, [some (.ref 29), some (.ref (100 + 2)), some (.int (nI i))], [], nW, h, g, ρ) (aRET, [], [.int x], nW, h, g, ρ) := by
    intro hk hl m
    induction m with
    | zero =>
      intro i hi hq
      obtain rfl : i = 6 := by omega
      refine Seg.run [] 400 ?_
      refine Seg.tr (Seg.cT (j := 2) (tJ0_length_2 h g) mlX1_68 iyJ0_length_8abf5 seJ0_length_8abf5 oyJ0_length_8abf5 rfl (by decide) (by decide) rfl rfl rfl rfl (Nat.le_of_ble_eq_true rfl) (Nat.le_of_ble_eq_true rfl)) ?_
      refine Seg.run [] 400 ?_
      refine And.intro (fun _ => ?_) (fun z => absurd (nI_le (Nat.le_refl _) (by decide)) z)
      exact And.intro (Or.inr rfl) (Seg.ri (yes ⟨hk, hl, hq⟩).symm)
    | succ m ih =>
      intro i hi hq
      have es : nI s + nI i = nI (s + i) := nI_ad _ _
      refine Seg.run [] 400 ?_
      refine Seg.tr (Seg.cT (j := 2) (tJ0_length_2 h g) mlX1_68 iyJ0_length_8abf5 seJ0_length_8abf5 oyJ0_length_8abf5 rfl (by decide) (by decide) rfl rfl rfl rfl (Nat.le_of_ble_eq_true rfl) (Nat.le_of_ble_eq_true rfl)) ?_
      refine Seg.run [28] 400 ?_
      refine And.intro (fun z => absurd z (nI_ge (by omega) (by decide))) (fun _ => ?_)
      refine And.intro (by rw [r4, es]; exact in10 (by omega) (by decide)) ?_
      rw [r4, es, cl10 (p := s + i) (by omega), r2 (s + i) (by omega)]
      refine Seg.tr (Seg.cT (j := 2) (tJ0_charAt_2 h g i (by omega)) mlX1_73 iyJ0_charAt_5068e seJ0_charAt_5068e oyJ0_charAt_5068e rfl (by decide) (by decide) rfl rfl rfl rfl (Nat.le_of_ble_eq_true rfl) (Nat.le_of_ble_eq_true rfl)) ?_
      refine Seg.run [28] 400 ?_
      refine And.intro (fun z => ?_) (fun z => ?_)
      · refine Seg.tr (Seg.of (b := (28, [some (.ref 29), some (.ref (100 + 2)), some (.int (nI (i + 1)))], [], nW, h, g, ρ)) (by rw [nI_succ i] <;> rfl)) ?_
        refine ih (i + 1) (by omega) (fun q hq2 => ?_)
        by_cases y : q = i
        · subst y; exact z
        · exact hq q (by omega)
      · exact And.intro (Or.inl rfl) (Seg.ri (no (fun w => z (w.2.2 i (show i < 6 by omega)))).symm)
  refine MS.of okX1_isWord (by decide +kernel) (Nat.le_of_ble_eq_true rfl) (by decide) rfl (by decide) ?_
  refine Seg.run [] 400 ?_
  refine And.intro (fun z => ?_) (fun z => ?_)
  · refine And.intro (Or.inl rfl) (Seg.ri (no (fun w => z (by rw [r3, w.1]; rfl))).symm)
  have hk : k = 1 := (nI_eq (by omega) (b := 1) (by decide)).mp (by rw [← r3]; exact Decidable.not_not.mp z)
  have el : h 29 4 - h 29 3 = nI (e - s) := by rw [r5, r4]; exact nI_sb r7.1
  refine Seg.tr (Seg.cT (j := 2) (tJ0_length_2 h g) mlX1_68 iyJ0_length_8abf5 seJ0_length_8abf5 oyJ0_length_8abf5 rfl (by decide) (by decide) rfl rfl rfl rfl (Nat.le_of_ble_eq_true rfl) (Nat.le_of_ble_eq_true rfl)) ?_
  refine Seg.run [28] 400 ?_
  refine And.intro (fun z2 => ?_) (fun z2 => ?_)
  · exact loop hk ((nI_eq (by omega) (b := 6) (by decide)).mp (by rw [← el]; exact z2)) 6 0 rfl (fun q hq => absurd hq (Nat.not_lt_zero _))
  · exact And.intro (Or.inl rfl) (Seg.ri (no (fun w => z2 (show h 29 4 - h 29 3 = nI 6 by rw [el, w.2.1]; rfl))).symm)
set_option maxRecDepth 100000 in
set_option maxHeartbeats 400000 in
theorem tX6_isWord_2 {h : aH} {g : aG} {n : Nat} {b : Nat → Int32} {s e k v : Nat} (hr : RM h n b s e k v) (x : Int32) (hx : (x = 1 ∧ wdQ b s e k 2) ∨ (x = 0 ∧ ¬ wdQ b s e k 2)) : MS mX6_isWord 5 [.ref 63, .ref (100 + 2)] h g [.int x] h g := by
  obtain ⟨⟨r1, r2⟩, r3, r4, r5, r6, r7⟩ := hr
  have no : ¬ wdQ b s e k 2 → x = 0 := fun y => hx.elim (fun w => absurd w.2 y) (fun w => w.1)
  have yes : wdQ b s e k 2 → x = 1 := fun y => hx.elim (fun w => w.1) (fun w => absurd y w.2)
  have stop : ¬ wdQ b s e k 2 → ∀ i, i ≤ 6 → Seg mX6_isWord 5 (32, [some (.ref 63), some (.ref (100 + 2)), some (.int 0), some (.int (nI i))], [], nW, h, g, ρ) (aRET, [], [.int x], nW, h, g, ρ) := by
    intro nw i hi
    refine Seg.run [] 400 ?_
    refine Seg.tr (Seg.cT (j := 2) (tJ0_length_2 h g) mlX6_74 iyJ0_length_8abf5 seJ0_length_8abf5 oyJ0_length_8abf5 rfl (by decide) (by decide) rfl rfl rfl rfl (Nat.le_of_ble_eq_true rfl) (Nat.le_of_ble_eq_true rfl)) ?_
    refine Seg.run [] 400 ?_
    refine And.intro (fun z => ?_) (fun z => ?_)
    · exact And.intro (Or.inl rfl) (Seg.ri (no nw).symm)
    refine And.intro (fun _ => ?_) (fun z => absurd rfl z)
    exact And.intro (Or.inl rfl) (Seg.ri (no nw).symm)
  have loop : k = 1 → e - s = 6 → ∀ m i, m + i = 6 → (∀ q, q < i → b (s + q) = chJ 2 q) → Seg mX6_isWord 5 (32, [some (.ref 63), some (.ref (100 + 2)), some (.int 1), some (.int (nI i))], [], nW, h, g, ρ) (aRET, [], [.int x], nW, h, g, ρ) := by
    intro hk hl m
    induction m with
    | zero =>
      intro i hi hq
      obtain rfl : i = 6 := by omega
      refine Seg.run [] 400 ?_
      refine Seg.tr (Seg.cT (j := 2) (tJ0_length_2 h g) mlX6_74 iyJ0_length_8abf5 seJ0_length_8abf5 oyJ0_length_8abf5 rfl (by decide) (by decide) rfl rfl rfl rfl (Nat.le_of_ble_eq_true rfl) (Nat.le_of_ble_eq_true rfl)) ?_
      refine Seg.run [] 400 ?_
      refine And.intro (fun _ => ?_) (fun z => absurd (nI_le (Nat.le_refl _) (by decide)) z)
      exact And.intro (Or.inr rfl) (Seg.ri (yes ⟨hk, hl, hq⟩).symm)
    | succ m ih =>
      intro i hi hq
      have es : nI s + nI i = nI (s + i) := nI_ad _ _
      refine Seg.run [] 400 ?_
      refine Seg.tr (Seg.cT (j := 2) (tJ0_length_2 h g) mlX6_74 iyJ0_length_8abf5 seJ0_length_8abf5 oyJ0_length_8abf5 rfl (by decide) (by decide) rfl rfl rfl rfl (Nat.le_of_ble_eq_true rfl) (Nat.le_of_ble_eq_true rfl)) ?_
      refine Seg.run [32] 400 ?_
      refine And.intro (fun z => absurd z (nI_ge (by omega) (by decide))) (fun _ => ?_)
      refine And.intro (fun z => absurd z (by decide : ¬ (1 : Int32) = 0)) (fun _ => ?_)
      refine And.intro (by rw [r4, es]; exact in10 (by omega) (by decide)) ?_
      rw [r4, es, cl10 (p := s + i) (by omega), r2 (s + i) (by omega)]
      refine Seg.tr (Seg.cT (j := 2) (tJ0_charAt_2 h g i (by omega)) mlX6_80 iyJ0_charAt_5068e seJ0_charAt_5068e oyJ0_charAt_5068e rfl (by decide) (by decide) rfl rfl rfl rfl (Nat.le_of_ble_eq_true rfl) (Nat.le_of_ble_eq_true rfl)) ?_
      refine Seg.run [32] 400 ?_
      refine And.intro (fun z => ?_) (fun z => ?_)
      · refine Seg.tr (Seg.of (b := (32, [some (.ref 63), some (.ref (100 + 2)), some (.int 0), some (.int (nI (i + 1)))], [], nW, h, g, ρ)) (by rw [nI_succ i] <;> rfl)) ?_
        exact stop (fun w => z (w.2.2 i (show i < 6 by omega))) (i + 1) (by omega)
      · refine Seg.tr (Seg.of (b := (32, [some (.ref 63), some (.ref (100 + 2)), some (.int 1), some (.int (nI (i + 1)))], [], nW, h, g, ρ)) (by rw [nI_succ i] <;> rfl)) ?_
        refine ih (i + 1) (by omega) (fun q hq2 => ?_)
        by_cases y : q = i
        · subst y; exact Decidable.not_not.mp z
        · exact hq q (by omega)
  refine MS.of okX6_isWord (by decide +kernel) (Nat.le_of_ble_eq_true rfl) (by decide) rfl (by decide) ?_
  refine Seg.run [32] 400 ?_
  refine And.intro (fun z => ?_) (fun z => ?_)
  · exact stop (fun w => z (by rw [r3, w.1]; rfl)) 0 (Nat.zero_le _)
  have hk : k = 1 := (nI_eq (by omega) (b := 1) (by decide)).mp (by rw [← r3]; exact Decidable.not_not.mp z)
  have el : h 63 7 - h 63 9 = nI (e - s) := by rw [r5, r4]; exact nI_sb r7.1
  refine Seg.tr (Seg.cT (j := 2) (tJ0_length_2 h g) mlX6_74 iyJ0_length_8abf5 seJ0_length_8abf5 oyJ0_length_8abf5 rfl (by decide) (by decide) rfl rfl rfl rfl (Nat.le_of_ble_eq_true rfl) (Nat.le_of_ble_eq_true rfl)) ?_
  refine Seg.run [32] 400 ?_
  refine And.intro (fun z2 => ?_) (fun z2 => ?_)
  · exact stop (fun w => z2 (show h 63 7 - h 63 9 = nI 6 by rw [el, w.2.1]; rfl)) 0 (Nat.zero_le _)
  · exact loop hk ((nI_eq (by omega) (b := 6) (by decide)).mp (by rw [← el]; exact Decidable.not_not.mp z2)) 6 0 rfl (fun q hq => absurd hq (Nat.not_lt_zero _))
set_option maxRecDepth 100000 in
set_option maxHeartbeats 400000 in
theorem tJ0_coder_3 (h : aH) (g : aG) : MS mJ0_coder_7d493 1 [.ref (100 + 3)] h g [.int 0] h g := by
  refine MS.of okJ0_coder_7d493 (by decide +kernel) (Nat.le_of_ble_eq_true rfl) (by decide) rfl (by decide) ?_
  refine Seg.run [] 400 ?_
  refine And.intro (fun z => absurd z (by decide : ¬ (1 : Int32) = 0)) (fun _ => ?_)
  exact And.intro rfl Seg.rf
set_option maxRecDepth 100000 in
set_option maxHeartbeats 400000 in
theorem tJ0_isLatin1_3 (h : aH) (g : aG) : MS mJ0_isLatin1_aae02 1 [.ref (100 + 3)] h g [.int 1] h g := by
  refine MS.of okJ0_isLatin1_aae02 (by decide +kernel) (Nat.le_of_ble_eq_true rfl) (by decide) rfl (by decide) ?_
  refine Seg.run [] 400 ?_
  refine And.intro (fun z => absurd z (by decide : ¬ (1 : Int32) = 0)) (fun _ => ?_)
  refine And.intro (fun z => absurd rfl z) (fun _ => ?_)
  exact And.intro (Or.inr rfl) Seg.rf
set_option maxRecDepth 100000 in
set_option maxHeartbeats 400000 in
theorem tJ0_length_3 (h : aH) (g : aG) : MS mJ0_length_8abf5 2 [.ref (100 + 3)] h g [.int (nI 4)] h g := by
  refine MS.of okJ0_length_8abf5 (by decide +kernel) (Nat.le_of_ble_eq_true rfl) (by decide) rfl (by decide) ?_
  refine Seg.run [] 400 ?_
  refine Seg.tr (Seg.cT (j := 3) (tJ0_coder_3 h g) mlJ0_335 iyJ0_coder_7d493 seJ0_coder_7d493 oyJ0_coder_7d493 rfl (by decide) (by decide) rfl rfl rfl rfl (Nat.le_of_ble_eq_true rfl) (Nat.le_of_ble_eq_true rfl)) ?_
  refine Seg.run [] 400 ?_
  exact Seg.ri (by decide)
set_option maxRecDepth 100000 in
set_option maxHeartbeats 400000 in
theorem tJ1_charAt_3 (h : aH) (g : aG) (i : Nat) (hi : i < 4) : MS mJ1_charAt_3b067 3 [.ref (200 + 3), .int (nI i)] h g [.int (chJ 3 i)] h g := by
  refine MS.of okJ1_charAt_3b067 (by decide +kernel) (Nat.le_of_ble_eq_true rfl) (by decide) rfl (by decide) ?_
  refine Seg.run [] 400 ?_
  refine Seg.tr (Seg.cS (tJ0_checkIndex h g i 4 hi (by decide)) mlJ1_9 syJ0_checkIndex_df160 oyJ0_checkIndex_df160 rfl (by decide) rfl rfl rfl (Nat.le_of_ble_eq_true rfl) (Nat.le_of_ble_eq_true rfl)) ?_
  refine Seg.run [] 400 ?_
  refine And.intro (in10 (p := i) (n := 4) hi (by decide)) ?_
  refine And.intro (pk_nc _) ?_
  exact Seg.ri (by rw [cl10 (p := i) (by omega)]; exact ch_ok 3 (by decide) i (by omega))
set_option maxRecDepth 100000 in
set_option maxHeartbeats 400000 in
theorem tJ0_charAt_3 (h : aH) (g : aG) (i : Nat) (hi : i < 4) : MS mJ0_charAt_5068e 4 [.ref (100 + 3), .int (nI i)] h g [.int (chJ 3 i)] h g := by
  refine MS.of okJ0_charAt_5068e (by decide +kernel) (Nat.le_of_ble_eq_true rfl) (by decide) rfl (by decide) ?_
  refine Seg.run [] 400 ?_
  refine Seg.tr (Seg.cT (j := 3) (tJ0_isLatin1_3 h g) mlJ0_492 iyJ0_isLatin1_aae02 seJ0_isLatin1_aae02 oyJ0_isLatin1_aae02 rfl (by decide) (by decide) rfl rfl rfl rfl (Nat.le_of_ble_eq_true rfl) (Nat.le_of_ble_eq_true rfl)) ?_
  refine Seg.run [] 400 ?_
  refine And.intro (fun z => absurd z (by decide : ¬ (1 : Int32) = 0)) (fun _ => ?_)
  refine Seg.tr (Seg.cS (tJ1_charAt_3 h g i hi) mlJ0_495 syJ1_charAt_3b067 oyJ1_charAt_3b067 rfl (by decide) rfl rfl rfl (Nat.le_of_ble_eq_true rfl) (Nat.le_of_ble_eq_true rfl)) ?_
  refine Seg.run [] 400 ?_
  exact And.intro (by rw [← ch_ok 3 (by decide) i (by omega)]; exact pk_nc _) Seg.rf
set_option maxRecDepth 100000 in
set_option maxHeartbeats 400000 in
theorem tX1_isWord_3 {h : aH} {g : aG} {n : Nat} {b : Nat → Int32} {s e k v : Nat} (hr : RC h n b s e k v) (x : Int32) (hx : (x = 1 ∧ wdQ b s e k 3) ∨ (x = 0 ∧ ¬ wdQ b s e k 3)) : MS mX1_isWord 5 [.ref 29, .ref (100 + 3)] h g [.int x] h g := by
  obtain ⟨⟨r1, r2⟩, r3, r4, r5, r6, r7⟩ := hr
  have no : ¬ wdQ b s e k 3 → x = 0 := fun y => hx.elim (fun w => absurd w.2 y) (fun w => w.1)
  have yes : wdQ b s e k 3 → x = 1 := fun y => hx.elim (fun w => w.1) (fun w => absurd y w.2)
  have loop : k = 1 → e - s = 4 → ∀ m i, m + i = 4 → (∀ q, q < i → b (s + q) = chJ 3 q) → Seg mX1_isWord 5 (28, [some (.ref 29), some (.ref (100 + 3)), some (.int (nI i))], [], nW, h, g, ρ) (aRET, [], [.int x], nW, h, g, ρ) := by
    intro hk hl m
    induction m with
    | zero =>
      intro i hi hq
      obtain rfl : i = 4 := by omega
      refine Seg.run [] 400 ?_
      refine Seg.tr (Seg.cT (j := 3) (tJ0_length_3 h g) mlX1_68 iyJ0_length_8abf5 seJ0_length_8abf5 oyJ0_length_8abf5 rfl (by decide) (by decide) rfl rfl rfl rfl (Nat.le_of_ble_eq_true rfl) (Nat.le_of_ble_eq_true rfl)) ?_
      refine Seg.run [] 400 ?_
      refine And.intro (fun _ => ?_) (fun z => absurd (nI_le (Nat.le_refl _) (by decide)) z)
      exact And.intro (Or.inr rfl) (Seg.ri (yes ⟨hk, hl, hq⟩).symm)
    | succ m ih =>
      intro i hi hq
      have es : nI s + nI i = nI (s + i) := nI_ad _ _
      refine Seg.run [] 400 ?_
      refine Seg.tr (Seg.cT (j := 3) (tJ0_length_3 h g) mlX1_68 iyJ0_length_8abf5 seJ0_length_8abf5 oyJ0_length_8abf5 rfl (by decide) (by decide) rfl rfl rfl rfl (Nat.le_of_ble_eq_true rfl) (Nat.le_of_ble_eq_true rfl)) ?_
      refine Seg.run [28] 400 ?_
      refine And.intro (fun z => absurd z (nI_ge (by omega) (by decide))) (fun _ => ?_)
      refine And.intro (by rw [r4, es]; exact in10 (by omega) (by decide)) ?_
      rw [r4, es, cl10 (p := s + i) (by omega), r2 (s + i) (by omega)]
      refine Seg.tr (Seg.cT (j := 3) (tJ0_charAt_3 h g i (by omega)) mlX1_73 iyJ0_charAt_5068e seJ0_charAt_5068e oyJ0_charAt_5068e rfl (by decide) (by decide) rfl rfl rfl rfl (Nat.le_of_ble_eq_true rfl) (Nat.le_of_ble_eq_true rfl)) ?_
      refine Seg.run [28] 400 ?_
      refine And.intro (fun z => ?_) (fun z => ?_)
      · refine Seg.tr (Seg.of (b := (28, [some (.ref 29), some (.ref (100 + 3)), some (.int (nI (i + 1)))], [], nW, h, g, ρ)) (by rw [nI_succ i] <;> rfl)) ?_
        refine ih (i + 1) (by omega) (fun q hq2 => ?_)
        by_cases y : q = i
        · subst y; exact z
        · exact hq q (by omega)
      · exact And.intro (Or.inl rfl) (Seg.ri (no (fun w => z (w.2.2 i (show i < 4 by omega)))).symm)
  refine MS.of okX1_isWord (by decide +kernel) (Nat.le_of_ble_eq_true rfl) (by decide) rfl (by decide) ?_
  refine Seg.run [] 400 ?_
  refine And.intro (fun z => ?_) (fun z => ?_)
  · refine And.intro (Or.inl rfl) (Seg.ri (no (fun w => z (by rw [r3, w.1]; rfl))).symm)
  have hk : k = 1 := (nI_eq (by omega) (b := 1) (by decide)).mp (by rw [← r3]; exact Decidable.not_not.mp z)
  have el : h 29 4 - h 29 3 = nI (e - s) := by rw [r5, r4]; exact nI_sb r7.1
  refine Seg.tr (Seg.cT (j := 3) (tJ0_length_3 h g) mlX1_68 iyJ0_length_8abf5 seJ0_length_8abf5 oyJ0_length_8abf5 rfl (by decide) (by decide) rfl rfl rfl rfl (Nat.le_of_ble_eq_true rfl) (Nat.le_of_ble_eq_true rfl)) ?_
  refine Seg.run [28] 400 ?_
  refine And.intro (fun z2 => ?_) (fun z2 => ?_)
  · exact loop hk ((nI_eq (by omega) (b := 4) (by decide)).mp (by rw [← el]; exact z2)) 4 0 rfl (fun q hq => absurd hq (Nat.not_lt_zero _))
  · exact And.intro (Or.inl rfl) (Seg.ri (no (fun w => z2 (show h 29 4 - h 29 3 = nI 4 by rw [el, w.2.1]; rfl))).symm)
set_option maxRecDepth 100000 in
set_option maxHeartbeats 400000 in
theorem tX6_isWord_3 {h : aH} {g : aG} {n : Nat} {b : Nat → Int32} {s e k v : Nat} (hr : RM h n b s e k v) (x : Int32) (hx : (x = 1 ∧ wdQ b s e k 3) ∨ (x = 0 ∧ ¬ wdQ b s e k 3)) : MS mX6_isWord 5 [.ref 63, .ref (100 + 3)] h g [.int x] h g := by
  obtain ⟨⟨r1, r2⟩, r3, r4, r5, r6, r7⟩ := hr
  have no : ¬ wdQ b s e k 3 → x = 0 := fun y => hx.elim (fun w => absurd w.2 y) (fun w => w.1)
  have yes : wdQ b s e k 3 → x = 1 := fun y => hx.elim (fun w => w.1) (fun w => absurd y w.2)
  have stop : ¬ wdQ b s e k 3 → ∀ i, i ≤ 4 → Seg mX6_isWord 5 (32, [some (.ref 63), some (.ref (100 + 3)), some (.int 0), some (.int (nI i))], [], nW, h, g, ρ) (aRET, [], [.int x], nW, h, g, ρ) := by
    intro nw i hi
    refine Seg.run [] 400 ?_
    refine Seg.tr (Seg.cT (j := 3) (tJ0_length_3 h g) mlX6_74 iyJ0_length_8abf5 seJ0_length_8abf5 oyJ0_length_8abf5 rfl (by decide) (by decide) rfl rfl rfl rfl (Nat.le_of_ble_eq_true rfl) (Nat.le_of_ble_eq_true rfl)) ?_
    refine Seg.run [] 400 ?_
    refine And.intro (fun z => ?_) (fun z => ?_)
    · exact And.intro (Or.inl rfl) (Seg.ri (no nw).symm)
    refine And.intro (fun _ => ?_) (fun z => absurd rfl z)
    exact And.intro (Or.inl rfl) (Seg.ri (no nw).symm)
  have loop : k = 1 → e - s = 4 → ∀ m i, m + i = 4 → (∀ q, q < i → b (s + q) = chJ 3 q) → Seg mX6_isWord 5 (32, [some (.ref 63), some (.ref (100 + 3)), some (.int 1), some (.int (nI i))], [], nW, h, g, ρ) (aRET, [], [.int x], nW, h, g, ρ) := by
    intro hk hl m
    induction m with
    | zero =>
      intro i hi hq
      obtain rfl : i = 4 := by omega
      refine Seg.run [] 400 ?_
      refine Seg.tr (Seg.cT (j := 3) (tJ0_length_3 h g) mlX6_74 iyJ0_length_8abf5 seJ0_length_8abf5 oyJ0_length_8abf5 rfl (by decide) (by decide) rfl rfl rfl rfl (Nat.le_of_ble_eq_true rfl) (Nat.le_of_ble_eq_true rfl)) ?_
      refine Seg.run [] 400 ?_
      refine And.intro (fun _ => ?_) (fun z => absurd (nI_le (Nat.le_refl _) (by decide)) z)
      exact And.intro (Or.inr rfl) (Seg.ri (yes ⟨hk, hl, hq⟩).symm)
    | succ m ih =>
      intro i hi hq
      have es : nI s + nI i = nI (s + i) := nI_ad _ _
      refine Seg.run [] 400 ?_
      refine Seg.tr (Seg.cT (j := 3) (tJ0_length_3 h g) mlX6_74 iyJ0_length_8abf5 seJ0_length_8abf5 oyJ0_length_8abf5 rfl (by decide) (by decide) rfl rfl rfl rfl (Nat.le_of_ble_eq_true rfl) (Nat.le_of_ble_eq_true rfl)) ?_
      refine Seg.run [32] 400 ?_
      refine And.intro (fun z => absurd z (nI_ge (by omega) (by decide))) (fun _ => ?_)
      refine And.intro (fun z => absurd z (by decide : ¬ (1 : Int32) = 0)) (fun _ => ?_)
      refine And.intro (by rw [r4, es]; exact in10 (by omega) (by decide)) ?_
      rw [r4, es, cl10 (p := s + i) (by omega), r2 (s + i) (by omega)]
      refine Seg.tr (Seg.cT (j := 3) (tJ0_charAt_3 h g i (by omega)) mlX6_80 iyJ0_charAt_5068e seJ0_charAt_5068e oyJ0_charAt_5068e rfl (by decide) (by decide) rfl rfl rfl rfl (Nat.le_of_ble_eq_true rfl) (Nat.le_of_ble_eq_true rfl)) ?_
      refine Seg.run [32] 400 ?_
      refine And.intro (fun z => ?_) (fun z => ?_)
      · refine Seg.tr (Seg.of (b := (32, [some (.ref 63), some (.ref (100 + 3)), some (.int 0), some (.int (nI (i + 1)))], [], nW, h, g, ρ)) (by rw [nI_succ i] <;> rfl)) ?_
        exact stop (fun w => z (w.2.2 i (show i < 4 by omega))) (i + 1) (by omega)
      · refine Seg.tr (Seg.of (b := (32, [some (.ref 63), some (.ref (100 + 3)), some (.int 1), some (.int (nI (i + 1)))], [], nW, h, g, ρ)) (by rw [nI_succ i] <;> rfl)) ?_
        refine ih (i + 1) (by omega) (fun q hq2 => ?_)
        by_cases y : q = i
        · subst y; exact Decidable.not_not.mp z
        · exact hq q (by omega)
  refine MS.of okX6_isWord (by decide +kernel) (Nat.le_of_ble_eq_true rfl) (by decide) rfl (by decide) ?_
  refine Seg.run [32] 400 ?_
  refine And.intro (fun z => ?_) (fun z => ?_)
  · exact stop (fun w => z (by rw [r3, w.1]; rfl)) 0 (Nat.zero_le _)
  have hk : k = 1 := (nI_eq (by omega) (b := 1) (by decide)).mp (by rw [← r3]; exact Decidable.not_not.mp z)
  have el : h 63 7 - h 63 9 = nI (e - s) := by rw [r5, r4]; exact nI_sb r7.1
  refine Seg.tr (Seg.cT (j := 3) (tJ0_length_3 h g) mlX6_74 iyJ0_length_8abf5 seJ0_length_8abf5 oyJ0_length_8abf5 rfl (by decide) (by decide) rfl rfl rfl rfl (Nat.le_of_ble_eq_true rfl) (Nat.le_of_ble_eq_true rfl)) ?_
  refine Seg.run [32] 400 ?_
  refine And.intro (fun z2 => ?_) (fun z2 => ?_)
  · exact stop (fun w => z2 (show h 63 7 - h 63 9 = nI 4 by rw [el, w.2.1]; rfl)) 0 (Nat.zero_le _)
  · exact loop hk ((nI_eq (by omega) (b := 4) (by decide)).mp (by rw [← el]; exact Decidable.not_not.mp z2)) 4 0 rfl (fun q hq => absurd hq (Nat.not_lt_zero _))
set_option maxRecDepth 100000 in
set_option maxHeartbeats 400000 in
theorem tJ0_coder_4 (h : aH) (g : aG) : MS mJ0_coder_7d493 1 [.ref (100 + 4)] h g [.int 0] h g := by
  refine MS.of okJ0_coder_7d493 (by decide +kernel) (Nat.le_of_ble_eq_true rfl) (by decide) rfl (by decide) ?_
  refine Seg.run [] 400 ?_
  refine And.intro (fun z => absurd z (by decide : ¬ (1 : Int32) = 0)) (fun _ => ?_)
  exact And.intro rfl Seg.rf
set_option maxRecDepth 100000 in
set_option maxHeartbeats 400000 in
theorem tJ0_isLatin1_4 (h : aH) (g : aG) : MS mJ0_isLatin1_aae02 1 [.ref (100 + 4)] h g [.int 1] h g := by
  refine MS.of okJ0_isLatin1_aae02 (by decide +kernel) (Nat.le_of_ble_eq_true rfl) (by decide) rfl (by decide) ?_
  refine Seg.run [] 400 ?_
  refine And.intro (fun z => absurd z (by decide : ¬ (1 : Int32) = 0)) (fun _ => ?_)
  refine And.intro (fun z => absurd rfl z) (fun _ => ?_)
  exact And.intro (Or.inr rfl) Seg.rf
set_option maxRecDepth 100000 in
set_option maxHeartbeats 400000 in
theorem tJ0_length_4 (h : aH) (g : aG) : MS mJ0_length_8abf5 2 [.ref (100 + 4)] h g [.int (nI 5)] h g := by
  refine MS.of okJ0_length_8abf5 (by decide +kernel) (Nat.le_of_ble_eq_true rfl) (by decide) rfl (by decide) ?_
  refine Seg.run [] 400 ?_
  refine Seg.tr (Seg.cT (j := 4) (tJ0_coder_4 h g) mlJ0_335 iyJ0_coder_7d493 seJ0_coder_7d493 oyJ0_coder_7d493 rfl (by decide) (by decide) rfl rfl rfl rfl (Nat.le_of_ble_eq_true rfl) (Nat.le_of_ble_eq_true rfl)) ?_
  refine Seg.run [] 400 ?_
  exact Seg.ri (by decide)
set_option maxRecDepth 100000 in
set_option maxHeartbeats 400000 in
theorem tJ1_charAt_4 (h : aH) (g : aG) (i : Nat) (hi : i < 5) : MS mJ1_charAt_3b067 3 [.ref (200 + 4), .int (nI i)] h g [.int (chJ 4 i)] h g := by
  refine MS.of okJ1_charAt_3b067 (by decide +kernel) (Nat.le_of_ble_eq_true rfl) (by decide) rfl (by decide) ?_
  refine Seg.run [] 400 ?_
  refine Seg.tr (Seg.cS (tJ0_checkIndex h g i 5 hi (by decide)) mlJ1_9 syJ0_checkIndex_df160 oyJ0_checkIndex_df160 rfl (by decide) rfl rfl rfl (Nat.le_of_ble_eq_true rfl) (Nat.le_of_ble_eq_true rfl)) ?_
  refine Seg.run [] 400 ?_
  refine And.intro (in10 (p := i) (n := 5) hi (by decide)) ?_
  refine And.intro (pk_nc _) ?_
  exact Seg.ri (by rw [cl10 (p := i) (by omega)]; exact ch_ok 4 (by decide) i (by omega))
set_option maxRecDepth 100000 in
set_option maxHeartbeats 400000 in
theorem tJ0_charAt_4 (h : aH) (g : aG) (i : Nat) (hi : i < 5) : MS mJ0_charAt_5068e 4 [.ref (100 + 4), .int (nI i)] h g [.int (chJ 4 i)] h g := by
  refine MS.of okJ0_charAt_5068e (by decide +kernel) (Nat.le_of_ble_eq_true rfl) (by decide) rfl (by decide) ?_
  refine Seg.run [] 400 ?_
  refine Seg.tr (Seg.cT (j := 4) (tJ0_isLatin1_4 h g) mlJ0_492 iyJ0_isLatin1_aae02 seJ0_isLatin1_aae02 oyJ0_isLatin1_aae02 rfl (by decide) (by decide) rfl rfl rfl rfl (Nat.le_of_ble_eq_true rfl) (Nat.le_of_ble_eq_true rfl)) ?_
  refine Seg.run [] 400 ?_
  refine And.intro (fun z => absurd z (by decide : ¬ (1 : Int32) = 0)) (fun _ => ?_)
  refine Seg.tr (Seg.cS (tJ1_charAt_4 h g i hi) mlJ0_495 syJ1_charAt_3b067 oyJ1_charAt_3b067 rfl (by decide) rfl rfl rfl (Nat.le_of_ble_eq_true rfl) (Nat.le_of_ble_eq_true rfl)) ?_
  refine Seg.run [] 400 ?_
  exact And.intro (by rw [← ch_ok 4 (by decide) i (by omega)]; exact pk_nc _) Seg.rf
set_option maxRecDepth 100000 in
set_option maxHeartbeats 400000 in
theorem tX1_isWord_4 {h : aH} {g : aG} {n : Nat} {b : Nat → Int32} {s e k v : Nat} (hr : RC h n b s e k v) (x : Int32) (hx : (x = 1 ∧ wdQ b s e k 4) ∨ (x = 0 ∧ ¬ wdQ b s e k 4)) : MS mX1_isWord 5 [.ref 29, .ref (100 + 4)] h g [.int x] h g := by
  obtain ⟨⟨r1, r2⟩, r3, r4, r5, r6, r7⟩ := hr
  have no : ¬ wdQ b s e k 4 → x = 0 := fun y => hx.elim (fun w => absurd w.2 y) (fun w => w.1)
  have yes : wdQ b s e k 4 → x = 1 := fun y => hx.elim (fun w => w.1) (fun w => absurd y w.2)
  have loop : k = 1 → e - s = 5 → ∀ m i, m + i = 5 → (∀ q, q < i → b (s + q) = chJ 4 q) → Seg mX1_isWord 5 (28, [some (.ref 29), some (.ref (100 + 4)), some (.int (nI i))], [], nW, h, g, ρ) (aRET, [], [.int x], nW, h, g, ρ) := by
    intro hk hl m
    induction m with
    | zero =>
      intro i hi hq
      obtain rfl : i = 5 := by omega
      refine Seg.run [] 400 ?_
      refine Seg.tr (Seg.cT (j := 4) (tJ0_length_4 h g) mlX1_68 iyJ0_length_8abf5 seJ0_length_8abf5 oyJ0_length_8abf5 rfl (by decide) (by decide) rfl rfl rfl rfl (Nat.le_of_ble_eq_true rfl) (Nat.le_of_ble_eq_true rfl)) ?_
      refine Seg.run [] 400 ?_
      refine And.intro (fun _ => ?_) (fun z => absurd (nI_le (Nat.le_refl _) (by decide)) z)
      exact And.intro (Or.inr rfl) (Seg.ri (yes ⟨hk, hl, hq⟩).symm)
    | succ m ih =>
      intro i hi hq
      have es : nI s + nI i = nI (s + i) := nI_ad _ _
      refine Seg.run [] 400 ?_
      refine Seg.tr (Seg.cT (j := 4) (tJ0_length_4 h g) mlX1_68 iyJ0_length_8abf5 seJ0_length_8abf5 oyJ0_length_8abf5 rfl (by decide) (by decide) rfl rfl rfl rfl (Nat.le_of_ble_eq_true rfl) (Nat.le_of_ble_eq_true rfl)) ?_
      refine Seg.run [28] 400 ?_
      refine And.intro (fun z => absurd z (nI_ge (by omega) (by decide))) (fun _ => ?_)
      refine And.intro (by rw [r4, es]; exact in10 (by omega) (by decide)) ?_
      rw [r4, es, cl10 (p := s + i) (by omega), r2 (s + i) (by omega)]
      refine Seg.tr (Seg.cT (j := 4) (tJ0_charAt_4 h g i (by omega)) mlX1_73 iyJ0_charAt_5068e seJ0_charAt_5068e oyJ0_charAt_5068e rfl (by decide) (by decide) rfl rfl rfl rfl (Nat.le_of_ble_eq_true rfl) (Nat.le_of_ble_eq_true rfl)) ?_
      refine Seg.run [28] 400 ?_
      refine And.intro (fun z => ?_) (fun z => ?_)
      · refine Seg.tr (Seg.of (b := (28, [some (.ref 29), some (.ref (100 + 4)), some (.int (nI (i + 1)))], [], nW, h, g, ρ)) (by rw [nI_succ i] <;> rfl)) ?_
        refine ih (i + 1) (by omega) (fun q hq2 => ?_)
        by_cases y : q = i
        · subst y; exact z
        · exact hq q (by omega)
      · exact And.intro (Or.inl rfl) (Seg.ri (no (fun w => z (w.2.2 i (show i < 5 by omega)))).symm)
  refine MS.of okX1_isWord (by decide +kernel) (Nat.le_of_ble_eq_true rfl) (by decide) rfl (by decide) ?_
  refine Seg.run [] 400 ?_
  refine And.intro (fun z => ?_) (fun z => ?_)
  · refine And.intro (Or.inl rfl) (Seg.ri (no (fun w => z (by rw [r3, w.1]; rfl))).symm)
  have hk : k = 1 := (nI_eq (by omega) (b := 1) (by decide)).mp (by rw [← r3]; exact Decidable.not_not.mp z)
  have el : h 29 4 - h 29 3 = nI (e - s) := by rw [r5, r4]; exact nI_sb r7.1
  refine Seg.tr (Seg.cT (j := 4) (tJ0_length_4 h g) mlX1_68 iyJ0_length_8abf5 seJ0_length_8abf5 oyJ0_length_8abf5 rfl (by decide) (by decide) rfl rfl rfl rfl (Nat.le_of_ble_eq_true rfl) (Nat.le_of_ble_eq_true rfl)) ?_
  refine Seg.run [28] 400 ?_
  refine And.intro (fun z2 => ?_) (fun z2 => ?_)
  · exact loop hk ((nI_eq (by omega) (b := 5) (by decide)).mp (by rw [← el]; exact z2)) 5 0 rfl (fun q hq => absurd hq (Nat.not_lt_zero _))
  · exact And.intro (Or.inl rfl) (Seg.ri (no (fun w => z2 (show h 29 4 - h 29 3 = nI 5 by rw [el, w.2.1]; rfl))).symm)
set_option maxRecDepth 100000 in
set_option maxHeartbeats 400000 in
theorem tX6_isWord_4 {h : aH} {g : aG} {n : Nat} {b : Nat → Int32} {s e k v : Nat} (hr : RM h n b s e k v) (x : Int32) (hx : (x = 1 ∧ wdQ b s e k 4) ∨ (x = 0 ∧ ¬ wdQ b s e k 4)) : MS mX6_isWord 5 [.ref 63, .ref (100 + 4)] h g [.int x] h g := by
  obtain ⟨⟨r1, r2⟩, r3, r4, r5, r6, r7⟩ := hr
  have no : ¬ wdQ b s e k 4 → x = 0 := fun y => hx.elim (fun w => absurd w.2 y) (fun w => w.1)
  have yes : wdQ b s e k 4 → x = 1 := fun y => hx.elim (fun w => w.1) (fun w => absurd y w.2)
  have stop : ¬ wdQ b s e k 4 → ∀ i, i ≤ 5 → Seg mX6_isWord 5 (32, [some (.ref 63), some (.ref (100 + 4)), some (.int 0), some (.int (nI i))], [], nW, h, g, ρ) (aRET, [], [.int x], nW, h, g, ρ) := by
    intro nw i hi
    refine Seg.run [] 400 ?_
    refine Seg.tr (Seg.cT (j := 4) (tJ0_length_4 h g) mlX6_74 iyJ0_length_8abf5 seJ0_length_8abf5 oyJ0_length_8abf5 rfl (by decide) (by decide) rfl rfl rfl rfl (Nat.le_of_ble_eq_true rfl) (Nat.le_of_ble_eq_true rfl)) ?_
    refine Seg.run [] 400 ?_
    refine And.intro (fun z => ?_) (fun z => ?_)
    · exact And.intro (Or.inl rfl) (Seg.ri (no nw).symm)
    refine And.intro (fun _ => ?_) (fun z => absurd rfl z)
    exact And.intro (Or.inl rfl) (Seg.ri (no nw).symm)
  have loop : k = 1 → e - s = 5 → ∀ m i, m + i = 5 → (∀ q, q < i → b (s + q) = chJ 4 q) → Seg mX6_isWord 5 (32, [some (.ref 63), some (.ref (100 + 4)), some (.int 1), some (.int (nI i))], [], nW, h, g, ρ) (aRET, [], [.int x], nW, h, g, ρ) := by
    intro hk hl m
    induction m with
    | zero =>
      intro i hi hq
      obtain rfl : i = 5 := by omega
      refine Seg.run [] 400 ?_
      refine Seg.tr (Seg.cT (j := 4) (tJ0_length_4 h g) mlX6_74 iyJ0_length_8abf5 seJ0_length_8abf5 oyJ0_length_8abf5 rfl (by decide) (by decide) rfl rfl rfl rfl (Nat.le_of_ble_eq_true rfl) (Nat.le_of_ble_eq_true rfl)) ?_
      refine Seg.run [] 400 ?_
      refine And.intro (fun _ => ?_) (fun z => absurd (nI_le (Nat.le_refl _) (by decide)) z)
      exact And.intro (Or.inr rfl) (Seg.ri (yes ⟨hk, hl, hq⟩).symm)
    | succ m ih =>
      intro i hi hq
      have es : nI s + nI i = nI (s + i) := nI_ad _ _
      refine Seg.run [] 400 ?_
      refine Seg.tr (Seg.cT (j := 4) (tJ0_length_4 h g) mlX6_74 iyJ0_length_8abf5 seJ0_length_8abf5 oyJ0_length_8abf5 rfl (by decide) (by decide) rfl rfl rfl rfl (Nat.le_of_ble_eq_true rfl) (Nat.le_of_ble_eq_true rfl)) ?_
      refine Seg.run [32] 400 ?_
      refine And.intro (fun z => absurd z (nI_ge (by omega) (by decide))) (fun _ => ?_)
      refine And.intro (fun z => absurd z (by decide : ¬ (1 : Int32) = 0)) (fun _ => ?_)
      refine And.intro (by rw [r4, es]; exact in10 (by omega) (by decide)) ?_
      rw [r4, es, cl10 (p := s + i) (by omega), r2 (s + i) (by omega)]
      refine Seg.tr (Seg.cT (j := 4) (tJ0_charAt_4 h g i (by omega)) mlX6_80 iyJ0_charAt_5068e seJ0_charAt_5068e oyJ0_charAt_5068e rfl (by decide) (by decide) rfl rfl rfl rfl (Nat.le_of_ble_eq_true rfl) (Nat.le_of_ble_eq_true rfl)) ?_
      refine Seg.run [32] 400 ?_
      refine And.intro (fun z => ?_) (fun z => ?_)
      · refine Seg.tr (Seg.of (b := (32, [some (.ref 63), some (.ref (100 + 4)), some (.int 0), some (.int (nI (i + 1)))], [], nW, h, g, ρ)) (by rw [nI_succ i] <;> rfl)) ?_
        exact stop (fun w => z (w.2.2 i (show i < 5 by omega))) (i + 1) (by omega)
      · refine Seg.tr (Seg.of (b := (32, [some (.ref 63), some (.ref (100 + 4)), some (.int 1), some (.int (nI (i + 1)))], [], nW, h, g, ρ)) (by rw [nI_succ i] <;> rfl)) ?_
        refine ih (i + 1) (by omega) (fun q hq2 => ?_)
        by_cases y : q = i
        · subst y; exact Decidable.not_not.mp z
        · exact hq q (by omega)
  refine MS.of okX6_isWord (by decide +kernel) (Nat.le_of_ble_eq_true rfl) (by decide) rfl (by decide) ?_
  refine Seg.run [32] 400 ?_
  refine And.intro (fun z => ?_) (fun z => ?_)
  · exact stop (fun w => z (by rw [r3, w.1]; rfl)) 0 (Nat.zero_le _)
  have hk : k = 1 := (nI_eq (by omega) (b := 1) (by decide)).mp (by rw [← r3]; exact Decidable.not_not.mp z)
  have el : h 63 7 - h 63 9 = nI (e - s) := by rw [r5, r4]; exact nI_sb r7.1
  refine Seg.tr (Seg.cT (j := 4) (tJ0_length_4 h g) mlX6_74 iyJ0_length_8abf5 seJ0_length_8abf5 oyJ0_length_8abf5 rfl (by decide) (by decide) rfl rfl rfl rfl (Nat.le_of_ble_eq_true rfl) (Nat.le_of_ble_eq_true rfl)) ?_
  refine Seg.run [32] 400 ?_
  refine And.intro (fun z2 => ?_) (fun z2 => ?_)
  · exact stop (fun w => z2 (show h 63 7 - h 63 9 = nI 5 by rw [el, w.2.1]; rfl)) 0 (Nat.zero_le _)
  · exact loop hk ((nI_eq (by omega) (b := 5) (by decide)).mp (by rw [← el]; exact Decidable.not_not.mp z2)) 5 0 rfl (fun q hq => absurd hq (Nat.not_lt_zero _))
set_option maxRecDepth 100000 in
set_option maxHeartbeats 400000 in
theorem tJ0_coder_5 (h : aH) (g : aG) : MS mJ0_coder_7d493 1 [.ref (100 + 5)] h g [.int 0] h g := by
  refine MS.of okJ0_coder_7d493 (by decide +kernel) (Nat.le_of_ble_eq_true rfl) (by decide) rfl (by decide) ?_
  refine Seg.run [] 400 ?_
  refine And.intro (fun z => absurd z (by decide : ¬ (1 : Int32) = 0)) (fun _ => ?_)
  exact And.intro rfl Seg.rf
set_option maxRecDepth 100000 in
set_option maxHeartbeats 400000 in
theorem tJ0_isLatin1_5 (h : aH) (g : aG) : MS mJ0_isLatin1_aae02 1 [.ref (100 + 5)] h g [.int 1] h g := by
  refine MS.of okJ0_isLatin1_aae02 (by decide +kernel) (Nat.le_of_ble_eq_true rfl) (by decide) rfl (by decide) ?_
  refine Seg.run [] 400 ?_
  refine And.intro (fun z => absurd z (by decide : ¬ (1 : Int32) = 0)) (fun _ => ?_)
  refine And.intro (fun z => absurd rfl z) (fun _ => ?_)
  exact And.intro (Or.inr rfl) Seg.rf
set_option maxRecDepth 100000 in
set_option maxHeartbeats 400000 in
theorem tJ0_length_5 (h : aH) (g : aG) : MS mJ0_length_8abf5 2 [.ref (100 + 5)] h g [.int (nI 6)] h g := by
  refine MS.of okJ0_length_8abf5 (by decide +kernel) (Nat.le_of_ble_eq_true rfl) (by decide) rfl (by decide) ?_
  refine Seg.run [] 400 ?_
  refine Seg.tr (Seg.cT (j := 5) (tJ0_coder_5 h g) mlJ0_335 iyJ0_coder_7d493 seJ0_coder_7d493 oyJ0_coder_7d493 rfl (by decide) (by decide) rfl rfl rfl rfl (Nat.le_of_ble_eq_true rfl) (Nat.le_of_ble_eq_true rfl)) ?_
  refine Seg.run [] 400 ?_
  exact Seg.ri (by decide)
set_option maxRecDepth 100000 in
set_option maxHeartbeats 400000 in
theorem tJ1_charAt_5 (h : aH) (g : aG) (i : Nat) (hi : i < 6) : MS mJ1_charAt_3b067 3 [.ref (200 + 5), .int (nI i)] h g [.int (chJ 5 i)] h g := by
  refine MS.of okJ1_charAt_3b067 (by decide +kernel) (Nat.le_of_ble_eq_true rfl) (by decide) rfl (by decide) ?_
  refine Seg.run [] 400 ?_
  refine Seg.tr (Seg.cS (tJ0_checkIndex h g i 6 hi (by decide)) mlJ1_9 syJ0_checkIndex_df160 oyJ0_checkIndex_df160 rfl (by decide) rfl rfl rfl (Nat.le_of_ble_eq_true rfl) (Nat.le_of_ble_eq_true rfl)) ?_
  refine Seg.run [] 400 ?_
  refine And.intro (in10 (p := i) (n := 6) hi (by decide)) ?_
  refine And.intro (pk_nc _) ?_
  exact Seg.ri (by rw [cl10 (p := i) (by omega)]; exact ch_ok 5 (by decide) i (by omega))
set_option maxRecDepth 100000 in
set_option maxHeartbeats 400000 in
theorem tJ0_charAt_5 (h : aH) (g : aG) (i : Nat) (hi : i < 6) : MS mJ0_charAt_5068e 4 [.ref (100 + 5), .int (nI i)] h g [.int (chJ 5 i)] h g := by
  refine MS.of okJ0_charAt_5068e (by decide +kernel) (Nat.le_of_ble_eq_true rfl) (by decide) rfl (by decide) ?_
  refine Seg.run [] 400 ?_
  refine Seg.tr (Seg.cT (j := 5) (tJ0_isLatin1_5 h g) mlJ0_492 iyJ0_isLatin1_aae02 seJ0_isLatin1_aae02 oyJ0_isLatin1_aae02 rfl (by decide) (by decide) rfl rfl rfl rfl (Nat.le_of_ble_eq_true rfl) (Nat.le_of_ble_eq_true rfl)) ?_
  refine Seg.run [] 400 ?_
  refine And.intro (fun z => absurd z (by decide : ¬ (1 : Int32) = 0)) (fun _ => ?_)
  refine Seg.tr (Seg.cS (tJ1_charAt_5 h g i hi) mlJ0_495 syJ1_charAt_3b067 oyJ1_charAt_3b067 rfl (by decide) rfl rfl rfl (Nat.le_of_ble_eq_true rfl) (Nat.le_of_ble_eq_true rfl)) ?_
  refine Seg.run [] 400 ?_
  exact And.intro (by rw [← ch_ok 5 (by decide) i (by omega)]; exact pk_nc _) Seg.rf
set_option maxRecDepth 100000 in
set_option maxHeartbeats 400000 in
theorem tX1_isWord_5 {h : aH} {g : aG} {n : Nat} {b : Nat → Int32} {s e k v : Nat} (hr : RC h n b s e k v) (x : Int32) (hx : (x = 1 ∧ wdQ b s e k 5) ∨ (x = 0 ∧ ¬ wdQ b s e k 5)) : MS mX1_isWord 5 [.ref 29, .ref (100 + 5)] h g [.int x] h g := by
  obtain ⟨⟨r1, r2⟩, r3, r4, r5, r6, r7⟩ := hr
  have no : ¬ wdQ b s e k 5 → x = 0 := fun y => hx.elim (fun w => absurd w.2 y) (fun w => w.1)
  have yes : wdQ b s e k 5 → x = 1 := fun y => hx.elim (fun w => w.1) (fun w => absurd y w.2)
  have loop : k = 1 → e - s = 6 → ∀ m i, m + i = 6 → (∀ q, q < i → b (s + q) = chJ 5 q) → Seg mX1_isWord 5 (28, [some (.ref 29), some (.ref (100 + 5)), some (.int (nI i))], [], nW, h, g, ρ) (aRET, [], [.int x], nW, h, g, ρ) := by
    intro hk hl m
    induction m with
    | zero =>
      intro i hi hq
      obtain rfl : i = 6 := by omega
      refine Seg.run [] 400 ?_
      refine Seg.tr (Seg.cT (j := 5) (tJ0_length_5 h g) mlX1_68 iyJ0_length_8abf5 seJ0_length_8abf5 oyJ0_length_8abf5 rfl (by decide) (by decide) rfl rfl rfl rfl (Nat.le_of_ble_eq_true rfl) (Nat.le_of_ble_eq_true rfl)) ?_
      refine Seg.run [] 400 ?_
      refine And.intro (fun _ => ?_) (fun z => absurd (nI_le (Nat.le_refl _) (by decide)) z)
      exact And.intro (Or.inr rfl) (Seg.ri (yes ⟨hk, hl, hq⟩).symm)
    | succ m ih =>
      intro i hi hq
      have es : nI s + nI i = nI (s + i) := nI_ad _ _
      refine Seg.run [] 400 ?_
      refine Seg.tr (Seg.cT (j := 5) (tJ0_length_5 h g) mlX1_68 iyJ0_length_8abf5 seJ0_length_8abf5 oyJ0_length_8abf5 rfl (by decide) (by decide) rfl rfl rfl rfl (Nat.le_of_ble_eq_true rfl) (Nat.le_of_ble_eq_true rfl)) ?_
      refine Seg.run [28] 400 ?_
      refine And.intro (fun z => absurd z (nI_ge (by omega) (by decide))) (fun _ => ?_)
      refine And.intro (by rw [r4, es]; exact in10 (by omega) (by decide)) ?_
      rw [r4, es, cl10 (p := s + i) (by omega), r2 (s + i) (by omega)]
      refine Seg.tr (Seg.cT (j := 5) (tJ0_charAt_5 h g i (by omega)) mlX1_73 iyJ0_charAt_5068e seJ0_charAt_5068e oyJ0_charAt_5068e rfl (by decide) (by decide) rfl rfl rfl rfl (Nat.le_of_ble_eq_true rfl) (Nat.le_of_ble_eq_true rfl)) ?_
      refine Seg.run [28] 400 ?_
      refine And.intro (fun z => ?_) (fun z => ?_)
      · refine Seg.tr (Seg.of (b := (28, [some (.ref 29), some (.ref (100 + 5)), some (.int (nI (i + 1)))], [], nW, h, g, ρ)) (by rw [nI_succ i] <;> rfl)) ?_
        refine ih (i + 1) (by omega) (fun q hq2 => ?_)
        by_cases y : q = i
        · subst y; exact z
        · exact hq q (by omega)
      · exact And.intro (Or.inl rfl) (Seg.ri (no (fun w => z (w.2.2 i (show i < 6 by omega)))).symm)
  refine MS.of okX1_isWord (by decide +kernel) (Nat.le_of_ble_eq_true rfl) (by decide) rfl (by decide) ?_
  refine Seg.run [] 400 ?_
  refine And.intro (fun z => ?_) (fun z => ?_)
  · refine And.intro (Or.inl rfl) (Seg.ri (no (fun w => z (by rw [r3, w.1]; rfl))).symm)
  have hk : k = 1 := (nI_eq (by omega) (b := 1) (by decide)).mp (by rw [← r3]; exact Decidable.not_not.mp z)
  have el : h 29 4 - h 29 3 = nI (e - s) := by rw [r5, r4]; exact nI_sb r7.1
  refine Seg.tr (Seg.cT (j := 5) (tJ0_length_5 h g) mlX1_68 iyJ0_length_8abf5 seJ0_length_8abf5 oyJ0_length_8abf5 rfl (by decide) (by decide) rfl rfl rfl rfl (Nat.le_of_ble_eq_true rfl) (Nat.le_of_ble_eq_true rfl)) ?_
  refine Seg.run [28] 400 ?_
  refine And.intro (fun z2 => ?_) (fun z2 => ?_)
  · exact loop hk ((nI_eq (by omega) (b := 6) (by decide)).mp (by rw [← el]; exact z2)) 6 0 rfl (fun q hq => absurd hq (Nat.not_lt_zero _))
  · exact And.intro (Or.inl rfl) (Seg.ri (no (fun w => z2 (show h 29 4 - h 29 3 = nI 6 by rw [el, w.2.1]; rfl))).symm)
set_option maxRecDepth 100000 in
set_option maxHeartbeats 400000 in
theorem tX6_isWord_5 {h : aH} {g : aG} {n : Nat} {b : Nat → Int32} {s e k v : Nat} (hr : RM h n b s e k v) (x : Int32) (hx : (x = 1 ∧ wdQ b s e k 5) ∨ (x = 0 ∧ ¬ wdQ b s e k 5)) : MS mX6_isWord 5 [.ref 63, .ref (100 + 5)] h g [.int x] h g := by
  obtain ⟨⟨r1, r2⟩, r3, r4, r5, r6, r7⟩ := hr
  have no : ¬ wdQ b s e k 5 → x = 0 := fun y => hx.elim (fun w => absurd w.2 y) (fun w => w.1)
  have yes : wdQ b s e k 5 → x = 1 := fun y => hx.elim (fun w => w.1) (fun w => absurd y w.2)
  have stop : ¬ wdQ b s e k 5 → ∀ i, i ≤ 6 → Seg mX6_isWord 5 (32, [some (.ref 63), some (.ref (100 + 5)), some (.int 0), some (.int (nI i))], [], nW, h, g, ρ) (aRET, [], [.int x], nW, h, g, ρ) := by
    intro nw i hi
    refine Seg.run [] 400 ?_
    refine Seg.tr (Seg.cT (j := 5) (tJ0_length_5 h g) mlX6_74 iyJ0_length_8abf5 seJ0_length_8abf5 oyJ0_length_8abf5 rfl (by decide) (by decide) rfl rfl rfl rfl (Nat.le_of_ble_eq_true rfl) (Nat.le_of_ble_eq_true rfl)) ?_
    refine Seg.run [] 400 ?_
    refine And.intro (fun z => ?_) (fun z => ?_)
    · exact And.intro (Or.inl rfl) (Seg.ri (no nw).symm)
    refine And.intro (fun _ => ?_) (fun z => absurd rfl z)
    exact And.intro (Or.inl rfl) (Seg.ri (no nw).symm)
  have loop : k = 1 → e - s = 6 → ∀ m i, m + i = 6 → (∀ q, q < i → b (s + q) = chJ 5 q) → Seg mX6_isWord 5 (32, [some (.ref 63), some (.ref (100 + 5)), some (.int 1), some (.int (nI i))], [], nW, h, g, ρ) (aRET, [], [.int x], nW, h, g, ρ) := by
    intro hk hl m
    induction m with
    | zero =>
      intro i hi hq
      obtain rfl : i = 6 := by omega
      refine Seg.run [] 400 ?_
      refine Seg.tr (Seg.cT (j := 5) (tJ0_length_5 h g) mlX6_74 iyJ0_length_8abf5 seJ0_length_8abf5 oyJ0_length_8abf5 rfl (by decide) (by decide) rfl rfl rfl rfl (Nat.le_of_ble_eq_true rfl) (Nat.le_of_ble_eq_true rfl)) ?_
      refine Seg.run [] 400 ?_
      refine And.intro (fun _ => ?_) (fun z => absurd (nI_le (Nat.le_refl _) (by decide)) z)
      exact And.intro (Or.inr rfl) (Seg.ri (yes ⟨hk, hl, hq⟩).symm)
    | succ m ih =>
      intro i hi hq
      have es : nI s + nI i = nI (s + i) := nI_ad _ _
      refine Seg.run [] 400 ?_
      refine Seg.tr (Seg.cT (j := 5) (tJ0_length_5 h g) mlX6_74 iyJ0_length_8abf5 seJ0_length_8abf5 oyJ0_length_8abf5 rfl (by decide) (by decide) rfl rfl rfl rfl (Nat.le_of_ble_eq_true rfl) (Nat.le_of_ble_eq_true rfl)) ?_
      refine Seg.run [32] 400 ?_
      refine And.intro (fun z => absurd z (nI_ge (by omega) (by decide))) (fun _ => ?_)
      refine And.intro (fun z => absurd z (by decide : ¬ (1 : Int32) = 0)) (fun _ => ?_)
      refine And.intro (by rw [r4, es]; exact in10 (by omega) (by decide)) ?_
      rw [r4, es, cl10 (p := s + i) (by omega), r2 (s + i) (by omega)]
      refine Seg.tr (Seg.cT (j := 5) (tJ0_charAt_5 h g i (by omega)) mlX6_80 iyJ0_charAt_5068e seJ0_charAt_5068e oyJ0_charAt_5068e rfl (by decide) (by decide) rfl rfl rfl rfl (Nat.le_of_ble_eq_true rfl) (Nat.le_of_ble_eq_true rfl)) ?_
      refine Seg.run [32] 400 ?_
      refine And.intro (fun z => ?_) (fun z => ?_)
      · refine Seg.tr (Seg.of (b := (32, [some (.ref 63), some (.ref (100 + 5)), some (.int 0), some (.int (nI (i + 1)))], [], nW, h, g, ρ)) (by rw [nI_succ i] <;> rfl)) ?_
        exact stop (fun w => z (w.2.2 i (show i < 6 by omega))) (i + 1) (by omega)
      · refine Seg.tr (Seg.of (b := (32, [some (.ref 63), some (.ref (100 + 5)), some (.int 1), some (.int (nI (i + 1)))], [], nW, h, g, ρ)) (by rw [nI_succ i] <;> rfl)) ?_
        refine ih (i + 1) (by omega) (fun q hq2 => ?_)
        by_cases y : q = i
        · subst y; exact Decidable.not_not.mp z
        · exact hq q (by omega)
  refine MS.of okX6_isWord (by decide +kernel) (Nat.le_of_ble_eq_true rfl) (by decide) rfl (by decide) ?_
  refine Seg.run [32] 400 ?_
  refine And.intro (fun z => ?_) (fun z => ?_)
  · exact stop (fun w => z (by rw [r3, w.1]; rfl)) 0 (Nat.zero_le _)
  have hk : k = 1 := (nI_eq (by omega) (b := 1) (by decide)).mp (by rw [← r3]; exact Decidable.not_not.mp z)
  have el : h 63 7 - h 63 9 = nI (e - s) := by rw [r5, r4]; exact nI_sb r7.1
  refine Seg.tr (Seg.cT (j := 5) (tJ0_length_5 h g) mlX6_74 iyJ0_length_8abf5 seJ0_length_8abf5 oyJ0_length_8abf5 rfl (by decide) (by decide) rfl rfl rfl rfl (Nat.le_of_ble_eq_true rfl) (Nat.le_of_ble_eq_true rfl)) ?_
  refine Seg.run [32] 400 ?_
  refine And.intro (fun z2 => ?_) (fun z2 => ?_)
  · exact stop (fun w => z2 (show h 63 7 - h 63 9 = nI 6 by rw [el, w.2.1]; rfl)) 0 (Nat.zero_le _)
  · exact loop hk ((nI_eq (by omega) (b := 6) (by decide)).mp (by rw [← el]; exact Decidable.not_not.mp z2)) 6 0 rfl (fun q hq => absurd hq (Nat.not_lt_zero _))
set_option maxRecDepth 100000 in
set_option maxHeartbeats 400000 in
theorem tJ0_coder_6 (h : aH) (g : aG) : MS mJ0_coder_7d493 1 [.ref (100 + 6)] h g [.int 0] h g := by
  refine MS.of okJ0_coder_7d493 (by decide +kernel) (Nat.le_of_ble_eq_true rfl) (by decide) rfl (by decide) ?_
  refine Seg.run [] 400 ?_
  refine And.intro (fun z => absurd z (by decide : ¬ (1 : Int32) = 0)) (fun _ => ?_)
  exact And.intro rfl Seg.rf
set_option maxRecDepth 100000 in
set_option maxHeartbeats 400000 in
theorem tJ0_isLatin1_6 (h : aH) (g : aG) : MS mJ0_isLatin1_aae02 1 [.ref (100 + 6)] h g [.int 1] h g := by
  refine MS.of okJ0_isLatin1_aae02 (by decide +kernel) (Nat.le_of_ble_eq_true rfl) (by decide) rfl (by decide) ?_
  refine Seg.run [] 400 ?_
  refine And.intro (fun z => absurd z (by decide : ¬ (1 : Int32) = 0)) (fun _ => ?_)
  refine And.intro (fun z => absurd rfl z) (fun _ => ?_)
  exact And.intro (Or.inr rfl) Seg.rf
set_option maxRecDepth 100000 in
set_option maxHeartbeats 400000 in
theorem tJ0_length_6 (h : aH) (g : aG) : MS mJ0_length_8abf5 2 [.ref (100 + 6)] h g [.int (nI 7)] h g := by
  refine MS.of okJ0_length_8abf5 (by decide +kernel) (Nat.le_of_ble_eq_true rfl) (by decide) rfl (by decide) ?_
  refine Seg.run [] 400 ?_
  refine Seg.tr (Seg.cT (j := 6) (tJ0_coder_6 h g) mlJ0_335 iyJ0_coder_7d493 seJ0_coder_7d493 oyJ0_coder_7d493 rfl (by decide) (by decide) rfl rfl rfl rfl (Nat.le_of_ble_eq_true rfl) (Nat.le_of_ble_eq_true rfl)) ?_
  refine Seg.run [] 400 ?_
  exact Seg.ri (by decide)
set_option maxRecDepth 100000 in
set_option maxHeartbeats 400000 in
theorem tJ1_charAt_6 (h : aH) (g : aG) (i : Nat) (hi : i < 7) : MS mJ1_charAt_3b067 3 [.ref (200 + 6), .int (nI i)] h g [.int (chJ 6 i)] h g := by
  refine MS.of okJ1_charAt_3b067 (by decide +kernel) (Nat.le_of_ble_eq_true rfl) (by decide) rfl (by decide) ?_
  refine Seg.run [] 400 ?_
  refine Seg.tr (Seg.cS (tJ0_checkIndex h g i 7 hi (by decide)) mlJ1_9 syJ0_checkIndex_df160 oyJ0_checkIndex_df160 rfl (by decide) rfl rfl rfl (Nat.le_of_ble_eq_true rfl) (Nat.le_of_ble_eq_true rfl)) ?_
  refine Seg.run [] 400 ?_
  refine And.intro (in10 (p := i) (n := 7) hi (by decide)) ?_
  refine And.intro (pk_nc _) ?_
  exact Seg.ri (by rw [cl10 (p := i) (by omega)]; exact ch_ok 6 (by decide) i (by omega))
set_option maxRecDepth 100000 in
set_option maxHeartbeats 400000 in
theorem tJ0_charAt_6 (h : aH) (g : aG) (i : Nat) (hi : i < 7) : MS mJ0_charAt_5068e 4 [.ref (100 + 6), .int (nI i)] h g [.int (chJ 6 i)] h g := by
  refine MS.of okJ0_charAt_5068e (by decide +kernel) (Nat.le_of_ble_eq_true rfl) (by decide) rfl (by decide) ?_
  refine Seg.run [] 400 ?_
  refine Seg.tr (Seg.cT (j := 6) (tJ0_isLatin1_6 h g) mlJ0_492 iyJ0_isLatin1_aae02 seJ0_isLatin1_aae02 oyJ0_isLatin1_aae02 rfl (by decide) (by decide) rfl rfl rfl rfl (Nat.le_of_ble_eq_true rfl) (Nat.le_of_ble_eq_true rfl)) ?_
  refine Seg.run [] 400 ?_
  refine And.intro (fun z => absurd z (by decide : ¬ (1 : Int32) = 0)) (fun _ => ?_)
  refine Seg.tr (Seg.cS (tJ1_charAt_6 h g i hi) mlJ0_495 syJ1_charAt_3b067 oyJ1_charAt_3b067 rfl (by decide) rfl rfl rfl (Nat.le_of_ble_eq_true rfl) (Nat.le_of_ble_eq_true rfl)) ?_
  refine Seg.run [] 400 ?_
  exact And.intro (by rw [← ch_ok 6 (by decide) i (by omega)]; exact pk_nc _) Seg.rf
set_option maxRecDepth 100000 in
set_option maxHeartbeats 400000 in
theorem tX1_isWord_6 {h : aH} {g : aG} {n : Nat} {b : Nat → Int32} {s e k v : Nat} (hr : RC h n b s e k v) (x : Int32) (hx : (x = 1 ∧ wdQ b s e k 6) ∨ (x = 0 ∧ ¬ wdQ b s e k 6)) : MS mX1_isWord 5 [.ref 29, .ref (100 + 6)] h g [.int x] h g := by
  obtain ⟨⟨r1, r2⟩, r3, r4, r5, r6, r7⟩ := hr
  have no : ¬ wdQ b s e k 6 → x = 0 := fun y => hx.elim (fun w => absurd w.2 y) (fun w => w.1)
  have yes : wdQ b s e k 6 → x = 1 := fun y => hx.elim (fun w => w.1) (fun w => absurd y w.2)
  have loop : k = 1 → e - s = 7 → ∀ m i, m + i = 7 → (∀ q, q < i → b (s + q) = chJ 6 q) → Seg mX1_isWord 5 (28, [some (.ref 29), some (.ref (100 + 6)), some (.int (nI i))], [], nW, h, g, ρ) (aRET, [], [.int x], nW, h, g, ρ) := by
    intro hk hl m
    induction m with
    | zero =>
      intro i hi hq
      obtain rfl : i = 7 := by omega
      refine Seg.run [] 400 ?_
      refine Seg.tr (Seg.cT (j := 6) (tJ0_length_6 h g) mlX1_68 iyJ0_length_8abf5 seJ0_length_8abf5 oyJ0_length_8abf5 rfl (by decide) (by decide) rfl rfl rfl rfl (Nat.le_of_ble_eq_true rfl) (Nat.le_of_ble_eq_true rfl)) ?_
      refine Seg.run [] 400 ?_
      refine And.intro (fun _ => ?_) (fun z => absurd (nI_le (Nat.le_refl _) (by decide)) z)
      exact And.intro (Or.inr rfl) (Seg.ri (yes ⟨hk, hl, hq⟩).symm)
    | succ m ih =>
      intro i hi hq
      have es : nI s + nI i = nI (s + i) := nI_ad _ _
      refine Seg.run [] 400 ?_
      refine Seg.tr (Seg.cT (j := 6) (tJ0_length_6 h g) mlX1_68 iyJ0_length_8abf5 seJ0_length_8abf5 oyJ0_length_8abf5 rfl (by decide) (by decide) rfl rfl rfl rfl (Nat.le_of_ble_eq_true rfl) (Nat.le_of_ble_eq_true rfl)) ?_
      refine Seg.run [28] 400 ?_
      refine And.intro (fun z => absurd z (nI_ge (by omega) (by decide))) (fun _ => ?_)
      refine And.intro (by rw [r4, es]; exact in10 (by omega) (by decide)) ?_
      rw [r4, es, cl10 (p := s + i) (by omega), r2 (s + i) (by omega)]
      refine Seg.tr (Seg.cT (j := 6) (tJ0_charAt_6 h g i (by omega)) mlX1_73 iyJ0_charAt_5068e seJ0_charAt_5068e oyJ0_charAt_5068e rfl (by decide) (by decide) rfl rfl rfl rfl (Nat.le_of_ble_eq_true rfl) (Nat.le_of_ble_eq_true rfl)) ?_
      refine Seg.run [28] 400 ?_
      refine And.intro (fun z => ?_) (fun z => ?_)
      · refine Seg.tr (Seg.of (b := (28, [some (.ref 29), some (.ref (100 + 6)), some (.int (nI (i + 1)))], [], nW, h, g, ρ)) (by rw [nI_succ i] <;> rfl)) ?_
        refine ih (i + 1) (by omega) (fun q hq2 => ?_)
        by_cases y : q = i
        · subst y; exact z
        · exact hq q (by omega)
      · exact And.intro (Or.inl rfl) (Seg.ri (no (fun w => z (w.2.2 i (show i < 7 by omega)))).symm)
  refine MS.of okX1_isWord (by decide +kernel) (Nat.le_of_ble_eq_true rfl) (by decide) rfl (by decide) ?_
  refine Seg.run [] 400 ?_
  refine And.intro (fun z => ?_) (fun z => ?_)
  · refine And.intro (Or.inl rfl) (Seg.ri (no (fun w => z (by rw [r3, w.1]; rfl))).symm)
  have hk : k = 1 := (nI_eq (by omega) (b := 1) (by decide)).mp (by rw [← r3]; exact Decidable.not_not.mp z)
  have el : h 29 4 - h 29 3 = nI (e - s) := by rw [r5, r4]; exact nI_sb r7.1
  refine Seg.tr (Seg.cT (j := 6) (tJ0_length_6 h g) mlX1_68 iyJ0_length_8abf5 seJ0_length_8abf5 oyJ0_length_8abf5 rfl (by decide) (by decide) rfl rfl rfl rfl (Nat.le_of_ble_eq_true rfl) (Nat.le_of_ble_eq_true rfl)) ?_
  refine Seg.run [28] 400 ?_
  refine And.intro (fun z2 => ?_) (fun z2 => ?_)
  · exact loop hk ((nI_eq (by omega) (b := 7) (by decide)).mp (by rw [← el]; exact z2)) 7 0 rfl (fun q hq => absurd hq (Nat.not_lt_zero _))
  · exact And.intro (Or.inl rfl) (Seg.ri (no (fun w => z2 (show h 29 4 - h 29 3 = nI 7 by rw [el, w.2.1]; rfl))).symm)
set_option maxRecDepth 100000 in
set_option maxHeartbeats 400000 in
theorem tX6_isWord_6 {h : aH} {g : aG} {n : Nat} {b : Nat → Int32} {s e k v : Nat} (hr : RM h n b s e k v) (x : Int32) (hx : (x = 1 ∧ wdQ b s e k 6) ∨ (x = 0 ∧ ¬ wdQ b s e k 6)) : MS mX6_isWord 5 [.ref 63, .ref (100 + 6)] h g [.int x] h g := by
  obtain ⟨⟨r1, r2⟩, r3, r4, r5, r6, r7⟩ := hr
  have no : ¬ wdQ b s e k 6 → x = 0 := fun y => hx.elim (fun w => absurd w.2 y) (fun w => w.1)
  have yes : wdQ b s e k 6 → x = 1 := fun y => hx.elim (fun w => w.1) (fun w => absurd y w.2)
  have stop : ¬ wdQ b s e k 6 → ∀ i, i ≤ 7 → Seg mX6_isWord 5 (32, [some (.ref 63), some (.ref (100 + 6)), some (.int 0), some (.int (nI i))], [], nW, h, g, ρ) (aRET, [], [.int x], nW, h, g, ρ) := by
    intro nw i hi
    refine Seg.run [] 400 ?_
    refine Seg.tr (Seg.cT (j := 6) (tJ0_length_6 h g) mlX6_74 iyJ0_length_8abf5 seJ0_length_8abf5 oyJ0_length_8abf5 rfl (by decide) (by decide) rfl rfl rfl rfl (Nat.le_of_ble_eq_true rfl) (Nat.le_of_ble_eq_true rfl)) ?_
    refine Seg.run [] 400 ?_
    refine And.intro (fun z => ?_) (fun z => ?_)
    · exact And.intro (Or.inl rfl) (Seg.ri (no nw).symm)
    refine And.intro (fun _ => ?_) (fun z => absurd rfl z)
    exact And.intro (Or.inl rfl) (Seg.ri (no nw).symm)
  have loop : k = 1 → e - s = 7 → ∀ m i, m + i = 7 → (∀ q, q < i → b (s + q) = chJ 6 q) → Seg mX6_isWord 5 (32, [some (.ref 63), some (.ref (100 + 6)), some (.int 1), some (.int (nI i))], [], nW, h, g, ρ) (aRET, [], [.int x], nW, h, g, ρ) := by
    intro hk hl m
    induction m with
    | zero =>
      intro i hi hq
      obtain rfl : i = 7 := by omega
      refine Seg.run [] 400 ?_
      refine Seg.tr (Seg.cT (j := 6) (tJ0_length_6 h g) mlX6_74 iyJ0_length_8abf5 seJ0_length_8abf5 oyJ0_length_8abf5 rfl (by decide) (by decide) rfl rfl rfl rfl (Nat.le_of_ble_eq_true rfl) (Nat.le_of_ble_eq_true rfl)) ?_
      refine Seg.run [] 400 ?_
      refine And.intro (fun _ => ?_) (fun z => absurd (nI_le (Nat.le_refl _) (by decide)) z)
      exact And.intro (Or.inr rfl) (Seg.ri (yes ⟨hk, hl, hq⟩).symm)
    | succ m ih =>
      intro i hi hq
      have es : nI s + nI i = nI (s + i) := nI_ad _ _
      refine Seg.run [] 400 ?_
      refine Seg.tr (Seg.cT (j := 6) (tJ0_length_6 h g) mlX6_74 iyJ0_length_8abf5 seJ0_length_8abf5 oyJ0_length_8abf5 rfl (by decide) (by decide) rfl rfl rfl rfl (Nat.le_of_ble_eq_true rfl) (Nat.le_of_ble_eq_true rfl)) ?_
      refine Seg.run [32] 400 ?_
      refine And.intro (fun z => absurd z (nI_ge (by omega) (by decide))) (fun _ => ?_)
      refine And.intro (fun z => absurd z (by decide : ¬ (1 : Int32) = 0)) (fun _ => ?_)
      refine And.intro (by rw [r4, es]; exact in10 (by omega) (by decide)) ?_
      rw [r4, es, cl10 (p := s + i) (by omega), r2 (s + i) (by omega)]
      refine Seg.tr (Seg.cT (j := 6) (tJ0_charAt_6 h g i (by omega)) mlX6_80 iyJ0_charAt_5068e seJ0_charAt_5068e oyJ0_charAt_5068e rfl (by decide) (by decide) rfl rfl rfl rfl (Nat.le_of_ble_eq_true rfl) (Nat.le_of_ble_eq_true rfl)) ?_
      refine Seg.run [32] 400 ?_
      refine And.intro (fun z => ?_) (fun z => ?_)
      · refine Seg.tr (Seg.of (b := (32, [some (.ref 63), some (.ref (100 + 6)), some (.int 0), some (.int (nI (i + 1)))], [], nW, h, g, ρ)) (by rw [nI_succ i] <;> rfl)) ?_
        exact stop (fun w => z (w.2.2 i (show i < 7 by omega))) (i + 1) (by omega)
      · refine Seg.tr (Seg.of (b := (32, [some (.ref 63), some (.ref (100 + 6)), some (.int 1), some (.int (nI (i + 1)))], [], nW, h, g, ρ)) (by rw [nI_succ i] <;> rfl)) ?_
        refine ih (i + 1) (by omega) (fun q hq2 => ?_)
        by_cases y : q = i
        · subst y; exact Decidable.not_not.mp z
        · exact hq q (by omega)
  refine MS.of okX6_isWord (by decide +kernel) (Nat.le_of_ble_eq_true rfl) (by decide) rfl (by decide) ?_
  refine Seg.run [32] 400 ?_
  refine And.intro (fun z => ?_) (fun z => ?_)
  · exact stop (fun w => z (by rw [r3, w.1]; rfl)) 0 (Nat.zero_le _)
  have hk : k = 1 := (nI_eq (by omega) (b := 1) (by decide)).mp (by rw [← r3]; exact Decidable.not_not.mp z)
  have el : h 63 7 - h 63 9 = nI (e - s) := by rw [r5, r4]; exact nI_sb r7.1
  refine Seg.tr (Seg.cT (j := 6) (tJ0_length_6 h g) mlX6_74 iyJ0_length_8abf5 seJ0_length_8abf5 oyJ0_length_8abf5 rfl (by decide) (by decide) rfl rfl rfl rfl (Nat.le_of_ble_eq_true rfl) (Nat.le_of_ble_eq_true rfl)) ?_
  refine Seg.run [32] 400 ?_
  refine And.intro (fun z2 => ?_) (fun z2 => ?_)
  · exact stop (fun w => z2 (show h 63 7 - h 63 9 = nI 7 by rw [el, w.2.1]; rfl)) 0 (Nat.zero_le _)
  · exact loop hk ((nI_eq (by omega) (b := 7) (by decide)).mp (by rw [← el]; exact Decidable.not_not.mp z2)) 7 0 rfl (fun q hq => absurd hq (Nat.not_lt_zero _))
set_option maxRecDepth 100000 in
set_option maxHeartbeats 400000 in
theorem tJ0_coder_7 (h : aH) (g : aG) : MS mJ0_coder_7d493 1 [.ref (100 + 7)] h g [.int 0] h g := by
  refine MS.of okJ0_coder_7d493 (by decide +kernel) (Nat.le_of_ble_eq_true rfl) (by decide) rfl (by decide) ?_
  refine Seg.run [] 400 ?_
  refine And.intro (fun z => absurd z (by decide : ¬ (1 : Int32) = 0)) (fun _ => ?_)
  exact And.intro rfl Seg.rf
set_option maxRecDepth 100000 in
set_option maxHeartbeats 400000 in
theorem tJ0_isLatin1_7 (h : aH) (g : aG) : MS mJ0_isLatin1_aae02 1 [.ref (100 + 7)] h g [.int 1] h g := by
  refine MS.of okJ0_isLatin1_aae02 (by decide +kernel) (Nat.le_of_ble_eq_true rfl) (by decide) rfl (by decide) ?_
  refine Seg.run [] 400 ?_
  refine And.intro (fun z => absurd z (by decide : ¬ (1 : Int32) = 0)) (fun _ => ?_)
  refine And.intro (fun z => absurd rfl z) (fun _ => ?_)
  exact And.intro (Or.inr rfl) Seg.rf
set_option maxRecDepth 100000 in
set_option maxHeartbeats 400000 in
theorem tJ0_length_7 (h : aH) (g : aG) : MS mJ0_length_8abf5 2 [.ref (100 + 7)] h g [.int (nI 4)] h g := by
  refine MS.of okJ0_length_8abf5 (by decide +kernel) (Nat.le_of_ble_eq_true rfl) (by decide) rfl (by decide) ?_
  refine Seg.run [] 400 ?_
  refine Seg.tr (Seg.cT (j := 7) (tJ0_coder_7 h g) mlJ0_335 iyJ0_coder_7d493 seJ0_coder_7d493 oyJ0_coder_7d493 rfl (by decide) (by decide) rfl rfl rfl rfl (Nat.le_of_ble_eq_true rfl) (Nat.le_of_ble_eq_true rfl)) ?_
  refine Seg.run [] 400 ?_
  exact Seg.ri (by decide)
set_option maxRecDepth 100000 in
set_option maxHeartbeats 400000 in
theorem tJ1_charAt_7 (h : aH) (g : aG) (i : Nat) (hi : i < 4) : MS mJ1_charAt_3b067 3 [.ref (200 + 7), .int (nI i)] h g [.int (chJ 7 i)] h g := by
  refine MS.of okJ1_charAt_3b067 (by decide +kernel) (Nat.le_of_ble_eq_true rfl) (by decide) rfl (by decide) ?_
  refine Seg.run [] 400 ?_
  refine Seg.tr (Seg.cS (tJ0_checkIndex h g i 4 hi (by decide)) mlJ1_9 syJ0_checkIndex_df160 oyJ0_checkIndex_df160 rfl (by decide) rfl rfl rfl (Nat.le_of_ble_eq_true rfl) (Nat.le_of_ble_eq_true rfl)) ?_
  refine Seg.run [] 400 ?_
  refine And.intro (in10 (p := i) (n := 4) hi (by decide)) ?_
  refine And.intro (pk_nc _) ?_
  exact Seg.ri (by rw [cl10 (p := i) (by omega)]; exact ch_ok 7 (by decide) i (by omega))
set_option maxRecDepth 100000 in
set_option maxHeartbeats 400000 in
theorem tJ0_charAt_7 (h : aH) (g : aG) (i : Nat) (hi : i < 4) : MS mJ0_charAt_5068e 4 [.ref (100 + 7), .int (nI i)] h g [.int (chJ 7 i)] h g := by
  refine MS.of okJ0_charAt_5068e (by decide +kernel) (Nat.le_of_ble_eq_true rfl) (by decide) rfl (by decide) ?_
  refine Seg.run [] 400 ?_
  refine Seg.tr (Seg.cT (j := 7) (tJ0_isLatin1_7 h g) mlJ0_492 iyJ0_isLatin1_aae02 seJ0_isLatin1_aae02 oyJ0_isLatin1_aae02 rfl (by decide) (by decide) rfl rfl rfl rfl (Nat.le_of_ble_eq_true rfl) (Nat.le_of_ble_eq_true rfl)) ?_
  refine Seg.run [] 400 ?_
  refine And.intro (fun z => absurd z (by decide : ¬ (1 : Int32) = 0)) (fun _ => ?_)
  refine Seg.tr (Seg.cS (tJ1_charAt_7 h g i hi) mlJ0_495 syJ1_charAt_3b067 oyJ1_charAt_3b067 rfl (by decide) rfl rfl rfl (Nat.le_of_ble_eq_true rfl) (Nat.le_of_ble_eq_true rfl)) ?_
  refine Seg.run [] 400 ?_
  exact And.intro (by rw [← ch_ok 7 (by decide) i (by omega)]; exact pk_nc _) Seg.rf
set_option maxRecDepth 100000 in
set_option maxHeartbeats 400000 in
theorem tX1_isWord_7 {h : aH} {g : aG} {n : Nat} {b : Nat → Int32} {s e k v : Nat} (hr : RC h n b s e k v) (x : Int32) (hx : (x = 1 ∧ wdQ b s e k 7) ∨ (x = 0 ∧ ¬ wdQ b s e k 7)) : MS mX1_isWord 5 [.ref 29, .ref (100 + 7)] h g [.int x] h g := by
  obtain ⟨⟨r1, r2⟩, r3, r4, r5, r6, r7⟩ := hr
  have no : ¬ wdQ b s e k 7 → x = 0 := fun y => hx.elim (fun w => absurd w.2 y) (fun w => w.1)
  have yes : wdQ b s e k 7 → x = 1 := fun y => hx.elim (fun w => w.1) (fun w => absurd y w.2)
  have loop : k = 1 → e - s = 4 → ∀ m i, m + i = 4 → (∀ q, q < i → b (s + q) = chJ 7 q) → Seg mX1_isWord 5 (28, [some (.ref 29), some (.ref (100 + 7)), some (.int (nI i))], [], nW, h, g, ρ) (aRET, [], [.int x], nW, h, g, ρ) := by
    intro hk hl m
    induction m with
    | zero =>
      intro i hi hq
      obtain rfl : i = 4 := by omega
      refine Seg.run [] 400 ?_
      refine Seg.tr (Seg.cT (j := 7) (tJ0_length_7 h g) mlX1_68 iyJ0_length_8abf5 seJ0_length_8abf5 oyJ0_length_8abf5 rfl (by decide) (by decide) rfl rfl rfl rfl (Nat.le_of_ble_eq_true rfl) (Nat.le_of_ble_eq_true rfl)) ?_
      refine Seg.run [] 400 ?_
      refine And.intro (fun _ => ?_) (fun z => absurd (nI_le (Nat.le_refl _) (by decide)) z)
      exact And.intro (Or.inr rfl) (Seg.ri (yes ⟨hk, hl, hq⟩).symm)
    | succ m ih =>
      intro i hi hq
      have es : nI s + nI i = nI (s + i) := nI_ad _ _
      refine Seg.run [] 400 ?_
      refine Seg.tr (Seg.cT (j := 7) (tJ0_length_7 h g) mlX1_68 iyJ0_length_8abf5 seJ0_length_8abf5 oyJ0_length_8abf5 rfl (by decide) (by decide) rfl rfl rfl rfl (Nat.le_of_ble_eq_true rfl) (Nat.le_of_ble_eq_true rfl)) ?_
      refine Seg.run [28] 400 ?_
      refine And.intro (fun z => absurd z (nI_ge (by omega) (by decide))) (fun _ => ?_)
      refine And.intro (by rw [r4, es]; exact in10 (by omega) (by decide)) ?_
      rw [r4, es, cl10 (p := s + i) (by omega), r2 (s + i) (by omega)]
      refine Seg.tr (Seg.cT (j := 7) (tJ0_charAt_7 h g i (by omega)) mlX1_73 iyJ0_charAt_5068e seJ0_charAt_5068e oyJ0_charAt_5068e rfl (by decide) (by decide) rfl rfl rfl rfl (Nat.le_of_ble_eq_true rfl) (Nat.le_of_ble_eq_true rfl)) ?_
      refine Seg.run [28] 400 ?_
      refine And.intro (fun z => ?_) (fun z => ?_)
      · refine Seg.tr (Seg.of (b := (28, [some (.ref 29), some (.ref (100 + 7)), some (.int (nI (i + 1)))], [], nW, h, g, ρ)) (by rw [nI_succ i] <;> rfl)) ?_
        refine ih (i + 1) (by omega) (fun q hq2 => ?_)
        by_cases y : q = i
        · subst y; exact z
        · exact hq q (by omega)
      · exact And.intro (Or.inl rfl) (Seg.ri (no (fun w => z (w.2.2 i (show i < 4 by omega)))).symm)
  refine MS.of okX1_isWord (by decide +kernel) (Nat.le_of_ble_eq_true rfl) (by decide) rfl (by decide) ?_
  refine Seg.run [] 400 ?_
  refine And.intro (fun z => ?_) (fun z => ?_)
  · refine And.intro (Or.inl rfl) (Seg.ri (no (fun w => z (by rw [r3, w.1]; rfl))).symm)
  have hk : k = 1 := (nI_eq (by omega) (b := 1) (by decide)).mp (by rw [← r3]; exact Decidable.not_not.mp z)
  have el : h 29 4 - h 29 3 = nI (e - s) := by rw [r5, r4]; exact nI_sb r7.1
  refine Seg.tr (Seg.cT (j := 7) (tJ0_length_7 h g) mlX1_68 iyJ0_length_8abf5 seJ0_length_8abf5 oyJ0_length_8abf5 rfl (by decide) (by decide) rfl rfl rfl rfl (Nat.le_of_ble_eq_true rfl) (Nat.le_of_ble_eq_true rfl)) ?_
  refine Seg.run [28] 400 ?_
  refine And.intro (fun z2 => ?_) (fun z2 => ?_)
  · exact loop hk ((nI_eq (by omega) (b := 4) (by decide)).mp (by rw [← el]; exact z2)) 4 0 rfl (fun q hq => absurd hq (Nat.not_lt_zero _))
  · exact And.intro (Or.inl rfl) (Seg.ri (no (fun w => z2 (show h 29 4 - h 29 3 = nI 4 by rw [el, w.2.1]; rfl))).symm)
set_option maxRecDepth 100000 in
set_option maxHeartbeats 400000 in
theorem tX6_isWord_7 {h : aH} {g : aG} {n : Nat} {b : Nat → Int32} {s e k v : Nat} (hr : RM h n b s e k v) (x : Int32) (hx : (x = 1 ∧ wdQ b s e k 7) ∨ (x = 0 ∧ ¬ wdQ b s e k 7)) : MS mX6_isWord 5 [.ref 63, .ref (100 + 7)] h g [.int x] h g := by
  obtain ⟨⟨r1, r2⟩, r3, r4, r5, r6, r7⟩ := hr
  have no : ¬ wdQ b s e k 7 → x = 0 := fun y => hx.elim (fun w => absurd w.2 y) (fun w => w.1)
  have yes : wdQ b s e k 7 → x = 1 := fun y => hx.elim (fun w => w.1) (fun w => absurd y w.2)
  have stop : ¬ wdQ b s e k 7 → ∀ i, i ≤ 4 → Seg mX6_isWord 5 (32, [some (.ref 63), some (.ref (100 + 7)), some (.int 0), some (.int (nI i))], [], nW, h, g, ρ) (aRET, [], [.int x], nW, h, g, ρ) := by
    intro nw i hi
    refine Seg.run [] 400 ?_
    refine Seg.tr (Seg.cT (j := 7) (tJ0_length_7 h g) mlX6_74 iyJ0_length_8abf5 seJ0_length_8abf5 oyJ0_length_8abf5 rfl (by decide) (by decide) rfl rfl rfl rfl (Nat.le_of_ble_eq_true rfl) (Nat.le_of_ble_eq_true rfl)) ?_
    refine Seg.run [] 400 ?_
    refine And.intro (fun z => ?_) (fun z => ?_)
    · exact And.intro (Or.inl rfl) (Seg.ri (no nw).symm)
    refine And.intro (fun _ => ?_) (fun z => absurd rfl z)
    exact And.intro (Or.inl rfl) (Seg.ri (no nw).symm)
  have loop : k = 1 → e - s = 4 → ∀ m i, m + i = 4 → (∀ q, q < i → b (s + q) = chJ 7 q) → Seg mX6_isWord 5 (32, [some (.ref 63), some (.ref (100 + 7)), some (.int 1), some (.int (nI i))], [], nW, h, g, ρ) (aRET, [], [.int x], nW, h, g, ρ) := by
    intro hk hl m
    induction m with
    | zero =>
      intro i hi hq
      obtain rfl : i = 4 := by omega
      refine Seg.run [] 400 ?_
      refine Seg.tr (Seg.cT (j := 7) (tJ0_length_7 h g) mlX6_74 iyJ0_length_8abf5 seJ0_length_8abf5 oyJ0_length_8abf5 rfl (by decide) (by decide) rfl rfl rfl rfl (Nat.le_of_ble_eq_true rfl) (Nat.le_of_ble_eq_true rfl)) ?_
      refine Seg.run [] 400 ?_
      refine And.intro (fun _ => ?_) (fun z => absurd (nI_le (Nat.le_refl _) (by decide)) z)
      exact And.intro (Or.inr rfl) (Seg.ri (yes ⟨hk, hl, hq⟩).symm)
    | succ m ih =>
      intro i hi hq
      have es : nI s + nI i = nI (s + i) := nI_ad _ _
      refine Seg.run [] 400 ?_
      refine Seg.tr (Seg.cT (j := 7) (tJ0_length_7 h g) mlX6_74 iyJ0_length_8abf5 seJ0_length_8abf5 oyJ0_length_8abf5 rfl (by decide) (by decide) rfl rfl rfl rfl (Nat.le_of_ble_eq_true rfl) (Nat.le_of_ble_eq_true rfl)) ?_
      refine Seg.run [32] 400 ?_
      refine And.intro (fun z => absurd z (nI_ge (by omega) (by decide))) (fun _ => ?_)
      refine And.intro (fun z => absurd z (by decide : ¬ (1 : Int32) = 0)) (fun _ => ?_)
      refine And.intro (by rw [r4, es]; exact in10 (by omega) (by decide)) ?_
      rw [r4, es, cl10 (p := s + i) (by omega), r2 (s + i) (by omega)]
      refine Seg.tr (Seg.cT (j := 7) (tJ0_charAt_7 h g i (by omega)) mlX6_80 iyJ0_charAt_5068e seJ0_charAt_5068e oyJ0_charAt_5068e rfl (by decide) (by decide) rfl rfl rfl rfl (Nat.le_of_ble_eq_true rfl) (Nat.le_of_ble_eq_true rfl)) ?_
      refine Seg.run [32] 400 ?_
      refine And.intro (fun z => ?_) (fun z => ?_)
      · refine Seg.tr (Seg.of (b := (32, [some (.ref 63), some (.ref (100 + 7)), some (.int 0), some (.int (nI (i + 1)))], [], nW, h, g, ρ)) (by rw [nI_succ i] <;> rfl)) ?_
        exact stop (fun w => z (w.2.2 i (show i < 4 by omega))) (i + 1) (by omega)
      · refine Seg.tr (Seg.of (b := (32, [some (.ref 63), some (.ref (100 + 7)), some (.int 1), some (.int (nI (i + 1)))], [], nW, h, g, ρ)) (by rw [nI_succ i] <;> rfl)) ?_
        refine ih (i + 1) (by omega) (fun q hq2 => ?_)
        by_cases y : q = i
        · subst y; exact Decidable.not_not.mp z
        · exact hq q (by omega)
  refine MS.of okX6_isWord (by decide +kernel) (Nat.le_of_ble_eq_true rfl) (by decide) rfl (by decide) ?_
  refine Seg.run [32] 400 ?_
  refine And.intro (fun z => ?_) (fun z => ?_)
  · exact stop (fun w => z (by rw [r3, w.1]; rfl)) 0 (Nat.zero_le _)
  have hk : k = 1 := (nI_eq (by omega) (b := 1) (by decide)).mp (by rw [← r3]; exact Decidable.not_not.mp z)
  have el : h 63 7 - h 63 9 = nI (e - s) := by rw [r5, r4]; exact nI_sb r7.1
  refine Seg.tr (Seg.cT (j := 7) (tJ0_length_7 h g) mlX6_74 iyJ0_length_8abf5 seJ0_length_8abf5 oyJ0_length_8abf5 rfl (by decide) (by decide) rfl rfl rfl rfl (Nat.le_of_ble_eq_true rfl) (Nat.le_of_ble_eq_true rfl)) ?_
  refine Seg.run [32] 400 ?_
  refine And.intro (fun z2 => ?_) (fun z2 => ?_)
  · exact stop (fun w => z2 (show h 63 7 - h 63 9 = nI 4 by rw [el, w.2.1]; rfl)) 0 (Nat.zero_le _)
  · exact loop hk ((nI_eq (by omega) (b := 4) (by decide)).mp (by rw [← el]; exact Decidable.not_not.mp z2)) 4 0 rfl (fun q hq => absurd hq (Nat.not_lt_zero _))
set_option maxRecDepth 100000 in
set_option maxHeartbeats 400000 in
theorem tJ0_coder_8 (h : aH) (g : aG) : MS mJ0_coder_7d493 1 [.ref (100 + 8)] h g [.int 0] h g := by
  refine MS.of okJ0_coder_7d493 (by decide +kernel) (Nat.le_of_ble_eq_true rfl) (by decide) rfl (by decide) ?_
  refine Seg.run [] 400 ?_
  refine And.intro (fun z => absurd z (by decide : ¬ (1 : Int32) = 0)) (fun _ => ?_)
  exact And.intro rfl Seg.rf
set_option maxRecDepth 100000 in
set_option maxHeartbeats 400000 in
theorem tJ0_isLatin1_8 (h : aH) (g : aG) : MS mJ0_isLatin1_aae02 1 [.ref (100 + 8)] h g [.int 1] h g := by
  refine MS.of okJ0_isLatin1_aae02 (by decide +kernel) (Nat.le_of_ble_eq_true rfl) (by decide) rfl (by decide) ?_
  refine Seg.run [] 400 ?_
  refine And.intro (fun z => absurd z (by decide : ¬ (1 : Int32) = 0)) (fun _ => ?_)
  refine And.intro (fun z => absurd rfl z) (fun _ => ?_)
  exact And.intro (Or.inr rfl) Seg.rf
set_option maxRecDepth 100000 in
set_option maxHeartbeats 400000 in
theorem tJ0_length_8 (h : aH) (g : aG) : MS mJ0_length_8abf5 2 [.ref (100 + 8)] h g [.int (nI 4)] h g := by
  refine MS.of okJ0_length_8abf5 (by decide +kernel) (Nat.le_of_ble_eq_true rfl) (by decide) rfl (by decide) ?_
  refine Seg.run [] 400 ?_
  refine Seg.tr (Seg.cT (j := 8) (tJ0_coder_8 h g) mlJ0_335 iyJ0_coder_7d493 seJ0_coder_7d493 oyJ0_coder_7d493 rfl (by decide) (by decide) rfl rfl rfl rfl (Nat.le_of_ble_eq_true rfl) (Nat.le_of_ble_eq_true rfl)) ?_
  refine Seg.run [] 400 ?_
  exact Seg.ri (by decide)
set_option maxRecDepth 100000 in
set_option maxHeartbeats 400000 in
theorem tJ1_charAt_8 (h : aH) (g : aG) (i : Nat) (hi : i < 4) : MS mJ1_charAt_3b067 3 [.ref (200 + 8), .int (nI i)] h g [.int (chJ 8 i)] h g := by
  refine MS.of okJ1_charAt_3b067 (by decide +kernel) (Nat.le_of_ble_eq_true rfl) (by decide) rfl (by decide) ?_
  refine Seg.run [] 400 ?_
  refine Seg.tr (Seg.cS (tJ0_checkIndex h g i 4 hi (by decide)) mlJ1_9 syJ0_checkIndex_df160 oyJ0_checkIndex_df160 rfl (by decide) rfl rfl rfl (Nat.le_of_ble_eq_true rfl) (Nat.le_of_ble_eq_true rfl)) ?_
  refine Seg.run [] 400 ?_
  refine And.intro (in10 (p := i) (n := 4) hi (by decide)) ?_
  refine And.intro (pk_nc _) ?_
  exact Seg.ri (by rw [cl10 (p := i) (by omega)]; exact ch_ok 8 (by decide) i (by omega))
set_option maxRecDepth 100000 in
set_option maxHeartbeats 400000 in
theorem tJ0_charAt_8 (h : aH) (g : aG) (i : Nat) (hi : i < 4) : MS mJ0_charAt_5068e 4 [.ref (100 + 8), .int (nI i)] h g [.int (chJ 8 i)] h g := by
  refine MS.of okJ0_charAt_5068e (by decide +kernel) (Nat.le_of_ble_eq_true rfl) (by decide) rfl (by decide) ?_
  refine Seg.run [] 400 ?_
  refine Seg.tr (Seg.cT (j := 8) (tJ0_isLatin1_8 h g) mlJ0_492 iyJ0_isLatin1_aae02 seJ0_isLatin1_aae02 oyJ0_isLatin1_aae02 rfl (by decide) (by decide) rfl rfl rfl rfl (Nat.le_of_ble_eq_true rfl) (Nat.le_of_ble_eq_true rfl)) ?_
  refine Seg.run [] 400 ?_
  refine And.intro (fun z => absurd z (by decide : ¬ (1 : Int32) = 0)) (fun _ => ?_)
  refine Seg.tr (Seg.cS (tJ1_charAt_8 h g i hi) mlJ0_495 syJ1_charAt_3b067 oyJ1_charAt_3b067 rfl (by decide) rfl rfl rfl (Nat.le_of_ble_eq_true rfl) (Nat.le_of_ble_eq_true rfl)) ?_
  refine Seg.run [] 400 ?_
  exact And.intro (by rw [← ch_ok 8 (by decide) i (by omega)]; exact pk_nc _) Seg.rf
set_option maxRecDepth 100000 in
set_option maxHeartbeats 400000 in
theorem tX1_isWord_8 {h : aH} {g : aG} {n : Nat} {b : Nat → Int32} {s e k v : Nat} (hr : RC h n b s e k v) (x : Int32) (hx : (x = 1 ∧ wdQ b s e k 8) ∨ (x = 0 ∧ ¬ wdQ b s e k 8)) : MS mX1_isWord 5 [.ref 29, .ref (100 + 8)] h g [.int x] h g := by
  obtain ⟨⟨r1, r2⟩, r3, r4, r5, r6, r7⟩ := hr
  have no : ¬ wdQ b s e k 8 → x = 0 := fun y => hx.elim (fun w => absurd w.2 y) (fun w => w.1)
  have yes : wdQ b s e k 8 → x = 1 := fun y => hx.elim (fun w => w.1) (fun w => absurd y w.2)
  have loop : k = 1 → e - s = 4 → ∀ m i, m + i = 4 → (∀ q, q < i → b (s + q) = chJ 8 q) → Seg mX1_isWord 5 (28, [some (.ref 29), some (.ref (100 + 8)), some (.int (nI i))], [], nW, h, g, ρ) (aRET, [], [.int x], nW, h, g, ρ) := by
    intro hk hl m
    induction m with
    | zero =>
      intro i hi hq
      obtain rfl : i = 4 := by omega
      refine Seg.run [] 400 ?_
      refine Seg.tr (Seg.cT (j := 8) (tJ0_length_8 h g) mlX1_68 iyJ0_length_8abf5 seJ0_length_8abf5 oyJ0_length_8abf5 rfl (by decide) (by decide) rfl rfl rfl rfl (Nat.le_of_ble_eq_true rfl) (Nat.le_of_ble_eq_true rfl)) ?_
      refine Seg.run [] 400 ?_
      refine And.intro (fun _ => ?_) (fun z => absurd (nI_le (Nat.le_refl _) (by decide)) z)
      exact And.intro (Or.inr rfl) (Seg.ri (yes ⟨hk, hl, hq⟩).symm)
    | succ m ih =>
      intro i hi hq
      have es : nI s + nI i = nI (s + i) := nI_ad _ _
      refine Seg.run [] 400 ?_
      refine Seg.tr (Seg.cT (j := 8) (tJ0_length_8 h g) mlX1_68 iyJ0_length_8abf5 seJ0_length_8abf5 oyJ0_length_8abf5 rfl (by decide) (by decide) rfl rfl rfl rfl (Nat.le_of_ble_eq_true rfl) (Nat.le_of_ble_eq_true rfl)) ?_
      refine Seg.run [28] 400 ?_
      refine And.intro (fun z => absurd z (nI_ge (by omega) (by decide))) (fun _ => ?_)
      refine And.intro (by rw [r4, es]; exact in10 (by omega) (by decide)) ?_
      rw [r4, es, cl10 (p := s + i) (by omega), r2 (s + i) (by omega)]
      refine Seg.tr (Seg.cT (j := 8) (tJ0_charAt_8 h g i (by omega)) mlX1_73 iyJ0_charAt_5068e seJ0_charAt_5068e oyJ0_charAt_5068e rfl (by decide) (by decide) rfl rfl rfl rfl (Nat.le_of_ble_eq_true rfl) (Nat.le_of_ble_eq_true rfl)) ?_
      refine Seg.run [28] 400 ?_
      refine And.intro (fun z => ?_) (fun z => ?_)
      · refine Seg.tr (Seg.of (b := (28, [some (.ref 29), some (.ref (100 + 8)), some (.int (nI (i + 1)))], [], nW, h, g, ρ)) (by rw [nI_succ i] <;> rfl)) ?_
        refine ih (i + 1) (by omega) (fun q hq2 => ?_)
        by_cases y : q = i
        · subst y; exact z
        · exact hq q (by omega)
      · exact And.intro (Or.inl rfl) (Seg.ri (no (fun w => z (w.2.2 i (show i < 4 by omega)))).symm)
  refine MS.of okX1_isWord (by decide +kernel) (Nat.le_of_ble_eq_true rfl) (by decide) rfl (by decide) ?_
  refine Seg.run [] 400 ?_
  refine And.intro (fun z => ?_) (fun z => ?_)
  · refine And.intro (Or.inl rfl) (Seg.ri (no (fun w => z (by rw [r3, w.1]; rfl))).symm)
  have hk : k = 1 := (nI_eq (by omega) (b := 1) (by decide)).mp (by rw [← r3]; exact Decidable.not_not.mp z)
  have el : h 29 4 - h 29 3 = nI (e - s) := by rw [r5, r4]; exact nI_sb r7.1
  refine Seg.tr (Seg.cT (j := 8) (tJ0_length_8 h g) mlX1_68 iyJ0_length_8abf5 seJ0_length_8abf5 oyJ0_length_8abf5 rfl (by decide) (by decide) rfl rfl rfl rfl (Nat.le_of_ble_eq_true rfl) (Nat.le_of_ble_eq_true rfl)) ?_
  refine Seg.run [28] 400 ?_
  refine And.intro (fun z2 => ?_) (fun z2 => ?_)
  · exact loop hk ((nI_eq (by omega) (b := 4) (by decide)).mp (by rw [← el]; exact z2)) 4 0 rfl (fun q hq => absurd hq (Nat.not_lt_zero _))
  · exact And.intro (Or.inl rfl) (Seg.ri (no (fun w => z2 (show h 29 4 - h 29 3 = nI 4 by rw [el, w.2.1]; rfl))).symm)
set_option maxRecDepth 100000 in
set_option maxHeartbeats 400000 in
theorem tX6_isWord_8 {h : aH} {g : aG} {n : Nat} {b : Nat → Int32} {s e k v : Nat} (hr : RM h n b s e k v) (x : Int32) (hx : (x = 1 ∧ wdQ b s e k 8) ∨ (x = 0 ∧ ¬ wdQ b s e k 8)) : MS mX6_isWord 5 [.ref 63, .ref (100 + 8)] h g [.int x] h g := by
  obtain ⟨⟨r1, r2⟩, r3, r4, r5, r6, r7⟩ := hr
  have no : ¬ wdQ b s e k 8 → x = 0 := fun y => hx.elim (fun w => absurd w.2 y) (fun w => w.1)
  have yes : wdQ b s e k 8 → x = 1 := fun y => hx.elim (fun w => w.1) (fun w => absurd y w.2)
  have stop : ¬ wdQ b s e k 8 → ∀ i, i ≤ 4 → Seg mX6_isWord 5 (32, [some (.ref 63), some (.ref (100 + 8)), some (.int 0), some (.int (nI i))], [], nW, h, g, ρ) (aRET, [], [.int x], nW, h, g, ρ) := by
    intro nw i hi
    refine Seg.run [] 400 ?_
    refine Seg.tr (Seg.cT (j := 8) (tJ0_length_8 h g) mlX6_74 iyJ0_length_8abf5 seJ0_length_8abf5 oyJ0_length_8abf5 rfl (by decide) (by decide) rfl rfl rfl rfl (Nat.le_of_ble_eq_true rfl) (Nat.le_of_ble_eq_true rfl)) ?_
    refine Seg.run [] 400 ?_
    refine And.intro (fun z => ?_) (fun z => ?_)
    · exact And.intro (Or.inl rfl) (Seg.ri (no nw).symm)
    refine And.intro (fun _ => ?_) (fun z => absurd rfl z)
    exact And.intro (Or.inl rfl) (Seg.ri (no nw).symm)
  have loop : k = 1 → e - s = 4 → ∀ m i, m + i = 4 → (∀ q, q < i → b (s + q) = chJ 8 q) → Seg mX6_isWord 5 (32, [some (.ref 63), some (.ref (100 + 8)), some (.int 1), some (.int (nI i))], [], nW, h, g, ρ) (aRET, [], [.int x], nW, h, g, ρ) := by
    intro hk hl m
    induction m with
    | zero =>
      intro i hi hq
      obtain rfl : i = 4 := by omega
      refine Seg.run [] 400 ?_
      refine Seg.tr (Seg.cT (j := 8) (tJ0_length_8 h g) mlX6_74 iyJ0_length_8abf5 seJ0_length_8abf5 oyJ0_length_8abf5 rfl (by decide) (by decide) rfl rfl rfl rfl (Nat.le_of_ble_eq_true rfl) (Nat.le_of_ble_eq_true rfl)) ?_
      refine Seg.run [] 400 ?_
      refine And.intro (fun _ => ?_) (fun z => absurd (nI_le (Nat.le_refl _) (by decide)) z)
      exact And.intro (Or.inr rfl) (Seg.ri (yes ⟨hk, hl, hq⟩).symm)
    | succ m ih =>
      intro i hi hq
      have es : nI s + nI i = nI (s + i) := nI_ad _ _
      refine Seg.run [] 400 ?_
      refine Seg.tr (Seg.cT (j := 8) (tJ0_length_8 h g) mlX6_74 iyJ0_length_8abf5 seJ0_length_8abf5 oyJ0_length_8abf5 rfl (by decide) (by decide) rfl rfl rfl rfl (Nat.le_of_ble_eq_true rfl) (Nat.le_of_ble_eq_true rfl)) ?_
      refine Seg.run [32] 400 ?_
      refine And.intro (fun z => absurd z (nI_ge (by omega) (by decide))) (fun _ => ?_)
      refine And.intro (fun z => absurd z (by decide : ¬ (1 : Int32) = 0)) (fun _ => ?_)
      refine And.intro (by rw [r4, es]; exact in10 (by omega) (by decide)) ?_
      rw [r4, es, cl10 (p := s + i) (by omega), r2 (s + i) (by omega)]
      refine Seg.tr (Seg.cT (j := 8) (tJ0_charAt_8 h g i (by omega)) mlX6_80 iyJ0_charAt_5068e seJ0_charAt_5068e oyJ0_charAt_5068e rfl (by decide) (by decide) rfl rfl rfl rfl (Nat.le_of_ble_eq_true rfl) (Nat.le_of_ble_eq_true rfl)) ?_
      refine Seg.run [32] 400 ?_
      refine And.intro (fun z => ?_) (fun z => ?_)
      · refine Seg.tr (Seg.of (b := (32, [some (.ref 63), some (.ref (100 + 8)), some (.int 0), some (.int (nI (i + 1)))], [], nW, h, g, ρ)) (by rw [nI_succ i] <;> rfl)) ?_
        exact stop (fun w => z (w.2.2 i (show i < 4 by omega))) (i + 1) (by omega)
      · refine Seg.tr (Seg.of (b := (32, [some (.ref 63), some (.ref (100 + 8)), some (.int 1), some (.int (nI (i + 1)))], [], nW, h, g, ρ)) (by rw [nI_succ i] <;> rfl)) ?_
        refine ih (i + 1) (by omega) (fun q hq2 => ?_)
        by_cases y : q = i
        · subst y; exact Decidable.not_not.mp z
        · exact hq q (by omega)
  refine MS.of okX6_isWord (by decide +kernel) (Nat.le_of_ble_eq_true rfl) (by decide) rfl (by decide) ?_
  refine Seg.run [32] 400 ?_
  refine And.intro (fun z => ?_) (fun z => ?_)
  · exact stop (fun w => z (by rw [r3, w.1]; rfl)) 0 (Nat.zero_le _)
  have hk : k = 1 := (nI_eq (by omega) (b := 1) (by decide)).mp (by rw [← r3]; exact Decidable.not_not.mp z)
  have el : h 63 7 - h 63 9 = nI (e - s) := by rw [r5, r4]; exact nI_sb r7.1
  refine Seg.tr (Seg.cT (j := 8) (tJ0_length_8 h g) mlX6_74 iyJ0_length_8abf5 seJ0_length_8abf5 oyJ0_length_8abf5 rfl (by decide) (by decide) rfl rfl rfl rfl (Nat.le_of_ble_eq_true rfl) (Nat.le_of_ble_eq_true rfl)) ?_
  refine Seg.run [32] 400 ?_
  refine And.intro (fun z2 => ?_) (fun z2 => ?_)
  · exact stop (fun w => z2 (show h 63 7 - h 63 9 = nI 4 by rw [el, w.2.1]; rfl)) 0 (Nat.zero_le _)
  · exact loop hk ((nI_eq (by omega) (b := 4) (by decide)).mp (by rw [← el]; exact Decidable.not_not.mp z2)) 4 0 rfl (fun q hq => absurd hq (Nat.not_lt_zero _))
set_option maxRecDepth 100000 in
set_option maxHeartbeats 400000 in
theorem tJ0_coder_9 (h : aH) (g : aG) : MS mJ0_coder_7d493 1 [.ref (100 + 9)] h g [.int 0] h g := by
  refine MS.of okJ0_coder_7d493 (by decide +kernel) (Nat.le_of_ble_eq_true rfl) (by decide) rfl (by decide) ?_
  refine Seg.run [] 400 ?_
  refine And.intro (fun z => absurd z (by decide : ¬ (1 : Int32) = 0)) (fun _ => ?_)
  exact And.intro rfl Seg.rf
set_option maxRecDepth 100000 in
set_option maxHeartbeats 400000 in
theorem tJ0_isLatin1_9 (h : aH) (g : aG) : MS mJ0_isLatin1_aae02 1 [.ref (100 + 9)] h g [.int 1] h g := by
  refine MS.of okJ0_isLatin1_aae02 (by decide +kernel) (Nat.le_of_ble_eq_true rfl) (by decide) rfl (by decide) ?_
  refine Seg.run [] 400 ?_
  refine And.intro (fun z => absurd z (by decide : ¬ (1 : Int32) = 0)) (fun _ => ?_)
  refine And.intro (fun z => absurd rfl z) (fun _ => ?_)
  exact And.intro (Or.inr rfl) Seg.rf
set_option maxRecDepth 100000 in
set_option maxHeartbeats 400000 in
theorem tJ0_length_9 (h : aH) (g : aG) : MS mJ0_length_8abf5 2 [.ref (100 + 9)] h g [.int (nI 2)] h g := by
  refine MS.of okJ0_length_8abf5 (by decide +kernel) (Nat.le_of_ble_eq_true rfl) (by decide) rfl (by decide) ?_
  refine Seg.run [] 400 ?_
  refine Seg.tr (Seg.cT (j := 9) (tJ0_coder_9 h g) mlJ0_335 iyJ0_coder_7d493 seJ0_coder_7d493 oyJ0_coder_7d493 rfl (by decide) (by decide) rfl rfl rfl rfl (Nat.le_of_ble_eq_true rfl) (Nat.le_of_ble_eq_true rfl)) ?_
  refine Seg.run [] 400 ?_
  exact Seg.ri (by decide)
set_option maxRecDepth 100000 in
set_option maxHeartbeats 400000 in
theorem tJ1_charAt_9 (h : aH) (g : aG) (i : Nat) (hi : i < 2) : MS mJ1_charAt_3b067 3 [.ref (200 + 9), .int (nI i)] h g [.int (chJ 9 i)] h g := by
  refine MS.of okJ1_charAt_3b067 (by decide +kernel) (Nat.le_of_ble_eq_true rfl) (by decide) rfl (by decide) ?_
  refine Seg.run [] 400 ?_
  refine Seg.tr (Seg.cS (tJ0_checkIndex h g i 2 hi (by decide)) mlJ1_9 syJ0_checkIndex_df160 oyJ0_checkIndex_df160 rfl (by decide) rfl rfl rfl (Nat.le_of_ble_eq_true rfl) (Nat.le_of_ble_eq_true rfl)) ?_
  refine Seg.run [] 400 ?_
  refine And.intro (in10 (p := i) (n := 2) hi (by decide)) ?_
  refine And.intro (pk_nc _) ?_
  exact Seg.ri (by rw [cl10 (p := i) (by omega)]; exact ch_ok 9 (by decide) i (by omega))
set_option maxRecDepth 100000 in
set_option maxHeartbeats 400000 in
theorem tJ0_charAt_9 (h : aH) (g : aG) (i : Nat) (hi : i < 2) : MS mJ0_charAt_5068e 4 [.ref (100 + 9), .int (nI i)] h g [.int (chJ 9 i)] h g := by
  refine MS.of okJ0_charAt_5068e (by decide +kernel) (Nat.le_of_ble_eq_true rfl) (by decide) rfl (by decide) ?_
  refine Seg.run [] 400 ?_
  refine Seg.tr (Seg.cT (j := 9) (tJ0_isLatin1_9 h g) mlJ0_492 iyJ0_isLatin1_aae02 seJ0_isLatin1_aae02 oyJ0_isLatin1_aae02 rfl (by decide) (by decide) rfl rfl rfl rfl (Nat.le_of_ble_eq_true rfl) (Nat.le_of_ble_eq_true rfl)) ?_
  refine Seg.run [] 400 ?_
  refine And.intro (fun z => absurd z (by decide : ¬ (1 : Int32) = 0)) (fun _ => ?_)
  refine Seg.tr (Seg.cS (tJ1_charAt_9 h g i hi) mlJ0_495 syJ1_charAt_3b067 oyJ1_charAt_3b067 rfl (by decide) rfl rfl rfl (Nat.le_of_ble_eq_true rfl) (Nat.le_of_ble_eq_true rfl)) ?_
  refine Seg.run [] 400 ?_
  exact And.intro (by rw [← ch_ok 9 (by decide) i (by omega)]; exact pk_nc _) Seg.rf
set_option maxRecDepth 100000 in
set_option maxHeartbeats 400000 in
theorem tX1_isWord_9 {h : aH} {g : aG} {n : Nat} {b : Nat → Int32} {s e k v : Nat} (hr : RC h n b s e k v) (x : Int32) (hx : (x = 1 ∧ wdQ b s e k 9) ∨ (x = 0 ∧ ¬ wdQ b s e k 9)) : MS mX1_isWord 5 [.ref 29, .ref (100 + 9)] h g [.int x] h g := by
  obtain ⟨⟨r1, r2⟩, r3, r4, r5, r6, r7⟩ := hr
  have no : ¬ wdQ b s e k 9 → x = 0 := fun y => hx.elim (fun w => absurd w.2 y) (fun w => w.1)
  have yes : wdQ b s e k 9 → x = 1 := fun y => hx.elim (fun w => w.1) (fun w => absurd y w.2)
  have loop : k = 1 → e - s = 2 → ∀ m i, m + i = 2 → (∀ q, q < i → b (s + q) = chJ 9 q) → Seg mX1_isWord 5 (28, [some (.ref 29), some (.ref (100 + 9)), some (.int (nI i))], [], nW, h, g, ρ) (aRET, [], [.int x], nW, h, g, ρ) := by
    intro hk hl m
    induction m with
    | zero =>
      intro i hi hq
      obtain rfl : i = 2 := by omega
      refine Seg.run [] 400 ?_
      refine Seg.tr (Seg.cT (j := 9) (tJ0_length_9 h g) mlX1_68 iyJ0_length_8abf5 seJ0_length_8abf5 oyJ0_length_8abf5 rfl (by decide) (by decide) rfl rfl rfl rfl (Nat.le_of_ble_eq_true rfl) (Nat.le_of_ble_eq_true rfl)) ?_
      refine Seg.run [] 400 ?_
      refine And.intro (fun _ => ?_) (fun z => absurd (nI_le (Nat.le_refl _) (by decide)) z)
      exact And.intro (Or.inr rfl) (Seg.ri (yes ⟨hk, hl, hq⟩).symm)
    | succ m ih =>
      intro i hi hq
      have es : nI s + nI i = nI (s + i) := nI_ad _ _
      refine Seg.run [] 400 ?_
      refine Seg.tr (Seg.cT (j := 9) (tJ0_length_9 h g) mlX1_68 iyJ0_length_8abf5 seJ0_length_8abf5 oyJ0_length_8abf5 rfl (by decide) (by decide) rfl rfl rfl rfl (Nat.le_of_ble_eq_true rfl) (Nat.le_of_ble_eq_true rfl)) ?_
      refine Seg.run [28] 400 ?_
      refine And.intro (fun z => absurd z (nI_ge (by omega) (by decide))) (fun _ => ?_)
      refine And.intro (by rw [r4, es]; exact in10 (by omega) (by decide)) ?_
      rw [r4, es, cl10 (p := s + i) (by omega), r2 (s + i) (by omega)]
      refine Seg.tr (Seg.cT (j := 9) (tJ0_charAt_9 h g i (by omega)) mlX1_73 iyJ0_charAt_5068e seJ0_charAt_5068e oyJ0_charAt_5068e rfl (by decide) (by decide) rfl rfl rfl rfl (Nat.le_of_ble_eq_true rfl) (Nat.le_of_ble_eq_true rfl)) ?_
      refine Seg.run [28] 400 ?_
      refine And.intro (fun z => ?_) (fun z => ?_)
      · refine Seg.tr (Seg.of (b := (28, [some (.ref 29), some (.ref (100 + 9)), some (.int (nI (i + 1)))], [], nW, h, g, ρ)) (by rw [nI_succ i] <;> rfl)) ?_
        refine ih (i + 1) (by omega) (fun q hq2 => ?_)
        by_cases y : q = i
        · subst y; exact z
        · exact hq q (by omega)
      · exact And.intro (Or.inl rfl) (Seg.ri (no (fun w => z (w.2.2 i (show i < 2 by omega)))).symm)
  refine MS.of okX1_isWord (by decide +kernel) (Nat.le_of_ble_eq_true rfl) (by decide) rfl (by decide) ?_
  refine Seg.run [] 400 ?_
  refine And.intro (fun z => ?_) (fun z => ?_)
  · refine And.intro (Or.inl rfl) (Seg.ri (no (fun w => z (by rw [r3, w.1]; rfl))).symm)
  have hk : k = 1 := (nI_eq (by omega) (b := 1) (by decide)).mp (by rw [← r3]; exact Decidable.not_not.mp z)
  have el : h 29 4 - h 29 3 = nI (e - s) := by rw [r5, r4]; exact nI_sb r7.1
  refine Seg.tr (Seg.cT (j := 9) (tJ0_length_9 h g) mlX1_68 iyJ0_length_8abf5 seJ0_length_8abf5 oyJ0_length_8abf5 rfl (by decide) (by decide) rfl rfl rfl rfl (Nat.le_of_ble_eq_true rfl) (Nat.le_of_ble_eq_true rfl)) ?_
  refine Seg.run [28] 400 ?_
  refine And.intro (fun z2 => ?_) (fun z2 => ?_)
  · exact loop hk ((nI_eq (by omega) (b := 2) (by decide)).mp (by rw [← el]; exact z2)) 2 0 rfl (fun q hq => absurd hq (Nat.not_lt_zero _))
  · exact And.intro (Or.inl rfl) (Seg.ri (no (fun w => z2 (show h 29 4 - h 29 3 = nI 2 by rw [el, w.2.1]; rfl))).symm)
set_option maxRecDepth 100000 in
set_option maxHeartbeats 400000 in
theorem tX6_isWord_9 {h : aH} {g : aG} {n : Nat} {b : Nat → Int32} {s e k v : Nat} (hr : RM h n b s e k v) (x : Int32) (hx : (x = 1 ∧ wdQ b s e k 9) ∨ (x = 0 ∧ ¬ wdQ b s e k 9)) : MS mX6_isWord 5 [.ref 63, .ref (100 + 9)] h g [.int x] h g := by
  obtain ⟨⟨r1, r2⟩, r3, r4, r5, r6, r7⟩ := hr
  have no : ¬ wdQ b s e k 9 → x = 0 := fun y => hx.elim (fun w => absurd w.2 y) (fun w => w.1)
  have yes : wdQ b s e k 9 → x = 1 := fun y => hx.elim (fun w => w.1) (fun w => absurd y w.2)
  have stop : ¬ wdQ b s e k 9 → ∀ i, i ≤ 2 → Seg mX6_isWord 5 (32, [some (.ref 63), some (.ref (100 + 9)), some (.int 0), some (.int (nI i))], [], nW, h, g, ρ) (aRET, [], [.int x], nW, h, g, ρ) := by
    intro nw i hi
    refine Seg.run [] 400 ?_
    refine Seg.tr (Seg.cT (j := 9) (tJ0_length_9 h g) mlX6_74 iyJ0_length_8abf5 seJ0_length_8abf5 oyJ0_length_8abf5 rfl (by decide) (by decide) rfl rfl rfl rfl (Nat.le_of_ble_eq_true rfl) (Nat.le_of_ble_eq_true rfl)) ?_
    refine Seg.run [] 400 ?_
    refine And.intro (fun z => ?_) (fun z => ?_)
    · exact And.intro (Or.inl rfl) (Seg.ri (no nw).symm)
    refine And.intro (fun _ => ?_) (fun z => absurd rfl z)
    exact And.intro (Or.inl rfl) (Seg.ri (no nw).symm)
  have loop : k = 1 → e - s = 2 → ∀ m i, m + i = 2 → (∀ q, q < i → b (s + q) = chJ 9 q) → Seg mX6_isWord 5 (32, [some (.ref 63), some (.ref (100 + 9)), some (.int 1), some (.int (nI i))], [], nW, h, g, ρ) (aRET, [], [.int x], nW, h, g, ρ) := by
    intro hk hl m
    induction m with
    | zero =>
      intro i hi hq
      obtain rfl : i = 2 := by omega
      refine Seg.run [] 400 ?_
      refine Seg.tr (Seg.cT (j := 9) (tJ0_length_9 h g) mlX6_74 iyJ0_length_8abf5 seJ0_length_8abf5 oyJ0_length_8abf5 rfl (by decide) (by decide) rfl rfl rfl rfl (Nat.le_of_ble_eq_true rfl) (Nat.le_of_ble_eq_true rfl)) ?_
      refine Seg.run [] 400 ?_
      refine And.intro (fun _ => ?_) (fun z => absurd (nI_le (Nat.le_refl _) (by decide)) z)
      exact And.intro (Or.inr rfl) (Seg.ri (yes ⟨hk, hl, hq⟩).symm)
    | succ m ih =>
      intro i hi hq
      have es : nI s + nI i = nI (s + i) := nI_ad _ _
      refine Seg.run [] 400 ?_
      refine Seg.tr (Seg.cT (j := 9) (tJ0_length_9 h g) mlX6_74 iyJ0_length_8abf5 seJ0_length_8abf5 oyJ0_length_8abf5 rfl (by decide) (by decide) rfl rfl rfl rfl (Nat.le_of_ble_eq_true rfl) (Nat.le_of_ble_eq_true rfl)) ?_
      refine Seg.run [32] 400 ?_
      refine And.intro (fun z => absurd z (nI_ge (by omega) (by decide))) (fun _ => ?_)
      refine And.intro (fun z => absurd z (by decide : ¬ (1 : Int32) = 0)) (fun _ => ?_)
      refine And.intro (by rw [r4, es]; exact in10 (by omega) (by decide)) ?_
      rw [r4, es, cl10 (p := s + i) (by omega), r2 (s + i) (by omega)]
      refine Seg.tr (Seg.cT (j := 9) (tJ0_charAt_9 h g i (by omega)) mlX6_80 iyJ0_charAt_5068e seJ0_charAt_5068e oyJ0_charAt_5068e rfl (by decide) (by decide) rfl rfl rfl rfl (Nat.le_of_ble_eq_true rfl) (Nat.le_of_ble_eq_true rfl)) ?_
      refine Seg.run [32] 400 ?_
      refine And.intro (fun z => ?_) (fun z => ?_)
      · refine Seg.tr (Seg.of (b := (32, [some (.ref 63), some (.ref (100 + 9)), some (.int 0), some (.int (nI (i + 1)))], [], nW, h, g, ρ)) (by rw [nI_succ i] <;> rfl)) ?_
        exact stop (fun w => z (w.2.2 i (show i < 2 by omega))) (i + 1) (by omega)
      · refine Seg.tr (Seg.of (b := (32, [some (.ref 63), some (.ref (100 + 9)), some (.int 1), some (.int (nI (i + 1)))], [], nW, h, g, ρ)) (by rw [nI_succ i] <;> rfl)) ?_
        refine ih (i + 1) (by omega) (fun q hq2 => ?_)
        by_cases y : q = i
        · subst y; exact Decidable.not_not.mp z
        · exact hq q (by omega)
  refine MS.of okX6_isWord (by decide +kernel) (Nat.le_of_ble_eq_true rfl) (by decide) rfl (by decide) ?_
  refine Seg.run [32] 400 ?_
  refine And.intro (fun z => ?_) (fun z => ?_)
  · exact stop (fun w => z (by rw [r3, w.1]; rfl)) 0 (Nat.zero_le _)
  have hk : k = 1 := (nI_eq (by omega) (b := 1) (by decide)).mp (by rw [← r3]; exact Decidable.not_not.mp z)
  have el : h 63 7 - h 63 9 = nI (e - s) := by rw [r5, r4]; exact nI_sb r7.1
  refine Seg.tr (Seg.cT (j := 9) (tJ0_length_9 h g) mlX6_74 iyJ0_length_8abf5 seJ0_length_8abf5 oyJ0_length_8abf5 rfl (by decide) (by decide) rfl rfl rfl rfl (Nat.le_of_ble_eq_true rfl) (Nat.le_of_ble_eq_true rfl)) ?_
  refine Seg.run [32] 400 ?_
  refine And.intro (fun z2 => ?_) (fun z2 => ?_)
  · exact stop (fun w => z2 (show h 63 7 - h 63 9 = nI 2 by rw [el, w.2.1]; rfl)) 0 (Nat.zero_le _)
  · exact loop hk ((nI_eq (by omega) (b := 2) (by decide)).mp (by rw [← el]; exact Decidable.not_not.mp z2)) 2 0 rfl (fun q hq => absurd hq (Nat.not_lt_zero _))
set_option maxRecDepth 100000 in
set_option maxHeartbeats 400000 in
theorem tJ0_coder_10 (h : aH) (g : aG) : MS mJ0_coder_7d493 1 [.ref (100 + 10)] h g [.int 0] h g := by
  refine MS.of okJ0_coder_7d493 (by decide +kernel) (Nat.le_of_ble_eq_true rfl) (by decide) rfl (by decide) ?_
  refine Seg.run [] 400 ?_
  refine And.intro (fun z => absurd z (by decide : ¬ (1 : Int32) = 0)) (fun _ => ?_)
  exact And.intro rfl Seg.rf
set_option maxRecDepth 100000 in
set_option maxHeartbeats 400000 in
theorem tJ0_isLatin1_10 (h : aH) (g : aG) : MS mJ0_isLatin1_aae02 1 [.ref (100 + 10)] h g [.int 1] h g := by
  refine MS.of okJ0_isLatin1_aae02 (by decide +kernel) (Nat.le_of_ble_eq_true rfl) (by decide) rfl (by decide) ?_
  refine Seg.run [] 400 ?_
  refine And.intro (fun z => absurd z (by decide : ¬ (1 : Int32) = 0)) (fun _ => ?_)
  refine And.intro (fun z => absurd rfl z) (fun _ => ?_)
  exact And.intro (Or.inr rfl) Seg.rf
set_option maxRecDepth 100000 in
set_option maxHeartbeats 400000 in
theorem tJ0_length_10 (h : aH) (g : aG) : MS mJ0_length_8abf5 2 [.ref (100 + 10)] h g [.int (nI 4)] h g := by
  refine MS.of okJ0_length_8abf5 (by decide +kernel) (Nat.le_of_ble_eq_true rfl) (by decide) rfl (by decide) ?_
  refine Seg.run [] 400 ?_
  refine Seg.tr (Seg.cT (j := 10) (tJ0_coder_10 h g) mlJ0_335 iyJ0_coder_7d493 seJ0_coder_7d493 oyJ0_coder_7d493 rfl (by decide) (by decide) rfl rfl rfl rfl (Nat.le_of_ble_eq_true rfl) (Nat.le_of_ble_eq_true rfl)) ?_
  refine Seg.run [] 400 ?_
  exact Seg.ri (by decide)
set_option maxRecDepth 100000 in
set_option maxHeartbeats 400000 in
theorem tJ1_charAt_10 (h : aH) (g : aG) (i : Nat) (hi : i < 4) : MS mJ1_charAt_3b067 3 [.ref (200 + 10), .int (nI i)] h g [.int (chJ 10 i)] h g := by
  refine MS.of okJ1_charAt_3b067 (by decide +kernel) (Nat.le_of_ble_eq_true rfl) (by decide) rfl (by decide) ?_
  refine Seg.run [] 400 ?_
  refine Seg.tr (Seg.cS (tJ0_checkIndex h g i 4 hi (by decide)) mlJ1_9 syJ0_checkIndex_df160 oyJ0_checkIndex_df160 rfl (by decide) rfl rfl rfl (Nat.le_of_ble_eq_true rfl) (Nat.le_of_ble_eq_true rfl)) ?_
  refine Seg.run [] 400 ?_
  refine And.intro (in10 (p := i) (n := 4) hi (by decide)) ?_
  refine And.intro (pk_nc _) ?_
  exact Seg.ri (by rw [cl10 (p := i) (by omega)]; exact ch_ok 10 (by decide) i (by omega))
set_option maxRecDepth 100000 in
set_option maxHeartbeats 400000 in
theorem tJ0_charAt_10 (h : aH) (g : aG) (i : Nat) (hi : i < 4) : MS mJ0_charAt_5068e 4 [.ref (100 + 10), .int (nI i)] h g [.int (chJ 10 i)] h g := by
  refine MS.of okJ0_charAt_5068e (by decide +kernel) (Nat.le_of_ble_eq_true rfl) (by decide) rfl (by decide) ?_
  refine Seg.run [] 400 ?_
  refine Seg.tr (Seg.cT (j := 10) (tJ0_isLatin1_10 h g) mlJ0_492 iyJ0_isLatin1_aae02 seJ0_isLatin1_aae02 oyJ0_isLatin1_aae02 rfl (by decide) (by decide) rfl rfl rfl rfl (Nat.le_of_ble_eq_true rfl) (Nat.le_of_ble_eq_true rfl)) ?_
  refine Seg.run [] 400 ?_
  refine And.intro (fun z => absurd z (by decide : ¬ (1 : Int32) = 0)) (fun _ => ?_)
  refine Seg.tr (Seg.cS (tJ1_charAt_10 h g i hi) mlJ0_495 syJ1_charAt_3b067 oyJ1_charAt_3b067 rfl (by decide) rfl rfl rfl (Nat.le_of_ble_eq_true rfl) (Nat.le_of_ble_eq_true rfl)) ?_
  refine Seg.run [] 400 ?_
  exact And.intro (by rw [← ch_ok 10 (by decide) i (by omega)]; exact pk_nc _) Seg.rf
set_option maxRecDepth 100000 in
set_option maxHeartbeats 400000 in
theorem tX1_isWord_10 {h : aH} {g : aG} {n : Nat} {b : Nat → Int32} {s e k v : Nat} (hr : RC h n b s e k v) (x : Int32) (hx : (x = 1 ∧ wdQ b s e k 10) ∨ (x = 0 ∧ ¬ wdQ b s e k 10)) : MS mX1_isWord 5 [.ref 29, .ref (100 + 10)] h g [.int x] h g := by
  obtain ⟨⟨r1, r2⟩, r3, r4, r5, r6, r7⟩ := hr
  have no : ¬ wdQ b s e k 10 → x = 0 := fun y => hx.elim (fun w => absurd w.2 y) (fun w => w.1)
  have yes : wdQ b s e k 10 → x = 1 := fun y => hx.elim (fun w => w.1) (fun w => absurd y w.2)
  have loop : k = 1 → e - s = 4 → ∀ m i, m + i = 4 → (∀ q, q < i → b (s + q) = chJ 10 q) → Seg mX1_isWord 5 (28, [some (.ref 29), some (.ref (100 + 10)), some (.int (nI i))], [], nW, h, g, ρ) (aRET, [], [.int x], nW, h, g, ρ) := by
    intro hk hl m
    induction m with
    | zero =>
      intro i hi hq
      obtain rfl : i = 4 := by omega
      refine Seg.run [] 400 ?_
      refine Seg.tr (Seg.cT (j := 10) (tJ0_length_10 h g) mlX1_68 iyJ0_length_8abf5 seJ0_length_8abf5 oyJ0_length_8abf5 rfl (by decide) (by decide) rfl rfl rfl rfl (Nat.le_of_ble_eq_true rfl) (Nat.le_of_ble_eq_true rfl)) ?_
      refine Seg.run [] 400 ?_
      refine And.intro (fun _ => ?_) (fun z => absurd (nI_le (Nat.le_refl _) (by decide)) z)
      exact And.intro (Or.inr rfl) (Seg.ri (yes ⟨hk, hl, hq⟩).symm)
    | succ m ih =>
      intro i hi hq
      have es : nI s + nI i = nI (s + i) := nI_ad _ _
      refine Seg.run [] 400 ?_
      refine Seg.tr (Seg.cT (j := 10) (tJ0_length_10 h g) mlX1_68 iyJ0_length_8abf5 seJ0_length_8abf5 oyJ0_length_8abf5 rfl (by decide) (by decide) rfl rfl rfl rfl (Nat.le_of_ble_eq_true rfl) (Nat.le_of_ble_eq_true rfl)) ?_
      refine Seg.run [28] 400 ?_
      refine And.intro (fun z => absurd z (nI_ge (by omega) (by decide))) (fun _ => ?_)
      refine And.intro (by rw [r4, es]; exact in10 (by omega) (by decide)) ?_
      rw [r4, es, cl10 (p := s + i) (by omega), r2 (s + i) (by omega)]
      refine Seg.tr (Seg.cT (j := 10) (tJ0_charAt_10 h g i (by omega)) mlX1_73 iyJ0_charAt_5068e seJ0_charAt_5068e oyJ0_charAt_5068e rfl (by decide) (by decide) rfl rfl rfl rfl (Nat.le_of_ble_eq_true rfl) (Nat.le_of_ble_eq_true rfl)) ?_
      refine Seg.run [28] 400 ?_
      refine And.intro (fun z => ?_) (fun z => ?_)
      · refine Seg.tr (Seg.of (b := (28, [some (.ref 29), some (.ref (100 + 10)), some (.int (nI (i + 1)))], [], nW, h, g, ρ)) (by rw [nI_succ i] <;> rfl)) ?_
        refine ih (i + 1) (by omega) (fun q hq2 => ?_)
        by_cases y : q = i
        · subst y; exact z
        · exact hq q (by omega)
      · exact And.intro (Or.inl rfl) (Seg.ri (no (fun w => z (w.2.2 i (show i < 4 by omega)))).symm)
  refine MS.of okX1_isWord (by decide +kernel) (Nat.le_of_ble_eq_true rfl) (by decide) rfl (by decide) ?_
  refine Seg.run [] 400 ?_
  refine And.intro (fun z => ?_) (fun z => ?_)
  · refine And.intro (Or.inl rfl) (Seg.ri (no (fun w => z (by rw [r3, w.1]; rfl))).symm)
  have hk : k = 1 := (nI_eq (by omega) (b := 1) (by decide)).mp (by rw [← r3]; exact Decidable.not_not.mp z)
  have el : h 29 4 - h 29 3 = nI (e - s) := by rw [r5, r4]; exact nI_sb r7.1
  refine Seg.tr (Seg.cT (j := 10) (tJ0_length_10 h g) mlX1_68 iyJ0_length_8abf5 seJ0_length_8abf5 oyJ0_length_8abf5 rfl (by decide) (by decide) rfl rfl rfl rfl (Nat.le_of_ble_eq_true rfl) (Nat.le_of_ble_eq_true rfl)) ?_
  refine Seg.run [28] 400 ?_
  refine And.intro (fun z2 => ?_) (fun z2 => ?_)
  · exact loop hk ((nI_eq (by omega) (b := 4) (by decide)).mp (by rw [← el]; exact z2)) 4 0 rfl (fun q hq => absurd hq (Nat.not_lt_zero _))
  · exact And.intro (Or.inl rfl) (Seg.ri (no (fun w => z2 (show h 29 4 - h 29 3 = nI 4 by rw [el, w.2.1]; rfl))).symm)
set_option maxRecDepth 100000 in
set_option maxHeartbeats 400000 in
theorem tX6_isWord_10 {h : aH} {g : aG} {n : Nat} {b : Nat → Int32} {s e k v : Nat} (hr : RM h n b s e k v) (x : Int32) (hx : (x = 1 ∧ wdQ b s e k 10) ∨ (x = 0 ∧ ¬ wdQ b s e k 10)) : MS mX6_isWord 5 [.ref 63, .ref (100 + 10)] h g [.int x] h g := by
  obtain ⟨⟨r1, r2⟩, r3, r4, r5, r6, r7⟩ := hr
  have no : ¬ wdQ b s e k 10 → x = 0 := fun y => hx.elim (fun w => absurd w.2 y) (fun w => w.1)
  have yes : wdQ b s e k 10 → x = 1 := fun y => hx.elim (fun w => w.1) (fun w => absurd y w.2)
  have stop : ¬ wdQ b s e k 10 → ∀ i, i ≤ 4 → Seg mX6_isWord 5 (32, [some (.ref 63), some (.ref (100 + 10)), some (.int 0), some (.int (nI i))], [], nW, h, g, ρ) (aRET, [], [.int x], nW, h, g, ρ) := by
    intro nw i hi
    refine Seg.run [] 400 ?_
    refine Seg.tr (Seg.cT (j := 10) (tJ0_length_10 h g) mlX6_74 iyJ0_length_8abf5 seJ0_length_8abf5 oyJ0_length_8abf5 rfl (by decide) (by decide) rfl rfl rfl rfl (Nat.le_of_ble_eq_true rfl) (Nat.le_of_ble_eq_true rfl)) ?_
    refine Seg.run [] 400 ?_
    refine And.intro (fun z => ?_) (fun z => ?_)
    · exact And.intro (Or.inl rfl) (Seg.ri (no nw).symm)
    refine And.intro (fun _ => ?_) (fun z => absurd rfl z)
    exact And.intro (Or.inl rfl) (Seg.ri (no nw).symm)
  have loop : k = 1 → e - s = 4 → ∀ m i, m + i = 4 → (∀ q, q < i → b (s + q) = chJ 10 q) → Seg mX6_isWord 5 (32, [some (.ref 63), some (.ref (100 + 10)), some (.int 1), some (.int (nI i))], [], nW, h, g, ρ) (aRET, [], [.int x], nW, h, g, ρ) := by
    intro hk hl m
    induction m with
    | zero =>
      intro i hi hq
      obtain rfl : i = 4 := by omega
      refine Seg.run [] 400 ?_
      refine Seg.tr (Seg.cT (j := 10) (tJ0_length_10 h g) mlX6_74 iyJ0_length_8abf5 seJ0_length_8abf5 oyJ0_length_8abf5 rfl (by decide) (by decide) rfl rfl rfl rfl (Nat.le_of_ble_eq_true rfl) (Nat.le_of_ble_eq_true rfl)) ?_
      refine Seg.run [] 400 ?_
      refine And.intro (fun _ => ?_) (fun z => absurd (nI_le (Nat.le_refl _) (by decide)) z)
      exact And.intro (Or.inr rfl) (Seg.ri (yes ⟨hk, hl, hq⟩).symm)
    | succ m ih =>
      intro i hi hq
      have es : nI s + nI i = nI (s + i) := nI_ad _ _
      refine Seg.run [] 400 ?_
      refine Seg.tr (Seg.cT (j := 10) (tJ0_length_10 h g) mlX6_74 iyJ0_length_8abf5 seJ0_length_8abf5 oyJ0_length_8abf5 rfl (by decide) (by decide) rfl rfl rfl rfl (Nat.le_of_ble_eq_true rfl) (Nat.le_of_ble_eq_true rfl)) ?_
      refine Seg.run [32] 400 ?_
      refine And.intro (fun z => absurd z (nI_ge (by omega) (by decide))) (fun _ => ?_)
      refine And.intro (fun z => absurd z (by decide : ¬ (1 : Int32) = 0)) (fun _ => ?_)
      refine And.intro (by rw [r4, es]; exact in10 (by omega) (by decide)) ?_
      rw [r4, es, cl10 (p := s + i) (by omega), r2 (s + i) (by omega)]
      refine Seg.tr (Seg.cT (j := 10) (tJ0_charAt_10 h g i (by omega)) mlX6_80 iyJ0_charAt_5068e seJ0_charAt_5068e oyJ0_charAt_5068e rfl (by decide) (by decide) rfl rfl rfl rfl (Nat.le_of_ble_eq_true rfl) (Nat.le_of_ble_eq_true rfl)) ?_
      refine Seg.run [32] 400 ?_
      refine And.intro (fun z => ?_) (fun z => ?_)
      · refine Seg.tr (Seg.of (b := (32, [some (.ref 63), some (.ref (100 + 10)), some (.int 0), some (.int (nI (i + 1)))], [], nW, h, g, ρ)) (by rw [nI_succ i] <;> rfl)) ?_
        exact stop (fun w => z (w.2.2 i (show i < 4 by omega))) (i + 1) (by omega)
      · refine Seg.tr (Seg.of (b := (32, [some (.ref 63), some (.ref (100 + 10)), some (.int 1), some (.int (nI (i + 1)))], [], nW, h, g, ρ)) (by rw [nI_succ i] <;> rfl)) ?_
        refine ih (i + 1) (by omega) (fun q hq2 => ?_)
        by_cases y : q = i
        · subst y; exact Decidable.not_not.mp z
        · exact hq q (by omega)
  refine MS.of okX6_isWord (by decide +kernel) (Nat.le_of_ble_eq_true rfl) (by decide) rfl (by decide) ?_
  refine Seg.run [32] 400 ?_
  refine And.intro (fun z => ?_) (fun z => ?_)
  · exact stop (fun w => z (by rw [r3, w.1]; rfl)) 0 (Nat.zero_le _)
  have hk : k = 1 := (nI_eq (by omega) (b := 1) (by decide)).mp (by rw [← r3]; exact Decidable.not_not.mp z)
  have el : h 63 7 - h 63 9 = nI (e - s) := by rw [r5, r4]; exact nI_sb r7.1
  refine Seg.tr (Seg.cT (j := 10) (tJ0_length_10 h g) mlX6_74 iyJ0_length_8abf5 seJ0_length_8abf5 oyJ0_length_8abf5 rfl (by decide) (by decide) rfl rfl rfl rfl (Nat.le_of_ble_eq_true rfl) (Nat.le_of_ble_eq_true rfl)) ?_
  refine Seg.run [32] 400 ?_
  refine And.intro (fun z2 => ?_) (fun z2 => ?_)
  · exact stop (fun w => z2 (show h 63 7 - h 63 9 = nI 4 by rw [el, w.2.1]; rfl)) 0 (Nat.zero_le _)
  · exact loop hk ((nI_eq (by omega) (b := 4) (by decide)).mp (by rw [← el]; exact Decidable.not_not.mp z2)) 4 0 rfl (fun q hq => absurd hq (Nat.not_lt_zero _))
set_option maxRecDepth 100000 in
set_option maxHeartbeats 400000 in
theorem tJ0_coder_11 (h : aH) (g : aG) : MS mJ0_coder_7d493 1 [.ref (100 + 11)] h g [.int 0] h g := by
  refine MS.of okJ0_coder_7d493 (by decide +kernel) (Nat.le_of_ble_eq_true rfl) (by decide) rfl (by decide) ?_
  refine Seg.run [] 400 ?_
  refine And.intro (fun z => absurd z (by decide : ¬ (1 : Int32) = 0)) (fun _ => ?_)
  exact And.intro rfl Seg.rf
set_option maxRecDepth 100000 in
set_option maxHeartbeats 400000 in
theorem tJ0_isLatin1_11 (h : aH) (g : aG) : MS mJ0_isLatin1_aae02 1 [.ref (100 + 11)] h g [.int 1] h g := by
  refine MS.of okJ0_isLatin1_aae02 (by decide +kernel) (Nat.le_of_ble_eq_true rfl) (by decide) rfl (by decide) ?_
  refine Seg.run [] 400 ?_
  refine And.intro (fun z => absurd z (by decide : ¬ (1 : Int32) = 0)) (fun _ => ?_)
  refine And.intro (fun z => absurd rfl z) (fun _ => ?_)
  exact And.intro (Or.inr rfl) Seg.rf
set_option maxRecDepth 100000 in
set_option maxHeartbeats 400000 in
theorem tJ0_length_11 (h : aH) (g : aG) : MS mJ0_length_8abf5 2 [.ref (100 + 11)] h g [.int (nI 6)] h g := by
  refine MS.of okJ0_length_8abf5 (by decide +kernel) (Nat.le_of_ble_eq_true rfl) (by decide) rfl (by decide) ?_
  refine Seg.run [] 400 ?_
  refine Seg.tr (Seg.cT (j := 11) (tJ0_coder_11 h g) mlJ0_335 iyJ0_coder_7d493 seJ0_coder_7d493 oyJ0_coder_7d493 rfl (by decide) (by decide) rfl rfl rfl rfl (Nat.le_of_ble_eq_true rfl) (Nat.le_of_ble_eq_true rfl)) ?_
  refine Seg.run [] 400 ?_
  exact Seg.ri (by decide)
set_option maxRecDepth 100000 in
set_option maxHeartbeats 400000 in
theorem tJ1_charAt_11 (h : aH) (g : aG) (i : Nat) (hi : i < 6) : MS mJ1_charAt_3b067 3 [.ref (200 + 11), .int (nI i)] h g [.int (chJ 11 i)] h g := by
  refine MS.of okJ1_charAt_3b067 (by decide +kernel) (Nat.le_of_ble_eq_true rfl) (by decide) rfl (by decide) ?_
  refine Seg.run [] 400 ?_
  refine Seg.tr (Seg.cS (tJ0_checkIndex h g i 6 hi (by decide)) mlJ1_9 syJ0_checkIndex_df160 oyJ0_checkIndex_df160 rfl (by decide) rfl rfl rfl (Nat.le_of_ble_eq_true rfl) (Nat.le_of_ble_eq_true rfl)) ?_
  refine Seg.run [] 400 ?_
  refine And.intro (in10 (p := i) (n := 6) hi (by decide)) ?_
  refine And.intro (pk_nc _) ?_
  exact Seg.ri (by rw [cl10 (p := i) (by omega)]; exact ch_ok 11 (by decide) i (by omega))
set_option maxRecDepth 100000 in
set_option maxHeartbeats 400000 in
theorem tJ0_charAt_11 (h : aH) (g : aG) (i : Nat) (hi : i < 6) : MS mJ0_charAt_5068e 4 [.ref (100 + 11), .int (nI i)] h g [.int (chJ 11 i)] h g := by
  refine MS.of okJ0_charAt_5068e (by decide +kernel) (Nat.le_of_ble_eq_true rfl) (by decide) rfl (by decide) ?_
  refine Seg.run [] 400 ?_
  refine Seg.tr (Seg.cT (j := 11) (tJ0_isLatin1_11 h g) mlJ0_492 iyJ0_isLatin1_aae02 seJ0_isLatin1_aae02 oyJ0_isLatin1_aae02 rfl (by decide) (by decide) rfl rfl rfl rfl (Nat.le_of_ble_eq_true rfl) (Nat.le_of_ble_eq_true rfl)) ?_
  refine Seg.run [] 400 ?_
  refine And.intro (fun z => absurd z (by decide : ¬ (1 : Int32) = 0)) (fun _ => ?_)
  refine Seg.tr (Seg.cS (tJ1_charAt_11 h g i hi) mlJ0_495 syJ1_charAt_3b067 oyJ1_charAt_3b067 rfl (by decide) rfl rfl rfl (Nat.le_of_ble_eq_true rfl) (Nat.le_of_ble_eq_true rfl)) ?_
  refine Seg.run [] 400 ?_
  exact And.intro (by rw [← ch_ok 11 (by decide) i (by omega)]; exact pk_nc _) Seg.rf
set_option maxRecDepth 100000 in
set_option maxHeartbeats 400000 in
theorem tX1_isWord_11 {h : aH} {g : aG} {n : Nat} {b : Nat → Int32} {s e k v : Nat} (hr : RC h n b s e k v) (x : Int32) (hx : (x = 1 ∧ wdQ b s e k 11) ∨ (x = 0 ∧ ¬ wdQ b s e k 11)) : MS mX1_isWord 5 [.ref 29, .ref (100 + 11)] h g [.int x] h g := by
  obtain ⟨⟨r1, r2⟩, r3, r4, r5, r6, r7⟩ := hr
  have no : ¬ wdQ b s e k 11 → x = 0 := fun y => hx.elim (fun w => absurd w.2 y) (fun w => w.1)
  have yes : wdQ b s e k 11 → x = 1 := fun y => hx.elim (fun w => w.1) (fun w => absurd y w.2)
  have loop : k = 1 → e - s = 6 → ∀ m i, m + i = 6 → (∀ q, q < i → b (s + q) = chJ 11 q) → Seg mX1_isWord 5 (28, [some (.ref 29), some (.ref (100 + 11)), some (.int (nI i))], [], nW, h, g, ρ) (aRET, [], [.int x], nW, h, g, ρ) := by
    intro hk hl m
    induction m with
    | zero =>
      intro i hi hq
      obtain rfl : i = 6 := by omega
      refine Seg.run [] 400 ?_
      refine Seg.tr (Seg.cT (j := 11) (tJ0_length_11 h g) mlX1_68 iyJ0_length_8abf5 seJ0_length_8abf5 oyJ0_length_8abf5 rfl (by decide) (by decide) rfl rfl rfl rfl (Nat.le_of_ble_eq_true rfl) (Nat.le_of_ble_eq_true rfl)) ?_
      refine Seg.run [] 400 ?_
      refine And.intro (fun _ => ?_) (fun z => absurd (nI_le (Nat.le_refl _) (by decide)) z)
      exact And.intro (Or.inr rfl) (Seg.ri (yes ⟨hk, hl, hq⟩).symm)
    | succ m ih =>
      intro i hi hq
      have es : nI s + nI i = nI (s + i) := nI_ad _ _
      refine Seg.run [] 400 ?_
      refine Seg.tr (Seg.cT (j := 11) (tJ0_length_11 h g) mlX1_68 iyJ0_length_8abf5 seJ0_length_8abf5 oyJ0_length_8abf5 rfl (by decide) (by decide) rfl rfl rfl rfl (Nat.le_of_ble_eq_true rfl) (Nat.le_of_ble_eq_true rfl)) ?_
      refine Seg.run [28] 400 ?_
      refine And.intro (fun z => absurd z (nI_ge (by omega) (by decide))) (fun _ => ?_)
      refine And.intro (by rw [r4, es]; exact in10 (by omega) (by decide)) ?_
      rw [r4, es, cl10 (p := s + i) (by omega), r2 (s + i) (by omega)]
      refine Seg.tr (Seg.cT (j := 11) (tJ0_charAt_11 h g i (by omega)) mlX1_73 iyJ0_charAt_5068e seJ0_charAt_5068e oyJ0_charAt_5068e rfl (by decide) (by decide) rfl rfl rfl rfl (Nat.le_of_ble_eq_true rfl) (Nat.le_of_ble_eq_true rfl)) ?_
      refine Seg.run [28] 400 ?_
      refine And.intro (fun z => ?_) (fun z => ?_)
      · refine Seg.tr (Seg.of (b := (28, [some (.ref 29), some (.ref (100 + 11)), some (.int (nI (i + 1)))], [], nW, h, g, ρ)) (by rw [nI_succ i] <;> rfl)) ?_
        refine ih (i + 1) (by omega) (fun q hq2 => ?_)
        by_cases y : q = i
        · subst y; exact z
        · exact hq q (by omega)
      · exact And.intro (Or.inl rfl) (Seg.ri (no (fun w => z (w.2.2 i (show i < 6 by omega)))).symm)
  refine MS.of okX1_isWord (by decide +kernel) (Nat.le_of_ble_eq_true rfl) (by decide) rfl (by decide) ?_
  refine Seg.run [] 400 ?_
  refine And.intro (fun z => ?_) (fun z => ?_)
  · refine And.intro (Or.inl rfl) (Seg.ri (no (fun w => z (by rw [r3, w.1]; rfl))).symm)
  have hk : k = 1 := (nI_eq (by omega) (b := 1) (by decide)).mp (by rw [← r3]; exact Decidable.not_not.mp z)
  have el : h 29 4 - h 29 3 = nI (e - s) := by rw [r5, r4]; exact nI_sb r7.1
  refine Seg.tr (Seg.cT (j := 11) (tJ0_length_11 h g) mlX1_68 iyJ0_length_8abf5 seJ0_length_8abf5 oyJ0_length_8abf5 rfl (by decide) (by decide) rfl rfl rfl rfl (Nat.le_of_ble_eq_true rfl) (Nat.le_of_ble_eq_true rfl)) ?_
  refine Seg.run [28] 400 ?_
  refine And.intro (fun z2 => ?_) (fun z2 => ?_)
  · exact loop hk ((nI_eq (by omega) (b := 6) (by decide)).mp (by rw [← el]; exact z2)) 6 0 rfl (fun q hq => absurd hq (Nat.not_lt_zero _))
  · exact And.intro (Or.inl rfl) (Seg.ri (no (fun w => z2 (show h 29 4 - h 29 3 = nI 6 by rw [el, w.2.1]; rfl))).symm)
set_option maxRecDepth 100000 in
set_option maxHeartbeats 400000 in
theorem tX6_isWord_11 {h : aH} {g : aG} {n : Nat} {b : Nat → Int32} {s e k v : Nat} (hr : RM h n b s e k v) (x : Int32) (hx : (x = 1 ∧ wdQ b s e k 11) ∨ (x = 0 ∧ ¬ wdQ b s e k 11)) : MS mX6_isWord 5 [.ref 63, .ref (100 + 11)] h g [.int x] h g := by
  obtain ⟨⟨r1, r2⟩, r3, r4, r5, r6, r7⟩ := hr
  have no : ¬ wdQ b s e k 11 → x = 0 := fun y => hx.elim (fun w => absurd w.2 y) (fun w => w.1)
  have yes : wdQ b s e k 11 → x = 1 := fun y => hx.elim (fun w => w.1) (fun w => absurd y w.2)
  have stop : ¬ wdQ b s e k 11 → ∀ i, i ≤ 6 → Seg mX6_isWord 5 (32, [some (.ref 63), some (.ref (100 + 11)), some (.int 0), some (.int (nI i))], [], nW, h, g, ρ) (aRET, [], [.int x], nW, h, g, ρ) := by
    intro nw i hi
    refine Seg.run [] 400 ?_
    refine Seg.tr (Seg.cT (j := 11) (tJ0_length_11 h g) mlX6_74 iyJ0_length_8abf5 seJ0_length_8abf5 oyJ0_length_8abf5 rfl (by decide) (by decide) rfl rfl rfl rfl (Nat.le_of_ble_eq_true rfl) (Nat.le_of_ble_eq_true rfl)) ?_
    refine Seg.run [] 400 ?_
    refine And.intro (fun z => ?_) (fun z => ?_)
    · exact And.intro (Or.inl rfl) (Seg.ri (no nw).symm)
    refine And.intro (fun _ => ?_) (fun z => absurd rfl z)
    exact And.intro (Or.inl rfl) (Seg.ri (no nw).symm)
  have loop : k = 1 → e - s = 6 → ∀ m i, m + i = 6 → (∀ q, q < i → b (s + q) = chJ 11 q) → Seg mX6_isWord 5 (32, [some (.ref 63), some (.ref (100 + 11)), some (.int 1), some (.int (nI i))], [], nW, h, g, ρ) (aRET, [], [.int x], nW, h, g, ρ) := by
    intro hk hl m
    induction m with
    | zero =>
      intro i hi hq
      obtain rfl : i = 6 := by omega
      refine Seg.run [] 400 ?_
      refine Seg.tr (Seg.cT (j := 11) (tJ0_length_11 h g) mlX6_74 iyJ0_length_8abf5 seJ0_length_8abf5 oyJ0_length_8abf5 rfl (by decide) (by decide) rfl rfl rfl rfl (Nat.le_of_ble_eq_true rfl) (Nat.le_of_ble_eq_true rfl)) ?_
      refine Seg.run [] 400 ?_
      refine And.intro (fun _ => ?_) (fun z => absurd (nI_le (Nat.le_refl _) (by decide)) z)
      exact And.intro (Or.inr rfl) (Seg.ri (yes ⟨hk, hl, hq⟩).symm)
    | succ m ih =>
      intro i hi hq
      have es : nI s + nI i = nI (s + i) := nI_ad _ _
      refine Seg.run [] 400 ?_
      refine Seg.tr (Seg.cT (j := 11) (tJ0_length_11 h g) mlX6_74 iyJ0_length_8abf5 seJ0_length_8abf5 oyJ0_length_8abf5 rfl (by decide) (by decide) rfl rfl rfl rfl (Nat.le_of_ble_eq_true rfl) (Nat.le_of_ble_eq_true rfl)) ?_
      refine Seg.run [32] 400 ?_
      refine And.intro (fun z => absurd z (nI_ge (by omega) (by decide))) (fun _ => ?_)
      refine And.intro (fun z => absurd z (by decide : ¬ (1 : Int32) = 0)) (fun _ => ?_)
      refine And.intro (by rw [r4, es]; exact in10 (by omega) (by decide)) ?_
      rw [r4, es, cl10 (p := s + i) (by omega), r2 (s + i) (by omega)]
      refine Seg.tr (Seg.cT (j := 11) (tJ0_charAt_11 h g i (by omega)) mlX6_80 iyJ0_charAt_5068e seJ0_charAt_5068e oyJ0_charAt_5068e rfl (by decide) (by decide) rfl rfl rfl rfl (Nat.le_of_ble_eq_true rfl) (Nat.le_of_ble_eq_true rfl)) ?_
      refine Seg.run [32] 400 ?_
      refine And.intro (fun z => ?_) (fun z => ?_)
      · refine Seg.tr (Seg.of (b := (32, [some (.ref 63), some (.ref (100 + 11)), some (.int 0), some (.int (nI (i + 1)))], [], nW, h, g, ρ)) (by rw [nI_succ i] <;> rfl)) ?_
        exact stop (fun w => z (w.2.2 i (show i < 6 by omega))) (i + 1) (by omega)
      · refine Seg.tr (Seg.of (b := (32, [some (.ref 63), some (.ref (100 + 11)), some (.int 1), some (.int (nI (i + 1)))], [], nW, h, g, ρ)) (by rw [nI_succ i] <;> rfl)) ?_
        refine ih (i + 1) (by omega) (fun q hq2 => ?_)
        by_cases y : q = i
        · subst y; exact Decidable.not_not.mp z
        · exact hq q (by omega)
  refine MS.of okX6_isWord (by decide +kernel) (Nat.le_of_ble_eq_true rfl) (by decide) rfl (by decide) ?_
  refine Seg.run [32] 400 ?_
  refine And.intro (fun z => ?_) (fun z => ?_)
  · exact stop (fun w => z (by rw [r3, w.1]; rfl)) 0 (Nat.zero_le _)
  have hk : k = 1 := (nI_eq (by omega) (b := 1) (by decide)).mp (by rw [← r3]; exact Decidable.not_not.mp z)
  have el : h 63 7 - h 63 9 = nI (e - s) := by rw [r5, r4]; exact nI_sb r7.1
  refine Seg.tr (Seg.cT (j := 11) (tJ0_length_11 h g) mlX6_74 iyJ0_length_8abf5 seJ0_length_8abf5 oyJ0_length_8abf5 rfl (by decide) (by decide) rfl rfl rfl rfl (Nat.le_of_ble_eq_true rfl) (Nat.le_of_ble_eq_true rfl)) ?_
  refine Seg.run [32] 400 ?_
  refine And.intro (fun z2 => ?_) (fun z2 => ?_)
  · exact stop (fun w => z2 (show h 63 7 - h 63 9 = nI 6 by rw [el, w.2.1]; rfl)) 0 (Nat.zero_le _)
  · exact loop hk ((nI_eq (by omega) (b := 6) (by decide)).mp (by rw [← el]; exact Decidable.not_not.mp z2)) 6 0 rfl (fun q hq => absurd hq (Nat.not_lt_zero _))
set_option maxRecDepth 100000 in
set_option maxHeartbeats 400000 in
theorem tJ0_coder_12 (h : aH) (g : aG) : MS mJ0_coder_7d493 1 [.ref (100 + 12)] h g [.int 0] h g := by
  refine MS.of okJ0_coder_7d493 (by decide +kernel) (Nat.le_of_ble_eq_true rfl) (by decide) rfl (by decide) ?_
  refine Seg.run [] 400 ?_
  refine And.intro (fun z => absurd z (by decide : ¬ (1 : Int32) = 0)) (fun _ => ?_)
  exact And.intro rfl Seg.rf
set_option maxRecDepth 100000 in
set_option maxHeartbeats 400000 in
theorem tJ0_isLatin1_12 (h : aH) (g : aG) : MS mJ0_isLatin1_aae02 1 [.ref (100 + 12)] h g [.int 1] h g := by
  refine MS.of okJ0_isLatin1_aae02 (by decide +kernel) (Nat.le_of_ble_eq_true rfl) (by decide) rfl (by decide) ?_
  refine Seg.run [] 400 ?_
  refine And.intro (fun z => absurd z (by decide : ¬ (1 : Int32) = 0)) (fun _ => ?_)
  refine And.intro (fun z => absurd rfl z) (fun _ => ?_)
  exact And.intro (Or.inr rfl) Seg.rf
set_option maxRecDepth 100000 in
set_option maxHeartbeats 400000 in
theorem tJ0_length_12 (h : aH) (g : aG) : MS mJ0_length_8abf5 2 [.ref (100 + 12)] h g [.int (nI 4)] h g := by
  refine MS.of okJ0_length_8abf5 (by decide +kernel) (Nat.le_of_ble_eq_true rfl) (by decide) rfl (by decide) ?_
  refine Seg.run [] 400 ?_
  refine Seg.tr (Seg.cT (j := 12) (tJ0_coder_12 h g) mlJ0_335 iyJ0_coder_7d493 seJ0_coder_7d493 oyJ0_coder_7d493 rfl (by decide) (by decide) rfl rfl rfl rfl (Nat.le_of_ble_eq_true rfl) (Nat.le_of_ble_eq_true rfl)) ?_
  refine Seg.run [] 400 ?_
  exact Seg.ri (by decide)
set_option maxRecDepth 100000 in
set_option maxHeartbeats 400000 in
theorem tJ1_charAt_12 (h : aH) (g : aG) (i : Nat) (hi : i < 4) : MS mJ1_charAt_3b067 3 [.ref (200 + 12), .int (nI i)] h g [.int (chJ 12 i)] h g := by
  refine MS.of okJ1_charAt_3b067 (by decide +kernel) (Nat.le_of_ble_eq_true rfl) (by decide) rfl (by decide) ?_
  refine Seg.run [] 400 ?_
  refine Seg.tr (Seg.cS (tJ0_checkIndex h g i 4 hi (by decide)) mlJ1_9 syJ0_checkIndex_df160 oyJ0_checkIndex_df160 rfl (by decide) rfl rfl rfl (Nat.le_of_ble_eq_true rfl) (Nat.le_of_ble_eq_true rfl)) ?_
  refine Seg.run [] 400 ?_
  refine And.intro (in10 (p := i) (n := 4) hi (by decide)) ?_
  refine And.intro (pk_nc _) ?_
  exact Seg.ri (by rw [cl10 (p := i) (by omega)]; exact ch_ok 12 (by decide) i (by omega))
set_option maxRecDepth 100000 in
set_option maxHeartbeats 400000 in
theorem tJ0_charAt_12 (h : aH) (g : aG) (i : Nat) (hi : i < 4) : MS mJ0_charAt_5068e 4 [.ref (100 + 12), .int (nI i)] h g [.int (chJ 12 i)] h g := by
  refine MS.of okJ0_charAt_5068e (by decide +kernel) (Nat.le_of_ble_eq_true rfl) (by decide) rfl (by decide) ?_
  refine Seg.run [] 400 ?_
  refine Seg.tr (Seg.cT (j := 12) (tJ0_isLatin1_12 h g) mlJ0_492 iyJ0_isLatin1_aae02 seJ0_isLatin1_aae02 oyJ0_isLatin1_aae02 rfl (by decide) (by decide) rfl rfl rfl rfl (Nat.le_of_ble_eq_true rfl) (Nat.le_of_ble_eq_true rfl)) ?_
  refine Seg.run [] 400 ?_
  refine And.intro (fun z => absurd z (by decide : ¬ (1 : Int32) = 0)) (fun _ => ?_)
  refine Seg.tr (Seg.cS (tJ1_charAt_12 h g i hi) mlJ0_495 syJ1_charAt_3b067 oyJ1_charAt_3b067 rfl (by decide) rfl rfl rfl (Nat.le_of_ble_eq_true rfl) (Nat.le_of_ble_eq_true rfl)) ?_
  refine Seg.run [] 400 ?_
  exact And.intro (by rw [← ch_ok 12 (by decide) i (by omega)]; exact pk_nc _) Seg.rf
set_option maxRecDepth 100000 in
set_option maxHeartbeats 400000 in
theorem tX1_isWord_12 {h : aH} {g : aG} {n : Nat} {b : Nat → Int32} {s e k v : Nat} (hr : RC h n b s e k v) (x : Int32) (hx : (x = 1 ∧ wdQ b s e k 12) ∨ (x = 0 ∧ ¬ wdQ b s e k 12)) : MS mX1_isWord 5 [.ref 29, .ref (100 + 12)] h g [.int x] h g := by
  obtain ⟨⟨r1, r2⟩, r3, r4, r5, r6, r7⟩ := hr
  have no : ¬ wdQ b s e k 12 → x = 0 := fun y => hx.elim (fun w => absurd w.2 y) (fun w => w.1)
  have yes : wdQ b s e k 12 → x = 1 := fun y => hx.elim (fun w => w.1) (fun w => absurd y w.2)
  have loop : k = 1 → e - s = 4 → ∀ m i, m + i = 4 → (∀ q, q < i → b (s + q) = chJ 12 q) → Seg mX1_isWord 5 (28, [some (.ref 29), some (.ref (100 + 12)), some (.int (nI i))], [], nW, h, g, ρ) (aRET, [], [.int x], nW, h, g, ρ) := by
    intro hk hl m
    induction m with
    | zero =>
      intro i hi hq
      obtain rfl : i = 4 := by omega
      refine Seg.run [] 400 ?_
      refine Seg.tr (Seg.cT (j := 12) (tJ0_length_12 h g) mlX1_68 iyJ0_length_8abf5 seJ0_length_8abf5 oyJ0_length_8abf5 rfl (by decide) (by decide) rfl rfl rfl rfl (Nat.le_of_ble_eq_true rfl) (Nat.le_of_ble_eq_true rfl)) ?_
      refine Seg.run [] 400 ?_
      refine And.intro (fun _ => ?_) (fun z => absurd (nI_le (Nat.le_refl _) (by decide)) z)
      exact And.intro (Or.inr rfl) (Seg.ri (yes ⟨hk, hl, hq⟩).symm)
    | succ m ih =>
      intro i hi hq
      have es : nI s + nI i = nI (s + i) := nI_ad _ _
      refine Seg.run [] 400 ?_
      refine Seg.tr (Seg.cT (j := 12) (tJ0_length_12 h g) mlX1_68 iyJ0_length_8abf5 seJ0_length_8abf5 oyJ0_length_8abf5 rfl (by decide) (by decide) rfl rfl rfl rfl (Nat.le_of_ble_eq_true rfl) (Nat.le_of_ble_eq_true rfl)) ?_
      refine Seg.run [28] 400 ?_
      refine And.intro (fun z => absurd z (nI_ge (by omega) (by decide))) (fun _ => ?_)
      refine And.intro (by rw [r4, es]; exact in10 (by omega) (by decide)) ?_
      rw [r4, es, cl10 (p := s + i) (by omega), r2 (s + i) (by omega)]
      refine Seg.tr (Seg.cT (j := 12) (tJ0_charAt_12 h g i (by omega)) mlX1_73 iyJ0_charAt_5068e seJ0_charAt_5068e oyJ0_charAt_5068e rfl (by decide) (by decide) rfl rfl rfl rfl (Nat.le_of_ble_eq_true rfl) (Nat.le_of_ble_eq_true rfl)) ?_
      refine Seg.run [28] 400 ?_
      refine And.intro (fun z => ?_) (fun z => ?_)
      · refine Seg.tr (Seg.of (b := (28, [some (.ref 29), some (.ref (100 + 12)), some (.int (nI (i + 1)))], [], nW, h, g, ρ)) (by rw [nI_succ i] <;> rfl)) ?_
        refine ih (i + 1) (by omega) (fun q hq2 => ?_)
        by_cases y : q = i
        · subst y; exact z
        · exact hq q (by omega)
      · exact And.intro (Or.inl rfl) (Seg.ri (no (fun w => z (w.2.2 i (show i < 4 by omega)))).symm)
  refine MS.of okX1_isWord (by decide +kernel) (Nat.le_of_ble_eq_true rfl) (by decide) rfl (by decide) ?_
  refine Seg.run [] 400 ?_
  refine And.intro (fun z => ?_) (fun z => ?_)
  · refine And.intro (Or.inl rfl) (Seg.ri (no (fun w => z (by rw [r3, w.1]; rfl))).symm)
  have hk : k = 1 := (nI_eq (by omega) (b := 1) (by decide)).mp (by rw [← r3]; exact Decidable.not_not.mp z)
  have el : h 29 4 - h 29 3 = nI (e - s) := by rw [r5, r4]; exact nI_sb r7.1
  refine Seg.tr (Seg.cT (j := 12) (tJ0_length_12 h g) mlX1_68 iyJ0_length_8abf5 seJ0_length_8abf5 oyJ0_length_8abf5 rfl (by decide) (by decide) rfl rfl rfl rfl (Nat.le_of_ble_eq_true rfl) (Nat.le_of_ble_eq_true rfl)) ?_
  refine Seg.run [28] 400 ?_
  refine And.intro (fun z2 => ?_) (fun z2 => ?_)
  · exact loop hk ((nI_eq (by omega) (b := 4) (by decide)).mp (by rw [← el]; exact z2)) 4 0 rfl (fun q hq => absurd hq (Nat.not_lt_zero _))
  · exact And.intro (Or.inl rfl) (Seg.ri (no (fun w => z2 (show h 29 4 - h 29 3 = nI 4 by rw [el, w.2.1]; rfl))).symm)
set_option maxRecDepth 100000 in
set_option maxHeartbeats 400000 in
theorem tX6_isWord_12 {h : aH} {g : aG} {n : Nat} {b : Nat → Int32} {s e k v : Nat} (hr : RM h n b s e k v) (x : Int32) (hx : (x = 1 ∧ wdQ b s e k 12) ∨ (x = 0 ∧ ¬ wdQ b s e k 12)) : MS mX6_isWord 5 [.ref 63, .ref (100 + 12)] h g [.int x] h g := by
  obtain ⟨⟨r1, r2⟩, r3, r4, r5, r6, r7⟩ := hr
  have no : ¬ wdQ b s e k 12 → x = 0 := fun y => hx.elim (fun w => absurd w.2 y) (fun w => w.1)
  have yes : wdQ b s e k 12 → x = 1 := fun y => hx.elim (fun w => w.1) (fun w => absurd y w.2)
  have stop : ¬ wdQ b s e k 12 → ∀ i, i ≤ 4 → Seg mX6_isWord 5 (32, [some (.ref 63), some (.ref (100 + 12)), some (.int 0), some (.int (nI i))], [], nW, h, g, ρ) (aRET, [], [.int x], nW, h, g, ρ) := by
    intro nw i hi
    refine Seg.run [] 400 ?_
    refine Seg.tr (Seg.cT (j := 12) (tJ0_length_12 h g) mlX6_74 iyJ0_length_8abf5 seJ0_length_8abf5 oyJ0_length_8abf5 rfl (by decide) (by decide) rfl rfl rfl rfl (Nat.le_of_ble_eq_true rfl) (Nat.le_of_ble_eq_true rfl)) ?_
    refine Seg.run [] 400 ?_
    refine And.intro (fun z => ?_) (fun z => ?_)
    · exact And.intro (Or.inl rfl) (Seg.ri (no nw).symm)
    refine And.intro (fun _ => ?_) (fun z => absurd rfl z)
    exact And.intro (Or.inl rfl) (Seg.ri (no nw).symm)
  have loop : k = 1 → e - s = 4 → ∀ m i, m + i = 4 → (∀ q, q < i → b (s + q) = chJ 12 q) → Seg mX6_isWord 5 (32, [some (.ref 63), some (.ref (100 + 12)), some (.int 1), some (.int (nI i))], [], nW, h, g, ρ) (aRET, [], [.int x], nW, h, g, ρ) := by
    intro hk hl m
    induction m with
    | zero =>
      intro i hi hq
      obtain rfl : i = 4 := by omega
      refine Seg.run [] 400 ?_
      refine Seg.tr (Seg.cT (j := 12) (tJ0_length_12 h g) mlX6_74 iyJ0_length_8abf5 seJ0_length_8abf5 oyJ0_length_8abf5 rfl (by decide) (by decide) rfl rfl rfl rfl (Nat.le_of_ble_eq_true rfl) (Nat.le_of_ble_eq_true rfl)) ?_
      refine Seg.run [] 400 ?_
      refine And.intro (fun _ => ?_) (fun z => absurd (nI_le (Nat.le_refl _) (by decide)) z)
      exact And.intro (Or.inr rfl) (Seg.ri (yes ⟨hk, hl, hq⟩).symm)
    | succ m ih =>
      intro i hi hq
      have es : nI s + nI i = nI (s + i) := nI_ad _ _
      refine Seg.run [] 400 ?_
      refine Seg.tr (Seg.cT (j := 12) (tJ0_length_12 h g) mlX6_74 iyJ0_length_8abf5 seJ0_length_8abf5 oyJ0_length_8abf5 rfl (by decide) (by decide) rfl rfl rfl rfl (Nat.le_of_ble_eq_true rfl) (Nat.le_of_ble_eq_true rfl)) ?_
      refine Seg.run [32] 400 ?_
      refine And.intro (fun z => absurd z (nI_ge (by omega) (by decide))) (fun _ => ?_)
      refine And.intro (fun z => absurd z (by decide : ¬ (1 : Int32) = 0)) (fun _ => ?_)
      refine And.intro (by rw [r4, es]; exact in10 (by omega) (by decide)) ?_
      rw [r4, es, cl10 (p := s + i) (by omega), r2 (s + i) (by omega)]
      refine Seg.tr (Seg.cT (j := 12) (tJ0_charAt_12 h g i (by omega)) mlX6_80 iyJ0_charAt_5068e seJ0_charAt_5068e oyJ0_charAt_5068e rfl (by decide) (by decide) rfl rfl rfl rfl (Nat.le_of_ble_eq_true rfl) (Nat.le_of_ble_eq_true rfl)) ?_
      refine Seg.run [32] 400 ?_
      refine And.intro (fun z => ?_) (fun z => ?_)
      · refine Seg.tr (Seg.of (b := (32, [some (.ref 63), some (.ref (100 + 12)), some (.int 0), some (.int (nI (i + 1)))], [], nW, h, g, ρ)) (by rw [nI_succ i] <;> rfl)) ?_
        exact stop (fun w => z (w.2.2 i (show i < 4 by omega))) (i + 1) (by omega)
      · refine Seg.tr (Seg.of (b := (32, [some (.ref 63), some (.ref (100 + 12)), some (.int 1), some (.int (nI (i + 1)))], [], nW, h, g, ρ)) (by rw [nI_succ i] <;> rfl)) ?_
        refine ih (i + 1) (by omega) (fun q hq2 => ?_)
        by_cases y : q = i
        · subst y; exact Decidable.not_not.mp z
        · exact hq q (by omega)
  refine MS.of okX6_isWord (by decide +kernel) (Nat.le_of_ble_eq_true rfl) (by decide) rfl (by decide) ?_
  refine Seg.run [32] 400 ?_
  refine And.intro (fun z => ?_) (fun z => ?_)
  · exact stop (fun w => z (by rw [r3, w.1]; rfl)) 0 (Nat.zero_le _)
  have hk : k = 1 := (nI_eq (by omega) (b := 1) (by decide)).mp (by rw [← r3]; exact Decidable.not_not.mp z)
  have el : h 63 7 - h 63 9 = nI (e - s) := by rw [r5, r4]; exact nI_sb r7.1
  refine Seg.tr (Seg.cT (j := 12) (tJ0_length_12 h g) mlX6_74 iyJ0_length_8abf5 seJ0_length_8abf5 oyJ0_length_8abf5 rfl (by decide) (by decide) rfl rfl rfl rfl (Nat.le_of_ble_eq_true rfl) (Nat.le_of_ble_eq_true rfl)) ?_
  refine Seg.run [32] 400 ?_
  refine And.intro (fun z2 => ?_) (fun z2 => ?_)
  · exact stop (fun w => z2 (show h 63 7 - h 63 9 = nI 4 by rw [el, w.2.1]; rfl)) 0 (Nat.zero_le _)
  · exact loop hk ((nI_eq (by omega) (b := 4) (by decide)).mp (by rw [← el]; exact Decidable.not_not.mp z2)) 4 0 rfl (fun q hq => absurd hq (Nat.not_lt_zero _))
set_option maxRecDepth 100000 in
set_option maxHeartbeats 400000 in
theorem tJ0_coder_13 (h : aH) (g : aG) : MS mJ0_coder_7d493 1 [.ref (100 + 13)] h g [.int 0] h g := by
  refine MS.of okJ0_coder_7d493 (by decide +kernel) (Nat.le_of_ble_eq_true rfl) (by decide) rfl (by decide) ?_
  refine Seg.run [] 400 ?_
  refine And.intro (fun z => absurd z (by decide : ¬ (1 : Int32) = 0)) (fun _ => ?_)
  exact And.intro rfl Seg.rf
set_option maxRecDepth 100000 in
set_option maxHeartbeats 400000 in
theorem tJ0_isLatin1_13 (h : aH) (g : aG) : MS mJ0_isLatin1_aae02 1 [.ref (100 + 13)] h g [.int 1] h g := by
  refine MS.of okJ0_isLatin1_aae02 (by decide +kernel) (Nat.le_of_ble_eq_true rfl) (by decide) rfl (by decide) ?_
  refine Seg.run [] 400 ?_
  refine And.intro (fun z => absurd z (by decide : ¬ (1 : Int32) = 0)) (fun _ => ?_)
  refine And.intro (fun z => absurd rfl z) (fun _ => ?_)
  exact And.intro (Or.inr rfl) Seg.rf
set_option maxRecDepth 100000 in
set_option maxHeartbeats 400000 in
theorem tJ0_length_13 (h : aH) (g : aG) : MS mJ0_length_8abf5 2 [.ref (100 + 13)] h g [.int (nI 5)] h g := by
  refine MS.of okJ0_length_8abf5 (by decide +kernel) (Nat.le_of_ble_eq_true rfl) (by decide) rfl (by decide) ?_
  refine Seg.run [] 400 ?_
  refine Seg.tr (Seg.cT (j := 13) (tJ0_coder_13 h g) mlJ0_335 iyJ0_coder_7d493 seJ0_coder_7d493 oyJ0_coder_7d493 rfl (by decide) (by decide) rfl rfl rfl rfl (Nat.le_of_ble_eq_true rfl) (Nat.le_of_ble_eq_true rfl)) ?_
  refine Seg.run [] 400 ?_
  exact Seg.ri (by decide)
set_option maxRecDepth 100000 in
set_option maxHeartbeats 400000 in
theorem tJ1_charAt_13 (h : aH) (g : aG) (i : Nat) (hi : i < 5) : MS mJ1_charAt_3b067 3 [.ref (200 + 13), .int (nI i)] h g [.int (chJ 13 i)] h g := by
  refine MS.of okJ1_charAt_3b067 (by decide +kernel) (Nat.le_of_ble_eq_true rfl) (by decide) rfl (by decide) ?_
  refine Seg.run [] 400 ?_
  refine Seg.tr (Seg.cS (tJ0_checkIndex h g i 5 hi (by decide)) mlJ1_9 syJ0_checkIndex_df160 oyJ0_checkIndex_df160 rfl (by decide) rfl rfl rfl (Nat.le_of_ble_eq_true rfl) (Nat.le_of_ble_eq_true rfl)) ?_
  refine Seg.run [] 400 ?_
  refine And.intro (in10 (p := i) (n := 5) hi (by decide)) ?_
  refine And.intro (pk_nc _) ?_
  exact Seg.ri (by rw [cl10 (p := i) (by omega)]; exact ch_ok 13 (by decide) i (by omega))
set_option maxRecDepth 100000 in
set_option maxHeartbeats 400000 in
theorem tJ0_charAt_13 (h : aH) (g : aG) (i : Nat) (hi : i < 5) : MS mJ0_charAt_5068e 4 [.ref (100 + 13), .int (nI i)] h g [.int (chJ 13 i)] h g := by
  refine MS.of okJ0_charAt_5068e (by decide +kernel) (Nat.le_of_ble_eq_true rfl) (by decide) rfl (by decide) ?_
  refine Seg.run [] 400 ?_
  refine Seg.tr (Seg.cT (j := 13) (tJ0_isLatin1_13 h g) mlJ0_492 iyJ0_isLatin1_aae02 seJ0_isLatin1_aae02 oyJ0_isLatin1_aae02 rfl (by decide) (by decide) rfl rfl rfl rfl (Nat.le_of_ble_eq_true rfl) (Nat.le_of_ble_eq_true rfl)) ?_
  refine Seg.run [] 400 ?_
  refine And.intro (fun z => absurd z (by decide : ¬ (1 : Int32) = 0)) (fun _ => ?_)
  refine Seg.tr (Seg.cS (tJ1_charAt_13 h g i hi) mlJ0_495 syJ1_charAt_3b067 oyJ1_charAt_3b067 rfl (by decide) rfl rfl rfl (Nat.le_of_ble_eq_true rfl) (Nat.le_of_ble_eq_true rfl)) ?_
  refine Seg.run [] 400 ?_
  exact And.intro (by rw [← ch_ok 13 (by decide) i (by omega)]; exact pk_nc _) Seg.rf
set_option maxRecDepth 100000 in
set_option maxHeartbeats 400000 in
theorem tX1_isWord_13 {h : aH} {g : aG} {n : Nat} {b : Nat → Int32} {s e k v : Nat} (hr : RC h n b s e k v) (x : Int32) (hx : (x = 1 ∧ wdQ b s e k 13) ∨ (x = 0 ∧ ¬ wdQ b s e k 13)) : MS mX1_isWord 5 [.ref 29, .ref (100 + 13)] h g [.int x] h g := by
  obtain ⟨⟨r1, r2⟩, r3, r4, r5, r6, r7⟩ := hr
  have no : ¬ wdQ b s e k 13 → x = 0 := fun y => hx.elim (fun w => absurd w.2 y) (fun w => w.1)
  have yes : wdQ b s e k 13 → x = 1 := fun y => hx.elim (fun w => w.1) (fun w => absurd y w.2)
  have loop : k = 1 → e - s = 5 → ∀ m i, m + i = 5 → (∀ q, q < i → b (s + q) = chJ 13 q) → Seg mX1_isWord 5 (28, [some (.ref 29), some (.ref (100 + 13)), some (.int (nI i))], [], nW, h, g, ρ) (aRET, [], [.int x], nW, h, g, ρ) := by
    intro hk hl m
    induction m with
    | zero =>
      intro i hi hq
      obtain rfl : i = 5 := by omega
      refine Seg.run [] 400 ?_
      refine Seg.tr (Seg.cT (j := 13) (tJ0_length_13 h g) mlX1_68 iyJ0_length_8abf5 seJ0_length_8abf5 oyJ0_length_8abf5 rfl (by decide) (by decide) rfl rfl rfl rfl (Nat.le_of_ble_eq_true rfl) (Nat.le_of_ble_eq_true rfl)) ?_
      refine Seg.run [] 400 ?_
      refine And.intro (fun _ => ?_) (fun z => absurd (nI_le (Nat.le_refl _) (by decide)) z)
      exact And.intro (Or.inr rfl) (Seg.ri (yes ⟨hk, hl, hq⟩).symm)
    | succ m ih =>
      intro i hi hq
      have es : nI s + nI i = nI (s + i) := nI_ad _ _
      refine Seg.run [] 400 ?_
      refine Seg.tr (Seg.cT (j := 13) (tJ0_length_13 h g) mlX1_68 iyJ0_length_8abf5 seJ0_length_8abf5 oyJ0_length_8abf5 rfl (by decide) (by decide) rfl rfl rfl rfl (Nat.le_of_ble_eq_true rfl) (Nat.le_of_ble_eq_true rfl)) ?_
      refine Seg.run [28] 400 ?_
      refine And.intro (fun z => absurd z (nI_ge (by omega) (by decide))) (fun _ => ?_)
      refine And.intro (by rw [r4, es]; exact in10 (by omega) (by decide)) ?_
      rw [r4, es, cl10 (p := s + i) (by omega), r2 (s + i) (by omega)]
      refine Seg.tr (Seg.cT (j := 13) (tJ0_charAt_13 h g i (by omega)) mlX1_73 iyJ0_charAt_5068e seJ0_charAt_5068e oyJ0_charAt_5068e rfl (by decide) (by decide) rfl rfl rfl rfl (Nat.le_of_ble_eq_true rfl) (Nat.le_of_ble_eq_true rfl)) ?_
      refine Seg.run [28] 400 ?_
      refine And.intro (fun z => ?_) (fun z => ?_)
      · refine Seg.tr (Seg.of (b := (28, [some (.ref 29), some (.ref (100 + 13)), some (.int (nI (i + 1)))], [], nW, h, g, ρ)) (by rw [nI_succ i] <;> rfl)) ?_
        refine ih (i + 1) (by omega) (fun q hq2 => ?_)
        by_cases y : q = i
        · subst y; exact z
        · exact hq q (by omega)
      · exact And.intro (Or.inl rfl) (Seg.ri (no (fun w => z (w.2.2 i (show i < 5 by omega)))).symm)
  refine MS.of okX1_isWord (by decide +kernel) (Nat.le_of_ble_eq_true rfl) (by decide) rfl (by decide) ?_
  refine Seg.run [] 400 ?_
  refine And.intro (fun z => ?_) (fun z => ?_)
  · refine And.intro (Or.inl rfl) (Seg.ri (no (fun w => z (by rw [r3, w.1]; rfl))).symm)
  have hk : k = 1 := (nI_eq (by omega) (b := 1) (by decide)).mp (by rw [← r3]; exact Decidable.not_not.mp z)
  have el : h 29 4 - h 29 3 = nI (e - s) := by rw [r5, r4]; exact nI_sb r7.1
  refine Seg.tr (Seg.cT (j := 13) (tJ0_length_13 h g) mlX1_68 iyJ0_length_8abf5 seJ0_length_8abf5 oyJ0_length_8abf5 rfl (by decide) (by decide) rfl rfl rfl rfl (Nat.le_of_ble_eq_true rfl) (Nat.le_of_ble_eq_true rfl)) ?_
  refine Seg.run [28] 400 ?_
  refine And.intro (fun z2 => ?_) (fun z2 => ?_)
  · exact loop hk ((nI_eq (by omega) (b := 5) (by decide)).mp (by rw [← el]; exact z2)) 5 0 rfl (fun q hq => absurd hq (Nat.not_lt_zero _))
  · exact And.intro (Or.inl rfl) (Seg.ri (no (fun w => z2 (show h 29 4 - h 29 3 = nI 5 by rw [el, w.2.1]; rfl))).symm)
set_option maxRecDepth 100000 in
set_option maxHeartbeats 400000 in
theorem tX6_isWord_13 {h : aH} {g : aG} {n : Nat} {b : Nat → Int32} {s e k v : Nat} (hr : RM h n b s e k v) (x : Int32) (hx : (x = 1 ∧ wdQ b s e k 13) ∨ (x = 0 ∧ ¬ wdQ b s e k 13)) : MS mX6_isWord 5 [.ref 63, .ref (100 + 13)] h g [.int x] h g := by
  obtain ⟨⟨r1, r2⟩, r3, r4, r5, r6, r7⟩ := hr
  have no : ¬ wdQ b s e k 13 → x = 0 := fun y => hx.elim (fun w => absurd w.2 y) (fun w => w.1)
  have yes : wdQ b s e k 13 → x = 1 := fun y => hx.elim (fun w => w.1) (fun w => absurd y w.2)
  have stop : ¬ wdQ b s e k 13 → ∀ i, i ≤ 5 → Seg mX6_isWord 5 (32, [some (.ref 63), some (.ref (100 + 13)), some (.int 0), some (.int (nI i))], [], nW, h, g, ρ) (aRET, [], [.int x], nW, h, g, ρ) := by
    intro nw i hi
    refine Seg.run [] 400 ?_
    refine Seg.tr (Seg.cT (j := 13) (tJ0_length_13 h g) mlX6_74 iyJ0_length_8abf5 seJ0_length_8abf5 oyJ0_length_8abf5 rfl (by decide) (by decide) rfl rfl rfl rfl (Nat.le_of_ble_eq_true rfl) (Nat.le_of_ble_eq_true rfl)) ?_
    refine Seg.run [] 400 ?_
    refine And.intro (fun z => ?_) (fun z => ?_)
    · exact And.intro (Or.inl rfl) (Seg.ri (no nw).symm)
    refine And.intro (fun _ => ?_) (fun z => absurd rfl z)
    exact And.intro (Or.inl rfl) (Seg.ri (no nw).symm)
  have loop : k = 1 → e - s = 5 → ∀ m i, m + i = 5 → (∀ q, q < i → b (s + q) = chJ 13 q) → Seg mX6_isWord 5 (32, [some (.ref 63), some (.ref (100 + 13)), some (.int 1), some (.int (nI i))], [], nW, h, g, ρ) (aRET, [], [.int x], nW, h, g, ρ) := by
    intro hk hl m
    induction m with
    | zero =>
      intro i hi hq
      obtain rfl : i = 5 := by omega
      refine Seg.run [] 400 ?_
      refine Seg.tr (Seg.cT (j := 13) (tJ0_length_13 h g) mlX6_74 iyJ0_length_8abf5 seJ0_length_8abf5 oyJ0_length_8abf5 rfl (by decide) (by decide) rfl rfl rfl rfl (Nat.le_of_ble_eq_true rfl) (Nat.le_of_ble_eq_true rfl)) ?_
      refine Seg.run [] 400 ?_
      refine And.intro (fun _ => ?_) (fun z => absurd (nI_le (Nat.le_refl _) (by decide)) z)
      exact And.intro (Or.inr rfl) (Seg.ri (yes ⟨hk, hl, hq⟩).symm)
    | succ m ih =>
      intro i hi hq
      have es : nI s + nI i = nI (s + i) := nI_ad _ _
      refine Seg.run [] 400 ?_
      refine Seg.tr (Seg.cT (j := 13) (tJ0_length_13 h g) mlX6_74 iyJ0_length_8abf5 seJ0_length_8abf5 oyJ0_length_8abf5 rfl (by decide) (by decide) rfl rfl rfl rfl (Nat.le_of_ble_eq_true rfl) (Nat.le_of_ble_eq_true rfl)) ?_
      refine Seg.run [32] 400 ?_
      refine And.intro (fun z => absurd z (nI_ge (by omega) (by decide))) (fun _ => ?_)
      refine And.intro (fun z => absurd z (by decide : ¬ (1 : Int32) = 0)) (fun _ => ?_)
      refine And.intro (by rw [r4, es]; exact in10 (by omega) (by decide)) ?_
      rw [r4, es, cl10 (p := s + i) (by omega), r2 (s + i) (by omega)]
      refine Seg.tr (Seg.cT (j := 13) (tJ0_charAt_13 h g i (by omega)) mlX6_80 iyJ0_charAt_5068e seJ0_charAt_5068e oyJ0_charAt_5068e rfl (by decide) (by decide) rfl rfl rfl rfl (Nat.le_of_ble_eq_true rfl) (Nat.le_of_ble_eq_true rfl)) ?_
      refine Seg.run [32] 400 ?_
      refine And.intro (fun z => ?_) (fun z => ?_)
      · refine Seg.tr (Seg.of (b := (32, [some (.ref 63), some (.ref (100 + 13)), some (.int 0), some (.int (nI (i + 1)))], [], nW, h, g, ρ)) (by rw [nI_succ i] <;> rfl)) ?_
        exact stop (fun w => z (w.2.2 i (show i < 5 by omega))) (i + 1) (by omega)
      · refine Seg.tr (Seg.of (b := (32, [some (.ref 63), some (.ref (100 + 13)), some (.int 1), some (.int (nI (i + 1)))], [], nW, h, g, ρ)) (by rw [nI_succ i] <;> rfl)) ?_
        refine ih (i + 1) (by omega) (fun q hq2 => ?_)
        by_cases y : q = i
        · subst y; exact Decidable.not_not.mp z
        · exact hq q (by omega)
  refine MS.of okX6_isWord (by decide +kernel) (Nat.le_of_ble_eq_true rfl) (by decide) rfl (by decide) ?_
  refine Seg.run [32] 400 ?_
  refine And.intro (fun z => ?_) (fun z => ?_)
  · exact stop (fun w => z (by rw [r3, w.1]; rfl)) 0 (Nat.zero_le _)
  have hk : k = 1 := (nI_eq (by omega) (b := 1) (by decide)).mp (by rw [← r3]; exact Decidable.not_not.mp z)
  have el : h 63 7 - h 63 9 = nI (e - s) := by rw [r5, r4]; exact nI_sb r7.1
  refine Seg.tr (Seg.cT (j := 13) (tJ0_length_13 h g) mlX6_74 iyJ0_length_8abf5 seJ0_length_8abf5 oyJ0_length_8abf5 rfl (by decide) (by decide) rfl rfl rfl rfl (Nat.le_of_ble_eq_true rfl) (Nat.le_of_ble_eq_true rfl)) ?_
  refine Seg.run [32] 400 ?_
  refine And.intro (fun z2 => ?_) (fun z2 => ?_)
  · exact stop (fun w => z2 (show h 63 7 - h 63 9 = nI 5 by rw [el, w.2.1]; rfl)) 0 (Nat.zero_le _)
  · exact loop hk ((nI_eq (by omega) (b := 5) (by decide)).mp (by rw [← el]; exact Decidable.not_not.mp z2)) 5 0 rfl (fun q hq => absurd hq (Nat.not_lt_zero _))
