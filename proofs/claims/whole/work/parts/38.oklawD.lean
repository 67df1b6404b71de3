/-! ===== the law's code table, in pieces; printed by wip/whole/mk38.py ===== -/
theorem okL_21 : ∀ k, k < 60 → chkO lks_RL cL_law 4 (1260 + k) (kL_law (1260 + k)) = true := by decide +kernel
theorem okL_22 : ∀ k, k < 60 → chkO lks_RL cL_law 4 (1320 + k) (kL_law (1320 + k)) = true := by decide +kernel
theorem okL_23 : ∀ k, k < 60 → chkO lks_RL cL_law 4 (1380 + k) (kL_law (1380 + k)) = true := by decide +kernel
theorem okL_24 : ∀ k, k < 60 → chkO lks_RL cL_law 4 (1440 + k) (kL_law (1440 + k)) = true := by decide +kernel
theorem okL_25 : ∀ k, k < 60 → chkO lks_RL cL_law 4 (1500 + k) (kL_law (1500 + k)) = true := by decide +kernel
theorem okL_26 : ∀ k, k < 60 → chkO lks_RL cL_law 4 (1560 + k) (kL_law (1560 + k)) = true := by decide +kernel
theorem okL_27 : ∀ k, k < 60 → chkO lks_RL cL_law 4 (1620 + k) (kL_law (1620 + k)) = true := by decide +kernel
theorem okL_all : ∀ pc, pc < 1680 → chkO lks_RL cL_law 4 pc (kL_law pc) = true := by
  intro pc hpc
  have e : pc = 60 * (pc / 60) + pc % 60 := by omega
  have hk : pc % 60 < 60 := by omega
  have hq : pc / 60 < 28 := by omega
  rw [e]
  generalize pc % 60 = k at hk
  generalize pc / 60 = q at hq
  rcases (show q = 0 ∨ q = 1 ∨ q = 2 ∨ q = 3 ∨ q = 4 ∨ q = 5 ∨ q = 6 ∨ q = 7 ∨ q = 8 ∨ q = 9 ∨ q = 10 ∨ q = 11 ∨ q = 12 ∨ q = 13 ∨ q = 14 ∨ q = 15 ∨ q = 16 ∨ q = 17 ∨ q = 18 ∨ q = 19 ∨ q = 20 ∨ q = 21 ∨ q = 22 ∨ q = 23 ∨ q = 24 ∨ q = 25 ∨ q = 26 ∨ q = 27 by omega) with rfl | rfl | rfl | rfl | rfl | rfl | rfl | rfl | rfl | rfl | rfl | rfl | rfl | rfl | rfl | rfl | rfl | rfl | rfl | rfl | rfl | rfl | rfl | rfl | rfl | rfl | rfl | rfl
  · exact okL_0 k hk
  · exact okL_1 k hk
  · exact okL_2 k hk
  · exact okL_3 k hk
  · exact okL_4 k hk
  · exact okL_5 k hk
  · exact okL_6 k hk
  · exact okL_7 k hk
  · exact okL_8 k hk
  · exact okL_9 k hk
  · exact okL_10 k hk
  · exact okL_11 k hk
  · exact okL_12 k hk
  · exact okL_13 k hk
  · exact okL_14 k hk
  · exact okL_15 k hk
  · exact okL_16 k hk
  · exact okL_17 k hk
  · exact okL_18 k hk
  · exact okL_19 k hk
  · exact okL_20 k hk
  · exact okL_21 k hk
  · exact okL_22 k hk
  · exact okL_23 k hk
  · exact okL_24 k hk
  · exact okL_25 k hk
  · exact okL_26 k hk
  · exact okL_27 k hk
theorem okL_law (L : Nat) (xs : Nat → Int32) : OkM (mL_law L xs) := by
  intro pc en he
  have he : kL_law pc = some en := he
  rcases Nat.lt_or_ge pc 1680 with hp | hp
  · have h1 := okL_all pc hp
    rw [he] at h1
    exact chkE_ok lkp_RL h1
  · unfold kL_law aC at he
    rw [show Nat.blt pc 1655 = false by rw [← Bool.not_eq_true, Nat.blt_eq]; omega, cond_false] at he
    cases he
