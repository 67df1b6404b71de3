/-! ===== the law's code table, in pieces; printed by wip/whole/mk38.py ===== -/
theorem okL_0 : ∀ k, k < 60 → chkO lks_RL cL_law 4 (0 + k) (kL_law (0 + k)) = true := by decide +kernel
theorem okL_1 : ∀ k, k < 60 → chkO lks_RL cL_law 4 (60 + k) (kL_law (60 + k)) = true := by decide +kernel
theorem okL_2 : ∀ k, k < 60 → chkO lks_RL cL_law 4 (120 + k) (kL_law (120 + k)) = true := by decide +kernel
theorem okL_3 : ∀ k, k < 60 → chkO lks_RL cL_law 4 (180 + k) (kL_law (180 + k)) = true := by decide +kernel
theorem okL_4 : ∀ k, k < 60 → chkO lks_RL cL_law 4 (240 + k) (kL_law (240 + k)) = true := by decide +kernel
theorem okL_5 : ∀ k, k < 60 → chkO lks_RL cL_law 4 (300 + k) (kL_law (300 + k)) = true := by decide +kernel
theorem okL_6 : ∀ k, k < 60 → chkO lks_RL cL_law 4 (360 + k) (kL_law (360 + k)) = true := by decide +kernel
