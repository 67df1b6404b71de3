/-! ===== the law's code table, in pieces; printed by wip/whole/mk38.py ===== -/
theorem okL_14 : ∀ k, k < 60 → chkO lks_RL cL_law 4 (840 + k) (kL_law (840 + k)) = true := by decide +kernel
theorem okL_15 : ∀ k, k < 60 → chkO lks_RL cL_law 4 (900 + k) (kL_law (900 + k)) = true := by decide +kernel
theorem okL_16 : ∀ k, k < 60 → chkO lks_RL cL_law 4 (960 + k) (kL_law (960 + k)) = true := by decide +kernel
theorem okL_17 : ∀ k, k < 60 → chkO lks_RL cL_law 4 (1020 + k) (kL_law (1020 + k)) = true := by decide +kernel
theorem okL_18 : ∀ k, k < 60 → chkO lks_RL cL_law 4 (1080 + k) (kL_law (1080 + k)) = true := by decide +kernel
theorem okL_19 : ∀ k, k < 60 → chkO lks_RL cL_law 4 (1140 + k) (kL_law (1140 + k)) = true := by decide +kernel
theorem okL_20 : ∀ k, k < 60 → chkO lks_RL cL_law 4 (1200 + k) (kL_law (1200 + k)) = true := by decide +kernel
