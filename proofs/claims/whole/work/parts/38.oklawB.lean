/-! ===== the law's code table, in pieces; printed by wip/whole/mk38.py ===== -/
theorem okL_7 : ∀ k, k < 60 → chkO lks_RL cL_law 4 (420 + k) (kL_law (420 + k)) = true := by decide +kernel
theorem okL_8 : ∀ k, k < 60 → chkO lks_RL cL_law 4 (480 + k) (kL_law (480 + k)) = true := by decide +kernel
theorem okL_9 : ∀ k, k < 60 → chkO lks_RL cL_law 4 (540 + k) (kL_law (540 + k)) = true := by decide +kernel
theorem okL_10 : ∀ k, k < 60 → chkO lks_RL cL_law 4 (600 + k) (kL_law (600 + k)) = true := by decide +kernel
theorem okL_11 : ∀ k, k < 60 → chkO lks_RL cL_law 4 (660 + k) (kL_law (660 + k)) = true := by decide +kernel
theorem okL_12 : ∀ k, k < 60 → chkO lks_RL cL_law 4 (720 + k) (kL_law (720 + k)) = true := by decide +kernel
theorem okL_13 : ∀ k, k < 60 → chkO lks_RL cL_law 4 (780 + k) (kL_law (780 + k)) = true := by decide +kernel
