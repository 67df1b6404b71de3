set_option maxRecDepth 100000 in
theorem tX5_isBetween (lv : Nat) (hlv : 1 ≤ lv) (v a b : Int32) (n : Nat) (hn : n ≤ nW) (h : Nat → Nat → Int32) (g : Nat → Nat → Int64) (r : Nat → Nat → Option Nat) : MM mX5_isBetween lv [.int v, .int a, .int b] n (h, g, r) [.int (if a ≤ v ∧ v ≤ b then 1 else 0)] n (h, g, r) := by
  refine MM.of (by decide) okX5_isBetween (Nat.le_of_ble_eq_true rfl) hlv rfl (Nat.zero_le _) (Nat.le_refl _) hn ?_
  refine Seg.run [] 20 ?_
  refine And.intro (fun h => ?_) (fun h => ?_)
  · trace_state
    sorry
  · refine And.intro (fun h2 => ?_) (fun h2 => ?_)
    · sorry
    · trace_state
      sorry
