/-! ===== methods that look at no cell ===== -/
set_option maxRecDepth 100000 in
theorem tX5_isBetween (v a b : Int32) : MP mX5_isBetween 1 [.int v, .int a, .int b] [.int (bI (a ≤ v ∧ v ≤ b))] := by
  refine MP.of okX5_isBetween (by decide) (Nat.le_of_ble_eq_true rfl) (by decide) rfl rfl (fun n h g q hn => ?_)
  refine Seg.run [] 400 ?_
  refine And.intro (fun c => ?_) (fun c => ?_)
  · exact And.intro (Or.inl rfl) (Seg.ri (bI_0 (fun z => nlt c z.1)))
  refine And.intro (fun d => ?_) (fun d => ?_)
  · exact And.intro (Or.inl rfl) (Seg.ri (bI_0 (fun z => nlt d z.2)))
  · exact And.intro (Or.inr rfl) (Seg.ri (bI_1 ⟨nle c, nle d⟩))
set_option maxRecDepth 100000 in
theorem tX5_isCoin (v : Int32) : MP mX5_isCoin 2 [.int v] [.int (bI (0 ≤ v ∧ v ≤ 7))] := by
  refine MP.of okX5_isCoin (by decide) (Nat.le_of_ble_eq_true rfl) (by decide) rfl rfl (fun n h g q hn => ?_)
  refine Seg.run [] 400 ?_
  refine Seg.tr (Seg.pS (tX5_isBetween v 0 7) mlX5_59 syX5_isBetween oyX5_isBetween rfl (by decide) hn rfl rfl rfl (Nat.le_of_ble_eq_true rfl) (Nat.le_of_ble_eq_true rfl)) ?_
  refine Seg.run [] 400 ?_
  exact And.intro (bI_01 _) Seg.rf
