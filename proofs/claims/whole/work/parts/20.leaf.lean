/-! ===== methods that look at no cell ===== -/
set_option maxRecDepth 100000 in
set_option maxHeartbeats 2000000 in
theorem tX5_isBetween (v a b : Int32) : MP mX5_isBetween 1 [.int v, .int a, .int b] [.int (bI (a ≤ v ∧ v ≤ b))] := by
  refine MP.of okX5_isBetween (by decide +kernel) (Nat.le_of_ble_eq_true rfl) (by decide) rfl rfl (fun n h g q hn => ?_)
  refine Seg.run [] 400 ?_
  refine And.intro (fun c => ?_) (fun c => ?_)
  · exact And.intro (Or.inl rfl) (Seg.ri (bI_0 (fun z => nlt c z.1)))
  refine And.intro (fun d => ?_) (fun d => ?_)
  · exact And.intro (Or.inl rfl) (Seg.ri (bI_0 (fun z => nlt d z.2)))
  · exact And.intro (Or.inr rfl) (Seg.ri (bI_1 ⟨nle c, nle d⟩))
set_option maxRecDepth 100000 in
set_option maxHeartbeats 2000000 in
theorem tX6_in (v a b : Int32) : MP mX6_in 1 [.int v, .int a, .int b] [.int (bI (a ≤ v ∧ v ≤ b))] := by
  refine MP.of okX6_in (by decide +kernel) (Nat.le_of_ble_eq_true rfl) (by decide) rfl rfl (fun n h g q hn => ?_)
  refine Seg.run [] 400 ?_
  refine And.intro (fun c => ?_) (fun c => ?_)
  · exact And.intro (Or.inl rfl) (Seg.ri (bI_0 (fun z => nlt c z.1)))
  refine And.intro (fun d => ?_) (fun d => ?_)
  · exact And.intro (Or.inl rfl) (Seg.ri (bI_0 (fun z => nlt d z.2)))
  · exact And.intro (Or.inr rfl) (Seg.ri (bI_1 ⟨nle c, nle d⟩))
set_option maxRecDepth 100000 in
set_option maxHeartbeats 2000000 in
theorem tX5_isCoin (v : Int32) : MP mX5_isCoin 2 [.int v] [.int (bI (0 ≤ v ∧ v ≤ 7))] := by
  refine MP.of okX5_isCoin (by decide +kernel) (Nat.le_of_ble_eq_true rfl) (by decide) rfl rfl (fun n h g q hn => ?_)
  refine Seg.run [] 400 ?_
  refine Seg.tr (Seg.pS (tX5_isBetween v 0 7) mlX5_59 syX5_isBetween oyX5_isBetween rfl (by decide) hn rfl rfl rfl (Nat.le_of_ble_eq_true rfl) (Nat.le_of_ble_eq_true rfl)) ?_
  refine Seg.run [] 400 ?_
  exact And.intro (bI_01 _) Seg.rf
set_option maxRecDepth 100000 in
set_option maxHeartbeats 2000000 in
theorem tX5_isThrow (v : Int32) : MP mX5_isThrow 2 [.int v] [.int (bI (0 ≤ v ∧ v ≤ 255))] := by
  refine MP.of okX5_isThrow (by decide +kernel) (Nat.le_of_ble_eq_true rfl) (by decide) rfl rfl (fun n h g q hn => ?_)
  refine Seg.run [] 400 ?_
  refine Seg.tr (Seg.pS (tX5_isBetween v 0 255) mlX5_59 syX5_isBetween oyX5_isBetween rfl (by decide) hn rfl rfl rfl (Nat.le_of_ble_eq_true rfl) (Nat.le_of_ble_eq_true rfl)) ?_
  refine Seg.run [] 400 ?_
  exact And.intro (bI_01 _) Seg.rf
set_option maxRecDepth 100000 in
set_option maxHeartbeats 2000000 in
theorem tX5_isKind (v : Int32) : MP mX5_isKind 2 [.int v] [.int (bI (0 ≤ v ∧ v ≤ 6))] := by
  refine MP.of okX5_isKind (by decide +kernel) (Nat.le_of_ble_eq_true rfl) (by decide) rfl rfl (fun n h g q hn => ?_)
  refine Seg.run [] 400 ?_
  refine Seg.tr (Seg.pS (tX5_isBetween v 0 6) mlX5_59 syX5_isBetween oyX5_isBetween rfl (by decide) hn rfl rfl rfl (Nat.le_of_ble_eq_true rfl) (Nat.le_of_ble_eq_true rfl)) ?_
  refine Seg.run [] 400 ?_
  exact And.intro (bI_01 _) Seg.rf
set_option maxRecDepth 100000 in
set_option maxHeartbeats 2000000 in
theorem tX5_isPart (v : Int32) : MP mX5_isPart 2 [.int v] [.int (bI (0 ≤ v ∧ v ≤ 1))] := by
  refine MP.of okX5_isPart (by decide +kernel) (Nat.le_of_ble_eq_true rfl) (by decide) rfl rfl (fun n h g q hn => ?_)
  refine Seg.run [] 400 ?_
  refine Seg.tr (Seg.pS (tX5_isBetween v 0 1) mlX5_59 syX5_isBetween oyX5_isBetween rfl (by decide) hn rfl rfl rfl (Nat.le_of_ble_eq_true rfl) (Nat.le_of_ble_eq_true rfl)) ?_
  refine Seg.run [] 400 ?_
  exact And.intro (bI_01 _) Seg.rf
set_option maxRecDepth 100000 in
set_option maxHeartbeats 2000000 in
theorem tX5_isSpot (v : Int32) : MP mX5_isSpot 2 [.int v] [.int (bI (0 ≤ v ∧ v ≤ 9))] := by
  refine MP.of okX5_isSpot (by decide +kernel) (Nat.le_of_ble_eq_true rfl) (by decide) rfl rfl (fun n h g q hn => ?_)
  refine Seg.run [] 400 ?_
  refine Seg.tr (Seg.pS (tX5_isBetween v 0 9) mlX5_59 syX5_isBetween oyX5_isBetween rfl (by decide) hn rfl rfl rfl (Nat.le_of_ble_eq_true rfl) (Nat.le_of_ble_eq_true rfl)) ?_
  refine Seg.run [] 400 ?_
  exact And.intro (bI_01 _) Seg.rf
set_option maxRecDepth 100000 in
set_option maxHeartbeats 2000000 in
theorem tX5_isSheet (v : Int32) : MP mX5_isSheet 2 [.int v] [.int (bI (0 ≤ v ∧ v ≤ 3))] := by
  refine MP.of okX5_isSheet (by decide +kernel) (Nat.le_of_ble_eq_true rfl) (by decide) rfl rfl (fun n h g q hn => ?_)
  refine Seg.run [] 400 ?_
  refine Seg.tr (Seg.pS (tX5_isBetween v 0 3) mlX5_59 syX5_isBetween oyX5_isBetween rfl (by decide) hn rfl rfl rfl (Nat.le_of_ble_eq_true rfl) (Nat.le_of_ble_eq_true rfl)) ?_
  refine Seg.run [] 400 ?_
  exact And.intro (bI_01 _) Seg.rf
set_option maxRecDepth 100000 in
set_option maxHeartbeats 2000000 in
theorem tX6_isCoin (v : Int32) : MP mX6_isCoin 2 [.int v] [.int (bI (0 ≤ v ∧ v ≤ 7))] := by
  refine MP.of okX6_isCoin (by decide +kernel) (Nat.le_of_ble_eq_true rfl) (by decide) rfl rfl (fun n h g q hn => ?_)
  refine Seg.run [] 400 ?_
  refine Seg.tr (Seg.pS (tX6_in v 0 7) mlX6_47 syX6_in oyX6_in rfl (by decide) hn rfl rfl rfl (Nat.le_of_ble_eq_true rfl) (Nat.le_of_ble_eq_true rfl)) ?_
  refine Seg.run [] 400 ?_
  exact And.intro (bI_01 _) Seg.rf
set_option maxRecDepth 100000 in
set_option maxHeartbeats 2000000 in
theorem tX6_isThrow (v : Int32) : MP mX6_isThrow 2 [.int v] [.int (bI (0 ≤ v ∧ v ≤ 255))] := by
  refine MP.of okX6_isThrow (by decide +kernel) (Nat.le_of_ble_eq_true rfl) (by decide) rfl rfl (fun n h g q hn => ?_)
  refine Seg.run [] 400 ?_
  refine Seg.tr (Seg.pS (tX6_in v 0 255) mlX6_47 syX6_in oyX6_in rfl (by decide) hn rfl rfl rfl (Nat.le_of_ble_eq_true rfl) (Nat.le_of_ble_eq_true rfl)) ?_
  refine Seg.run [] 400 ?_
  exact And.intro (bI_01 _) Seg.rf
set_option maxRecDepth 100000 in
set_option maxHeartbeats 2000000 in
theorem tX6_isPart (v : Int32) : MP mX6_isPart 2 [.int v] [.int (bI (0 ≤ v ∧ v ≤ 1))] := by
  refine MP.of okX6_isPart (by decide +kernel) (Nat.le_of_ble_eq_true rfl) (by decide) rfl rfl (fun n h g q hn => ?_)
  refine Seg.run [] 400 ?_
  refine Seg.tr (Seg.pS (tX6_in v 0 1) mlX6_47 syX6_in oyX6_in rfl (by decide) hn rfl rfl rfl (Nat.le_of_ble_eq_true rfl) (Nat.le_of_ble_eq_true rfl)) ?_
  refine Seg.run [] 400 ?_
  exact And.intro (bI_01 _) Seg.rf
set_option maxRecDepth 100000 in
set_option maxHeartbeats 2000000 in
theorem tX6_isSheet (v : Int32) : MP mX6_isSheet 2 [.int v] [.int (bI (0 ≤ v ∧ v ≤ 3))] := by
  refine MP.of okX6_isSheet (by decide +kernel) (Nat.le_of_ble_eq_true rfl) (by decide) rfl rfl (fun n h g q hn => ?_)
  refine Seg.run [] 400 ?_
  refine Seg.tr (Seg.pS (tX6_in v 0 3) mlX6_47 syX6_in oyX6_in rfl (by decide) hn rfl rfl rfl (Nat.le_of_ble_eq_true rfl) (Nat.le_of_ble_eq_true rfl)) ?_
  refine Seg.run [] 400 ?_
  exact And.intro (bI_01 _) Seg.rf
set_option maxRecDepth 100000 in
set_option maxHeartbeats 2000000 in
theorem tX5_isRatio (a b : Int32) : MP mX5_isRatio 2 [.int a, .int b] [.int (bI ((1 ≤ b ∧ b ≤ 999) ∧ 0 ≤ a ∧ a ≤ b))] := by
  refine MP.of okX5_isRatio (by decide +kernel) (Nat.le_of_ble_eq_true rfl) (by decide) rfl rfl (fun n h g q hn => ?_)
  refine Seg.run [] 400 ?_
  refine Seg.tr (Seg.pS (tX5_isBetween b 1 999) mlX5_59 syX5_isBetween oyX5_isBetween rfl (by decide) hn rfl rfl rfl (Nat.le_of_ble_eq_true rfl) (Nat.le_of_ble_eq_true rfl)) ?_
  refine Seg.run [] 400 ?_
  refine And.intro (fun c => ?_) (fun c => ?_)
  · exact And.intro (Or.inl rfl) (Seg.ri (bI_0 (fun z => bI_eq0.mp c z.1)))
  refine Seg.tr (Seg.pS (tX5_isBetween a 0 b) mlX5_59 syX5_isBetween oyX5_isBetween rfl (by decide) hn rfl rfl rfl (Nat.le_of_ble_eq_true rfl) (Nat.le_of_ble_eq_true rfl)) ?_
  refine Seg.run [] 400 ?_
  refine And.intro (fun d => ?_) (fun d => ?_)
  · exact And.intro (Or.inl rfl) (Seg.ri (bI_0 (fun z => bI_eq0.mp d z.2)))
  · exact And.intro (Or.inr rfl) (Seg.ri (bI_1 ⟨bI_ne0.mp c, bI_ne0.mp d⟩))
set_option maxRecDepth 100000 in
set_option maxHeartbeats 2000000 in
theorem tX6_isChance (a b : Int32) : MP mX6_isChance 2 [.int a, .int b] [.int (bI ((1 ≤ b ∧ b ≤ 999) ∧ 0 ≤ a ∧ a ≤ b))] := by
  refine MP.of okX6_isChance (by decide +kernel) (Nat.le_of_ble_eq_true rfl) (by decide) rfl rfl (fun n h g q hn => ?_)
  refine Seg.run [] 400 ?_
  refine Seg.tr (Seg.pS (tX6_in b 1 999) mlX6_47 syX6_in oyX6_in rfl (by decide) hn rfl rfl rfl (Nat.le_of_ble_eq_true rfl) (Nat.le_of_ble_eq_true rfl)) ?_
  refine Seg.run [] 400 ?_
  refine And.intro (fun c => ?_) (fun c => ?_)
  · exact And.intro (Or.inl rfl) (Seg.ri (bI_0 (fun z => bI_eq0.mp c z.1)))
  refine Seg.tr (Seg.pS (tX6_in a 0 b) mlX6_47 syX6_in oyX6_in rfl (by decide) hn rfl rfl rfl (Nat.le_of_ble_eq_true rfl) (Nat.le_of_ble_eq_true rfl)) ?_
  refine Seg.run [] 400 ?_
  refine And.intro (fun d => ?_) (fun d => ?_)
  · exact And.intro (Or.inl rfl) (Seg.ri (bI_0 (fun z => bI_eq0.mp d z.2)))
  · exact And.intro (Or.inr rfl) (Seg.ri (bI_1 ⟨bI_ne0.mp c, bI_ne0.mp d⟩))
set_option maxRecDepth 100000 in
set_option maxHeartbeats 2000000 in
theorem tX5_has (s m : Int32) : MP mX5_has 1 [.int s, .int m] [.int (bI (hsB s m = true))] := by
  refine MP.of okX5_has (by decide +kernel) (Nat.le_of_ble_eq_true rfl) (by decide) rfl rfl (fun n h g q hn => ?_)
  refine Seg.run [] 400 ?_
  refine And.intro (fun c => ?_) (fun c => ?_)
  · exact And.intro (Or.inl rfl) (Seg.ri (bI_0 (fun z => c (of_decide_eq_true z))))
  · exact And.intro (Or.inr rfl) (Seg.ri (bI_1 (decide_eq_true (Decidable.not_not.mp c))))
set_option maxRecDepth 100000 in
set_option maxHeartbeats 2000000 in
theorem tX6_heads (s m : Int32) : MP mX6_heads 1 [.int s, .int m] [.int (bI (hsB s m = true))] := by
  refine MP.of okX6_heads (by decide +kernel) (Nat.le_of_ble_eq_true rfl) (by decide) rfl rfl (fun n h g q hn => ?_)
  refine Seg.run [] 400 ?_
  refine And.intro (fun c => ?_) (fun c => ?_)
  · exact And.intro (Or.inl rfl) (Seg.ri (bI_0 (fun z => c (of_decide_eq_true z))))
  · exact And.intro (Or.inr rfl) (Seg.ri (bI_1 (decide_eq_true (Decidable.not_not.mp c))))
def mxI (a b : Int32) : Int32 := if a < b then b else a
def mnI (a b : Int32) : Int32 := if b < a then b else a
set_option maxRecDepth 100000 in
set_option maxHeartbeats 2000000 in
theorem tJ9_max (a b : Int32) : MP mJ9_max_7cf53 1 [.int a, .int b] [.int (mxI a b)] := by
  refine MP.of okJ9_max_7cf53 (by decide +kernel) (Nat.le_of_ble_eq_true rfl) (by decide) rfl rfl (fun n h g q hn => ?_)
  refine Seg.run [] 400 ?_
  refine And.intro (fun c => ?_) (fun c => ?_)
  · exact Seg.ri (if_pos (c : a < b)).symm
  · exact Seg.ri (if_neg (c : ¬ a < b)).symm
set_option maxRecDepth 100000 in
set_option maxHeartbeats 2000000 in
theorem tJ9_min (a b : Int32) : MP mJ9_min_7cf53 1 [.int a, .int b] [.int (mnI a b)] := by
  refine MP.of okJ9_min_7cf53 (by decide +kernel) (Nat.le_of_ble_eq_true rfl) (by decide) rfl rfl (fun n h g q hn => ?_)
  refine Seg.run [] 400 ?_
  refine And.intro (fun c => ?_) (fun c => ?_)
  · exact Seg.ri (if_pos (c : b < a)).symm
  · exact Seg.ri (if_neg (c : ¬ b < a)).symm
