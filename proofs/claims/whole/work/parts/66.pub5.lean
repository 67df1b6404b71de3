/-! ===== public methods: the best sets, coins; printed by wip/whole/gen66.py ===== -/
theorem frV1 {h h1 h2 : aH} (f1 : frO h h1) (f2 : ∀ a, a ≠ 51 → h2 a = h1 a) : frO h h2 := fun a ha => (f2 a (by omega)).trans (f1 a ha)
noncomputable def sp_likely (V : aV) (p : Int32) : Int32 × aV := if isS V.1 p then (foI (lkS V.1 (cl p) 11), V) else fnd V 0 (-1000001)
set_option maxRecDepth 100000 in
set_option maxHeartbeats 400000 in
theorem zC_likely {V : aV} (hV : VOk V) (p : Int32) : CX mX5_likely 11 [.int p] V (sp_likely V p) := by
  intro h g hv
  obtain ⟨v1, v2, v3, v4, v5, v6⟩ := id hv
  have ht := hV.1
  refine MX.of okX5_likely (by decide +kernel) (Nat.le_of_ble_eq_true rfl) (by decide) rfl (by decide) ?_
  refine SegP.run [] 400 ?_
  refine SegP.tr (Seg.cV (tX5_isSet ht v1 p) mlX5_163 iyX5_isSet seX5_isSet oyX5_isSet rfl (by decide) rfl (by decide) (by decide) rfl rfl rfl rfl (Nat.le_of_ble_eq_true rfl) (Nat.le_of_ble_eq_true rfl)) ?_
  refine SegP.run [] 400 ?_
  refine And.intro (fun z0 => ?_) (fun z0 => ?_)
  · have q0 := bn1 z0
    obtain ⟨S, hS, rfl⟩ := isS_N ht q0
    have hp := pow_le10 ht.np.1
    refine SegP.cV (tX0_gather h V.1 g v1 ht) mlX5_181 iyX0_gather seX0_gather oyX0_gather rfl (by decide) rfl (by decide) (by decide) rfl rfl rfl rfl (Nat.le_of_ble_eq_true rfl) ?_
    rintro r h1 g1 ⟨rfl, fr, hc⟩
    have hv1 := frV hv fr
    refine SegP.run [] 400 ?_
    refine SegP.cV (tX0_likeliestCount h1 V.1 g1 hc S hS) mlX5_211 iyX0_likeliestCount seX0_likeliestCount oyX0_likeliestCount rfl (by decide) rfl (by decide) (by decide) rfl rfl rfl rfl (Nat.le_of_ble_eq_true rfl) ?_
    rintro r h2 g2 ⟨rfl, fr2⟩
    refine SegP.run [] 400 ?_
    exact cid' (frV hv1 fr2) (fr63 (fr.tr fr2)) (by rw [sp_likely, if_pos q0, cl_nI (by omega)])
  · refine SegP.tr (Seg.cV (tX5_refuse h g 0 (by decide) (-1000001) (by decide)) mlX5_64 iyX5_refuse seX5_refuse oyX5_refuse rfl (by decide) rfl (by decide) (by decide) rfl rfl rfl rfl (Nat.le_of_ble_eq_true rfl) (Nat.le_of_ble_eq_true rfl)) ?_
    refine SegP.run [] 400 ?_
    exact cfn hv (k := 0) (by decide) (by rw [sp_likely, if_neg (fun y => bn0 z0 y)])
noncomputable def sp_fewest (V : aV) (k a b : Int32) : Int32 × aV := if isN V.1 k ∧ ((1 ≤ b ∧ b ≤ 999) ∧ 0 ≤ a ∧ a ≤ b) then (if foI (feS V.1 (cl k) a b (2 ^ nP V.1)) < 0 then fnd V 3 (-1000004) else (foI (feS V.1 (cl k) a b (2 ^ nP V.1)), V)) else fnd V 0 (-1000001)
set_option maxRecDepth 100000 in
set_option maxHeartbeats 400000 in
theorem zC_fewest {V : aV} (hV : VOk V) (k a b : Int32) : CX mX5_fewest 11 [.int k, .int a, .int b] V (sp_fewest V k a b) := by
  intro h g hv
  obtain ⟨v1, v2, v3, v4, v5, v6⟩ := id hv
  have ht := hV.1
  refine MX.of okX5_fewest (by decide +kernel) (Nat.le_of_ble_eq_true rfl) (by decide) rfl (by decide) ?_
  refine SegP.run [] 400 ?_
  refine SegP.tr (Seg.cV (tX5_isNeed v1 k) mlX5_138 iyX5_isNeed seX5_isNeed oyX5_isNeed rfl (by decide) rfl (by decide) (by decide) rfl rfl rfl rfl (Nat.le_of_ble_eq_true rfl) (Nat.le_of_ble_eq_true rfl)) ?_
  refine SegP.run [] 400 ?_
  refine And.intro (fun z0 => ?_) (fun z0 => ?_)
  · refine SegP.tr (Seg.cV (tX5_refuse h g 0 (by decide) (-1000001) (by decide)) mlX5_64 iyX5_refuse seX5_refuse oyX5_refuse rfl (by decide) rfl (by decide) (by decide) rfl rfl rfl rfl (Nat.le_of_ble_eq_true rfl) (Nat.le_of_ble_eq_true rfl)) ?_
    refine SegP.run [] 400 ?_
    exact cfn hv (k := 0) (by decide) (by rw [sp_fewest, if_neg (fun y => bq0 z0 y.1)])
  have q0 := bq1 z0
  refine SegP.tr (Seg.cS ((tX5_isRatio a b).ms h g) mlX5_214 syX5_isRatio oyX5_isRatio rfl (by decide) rfl rfl rfl (Nat.le_of_ble_eq_true rfl) (Nat.le_of_ble_eq_true rfl)) ?_
  refine SegP.run [] 400 ?_
  refine And.intro (fun z1 => ?_) (fun z1 => ?_)
  · have q1 := bn1 z1
    obtain ⟨k', hk, rfl⟩ := isN_N ht q0
    have h6 := ht.nn.1
    refine SegP.cV (tX0_gather h V.1 g v1 ht) mlX5_181 iyX0_gather seX0_gather oyX0_gather rfl (by decide) rfl (by decide) (by decide) rfl rfl rfl rfl (Nat.le_of_ble_eq_true rfl) ?_
    rintro r h1 g1 ⟨rfl, fr, hc⟩
    have hv1 := frV hv fr
    refine SegP.run [] 400 ?_
    refine SegP.cV (tX0_fewestFor h1 V.1 g1 hc.1 k' hk a b) mlX5_217 iyX0_fewestFor seX0_fewestFor oyX0_fewestFor rfl (by decide) rfl (by decide) (by decide) rfl rfl rfl rfl (Nat.le_of_ble_eq_true rfl) ?_
    rintro r h2 g2 ⟨rfl, f2⟩
    have fr2 := frV1 fr f2
    have hv2 := frV hv fr2
    refine SegP.run [] 400 ?_
    refine And.intro (fun zz => ?_) (fun zz => ?_)
    · exact cid' hv2 (fr63 fr2) (by rw [sp_fewest, if_pos ⟨q0, q1⟩, cl_nI (by omega), if_neg (Int32.not_lt.mpr zz)])
    · refine SegP.tr (Seg.cV (tX5_refuse h2 g2 3 (by decide) (-1000004) (by decide)) mlX5_64 iyX5_refuse seX5_refuse oyX5_refuse rfl (by decide) rfl (by decide) (by decide) rfl rfl rfl rfl (Nat.le_of_ble_eq_true rfl) (Nat.le_of_ble_eq_true rfl)) ?_
      refine SegP.run [] 400 ?_
      exact cfn' hv2 (fr63 fr2) (k := 3) (by decide) (by rw [sp_fewest, if_pos ⟨q0, q1⟩, cl_nI (by omega), if_pos (Int32.not_le.mp zz)])
  · refine SegP.tr (Seg.cV (tX5_refuse h g 0 (by decide) (-1000001) (by decide)) mlX5_64 iyX5_refuse seX5_refuse oyX5_refuse rfl (by decide) rfl (by decide) (by decide) rfl rfl rfl rfl (Nat.le_of_ble_eq_true rfl) (Nat.le_of_ble_eq_true rfl)) ?_
    refine SegP.run [] 400 ?_
    exact cfn hv (k := 0) (by decide) (by rw [sp_fewest, if_neg (fun y => bn0 z1 y.2)])
noncomputable def sp_cheapest (V : aV) (k a b : Int32) : Int32 × aV := if isN V.1 k ∧ ((1 ≤ b ∧ b ≤ 999) ∧ 0 ≤ a ∧ a ≤ b) then (if foI (chS V.1 (cl k) a b (2 ^ nP V.1)) < 0 then fnd V 3 (-1000004) else (foI (chS V.1 (cl k) a b (2 ^ nP V.1)), V)) else fnd V 0 (-1000001)
set_option maxRecDepth 100000 in
set_option maxHeartbeats 400000 in
theorem zC_cheapest {V : aV} (hV : VOk V) (k a b : Int32) : CX mX5_cheapest 11 [.int k, .int a, .int b] V (sp_cheapest V k a b) := by
  intro h g hv
  obtain ⟨v1, v2, v3, v4, v5, v6⟩ := id hv
  have ht := hV.1
  refine MX.of okX5_cheapest (by decide +kernel) (Nat.le_of_ble_eq_true rfl) (by decide) rfl (by decide) ?_
  refine SegP.run [] 400 ?_
  refine SegP.tr (Seg.cV (tX5_isNeed v1 k) mlX5_138 iyX5_isNeed seX5_isNeed oyX5_isNeed rfl (by decide) rfl (by decide) (by decide) rfl rfl rfl rfl (Nat.le_of_ble_eq_true rfl) (Nat.le_of_ble_eq_true rfl)) ?_
  refine SegP.run [] 400 ?_
  refine And.intro (fun z0 => ?_) (fun z0 => ?_)
  · refine SegP.tr (Seg.cV (tX5_refuse h g 0 (by decide) (-1000001) (by decide)) mlX5_64 iyX5_refuse seX5_refuse oyX5_refuse rfl (by decide) rfl (by decide) (by decide) rfl rfl rfl rfl (Nat.le_of_ble_eq_true rfl) (Nat.le_of_ble_eq_true rfl)) ?_
    refine SegP.run [] 400 ?_
    exact cfn hv (k := 0) (by decide) (by rw [sp_cheapest, if_neg (fun y => bq0 z0 y.1)])
  have q0 := bq1 z0
  refine SegP.tr (Seg.cS ((tX5_isRatio a b).ms h g) mlX5_214 syX5_isRatio oyX5_isRatio rfl (by decide) rfl rfl rfl (Nat.le_of_ble_eq_true rfl) (Nat.le_of_ble_eq_true rfl)) ?_
  refine SegP.run [] 400 ?_
  refine And.intro (fun z1 => ?_) (fun z1 => ?_)
  · have q1 := bn1 z1
    obtain ⟨k', hk, rfl⟩ := isN_N ht q0
    have h6 := ht.nn.1
    refine SegP.cV (tX0_gather h V.1 g v1 ht) mlX5_181 iyX0_gather seX0_gather oyX0_gather rfl (by decide) rfl (by decide) (by decide) rfl rfl rfl rfl (Nat.le_of_ble_eq_true rfl) ?_
    rintro r h1 g1 ⟨rfl, fr, hc⟩
    have hv1 := frV hv fr
    refine SegP.run [] 400 ?_
    refine SegP.cV (tX0_cheapestFor h1 V.1 g1 hc k' hk a b) mlX5_221 iyX0_cheapestFor seX0_cheapestFor oyX0_cheapestFor rfl (by decide) rfl (by decide) (by decide) rfl rfl rfl rfl (Nat.le_of_ble_eq_true rfl) ?_
    rintro r h2 g2 ⟨rfl, f2⟩
    have fr2 := frV1 fr f2
    have hv2 := frV hv fr2
    refine SegP.run [] 400 ?_
    refine And.intro (fun zz => ?_) (fun zz => ?_)
    · exact cid' hv2 (fr63 fr2) (by rw [sp_cheapest, if_pos ⟨q0, q1⟩, cl_nI (by omega), if_neg (Int32.not_lt.mpr zz)])
    · refine SegP.tr (Seg.cV (tX5_refuse h2 g2 3 (by decide) (-1000004) (by decide)) mlX5_64 iyX5_refuse seX5_refuse oyX5_refuse rfl (by decide) rfl (by decide) (by decide) rfl rfl rfl rfl (Nat.le_of_ble_eq_true rfl) (Nat.le_of_ble_eq_true rfl)) ?_
      refine SegP.run [] 400 ?_
      exact cfn' hv2 (fr63 fr2) (k := 3) (by decide) (by rw [sp_cheapest, if_pos ⟨q0, q1⟩, cl_nI (by omega), if_pos (Int32.not_le.mp zz)])
  · refine SegP.tr (Seg.cV (tX5_refuse h g 0 (by decide) (-1000001) (by decide)) mlX5_64 iyX5_refuse seX5_refuse oyX5_refuse rfl (by decide) rfl (by decide) (by decide) rfl rfl rfl rfl (Nat.le_of_ble_eq_true rfl) (Nat.le_of_ble_eq_true rfl)) ?_
    refine SegP.run [] 400 ?_
    exact cfn hv (k := 0) (by decide) (by rw [sp_cheapest, if_neg (fun y => bn0 z1 y.2)])
noncomputable def sp_most (V : aV) (m a b : Int32) : Int32 × aV := if (0 ≤ m ∧ m ≤ 9999) ∧ ((1 ≤ b ∧ b ≤ 999) ∧ 0 ≤ a ∧ a ≤ b) then (foI (moS V.1 (cl m) a b (2 ^ nP V.1)), V) else fnd V 0 (-1000001)
set_option maxRecDepth 100000 in
set_option maxHeartbeats 400000 in
theorem zC_most {V : aV} (hV : VOk V) (m a b : Int32) : CX mX5_most 11 [.int m, .int a, .int b] V (sp_most V m a b) := by
  intro h g hv
  obtain ⟨v1, v2, v3, v4, v5, v6⟩ := id hv
  have ht := hV.1
  refine MX.of okX5_most (by decide +kernel) (Nat.le_of_ble_eq_true rfl) (by decide) rfl (by decide) ?_
  refine SegP.run [] 400 ?_
  refine SegP.tr (Seg.cS ((tX5_isBetween m 0 9999).ms h g) mlX5_59 syX5_isBetween oyX5_isBetween rfl (by decide) rfl rfl rfl (Nat.le_of_ble_eq_true rfl) (Nat.le_of_ble_eq_true rfl)) ?_
  refine SegP.run [] 400 ?_
  refine And.intro (fun z0 => ?_) (fun z0 => ?_)
  · refine SegP.tr (Seg.cV (tX5_refuse h g 0 (by decide) (-1000001) (by decide)) mlX5_64 iyX5_refuse seX5_refuse oyX5_refuse rfl (by decide) rfl (by decide) (by decide) rfl rfl rfl rfl (Nat.le_of_ble_eq_true rfl) (Nat.le_of_ble_eq_true rfl)) ?_
    refine SegP.run [] 400 ?_
    exact cfn hv (k := 0) (by decide) (by rw [sp_most, if_neg (fun y => bq0 z0 y.1)])
  have q0 := bq1 z0
  refine SegP.tr (Seg.cS ((tX5_isRatio a b).ms h g) mlX5_214 syX5_isRatio oyX5_isRatio rfl (by decide) rfl rfl rfl (Nat.le_of_ble_eq_true rfl) (Nat.le_of_ble_eq_true rfl)) ?_
  refine SegP.run [] 400 ?_
  refine And.intro (fun z1 => ?_) (fun z1 => ?_)
  · have q1 := bn1 z1
    obtain ⟨m', hm, rfl⟩ := rng (a := 0) (b := 9999) (by decide) (show nI 0 ≤ m ∧ m ≤ nI 9999 from q0) (by decide)
    refine SegP.cV (tX0_gather h V.1 g v1 ht) mlX5_181 iyX0_gather seX0_gather oyX0_gather rfl (by decide) rfl (by decide) (by decide) rfl rfl rfl rfl (Nat.le_of_ble_eq_true rfl) ?_
    rintro r h1 g1 ⟨rfl, fr, hc⟩
    have hv1 := frV hv fr
    refine SegP.run [] 400 ?_
    refine SegP.cV (tX0_mostWithin h1 V.1 g1 hc m' (by omega) a b) mlX5_224 iyX0_mostWithin seX0_mostWithin oyX0_mostWithin rfl (by decide) rfl (by decide) (by decide) rfl rfl rfl rfl (Nat.le_of_ble_eq_true rfl) ?_
    rintro r h2 g2 ⟨rfl, rfl⟩
    refine SegP.run [] 400 ?_
    exact cid' hv1 (fr63 fr) (by rw [sp_most, if_pos ⟨q0, q1⟩, cl_nI (by omega)])
  · refine SegP.tr (Seg.cV (tX5_refuse h g 0 (by decide) (-1000001) (by decide)) mlX5_64 iyX5_refuse seX5_refuse oyX5_refuse rfl (by decide) rfl (by decide) (by decide) rfl rfl rfl rfl (Nat.le_of_ble_eq_true rfl) (Nat.le_of_ble_eq_true rfl)) ?_
    refine SegP.run [] 400 ?_
    exact cfn hv (k := 0) (by decide) (by rw [sp_most, if_neg (fun y => bn0 z1 y.2)])
noncomputable def sp_best (V : aV)  : Int32 × aV := (foI (beS V.1 (2 ^ nP V.1)), V)
set_option maxRecDepth 100000 in
set_option maxHeartbeats 400000 in
theorem zC_best {V : aV} (hV : VOk V)  : CX mX5_best 11 [] V (sp_best V ) := by
  intro h g hv
  obtain ⟨v1, v2, v3, v4, v5, v6⟩ := id hv
  have ht := hV.1
  refine MX.of okX5_best (by decide +kernel) (Nat.le_of_ble_eq_true rfl) (by decide) rfl (by decide) ?_
  refine SegP.run [] 400 ?_
  refine SegP.cV (tX0_gather h V.1 g v1 ht) mlX5_181 iyX0_gather seX0_gather oyX0_gather rfl (by decide) rfl (by decide) (by decide) rfl rfl rfl rfl (Nat.le_of_ble_eq_true rfl) ?_
  rintro r h1 g1 ⟨rfl, fr, hc⟩
  have hv1 := frV hv fr
  refine SegP.run [] 400 ?_
  refine SegP.cV (tX0_bestSet h1 V.1 g1 hc) mlX5_227 iyX0_bestSet seX0_bestSet oyX0_bestSet rfl (by decide) rfl (by decide) (by decide) rfl rfl rfl rfl (Nat.le_of_ble_eq_true rfl) ?_
  rintro r h2 g2 ⟨rfl, f2⟩
  have fr2 := frV1 fr f2
  refine SegP.run [] 400 ?_
  exact cid' (frV hv fr2) (fr63 fr2) rfl
noncomputable def sp_helps (V : aV)  : Int32 × aV := (hfI (heS V.1 8), V)
set_option maxRecDepth 100000 in
set_option maxHeartbeats 400000 in
theorem zC_helps {V : aV} (hV : VOk V)  : CX mX5_helps 11 [] V (sp_helps V ) := by
  intro h g hv
  obtain ⟨v1, v2, v3, v4, v5, v6⟩ := id hv
  have ht := hV.1
  refine MX.of okX5_helps (by decide +kernel) (Nat.le_of_ble_eq_true rfl) (by decide) rfl (by decide) ?_
  refine SegP.run [] 400 ?_
  refine SegP.cV (tX0_helpingCoin h V.1 g v1 ht) mlX5_230 iyX0_helpingCoin seX0_helpingCoin oyX0_helpingCoin rfl (by decide) rfl (by decide) (by decide) rfl rfl rfl rfl (Nat.le_of_ble_eq_true rfl) ?_
  rintro r h2 g2 ⟨rfl, fr2⟩
  refine SegP.run [] 400 ?_
  exact cid' (frV hv fr2) (fr63 fr2) rfl
def sp_hangs (V : aV) (c : Int32) : Int32 × aV := if (0 ≤ c ∧ c ≤ 7) then (nI (hgN V.1 (cl c) 256), V) else fnd V 0 (-1000001)
set_option maxRecDepth 100000 in
set_option maxHeartbeats 400000 in
theorem zC_hangs {V : aV} (hV : VOk V) (c : Int32) : CX mX5_hangs 11 [.int c] V (sp_hangs V c) := by
  intro h g hv
  obtain ⟨v1, v2, v3, v4, v5, v6⟩ := id hv
  have ht := hV.1
  refine MX.of okX5_hangs (by decide +kernel) (Nat.le_of_ble_eq_true rfl) (by decide) rfl (by decide) ?_
  refine SegP.run [] 400 ?_
  refine SegP.tr (Seg.cS ((tX5_isCoin c).ms h g) mlX5_90 syX5_isCoin oyX5_isCoin rfl (by decide) rfl rfl rfl (Nat.le_of_ble_eq_true rfl) (Nat.le_of_ble_eq_true rfl)) ?_
  refine SegP.run [] 400 ?_
  refine And.intro (fun z0 => ?_) (fun z0 => ?_)
  · have q0 := bn1 z0
    obtain ⟨c', hc', rfl⟩ := rng (a := 0) (b := 7) (by decide) (show nI 0 ≤ c ∧ c ≤ nI 7 from q0) (by decide)
    refine SegP.cV (tX0_fillKeptSets h V.1 g v1 ht) mlX5_233 iyX0_fillKeptSets seX0_fillKeptSets oyX0_fillKeptSets rfl (by decide) rfl (by decide) (by decide) rfl rfl rfl rfl (Nat.le_of_ble_eq_true rfl) ?_
    rintro r h1 g1 ⟨rfl, rfl, f1, k1⟩
    have fr : frO h h1 := fun a ha => f1 a (by omega)
    refine SegP.run [] 400 ?_
    refine SegP.tr (Seg.cV (tX0_hangingBy h1 V.1 _ k1 c' (by omega)) mlX5_236 iyX0_hangingBy seX0_hangingBy oyX0_hangingBy rfl (by decide) rfl (by decide) (by decide) rfl rfl rfl rfl (Nat.le_of_ble_eq_true rfl) (Nat.le_of_ble_eq_true rfl)) ?_
    refine SegP.run [] 400 ?_
    exact cid' (frV hv fr) (fr63 fr) (by rw [sp_hangs, if_pos q0, cl_nI (by omega)])
  · refine SegP.tr (Seg.cV (tX5_refuse h g 0 (by decide) (-1000001) (by decide)) mlX5_64 iyX5_refuse seX5_refuse oyX5_refuse rfl (by decide) rfl (by decide) (by decide) rfl rfl rfl rfl (Nat.le_of_ble_eq_true rfl) (Nat.le_of_ble_eq_true rfl)) ?_
    refine SegP.run [] 400 ?_
    exact cfn hv (k := 0) (by decide) (by rw [sp_hangs, if_neg (fun y => bn0 z0 y)])
set_option maxRecDepth 100000 in
set_option maxHeartbeats 400000 in
theorem zM_hangs {V : aV} (hV : VOk V) (c : Int32) : DX mX6_hangs 11 [.int c] V (sp_hangs V c) := by
  intro h g hv
  obtain ⟨v1, v2, v3, v4, v5, v6⟩ := id hv
  have ht := hV.1
  refine MX.of okX6_hangs (by decide +kernel) (Nat.le_of_ble_eq_true rfl) (by decide) rfl (by decide) ?_
  refine SegP.run [] 400 ?_
  refine SegP.tr (Seg.cS ((tX6_isCoin c).ms h g) mlX6_155 syX6_isCoin oyX6_isCoin rfl (by decide) rfl rfl rfl (Nat.le_of_ble_eq_true rfl) (Nat.le_of_ble_eq_true rfl)) ?_
  refine SegP.run [] 400 ?_
  refine And.intro (fun z0 => ?_) (fun z0 => ?_)
  · have q0 := bn1 z0
    obtain ⟨c', hc', rfl⟩ := rng (a := 0) (b := 7) (by decide) (show nI 0 ≤ c ∧ c ≤ nI 7 from q0) (by decide)
    refine SegP.tr (Seg.cV (tX6_findThrows h g (by rw [v1]; exact ht)) mlX6_218 iyX6_findThrows seX6_findThrows oyX6_findThrows rfl (by decide) rfl (by decide) (by decide) rfl rfl rfl rfl (Nat.le_of_ble_eq_true rfl) (Nat.le_of_ble_eq_true rfl)) ?_
    have hf := FT_ft (h := h) (by rw [v1]; exact ht)
    rw [v1] at hf
    refine SegP.run [] 400 ?_
    refine SegP.tr (Seg.cV (tX6_hangsBy (fun t h0 => (hf.1 t h0).trans (kept_nI ht t).1) c' (by omega)) mlX6_250 iyX6_hangsBy seX6_hangsBy oyX6_hangsBy rfl (by decide) rfl (by decide) (by decide) rfl rfl rfl rfl (Nat.le_of_ble_eq_true rfl) (Nat.le_of_ble_eq_true rfl)) ?_
    refine SegP.run [] 400 ?_
    exact mid' (ftV hv) ftF (by rw [sp_hangs, if_pos q0, cl_nI (by omega)])
  · refine SegP.tr (Seg.cV (tX6_fd h g 0 (by decide) 0 (by decide) (-1000001) (by decide)) mlX6_51 iyX6_finding seX6_finding oyX6_finding rfl (by decide) rfl (by decide) (by decide) rfl rfl rfl rfl (Nat.le_of_ble_eq_true rfl) (Nat.le_of_ble_eq_true rfl)) ?_
    refine SegP.run [] 400 ?_
    exact mfn hv (k := 0) (by decide) (by rw [sp_hangs, if_neg (fun y => bn0 z0 y)])
theorem hg_lt {T : aH} (ht : TOk T) {c : Nat} : ∀ t, hgN T c t < 1024 := by
  intro t
  induction t with
  | zero => exact (by decide : (0 : Nat) < 1024)
  | succ t ih => exact Nat.or_lt_two_pow (n := 10) ih (Nat.xor_lt_two_pow (n := 10) (kN_lt ht t) (kN_lt ht _))
/-- the coins by which a promise hangs -/
def akU (T : aH) (p : Nat) : Nat → Int32
  | 0 => 0
  | c + 1 => if (hgN T c 256).testBit p = true then akU T p c ||| bt1 c else akU T p c
def sp_asks (V : aV) (p : Int32) : Int32 × aV := if isP V.1 p then (akU V.1 (cl p) 8, V) else fnd V 0 (-1000001)
set_option maxRecDepth 100000 in
set_option maxHeartbeats 400000 in
theorem zC_asks {V : aV} (hV : VOk V) (p : Int32) : CX mX5_asks 11 [.int p] V (sp_asks V p) := by
  intro h g hv
  obtain ⟨v1, v2, v3, v4, v5, v6⟩ := id hv
  have ht := hV.1
  refine MX.of okX5_asks (by decide +kernel) (Nat.le_of_ble_eq_true rfl) (by decide) rfl (by decide) ?_
  refine SegP.run [] 400 ?_
  refine SegP.tr (Seg.cV (tX5_isPromise v1 p) mlX5_114 iyX5_isPromise seX5_isPromise oyX5_isPromise rfl (by decide) rfl (by decide) (by decide) rfl rfl rfl rfl (Nat.le_of_ble_eq_true rfl) (Nat.le_of_ble_eq_true rfl)) ?_
  refine SegP.run [] 400 ?_
  refine And.intro (fun z0 => ?_) (fun z0 => ?_)
  · have q0 := bn1 z0
    obtain ⟨p', hp, rfl⟩ := isP_N ht q0
    have h10 := ht.np.1
    refine SegP.cV (tX0_fillKeptSets h V.1 g v1 ht) mlX5_233 iyX0_fillKeptSets seX0_fillKeptSets oyX0_fillKeptSets rfl (by decide) rfl (by decide) (by decide) rfl rfl rfl rfl (Nat.le_of_ble_eq_true rfl) ?_
    rintro r h1 g1 ⟨rfl, rfl, f1, k1⟩
    have fr : frO h h1 := fun a ha => f1 a (by omega)
    refine SegP.run [26] 400 ?_
    refine SegP.tr (Seg.iter (fun i => (26, [some (.ref 0), some (.int (nI p')), some (.int (akU V.1 p' i)), some (.int (nI i))], [], nW, h1, g1, ρ)) 8 (fun i hi => ?_)) ?_
    · have hb : hsB (nI (hgN V.1 i 256)) (nI p') = (hgN V.1 i 256).testBit p' := hsB_nI (hg_lt ht _) (by omega)
      refine Seg.run [26] 400 ?_
      refine And.intro (fun c => ?_) (fun c => ?_)
      · exact (lim_ge (N := 8) hi (by decide) c).elim
      refine Seg.tr (Seg.cV (tX0_hangingBy h1 V.1 _ k1 i hi) mlX5_236 iyX0_hangingBy seX0_hangingBy oyX0_hangingBy rfl (by decide) rfl (by decide) (by decide) rfl rfl rfl rfl (Nat.le_of_ble_eq_true rfl) (Nat.le_of_ble_eq_true rfl)) ?_
      refine Seg.run [26] 400 ?_
      refine Seg.tr (Seg.cS ((tX5_has (nI (hgN V.1 i 256)) (nI p')).ms h1 _) mlX5_239 syX5_has oyX5_has rfl (by decide) rfl rfl rfl (Nat.le_of_ble_eq_true rfl) (Nat.le_of_ble_eq_true rfl)) ?_
      refine Seg.run [26] 400 ?_
      refine And.intro (fun d => ?_) (fun d => ?_)
      · exact Seg.of (by rw [akU, if_neg (by rw [← hb]; exact bq0 d), nI_succ] <;> rfl)
      · exact Seg.of (by rw [akU, if_pos (by rw [← hb]; exact bq1 d), nI_succ] <;> rfl)
    · refine SegP.run [] 400 ?_
      refine And.intro (fun c => ?_) (fun c => ?_)
      · exact cid' (frV hv fr) (fr63 fr) (by rw [sp_asks, if_pos q0, cl_nI (by omega)])
      · exact (lim_le (N := 8) (Nat.le_refl _) (by decide) c).elim
  · refine SegP.tr (Seg.cV (tX5_refuse h g 0 (by decide) (-1000001) (by decide)) mlX5_64 iyX5_refuse seX5_refuse oyX5_refuse rfl (by decide) rfl (by decide) (by decide) rfl rfl rfl rfl (Nat.le_of_ble_eq_true rfl) (Nat.le_of_ble_eq_true rfl)) ?_
    refine SegP.run [] 400 ?_
    exact cfn hv (k := 0) (by decide) (by rw [sp_asks, if_neg (fun y => bn0 z0 y)])
set_option maxRecDepth 100000 in
set_option maxHeartbeats 400000 in
theorem zM_asks {V : aV} (hV : VOk V) (p : Int32) : DX mX6_asks 11 [.int p] V (sp_asks V p) := by
  intro h g hv
  obtain ⟨v1, v2, v3, v4, v5, v6⟩ := id hv
  have ht := hV.1
  refine MX.of okX6_asks (by decide +kernel) (Nat.le_of_ble_eq_true rfl) (by decide) rfl (by decide) ?_
  refine SegP.run [] 400 ?_
  refine SegP.tr (Seg.cV (tX6_isPromise ht v1 p) mlX6_161 iyX6_isPromise seX6_isPromise oyX6_isPromise rfl (by decide) rfl (by decide) (by decide) rfl rfl rfl rfl (Nat.le_of_ble_eq_true rfl) (Nat.le_of_ble_eq_true rfl)) ?_
  refine SegP.run [] 400 ?_
  refine And.intro (fun z0 => ?_) (fun z0 => ?_)
  · have q0 := bn1 z0
    obtain ⟨p', hp, rfl⟩ := isP_N ht q0
    have h10 := ht.np.1
    refine SegP.tr (Seg.cV (tX6_findThrows h g (by rw [v1]; exact ht)) mlX6_218 iyX6_findThrows seX6_findThrows oyX6_findThrows rfl (by decide) rfl (by decide) (by decide) rfl rfl rfl rfl (Nat.le_of_ble_eq_true rfl) (Nat.le_of_ble_eq_true rfl)) ?_
    have hf := FT_ft (h := h) (by rw [v1]; exact ht)
    rw [v1] at hf
    refine SegP.run [22] 400 ?_
    refine SegP.tr (Seg.iter (fun i => (22, [some (.ref 63), some (.int (nI p')), some (.int (akU V.1 p' i)), some (.int (nI i))], [], nW, ftH h, g, ρ)) 8 (fun i hi => ?_)) ?_
    · have hb : ((nI (hgN V.1 i 256) >>> (nI p' &&& 31)) &&& 1) = bvI ((hgN V.1 i 256).testBit p') := bit_I p' (by omega) _ (hg_lt ht _)
      refine Seg.run [22] 400 ?_
      refine And.intro (fun c => ?_) (fun c => ?_)
      · exact (lim_ge (N := 8) hi (by decide) c).elim
      refine Seg.tr (Seg.cV (tX6_hangsBy (fun t h0 => (hf.1 t h0).trans (kept_nI ht t).1) i hi) mlX6_250 iyX6_hangsBy seX6_hangsBy oyX6_hangsBy rfl (by decide) rfl (by decide) (by decide) rfl rfl rfl rfl (Nat.le_of_ble_eq_true rfl) (Nat.le_of_ble_eq_true rfl)) ?_
      refine Seg.run [22] 400 ?_
      refine Seg.of ?_
      rw [hb, akU]
      cases (hgN V.1 i 256).testBit p'
      · rw [if_neg (by decide), show bvI false <<< (nI i &&& 31) = 0 from Int32.zero_shiftLeft, Int32.or_zero, nI_succ] <;> rfl
      · rw [if_pos rfl, nI_succ] <;> rfl
    · refine SegP.run [] 400 ?_
      refine And.intro (fun c => ?_) (fun c => ?_)
      · exact mid' (ftV hv) ftF (by rw [sp_asks, if_pos q0, cl_nI (by omega)])
      · exact (lim_le (N := 8) (Nat.le_refl _) (by decide) c).elim
  · refine SegP.tr (Seg.cV (tX6_fd h g 0 (by decide) 0 (by decide) (-1000001) (by decide)) mlX6_51 iyX6_finding seX6_finding oyX6_finding rfl (by decide) rfl (by decide) (by decide) rfl rfl rfl rfl (Nat.le_of_ble_eq_true rfl) (Nat.le_of_ble_eq_true rfl)) ?_
    refine SegP.run [] 400 ?_
    exact mfn hv (k := 0) (by decide) (by rw [sp_asks, if_neg (fun y => bn0 z0 y)])
def sp_apart (V : aV) (a b : Int32) : Int32 × aV := if isP V.1 a ∧ isP V.1 b ∧ ¬ a = b then (bI (lN (jtN V.1 a b 0 256) * lN (whN V.1) = lN (jtN V.1 a a 0 256) * lN (jtN V.1 b b 0 256)), V) else fnd V 0 (-1000001)
set_option maxRecDepth 100000 in
set_option maxHeartbeats 400000 in
theorem zC_apart {V : aV} (hV : VOk V) (a b : Int32) : CX mX5_apart 11 [.int a, .int b] V (sp_apart V a b) := by
  intro h g hv
  obtain ⟨v1, v2, v3, v4, v5, v6⟩ := id hv
  have ht := hV.1
  refine MX.of okX5_apart (by decide +kernel) (Nat.le_of_ble_eq_true rfl) (by decide) rfl (by decide) ?_
  refine SegP.run [] 400 ?_
  refine SegP.tr (Seg.cV (tX5_isPromise v1 a) mlX5_114 iyX5_isPromise seX5_isPromise oyX5_isPromise rfl (by decide) rfl (by decide) (by decide) rfl rfl rfl rfl (Nat.le_of_ble_eq_true rfl) (Nat.le_of_ble_eq_true rfl)) ?_
  refine SegP.run [] 400 ?_
  refine And.intro (fun z0 => ?_) (fun z0 => ?_)
  · refine SegP.tr (Seg.cV (tX5_refuse h g 0 (by decide) (-1000001) (by decide)) mlX5_64 iyX5_refuse seX5_refuse oyX5_refuse rfl (by decide) rfl (by decide) (by decide) rfl rfl rfl rfl (Nat.le_of_ble_eq_true rfl) (Nat.le_of_ble_eq_true rfl)) ?_
    refine SegP.run [] 400 ?_
    exact cfn hv (k := 0) (by decide) (by rw [sp_apart, if_neg (fun y => bq0 z0 y.1)])
  have q0 := bq1 z0
  refine SegP.tr (Seg.cV (tX5_isPromise v1 b) mlX5_114 iyX5_isPromise seX5_isPromise oyX5_isPromise rfl (by decide) rfl (by decide) (by decide) rfl rfl rfl rfl (Nat.le_of_ble_eq_true rfl) (Nat.le_of_ble_eq_true rfl)) ?_
  refine SegP.run [] 400 ?_
  refine And.intro (fun z1 => ?_) (fun z1 => ?_)
  · refine SegP.tr (Seg.cV (tX5_refuse h g 0 (by decide) (-1000001) (by decide)) mlX5_64 iyX5_refuse seX5_refuse oyX5_refuse rfl (by decide) rfl (by decide) (by decide) rfl rfl rfl rfl (Nat.le_of_ble_eq_true rfl) (Nat.le_of_ble_eq_true rfl)) ?_
    refine SegP.run [] 400 ?_
    exact cfn hv (k := 0) (by decide) (by rw [sp_apart, if_neg (fun y => bq0 z1 y.2.1)])
  have q1 := bq1 z1
  refine And.intro (fun q2 => ?_) (fun q2 => ?_)
  · obtain ⟨a', ha, rfl⟩ := isP_N ht q0
    obtain ⟨b', hb, rfl⟩ := isP_N ht q1
    have h10 := ht.np.1
    have w8 := wh8 ht
    refine SegP.cV (tX0_gather h V.1 g v1 ht) mlX5_181 iyX0_gather seX0_gather oyX0_gather rfl (by decide) rfl (by decide) (by decide) rfl rfl rfl rfl (Nat.le_of_ble_eq_true rfl) ?_
    rintro r h1 g1 ⟨rfl, fr, hc⟩
    have hv1 := frV hv fr
    refine SegP.run [] 400 ?_
    have m0 : MS mX0_weightOfAllKept 1 [.ref 43, .int ((1 : Int32) <<< (nI a' &&& 31) ||| (1 : Int32) <<< (nI b' &&& 31))] h1 g1 [.long (lN (jtN V.1 (nI a') (nI b') 0 256))] h1 g1 := by
      have e0 := fn_both ht (a := a') (b := b') (by omega) (by omega)
      rw [sh1 (by omega), sh1 (by omega), nI_or]
      rw [← e0]
      exact tX0_weightOfAllKept h1 V.1 g1 hc _
    have m1 : MS mX0_weightOfAllKept 1 [.ref 43, .int ((1 : Int32) <<< (nI a' &&& 31))] h1 g1 [.long (lN (jtN V.1 (nI a') (nI a') 0 256))] h1 g1 := by
      have e0 := fn_both ht (a := a') (b := a') (by omega) (by omega)
      rw [sh1 (by omega)]
      rw [Nat.or_self] at e0
      rw [← e0]
      exact tX0_weightOfAllKept h1 V.1 g1 hc _
    have m2 : MS mX0_weightOfAllKept 1 [.ref 43, .int ((1 : Int32) <<< (nI b' &&& 31))] h1 g1 [.long (lN (jtN V.1 (nI b') (nI b') 0 256))] h1 g1 := by
      have e0 := fn_both ht (a := b') (b := b') (by omega) (by omega)
      rw [sh1 (by omega)]
      rw [Nat.or_self] at e0
      rw [← e0]
      exact tX0_weightOfAllKept h1 V.1 g1 hc _
    have hw := tX4_wholeWeight h1 g1
    rw [hv1.1, w8.2.2] at hw
    refine SegP.tr (Seg.cV m0 mlX5_184 iyX0_weightOfAllKept seX0_weightOfAllKept oyX0_weightOfAllKept rfl (by decide) rfl (by decide) (by decide) rfl rfl rfl rfl (Nat.le_of_ble_eq_true rfl) (Nat.le_of_ble_eq_true rfl)) ?_
    refine SegP.run [] 400 ?_
    refine SegP.tr (Seg.cV m1 mlX5_184 iyX0_weightOfAllKept seX0_weightOfAllKept oyX0_weightOfAllKept rfl (by decide) rfl (by decide) (by decide) rfl rfl rfl rfl (Nat.le_of_ble_eq_true rfl) (Nat.le_of_ble_eq_true rfl)) ?_
    refine SegP.run [] 400 ?_
    refine SegP.tr (Seg.cV m2 mlX5_184 iyX0_weightOfAllKept seX0_weightOfAllKept oyX0_weightOfAllKept rfl (by decide) rfl (by decide) (by decide) rfl rfl rfl rfl (Nat.le_of_ble_eq_true rfl) (Nat.le_of_ble_eq_true rfl)) ?_
    refine SegP.run [] 400 ?_
    refine SegP.tr (Seg.cV hw mlX5_242 iyX4_wholeWeight seX4_wholeWeight oyX4_wholeWeight rfl (by decide) rfl (by decide) (by decide) rfl rfl rfl rfl (Nat.le_of_ble_eq_true rfl) (Nat.le_of_ble_eq_true rfl)) ?_
    refine SegP.run [] 400 ?_
    have ew : (nI (whN V.1)).toInt64 = lN (whN V.1) := nI_l (by omega)
    refine And.intro (fun zz => ?_) (fun zz => ?_)
    · have zz : ¬ lN (jtN V.1 (nI a') (nI b') 0 256) * (nI (whN V.1)).toInt64 = lN (jtN V.1 (nI a') (nI a') 0 256) * lN (jtN V.1 (nI b') (nI b') 0 256) := fun y => zz ((lg_cmp_eq _ _).mpr y)
      rw [ew] at zz
      exact cid' hv1 (fr63 fr) (by rw [sp_apart, if_pos ⟨q0, q1, q2⟩, ← bI_0 zz])
    · have zz : lN (jtN V.1 (nI a') (nI b') 0 256) * (nI (whN V.1)).toInt64 = lN (jtN V.1 (nI a') (nI a') 0 256) * lN (jtN V.1 (nI b') (nI b') 0 256) := (lg_cmp_eq _ _).mp (Decidable.not_not.mp zz)
      rw [ew] at zz
      exact cid' hv1 (fr63 fr) (by rw [sp_apart, if_pos ⟨q0, q1, q2⟩, ← bI_1 zz])
  · refine SegP.tr (Seg.cV (tX5_refuse h g 0 (by decide) (-1000001) (by decide)) mlX5_64 iyX5_refuse seX5_refuse oyX5_refuse rfl (by decide) rfl (by decide) (by decide) rfl rfl rfl rfl (Nat.le_of_ble_eq_true rfl) (Nat.le_of_ble_eq_true rfl)) ?_
    refine SegP.run [] 400 ?_
    exact cfn hv (k := 0) (by decide) (by rw [sp_apart, if_neg (fun y => q2 y.2.2)])
set_option maxRecDepth 100000 in
set_option maxHeartbeats 400000 in
theorem zM_apart {V : aV} (hV : VOk V) (a b : Int32) : DX mX6_apart 11 [.int a, .int b] V (sp_apart V a b) := by
  intro h g hv
  obtain ⟨v1, v2, v3, v4, v5, v6⟩ := id hv
  have ht := hV.1
  refine MX.of okX6_apart (by decide +kernel) (Nat.le_of_ble_eq_true rfl) (by decide) rfl (by decide) ?_
  refine SegP.run [] 400 ?_
  refine SegP.tr (Seg.cV (tX6_isPromise ht v1 a) mlX6_161 iyX6_isPromise seX6_isPromise oyX6_isPromise rfl (by decide) rfl (by decide) (by decide) rfl rfl rfl rfl (Nat.le_of_ble_eq_true rfl) (Nat.le_of_ble_eq_true rfl)) ?_
  refine SegP.run [] 400 ?_
  refine And.intro (fun z0 => ?_) (fun z0 => ?_)
  · refine SegP.tr (Seg.cV (tX6_fd h g 0 (by decide) 0 (by decide) (-1000001) (by decide)) mlX6_51 iyX6_finding seX6_finding oyX6_finding rfl (by decide) rfl (by decide) (by decide) rfl rfl rfl rfl (Nat.le_of_ble_eq_true rfl) (Nat.le_of_ble_eq_true rfl)) ?_
    refine SegP.run [] 400 ?_
    exact mfn hv (k := 0) (by decide) (by rw [sp_apart, if_neg (fun y => bq0 z0 y.1)])
  have q0 := bq1 z0
  refine SegP.tr (Seg.cV (tX6_isPromise ht v1 b) mlX6_161 iyX6_isPromise seX6_isPromise oyX6_isPromise rfl (by decide) rfl (by decide) (by decide) rfl rfl rfl rfl (Nat.le_of_ble_eq_true rfl) (Nat.le_of_ble_eq_true rfl)) ?_
  refine SegP.run [] 400 ?_
  refine And.intro (fun z1 => ?_) (fun z1 => ?_)
  · refine SegP.tr (Seg.cV (tX6_fd h g 0 (by decide) 0 (by decide) (-1000001) (by decide)) mlX6_51 iyX6_finding seX6_finding oyX6_finding rfl (by decide) rfl (by decide) (by decide) rfl rfl rfl rfl (Nat.le_of_ble_eq_true rfl) (Nat.le_of_ble_eq_true rfl)) ?_
    refine SegP.run [] 400 ?_
    exact mfn hv (k := 0) (by decide) (by rw [sp_apart, if_neg (fun y => bq0 z1 y.2.1)])
  have q1 := bq1 z1
  refine And.intro (fun q2 => ?_) (fun q2 => ?_)
  · have w8 := wh8 ht
    refine SegP.tr (Seg.cV (tX6_findThrows h g (by rw [v1]; exact ht)) mlX6_218 iyX6_findThrows seX6_findThrows oyX6_findThrows rfl (by decide) rfl (by decide) (by decide) rfl rfl rfl rfl (Nat.le_of_ble_eq_true rfl) (Nat.le_of_ble_eq_true rfl)) ?_
    have hf := FT_ft (h := h) (by rw [v1]; exact ht)
    rw [v1] at hf
    refine SegP.run [] 400 ?_
    refine SegP.tr (Seg.cV (tX6_jointOf (ftH h) V.1 g hf a b 0) mlX6_221 iyX6_jointOf seX6_jointOf oyX6_jointOf rfl (by decide) rfl (by decide) (by decide) rfl rfl rfl rfl (Nat.le_of_ble_eq_true rfl) (Nat.le_of_ble_eq_true rfl)) ?_
    refine SegP.run [] 400 ?_
    refine SegP.tr (Seg.cV (tX6_jointOf (ftH h) V.1 g hf a a 0) mlX6_221 iyX6_jointOf seX6_jointOf oyX6_jointOf rfl (by decide) rfl (by decide) (by decide) rfl rfl rfl rfl (Nat.le_of_ble_eq_true rfl) (Nat.le_of_ble_eq_true rfl)) ?_
    refine SegP.run [] 400 ?_
    refine SegP.tr (Seg.cV (tX6_jointOf (ftH h) V.1 g hf b b 0) mlX6_221 iyX6_jointOf seX6_jointOf oyX6_jointOf rfl (by decide) rfl (by decide) (by decide) rfl rfl rfl rfl (Nat.le_of_ble_eq_true rfl) (Nat.le_of_ble_eq_true rfl)) ?_
    refine SegP.run [] 400 ?_
    have ew : (ftH h 63 15).toInt64 = lN (whN V.1) := by rw [hf.2.2.1, w8.2.2]; exact nI_l (by omega)
    have j0 : ∀ a b, (nI (jtN V.1 a b 0 256)).toInt64 = lN (jtN V.1 a b 0 256) := fun a b => nI_l (jt_l ht)
    refine And.intro (fun zz => ?_) (fun zz => ?_)
    · have zz : ¬ (nI (jtN V.1 a b 0 256)).toInt64 * (ftH h 63 15).toInt64 = (nI (jtN V.1 a a 0 256)).toInt64 * (nI (jtN V.1 b b 0 256)).toInt64 := fun y => zz ((lg_cmp_eq _ _).mpr y)
      rw [ew, j0, j0, j0] at zz
      exact mid' (ftV hv) ftF (by rw [sp_apart, if_pos ⟨q0, q1, q2⟩, ← bI_0 zz])
    · have zz : (nI (jtN V.1 a b 0 256)).toInt64 * (ftH h 63 15).toInt64 = (nI (jtN V.1 a a 0 256)).toInt64 * (nI (jtN V.1 b b 0 256)).toInt64 := (lg_cmp_eq _ _).mp (Decidable.not_not.mp zz)
      rw [ew, j0, j0, j0] at zz
      exact mid' (ftV hv) ftF (by rw [sp_apart, if_pos ⟨q0, q1, q2⟩, ← bI_1 zz])
  · refine SegP.tr (Seg.cV (tX6_fd h g 0 (by decide) 0 (by decide) (-1000001) (by decide)) mlX6_51 iyX6_finding seX6_finding oyX6_finding rfl (by decide) rfl (by decide) (by decide) rfl rfl rfl rfl (Nat.le_of_ble_eq_true rfl) (Nat.le_of_ble_eq_true rfl)) ?_
    refine SegP.run [] 400 ?_
    exact mfn hv (k := 0) (by decide) (by rw [sp_apart, if_neg (fun y => q2 y.2.2)])
def tzU (z : Int32) : Nat → Int32
  | 0 => z
  | i + 1 => dzU (tzU z i) 8
def thU (T : aH) (k : Nat) (set z : Int32) : Nat → Int32
  | 0 => 0
  | i + 1 => if metB T k (set &&& kept T (tsU T (tzU z i) 8)) = true then thU T k set z i + 1 else thU T k set z i
theorem ts_z {T : aH} {x z : Int32} : ∀ c, tsU (up2 T 0 3 x) z c = tsU T z c := by
  intro c
  induction c with
  | zero => rfl
  | succ c ih => simp only [tsU, ih]; rfl
theorem kp_z {T : aH} {x hd : Int32} : ∀ p, kpU (up2 T 0 3 x) hd p = kpU T hd p := by
  intro p
  induction p with
  | zero => rfl
  | succ p ih => simp only [kpU, ih]; rfl
theorem kept_z {T : aH} {x hd : Int32} : kept (up2 T 0 3 x) hd = kept T hd := kp_z (nP T)
theorem brg_z {T : aH} {x s t : Int32} : ∀ p, brgU (up2 T 0 3 x) s t p = brgU T s t p := by
  intro p
  induction p with
  | zero => rfl
  | succ p ih => simp only [brgU, ih]; rfl
theorem met_z {T : aH} {x s : Int32} {k : Nat} : metB (up2 T 0 3 x) k s = metB T k s := by
  unfold metB brg
  rw [show nP (up2 T 0 3 x) = nP T from rfl, show up2 T 0 3 x 9 k = T 9 k from rfl, show up2 T 0 3 x 10 k = T 10 k from rfl, brg_z]
theorem ge_cl {n : Nat} (h : 1 ≤ n ∧ n ≤ 100) : True := trivial
def sp_tries (V : aV) (k p n : Int32) : Int32 × aV := if isN V.1 k ∧ isS V.1 p ∧ (1 ≤ n ∧ n ≤ 100) then (thU V.1 (cl k) p (V.1 0 3) (cl n), tnV V (up2 V.1 0 3 (tzU (V.1 0 3) (cl n)))) else fnd V 0 (-1000001)
set_option maxRecDepth 100000 in
set_option maxHeartbeats 400000 in
theorem zC_tries {V : aV} (hV : VOk V) (k p n : Int32) : CX mX5_tries 11 [.int k, .int p, .int n] V (sp_tries V k p n) := by
  intro h g hv
  obtain ⟨v1, v2, v3, v4, v5, v6⟩ := id hv
  have ht := hV.1
  refine MX.of okX5_tries (by decide +kernel) (Nat.le_of_ble_eq_true rfl) (by decide) rfl (by decide) ?_
  refine SegP.run [] 400 ?_
  refine SegP.tr (Seg.cV (tX5_isNeed v1 k) mlX5_138 iyX5_isNeed seX5_isNeed oyX5_isNeed rfl (by decide) rfl (by decide) (by decide) rfl rfl rfl rfl (Nat.le_of_ble_eq_true rfl) (Nat.le_of_ble_eq_true rfl)) ?_
  refine SegP.run [] 400 ?_
  refine And.intro (fun z0 => ?_) (fun z0 => ?_)
  · refine SegP.tr (Seg.cV (tX5_refuse h g 0 (by decide) (-1000001) (by decide)) mlX5_64 iyX5_refuse seX5_refuse oyX5_refuse rfl (by decide) rfl (by decide) (by decide) rfl rfl rfl rfl (Nat.le_of_ble_eq_true rfl) (Nat.le_of_ble_eq_true rfl)) ?_
    refine SegP.run [] 400 ?_
    exact cfn hv (k := 0) (by decide) (by rw [sp_tries, if_neg (fun y => bq0 z0 y.1)])
  have q0 := bq1 z0
  refine SegP.tr (Seg.cV (tX5_isSet ht v1 p) mlX5_163 iyX5_isSet seX5_isSet oyX5_isSet rfl (by decide) rfl (by decide) (by decide) rfl rfl rfl rfl (Nat.le_of_ble_eq_true rfl) (Nat.le_of_ble_eq_true rfl)) ?_
  refine SegP.run [] 400 ?_
  refine And.intro (fun z1 => ?_) (fun z1 => ?_)
  · refine SegP.tr (Seg.cV (tX5_refuse h g 0 (by decide) (-1000001) (by decide)) mlX5_64 iyX5_refuse seX5_refuse oyX5_refuse rfl (by decide) rfl (by decide) (by decide) rfl rfl rfl rfl (Nat.le_of_ble_eq_true rfl) (Nat.le_of_ble_eq_true rfl)) ?_
    refine SegP.run [] 400 ?_
    exact cfn hv (k := 0) (by decide) (by rw [sp_tries, if_neg (fun y => bq0 z1 y.2.1)])
  have q1 := bq1 z1
  refine SegP.tr (Seg.cS ((tX5_isBetween n 1 100).ms h g) mlX5_59 syX5_isBetween oyX5_isBetween rfl (by decide) rfl rfl rfl (Nat.le_of_ble_eq_true rfl) (Nat.le_of_ble_eq_true rfl)) ?_
  refine SegP.run [39] 400 ?_
  refine And.intro (fun z2 => ?_) (fun z2 => ?_)
  · have q2 := bn1 z2
    obtain ⟨k', hk, rfl⟩ := isN_N ht q0
    have h6 := ht.nn.1
    obtain ⟨n', hn, rfl⟩ := rng (a := 1) (b := 100) (by decide) (show nI 1 ≤ n ∧ n ≤ nI 100 from q2) (by decide)
    have e : sp_tries V (nI k') p (nI n') = (thU V.1 k' p (V.1 0 3) n', tnV V (up2 V.1 0 3 (tzU (V.1 0 3) n'))) := by rw [sp_tries, if_pos ⟨q0, q1, q2⟩, cl_nI (by omega), cl_nI (by omega)]
    refine SegP.tr (b := (39, [some (.ref 0), some (.int (nI k')), some (.int p), some (.int (nI n')), some (.int (thU V.1 k' p (V.1 0 3) 0)), some (.int (nI 0)), none], [], nW, up2 h 1 14 (tzU (V.1 0 3) 0), g, ρ)) (Seg.of (by rw [show tzU (V.1 0 3) 0 = h 1 14 from (cR0 hv).2.2.2.symm, up2_same] <;> rfl)) ?_
    refine SegP.tr (Seg.iter (fun i => (39, [some (.ref 0), some (.int (nI k')), some (.int p), some (.int (nI n')), some (.int (thU V.1 k' p (V.1 0 3) i)), some (.int (nI i)), none], [], nW, up2 h 1 14 (tzU (V.1 0 3) i), g, ρ)) n' (fun i hi => ?_)) ?_
    · have et : ∀ x, tw (up2 h 1 14 x) 1 = up2 V.1 0 3 x := fun x => by rw [tw_c (Or.inr (Or.inr (Or.inr ⟨rfl, rfl⟩))), v1]
      have h1 := tX4_tossCoins (up2 h 1 14 (tzU (V.1 0 3) i)) g (by rw [et]; exact ht.z)
      rw [et, up2_s, up2_up2, ts_z] at h1
      have h2 := tX4_keptIn (up2 h 1 14 (tzU (V.1 0 3) (i + 1))) g (by rw [et]; exact ht.z) (tsU V.1 (tzU (V.1 0 3) i) 8)
      rw [et, kept_z] at h2
      have h3 := tX4_isMet (up2 h 1 14 (tzU (V.1 0 3) (i + 1))) g (by rw [et]; exact ht.z) k' (by omega) (p &&& kept V.1 (tsU V.1 (tzU (V.1 0 3) i) 8))
      rw [et, met_z] at h3
      refine Seg.run [] 400 ?_
      refine And.intro (fun c => ?_) (fun c => ?_)
      · exact absurd c (nI_ge hi (by omega))
      refine Seg.tr (Seg.cV h1 mlX5_150 iyX4_tossCoins seX4_tossCoins oyX4_tossCoins rfl (by decide) rfl (by decide) (by decide) rfl rfl rfl rfl (Nat.le_of_ble_eq_true rfl) (Nat.le_of_ble_eq_true rfl)) ?_
      refine Seg.tr (Seg.cV h2 mlX5_160 iyX4_keptIn seX4_keptIn oyX4_keptIn rfl (by decide) rfl (by decide) (by decide) rfl rfl rfl rfl (Nat.le_of_ble_eq_true rfl) (Nat.le_of_ble_eq_true rfl)) ?_
      refine Seg.run [] 400 ?_
      refine Seg.tr (Seg.cV h3 mlX5_245 iyX4_isMet seX4_isMet oyX4_isMet rfl (by decide) rfl (by decide) (by decide) rfl rfl rfl rfl (Nat.le_of_ble_eq_true rfl) (Nat.le_of_ble_eq_true rfl)) ?_
      refine Seg.run [39] 400 ?_
      refine And.intro (fun d => ?_) (fun d => ?_)
      · refine Seg.tr (Seg.fg 6) ?_
        exact Seg.of (by rw [thU, if_neg (bq0 d), nI_succ] <;> rfl)
      · refine Seg.tr (Seg.fg 6) ?_
        exact Seg.of (by rw [thU, if_pos (bq1 d), nI_succ] <;> rfl)
    · refine SegP.run [] 400 ?_
      refine And.intro (fun c => ?_) (fun c => ?_)
      · rw [e]
        exact SegP.ret ⟨rfl, cT0 hv (Or.inr (Or.inr (Or.inr ⟨rfl, rfl⟩))), fun a ha => up2_row (by omega)⟩
      · exact absurd (nI_le (Nat.le_refl _) (by omega)) c
  · refine SegP.tr (Seg.cV (tX5_refuse h g 0 (by decide) (-1000001) (by decide)) mlX5_64 iyX5_refuse seX5_refuse oyX5_refuse rfl (by decide) rfl (by decide) (by decide) rfl rfl rfl rfl (Nat.le_of_ble_eq_true rfl) (Nat.le_of_ble_eq_true rfl)) ?_
    refine SegP.run [] 400 ?_
    exact cfn hv (k := 0) (by decide) (by rw [sp_tries, if_neg (fun y => bn0 z2 y.2.2)])
set_option maxRecDepth 100000 in
set_option maxHeartbeats 400000 in
theorem zM_tries {V : aV} (hV : VOk V) (k p n : Int32) : DX mX6_tries 11 [.int k, .int p, .int n] V (sp_tries V k p n) := by
  intro h g hv
  obtain ⟨v1, v2, v3, v4, v5, v6⟩ := id hv
  have ht := hV.1
  refine MX.of okX6_tries (by decide +kernel) (Nat.le_of_ble_eq_true rfl) (by decide) rfl (by decide) ?_
  refine SegP.run [] 400 ?_
  refine SegP.tr (Seg.cV (tX6_isNeed ht v1 k) mlX6_168 iyX6_isNeed seX6_isNeed oyX6_isNeed rfl (by decide) rfl (by decide) (by decide) rfl rfl rfl rfl (Nat.le_of_ble_eq_true rfl) (Nat.le_of_ble_eq_true rfl)) ?_
  refine SegP.run [] 400 ?_
  refine And.intro (fun z0 => ?_) (fun z0 => ?_)
  · refine SegP.tr (Seg.cV (tX6_fd h g 0 (by decide) 0 (by decide) (-1000001) (by decide)) mlX6_51 iyX6_finding seX6_finding oyX6_finding rfl (by decide) rfl (by decide) (by decide) rfl rfl rfl rfl (Nat.le_of_ble_eq_true rfl) (Nat.le_of_ble_eq_true rfl)) ?_
    refine SegP.run [] 400 ?_
    exact mfn hv (k := 0) (by decide) (by rw [sp_tries, if_neg (fun y => bq0 z0 y.1)])
  have q0 := bq1 z0
  refine SegP.tr (Seg.cV (tX6_isSet ht v1 p) mlX6_200 iyX6_isSet seX6_isSet oyX6_isSet rfl (by decide) rfl (by decide) (by decide) rfl rfl rfl rfl (Nat.le_of_ble_eq_true rfl) (Nat.le_of_ble_eq_true rfl)) ?_
  refine SegP.run [] 400 ?_
  refine And.intro (fun z1 => ?_) (fun z1 => ?_)
  · refine SegP.tr (Seg.cV (tX6_fd h g 0 (by decide) 0 (by decide) (-1000001) (by decide)) mlX6_51 iyX6_finding seX6_finding oyX6_finding rfl (by decide) rfl (by decide) (by decide) rfl rfl rfl rfl (Nat.le_of_ble_eq_true rfl) (Nat.le_of_ble_eq_true rfl)) ?_
    refine SegP.run [] 400 ?_
    exact mfn hv (k := 0) (by decide) (by rw [sp_tries, if_neg (fun y => bq0 z1 y.2.1)])
  have q1 := bq1 z1
  refine SegP.tr (Seg.cS ((tX6_in n 1 100).ms h g) mlX6_47 syX6_in oyX6_in rfl (by decide) rfl rfl rfl (Nat.le_of_ble_eq_true rfl) (Nat.le_of_ble_eq_true rfl)) ?_
  refine SegP.run [38] 400 ?_
  refine And.intro (fun z2 => ?_) (fun z2 => ?_)
  · have q2 := bn1 z2
    obtain ⟨k', hk, rfl⟩ := isN_N ht q0
    have h6 := ht.nn.1
    obtain ⟨n', hn, rfl⟩ := rng (a := 1) (b := 100) (by decide) (show nI 1 ≤ n ∧ n ≤ nI 100 from q2) (by decide)
    have e : sp_tries V (nI k') p (nI n') = (thU V.1 k' p (V.1 0 3) n', tnV V (up2 V.1 0 3 (tzU (V.1 0 3) n'))) := by rw [sp_tries, if_pos ⟨q0, q1, q2⟩, cl_nI (by omega), cl_nI (by omega)]
    refine SegP.tr (b := (38, [some (.ref 63), some (.int (nI k')), some (.int p), some (.int (nI n')), some (.int (thU V.1 k' p (V.1 0 3) 0)), some (.int (nI 0))], [], nW, up2 h 64 3 (tzU (V.1 0 3) 0), g, ρ)) (Seg.of (by rw [show tzU (V.1 0 3) 0 = h 64 3 from (mR0 hv).2.2.2.symm, up2_same] <;> rfl)) ?_
    refine SegP.tr (Seg.iter (fun i => (38, [some (.ref 63), some (.int (nI k')), some (.int p), some (.int (nI n')), some (.int (thU V.1 k' p (V.1 0 3) i)), some (.int (nI i))], [], nW, up2 h 64 3 (tzU (V.1 0 3) i), g, ρ)) n' (fun i hi => ?_)) ?_
    · have et : ∀ x, tm (up2 h 64 3 x) 64 = up2 V.1 0 3 x := fun x => by rw [tm_set (j := 0) (k := 3) (q := 3) (by decide) rfl, v1]
      have h1 := tX6_thrown (up2 h 64 3 (tzU (V.1 0 3) i)) g (by rw [et]; exact ht.z)
      rw [et, up2_s, up2_up2, ts_z] at h1
      have h2 := tX6_keptIn (up2 h 64 3 (tzU (V.1 0 3) (i + 1))) g (by rw [et]; exact ht.z) (tsU V.1 (tzU (V.1 0 3) i) 8)
      rw [et, kept_z] at h2
      have h3 := tX6_isMet (up2 h 64 3 (tzU (V.1 0 3) (i + 1))) g (by rw [et]; exact ht.z) k' (by omega) (p &&& kept V.1 (tsU V.1 (tzU (V.1 0 3) i) 8))
      rw [et, met_z] at h3
      refine Seg.run [] 400 ?_
      refine And.intro (fun c => ?_) (fun c => ?_)
      · exact absurd c (nI_ge hi (by omega))
      refine Seg.tr (Seg.cV h1 mlX6_191 iyX6_thrown seX6_thrown oyX6_thrown rfl (by decide) rfl (by decide) (by decide) rfl rfl rfl rfl (Nat.le_of_ble_eq_true rfl) (Nat.le_of_ble_eq_true rfl)) ?_
      refine Seg.tr (Seg.cV h2 mlX6_197 iyX6_keptIn seX6_keptIn oyX6_keptIn rfl (by decide) rfl (by decide) (by decide) rfl rfl rfl rfl (Nat.le_of_ble_eq_true rfl) (Nat.le_of_ble_eq_true rfl)) ?_
      refine Seg.run [] 400 ?_
      refine Seg.tr (Seg.cV h3 mlX6_184 iyX6_isMet seX6_isMet oyX6_isMet rfl (by decide) rfl (by decide) (by decide) rfl rfl rfl rfl (Nat.le_of_ble_eq_true rfl) (Nat.le_of_ble_eq_true rfl)) ?_
      refine Seg.run [38] 400 ?_
      refine And.intro (fun d => ?_) (fun d => ?_)
      · exact Seg.of (by rw [thU, if_neg (bq0 d), nI_succ, Int32.add_zero] <;> rfl)
      · exact Seg.of (by rw [thU, if_pos (bq1 d), nI_succ] <;> rfl)
    · refine SegP.run [] 400 ?_
      refine And.intro (fun c => ?_) (fun c => ?_)
      · rw [e]
        exact SegP.ret ⟨rfl, dT (j := 0) (k := 3) hv (by decide) rfl, fun a ha => up2_row (by omega)⟩
      · exact absurd (nI_le (Nat.le_refl _) (by omega)) c
  · refine SegP.tr (Seg.cV (tX6_fd h g 0 (by decide) 0 (by decide) (-1000001) (by decide)) mlX6_51 iyX6_finding seX6_finding oyX6_finding rfl (by decide) rfl (by decide) (by decide) rfl rfl rfl rfl (Nat.le_of_ble_eq_true rfl) (Nat.le_of_ble_eq_true rfl)) ?_
    refine SegP.run [] 400 ?_
    exact mfn hv (k := 0) (by decide) (by rw [sp_tries, if_neg (fun y => bn0 z2 y.2.2)])
