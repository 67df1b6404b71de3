/-! ===== public methods: the town; printed by wip/whole/gen62.py ===== -/
theorem tX6_fd (h : aH) (g : aG) (k : Nat) (hk : k < 7) (y : Int32) (hy : y = nI k) (x : Int32) (hx : -1000001 - nI k = x) : MS mX6_finding 1 [.ref 63, .int y] h g [.int x] (up2 h 67 k (h 67 k + 1)) g := by
  subst hy
  exact tX6_finding h g k hk x hx
def cl (x : Int32) : Nat := x.toNatClampNeg
theorem cl_nI {n : Nat} (h : n < 2 ^ 31) : cl (nI n) = n := nI_clamp h
/-- the class's town changed at a place of its table -/
theorem cT {h : aH} {V : aV} (hv : CV h V) {j k : Nat} {x : Int32} (hj : 1 ≤ j) (hk : k < lenT j) : CV (up2 h (1 + j) k x) (tnV V (up2 V.1 j k x)) := by
  have hj2 : j ≤ 12 := by
    rcases Nat.lt_or_ge j 13 with z | z
    · omega
    · rw [lenT_0 z] at hk; exact absurd hk (Nat.not_lt_zero _)
  exact hv.tn (by rw [tw_row hj hk, hv.1]) (fun a ha => up2_row (by omega))
theorem cT0 {h : aH} {V : aV} (hv : CV h V) {k c : Nat} {x : Int32} (hk : (k = 0 ∧ c = 8) ∨ (k = 1 ∧ c = 12) ∨ (k = 2 ∧ c = 13) ∨ (k = 3 ∧ c = 14)) : CV (up2 h 1 c x) (tnV V (up2 V.1 0 k x)) :=
  hv.tn (by rw [tw_c hk, hv.1]) (fun a ha => up2_row (by omega))
theorem dT {h : aH} {V : aV} (hv : MV h V) {j k q : Nat} {x : Int32} (hk : k < lenT j) (hq : q = plT j k) : MV (up2 h 64 q x) (tnV V (up2 V.1 j k x)) :=
  hv.tn (by rw [tm_set hk hq, hv.1]) (fun a ha => up2_row (by omega)) rfl rfl
theorem mT {h : aH} {V : aV} (hv : MV h V) {j k : Nat} (hk : k < lenT j) : h 64 (plT j k) = V.1 j k := by
  rw [← hv.1, tm_pl, if_pos hk]
theorem cR {h : aH} {V : aV} (hv : CV h V) {j k : Nat} (hj : 1 ≤ j) (hk : k < lenT j) : h (1 + j) k = V.1 j k := by
  rw [← hv.1]
  match j, hj with
  | j + 1, _ => simp only [tw, if_pos hk]
theorem cR0 {h : aH} {V : aV} (hv : CV h V) : h 1 8 = V.1 0 0 ∧ h 1 12 = V.1 0 1 ∧ h 1 13 = V.1 0 2 ∧ h 1 14 = V.1 0 3 := by
  rw [← hv.1]
  exact ⟨rfl, rfl, rfl, rfl⟩
theorem mR0 {h : aH} {V : aV} (hv : MV h V) : h 64 0 = V.1 0 0 ∧ h 64 1 = V.1 0 1 ∧ h 64 2 = V.1 0 2 ∧ h 64 3 = V.1 0 3 := ⟨mT (j := 0) (k := 0) hv (by decide), mT (j := 0) (k := 1) hv (by decide), mT (j := 0) (k := 2) hv (by decide), mT (j := 0) (k := 3) hv (by decide)⟩
theorem lat_lt {T : aH} (ht : TOk T) : (T 0 2 < 0 ↔ T 0 2 = -1) := by
  rcases ht.2.2.1 with z | ⟨t, h1, z⟩
  · rw [z]; exact ⟨fun _ => rfl, fun _ => by decide⟩
  · rw [z]
    constructor
    · intro y; exact absurd y (nI_pos (by omega))
    · intro y
      have := nI_pos' (n := t) (by omega)
      rw [y] at this
      exact absurd this (by decide)
def sp_coin (V : aV) (c a b : Int32) : Int32 × aV := if (0 ≤ c ∧ c ≤ 7) ∧ (1 ≤ b ∧ b ≤ 6) ∧ (0 ≤ a ∧ a ≤ b) then (10 * V.1 1 (cl c) + V.1 2 (cl c), tnV V (up2 (up2 V.1 1 (cl c) a) 2 (cl c) b)) else fnd V 0 (-1000001)
set_option maxRecDepth 100000 in
set_option maxHeartbeats 400000 in
theorem zC_coin {V : aV} (hV : VOk V) (c a b : Int32) : CX mX5_coin 11 [.int c, .int a, .int b] V (sp_coin V c a b) := by
  intro h g hv
  obtain ⟨v1, v2, v3, v4, v5, v6⟩ := id hv
  have ht := hV.1
  refine MX.of okX5_coin (by decide +kernel) (Nat.le_of_ble_eq_true rfl) (by decide) rfl (by decide) ?_
  refine SegP.run [] 400 ?_
  refine SegP.tr (Seg.cS ((tX5_isCoin c).ms h g) mlX5_90 syX5_isCoin oyX5_isCoin rfl (by decide) rfl rfl rfl (Nat.le_of_ble_eq_true rfl) (Nat.le_of_ble_eq_true rfl)) ?_
  refine SegP.run [] 400 ?_
  refine And.intro (fun z0 => ?_) (fun z0 => ?_)
  · refine SegP.tr (Seg.cV (tX5_refuse h g 0 (by decide) (-1000001) (by decide)) mlX5_64 iyX5_refuse seX5_refuse oyX5_refuse rfl (by decide) rfl (by decide) (by decide) rfl rfl rfl rfl (Nat.le_of_ble_eq_true rfl) (Nat.le_of_ble_eq_true rfl)) ?_
    refine SegP.run [] 400 ?_
    exact cfn hv (k := 0) (by decide) (by rw [sp_coin, if_neg (fun y => bq0 z0 y.1)])
  have q0 := bq1 z0
  refine SegP.tr (Seg.cS ((tX5_isBetween b 1 6).ms h g) mlX5_59 syX5_isBetween oyX5_isBetween rfl (by decide) rfl rfl rfl (Nat.le_of_ble_eq_true rfl) (Nat.le_of_ble_eq_true rfl)) ?_
  refine SegP.run [] 400 ?_
  refine And.intro (fun z1 => ?_) (fun z1 => ?_)
  · refine SegP.tr (Seg.cV (tX5_refuse h g 0 (by decide) (-1000001) (by decide)) mlX5_64 iyX5_refuse seX5_refuse oyX5_refuse rfl (by decide) rfl (by decide) (by decide) rfl rfl rfl rfl (Nat.le_of_ble_eq_true rfl) (Nat.le_of_ble_eq_true rfl)) ?_
    refine SegP.run [] 400 ?_
    exact cfn hv (k := 0) (by decide) (by rw [sp_coin, if_neg (fun y => bq0 z1 y.2.1)])
  have q1 := bq1 z1
  refine SegP.tr (Seg.cS ((tX5_isBetween a 0 b).ms h g) mlX5_59 syX5_isBetween oyX5_isBetween rfl (by decide) rfl rfl rfl (Nat.le_of_ble_eq_true rfl) (Nat.le_of_ble_eq_true rfl)) ?_
  refine SegP.run [] 400 ?_
  refine And.intro (fun z2 => ?_) (fun z2 => ?_)
  · have q2 := bn1 z2
    obtain ⟨c', hc, rfl⟩ := rng (a := 0) (b := 7) (by decide) (show nI 0 ≤ c ∧ c ≤ nI 7 from q0) (by decide)
    have hin := in10 (p := c') (n := 8) (by omega) (by decide)
    have cc := cl10 (p := c') (by omega)
    refine And.intro hin ?_
    refine And.intro hin ?_
    refine And.intro hin ?_
    refine And.intro hin ?_
    have e : sp_coin V (nI c') a b = (10 * V.1 1 c' + V.1 2 c', tnV V (up2 (up2 V.1 1 c' a) 2 c' b)) := by rw [sp_coin, if_pos ⟨q0, q1, q2⟩, cl_nI (by omega)]
    rw [cc, e, show h 2 c' = V.1 1 c' from cR (j := 1) hv (by decide) (show c' < 8 by omega), show h 3 c' = V.1 2 c' from cR (j := 2) hv (by decide) (show c' < 8 by omega)]
    exact SegP.ret ⟨rfl, cT (j := 2) (cT (j := 1) hv (by decide) (show c' < 8 by omega)) (by decide) (show c' < 8 by omega), fun a ha => by rw [up2_row (by omega), up2_row (by omega)]⟩
  · refine SegP.tr (Seg.cV (tX5_refuse h g 0 (by decide) (-1000001) (by decide)) mlX5_64 iyX5_refuse seX5_refuse oyX5_refuse rfl (by decide) rfl (by decide) (by decide) rfl rfl rfl rfl (Nat.le_of_ble_eq_true rfl) (Nat.le_of_ble_eq_true rfl)) ?_
    refine SegP.run [] 400 ?_
    exact cfn hv (k := 0) (by decide) (by rw [sp_coin, if_neg (fun y => bn0 z2 y.2.2)])
set_option maxRecDepth 100000 in
set_option maxHeartbeats 400000 in
theorem zM_coin {V : aV} (hV : VOk V) (c a b : Int32) : DX mX6_coin 11 [.int c, .int a, .int b] V (sp_coin V c a b) := by
  intro h g hv
  obtain ⟨v1, v2, v3, v4, v5, v6⟩ := id hv
  have ht := hV.1
  refine MX.of okX6_coin (by decide +kernel) (Nat.le_of_ble_eq_true rfl) (by decide) rfl (by decide) ?_
  refine SegP.run [] 400 ?_
  refine SegP.tr (Seg.cS ((tX6_isCoin c).ms h g) mlX6_155 syX6_isCoin oyX6_isCoin rfl (by decide) rfl rfl rfl (Nat.le_of_ble_eq_true rfl) (Nat.le_of_ble_eq_true rfl)) ?_
  refine SegP.run [] 400 ?_
  refine And.intro (fun z0 => ?_) (fun z0 => ?_)
  · refine SegP.tr (Seg.cV (tX6_fd h g 0 (by decide) 0 (by decide) (-1000001) (by decide)) mlX6_51 iyX6_finding seX6_finding oyX6_finding rfl (by decide) rfl (by decide) (by decide) rfl rfl rfl rfl (Nat.le_of_ble_eq_true rfl) (Nat.le_of_ble_eq_true rfl)) ?_
    refine SegP.run [] 400 ?_
    exact mfn hv (k := 0) (by decide) (by rw [sp_coin, if_neg (fun y => bq0 z0 y.1)])
  have q0 := bq1 z0
  refine SegP.tr (Seg.cS ((tX6_in b 1 6).ms h g) mlX6_47 syX6_in oyX6_in rfl (by decide) rfl rfl rfl (Nat.le_of_ble_eq_true rfl) (Nat.le_of_ble_eq_true rfl)) ?_
  refine SegP.run [] 400 ?_
  refine And.intro (fun z1 => ?_) (fun z1 => ?_)
  · refine SegP.tr (Seg.cV (tX6_fd h g 0 (by decide) 0 (by decide) (-1000001) (by decide)) mlX6_51 iyX6_finding seX6_finding oyX6_finding rfl (by decide) rfl (by decide) (by decide) rfl rfl rfl rfl (Nat.le_of_ble_eq_true rfl) (Nat.le_of_ble_eq_true rfl)) ?_
    refine SegP.run [] 400 ?_
    exact mfn hv (k := 0) (by decide) (by rw [sp_coin, if_neg (fun y => bq0 z1 y.2.1)])
  have q1 := bq1 z1
  refine SegP.tr (Seg.cS ((tX6_in a 0 b).ms h g) mlX6_47 syX6_in oyX6_in rfl (by decide) rfl rfl rfl (Nat.le_of_ble_eq_true rfl) (Nat.le_of_ble_eq_true rfl)) ?_
  refine SegP.run [] 400 ?_
  refine And.intro (fun z2 => ?_) (fun z2 => ?_)
  · have q2 := bn1 z2
    obtain ⟨c', hc, rfl⟩ := rng (a := 0) (b := 7) (by decide) (show nI 0 ≤ c ∧ c ≤ nI 7 from q0) (by decide)
    have hin4 := in10 (p := 4 + c') (n := 108) (by omega) (by decide)
    have hin12 := in10 (p := 12 + c') (n := 108) (by omega) (by decide)
    refine And.intro (by rw [idx4]; exact hin4) ?_
    refine And.intro (by rw [idx12]; exact hin12) ?_
    refine And.intro (by rw [idx4]; exact hin4) ?_
    refine And.intro (by rw [idx12]; exact hin12) ?_
    have e : sp_coin V (nI c') a b = (10 * V.1 1 c' + V.1 2 c', tnV V (up2 (up2 V.1 1 c' a) 2 c' b)) := by rw [sp_coin, if_pos ⟨q0, q1, q2⟩, cl_nI (by omega)]
    rw [idx4, idx12, cl10 (p := 4 + c') (by omega), cl10 (p := 12 + c') (by omega), e, show h 64 (4 + c') = V.1 1 c' from mT (j := 1) hv (show c' < 8 by omega), show h 64 (12 + c') = V.1 2 c' from mT (j := 2) hv (show c' < 8 by omega)]
    exact SegP.ret ⟨rfl, dT (j := 2) (dT (j := 1) hv (show c' < 8 by omega) rfl) (show c' < 8 by omega) rfl, fun a ha => by rw [up2_row (by omega), up2_row (by omega)]⟩
  · refine SegP.tr (Seg.cV (tX6_fd h g 0 (by decide) 0 (by decide) (-1000001) (by decide)) mlX6_51 iyX6_finding seX6_finding oyX6_finding rfl (by decide) rfl (by decide) (by decide) rfl rfl rfl rfl (Nat.le_of_ble_eq_true rfl) (Nat.le_of_ble_eq_true rfl)) ?_
    refine SegP.run [] 400 ?_
    exact mfn hv (k := 0) (by decide) (by rw [sp_coin, if_neg (fun y => bn0 z2 y.2.2)])
def sp_lay (V : aV) (c : Int32) : Int32 × aV := if (0 ≤ c ∧ c ≤ 255) then (1, tnV V (up2 V.1 0 2 c)) else fnd V 0 (-1000001)
set_option maxRecDepth 100000 in
set_option maxHeartbeats 400000 in
theorem zC_lay {V : aV} (hV : VOk V) (c : Int32) : CX mX5_lay 11 [.int c] V (sp_lay V c) := by
  intro h g hv
  obtain ⟨v1, v2, v3, v4, v5, v6⟩ := id hv
  have ht := hV.1
  refine MX.of okX5_lay (by decide +kernel) (Nat.le_of_ble_eq_true rfl) (by decide) rfl (by decide) ?_
  refine SegP.run [] 400 ?_
  refine SegP.tr (Seg.cS ((tX5_isThrow c).ms h g) mlX5_157 syX5_isThrow oyX5_isThrow rfl (by decide) rfl rfl rfl (Nat.le_of_ble_eq_true rfl) (Nat.le_of_ble_eq_true rfl)) ?_
  refine SegP.run [] 400 ?_
  refine And.intro (fun z0 => ?_) (fun z0 => ?_)
  · have q0 := bn1 z0
    refine And.intro (fun z => by cases z) ?_
    have e : sp_lay V c = (1, tnV V (up2 V.1 0 2 c)) := by rw [sp_lay, if_pos q0]
    rw [e]
    exact SegP.ret ⟨rfl, cT0 hv (Or.inr (Or.inr (Or.inl ⟨rfl, rfl⟩))), fun a ha => up2_row (by omega)⟩
  · refine SegP.tr (Seg.cV (tX5_refuse h g 0 (by decide) (-1000001) (by decide)) mlX5_64 iyX5_refuse seX5_refuse oyX5_refuse rfl (by decide) rfl (by decide) (by decide) rfl rfl rfl rfl (Nat.le_of_ble_eq_true rfl) (Nat.le_of_ble_eq_true rfl)) ?_
    refine SegP.run [] 400 ?_
    exact cfn hv (k := 0) (by decide) (by rw [sp_lay, if_neg (fun y => bn0 z0 y)])
set_option maxRecDepth 100000 in
set_option maxHeartbeats 400000 in
theorem zM_lay {V : aV} (hV : VOk V) (c : Int32) : DX mX6_lay 11 [.int c] V (sp_lay V c) := by
  intro h g hv
  obtain ⟨v1, v2, v3, v4, v5, v6⟩ := id hv
  have ht := hV.1
  refine MX.of okX6_lay (by decide +kernel) (Nat.le_of_ble_eq_true rfl) (by decide) rfl (by decide) ?_
  refine SegP.run [] 400 ?_
  refine SegP.tr (Seg.cS ((tX6_isThrow c).ms h g) mlX6_194 syX6_isThrow oyX6_isThrow rfl (by decide) rfl rfl rfl (Nat.le_of_ble_eq_true rfl) (Nat.le_of_ble_eq_true rfl)) ?_
  refine SegP.run [] 400 ?_
  refine And.intro (fun z0 => ?_) (fun z0 => ?_)
  · have q0 := bn1 z0
    refine And.intro (in10 (p := 2) (by decide) (by decide)) ?_
    have e : sp_lay V c = (1, tnV V (up2 V.1 0 2 c)) := by rw [sp_lay, if_pos q0]
    rw [e]
    exact SegP.ret ⟨rfl, dT (j := 0) (k := 2) hv (by decide) rfl, fun a ha => up2_row (by omega)⟩
  · refine SegP.tr (Seg.cV (tX6_fd h g 0 (by decide) 0 (by decide) (-1000001) (by decide)) mlX6_51 iyX6_finding seX6_finding oyX6_finding rfl (by decide) rfl (by decide) (by decide) rfl rfl rfl rfl (Nat.le_of_ble_eq_true rfl) (Nat.le_of_ble_eq_true rfl)) ?_
    refine SegP.run [] 400 ?_
    exact mfn hv (k := 0) (by decide) (by rw [sp_lay, if_neg (fun y => bn0 z0 y)])
def sp_seed (V : aV) (c : Int32) : Int32 × aV := (V.1 0 3, tnV V (up2 V.1 0 3 c))
set_option maxRecDepth 100000 in
set_option maxHeartbeats 400000 in
theorem zC_seed {V : aV} (hV : VOk V) (c : Int32) : CX mX5_seed 11 [.int c] V (sp_seed V c) := by
  intro h g hv
  obtain ⟨v1, v2, v3, v4, v5, v6⟩ := id hv
  have ht := hV.1
  refine MX.of okX5_seed (by decide +kernel) (Nat.le_of_ble_eq_true rfl) (by decide) rfl (by decide) ?_
  refine SegP.run [] 400 ?_
  refine And.intro (fun z => by cases z) ?_
  rw [(cR0 hv).2.2.2]
  exact SegP.ret ⟨rfl, cT0 hv (Or.inr (Or.inr (Or.inr ⟨rfl, rfl⟩))), fun a ha => up2_row (by omega)⟩
set_option maxRecDepth 100000 in
set_option maxHeartbeats 400000 in
theorem zM_seed {V : aV} (hV : VOk V) (c : Int32) : DX mX6_seed 11 [.int c] V (sp_seed V c) := by
  intro h g hv
  obtain ⟨v1, v2, v3, v4, v5, v6⟩ := id hv
  have ht := hV.1
  refine MX.of okX6_seed (by decide +kernel) (Nat.le_of_ble_eq_true rfl) (by decide) rfl (by decide) ?_
  refine SegP.run [] 400 ?_
  refine And.intro (in10 (p := 3) (by decide) (by decide)) ?_
  refine And.intro (in10 (p := 3) (by decide) (by decide)) ?_
  rw [show (3 : Int32).toNatClampNeg = 3 from rfl, (mR0 hv).2.2.2]
  exact SegP.ret ⟨rfl, dT (j := 0) (k := 3) hv (by decide) rfl, fun a ha => up2_row (by omega)⟩
def sp_promiseOf (V : aV) (p w : Int32) : Int32 × aV := if isP V.1 p ∧ (0 ≤ w ∧ w ≤ 5) then (V.1 (3 + cl w) (cl p), V) else fnd V 0 (-1000001)
set_option maxRecDepth 100000 in
set_option maxHeartbeats 400000 in
theorem zC_promiseOf {V : aV} (hV : VOk V) (p w : Int32) : CX mX5_promiseOf 11 [.int p, .int w] V (sp_promiseOf V p w) := by
  intro h g hv
  obtain ⟨v1, v2, v3, v4, v5, v6⟩ := id hv
  have ht := hV.1
  refine MX.of okX5_promiseOf (by decide +kernel) (Nat.le_of_ble_eq_true rfl) (by decide) rfl (by decide) ?_
  refine SegP.run [] 400 ?_
  refine SegP.tr (Seg.cV (tX5_isPromise v1 p) mlX5_114 iyX5_isPromise seX5_isPromise oyX5_isPromise rfl (by decide) rfl (by decide) (by decide) rfl rfl rfl rfl (Nat.le_of_ble_eq_true rfl) (Nat.le_of_ble_eq_true rfl)) ?_
  refine SegP.run [] 400 ?_
  refine And.intro (fun z0 => ?_) (fun z0 => ?_)
  · refine SegP.tr (Seg.cV (tX5_refuse h g 0 (by decide) (-1000001) (by decide)) mlX5_64 iyX5_refuse seX5_refuse oyX5_refuse rfl (by decide) rfl (by decide) (by decide) rfl rfl rfl rfl (Nat.le_of_ble_eq_true rfl) (Nat.le_of_ble_eq_true rfl)) ?_
    refine SegP.run [] 400 ?_
    exact cfn hv (k := 0) (by decide) (by rw [sp_promiseOf, if_neg (fun y => bq0 z0 y.1)])
  have q0 := bq1 z0
  refine SegP.tr (Seg.cS ((tX5_isBetween w 0 5).ms h g) mlX5_59 syX5_isBetween oyX5_isBetween rfl (by decide) rfl rfl rfl (Nat.le_of_ble_eq_true rfl) (Nat.le_of_ble_eq_true rfl)) ?_
  refine SegP.run [] 400 ?_
  refine And.intro (fun z1 => ?_) (fun z1 => ?_)
  · have q1 := bn1 z1
    obtain ⟨p', hp, rfl⟩ := isP_N ht q0
    obtain ⟨w', hw, rfl⟩ := rng (a := 0) (b := 5) (by decide) (show nI 0 ≤ w ∧ w ≤ nI 5 from q1) (by decide)
    have h10 := ht.np.1
    have hm := tX4_partOf h g p' w' (by omega) (by omega)
    rw [v1] at hm
    refine SegP.tr (Seg.cV hm mlX5_117 iyX4_partOf seX4_partOf oyX4_partOf rfl (by decide) rfl (by decide) (by decide) rfl rfl rfl rfl (Nat.le_of_ble_eq_true rfl) (Nat.le_of_ble_eq_true rfl)) ?_
    refine SegP.run [] 400 ?_
    exact cid hv (by rw [sp_promiseOf, if_pos ⟨q0, q1⟩, cl_nI (by omega), cl_nI (by omega)])
  · refine SegP.tr (Seg.cV (tX5_refuse h g 0 (by decide) (-1000001) (by decide)) mlX5_64 iyX5_refuse seX5_refuse oyX5_refuse rfl (by decide) rfl (by decide) (by decide) rfl rfl rfl rfl (Nat.le_of_ble_eq_true rfl) (Nat.le_of_ble_eq_true rfl)) ?_
    refine SegP.run [] 400 ?_
    exact cfn hv (k := 0) (by decide) (by rw [sp_promiseOf, if_neg (fun y => bn0 z1 y.2)])
set_option maxRecDepth 100000 in
set_option maxHeartbeats 400000 in
theorem zM_promiseOf {V : aV} (hV : VOk V) (p w : Int32) : DX mX6_promiseOf 11 [.int p, .int w] V (sp_promiseOf V p w) := by
  intro h g hv
  obtain ⟨v1, v2, v3, v4, v5, v6⟩ := id hv
  have ht := hV.1
  refine MX.of okX6_promiseOf (by decide +kernel) (Nat.le_of_ble_eq_true rfl) (by decide) rfl (by decide) ?_
  refine SegP.run [] 400 ?_
  refine SegP.tr (Seg.cV (tX6_isPromise ht v1 p) mlX6_161 iyX6_isPromise seX6_isPromise oyX6_isPromise rfl (by decide) rfl (by decide) (by decide) rfl rfl rfl rfl (Nat.le_of_ble_eq_true rfl) (Nat.le_of_ble_eq_true rfl)) ?_
  refine SegP.run [] 400 ?_
  refine And.intro (fun z0 => ?_) (fun z0 => ?_)
  · refine SegP.tr (Seg.cV (tX6_fd h g 0 (by decide) 0 (by decide) (-1000001) (by decide)) mlX6_51 iyX6_finding seX6_finding oyX6_finding rfl (by decide) rfl (by decide) (by decide) rfl rfl rfl rfl (Nat.le_of_ble_eq_true rfl) (Nat.le_of_ble_eq_true rfl)) ?_
    refine SegP.run [] 400 ?_
    exact mfn hv (k := 0) (by decide) (by rw [sp_promiseOf, if_neg (fun y => bq0 z0 y.1)])
  have q0 := bq1 z0
  refine SegP.tr (Seg.cS ((tX6_in w 0 5).ms h g) mlX6_47 syX6_in oyX6_in rfl (by decide) rfl rfl rfl (Nat.le_of_ble_eq_true rfl) (Nat.le_of_ble_eq_true rfl)) ?_
  refine SegP.run [] 400 ?_
  refine And.intro (fun z1 => ?_) (fun z1 => ?_)
  · refine SegP.tr (Seg.cV (tX6_fd h g 0 (by decide) 0 (by decide) (-1000001) (by decide)) mlX6_51 iyX6_finding seX6_finding oyX6_finding rfl (by decide) rfl (by decide) (by decide) rfl rfl rfl rfl (Nat.le_of_ble_eq_true rfl) (Nat.le_of_ble_eq_true rfl)) ?_
    refine SegP.run [] 400 ?_
    exact mfn hv (k := 0) (by decide) (by rw [sp_promiseOf, if_neg (fun y => bq0 z1 y.2)])
  have q1 := bq1 z1
  obtain ⟨p', hp, rfl⟩ := isP_N ht q0
  obtain ⟨w', hw, rfl⟩ := rng (a := 0) (b := 5) (by decide) (show nI 0 ≤ w ∧ w ≤ nI 5 from q1) (by decide)
  have h10 := ht.np.1
  have hm := tX6_its h g p' w' (by omega) (by omega)
  rw [v1] at hm
  refine SegP.tr (Seg.cV hm mlX6_164 iyX6_its seX6_its oyX6_its rfl (by decide) rfl (by decide) (by decide) rfl rfl rfl rfl (Nat.le_of_ble_eq_true rfl) (Nat.le_of_ble_eq_true rfl)) ?_
  refine SegP.run [] 400 ?_
  exact mid hv (by rw [sp_promiseOf, if_pos ⟨q0, q1⟩, cl_nI (by omega), cl_nI (by omega)])
def sp_change (V : aV) (p w v : Int32) : Int32 × aV := if isP V.1 p ∧ (0 ≤ w ∧ w ≤ 5) ∧ gdP w v then (V.1 (3 + cl w) (cl p), tnV V (up2 V.1 (3 + cl w) (cl p) v)) else fnd V 0 (-1000001)
set_option maxRecDepth 100000 in
set_option maxHeartbeats 400000 in
theorem zC_change {V : aV} (hV : VOk V) (p w v : Int32) : CX mX5_change 11 [.int p, .int w, .int v] V (sp_change V p w v) := by
  intro h g hv
  obtain ⟨v1, v2, v3, v4, v5, v6⟩ := id hv
  have ht := hV.1
  refine MX.of okX5_change (by decide +kernel) (Nat.le_of_ble_eq_true rfl) (by decide) rfl (by decide) ?_
  refine SegP.run [] 400 ?_
  refine SegP.tr (Seg.cV (tX5_isPromise v1 p) mlX5_114 iyX5_isPromise seX5_isPromise oyX5_isPromise rfl (by decide) rfl (by decide) (by decide) rfl rfl rfl rfl (Nat.le_of_ble_eq_true rfl) (Nat.le_of_ble_eq_true rfl)) ?_
  refine SegP.run [] 400 ?_
  refine And.intro (fun z0 => ?_) (fun z0 => ?_)
  · refine SegP.tr (Seg.cV (tX5_refuse h g 0 (by decide) (-1000001) (by decide)) mlX5_64 iyX5_refuse seX5_refuse oyX5_refuse rfl (by decide) rfl (by decide) (by decide) rfl rfl rfl rfl (Nat.le_of_ble_eq_true rfl) (Nat.le_of_ble_eq_true rfl)) ?_
    refine SegP.run [] 400 ?_
    exact cfn hv (k := 0) (by decide) (by rw [sp_change, if_neg (fun y => bq0 z0 y.1)])
  have q0 := bq1 z0
  refine SegP.tr (Seg.cS ((tX5_fitsPart w v).ms h g) mlX5_103 syX5_fitsPart oyX5_fitsPart rfl (by decide) rfl rfl rfl (Nat.le_of_ble_eq_true rfl) (Nat.le_of_ble_eq_true rfl)) ?_
  refine SegP.run [] 400 ?_
  refine And.intro (fun z1 => ?_) (fun z1 => ?_)
  · have q1 := bn1 z1
    obtain ⟨p', hp, rfl⟩ := isP_N ht q0
    obtain ⟨w', hw, rfl⟩ := rng (a := 0) (b := 5) (by decide) (show nI 0 ≤ w ∧ w ≤ nI 5 from q1.1) (by decide)
    have h10 := ht.np.1
    have hm := tX4_partOf h g p' w' (by omega) (by omega)
    rw [v1] at hm
    have hl : p' < lenT (3 + w') := by
      rcases (show w' = 0 ∨ w' = 1 ∨ w' = 2 ∨ w' = 3 ∨ w' = 4 ∨ w' = 5 by omega) with rfl | rfl | rfl | rfl | rfl | rfl <;> exact (show p' < 10 by omega)
    refine SegP.tr (Seg.cV hm mlX5_117 iyX4_partOf seX4_partOf oyX4_partOf rfl (by decide) rfl (by decide) (by decide) rfl rfl rfl rfl (Nat.le_of_ble_eq_true rfl) (Nat.le_of_ble_eq_true rfl)) ?_
    refine SegP.run [] 400 ?_
    refine SegP.tr (Seg.cV (tX4_setPart h g p' w' (by omega) (by omega) v) mlX5_121 iyX4_setPart seX4_setPart oyX4_setPart rfl (by decide) rfl (by decide) (by decide) rfl rfl rfl rfl (Nat.le_of_ble_eq_true rfl) (Nat.le_of_ble_eq_true rfl)) ?_
    refine SegP.run [] 400 ?_
    have e : sp_change V (nI p') (nI w') v = (V.1 (3 + w') p', tnV V (up2 V.1 (3 + w') p' v)) := by rw [sp_change, if_pos ⟨q0, q1.1, q1.2⟩, cl_nI (by omega), cl_nI (by omega)]
    rw [e]
    exact SegP.ret ⟨rfl, cT (j := 3 + w') hv (by omega) hl, fun a ha => up2_row (by omega)⟩
  · refine SegP.tr (Seg.cV (tX5_refuse h g 0 (by decide) (-1000001) (by decide)) mlX5_64 iyX5_refuse seX5_refuse oyX5_refuse rfl (by decide) rfl (by decide) (by decide) rfl rfl rfl rfl (Nat.le_of_ble_eq_true rfl) (Nat.le_of_ble_eq_true rfl)) ?_
    refine SegP.run [] 400 ?_
    exact cfn hv (k := 0) (by decide) (by rw [sp_change, if_neg (fun y => bn0 z1 y.2)])
set_option maxRecDepth 100000 in
set_option maxHeartbeats 400000 in
theorem zM_change {V : aV} (hV : VOk V) (p w v : Int32) : DX mX6_change 11 [.int p, .int w, .int v] V (sp_change V p w v) := by
  intro h g hv
  obtain ⟨v1, v2, v3, v4, v5, v6⟩ := id hv
  have ht := hV.1
  refine MX.of okX6_change (by decide +kernel) (Nat.le_of_ble_eq_true rfl) (by decide) rfl (by decide) ?_
  refine SegP.run [] 400 ?_
  refine SegP.tr (Seg.cV (tX6_isPromise ht v1 p) mlX6_161 iyX6_isPromise seX6_isPromise oyX6_isPromise rfl (by decide) rfl (by decide) (by decide) rfl rfl rfl rfl (Nat.le_of_ble_eq_true rfl) (Nat.le_of_ble_eq_true rfl)) ?_
  refine SegP.run [] 400 ?_
  refine And.intro (fun z0 => ?_) (fun z0 => ?_)
  · refine SegP.tr (Seg.cV (tX6_fd h g 0 (by decide) 0 (by decide) (-1000001) (by decide)) mlX6_51 iyX6_finding seX6_finding oyX6_finding rfl (by decide) rfl (by decide) (by decide) rfl rfl rfl rfl (Nat.le_of_ble_eq_true rfl) (Nat.le_of_ble_eq_true rfl)) ?_
    refine SegP.run [] 400 ?_
    exact mfn hv (k := 0) (by decide) (by rw [sp_change, if_neg (fun y => bq0 z0 y.1)])
  have q0 := bq1 z0
  refine SegP.tr (Seg.cS ((tX6_in w 0 5).ms h g) mlX6_47 syX6_in oyX6_in rfl (by decide) rfl rfl rfl (Nat.le_of_ble_eq_true rfl) (Nat.le_of_ble_eq_true rfl)) ?_
  refine SegP.run [] 400 ?_
  refine And.intro (fun z1 => ?_) (fun z1 => ?_)
  · refine SegP.tr (Seg.cV (tX6_fd h g 0 (by decide) 0 (by decide) (-1000001) (by decide)) mlX6_51 iyX6_finding seX6_finding oyX6_finding rfl (by decide) rfl (by decide) (by decide) rfl rfl rfl rfl (Nat.le_of_ble_eq_true rfl) (Nat.le_of_ble_eq_true rfl)) ?_
    refine SegP.run [] 400 ?_
    exact mfn hv (k := 0) (by decide) (by rw [sp_change, if_neg (fun y => bq0 z1 y.2.1)])
  have q1 := bq1 z1
  refine SegP.tr (Seg.cS ((tX6_isGood w v).ms h g) mlX6_158 syX6_isGood oyX6_isGood rfl (by decide) rfl rfl rfl (Nat.le_of_ble_eq_true rfl) (Nat.le_of_ble_eq_true rfl)) ?_
  refine SegP.run [] 400 ?_
  refine And.intro (fun z2 => ?_) (fun z2 => ?_)
  · have q2 := bn1 z2
    obtain ⟨p', hp, rfl⟩ := isP_N ht q0
    obtain ⟨w', hw, rfl⟩ := rng (a := 0) (b := 5) (by decide) (show nI 0 ≤ w ∧ w ≤ nI 5 from q1) (by decide)
    have h10 := ht.np.1
    have hm := tX6_its h g p' w' (by omega) (by omega)
    rw [v1] at hm
    have hl : p' < lenT (3 + w') := by
      rcases (show w' = 0 ∨ w' = 1 ∨ w' = 2 ∨ w' = 3 ∨ w' = 4 ∨ w' = 5 by omega) with rfl | rfl | rfl | rfl | rfl | rfl <;> exact (show p' < 10 by omega)
    refine SegP.tr (Seg.cV hm mlX6_164 iyX6_its seX6_its oyX6_its rfl (by decide) rfl (by decide) (by decide) rfl rfl rfl rfl (Nat.le_of_ble_eq_true rfl) (Nat.le_of_ble_eq_true rfl)) ?_
    refine SegP.run [] 400 ?_
    refine And.intro (by rw [idx6]; exact in10 (by omega) (by decide)) ?_
    have e : sp_change V (nI p') (nI w') v = (V.1 (3 + w') p', tnV V (up2 V.1 (3 + w') p' v)) := by rw [sp_change, if_pos ⟨q0, q1, q2⟩, cl_nI (by omega), cl_nI (by omega)]
    rw [e, idx6, cl10 (by omega)]
    exact SegP.ret ⟨rfl, dT (j := 3 + w') hv hl (by rw [plT_ge (by omega) (by omega)]; omega), fun a ha => up2_row (by omega)⟩
  · refine SegP.tr (Seg.cV (tX6_fd h g 0 (by decide) 0 (by decide) (-1000001) (by decide)) mlX6_51 iyX6_finding seX6_finding oyX6_finding rfl (by decide) rfl (by decide) (by decide) rfl rfl rfl rfl (Nat.le_of_ble_eq_true rfl) (Nat.le_of_ble_eq_true rfl)) ?_
    refine SegP.run [] 400 ?_
    exact mfn hv (k := 0) (by decide) (by rw [sp_change, if_neg (fun y => bn0 z2 y.2.2)])
def sp_cast (V : aV)  : Int32 × aV := (tsU V.1 (V.1 0 3) 8, tnV V (up2 (up2 V.1 0 3 (dzU (V.1 0 3) 8)) 0 2 (tsU V.1 (V.1 0 3) 8)))
set_option maxRecDepth 100000 in
set_option maxHeartbeats 400000 in
theorem zC_cast {V : aV} (hV : VOk V)  : CX mX5_cast 11 [] V (sp_cast V ) := by
  intro h g hv
  obtain ⟨v1, v2, v3, v4, v5, v6⟩ := id hv
  have ht := hV.1
  refine MX.of okX5_cast (by decide +kernel) (Nat.le_of_ble_eq_true rfl) (by decide) rfl (by decide) ?_
  refine SegP.run [] 400 ?_
  have hm := tX4_tossCoins h g (by rw [v1]; exact ht)
  rw [v1, (cR0 hv).2.2.2] at hm
  refine SegP.tr (Seg.cV hm mlX5_150 iyX4_tossCoins seX4_tossCoins oyX4_tossCoins rfl (by decide) rfl (by decide) (by decide) rfl rfl rfl rfl (Nat.le_of_ble_eq_true rfl) (Nat.le_of_ble_eq_true rfl)) ?_
  refine SegP.run [] 400 ?_
  refine And.intro (fun z => by cases z) ?_
  refine SegP.tr (Seg.of (b := (aRET, [], [.int (tsU V.1 (V.1 0 3) 8)], nW, up2 (up2 h 1 14 (dzU (V.1 0 3) 8)) 1 13 (tsU V.1 (V.1 0 3) 8), g, ρ)) (by rw [up2_s] <;> rfl)) ?_
  exact SegP.ret ⟨rfl, cT0 (cT0 hv (Or.inr (Or.inr (Or.inr ⟨rfl, rfl⟩)))) (Or.inr (Or.inr (Or.inl ⟨rfl, rfl⟩))), fun a ha => by rw [up2_row (by omega), up2_row (by omega)]⟩
set_option maxRecDepth 100000 in
set_option maxHeartbeats 400000 in
theorem zM_cast {V : aV} (hV : VOk V)  : DX mX6_cast 11 [] V (sp_cast V ) := by
  intro h g hv
  obtain ⟨v1, v2, v3, v4, v5, v6⟩ := id hv
  have ht := hV.1
  refine MX.of okX6_cast (by decide +kernel) (Nat.le_of_ble_eq_true rfl) (by decide) rfl (by decide) ?_
  refine SegP.run [] 400 ?_
  have hm := tX6_thrown h g (by rw [v1]; exact ht)
  rw [v1, (mR0 hv).2.2.2] at hm
  refine SegP.tr (Seg.cV hm mlX6_191 iyX6_thrown seX6_thrown oyX6_thrown rfl (by decide) rfl (by decide) (by decide) rfl rfl rfl rfl (Nat.le_of_ble_eq_true rfl) (Nat.le_of_ble_eq_true rfl)) ?_
  refine SegP.run [] 400 ?_
  refine And.intro (in10 (p := 2) (by decide) (by decide)) ?_
  refine And.intro (in10 (p := 2) (by decide) (by decide)) ?_
  refine SegP.tr (Seg.of (b := (aRET, [], [.int (tsU V.1 (V.1 0 3) 8)], nW, up2 (up2 h 64 3 (dzU (V.1 0 3) 8)) 64 2 (tsU V.1 (V.1 0 3) 8), g, ρ)) (by rw [show (2 : Int32).toNatClampNeg = 2 from rfl, up2_s] <;> rfl)) ?_
  exact SegP.ret ⟨rfl, dT (j := 0) (k := 2) (dT (j := 0) (k := 3) hv (by decide) rfl) (by decide) rfl, fun a ha => by rw [up2_row (by omega), up2_row (by omega)]⟩
def sp_kept (V : aV)  : Int32 × aV := if ¬ V.1 0 2 = -1 then (kept V.1 (V.1 0 2), V) else fnd V 3 (-1000004)
set_option maxRecDepth 100000 in
set_option maxHeartbeats 400000 in
theorem zC_kept {V : aV} (hV : VOk V)  : CX mX5_kept 11 [] V (sp_kept V ) := by
  intro h g hv
  obtain ⟨v1, v2, v3, v4, v5, v6⟩ := id hv
  have ht := hV.1
  refine MX.of okX5_kept (by decide +kernel) (Nat.le_of_ble_eq_true rfl) (by decide) rfl (by decide) ?_
  refine SegP.run [] 400 ?_
  have l13 := (cR0 hv).2.2.1
  refine And.intro (fun zl => ?_) (fun zl => ?_)
  · have l1 : ¬ V.1 0 2 = -1 := fun y => absurd (show V.1 0 2 < 0 from (lat_lt ht).mpr y) (by rw [← l13]; exact fun w => absurd zl (Int32.not_le.mpr w))
    have hk := tX4_keptIn h g (by rw [v1]; exact ht) (V.1 0 2)
    rw [v1] at hk
    rw [← l13] at hk
    refine SegP.tr (Seg.cV hk mlX5_160 iyX4_keptIn seX4_keptIn oyX4_keptIn rfl (by decide) rfl (by decide) (by decide) rfl rfl rfl rfl (Nat.le_of_ble_eq_true rfl) (Nat.le_of_ble_eq_true rfl)) ?_
    refine SegP.run [] 400 ?_
    exact cid hv (by rw [sp_kept, if_pos l1, l13])
  · have l1 : V.1 0 2 = -1 := (lat_lt ht).mp (by rw [← l13]; exact Int32.not_le.mp zl)
    refine SegP.tr (Seg.cV (tX5_refuse h g 3 (by decide) (-1000004) (by decide)) mlX5_64 iyX5_refuse seX5_refuse oyX5_refuse rfl (by decide) rfl (by decide) (by decide) rfl rfl rfl rfl (Nat.le_of_ble_eq_true rfl) (Nat.le_of_ble_eq_true rfl)) ?_
    refine SegP.run [] 400 ?_
    exact cfn hv (k := 3) (by decide) (by rw [sp_kept, if_neg (fun y => y l1)])
set_option maxRecDepth 100000 in
set_option maxHeartbeats 400000 in
theorem zM_kept {V : aV} (hV : VOk V)  : DX mX6_kept 11 [] V (sp_kept V ) := by
  intro h g hv
  obtain ⟨v1, v2, v3, v4, v5, v6⟩ := id hv
  have ht := hV.1
  refine MX.of okX6_kept (by decide +kernel) (Nat.le_of_ble_eq_true rfl) (by decide) rfl (by decide) ?_
  refine SegP.run [] 400 ?_
  have l13 := (mR0 hv).2.2.1
  refine And.intro (in10 (p := 2) (by decide) (by decide)) ?_
  refine And.intro (fun zl => ?_) (fun zl => ?_)
  · have l1 : ¬ V.1 0 2 = -1 := by rw [← l13]; exact zl
    refine And.intro (in10 (p := 2) (by decide) (by decide)) ?_
    have hk := tX6_keptIn h g (by rw [v1]; exact ht) (V.1 0 2)
    rw [v1] at hk
    rw [← l13] at hk
    refine SegP.tr (Seg.cV hk mlX6_197 iyX6_keptIn seX6_keptIn oyX6_keptIn rfl (by decide) rfl (by decide) (by decide) rfl rfl rfl rfl (Nat.le_of_ble_eq_true rfl) (Nat.le_of_ble_eq_true rfl)) ?_
    refine SegP.run [] 400 ?_
    exact mid hv (by rw [sp_kept, if_pos l1, l13])
  · have l1 : V.1 0 2 = -1 := by rw [← l13]; exact Decidable.not_not.mp zl
    refine SegP.tr (Seg.cV (tX6_fd h g 3 (by decide) 3 (by decide) (-1000004) (by decide)) mlX6_51 iyX6_finding seX6_finding oyX6_finding rfl (by decide) rfl (by decide) (by decide) rfl rfl rfl rfl (Nat.le_of_ble_eq_true rfl) (Nat.le_of_ble_eq_true rfl)) ?_
    refine SegP.run [] 400 ?_
    exact mfn hv (k := 3) (by decide) (by rw [sp_kept, if_neg (fun y => y l1)])
def sp_owes (V : aV) (p : Int32) : Int32 × aV := if isS V.1 p then (if ¬ V.1 0 2 = -1 then (owed V.1 p (kept V.1 (V.1 0 2)), V) else fnd V 3 (-1000004)) else fnd V 0 (-1000001)
set_option maxRecDepth 100000 in
set_option maxHeartbeats 400000 in
theorem zC_owes {V : aV} (hV : VOk V) (p : Int32) : CX mX5_owes 11 [.int p] V (sp_owes V p) := by
  intro h g hv
  obtain ⟨v1, v2, v3, v4, v5, v6⟩ := id hv
  have ht := hV.1
  refine MX.of okX5_owes (by decide +kernel) (Nat.le_of_ble_eq_true rfl) (by decide) rfl (by decide) ?_
  refine SegP.run [] 400 ?_
  refine SegP.tr (Seg.cV (tX5_isSet ht v1 p) mlX5_163 iyX5_isSet seX5_isSet oyX5_isSet rfl (by decide) rfl (by decide) (by decide) rfl rfl rfl rfl (Nat.le_of_ble_eq_true rfl) (Nat.le_of_ble_eq_true rfl)) ?_
  refine SegP.run [] 400 ?_
  refine And.intro (fun z0 => ?_) (fun z0 => ?_)
  · have q0 := bn1 z0
    have l13 := (cR0 hv).2.2.1
    refine And.intro (fun zl => ?_) (fun zl => ?_)
    · have l1 : ¬ V.1 0 2 = -1 := fun y => absurd (show V.1 0 2 < 0 from (lat_lt ht).mpr y) (by rw [← l13]; exact fun w => absurd zl (Int32.not_le.mpr w))
      have hk := tX4_keptIn h g (by rw [v1]; exact ht) (V.1 0 2)
      rw [v1] at hk
      rw [← l13] at hk
      refine SegP.tr (Seg.cV hk mlX5_160 iyX4_keptIn seX4_keptIn oyX4_keptIn rfl (by decide) rfl (by decide) (by decide) rfl rfl rfl rfl (Nat.le_of_ble_eq_true rfl) (Nat.le_of_ble_eq_true rfl)) ?_
      have hm := tX4_owedBy h g (by rw [v1]; exact ht) p (kept V.1 (h 1 13))
      rw [v1] at hm
      refine SegP.tr (Seg.cV hm mlX5_166 iyX4_owedBy seX4_owedBy oyX4_owedBy rfl (by decide) rfl (by decide) (by decide) rfl rfl rfl rfl (Nat.le_of_ble_eq_true rfl) (Nat.le_of_ble_eq_true rfl)) ?_
      refine SegP.run [] 400 ?_
      exact cid hv (by rw [sp_owes, if_pos q0, if_pos l1, l13])
    · have l1 : V.1 0 2 = -1 := (lat_lt ht).mp (by rw [← l13]; exact Int32.not_le.mp zl)
      refine SegP.tr (Seg.cV (tX5_refuse h g 3 (by decide) (-1000004) (by decide)) mlX5_64 iyX5_refuse seX5_refuse oyX5_refuse rfl (by decide) rfl (by decide) (by decide) rfl rfl rfl rfl (Nat.le_of_ble_eq_true rfl) (Nat.le_of_ble_eq_true rfl)) ?_
      refine SegP.run [] 400 ?_
      exact cfn hv (k := 3) (by decide) (by rw [sp_owes, if_pos q0, if_neg (fun y => y l1)])
  · refine SegP.tr (Seg.cV (tX5_refuse h g 0 (by decide) (-1000001) (by decide)) mlX5_64 iyX5_refuse seX5_refuse oyX5_refuse rfl (by decide) rfl (by decide) (by decide) rfl rfl rfl rfl (Nat.le_of_ble_eq_true rfl) (Nat.le_of_ble_eq_true rfl)) ?_
    refine SegP.run [] 400 ?_
    exact cfn hv (k := 0) (by decide) (by rw [sp_owes, if_neg (fun y => bn0 z0 y)])
set_option maxRecDepth 100000 in
set_option maxHeartbeats 400000 in
theorem zM_owes {V : aV} (hV : VOk V) (p : Int32) : DX mX6_owes 11 [.int p] V (sp_owes V p) := by
  intro h g hv
  obtain ⟨v1, v2, v3, v4, v5, v6⟩ := id hv
  have ht := hV.1
  refine MX.of okX6_owes (by decide +kernel) (Nat.le_of_ble_eq_true rfl) (by decide) rfl (by decide) ?_
  refine SegP.run [] 400 ?_
  refine SegP.tr (Seg.cV (tX6_isSet ht v1 p) mlX6_200 iyX6_isSet seX6_isSet oyX6_isSet rfl (by decide) rfl (by decide) (by decide) rfl rfl rfl rfl (Nat.le_of_ble_eq_true rfl) (Nat.le_of_ble_eq_true rfl)) ?_
  refine SegP.run [] 400 ?_
  refine And.intro (fun z0 => ?_) (fun z0 => ?_)
  · have q0 := bn1 z0
    have l13 := (mR0 hv).2.2.1
    refine And.intro (in10 (p := 2) (by decide) (by decide)) ?_
    refine And.intro (fun zl => ?_) (fun zl => ?_)
    · have l1 : ¬ V.1 0 2 = -1 := by rw [← l13]; exact zl
      refine And.intro (in10 (p := 2) (by decide) (by decide)) ?_
      have hk := tX6_keptIn h g (by rw [v1]; exact ht) (V.1 0 2)
      rw [v1] at hk
      rw [← l13] at hk
      refine SegP.tr (Seg.cV hk mlX6_197 iyX6_keptIn seX6_keptIn oyX6_keptIn rfl (by decide) rfl (by decide) (by decide) rfl rfl rfl rfl (Nat.le_of_ble_eq_true rfl) (Nat.le_of_ble_eq_true rfl)) ?_
      have hm := tX6_owesBy h g (by rw [v1]; exact ht) p (kept V.1 (h 64 2))
      rw [v1] at hm
      refine SegP.tr (Seg.cV hm mlX6_203 iyX6_owesBy seX6_owesBy oyX6_owesBy rfl (by decide) rfl (by decide) (by decide) rfl rfl rfl rfl (Nat.le_of_ble_eq_true rfl) (Nat.le_of_ble_eq_true rfl)) ?_
      refine SegP.run [] 400 ?_
      exact mid hv (by rw [sp_owes, if_pos q0, if_pos l1, l13])
    · have l1 : V.1 0 2 = -1 := by rw [← l13]; exact Decidable.not_not.mp zl
      refine SegP.tr (Seg.cV (tX6_fd h g 3 (by decide) 3 (by decide) (-1000004) (by decide)) mlX6_51 iyX6_finding seX6_finding oyX6_finding rfl (by decide) rfl (by decide) (by decide) rfl rfl rfl rfl (Nat.le_of_ble_eq_true rfl) (Nat.le_of_ble_eq_true rfl)) ?_
      refine SegP.run [] 400 ?_
      exact mfn hv (k := 3) (by decide) (by rw [sp_owes, if_pos q0, if_neg (fun y => y l1)])
  · refine SegP.tr (Seg.cV (tX6_fd h g 0 (by decide) 0 (by decide) (-1000001) (by decide)) mlX6_51 iyX6_finding seX6_finding oyX6_finding rfl (by decide) rfl (by decide) (by decide) rfl rfl rfl rfl (Nat.le_of_ble_eq_true rfl) (Nat.le_of_ble_eq_true rfl)) ?_
    refine SegP.run [] 400 ?_
    exact mfn hv (k := 0) (by decide) (by rw [sp_owes, if_neg (fun y => bn0 z0 y)])
def sp_met (V : aV) (p : Int32) : Int32 × aV := if isS V.1 p then (if ¬ V.1 0 2 = -1 then (metI V.1 (p &&& kept V.1 (V.1 0 2)), V) else fnd V 3 (-1000004)) else fnd V 0 (-1000001)
set_option maxRecDepth 100000 in
set_option maxHeartbeats 400000 in
theorem zC_met {V : aV} (hV : VOk V) (p : Int32) : CX mX5_met 11 [.int p] V (sp_met V p) := by
  intro h g hv
  obtain ⟨v1, v2, v3, v4, v5, v6⟩ := id hv
  have ht := hV.1
  refine MX.of okX5_met (by decide +kernel) (Nat.le_of_ble_eq_true rfl) (by decide) rfl (by decide) ?_
  refine SegP.run [] 400 ?_
  refine SegP.tr (Seg.cV (tX5_isSet ht v1 p) mlX5_163 iyX5_isSet seX5_isSet oyX5_isSet rfl (by decide) rfl (by decide) (by decide) rfl rfl rfl rfl (Nat.le_of_ble_eq_true rfl) (Nat.le_of_ble_eq_true rfl)) ?_
  refine SegP.run [] 400 ?_
  refine And.intro (fun z0 => ?_) (fun z0 => ?_)
  · have q0 := bn1 z0
    have l13 := (cR0 hv).2.2.1
    refine And.intro (fun zl => ?_) (fun zl => ?_)
    · have l1 : ¬ V.1 0 2 = -1 := fun y => absurd (show V.1 0 2 < 0 from (lat_lt ht).mpr y) (by rw [← l13]; exact fun w => absurd zl (Int32.not_le.mpr w))
      have hk := tX4_keptIn h g (by rw [v1]; exact ht) (V.1 0 2)
      rw [v1] at hk
      rw [← l13] at hk
      refine SegP.tr (Seg.cV hk mlX5_160 iyX4_keptIn seX4_keptIn oyX4_keptIn rfl (by decide) rfl (by decide) (by decide) rfl rfl rfl rfl (Nat.le_of_ble_eq_true rfl) (Nat.le_of_ble_eq_true rfl)) ?_
      have hm := tX4_needsMetBy h g (by rw [v1]; exact ht) (p &&& kept V.1 (h 1 13))
      rw [v1] at hm
      refine SegP.run [] 400 ?_
      refine SegP.tr (Seg.cV hm mlX5_172 iyX4_needsMetBy seX4_needsMetBy oyX4_needsMetBy rfl (by decide) rfl (by decide) (by decide) rfl rfl rfl rfl (Nat.le_of_ble_eq_true rfl) (Nat.le_of_ble_eq_true rfl)) ?_
      refine SegP.run [] 400 ?_
      exact cid hv (by rw [sp_met, if_pos q0, if_pos l1, l13])
    · have l1 : V.1 0 2 = -1 := (lat_lt ht).mp (by rw [← l13]; exact Int32.not_le.mp zl)
      refine SegP.tr (Seg.cV (tX5_refuse h g 3 (by decide) (-1000004) (by decide)) mlX5_64 iyX5_refuse seX5_refuse oyX5_refuse rfl (by decide) rfl (by decide) (by decide) rfl rfl rfl rfl (Nat.le_of_ble_eq_true rfl) (Nat.le_of_ble_eq_true rfl)) ?_
      refine SegP.run [] 400 ?_
      exact cfn hv (k := 3) (by decide) (by rw [sp_met, if_pos q0, if_neg (fun y => y l1)])
  · refine SegP.tr (Seg.cV (tX5_refuse h g 0 (by decide) (-1000001) (by decide)) mlX5_64 iyX5_refuse seX5_refuse oyX5_refuse rfl (by decide) rfl (by decide) (by decide) rfl rfl rfl rfl (Nat.le_of_ble_eq_true rfl) (Nat.le_of_ble_eq_true rfl)) ?_
    refine SegP.run [] 400 ?_
    exact cfn hv (k := 0) (by decide) (by rw [sp_met, if_neg (fun y => bn0 z0 y)])
set_option maxRecDepth 100000 in
set_option maxHeartbeats 400000 in
theorem zM_met {V : aV} (hV : VOk V) (p : Int32) : DX mX6_met 11 [.int p] V (sp_met V p) := by
  intro h g hv
  obtain ⟨v1, v2, v3, v4, v5, v6⟩ := id hv
  have ht := hV.1
  refine MX.of okX6_met (by decide +kernel) (Nat.le_of_ble_eq_true rfl) (by decide) rfl (by decide) ?_
  refine SegP.run [] 400 ?_
  refine SegP.tr (Seg.cV (tX6_isSet ht v1 p) mlX6_200 iyX6_isSet seX6_isSet oyX6_isSet rfl (by decide) rfl (by decide) (by decide) rfl rfl rfl rfl (Nat.le_of_ble_eq_true rfl) (Nat.le_of_ble_eq_true rfl)) ?_
  refine SegP.run [] 400 ?_
  refine And.intro (fun z0 => ?_) (fun z0 => ?_)
  · have q0 := bn1 z0
    have l13 := (mR0 hv).2.2.1
    refine And.intro (in10 (p := 2) (by decide) (by decide)) ?_
    refine And.intro (fun zl => ?_) (fun zl => ?_)
    · have l1 : ¬ V.1 0 2 = -1 := by rw [← l13]; exact zl
      refine And.intro (in10 (p := 2) (by decide) (by decide)) ?_
      have hk := tX6_keptIn h g (by rw [v1]; exact ht) (V.1 0 2)
      rw [v1] at hk
      rw [← l13] at hk
      refine SegP.tr (Seg.cV hk mlX6_197 iyX6_keptIn seX6_keptIn oyX6_keptIn rfl (by decide) rfl (by decide) (by decide) rfl rfl rfl rfl (Nat.le_of_ble_eq_true rfl) (Nat.le_of_ble_eq_true rfl)) ?_
      have hm := tX6_metBy h g (by rw [v1]; exact ht) (p &&& kept V.1 (h 64 2))
      rw [v1] at hm
      refine SegP.run [] 400 ?_
      refine SegP.tr (Seg.cV hm mlX6_206 iyX6_metBy seX6_metBy oyX6_metBy rfl (by decide) rfl (by decide) (by decide) rfl rfl rfl rfl (Nat.le_of_ble_eq_true rfl) (Nat.le_of_ble_eq_true rfl)) ?_
      refine SegP.run [] 400 ?_
      exact mid hv (by rw [sp_met, if_pos q0, if_pos l1, l13])
    · have l1 : V.1 0 2 = -1 := by rw [← l13]; exact Decidable.not_not.mp zl
      refine SegP.tr (Seg.cV (tX6_fd h g 3 (by decide) 3 (by decide) (-1000004) (by decide)) mlX6_51 iyX6_finding seX6_finding oyX6_finding rfl (by decide) rfl (by decide) (by decide) rfl rfl rfl rfl (Nat.le_of_ble_eq_true rfl) (Nat.le_of_ble_eq_true rfl)) ?_
      refine SegP.run [] 400 ?_
      exact mfn hv (k := 3) (by decide) (by rw [sp_met, if_pos q0, if_neg (fun y => y l1)])
  · refine SegP.tr (Seg.cV (tX6_fd h g 0 (by decide) 0 (by decide) (-1000001) (by decide)) mlX6_51 iyX6_finding seX6_finding oyX6_finding rfl (by decide) rfl (by decide) (by decide) rfl rfl rfl rfl (Nat.le_of_ble_eq_true rfl) (Nat.le_of_ble_eq_true rfl)) ?_
    refine SegP.run [] 400 ?_
    exact mfn hv (k := 0) (by decide) (by rw [sp_met, if_neg (fun y => bn0 z0 y)])
def sp_brings (V : aV) (p t : Int32) : Int32 × aV := if isS V.1 p ∧ (0 ≤ t ∧ t ≤ 5) then (if ¬ V.1 0 2 = -1 then (brg V.1 (p &&& kept V.1 (V.1 0 2)) t, V) else fnd V 3 (-1000004)) else fnd V 0 (-1000001)
set_option maxRecDepth 100000 in
set_option maxHeartbeats 400000 in
theorem zC_brings {V : aV} (hV : VOk V) (p t : Int32) : CX mX5_brings 11 [.int p, .int t] V (sp_brings V p t) := by
  intro h g hv
  obtain ⟨v1, v2, v3, v4, v5, v6⟩ := id hv
  have ht := hV.1
  refine MX.of okX5_brings (by decide +kernel) (Nat.le_of_ble_eq_true rfl) (by decide) rfl (by decide) ?_
  refine SegP.run [] 400 ?_
  refine SegP.tr (Seg.cV (tX5_isSet ht v1 p) mlX5_163 iyX5_isSet seX5_isSet oyX5_isSet rfl (by decide) rfl (by decide) (by decide) rfl rfl rfl rfl (Nat.le_of_ble_eq_true rfl) (Nat.le_of_ble_eq_true rfl)) ?_
  refine SegP.run [] 400 ?_
  refine And.intro (fun z0 => ?_) (fun z0 => ?_)
  · refine SegP.tr (Seg.cV (tX5_refuse h g 0 (by decide) (-1000001) (by decide)) mlX5_64 iyX5_refuse seX5_refuse oyX5_refuse rfl (by decide) rfl (by decide) (by decide) rfl rfl rfl rfl (Nat.le_of_ble_eq_true rfl) (Nat.le_of_ble_eq_true rfl)) ?_
    refine SegP.run [] 400 ?_
    exact cfn hv (k := 0) (by decide) (by rw [sp_brings, if_neg (fun y => bq0 z0 y.1)])
  have q0 := bq1 z0
  refine SegP.tr (Seg.cS ((tX5_fitsPart 3 t).ms h g) mlX5_103 syX5_fitsPart oyX5_fitsPart rfl (by decide) rfl rfl rfl (Nat.le_of_ble_eq_true rfl) (Nat.le_of_ble_eq_true rfl)) ?_
  refine SegP.run [] 400 ?_
  refine And.intro (fun z1 => ?_) (fun z1 => ?_)
  · have q1 := bn1 z1
    have qq : isS V.1 p ∧ (0 ≤ t ∧ t ≤ 5) := ⟨q0, q1.2⟩
    have l13 := (cR0 hv).2.2.1
    refine And.intro (fun zl => ?_) (fun zl => ?_)
    · have l1 : ¬ V.1 0 2 = -1 := fun y => absurd (show V.1 0 2 < 0 from (lat_lt ht).mpr y) (by rw [← l13]; exact fun w => absurd zl (Int32.not_le.mpr w))
      have hk := tX4_keptIn h g (by rw [v1]; exact ht) (V.1 0 2)
      rw [v1] at hk
      rw [← l13] at hk
      refine SegP.tr (Seg.cV hk mlX5_160 iyX4_keptIn seX4_keptIn oyX4_keptIn rfl (by decide) rfl (by decide) (by decide) rfl rfl rfl rfl (Nat.le_of_ble_eq_true rfl) (Nat.le_of_ble_eq_true rfl)) ?_
      have hm := tX4_broughtBy h g (by rw [v1]; exact ht) (p &&& kept V.1 (h 1 13)) t
      rw [v1] at hm
      refine SegP.run [] 400 ?_
      refine SegP.tr (Seg.cV hm mlX5_169 iyX4_broughtBy seX4_broughtBy oyX4_broughtBy rfl (by decide) rfl (by decide) (by decide) rfl rfl rfl rfl (Nat.le_of_ble_eq_true rfl) (Nat.le_of_ble_eq_true rfl)) ?_
      refine SegP.run [] 400 ?_
      exact cid hv (by rw [sp_brings, if_pos qq, if_pos l1, l13])
    · have l1 : V.1 0 2 = -1 := (lat_lt ht).mp (by rw [← l13]; exact Int32.not_le.mp zl)
      refine SegP.tr (Seg.cV (tX5_refuse h g 3 (by decide) (-1000004) (by decide)) mlX5_64 iyX5_refuse seX5_refuse oyX5_refuse rfl (by decide) rfl (by decide) (by decide) rfl rfl rfl rfl (Nat.le_of_ble_eq_true rfl) (Nat.le_of_ble_eq_true rfl)) ?_
      refine SegP.run [] 400 ?_
      exact cfn hv (k := 3) (by decide) (by rw [sp_brings, if_pos qq, if_neg (fun y => y l1)])
  · refine SegP.tr (Seg.cV (tX5_refuse h g 0 (by decide) (-1000001) (by decide)) mlX5_64 iyX5_refuse seX5_refuse oyX5_refuse rfl (by decide) rfl (by decide) (by decide) rfl rfl rfl rfl (Nat.le_of_ble_eq_true rfl) (Nat.le_of_ble_eq_true rfl)) ?_
    refine SegP.run [] 400 ?_
    exact cfn hv (k := 0) (by decide) (by rw [sp_brings, if_neg (fun y => bn0 z1 ⟨by decide, y.2⟩)])
set_option maxRecDepth 100000 in
set_option maxHeartbeats 400000 in
theorem zM_brings {V : aV} (hV : VOk V) (p t : Int32) : DX mX6_brings 11 [.int p, .int t] V (sp_brings V p t) := by
  intro h g hv
  obtain ⟨v1, v2, v3, v4, v5, v6⟩ := id hv
  have ht := hV.1
  refine MX.of okX6_brings (by decide +kernel) (Nat.le_of_ble_eq_true rfl) (by decide) rfl (by decide) ?_
  refine SegP.run [] 400 ?_
  refine SegP.tr (Seg.cV (tX6_isSet ht v1 p) mlX6_200 iyX6_isSet seX6_isSet oyX6_isSet rfl (by decide) rfl (by decide) (by decide) rfl rfl rfl rfl (Nat.le_of_ble_eq_true rfl) (Nat.le_of_ble_eq_true rfl)) ?_
  refine SegP.run [] 400 ?_
  refine And.intro (fun z0 => ?_) (fun z0 => ?_)
  · refine SegP.tr (Seg.cV (tX6_fd h g 0 (by decide) 0 (by decide) (-1000001) (by decide)) mlX6_51 iyX6_finding seX6_finding oyX6_finding rfl (by decide) rfl (by decide) (by decide) rfl rfl rfl rfl (Nat.le_of_ble_eq_true rfl) (Nat.le_of_ble_eq_true rfl)) ?_
    refine SegP.run [] 400 ?_
    exact mfn hv (k := 0) (by decide) (by rw [sp_brings, if_neg (fun y => bq0 z0 y.1)])
  have q0 := bq1 z0
  refine SegP.tr (Seg.cS ((tX6_in t 0 5).ms h g) mlX6_47 syX6_in oyX6_in rfl (by decide) rfl rfl rfl (Nat.le_of_ble_eq_true rfl) (Nat.le_of_ble_eq_true rfl)) ?_
  refine SegP.run [] 400 ?_
  refine And.intro (fun z1 => ?_) (fun z1 => ?_)
  · have q1 := bn1 z1
    have qq : isS V.1 p ∧ (0 ≤ t ∧ t ≤ 5) := ⟨q0, q1⟩
    have l13 := (mR0 hv).2.2.1
    refine And.intro (in10 (p := 2) (by decide) (by decide)) ?_
    refine And.intro (fun zl => ?_) (fun zl => ?_)
    · have l1 : ¬ V.1 0 2 = -1 := by rw [← l13]; exact zl
      refine And.intro (in10 (p := 2) (by decide) (by decide)) ?_
      have hk := tX6_keptIn h g (by rw [v1]; exact ht) (V.1 0 2)
      rw [v1] at hk
      rw [← l13] at hk
      refine SegP.tr (Seg.cV hk mlX6_197 iyX6_keptIn seX6_keptIn oyX6_keptIn rfl (by decide) rfl (by decide) (by decide) rfl rfl rfl rfl (Nat.le_of_ble_eq_true rfl) (Nat.le_of_ble_eq_true rfl)) ?_
      have hm := tX6_bringsBy h g (by rw [v1]; exact ht) (p &&& kept V.1 (h 64 2)) t
      rw [v1] at hm
      refine SegP.run [] 400 ?_
      refine SegP.tr (Seg.cV hm mlX6_181 iyX6_bringsBy seX6_bringsBy oyX6_bringsBy rfl (by decide) rfl (by decide) (by decide) rfl rfl rfl rfl (Nat.le_of_ble_eq_true rfl) (Nat.le_of_ble_eq_true rfl)) ?_
      refine SegP.run [] 400 ?_
      exact mid hv (by rw [sp_brings, if_pos qq, if_pos l1, l13])
    · have l1 : V.1 0 2 = -1 := by rw [← l13]; exact Decidable.not_not.mp zl
      refine SegP.tr (Seg.cV (tX6_fd h g 3 (by decide) 3 (by decide) (-1000004) (by decide)) mlX6_51 iyX6_finding seX6_finding oyX6_finding rfl (by decide) rfl (by decide) (by decide) rfl rfl rfl rfl (Nat.le_of_ble_eq_true rfl) (Nat.le_of_ble_eq_true rfl)) ?_
      refine SegP.run [] 400 ?_
      exact mfn hv (k := 3) (by decide) (by rw [sp_brings, if_pos qq, if_neg (fun y => y l1)])
  · refine SegP.tr (Seg.cV (tX6_fd h g 0 (by decide) 0 (by decide) (-1000001) (by decide)) mlX6_51 iyX6_finding seX6_finding oyX6_finding rfl (by decide) rfl (by decide) (by decide) rfl rfl rfl rfl (Nat.le_of_ble_eq_true rfl) (Nat.le_of_ble_eq_true rfl)) ?_
    refine SegP.run [] 400 ?_
    exact mfn hv (k := 0) (by decide) (by rw [sp_brings, if_neg (fun y => bn0 z1 y.2)])
def sp_weight (V : aV) (c : Int32) : Int32 × aV := if (0 ≤ c ∧ c ≤ 255) then (wg V.1 c, V) else fnd V 0 (-1000001)
set_option maxRecDepth 100000 in
set_option maxHeartbeats 400000 in
theorem zC_weight {V : aV} (hV : VOk V) (c : Int32) : CX mX5_weight 11 [.int c] V (sp_weight V c) := by
  intro h g hv
  obtain ⟨v1, v2, v3, v4, v5, v6⟩ := id hv
  have ht := hV.1
  refine MX.of okX5_weight (by decide +kernel) (Nat.le_of_ble_eq_true rfl) (by decide) rfl (by decide) ?_
  refine SegP.run [] 400 ?_
  refine SegP.tr (Seg.cS ((tX5_isThrow c).ms h g) mlX5_157 syX5_isThrow oyX5_isThrow rfl (by decide) rfl rfl rfl (Nat.le_of_ble_eq_true rfl) (Nat.le_of_ble_eq_true rfl)) ?_
  refine SegP.run [] 400 ?_
  refine And.intro (fun z0 => ?_) (fun z0 => ?_)
  · have q0 := bn1 z0
    have hm := tX4_weightOf h g c
    rw [v1] at hm
    refine SegP.tr (Seg.cV hm mlX5_175 iyX4_weightOf seX4_weightOf oyX4_weightOf rfl (by decide) rfl (by decide) (by decide) rfl rfl rfl rfl (Nat.le_of_ble_eq_true rfl) (Nat.le_of_ble_eq_true rfl)) ?_
    refine SegP.run [] 400 ?_
    exact cid hv (by rw [sp_weight, if_pos q0])
  · refine SegP.tr (Seg.cV (tX5_refuse h g 0 (by decide) (-1000001) (by decide)) mlX5_64 iyX5_refuse seX5_refuse oyX5_refuse rfl (by decide) rfl (by decide) (by decide) rfl rfl rfl rfl (Nat.le_of_ble_eq_true rfl) (Nat.le_of_ble_eq_true rfl)) ?_
    refine SegP.run [] 400 ?_
    exact cfn hv (k := 0) (by decide) (by rw [sp_weight, if_neg (fun y => bn0 z0 y)])
set_option maxRecDepth 100000 in
set_option maxHeartbeats 400000 in
theorem zM_weight {V : aV} (hV : VOk V) (c : Int32) : DX mX6_weight 11 [.int c] V (sp_weight V c) := by
  intro h g hv
  obtain ⟨v1, v2, v3, v4, v5, v6⟩ := id hv
  have ht := hV.1
  refine MX.of okX6_weight (by decide +kernel) (Nat.le_of_ble_eq_true rfl) (by decide) rfl (by decide) ?_
  refine SegP.run [] 400 ?_
  refine SegP.tr (Seg.cS ((tX6_isThrow c).ms h g) mlX6_194 syX6_isThrow oyX6_isThrow rfl (by decide) rfl rfl rfl (Nat.le_of_ble_eq_true rfl) (Nat.le_of_ble_eq_true rfl)) ?_
  refine SegP.run [] 400 ?_
  refine And.intro (fun z0 => ?_) (fun z0 => ?_)
  · refine SegP.tr (Seg.cV (tX6_fd h g 0 (by decide) 0 (by decide) (-1000001) (by decide)) mlX6_51 iyX6_finding seX6_finding oyX6_finding rfl (by decide) rfl (by decide) (by decide) rfl rfl rfl rfl (Nat.le_of_ble_eq_true rfl) (Nat.le_of_ble_eq_true rfl)) ?_
    refine SegP.run [] 400 ?_
    exact mfn hv (k := 0) (by decide) (by rw [sp_weight, if_neg (fun y => bq0 z0 y)])
  have q0 := bq1 z0
  have hm := tX6_weightOf h g c
  rw [v1] at hm
  refine SegP.tr (Seg.cV hm mlX6_212 iyX6_weightOf seX6_weightOf oyX6_weightOf rfl (by decide) rfl (by decide) (by decide) rfl rfl rfl rfl (Nat.le_of_ble_eq_true rfl) (Nat.le_of_ble_eq_true rfl)) ?_
  refine SegP.run [] 400 ?_
  exact mid hv (by rw [sp_weight, if_pos q0])
def sp_needOf (V : aV) (p w : Int32) : Int32 × aV := if isN V.1 p ∧ (0 ≤ w ∧ w ≤ 2) then (V.1 (9 + cl w) (cl p), V) else fnd V 0 (-1000001)
set_option maxRecDepth 100000 in
set_option maxHeartbeats 400000 in
theorem zC_needOf {V : aV} (hV : VOk V) (p w : Int32) : CX mX5_needOf 11 [.int p, .int w] V (sp_needOf V p w) := by
  intro h g hv
  obtain ⟨v1, v2, v3, v4, v5, v6⟩ := id hv
  have ht := hV.1
  refine MX.of okX5_needOf (by decide +kernel) (Nat.le_of_ble_eq_true rfl) (by decide) rfl (by decide) ?_
  refine SegP.run [] 400 ?_
  refine SegP.tr (Seg.cV (tX5_isNeed v1 p) mlX5_138 iyX5_isNeed seX5_isNeed oyX5_isNeed rfl (by decide) rfl (by decide) (by decide) rfl rfl rfl rfl (Nat.le_of_ble_eq_true rfl) (Nat.le_of_ble_eq_true rfl)) ?_
  refine SegP.run [] 400 ?_
  refine And.intro (fun z0 => ?_) (fun z0 => ?_)
  · refine SegP.tr (Seg.cV (tX5_refuse h g 0 (by decide) (-1000001) (by decide)) mlX5_64 iyX5_refuse seX5_refuse oyX5_refuse rfl (by decide) rfl (by decide) (by decide) rfl rfl rfl rfl (Nat.le_of_ble_eq_true rfl) (Nat.le_of_ble_eq_true rfl)) ?_
    refine SegP.run [] 400 ?_
    exact cfn hv (k := 0) (by decide) (by rw [sp_needOf, if_neg (fun y => bq0 z0 y.1)])
  have q0 := bq1 z0
  refine SegP.tr (Seg.cS ((tX5_isBetween w 0 2).ms h g) mlX5_59 syX5_isBetween oyX5_isBetween rfl (by decide) rfl rfl rfl (Nat.le_of_ble_eq_true rfl) (Nat.le_of_ble_eq_true rfl)) ?_
  refine SegP.run [] 400 ?_
  refine And.intro (fun z1 => ?_) (fun z1 => ?_)
  · have q1 := bn1 z1
    obtain ⟨p', hp, rfl⟩ := isN_N ht q0
    obtain ⟨w', hw, rfl⟩ := rng (a := 0) (b := 2) (by decide) (show nI 0 ≤ w ∧ w ≤ nI 2 from q1) (by decide)
    have h6 := ht.nn.1
    have hin := in10 (p := p') (n := 6) (by omega) (by decide)
    have cp := cl10 (p := p') (by omega)
    have e : sp_needOf V (nI p') (nI w') = (V.1 (9 + w') p', V) := by rw [sp_needOf, if_pos ⟨q0, q1⟩, cl_nI (by omega), cl_nI (by omega)]
    rw [e]
    refine And.intro (fun y0 => ?_) (fun y0 => ?_)
    · refine And.intro (fun y1 => ?_) (fun y1 => ?_)
      · refine And.intro hin ?_
        have : w' = 2 := by
          rcases (show w' = 0 ∨ w' = 1 ∨ w' = 2 by omega) with rfl | rfl | rfl
          · exact absurd rfl y0
          · exact absurd rfl y1
          · rfl
        subst this
        rw [cp]
        exact cid hv (by rw [show h 12 p' = V.1 11 p' from cR (j := 11) hv (by decide) (show p' < 6 by omega)])
      · refine And.intro hin ?_
        obtain rfl : w' = 1 := (nI_eq (b := 1) (by omega) (by decide)).mp (Decidable.not_not.mp y1)
        rw [cp]
        exact cid hv (by rw [show h 11 p' = V.1 10 p' from cR (j := 10) hv (by decide) (show p' < 6 by omega)])
    · refine And.intro hin ?_
      obtain rfl : w' = 0 := (nI_eq (b := 0) (by omega) (by decide)).mp (Decidable.not_not.mp y0)
      rw [cp]
      exact cid hv (by rw [show h 10 p' = V.1 9 p' from cR (j := 9) hv (by decide) (show p' < 6 by omega)])
  · refine SegP.tr (Seg.cV (tX5_refuse h g 0 (by decide) (-1000001) (by decide)) mlX5_64 iyX5_refuse seX5_refuse oyX5_refuse rfl (by decide) rfl (by decide) (by decide) rfl rfl rfl rfl (Nat.le_of_ble_eq_true rfl) (Nat.le_of_ble_eq_true rfl)) ?_
    refine SegP.run [] 400 ?_
    exact cfn hv (k := 0) (by decide) (by rw [sp_needOf, if_neg (fun y => bn0 z1 y.2)])
set_option maxRecDepth 100000 in
set_option maxHeartbeats 400000 in
theorem zM_needOf {V : aV} (hV : VOk V) (p w : Int32) : DX mX6_needOf 11 [.int p, .int w] V (sp_needOf V p w) := by
  intro h g hv
  obtain ⟨v1, v2, v3, v4, v5, v6⟩ := id hv
  have ht := hV.1
  refine MX.of okX6_needOf (by decide +kernel) (Nat.le_of_ble_eq_true rfl) (by decide) rfl (by decide) ?_
  refine SegP.run [] 400 ?_
  refine SegP.tr (Seg.cV (tX6_isNeed ht v1 p) mlX6_168 iyX6_isNeed seX6_isNeed oyX6_isNeed rfl (by decide) rfl (by decide) (by decide) rfl rfl rfl rfl (Nat.le_of_ble_eq_true rfl) (Nat.le_of_ble_eq_true rfl)) ?_
  refine SegP.run [] 400 ?_
  refine And.intro (fun z0 => ?_) (fun z0 => ?_)
  · refine SegP.tr (Seg.cV (tX6_fd h g 0 (by decide) 0 (by decide) (-1000001) (by decide)) mlX6_51 iyX6_finding seX6_finding oyX6_finding rfl (by decide) rfl (by decide) (by decide) rfl rfl rfl rfl (Nat.le_of_ble_eq_true rfl) (Nat.le_of_ble_eq_true rfl)) ?_
    refine SegP.run [] 400 ?_
    exact mfn hv (k := 0) (by decide) (by rw [sp_needOf, if_neg (fun y => bq0 z0 y.1)])
  have q0 := bq1 z0
  refine SegP.tr (Seg.cS ((tX6_in w 0 2).ms h g) mlX6_47 syX6_in oyX6_in rfl (by decide) rfl rfl rfl (Nat.le_of_ble_eq_true rfl) (Nat.le_of_ble_eq_true rfl)) ?_
  refine SegP.run [] 400 ?_
  refine And.intro (fun z1 => ?_) (fun z1 => ?_)
  · refine SegP.tr (Seg.cV (tX6_fd h g 0 (by decide) 0 (by decide) (-1000001) (by decide)) mlX6_51 iyX6_finding seX6_finding oyX6_finding rfl (by decide) rfl (by decide) (by decide) rfl rfl rfl rfl (Nat.le_of_ble_eq_true rfl) (Nat.le_of_ble_eq_true rfl)) ?_
    refine SegP.run [] 400 ?_
    exact mfn hv (k := 0) (by decide) (by rw [sp_needOf, if_neg (fun y => bq0 z1 y.2)])
  have q1 := bq1 z1
  obtain ⟨p', hp, rfl⟩ := isN_N ht q0
  obtain ⟨w', hw, rfl⟩ := rng (a := 0) (b := 2) (by decide) (show nI 0 ≤ w ∧ w ≤ nI 2 from q1) (by decide)
  have h6 := ht.nn.1
  have hm := tX6_needIts h g p' w' (by omega) (by omega)
  rw [v1] at hm
  refine SegP.tr (Seg.cV hm mlX6_171 iyX6_needIts seX6_needIts oyX6_needIts rfl (by decide) rfl (by decide) (by decide) rfl rfl rfl rfl (Nat.le_of_ble_eq_true rfl) (Nat.le_of_ble_eq_true rfl)) ?_
  refine SegP.run [] 400 ?_
  exact mid hv (by rw [sp_needOf, if_pos ⟨q0, q1⟩, cl_nI (by omega), cl_nI (by omega)])
