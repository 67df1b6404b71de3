/-! ===== public methods: promises and needs made, dropped; spots; images; counts; printed by wip/whole/gen63.py ===== -/
theorem i6 {h : aH} {P : Nat} (e0 : h 64 (0 : Int32).toNatClampNeg = nI P) (hP : P < 10) {w : Nat} (hw : w < 6) {x : Int32} (hx : x = nI w) : vp_in ((20 : Int32) + 6 * h 64 (0 : Int32).toNatClampNeg + x) 108 ∧ ((20 : Int32) + 6 * h 64 (0 : Int32).toNatClampNeg + x).toNatClampNeg = 20 + 6 * P + w := by
  rw [e0, hx, idx6]
  exact ⟨in10 (by omega) (by decide), cl10 (by omega)⟩
theorem i3 {h : aH} {P : Nat} (e0 : h 64 (1 : Int32).toNatClampNeg = nI P) (hP : P < 6) {w : Nat} (hw : w < 3) {x : Int32} (hx : x = nI w) : vp_in ((80 : Int32) + 3 * h 64 (1 : Int32).toNatClampNeg + x) 108 ∧ ((80 : Int32) + 3 * h 64 (1 : Int32).toNatClampNeg + x).toNatClampNeg = 80 + 3 * P + w := by
  rw [e0, hx, idx3]
  exact ⟨in10 (by omega) (by decide), cl10 (by omega)⟩
theorem i30 {h : aH} {P : Nat} (e0 : h 64 (1 : Int32).toNatClampNeg = nI P) (hP : P < 6) : vp_in ((80 : Int32) + 3 * h 64 (1 : Int32).toNatClampNeg) 108 ∧ ((80 : Int32) + 3 * h 64 (1 : Int32).toNatClampNeg).toNatClampNeg = 80 + 3 * P := by
  have := i3 e0 hP (w := 0) (by decide) (x := 0) rfl
  rw [Int32.add_zero] at this
  exact this
theorem nP_10 {T : aH} (ht : TOk T) : T 0 0 = 10 ↔ nP T = 10 := by
  rw [ht.np.2]
  exact nI_eq (b := 10) (by have := ht.np.1; omega) (by decide)
theorem nN_6 {T : aH} (ht : TOk T) : T 0 1 = 6 ↔ nN T = 6 := by
  rw [ht.nn.2]
  exact nI_eq (b := 6) (by have := ht.nn.1; omega) (by decide)
theorem nP_0 {T : aH} (ht : TOk T) : T 0 0 = 0 ↔ nP T = 0 := by
  rw [ht.np.2]
  exact nI_eq (b := 0) (by have := ht.np.1; omega) (by decide)
def sp_promise (V : aV) (k c t n : Int32) : Int32 × aV := if gdP 0 k ∧ gdP 1 c ∧ gdP 3 t ∧ gdP 4 n then (if ¬ V.1 0 0 = 10 then (nI (nP V.1), tnV V (adP V.1 (nP V.1) k c c t n 0)) else fnd V 1 (-1000002)) else fnd V 0 (-1000001)
set_option maxRecDepth 100000 in
set_option maxHeartbeats 400000 in
theorem zC_promise {V : aV} (hV : VOk V) (k c t n : Int32) : CX mX5_promise 11 [.int k, .int c, .int t, .int n] V (sp_promise V k c t n) := by
  intro h g hv
  obtain ⟨v1, v2, v3, v4, v5, v6⟩ := id hv
  have ht := hV.1
  refine MX.of okX5_promise (by decide +kernel) (Nat.le_of_ble_eq_true rfl) (by decide) rfl (by decide) ?_
  refine SegP.run [] 400 ?_
  refine SegP.tr (Seg.cS ((tX5_isKind k).ms h g) mlX5_100 syX5_isKind oyX5_isKind rfl (by decide) rfl rfl rfl (Nat.le_of_ble_eq_true rfl) (Nat.le_of_ble_eq_true rfl)) ?_
  refine SegP.run [] 400 ?_
  refine And.intro (fun z0 => ?_) (fun z0 => ?_)
  · refine SegP.tr (Seg.cV (tX5_refuse h g 0 (by decide) (-1000001) (by decide)) mlX5_64 iyX5_refuse seX5_refuse oyX5_refuse rfl (by decide) rfl (by decide) (by decide) rfl rfl rfl rfl (Nat.le_of_ble_eq_true rfl) (Nat.le_of_ble_eq_true rfl)) ?_
    refine SegP.run [] 400 ?_
    exact cfn hv (k := 0) (by decide) (by rw [sp_promise, if_neg (fun y => bq0 z0 y.1)])
  have q0 := bq1 z0
  refine SegP.tr (Seg.cS ((tX5_isCoin c).ms h g) mlX5_90 syX5_isCoin oyX5_isCoin rfl (by decide) rfl rfl rfl (Nat.le_of_ble_eq_true rfl) (Nat.le_of_ble_eq_true rfl)) ?_
  refine SegP.run [] 400 ?_
  refine And.intro (fun z1 => ?_) (fun z1 => ?_)
  · refine SegP.tr (Seg.cV (tX5_refuse h g 0 (by decide) (-1000001) (by decide)) mlX5_64 iyX5_refuse seX5_refuse oyX5_refuse rfl (by decide) rfl (by decide) (by decide) rfl rfl rfl rfl (Nat.le_of_ble_eq_true rfl) (Nat.le_of_ble_eq_true rfl)) ?_
    refine SegP.run [] 400 ?_
    exact cfn hv (k := 0) (by decide) (by rw [sp_promise, if_neg (fun y => bq0 z1 y.2.1)])
  have q1 := bq1 z1
  refine SegP.tr (Seg.cS ((tX5_fitsPart 3 t).ms h g) mlX5_103 syX5_fitsPart oyX5_fitsPart rfl (by decide) rfl rfl rfl (Nat.le_of_ble_eq_true rfl) (Nat.le_of_ble_eq_true rfl)) ?_
  refine SegP.run [] 400 ?_
  refine And.intro (fun z2 => ?_) (fun z2 => ?_)
  · refine SegP.tr (Seg.cV (tX5_refuse h g 0 (by decide) (-1000001) (by decide)) mlX5_64 iyX5_refuse seX5_refuse oyX5_refuse rfl (by decide) rfl (by decide) (by decide) rfl rfl rfl rfl (Nat.le_of_ble_eq_true rfl) (Nat.le_of_ble_eq_true rfl)) ?_
    refine SegP.run [] 400 ?_
    exact cfn hv (k := 0) (by decide) (by rw [sp_promise, if_neg (fun y => bq0 z2 ⟨by decide, y.2.2.1⟩)])
  have q2 := bq1 z2
  refine SegP.tr (Seg.cS ((tX5_fitsPart 4 n).ms h g) mlX5_103 syX5_fitsPart oyX5_fitsPart rfl (by decide) rfl rfl rfl (Nat.le_of_ble_eq_true rfl) (Nat.le_of_ble_eq_true rfl)) ?_
  refine SegP.run [] 400 ?_
  refine And.intro (fun z3 => ?_) (fun z3 => ?_)
  · have q3 := bn1 z3
    have qq : gdP 0 k ∧ gdP 1 c ∧ gdP 3 t ∧ gdP 4 n := ⟨q0, q1, q2.2, q3.2⟩
    have l8 : h 1 8 = nI (nP V.1) := (cR0 hv).1.trans ht.np.2
    have np10 := ht.np.1
    refine And.intro (fun zf => ?_) (fun zf => ?_)
    · have w10 : ¬ V.1 0 0 = 10 := fun y => absurd (show h 1 8 < 10 from zf) (by rw [(cR0 hv).1, y]; decide)
      have lt10 : nP V.1 < 10 := by have := mt (nP_10 ht).mpr w10; omega
      refine SegP.cV (tX4_addPromise_1 h g (by rw [v1]; exact ht) (by rw [v1]; exact lt10) k c c t n 0) mlX5_110 iyX4_addPromise seX4_addPromise oyX4_addPromise rfl (by decide) rfl (by decide) (by decide) rfl rfl rfl rfl (Nat.le_of_ble_eq_true rfl) ?_
      rintro r h' g' ⟨rfl, rfl, e', f'⟩
      rw [v1] at e'
      have h8 : h' 1 8 = nI (nP V.1 + 1) := by rw [twT_0 e']; rfl
      refine SegP.run [] 400 ?_
      refine SegP.tr (Seg.ri (show h' 1 8 - 1 = nI (nP V.1) by rw [h8]; exact nI_pred _)) ?_
      have e : sp_promise V k c t n = (nI (nP V.1), tnV V (adP V.1 (nP V.1) k c c t n 0)) := by rw [sp_promise, if_pos qq, if_pos w10]
      rw [e]
      exact SegP.ret ⟨rfl, hv.tn e' (fun a ha => f' a (by omega)), fun a ha => f' a (by omega)⟩
    · have w10 : V.1 0 0 = 10 := (nP_10 ht).mpr (by
        rcases Nat.lt_or_ge (nP V.1) 10 with y | y
        · exact absurd (show h 1 8 < 10 by rw [l8]; exact nI_lt y (by decide)) zf
        · omega)
      refine SegP.tr (Seg.cV (tX5_refuse h g 1 (by decide) (-1000002) (by decide)) mlX5_64 iyX5_refuse seX5_refuse oyX5_refuse rfl (by decide) rfl (by decide) (by decide) rfl rfl rfl rfl (Nat.le_of_ble_eq_true rfl) (Nat.le_of_ble_eq_true rfl)) ?_
      refine SegP.run [] 400 ?_
      exact cfn hv (k := 1) (by decide) (by rw [sp_promise, if_pos qq, if_neg (fun y => y w10)])
  · refine SegP.tr (Seg.cV (tX5_refuse h g 0 (by decide) (-1000001) (by decide)) mlX5_64 iyX5_refuse seX5_refuse oyX5_refuse rfl (by decide) rfl (by decide) (by decide) rfl rfl rfl rfl (Nat.le_of_ble_eq_true rfl) (Nat.le_of_ble_eq_true rfl)) ?_
    refine SegP.run [] 400 ?_
    exact cfn hv (k := 0) (by decide) (by rw [sp_promise, if_neg (fun y => bn0 z3 ⟨by decide, y.2.2.2⟩)])
set_option maxRecDepth 100000 in
set_option maxHeartbeats 400000 in
theorem zM_promise {V : aV} (hV : VOk V) (k c t n : Int32) : DX mX6_promise 11 [.int k, .int c, .int t, .int n] V (sp_promise V k c t n) := by
  intro h g hv
  obtain ⟨v1, v2, v3, v4, v5, v6⟩ := id hv
  have ht := hV.1
  refine MX.of okX6_promise (by decide +kernel) (Nat.le_of_ble_eq_true rfl) (by decide) rfl (by decide) ?_
  refine SegP.run [] 400 ?_
  refine SegP.tr (Seg.cS ((tX6_isGood 0 k).ms h g) mlX6_158 syX6_isGood oyX6_isGood rfl (by decide) rfl rfl rfl (Nat.le_of_ble_eq_true rfl) (Nat.le_of_ble_eq_true rfl)) ?_
  refine SegP.run [] 400 ?_
  refine And.intro (fun z0 => ?_) (fun z0 => ?_)
  · refine SegP.tr (Seg.cV (tX6_fd h g 0 (by decide) 0 (by decide) (-1000001) (by decide)) mlX6_51 iyX6_finding seX6_finding oyX6_finding rfl (by decide) rfl (by decide) (by decide) rfl rfl rfl rfl (Nat.le_of_ble_eq_true rfl) (Nat.le_of_ble_eq_true rfl)) ?_
    refine SegP.run [] 400 ?_
    exact mfn hv (k := 0) (by decide) (by rw [sp_promise, if_neg (fun y => bq0 z0 y.1)])
  have q0 := bq1 z0
  refine SegP.tr (Seg.cS ((tX6_isGood 1 c).ms h g) mlX6_158 syX6_isGood oyX6_isGood rfl (by decide) rfl rfl rfl (Nat.le_of_ble_eq_true rfl) (Nat.le_of_ble_eq_true rfl)) ?_
  refine SegP.run [] 400 ?_
  refine And.intro (fun z1 => ?_) (fun z1 => ?_)
  · refine SegP.tr (Seg.cV (tX6_fd h g 0 (by decide) 0 (by decide) (-1000001) (by decide)) mlX6_51 iyX6_finding seX6_finding oyX6_finding rfl (by decide) rfl (by decide) (by decide) rfl rfl rfl rfl (Nat.le_of_ble_eq_true rfl) (Nat.le_of_ble_eq_true rfl)) ?_
    refine SegP.run [] 400 ?_
    exact mfn hv (k := 0) (by decide) (by rw [sp_promise, if_neg (fun y => bq0 z1 y.2.1)])
  have q1 := bq1 z1
  refine SegP.tr (Seg.cS ((tX6_isGood 3 t).ms h g) mlX6_158 syX6_isGood oyX6_isGood rfl (by decide) rfl rfl rfl (Nat.le_of_ble_eq_true rfl) (Nat.le_of_ble_eq_true rfl)) ?_
  refine SegP.run [] 400 ?_
  refine And.intro (fun z2 => ?_) (fun z2 => ?_)
  · refine SegP.tr (Seg.cV (tX6_fd h g 0 (by decide) 0 (by decide) (-1000001) (by decide)) mlX6_51 iyX6_finding seX6_finding oyX6_finding rfl (by decide) rfl (by decide) (by decide) rfl rfl rfl rfl (Nat.le_of_ble_eq_true rfl) (Nat.le_of_ble_eq_true rfl)) ?_
    refine SegP.run [] 400 ?_
    exact mfn hv (k := 0) (by decide) (by rw [sp_promise, if_neg (fun y => bq0 z2 y.2.2.1)])
  have q2 := bq1 z2
  refine SegP.tr (Seg.cS ((tX6_isGood 4 n).ms h g) mlX6_158 syX6_isGood oyX6_isGood rfl (by decide) rfl rfl rfl (Nat.le_of_ble_eq_true rfl) (Nat.le_of_ble_eq_true rfl)) ?_
  refine SegP.run [] 400 ?_
  refine And.intro (fun z3 => ?_) (fun z3 => ?_)
  · have q3 := bn1 z3
    have qq : gdP 0 k ∧ gdP 1 c ∧ gdP 3 t ∧ gdP 4 n := ⟨q0, q1, q2, q3⟩
    have e0 : h 64 (0 : Int32).toNatClampNeg = nI (nP V.1) := (mR0 hv).1.trans ht.np.2
    have np10 := ht.np.1
    refine And.intro (in10 (p := 0) (by decide) (by decide)) ?_
    refine And.intro (fun zf => ?_) (fun zf => ?_)
    · have w10 : ¬ V.1 0 0 = 10 := by rw [← (mR0 hv).1]; exact zf
      have lt10 : nP V.1 < 10 := by have := mt (nP_10 ht).mpr w10; omega
      have x0 := i6 e0 lt10 (w := 0) (by decide) (x := 0) rfl
      have x1 := i6 e0 lt10 (w := 1) (by decide) (x := 1) rfl
      have x2 := i6 e0 lt10 (w := 2) (by decide) (x := 2) rfl
      have x3 := i6 e0 lt10 (w := 3) (by decide) (x := 3) rfl
      have x4 := i6 e0 lt10 (w := 4) (by decide) (x := 4) rfl
      have x5 := i6 e0 lt10 (w := 5) (by decide) (x := 5) rfl
      refine And.intro (in10 (p := 0) (by decide) (by decide)) ?_
      refine And.intro x0.1 ?_
      refine And.intro x1.1 ?_
      refine And.intro x2.1 ?_
      refine And.intro x3.1 ?_
      refine And.intro x4.1 ?_
      refine And.intro x5.1 ?_
      refine And.intro (in10 (p := 0) (by decide) (by decide)) ?_
      refine And.intro (in10 (p := 0) (by decide) (by decide)) ?_
      refine And.intro (in10 (p := 0) (by decide) (by decide)) ?_
      rw [x0.2, x1.2, x2.2, x3.2, x4.2, x5.2, show (0 : Int32).toNatClampNeg = 0 from rfl]
      have ek : ∀ x y z u v w : Int32, up2 (up2 (up2 (up2 (up2 (up2 h 64 (20 + 6 * nP V.1 + 0) x) 64 (20 + 6 * nP V.1 + 1) y) 64 (20 + 6 * nP V.1 + 2) z) 64 (20 + 6 * nP V.1 + 3) u) 64 (20 + 6 * nP V.1 + 4) v) 64 (20 + 6 * nP V.1 + 5) w 64 0 + 1 = nI (nP V.1 + 1) := by
        intro x y z u v w
        iterate 6 rw [up2_k (by omega)]
        rw [show h 64 0 = nI (nP V.1) from e0, nI_succ]
      rw [ek]
      refine SegP.tr (Seg.ri (show up2 _ 64 0 (nI (nP V.1 + 1)) 64 0 - 1 = nI (nP V.1) by rw [up2_s]; exact nI_pred _)) ?_
      have e : sp_promise V k c t n = (nI (nP V.1), tnV V (adP V.1 (nP V.1) k c c t n 0)) := by rw [sp_promise, if_pos qq, if_pos w10]
      rw [e]
      exact SegP.ret ⟨rfl, dT (j := 0) (k := 0) (dT (j := 8) (dT (j := 7) (dT (j := 6) (dT (j := 5) (dT (j := 4) (dT (j := 3) hv (show nP V.1 < 10 from lt10) rfl) (show nP V.1 < 10 from lt10) rfl) (show nP V.1 < 10 from lt10) rfl) (show nP V.1 < 10 from lt10) rfl) (show nP V.1 < 10 from lt10) rfl) (show nP V.1 < 10 from lt10) rfl) (by decide) rfl, fun a ha => by iterate 7 rw [up2_row (by omega)]⟩
    · have w10 : V.1 0 0 = 10 := by rw [← (mR0 hv).1]; exact Decidable.not_not.mp zf
      refine SegP.tr (Seg.cV (tX6_fd h g 1 (by decide) 1 (by decide) (-1000002) (by decide)) mlX6_51 iyX6_finding seX6_finding oyX6_finding rfl (by decide) rfl (by decide) (by decide) rfl rfl rfl rfl (Nat.le_of_ble_eq_true rfl) (Nat.le_of_ble_eq_true rfl)) ?_
      refine SegP.run [] 400 ?_
      exact mfn hv (k := 1) (by decide) (by rw [sp_promise, if_pos qq, if_neg (fun y => y w10)])
  · refine SegP.tr (Seg.cV (tX6_fd h g 0 (by decide) 0 (by decide) (-1000001) (by decide)) mlX6_51 iyX6_finding seX6_finding oyX6_finding rfl (by decide) rfl (by decide) (by decide) rfl rfl rfl rfl (Nat.le_of_ble_eq_true rfl) (Nat.le_of_ble_eq_true rfl)) ?_
    refine SegP.run [] 400 ?_
    exact mfn hv (k := 0) (by decide) (by rw [sp_promise, if_neg (fun y => bn0 z3 y.2.2.2)])
def sp_need (V : aV) (t n w : Int32) : Int32 × aV := if (0 ≤ t ∧ t ≤ 5) ∧ (1 ≤ n ∧ n ≤ 40) ∧ (1 ≤ w ∧ w ≤ 99) then (if ¬ V.1 0 1 = 6 then (nI (nN V.1), tnV V (adN V.1 (nN V.1) t n w)) else fnd V 1 (-1000002)) else fnd V 0 (-1000001)
set_option maxRecDepth 100000 in
set_option maxHeartbeats 400000 in
theorem zC_need {V : aV} (hV : VOk V) (t n w : Int32) : CX mX5_need 11 [.int t, .int n, .int w] V (sp_need V t n w) := by
  intro h g hv
  obtain ⟨v1, v2, v3, v4, v5, v6⟩ := id hv
  have ht := hV.1
  refine MX.of okX5_need (by decide +kernel) (Nat.le_of_ble_eq_true rfl) (by decide) rfl (by decide) ?_
  refine SegP.run [] 400 ?_
  refine SegP.tr (Seg.cS ((tX5_fitsNeed 0 (by decide) t).ms h g) mlX5_129 syX5_fitsNeed oyX5_fitsNeed rfl (by decide) rfl rfl rfl (Nat.le_of_ble_eq_true rfl) (Nat.le_of_ble_eq_true rfl)) ?_
  refine SegP.run [] 400 ?_
  refine And.intro (fun z0 => ?_) (fun z0 => ?_)
  · refine SegP.tr (Seg.cV (tX5_refuse h g 0 (by decide) (-1000001) (by decide)) mlX5_64 iyX5_refuse seX5_refuse oyX5_refuse rfl (by decide) rfl (by decide) (by decide) rfl rfl rfl rfl (Nat.le_of_ble_eq_true rfl) (Nat.le_of_ble_eq_true rfl)) ?_
    refine SegP.run [] 400 ?_
    exact cfn hv (k := 0) (by decide) (by rw [sp_need, if_neg (fun y => bq0 z0 y.1)])
  have q0 := bq1 z0
  refine SegP.tr (Seg.cS ((tX5_fitsNeed 1 (by decide) n).ms h g) mlX5_129 syX5_fitsNeed oyX5_fitsNeed rfl (by decide) rfl rfl rfl (Nat.le_of_ble_eq_true rfl) (Nat.le_of_ble_eq_true rfl)) ?_
  refine SegP.run [] 400 ?_
  refine And.intro (fun z1 => ?_) (fun z1 => ?_)
  · refine SegP.tr (Seg.cV (tX5_refuse h g 0 (by decide) (-1000001) (by decide)) mlX5_64 iyX5_refuse seX5_refuse oyX5_refuse rfl (by decide) rfl (by decide) (by decide) rfl rfl rfl rfl (Nat.le_of_ble_eq_true rfl) (Nat.le_of_ble_eq_true rfl)) ?_
    refine SegP.run [] 400 ?_
    exact cfn hv (k := 0) (by decide) (by rw [sp_need, if_neg (fun y => bq0 z1 y.2.1)])
  have q1 := bq1 z1
  refine SegP.tr (Seg.cS ((tX5_fitsNeed 2 (by decide) w).ms h g) mlX5_129 syX5_fitsNeed oyX5_fitsNeed rfl (by decide) rfl rfl rfl (Nat.le_of_ble_eq_true rfl) (Nat.le_of_ble_eq_true rfl)) ?_
  refine SegP.run [] 400 ?_
  refine And.intro (fun z2 => ?_) (fun z2 => ?_)
  · have q2 := bn1 z2
    have qq : (0 ≤ t ∧ t ≤ 5) ∧ (1 ≤ n ∧ n ≤ 40) ∧ (1 ≤ w ∧ w ≤ 99) := ⟨q0, q1, q2⟩
    have l8 : h 1 12 = nI (nN V.1) := (cR0 hv).2.1.trans ht.nn.2
    have np10 := ht.nn.1
    refine And.intro (fun zf => ?_) (fun zf => ?_)
    · have w10 : ¬ V.1 0 1 = 6 := fun y => absurd (show h 1 12 < 6 from zf) (by rw [(cR0 hv).2.1, y]; decide)
      have lt10 : nN V.1 < 6 := by have := mt (nN_6 ht).mpr w10; omega
      refine SegP.cV (tX4_addNeed_1 h g (by rw [v1]; exact ht) (by rw [v1]; exact lt10) t n w) mlX5_135 iyX4_addNeed seX4_addNeed oyX4_addNeed rfl (by decide) rfl (by decide) (by decide) rfl rfl rfl rfl (Nat.le_of_ble_eq_true rfl) ?_
      rintro r h' g' ⟨rfl, rfl, e', f'⟩
      rw [v1] at e'
      have h8 : h' 1 12 = nI (nN V.1 + 1) := by rw [twT_1 e']; rfl
      refine SegP.run [] 400 ?_
      refine SegP.tr (Seg.ri (show h' 1 12 - 1 = nI (nN V.1) by rw [h8]; exact nI_pred _)) ?_
      have e : sp_need V t n w = (nI (nN V.1), tnV V (adN V.1 (nN V.1) t n w)) := by rw [sp_need, if_pos qq, if_pos w10]
      rw [e]
      exact SegP.ret ⟨rfl, hv.tn e' (fun a ha => f' a (by omega)), fun a ha => f' a (by omega)⟩
    · have w10 : V.1 0 1 = 6 := (nN_6 ht).mpr (by
        rcases Nat.lt_or_ge (nN V.1) 6 with y | y
        · exact absurd (show h 1 12 < 6 by rw [l8]; exact nI_lt y (by decide)) zf
        · omega)
      refine SegP.tr (Seg.cV (tX5_refuse h g 1 (by decide) (-1000002) (by decide)) mlX5_64 iyX5_refuse seX5_refuse oyX5_refuse rfl (by decide) rfl (by decide) (by decide) rfl rfl rfl rfl (Nat.le_of_ble_eq_true rfl) (Nat.le_of_ble_eq_true rfl)) ?_
      refine SegP.run [] 400 ?_
      exact cfn hv (k := 1) (by decide) (by rw [sp_need, if_pos qq, if_neg (fun y => y w10)])
  · refine SegP.tr (Seg.cV (tX5_refuse h g 0 (by decide) (-1000001) (by decide)) mlX5_64 iyX5_refuse seX5_refuse oyX5_refuse rfl (by decide) rfl (by decide) (by decide) rfl rfl rfl rfl (Nat.le_of_ble_eq_true rfl) (Nat.le_of_ble_eq_true rfl)) ?_
    refine SegP.run [] 400 ?_
    exact cfn hv (k := 0) (by decide) (by rw [sp_need, if_neg (fun y => bn0 z2 y.2.2)])
set_option maxRecDepth 100000 in
set_option maxHeartbeats 400000 in
theorem zM_need {V : aV} (hV : VOk V) (t n w : Int32) : DX mX6_need 11 [.int t, .int n, .int w] V (sp_need V t n w) := by
  intro h g hv
  obtain ⟨v1, v2, v3, v4, v5, v6⟩ := id hv
  have ht := hV.1
  refine MX.of okX6_need (by decide +kernel) (Nat.le_of_ble_eq_true rfl) (by decide) rfl (by decide) ?_
  refine SegP.run [] 400 ?_
  refine SegP.tr (Seg.cS ((tX6_in t 0 5).ms h g) mlX6_47 syX6_in oyX6_in rfl (by decide) rfl rfl rfl (Nat.le_of_ble_eq_true rfl) (Nat.le_of_ble_eq_true rfl)) ?_
  refine SegP.run [] 400 ?_
  refine And.intro (fun z0 => ?_) (fun z0 => ?_)
  · refine SegP.tr (Seg.cV (tX6_fd h g 0 (by decide) 0 (by decide) (-1000001) (by decide)) mlX6_51 iyX6_finding seX6_finding oyX6_finding rfl (by decide) rfl (by decide) (by decide) rfl rfl rfl rfl (Nat.le_of_ble_eq_true rfl) (Nat.le_of_ble_eq_true rfl)) ?_
    refine SegP.run [] 400 ?_
    exact mfn hv (k := 0) (by decide) (by rw [sp_need, if_neg (fun y => bq0 z0 y.1)])
  have q0 := bq1 z0
  refine SegP.tr (Seg.cS ((tX6_in n 1 40).ms h g) mlX6_47 syX6_in oyX6_in rfl (by decide) rfl rfl rfl (Nat.le_of_ble_eq_true rfl) (Nat.le_of_ble_eq_true rfl)) ?_
  refine SegP.run [] 400 ?_
  refine And.intro (fun z1 => ?_) (fun z1 => ?_)
  · refine SegP.tr (Seg.cV (tX6_fd h g 0 (by decide) 0 (by decide) (-1000001) (by decide)) mlX6_51 iyX6_finding seX6_finding oyX6_finding rfl (by decide) rfl (by decide) (by decide) rfl rfl rfl rfl (Nat.le_of_ble_eq_true rfl) (Nat.le_of_ble_eq_true rfl)) ?_
    refine SegP.run [] 400 ?_
    exact mfn hv (k := 0) (by decide) (by rw [sp_need, if_neg (fun y => bq0 z1 y.2.1)])
  have q1 := bq1 z1
  refine SegP.tr (Seg.cS ((tX6_in w 1 99).ms h g) mlX6_47 syX6_in oyX6_in rfl (by decide) rfl rfl rfl (Nat.le_of_ble_eq_true rfl) (Nat.le_of_ble_eq_true rfl)) ?_
  refine SegP.run [] 400 ?_
  refine And.intro (fun z2 => ?_) (fun z2 => ?_)
  · have q2 := bn1 z2
    have qq : (0 ≤ t ∧ t ≤ 5) ∧ (1 ≤ n ∧ n ≤ 40) ∧ (1 ≤ w ∧ w ≤ 99) := ⟨q0, q1, q2⟩
    have e0 : h 64 (1 : Int32).toNatClampNeg = nI (nN V.1) := (mR0 hv).2.1.trans ht.nn.2
    have np10 := ht.nn.1
    refine And.intro (in10 (p := 1) (by decide) (by decide)) ?_
    refine And.intro (fun zf => ?_) (fun zf => ?_)
    · have w10 : ¬ V.1 0 1 = 6 := by rw [← (mR0 hv).2.1]; exact zf
      have lt10 : nN V.1 < 6 := by have := mt (nN_6 ht).mpr w10; omega
      have x0 := i30 e0 lt10
      have x1 := i3 e0 lt10 (w := 1) (by decide) (x := 1) rfl
      have x2 := i3 e0 lt10 (w := 2) (by decide) (x := 2) rfl
      refine And.intro (in10 (p := 1) (by decide) (by decide)) ?_
      refine And.intro x0.1 ?_
      refine And.intro x1.1 ?_
      refine And.intro x2.1 ?_
      refine And.intro (in10 (p := 1) (by decide) (by decide)) ?_
      refine And.intro (in10 (p := 1) (by decide) (by decide)) ?_
      refine And.intro (in10 (p := 1) (by decide) (by decide)) ?_
      rw [x0.2, x1.2, x2.2, show (1 : Int32).toNatClampNeg = 1 from rfl]
      have ek : ∀ x y z : Int32, up2 (up2 (up2 h 64 (80 + 3 * nN V.1) x) 64 (80 + 3 * nN V.1 + 1) y) 64 (80 + 3 * nN V.1 + 2) z 64 1 + 1 = nI (nN V.1 + 1) := by
        intro x y z
        iterate 3 rw [up2_k (by omega)]
        rw [show h 64 1 = nI (nN V.1) from e0, nI_succ]
      rw [ek]
      refine SegP.tr (Seg.ri (show up2 _ 64 1 (nI (nN V.1 + 1)) 64 1 - 1 = nI (nN V.1) by rw [up2_s]; exact nI_pred _)) ?_
      have e : sp_need V t n w = (nI (nN V.1), tnV V (adN V.1 (nN V.1) t n w)) := by rw [sp_need, if_pos qq, if_pos w10]
      rw [e]
      exact SegP.ret ⟨rfl, dT (j := 0) (k := 1) (dT (j := 11) (dT (j := 10) (dT (j := 9) hv (show nN V.1 < 6 from lt10) rfl) (show nN V.1 < 6 from lt10) rfl) (show nN V.1 < 6 from lt10) rfl) (by decide) rfl, fun a ha => by iterate 4 rw [up2_row (by omega)]⟩
    · have w10 : V.1 0 1 = 6 := by rw [← (mR0 hv).2.1]; exact Decidable.not_not.mp zf
      refine SegP.tr (Seg.cV (tX6_fd h g 1 (by decide) 1 (by decide) (-1000002) (by decide)) mlX6_51 iyX6_finding seX6_finding oyX6_finding rfl (by decide) rfl (by decide) (by decide) rfl rfl rfl rfl (Nat.le_of_ble_eq_true rfl) (Nat.le_of_ble_eq_true rfl)) ?_
      refine SegP.run [] 400 ?_
      exact mfn hv (k := 1) (by decide) (by rw [sp_need, if_pos qq, if_neg (fun y => y w10)])
  · refine SegP.tr (Seg.cV (tX6_fd h g 0 (by decide) 0 (by decide) (-1000001) (by decide)) mlX6_51 iyX6_finding seX6_finding oyX6_finding rfl (by decide) rfl (by decide) (by decide) rfl rfl rfl rfl (Nat.le_of_ble_eq_true rfl) (Nat.le_of_ble_eq_true rfl)) ?_
    refine SegP.run [] 400 ?_
    exact mfn hv (k := 0) (by decide) (by rw [sp_need, if_neg (fun y => bn0 z2 y.2.2)])
/-- the reference's row with the latest promise dropped, of the spots the first i looked at -/
def dmH (h : aH) (p i : Nat) : aH := fun a k => if a = 64 ∧ 98 ≤ k ∧ k < 98 + i then (if h 64 k = nI p then -1 else h 64 k) else up2 h 64 0 (nI p) a k
theorem dmH_0 {h : aH} {p : Nat} : dmH h p 0 = up2 h 64 0 (nI p) := by
  funext a k
  simp only [dmH]
  rw [if_neg (by omega)]
theorem dmH_s {h : aH} {p i : Nat} : up2 (dmH h p i) 64 (98 + i) (if h 64 (98 + i) = nI p then -1 else h 64 (98 + i)) = dmH h p (i + 1) := by
  funext a k
  simp only [up2, dmH]
  by_cases ha : a = 64
  · subst ha
    simp only [if_true, true_and]
    by_cases h1 : k = 98 + i
    · subst h1
      rw [if_pos rfl, if_pos (show 98 ≤ 98 + i ∧ 98 + i < 98 + (i + 1) by omega)]
    · rw [if_neg h1]
      by_cases h2 : 98 ≤ k ∧ k < 98 + i
      · rw [if_pos h2, if_pos (show 98 ≤ k ∧ k < 98 + (i + 1) by omega)]
      · rw [if_neg h2, if_neg (show ¬ (98 ≤ k ∧ k < 98 + (i + 1)) by omega)]
  · simp [ha]
theorem dmH_i {h : aH} {p i : Nat} : dmH h p i 64 (98 + i) = h 64 (98 + i) := by
  simp only [dmH]
  rw [if_neg (by omega), up2_k (by omega)]
theorem dmH_00 {h : aH} {p i : Nat} : dmH h p i 64 0 = nI p := by
  simp only [dmH]
  rw [if_neg (by omega), up2_s]
theorem dmH_o {h : aH} {p i a : Nat} (ha : a ≠ 64) : dmH h p i a = h a := by
  funext k
  simp only [dmH]
  rw [if_neg (fun z => ha z.1), up2_o ha]
theorem dmH_tm {h : aH} {p : Nat} : tm (dmH h p 10) 64 = drU (tm h 64) p 10 := by
  funext j k
  rw [tm_pl]
  by_cases hk : k < lenT j
  · rw [if_pos hk]
    rcases lt_cases hk with ⟨h1, h2, h3⟩ | ⟨h1, h2, h3⟩ | ⟨h1, h2, h3⟩ | ⟨h1, h1', h2, h3⟩ | ⟨h1, h1', h2, h3⟩ | ⟨h1, h2, h3⟩
    · subst h1
      rw [h3]
      simp only [dmH, drU]
      rw [if_neg (by omega), if_neg (by omega)]
      by_cases e : k = 0
      · subst e; simp [up2]
      · rw [up2_k e, up2_k e, tm_pl, if_pos hk, h3]
    · rw [h3]
      simp only [dmH, drU]
      rw [if_neg (by omega), if_neg (by omega), up2_k (by omega), up2_o (by omega), tm_pl, if_pos hk, h3]
    · rw [h3]
      simp only [dmH, drU]
      rw [if_neg (by omega), if_neg (by omega), up2_k (by omega), up2_o (by omega), tm_pl, if_pos hk, h3]
    · rw [h3]
      simp only [dmH, drU]
      rw [if_neg (by omega), if_neg (by omega), up2_k (by omega), up2_o (by omega), tm_pl, if_pos hk, h3]
    · rw [h3]
      simp only [dmH, drU]
      rw [if_neg (by omega), if_neg (by omega), up2_k (by omega), up2_o (by omega), tm_pl, if_pos hk, h3]
    · subst h1
      rw [h3]
      simp only [dmH, drU, true_and]
      rw [if_pos (show 98 ≤ 98 + k ∧ 98 + k < 98 + 10 by omega), if_pos h2, tm_pl, if_pos hk, h3]
  · rw [if_neg hk]
    simp only [drU]
    have z : ¬ (j = 12 ∧ k < 10) := fun y => hk (by rw [y.1]; exact y.2)
    rw [if_neg z]
    by_cases e : j = 0
    · subst e
      rw [up2_k (fun (y : k = 0) => hk (by rw [y]; decide)), tm_pl, if_neg hk]
    · rw [up2_o e, tm_pl, if_neg hk]
def sp_drop (V : aV)  : Int32 × aV := if ¬ V.1 0 0 = 0 then (nI (nP V.1 - 1), tnV V (drU V.1 (nP V.1 - 1) 10)) else fnd V 3 (-1000004)
set_option maxRecDepth 100000 in
set_option maxHeartbeats 400000 in
theorem zC_drop {V : aV} (hV : VOk V)  : CX mX5_drop 11 [] V (sp_drop V ) := by
  intro h g hv
  obtain ⟨v1, v2, v3, v4, v5, v6⟩ := id hv
  have ht := hV.1
  refine MX.of okX5_drop (by decide +kernel) (Nat.le_of_ble_eq_true rfl) (by decide) rfl (by decide) ?_
  refine SegP.run [] 400 ?_
  have l8 : h 1 8 = nI (nP V.1) := (cR0 hv).1.trans ht.np.2
  have np10 := ht.np.1
  refine And.intro (fun zf => ?_) (fun zf => ?_)
  · have w0 : ¬ V.1 0 0 = 0 := fun y => absurd (show 0 < h 1 8 from zf) (by rw [(cR0 hv).1, y]; decide)
    have p0 : nP V.1 ≠ 0 := mt (nP_0 ht).mpr w0
    have eP : h 1 8 = nI (nP V.1 - 1 + 1) := by rw [l8, show nP V.1 - 1 + 1 = nP V.1 by omega]
    refine SegP.tr (Seg.cV (tX4_dropLatest h g (nP V.1 - 1) (by omega) eP) mlX5_126 iyX4_dropLatest seX4_dropLatest oyX4_dropLatest rfl (by decide) rfl (by decide) (by decide) rfl rfl rfl rfl (Nat.le_of_ble_eq_true rfl) (Nat.le_of_ble_eq_true rfl)) ?_
    refine SegP.run [] 400 ?_
    refine SegP.tr (Seg.ri (show dlH h (nP V.1 - 1) 10 1 8 = nI (nP V.1 - 1) from dlH_8)) ?_
    have e : sp_drop V = (nI (nP V.1 - 1), tnV V (drU V.1 (nP V.1 - 1) 10)) := by rw [sp_drop, if_pos w0]
    rw [e]
    refine SegP.ret ⟨rfl, hv.tn (by rw [dlH_tw, v1]) (fun a ha => ?_), fun a ha => ?_⟩
    · funext k
      simp only [dlH]
      rw [if_neg (by omega), up2_o (by omega)]
    · funext k
      simp only [dlH]
      rw [if_neg (by omega), up2_o (by omega)]
  · have w0 : V.1 0 0 = 0 := (nP_0 ht).mpr (by
      rcases Nat.eq_zero_or_pos (nP V.1) with y | y
      · exact y
      · exact absurd (show 0 < h 1 8 by rw [l8]; exact nI_lt y (by omega)) zf)
    refine SegP.tr (Seg.cV (tX5_refuse h g 3 (by decide) (-1000004) (by decide)) mlX5_64 iyX5_refuse seX5_refuse oyX5_refuse rfl (by decide) rfl (by decide) (by decide) rfl rfl rfl rfl (Nat.le_of_ble_eq_true rfl) (Nat.le_of_ble_eq_true rfl)) ?_
    refine SegP.run [] 400 ?_
    exact cfn hv (k := 3) (by decide) (by rw [sp_drop, if_neg (fun y => y w0)])
set_option maxRecDepth 100000 in
set_option maxHeartbeats 400000 in
theorem zM_drop {V : aV} (hV : VOk V)  : DX mX6_drop 11 [] V (sp_drop V ) := by
  intro h g hv
  obtain ⟨v1, v2, v3, v4, v5, v6⟩ := id hv
  have ht := hV.1
  refine MX.of okX6_drop (by decide +kernel) (Nat.le_of_ble_eq_true rfl) (by decide) rfl (by decide) ?_
  refine SegP.run [27] 400 ?_
  have e0 : h 64 0 = nI (nP V.1) := (mR0 hv).1.trans ht.np.2
  have np10 := ht.np.1
  refine And.intro (in10 (p := 0) (by decide) (by decide)) ?_
  refine And.intro (fun zf => ?_) (fun zf => ?_)
  · have w0 : ¬ V.1 0 0 = 0 := by rw [← (mR0 hv).1]; exact zf
    have p0 : nP V.1 ≠ 0 := mt (nP_0 ht).mpr w0
    refine And.intro (in10 (p := 0) (by decide) (by decide)) ?_
    refine And.intro (in10 (p := 0) (by decide) (by decide)) ?_
    refine SegP.tr (Seg.of (b := (27, [some (.ref 63), some (.int (nI 0))], [], nW, dmH h (nP V.1 - 1) 0, g, ρ)) (by rw [dmH_0, show (0 : Int32).toNatClampNeg = 0 from rfl, e0, show nI (nP V.1) - 1 = nI (nP V.1 - 1) from nI_sb (b := 1) (by omega)] <;> rfl)) ?_
    refine SegP.tr (Seg.iter (fun i => (27, [some (.ref 63), some (.int (nI i))], [], nW, dmH h (nP V.1 - 1) i, g, ρ)) 10 (fun i hi => ?_)) ?_
    · have hin := in10 (p := 98 + i) (n := 108) (by omega) (by decide)
      have ci := cl10 (p := 98 + i) (by omega)
      have x : vp_in (98 + nI i) 108 := by rw [idx98]; exact hin
      refine Seg.run [27] 400 ?_
      refine And.intro (fun c => ?_) (fun c => ?_)
      · exact (lim_ge (N := 10) hi (by decide) c).elim
      refine And.intro x ?_
      refine And.intro (in10 (p := 0) (by decide) (by decide)) ?_
      rw [idx98, ci, show (0 : Int32).toNatClampNeg = 0 from rfl, dmH_i, dmH_00]
      refine And.intro (fun d => ?_) (fun d => ?_)
      · refine And.intro x ?_
        refine And.intro hin ?_
        exact Seg.of (by rw [idx98, ci, dmH_i, ← dmH_s, if_neg d, nI_succ] <;> rfl)
      · refine And.intro hin ?_
        exact Seg.of (by rw [ci, ← dmH_s, if_pos (Decidable.not_not.mp d), nI_succ] <;> rfl)
    · refine SegP.run [] 400 ?_
      refine And.intro (fun c => ?_) (fun c => ?_)
      · refine And.intro (in10 (p := 0) (by decide) (by decide)) ?_
        refine SegP.tr (Seg.ri (show dmH h (nP V.1 - 1) 10 64 0 = nI (nP V.1 - 1) from dmH_00)) ?_
        have e : sp_drop V = (nI (nP V.1 - 1), tnV V (drU V.1 (nP V.1 - 1) 10)) := by rw [sp_drop, if_pos w0]
        rw [e]
        exact SegP.ret ⟨rfl, hv.tn (by rw [dmH_tm, v1]) (fun a ha => dmH_o (by omega)) (by rw [dmH_o (by decide)]) (by rw [dmH_o (by decide)]), fun a ha => dmH_o (by omega)⟩
      · exact (lim_le (N := 10) (Nat.le_refl _) (by decide) c).elim
  · have w0 : V.1 0 0 = 0 := by rw [← (mR0 hv).1]; exact Decidable.not_not.mp zf
    refine SegP.tr (Seg.cV (tX6_fd h g 3 (by decide) 3 (by decide) (-1000004) (by decide)) mlX6_51 iyX6_finding seX6_finding oyX6_finding rfl (by decide) rfl (by decide) (by decide) rfl rfl rfl rfl (Nat.le_of_ble_eq_true rfl) (Nat.le_of_ble_eq_true rfl)) ?_
    refine SegP.run [] 400 ?_
    exact mfn hv (k := 3) (by decide) (by rw [sp_drop, if_neg (fun y => y w0)])
