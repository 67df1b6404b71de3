/-! ===== public methods: spots, images, counts, the tape; printed by wip/whole/gen64.py ===== -/
section CALLXS
variable {mt ct : aM} {lv lw : Nat} {pc nx tg : Nat} {q : aQ} {ls : List (Option Value)} {st : List Value} {h : aH} {g : aG} {av : List Value} {idx np : Nat} {P : List Value → aH → aG → Prop} {P' : aCfg → Prop}
/-- a call of a static method that has such a contract -/
theorem SegP.sX (hM : MX ct lw av h g P) (hl : Cond.methodLink mt.1.cls idx ct.1 ∈ gw) (hst : Cond.static ct.1 ∈ gw) (hy : OkY ct np) (hnp : av.length = np) (hlw : lw < lv)
    (hc : mt.2.2.2.2.2 pc = some (.invokestatic idx, nx, tg, q)) (hrf : rfL nW ls = true) (hrs : rfS nW st = true) (hcat : (st.map fun v => v.category).sum ≤ 8) (k : ∀ r h' g', P r h' g' → SegP mt lv (nx, ls, r ++ st, nW, h', g', ρ) P') : SegP mt lv (pc, ls, av.reverse ++ st, nW, h, g, ρ) P' := by
  intro p l e R s m args below meth c A D σ0 n0 Q Fz C hP'
  obtain ⟨hpc, hnx, hnr, hdg⟩ := ok_pc C.2.2.2.2.2.1 hc rfl
  refine SegP.core (av := av) hrf hrs hpc hnx hnr _ ?_ k p l e R s m args below meth c A D σ0 n0 Q Fz C hP'
  intro p l e R s m args below meth c A D σ0 n0 Q Fz σ τ H locs la C hF hla hpre hroom2
  exact ⟨_, va_runS (As := av.map (cv σ)) (n := np) ⟨C.1.1, C.1.2.1, C.1.2.2.1, C.1.2.2.2.2, C.2.1⟩ (hM l D σ τ H.size) ⟨call_b (lv := lv) C.2.1 hy hl hlw ⟨C.2.2.2.2.2.2.1.2.1, C.2.2.2.2.2.2.1.2.2.1⟩, C.2.1 _ hst⟩ ⟨sta_blind, fun U hU hW => hpre U hU hW⟩ rfl (by simpa using hnp) hla (by simp) (lv_room (cat_cv hcat)) hdg hroom2⟩
end CALLXS
def sp_hold (V : aV) (s p : Int32) : Int32 × aV := if (0 ≤ s ∧ s ≤ 9) ∧ (p = -1 ∨ isP V.1 p) then (1, tnV V (up2 V.1 12 (cl s) p)) else fnd V 0 (-1000001)
set_option maxRecDepth 100000 in
set_option maxHeartbeats 400000 in
theorem zC_hold {V : aV} (hV : VOk V) (s p : Int32) : CX mX5_hold 11 [.int s, .int p] V (sp_hold V s p) := by
  intro h g hv
  obtain ⟨v1, v2, v3, v4, v5, v6⟩ := id hv
  have ht := hV.1
  refine MX.of okX5_hold (by decide +kernel) (Nat.le_of_ble_eq_true rfl) (by decide) rfl (by decide) ?_
  refine SegP.run [] 400 ?_
  refine SegP.tr (Seg.cS ((tX5_isSpot s).ms h g) mlX5_251 syX5_isSpot oyX5_isSpot rfl (by decide) rfl rfl rfl (Nat.le_of_ble_eq_true rfl) (Nat.le_of_ble_eq_true rfl)) ?_
  refine SegP.run [] 400 ?_
  refine And.intro (fun z0 => ?_) (fun z0 => ?_)
  · refine SegP.tr (Seg.cV (tX5_refuse h g 0 (by decide) (-1000001) (by decide)) mlX5_64 iyX5_refuse seX5_refuse oyX5_refuse rfl (by decide) rfl (by decide) (by decide) rfl rfl rfl rfl (Nat.le_of_ble_eq_true rfl) (Nat.le_of_ble_eq_true rfl)) ?_
    refine SegP.run [] 400 ?_
    exact cfn hv (k := 0) (by decide) (by rw [sp_hold, if_neg (fun y => bq0 z0 y.1)])
  have q0 := bq1 z0
  refine And.intro (fun z1 => ?_) (fun z1 => ?_)
  · have q1 : p = -1 ∨ isP V.1 p := Or.inl z1
    obtain ⟨x, hx, rfl⟩ := rng (a := 0) (b := 9) (by decide) (show nI 0 ≤ s ∧ s ≤ nI 9 from q0) (by decide)
    have qq : ((0 : Int32) ≤ nI x ∧ nI x ≤ 9) ∧ (p = -1 ∨ isP V.1 p) := ⟨q0, q1⟩
    have e : sp_hold V (nI x) p = (1, tnV V (up2 V.1 12 x p)) := by rw [sp_hold, if_pos qq, cl_nI (by omega)]
    rw [e]
    refine And.intro (in10 (p := x) (n := 10) (by omega) (by decide)) ?_
    rw [cl10 (p := x) (by omega)]
    exact SegP.ret ⟨rfl, cT (j := 12) hv (by decide) (show x < 10 by omega), fun a ha => up2_row (by omega)⟩
  refine SegP.tr (Seg.cV (tX5_isPromise v1 p) mlX5_114 iyX5_isPromise seX5_isPromise oyX5_isPromise rfl (by decide) rfl (by decide) (by decide) rfl rfl rfl rfl (Nat.le_of_ble_eq_true rfl) (Nat.le_of_ble_eq_true rfl)) ?_
  refine SegP.run [] 400 ?_
  refine And.intro (fun z2 => ?_) (fun z2 => ?_)
  · have q1 : p = -1 ∨ isP V.1 p := Or.inr (bn1 z2)
    obtain ⟨x, hx, rfl⟩ := rng (a := 0) (b := 9) (by decide) (show nI 0 ≤ s ∧ s ≤ nI 9 from q0) (by decide)
    have qq : ((0 : Int32) ≤ nI x ∧ nI x ≤ 9) ∧ (p = -1 ∨ isP V.1 p) := ⟨q0, q1⟩
    have e : sp_hold V (nI x) p = (1, tnV V (up2 V.1 12 x p)) := by rw [sp_hold, if_pos qq, cl_nI (by omega)]
    rw [e]
    refine And.intro (in10 (p := x) (n := 10) (by omega) (by decide)) ?_
    rw [cl10 (p := x) (by omega)]
    exact SegP.ret ⟨rfl, cT (j := 12) hv (by decide) (show x < 10 by omega), fun a ha => up2_row (by omega)⟩
  · refine SegP.tr (Seg.cV (tX5_refuse h g 0 (by decide) (-1000001) (by decide)) mlX5_64 iyX5_refuse seX5_refuse oyX5_refuse rfl (by decide) rfl (by decide) (by decide) rfl rfl rfl rfl (Nat.le_of_ble_eq_true rfl) (Nat.le_of_ble_eq_true rfl)) ?_
    refine SegP.run [] 400 ?_
    exact cfn hv (k := 0) (by decide) (by rw [sp_hold, if_neg (fun y => y.2.elim z1 (bn0 z2))])
set_option maxRecDepth 100000 in
set_option maxHeartbeats 400000 in
theorem zM_hold {V : aV} (hV : VOk V) (s p : Int32) : DX mX6_hold 11 [.int s, .int p] V (sp_hold V s p) := by
  intro h g hv
  obtain ⟨v1, v2, v3, v4, v5, v6⟩ := id hv
  have ht := hV.1
  refine MX.of okX6_hold (by decide +kernel) (Nat.le_of_ble_eq_true rfl) (by decide) rfl (by decide) ?_
  refine SegP.run [] 400 ?_
  refine SegP.tr (Seg.cS ((tX6_in s 0 9).ms h g) mlX6_47 syX6_in oyX6_in rfl (by decide) rfl rfl rfl (Nat.le_of_ble_eq_true rfl) (Nat.le_of_ble_eq_true rfl)) ?_
  refine SegP.run [] 400 ?_
  refine And.intro (fun z0 => ?_) (fun z0 => ?_)
  · refine SegP.tr (Seg.cV (tX6_fd h g 0 (by decide) 0 (by decide) (-1000001) (by decide)) mlX6_51 iyX6_finding seX6_finding oyX6_finding rfl (by decide) rfl (by decide) (by decide) rfl rfl rfl rfl (Nat.le_of_ble_eq_true rfl) (Nat.le_of_ble_eq_true rfl)) ?_
    refine SegP.run [] 400 ?_
    exact mfn hv (k := 0) (by decide) (by rw [sp_hold, if_neg (fun y => bq0 z0 y.1)])
  have q0 := bq1 z0
  refine And.intro (fun z1 => ?_) (fun z1 => ?_)
  · have q1 : p = -1 ∨ isP V.1 p := Or.inl z1
    obtain ⟨x, hx, rfl⟩ := rng (a := 0) (b := 9) (by decide) (show nI 0 ≤ s ∧ s ≤ nI 9 from q0) (by decide)
    have qq : ((0 : Int32) ≤ nI x ∧ nI x ≤ 9) ∧ (p = -1 ∨ isP V.1 p) := ⟨q0, q1⟩
    have e : sp_hold V (nI x) p = (1, tnV V (up2 V.1 12 x p)) := by rw [sp_hold, if_pos qq, cl_nI (by omega)]
    rw [e]
    refine And.intro (by rw [idx98]; exact in10 (p := 98 + x) (n := 108) (by omega) (by decide)) ?_
    rw [idx98, cl10 (p := 98 + x) (by omega)]
    exact SegP.ret ⟨rfl, dT (j := 12) hv (show x < 10 by omega) rfl, fun a ha => up2_row (by omega)⟩
  refine SegP.tr (Seg.cV (tX6_isPromise ht v1 p) mlX6_161 iyX6_isPromise seX6_isPromise oyX6_isPromise rfl (by decide) rfl (by decide) (by decide) rfl rfl rfl rfl (Nat.le_of_ble_eq_true rfl) (Nat.le_of_ble_eq_true rfl)) ?_
  refine SegP.run [] 400 ?_
  refine And.intro (fun z2 => ?_) (fun z2 => ?_)
  · have q1 : p = -1 ∨ isP V.1 p := Or.inr (bn1 z2)
    obtain ⟨x, hx, rfl⟩ := rng (a := 0) (b := 9) (by decide) (show nI 0 ≤ s ∧ s ≤ nI 9 from q0) (by decide)
    have qq : ((0 : Int32) ≤ nI x ∧ nI x ≤ 9) ∧ (p = -1 ∨ isP V.1 p) := ⟨q0, q1⟩
    have e : sp_hold V (nI x) p = (1, tnV V (up2 V.1 12 x p)) := by rw [sp_hold, if_pos qq, cl_nI (by omega)]
    rw [e]
    refine And.intro (by rw [idx98]; exact in10 (p := 98 + x) (n := 108) (by omega) (by decide)) ?_
    rw [idx98, cl10 (p := 98 + x) (by omega)]
    exact SegP.ret ⟨rfl, dT (j := 12) hv (show x < 10 by omega) rfl, fun a ha => up2_row (by omega)⟩
  · refine SegP.tr (Seg.cV (tX6_fd h g 0 (by decide) 0 (by decide) (-1000001) (by decide)) mlX6_51 iyX6_finding seX6_finding oyX6_finding rfl (by decide) rfl (by decide) (by decide) rfl rfl rfl rfl (Nat.le_of_ble_eq_true rfl) (Nat.le_of_ble_eq_true rfl)) ?_
    refine SegP.run [] 400 ?_
    exact mfn hv (k := 0) (by decide) (by rw [sp_hold, if_neg (fun y => y.2.elim z1 (bn0 z2))])
def sp_as (V : aV) (s k : Int32) : Int32 × aV := if (0 ≤ s ∧ s ≤ 9) ∧ (0 ≤ k ∧ k ≤ 6) then (if V.1 12 (cl s) = -1 then fnd V 5 (-1000006) else if unP (V.1 3 (cl (V.1 12 (cl s)))) k then (V.1 12 (cl s), V) else fnd V 2 (-1000003)) else fnd V 0 (-1000001)
set_option maxRecDepth 100000 in
set_option maxHeartbeats 400000 in
theorem zC_as {V : aV} (hV : VOk V) (s k : Int32) : CX mX5_as 11 [.int s, .int k] V (sp_as V s k) := by
  intro h g hv
  obtain ⟨v1, v2, v3, v4, v5, v6⟩ := id hv
  have ht := hV.1
  refine MX.of okX5_as (by decide +kernel) (Nat.le_of_ble_eq_true rfl) (by decide) rfl (by decide) ?_
  refine SegP.run [] 400 ?_
  refine SegP.tr (Seg.cS ((tX5_isSpot s).ms h g) mlX5_251 syX5_isSpot oyX5_isSpot rfl (by decide) rfl rfl rfl (Nat.le_of_ble_eq_true rfl) (Nat.le_of_ble_eq_true rfl)) ?_
  refine SegP.run [] 400 ?_
  refine And.intro (fun z0 => ?_) (fun z0 => ?_)
  · refine SegP.tr (Seg.cV (tX5_refuse h g 0 (by decide) (-1000001) (by decide)) mlX5_64 iyX5_refuse seX5_refuse oyX5_refuse rfl (by decide) rfl (by decide) (by decide) rfl rfl rfl rfl (Nat.le_of_ble_eq_true rfl) (Nat.le_of_ble_eq_true rfl)) ?_
    refine SegP.run [] 400 ?_
    exact cfn hv (k := 0) (by decide) (by rw [sp_as, if_neg (fun y => bq0 z0 y.1)])
  have q0 := bq1 z0
  refine SegP.tr (Seg.cS ((tX5_isKind k).ms h g) mlX5_100 syX5_isKind oyX5_isKind rfl (by decide) rfl rfl rfl (Nat.le_of_ble_eq_true rfl) (Nat.le_of_ble_eq_true rfl)) ?_
  refine SegP.run [] 400 ?_
  refine And.intro (fun z1 => ?_) (fun z1 => ?_)
  · have q1 := bn1 z1
    obtain ⟨x, hx, rfl⟩ := rng (a := 0) (b := 9) (by decide) (show nI 0 ≤ s ∧ s ≤ nI 9 from q0) (by decide)
    obtain ⟨t, htt, rfl⟩ := rng (a := 0) (b := 6) (by decide) (show nI 0 ≤ k ∧ k ≤ nI 6 from q1) (by decide)
    have qq : ((0 : Int32) ≤ nI x ∧ nI x ≤ 9) ∧ ((0 : Int32) ≤ nI t ∧ nI t ≤ 6) := ⟨q0, q1⟩
    have h10 := ht.np.1
    refine And.intro (in10 (p := x) (n := 10) (by omega) (by decide)) ?_
    rw [cl10 (p := x) (by omega), show h 13 x = V.1 12 x from cR (j := 12) hv (by decide) (show x < 10 by omega)]
    refine SegP.tr (Seg.cV (tX5_isPromise v1 (V.1 12 x)) mlX5_114 iyX5_isPromise seX5_isPromise oyX5_isPromise rfl (by decide) rfl (by decide) (by decide) rfl rfl rfl rfl (Nat.le_of_ble_eq_true rfl) (Nat.le_of_ble_eq_true rfl)) ?_
    refine SegP.run [] 400 ?_
    refine And.intro (fun zp => ?_) (fun zp => ?_)
    · have w := bn1 zp
      obtain ⟨p', hp, ep⟩ := isP_N ht w
      have l1 : ¬ V.1 12 x = -1 := fun y => by rw [y] at w; exact absurd w.1 (by decide)
      obtain ⟨k', hk', ek⟩ := (ht.2.2.2.2.1 p' hp).1.1
      rw [ep]
      refine And.intro (in10 (p := p') (n := 10) (by omega) (by decide)) ?_
      rw [cl10 (p := p') (by omega), show h 4 p' = V.1 3 p' from cR (j := 3) hv (by decide) (show p' < 10 by omega), ek]
      refine SegP.tr (Seg.cS (tX5_isUnder k' t hk' (by omega)) mlX5_261 syX5_isUnder oyX5_isUnder rfl (by decide) rfl rfl rfl (Nat.le_of_ble_eq_true rfl) (Nat.le_of_ble_eq_true rfl)) ?_
      refine SegP.run [] 400 ?_
      refine And.intro (fun zu => ?_) (fun zu => ?_)
      · refine SegP.tr (Seg.cV (tX5_refuse h g 2 (by decide) (-1000003) (by decide)) mlX5_64 iyX5_refuse seX5_refuse oyX5_refuse rfl (by decide) rfl (by decide) (by decide) rfl rfl rfl rfl (Nat.le_of_ble_eq_true rfl) (Nat.le_of_ble_eq_true rfl)) ?_
        refine SegP.run [] 400 ?_
        exact cfn hv (k := 2) (by decide) (by rw [sp_as, if_pos qq, cl_nI (by omega), if_neg l1, ep, cl_nI (by omega), ek, if_neg (bq0 zu)])
      · exact cid hv (by rw [sp_as, if_pos qq, cl_nI (by omega), if_neg l1, ep, cl_nI (by omega), ek, if_pos (bq1 zu)])
    · have l1 : V.1 12 x = -1 := by
        rcases ht.2.2.2.2.2.2 x (by omega) with y | ⟨p', y1, y2⟩
        · exact y
        · exact absurd (by rw [y2]; exact isP_of ht y1) (bn0 zp)
      refine SegP.tr (Seg.cV (tX5_refuse h g 5 (by decide) (-1000006) (by decide)) mlX5_64 iyX5_refuse seX5_refuse oyX5_refuse rfl (by decide) rfl (by decide) (by decide) rfl rfl rfl rfl (Nat.le_of_ble_eq_true rfl) (Nat.le_of_ble_eq_true rfl)) ?_
      refine SegP.run [] 400 ?_
      exact cfn hv (k := 5) (by decide) (by rw [sp_as, if_pos qq, cl_nI (by omega), if_pos l1])
  · refine SegP.tr (Seg.cV (tX5_refuse h g 0 (by decide) (-1000001) (by decide)) mlX5_64 iyX5_refuse seX5_refuse oyX5_refuse rfl (by decide) rfl (by decide) (by decide) rfl rfl rfl rfl (Nat.le_of_ble_eq_true rfl) (Nat.le_of_ble_eq_true rfl)) ?_
    refine SegP.run [] 400 ?_
    exact cfn hv (k := 0) (by decide) (by rw [sp_as, if_neg (fun y => bn0 z1 y.2)])
set_option maxRecDepth 100000 in
set_option maxHeartbeats 400000 in
theorem zM_as {V : aV} (hV : VOk V) (s k : Int32) : DX mX6_as 11 [.int s, .int k] V (sp_as V s k) := by
  intro h g hv
  obtain ⟨v1, v2, v3, v4, v5, v6⟩ := id hv
  have ht := hV.1
  refine MX.of okX6_as (by decide +kernel) (Nat.le_of_ble_eq_true rfl) (by decide) rfl (by decide) ?_
  refine SegP.run [] 400 ?_
  refine SegP.tr (Seg.cS ((tX6_in s 0 9).ms h g) mlX6_47 syX6_in oyX6_in rfl (by decide) rfl rfl rfl (Nat.le_of_ble_eq_true rfl) (Nat.le_of_ble_eq_true rfl)) ?_
  refine SegP.run [] 400 ?_
  refine And.intro (fun z0 => ?_) (fun z0 => ?_)
  · refine SegP.tr (Seg.cV (tX6_fd h g 0 (by decide) 0 (by decide) (-1000001) (by decide)) mlX6_51 iyX6_finding seX6_finding oyX6_finding rfl (by decide) rfl (by decide) (by decide) rfl rfl rfl rfl (Nat.le_of_ble_eq_true rfl) (Nat.le_of_ble_eq_true rfl)) ?_
    refine SegP.run [] 400 ?_
    exact mfn hv (k := 0) (by decide) (by rw [sp_as, if_neg (fun y => bq0 z0 y.1)])
  have q0 := bq1 z0
  refine SegP.tr (Seg.cS ((tX6_in k 0 6).ms h g) mlX6_47 syX6_in oyX6_in rfl (by decide) rfl rfl rfl (Nat.le_of_ble_eq_true rfl) (Nat.le_of_ble_eq_true rfl)) ?_
  refine SegP.run [] 400 ?_
  refine And.intro (fun z1 => ?_) (fun z1 => ?_)
  · have q1 := bn1 z1
    obtain ⟨x, hx, rfl⟩ := rng (a := 0) (b := 9) (by decide) (show nI 0 ≤ s ∧ s ≤ nI 9 from q0) (by decide)
    obtain ⟨t, htt, rfl⟩ := rng (a := 0) (b := 6) (by decide) (show nI 0 ≤ k ∧ k ≤ nI 6 from q1) (by decide)
    have qq : ((0 : Int32) ≤ nI x ∧ nI x ≤ 9) ∧ ((0 : Int32) ≤ nI t ∧ nI t ≤ 6) := ⟨q0, q1⟩
    have h10 := ht.np.1
    refine And.intro (by rw [idx98]; exact in10 (p := 98 + x) (n := 108) (by omega) (by decide)) ?_
    rw [idx98, cl10 (p := 98 + x) (by omega), show h 64 (98 + x) = V.1 12 x from mT (j := 12) hv (show x < 10 by omega)]
    refine And.intro (fun zp => ?_) (fun zp => ?_)
    · have l1 : ¬ V.1 12 x = -1 := zp
      obtain ⟨p', hp, ep⟩ : ∃ p, p < nP V.1 ∧ V.1 12 x = nI p := by
        rcases ht.2.2.2.2.2.2 x (by omega) with y | y
        · exact absurd y l1
        · exact y
      rw [ep]
      have hm : MS mX6_its 1 [.ref 63, .int (nI p'), .int 0] h g [.int (V.1 3 p')] h g := by rw [← v1]; exact tX6_its h g p' 0 (by omega) (by decide)
      refine SegP.tr (Seg.cV hm mlX6_164 iyX6_its seX6_its oyX6_its rfl (by decide) rfl (by decide) (by decide) rfl rfl rfl rfl (Nat.le_of_ble_eq_true rfl) (Nat.le_of_ble_eq_true rfl)) ?_
      refine SegP.run [] 400 ?_
      refine SegP.tr (Seg.cS ((tX6_isUnder (V.1 3 p') (nI t)).ms h g) mlX6_253 syX6_isUnder oyX6_isUnder rfl (by decide) rfl rfl rfl (Nat.le_of_ble_eq_true rfl) (Nat.le_of_ble_eq_true rfl)) ?_
      refine SegP.run [] 400 ?_
      refine And.intro (fun zu => ?_) (fun zu => ?_)
      · refine SegP.tr (Seg.cV (tX6_fd h g 2 (by decide) 2 (by decide) (-1000003) (by decide)) mlX6_51 iyX6_finding seX6_finding oyX6_finding rfl (by decide) rfl (by decide) (by decide) rfl rfl rfl rfl (Nat.le_of_ble_eq_true rfl) (Nat.le_of_ble_eq_true rfl)) ?_
        refine SegP.run [] 400 ?_
        exact mfn hv (k := 2) (by decide) (by rw [sp_as, if_pos qq, cl_nI (by omega), if_neg l1, ep, cl_nI (by omega), if_neg (bq0 zu)])
      · exact mid hv (by rw [sp_as, if_pos qq, cl_nI (by omega), if_neg l1, ep, cl_nI (by omega), if_pos (bq1 zu)])
    · have l1 : V.1 12 x = -1 := Decidable.not_not.mp zp
      refine SegP.tr (Seg.cV (tX6_fd h g 5 (by decide) 5 (by decide) (-1000006) (by decide)) mlX6_51 iyX6_finding seX6_finding oyX6_finding rfl (by decide) rfl (by decide) (by decide) rfl rfl rfl rfl (Nat.le_of_ble_eq_true rfl) (Nat.le_of_ble_eq_true rfl)) ?_
      refine SegP.run [] 400 ?_
      exact mfn hv (k := 5) (by decide) (by rw [sp_as, if_pos qq, cl_nI (by omega), if_pos l1])
  · refine SegP.tr (Seg.cV (tX6_fd h g 0 (by decide) 0 (by decide) (-1000001) (by decide)) mlX6_51 iyX6_finding seX6_finding oyX6_finding rfl (by decide) rfl (by decide) (by decide) rfl rfl rfl rfl (Nat.le_of_ble_eq_true rfl) (Nat.le_of_ble_eq_true rfl)) ?_
    refine SegP.run [] 400 ?_
    exact mfn hv (k := 0) (by decide) (by rw [sp_as, if_neg (fun y => bn0 z1 y.2)])
def sp_image (V : aV)  : Int32 × aV := (1, (V.1, (true, V.1), V.2.2))
set_option maxRecDepth 100000 in
set_option maxHeartbeats 400000 in
theorem zC_image {V : aV} (hV : VOk V)  : CX mX5_image 11 [] V (sp_image V ) := by
  intro h g hv
  obtain ⟨v1, v2, v3, v4, v5, v6⟩ := id hv
  have ht := hV.1
  refine MX.of okX5_image (by decide +kernel) (Nat.le_of_ble_eq_true rfl) (by decide) rfl (by decide) ?_
  refine SegP.run [] 400 ?_
  refine SegP.cV (tX4_becomeAs_14_1 h g) mlX5_87 iyX4_becomeAs seX4_becomeAs oyX4_becomeAs rfl (by decide) rfl (by decide) (by decide) rfl rfl rfl rfl (Nat.le_of_ble_eq_true rfl) ?_
  rintro r h' g' ⟨rfl, rfl, e', f'⟩
  refine SegP.run [] 400 ?_
  refine And.intro (fun _ => Or.inr rfl) ?_
  refine SegP.ret ⟨rfl, ⟨?_, up2_s, fun _ => ?_, ?_, fun s hs => ?_, fun k hk => ?_⟩, fun a ha => ?_⟩
  · rw [tw_up (Or.inl (by decide))]; exact (tw_out fun j hj => f' _ (by omega)).trans v1
  · rw [tw_up (Or.inl (by decide)), e']; exact v1
  · rw [up2_row (show (27 : Nat) ≠ 0 by decide), up2_row (show (28 : Nat) ≠ 0 by decide), f' 27 (by decide), f' 28 (by decide)]; exact v4
  · rw [up2_row (show 54 + 2 * s ≠ 0 by omega), up2_row (show 55 + 2 * s ≠ 0 by omega), f' _ (by omega), f' _ (by omega)]; exact v5 s hs
  · rw [up2_row (show (62 : Nat) ≠ 0 by decide), f' 62 (by decide)]; exact v6 k hk
  · rw [up2_row (by omega)]; exact f' a (by omega)
set_option maxRecDepth 100000 in
set_option maxHeartbeats 400000 in
theorem zM_image {V : aV} (hV : VOk V)  : DX mX6_image 11 [] V (sp_image V ) := by
  intro h g hv
  obtain ⟨v1, v2, v3, v4, v5, v6⟩ := id hv
  have ht := hV.1
  refine MX.of okX6_image (by decide +kernel) (Nat.le_of_ble_eq_true rfl) (by decide) rfl (by decide) ?_
  refine SegP.run [] 400 ?_
  refine SegP.sX (tX6_carry_64_65 h g) mlX6_148 syX6_carry oyX6_carry rfl (by decide) rfl rfl rfl (Nat.le_of_ble_eq_true rfl) ?_
  rintro r h' g' ⟨rfl, e', f'⟩
  refine SegP.run [] 400 ?_
  refine And.intro (fun _ => Or.inr rfl) ?_
  refine SegP.ret ⟨rfl, ⟨?_, up2_s, fun _ => ?_, ?_, fun s hs => ?_, fun k hk => ?_⟩, fun a ha => ?_⟩
  · rw [tm_up (by decide)]; exact (tm_row' (f' 64 (by decide))).trans v1
  · rw [tm_up (by decide), e']; exact v1
  · rw [up2_k (show (6 : Nat) ≠ 3 by decide), up2_row (show (68 : Nat) ≠ 63 by decide), f' 63 (by decide), f' 68 (by decide)]; exact v4
  · rw [up2_row (show (72 : Nat) ≠ 63 by decide), up2_row (show (73 : Nat) ≠ 63 by decide), up2_row (show (74 : Nat) ≠ 63 by decide), f' 72 (by decide), f' 73 (by decide), f' 74 (by decide)]; exact v5 s hs
  · rw [up2_row (show (67 : Nat) ≠ 63 by decide), f' 67 (by decide)]; exact v6 k hk
  · rw [up2_row (by omega)]; exact f' a (by omega)
def sp_undo (V : aV)  : Int32 × aV := if V.2.1.1 = true then (V.2.1.2 0 0, tnV V V.2.1.2) else fnd V 3 (-1000004)
set_option maxRecDepth 100000 in
set_option maxHeartbeats 400000 in
theorem zC_undo {V : aV} (hV : VOk V)  : CX mX5_undo 11 [] V (sp_undo V ) := by
  intro h g hv
  obtain ⟨v1, v2, v3, v4, v5, v6⟩ := id hv
  have ht := hV.1
  refine MX.of okX5_undo (by decide +kernel) (Nat.le_of_ble_eq_true rfl) (by decide) rfl (by decide) ?_
  refine SegP.run [] 400 ?_
  refine And.intro (fun zs => ?_) (fun zs => ?_)
  · have hb : V.2.1.1 = true := by
      cases hb : V.2.1.1 with
      | true => rfl
      | false => rw [hb] at v2; exact absurd v2 zs
    have v3 := v3 hb
    refine SegP.cV (tX4_becomeAs_1_14 h g) mlX5_87 iyX4_becomeAs seX4_becomeAs oyX4_becomeAs rfl (by decide) rfl (by decide) (by decide) rfl rfl rfl rfl (Nat.le_of_ble_eq_true rfl) ?_
    rintro r h' g' ⟨rfl, rfl, e', f'⟩
    rw [v3] at e'
    refine SegP.run [] 400 ?_
    refine SegP.tr (Seg.ri (show h' 1 8 = V.2.1.2 0 0 from twT_0 e')) ?_
    have e : sp_undo V = (V.2.1.2 0 0, tnV V V.2.1.2) := by rw [sp_undo, if_pos hb]
    rw [e]
    exact SegP.ret ⟨rfl, hv.tn e' (fun a ha => f' a (by omega)), fun a ha => f' a (by omega)⟩
  · have hb : V.2.1.1 = false := by
      cases hb : V.2.1.1 with
      | false => rfl
      | true => rw [hb] at v2; exact absurd (Decidable.not_not.mp zs) (by rw [v2]; decide)
    refine SegP.tr (Seg.cV (tX5_refuse h g 3 (by decide) (-1000004) (by decide)) mlX5_64 iyX5_refuse seX5_refuse oyX5_refuse rfl (by decide) rfl (by decide) (by decide) rfl rfl rfl rfl (Nat.le_of_ble_eq_true rfl) (Nat.le_of_ble_eq_true rfl)) ?_
    refine SegP.run [] 400 ?_
    exact cfn hv (k := 3) (by decide) (by rw [sp_undo, if_neg (by rw [hb]; simp)])
set_option maxRecDepth 100000 in
set_option maxHeartbeats 400000 in
theorem zM_undo {V : aV} (hV : VOk V)  : DX mX6_undo 11 [] V (sp_undo V ) := by
  intro h g hv
  obtain ⟨v1, v2, v3, v4, v5, v6⟩ := id hv
  have ht := hV.1
  refine MX.of okX6_undo (by decide +kernel) (Nat.le_of_ble_eq_true rfl) (by decide) rfl (by decide) ?_
  refine SegP.run [] 400 ?_
  refine And.intro (fun zs => ?_) (fun zs => ?_)
  · have hb : V.2.1.1 = true := by
      cases hb : V.2.1.1 with
      | true => rfl
      | false => rw [hb] at v2; exact absurd v2 zs
    have v3 := v3 hb
    refine SegP.sX (tX6_carry_65_64 h g) mlX6_148 syX6_carry oyX6_carry rfl (by decide) rfl rfl rfl (Nat.le_of_ble_eq_true rfl) ?_
    rintro r h' g' ⟨rfl, e', f'⟩
    rw [v3] at e'
    have hv' : MV h' (tnV V V.2.1.2) := hv.tn e' (fun a ha => f' a (by omega)) (by rw [f' 63 (by decide)]) (by rw [f' 63 (by decide)])
    refine SegP.run [] 400 ?_
    refine And.intro (in10 (p := 0) (by decide) (by decide)) ?_
    refine SegP.tr (Seg.ri (show h' 64 0 = V.2.1.2 0 0 from (mR0 hv').1)) ?_
    have e : sp_undo V = (V.2.1.2 0 0, tnV V V.2.1.2) := by rw [sp_undo, if_pos hb]
    rw [e]
    exact SegP.ret ⟨rfl, hv', fun a ha => f' a (by omega)⟩
  · have hb : V.2.1.1 = false := by
      cases hb : V.2.1.1 with
      | false => rfl
      | true => rw [hb] at v2; exact absurd (Decidable.not_not.mp zs) (by rw [v2]; decide)
    refine SegP.tr (Seg.cV (tX6_fd h g 3 (by decide) 3 (by decide) (-1000004) (by decide)) mlX6_51 iyX6_finding seX6_finding oyX6_finding rfl (by decide) rfl (by decide) (by decide) rfl rfl rfl rfl (Nat.le_of_ble_eq_true rfl) (Nat.le_of_ble_eq_true rfl)) ?_
    refine SegP.run [] 400 ?_
    exact mfn hv (k := 3) (by decide) (by rw [sp_undo, if_neg (by rw [hb]; simp)])
def sp_tear (V : aV)  : Int32 × aV := (bB V.2.1.1, (V.1, (false, V.2.1.2), V.2.2))
set_option maxRecDepth 100000 in
set_option maxHeartbeats 400000 in
theorem zC_tear {V : aV} (hV : VOk V)  : CX mX5_tear 11 [] V (sp_tear V ) := by
  intro h g hv
  obtain ⟨v1, v2, v3, v4, v5, v6⟩ := id hv
  have ht := hV.1
  refine MX.of okX5_tear (by decide +kernel) (Nat.le_of_ble_eq_true rfl) (by decide) rfl (by decide) ?_
  refine SegP.run [] 400 ?_
  refine And.intro (fun zs => ?_) (fun zs => ?_)
  · have hb : V.2.1.1 = false := by
      cases hb : V.2.1.1 with
      | false => rfl
      | true => rw [hb] at v2; exact absurd (show bB true = 0 by rw [← v2]; exact zs) (by decide)
    refine And.intro (fun _ => Or.inl rfl) ?_
    refine SegP.ret ⟨by rw [show (sp_tear V).1 = bB V.2.1.1 from rfl, hb]; rfl, ⟨?_, up2_s, (fun y => by cases y), ?_, fun s hs => ?_, fun k hk => ?_⟩, fun a ha => up2_row (by omega)⟩
    · rw [tw_up (Or.inl (by decide))]; exact v1
    · rw [up2_row (show (27 : Nat) ≠ 0 by decide), up2_row (show (28 : Nat) ≠ 0 by decide)]; exact v4
    · rw [up2_row (show 54 + 2 * s ≠ 0 by omega), up2_row (show 55 + 2 * s ≠ 0 by omega)]; exact v5 s hs
    · rw [up2_row (show (62 : Nat) ≠ 0 by decide)]; exact v6 k hk
  · have hb : V.2.1.1 = true := by
      cases hb : V.2.1.1 with
      | true => rfl
      | false => rw [hb] at v2; exact absurd v2 zs
    refine And.intro (fun _ => Or.inl rfl) ?_
    refine SegP.ret ⟨by rw [show (sp_tear V).1 = bB V.2.1.1 from rfl, hb]; rfl, ⟨?_, up2_s, (fun y => by cases y), ?_, fun s hs => ?_, fun k hk => ?_⟩, fun a ha => up2_row (by omega)⟩
    · rw [tw_up (Or.inl (by decide))]; exact v1
    · rw [up2_row (show (27 : Nat) ≠ 0 by decide), up2_row (show (28 : Nat) ≠ 0 by decide)]; exact v4
    · rw [up2_row (show 54 + 2 * s ≠ 0 by omega), up2_row (show 55 + 2 * s ≠ 0 by omega)]; exact v5 s hs
    · rw [up2_row (show (62 : Nat) ≠ 0 by decide)]; exact v6 k hk
set_option maxRecDepth 100000 in
set_option maxHeartbeats 400000 in
theorem zM_tear {V : aV} (hV : VOk V)  : DX mX6_tear 11 [] V (sp_tear V ) := by
  intro h g hv
  obtain ⟨v1, v2, v3, v4, v5, v6⟩ := id hv
  have ht := hV.1
  refine MX.of okX6_tear (by decide +kernel) (Nat.le_of_ble_eq_true rfl) (by decide) rfl (by decide) ?_
  refine SegP.run [] 400 ?_
  refine And.intro (fun zs => ?_) (fun zs => ?_)
  · have hb : V.2.1.1 = false := by
      cases hb : V.2.1.1 with
      | false => rfl
      | true => rw [hb] at v2; exact absurd (show bB true = 0 by rw [← v2]; exact zs) (by decide)
    refine And.intro (fun _ => Or.inl rfl) ?_
    refine SegP.ret ⟨by rw [show (sp_tear V).1 = bB V.2.1.1 from rfl, hb]; rfl, ⟨?_, up2_s, (fun y => by cases y), ?_, fun s hs => ?_, fun k hk => ?_⟩, fun a ha => up2_row (by omega)⟩
    · rw [tm_up (by decide)]; exact v1
    · rw [up2_k (show (6 : Nat) ≠ 3 by decide), up2_row (show (68 : Nat) ≠ 63 by decide)]; exact v4
    · rw [up2_row (show (72 : Nat) ≠ 63 by decide), up2_row (show (73 : Nat) ≠ 63 by decide), up2_row (show (74 : Nat) ≠ 63 by decide)]; exact v5 s hs
    · rw [up2_row (show (67 : Nat) ≠ 63 by decide)]; exact v6 k hk
  · have hb : V.2.1.1 = true := by
      cases hb : V.2.1.1 with
      | true => rfl
      | false => rw [hb] at v2; exact absurd v2 zs
    refine And.intro (fun _ => Or.inl rfl) ?_
    refine SegP.ret ⟨by rw [show (sp_tear V).1 = bB V.2.1.1 from rfl, hb]; rfl, ⟨?_, up2_s, (fun y => by cases y), ?_, fun s hs => ?_, fun k hk => ?_⟩, fun a ha => up2_row (by omega)⟩
    · rw [tm_up (by decide)]; exact v1
    · rw [up2_k (show (6 : Nat) ≠ 3 by decide), up2_row (show (68 : Nat) ≠ 63 by decide)]; exact v4
    · rw [up2_row (show (72 : Nat) ≠ 63 by decide), up2_row (show (73 : Nat) ≠ 63 by decide), up2_row (show (74 : Nat) ≠ 63 by decide)]; exact v5 s hs
    · rw [up2_row (show (67 : Nat) ≠ 63 by decide)]; exact v6 k hk
theorem ftV {h : aH} {V : aV} (hv : MV h V) : MV (ftH h) V := by
  refine hv.fr (fun a ha => ?_) ?_ ?_
  · unfold ftH
    rw [ftU_o (by omega) (by omega), up2_row (by omega)]
  · unfold ftH
    rw [ftU_o (by decide) (by decide), up2_k (by decide)]
  · unfold ftH
    rw [ftU_o (by decide) (by decide), up2_k (by decide)]
theorem ftF {h : aH} : ∀ a, a < 63 → ftH h a = h a := fun a ha => by
  unfold ftH
  rw [ftU_o (by omega) (by omega), up2_row (by omega)]
def sp_count (V : aV) (w : Int32) : Int32 × aV := if w = 0 then (V.1 0 0, V) else if w = 1 then (V.1 0 1, V) else if w = 2 then (V.1 0 2, V) else if w = 3 then (nI V.2.2.1.1, V) else if w = 4 then (V.1 0 3, V) else if w = 5 then (wh V.1, V) else if w = 6 then (hldU V.1 10, V) else fnd V 0 (-1000001)
set_option maxRecDepth 100000 in
set_option maxHeartbeats 400000 in
theorem zC_count {V : aV} (hV : VOk V) (w : Int32) : CX mX5_count 11 [.int w] V (sp_count V w) := by
  intro h g hv
  obtain ⟨v1, v2, v3, v4, v5, v6⟩ := id hv
  have ht := hV.1
  refine MX.of okX5_count (by decide +kernel) (Nat.le_of_ble_eq_true rfl) (by decide) rfl (by decide) ?_
  refine SegP.run [] 400 ?_
  refine And.intro (fun k0 => ?_) (fun k0 => ?_)
  · exact cid hv (by rw [sp_count, if_pos (show w = 0 from k0), show h 1 8 = V.1 0 0 from (cR0 hv).1])
  refine And.intro (fun k1 => ?_) (fun k1 => ?_)
  · exact cid hv (by rw [sp_count, if_neg (show ¬ w = 0 from k0), if_pos (show w = 1 from k1), show h 1 12 = V.1 0 1 from (cR0 hv).2.1])
  refine And.intro (fun k2 => ?_) (fun k2 => ?_)
  · exact cid hv (by rw [sp_count, if_neg (show ¬ w = 0 from k0), if_neg (show ¬ w = 1 from k1), if_pos (show w = 2 from k2), show h 1 13 = V.1 0 2 from (cR0 hv).2.2.1])
  refine And.intro (fun k3 => ?_) (fun k3 => ?_)
  · exact cid hv (by rw [sp_count, if_neg (show ¬ w = 0 from k0), if_neg (show ¬ w = 1 from k1), if_neg (show ¬ w = 2 from k2), if_pos (show w = 3 from k3), v4.1])
  refine And.intro (fun k4 => ?_) (fun k4 => ?_)
  · exact cid hv (by rw [sp_count, if_neg (show ¬ w = 0 from k0), if_neg (show ¬ w = 1 from k1), if_neg (show ¬ w = 2 from k2), if_neg (show ¬ w = 3 from k3), if_pos (show w = 4 from k4), show h 1 14 = V.1 0 3 from (cR0 hv).2.2.2])
  refine And.intro (fun k5 => ?_) (fun k5 => ?_)
  · have hm := tX4_wholeWeight h g
    rw [v1] at hm
    refine SegP.tr (Seg.cV hm mlX5_242 iyX4_wholeWeight seX4_wholeWeight oyX4_wholeWeight rfl (by decide) rfl (by decide) (by decide) rfl rfl rfl rfl (Nat.le_of_ble_eq_true rfl) (Nat.le_of_ble_eq_true rfl)) ?_
    refine SegP.run [] 400 ?_
    exact cid hv (by rw [sp_count, if_neg (show ¬ w = 0 from k0), if_neg (show ¬ w = 1 from k1), if_neg (show ¬ w = 2 from k2), if_neg (show ¬ w = 3 from k3), if_neg (show ¬ w = 4 from k4), if_pos (show w = 5 from k5)])
  refine And.intro (fun k6 => ?_) (fun k6 => ?_)
  · have hm := tX4_heldSpots h g
    rw [v1] at hm
    refine SegP.tr (Seg.cV hm mlX5_303 iyX4_heldSpots seX4_heldSpots oyX4_heldSpots rfl (by decide) rfl (by decide) (by decide) rfl rfl rfl rfl (Nat.le_of_ble_eq_true rfl) (Nat.le_of_ble_eq_true rfl)) ?_
    refine SegP.run [] 400 ?_
    exact cid hv (by rw [sp_count, if_neg (show ¬ w = 0 from k0), if_neg (show ¬ w = 1 from k1), if_neg (show ¬ w = 2 from k2), if_neg (show ¬ w = 3 from k3), if_neg (show ¬ w = 4 from k4), if_neg (show ¬ w = 5 from k5), if_pos (show w = 6 from k6)])
  refine SegP.tr (Seg.cV (tX5_refuse h g 0 (by decide) (-1000001) (by decide)) mlX5_64 iyX5_refuse seX5_refuse oyX5_refuse rfl (by decide) rfl (by decide) (by decide) rfl rfl rfl rfl (Nat.le_of_ble_eq_true rfl) (Nat.le_of_ble_eq_true rfl)) ?_
  refine SegP.run [] 400 ?_
  exact cfn hv (k := 0) (by decide) (by rw [sp_count, if_neg (show ¬ w = 0 from k0), if_neg (show ¬ w = 1 from k1), if_neg (show ¬ w = 2 from k2), if_neg (show ¬ w = 3 from k3), if_neg (show ¬ w = 4 from k4), if_neg (show ¬ w = 5 from k5), if_neg (show ¬ w = 6 from k6)])
set_option maxRecDepth 100000 in
set_option maxHeartbeats 400000 in
theorem zM_count {V : aV} (hV : VOk V) (w : Int32) : DX mX6_count 11 [.int w] V (sp_count V w) := by
  intro h g hv
  obtain ⟨v1, v2, v3, v4, v5, v6⟩ := id hv
  have ht := hV.1
  refine MX.of okX6_count (by decide +kernel) (Nat.le_of_ble_eq_true rfl) (by decide) rfl (by decide) ?_
  refine SegP.run [90] 400 ?_
  refine And.intro (fun k0 => ?_) (fun k0 => ?_)
  · refine And.intro (in10 (p := 0) (by decide) (by decide)) ?_
    exact mid hv (by rw [sp_count, if_pos (show w = 0 from k0), show h 64 (0 : Int32).toNatClampNeg = V.1 0 0 from (mR0 hv).1])
  refine And.intro (fun k1 => ?_) (fun k1 => ?_)
  · refine And.intro (in10 (p := 1) (by decide) (by decide)) ?_
    exact mid hv (by rw [sp_count, if_neg (show ¬ w = 0 from k0), if_pos (show w = 1 from k1), show h 64 (1 : Int32).toNatClampNeg = V.1 0 1 from (mR0 hv).2.1])
  refine And.intro (fun k2 => ?_) (fun k2 => ?_)
  · refine And.intro (in10 (p := 2) (by decide) (by decide)) ?_
    exact mid hv (by rw [sp_count, if_neg (show ¬ w = 0 from k0), if_neg (show ¬ w = 1 from k1), if_pos (show w = 2 from k2), show h 64 (2 : Int32).toNatClampNeg = V.1 0 2 from (mR0 hv).2.2.1])
  refine And.intro (fun k3 => ?_) (fun k3 => ?_)
  · exact mid hv (by rw [sp_count, if_neg (show ¬ w = 0 from k0), if_neg (show ¬ w = 1 from k1), if_neg (show ¬ w = 2 from k2), if_pos (show w = 3 from k3), v4.1])
  refine And.intro (fun k4 => ?_) (fun k4 => ?_)
  · refine And.intro (in10 (p := 3) (by decide) (by decide)) ?_
    exact mid hv (by rw [sp_count, if_neg (show ¬ w = 0 from k0), if_neg (show ¬ w = 1 from k1), if_neg (show ¬ w = 2 from k2), if_neg (show ¬ w = 3 from k3), if_pos (show w = 4 from k4), show h 64 (3 : Int32).toNatClampNeg = V.1 0 3 from (mR0 hv).2.2.2])
  refine And.intro (fun k5 => ?_) (fun k5 => ?_)
  · have hm := tX6_findThrows h g (by rw [v1]; exact ht)
    refine SegP.tr (Seg.cV hm mlX6_218 iyX6_findThrows seX6_findThrows oyX6_findThrows rfl (by decide) rfl (by decide) (by decide) rfl rfl rfl rfl (Nat.le_of_ble_eq_true rfl) (Nat.le_of_ble_eq_true rfl)) ?_
    refine SegP.run [] 400 ?_
    have hf := FT_ft (h := h) (by rw [v1]; exact ht)
    rw [v1] at hf
    refine SegP.tr (Seg.ri (show ftH h 63 15 = wh V.1 from hf.2.2.1)) ?_
    have e : sp_count V w = (wh V.1, V) := by rw [sp_count, if_neg (show ¬ w = 0 from k0), if_neg (show ¬ w = 1 from k1), if_neg (show ¬ w = 2 from k2), if_neg (show ¬ w = 3 from k3), if_neg (show ¬ w = 4 from k4), if_pos (show w = 5 from k5)]
    rw [e]
    exact SegP.ret ⟨rfl, ftV hv, ftF⟩
  refine And.intro (fun k6 => ?_) (fun k6 => ?_)
  · refine SegP.tr (Seg.iter (fun i => (90, [some (.ref 63), some (.int w), some (.int (hldU V.1 i)), some (.int (nI i))], [], nW, h, g, ρ)) 10 (fun i hi => ?_)) ?_
    · have hin := in10 (p := 98 + i) (n := 108) (by omega) (by decide)
      have ci := cl10 (p := 98 + i) (by omega)
      have ei : h 64 (98 + i) = V.1 12 i := mT (j := 12) hv (show i < 10 by omega)
      refine Seg.run [90] 400 ?_
      refine And.intro (fun c => ?_) (fun c => ?_)
      · exact (lim_ge (N := 10) hi (by decide) c).elim
      refine And.intro (by rw [idx98]; exact hin) ?_
      rw [idx98, ci, ei]
      refine And.intro (fun d => ?_) (fun d => ?_)
      · exact Seg.of (by rw [hldU, if_neg (show ¬ V.1 12 i = -1 from d), nI_succ] <;> rfl)
      · exact Seg.of (by rw [hldU, if_pos (Decidable.not_not.mp d), nI_succ, Int32.add_zero] <;> rfl)
    · refine SegP.run [] 400 ?_
      refine And.intro (fun c => ?_) (fun c => ?_)
      · exact mid hv (by rw [sp_count, if_neg (show ¬ w = 0 from k0), if_neg (show ¬ w = 1 from k1), if_neg (show ¬ w = 2 from k2), if_neg (show ¬ w = 3 from k3), if_neg (show ¬ w = 4 from k4), if_neg (show ¬ w = 5 from k5), if_pos (show w = 6 from k6)])
      · exact (lim_le (N := 10) (Nat.le_refl _) (by decide) c).elim
  refine SegP.tr (Seg.cV (tX6_fd h g 0 (by decide) 0 (by decide) (-1000001) (by decide)) mlX6_51 iyX6_finding seX6_finding oyX6_finding rfl (by decide) rfl (by decide) (by decide) rfl rfl rfl rfl (Nat.le_of_ble_eq_true rfl) (Nat.le_of_ble_eq_true rfl)) ?_
  refine SegP.run [] 400 ?_
  exact mfn hv (k := 0) (by decide) (by rw [sp_count, if_neg (show ¬ w = 0 from k0), if_neg (show ¬ w = 1 from k1), if_neg (show ¬ w = 2 from k2), if_neg (show ¬ w = 3 from k3), if_neg (show ¬ w = 4 from k4), if_neg (show ¬ w = 5 from k5), if_neg (show ¬ w = 6 from k6)])
def sumF (f : Nat → Int32) : Nat → Int32
  | 0 => 0
  | k + 1 => sumF f k + f k
def stM (f : Nat → Int32) (w : Int32) : Nat → Int32
  | 0 => 0
  | k + 1 => stM f w k + (if w = -1 ∨ w = nI k then f k else 0)
theorem stM_s {f : Nat → Int32} : ∀ k, stM f (-1) k = sumF f k := by
  intro k
  induction k with
  | zero => rfl
  | succ k ih => simp only [stM, sumF, ih]; simp
theorem stM_w {f : Nat → Int32} {w : Nat} (hw : w < 7) : ∀ k, k ≤ 7 → stM f (nI w) k = if w < k then f w else 0 := by
  intro k
  induction k with
  | zero => intro _; simp [stM]
  | succ k ih =>
    intro hk
    simp only [stM]
    rw [ih (by omega)]
    have hn : ¬ nI w = -1 := fun y => by
      have := nI_pos' (n := w) (by omega)
      rw [y] at this
      exact absurd this (by decide)
    by_cases e : w = k
    · subst e
      rw [if_neg (Nat.lt_irrefl _), if_pos (Or.inr rfl), if_pos (Nat.lt_succ_self _), Int32.zero_add]
    · rw [if_neg (show ¬ (nI w = -1 ∨ nI w = nI k) from fun y => y.elim hn (fun z => e ((nI_eq (by omega) (by omega)).mp z))), Int32.add_zero]
      by_cases e2 : w < k
      · rw [if_pos e2, if_pos (by omega)]
      · rw [if_neg e2, if_neg (by omega)]
theorem lt_neg1 {w : Int32} (h : -1 ≤ w) : w = -1 ∨ 0 ≤ w := by
  have h1 := Int32.le_iff_toInt_le.mp h
  rw [show (-1 : Int32).toInt = -1 from rfl] at h1
  rcases Int.lt_or_le w.toInt 0 with y | y
  · refine Or.inl (Int32.toInt_inj.mp ?_)
    rw [show (-1 : Int32).toInt = -1 from rfl]
    omega
  · refine Or.inr (Int32.le_iff_toInt_le.mpr ?_)
    rw [show (0 : Int32).toInt = 0 from rfl]
    exact y
def sp_status (V : aV) (w : Int32) : Int32 × aV := if (-1 ≤ w ∧ w ≤ 6) then (stM V.2.2.2.2 w 7, V) else fnd V 0 (-1000001)
set_option maxRecDepth 100000 in
set_option maxHeartbeats 400000 in
theorem zC_status {V : aV} (hV : VOk V) (w : Int32) : CX mX5_status 11 [.int w] V (sp_status V w) := by
  intro h g hv
  obtain ⟨v1, v2, v3, v4, v5, v6⟩ := id hv
  have ht := hV.1
  refine MX.of okX5_status (by decide +kernel) (Nat.le_of_ble_eq_true rfl) (by decide) rfl (by decide) ?_
  refine SegP.run [] 400 ?_
  refine SegP.tr (Seg.cS ((tX5_isBetween w (-1) 6).ms h g) mlX5_59 syX5_isBetween oyX5_isBetween rfl (by decide) rfl rfl rfl (Nat.le_of_ble_eq_true rfl) (Nat.le_of_ble_eq_true rfl)) ?_
  refine SegP.run [32] 400 ?_
  refine And.intro (fun z0 => ?_) (fun z0 => ?_)
  · have q0 := bn1 z0
    refine And.intro (fun zn => ?_) (fun zn => ?_)
    · refine SegP.tr (Seg.iter (fun i => (32, [some (.ref 0), some (.int w), some (.int (sumF V.2.2.2.2 i)), some (.int (nI i))], [], nW, h, g, ρ)) 7 (fun i hi => ?_)) ?_
      · refine Seg.run [32] 400 ?_
        refine And.intro (fun c => ?_) (fun c => ?_)
        · exact (lim_ge (N := 7) hi (by decide) c).elim
        refine And.intro (in10 (p := i) (n := 7) hi (by decide)) ?_
        exact Seg.of (by rw [cl10 (p := i) (by omega), v6 i hi, sumF, nI_succ] <;> rfl)
      · refine SegP.run [] 400 ?_
        refine And.intro (fun c => ?_) (fun c => ?_)
        · have w1 : w = -1 := by
            rcases (show w = -1 ∨ 0 ≤ w from lt_neg1 q0.1) with y | y
            · exact y
            · exact absurd zn (Int32.not_lt.mpr y)
          subst w1
          exact cid hv (by rw [sp_status, if_pos q0, stM_s])
        · exact (lim_le (N := 7) (Nat.le_refl _) (by decide) c).elim
    · obtain ⟨x, hx, rfl⟩ := rng (a := 0) (b := 6) (v := w) (by decide) ⟨Int32.not_lt.mp zn, q0.2⟩ (by decide)
      refine And.intro (in10 (p := x) (n := 7) (by omega) (by decide)) ?_
      rw [cl10 (p := x) (by omega), v6 x (by omega)]
      exact cid hv (by rw [sp_status, if_pos q0, stM_w (by omega) 7 (by decide), if_pos (by omega)])
  · refine SegP.tr (Seg.cV (tX5_refuse h g 0 (by decide) (-1000001) (by decide)) mlX5_64 iyX5_refuse seX5_refuse oyX5_refuse rfl (by decide) rfl (by decide) (by decide) rfl rfl rfl rfl (Nat.le_of_ble_eq_true rfl) (Nat.le_of_ble_eq_true rfl)) ?_
    refine SegP.run [] 400 ?_
    exact cfn hv (k := 0) (by decide) (by rw [sp_status, if_neg (fun y => bn0 z0 y)])
set_option maxRecDepth 100000 in
set_option maxHeartbeats 400000 in
theorem zM_status {V : aV} (hV : VOk V) (w : Int32) : DX mX6_status 11 [.int w] V (sp_status V w) := by
  intro h g hv
  obtain ⟨v1, v2, v3, v4, v5, v6⟩ := id hv
  have ht := hV.1
  refine MX.of okX6_status (by decide +kernel) (Nat.le_of_ble_eq_true rfl) (by decide) rfl (by decide) ?_
  refine SegP.run [] 400 ?_
  refine SegP.tr (Seg.cS ((tX6_in w (-1) 6).ms h g) mlX6_47 syX6_in oyX6_in rfl (by decide) rfl rfl rfl (Nat.le_of_ble_eq_true rfl) (Nat.le_of_ble_eq_true rfl)) ?_
  refine SegP.run [20] 400 ?_
  refine And.intro (fun z0 => ?_) (fun z0 => ?_)
  · have q0 := bn1 z0
    refine SegP.tr (Seg.iter (fun i => (20, [some (.ref 63), some (.int w), some (.int (stM V.2.2.2.2 w i)), some (.int (nI i))], [], nW, h, g, ρ)) 7 (fun i hi => ?_)) ?_
    · have hin := in10 (p := i) (n := 7) hi (by decide)
      refine Seg.run [20] 400 ?_
      refine And.intro (fun c => ?_) (fun c => ?_)
      · exact (lim_ge (N := 7) hi (by decide) c).elim
      refine And.intro (fun d => ?_) (fun d => ?_)
      · refine And.intro hin ?_
        exact Seg.of (by rw [cl10 (p := i) (by omega), v6 i hi, stM, if_pos (Or.inl (show w = -1 from d)), nI_succ] <;> rfl)
      refine And.intro (fun d2 => ?_) (fun d2 => ?_)
      · exact Seg.of (by rw [stM, if_neg (fun y => y.elim d d2), nI_succ] <;> rfl)
      · refine And.intro hin ?_
        exact Seg.of (by rw [cl10 (p := i) (by omega), v6 i hi, stM, if_pos (Or.inr (Decidable.not_not.mp d2)), nI_succ] <;> rfl)
    · refine SegP.run [] 400 ?_
      refine And.intro (fun c => ?_) (fun c => ?_)
      · exact mid hv (by rw [sp_status, if_pos q0])
      · exact (lim_le (N := 7) (Nat.le_refl _) (by decide) c).elim
  · refine SegP.tr (Seg.cV (tX6_fd h g 0 (by decide) 0 (by decide) (-1000001) (by decide)) mlX6_51 iyX6_finding seX6_finding oyX6_finding rfl (by decide) rfl (by decide) (by decide) rfl rfl rfl rfl (Nat.le_of_ble_eq_true rfl) (Nat.le_of_ble_eq_true rfl)) ?_
    refine SegP.run [] 400 ?_
    exact mfn hv (k := 0) (by decide) (by rw [sp_status, if_neg (fun y => bn0 z0 y)])
