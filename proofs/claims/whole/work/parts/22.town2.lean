/-! ===== the class's town: looks, throws ===== -/
set_option maxRecDepth 100000 in
set_option maxHeartbeats 2000000 in
theorem tX4_owedOf (h : aH) (g : aG) (p : Nat) (hp : p < 10) (is : Bool) : MS mX4_owedOf 1 [.ref 1, .int (nI p), .int (bI (is = true))] h g [.int (owe1 (tw h 1) p is)] h g := by
  have e8 := tw_8 (h := h) hp
  have e3 := tw_3 (h := h) hp
  have cp := cl10 (p := p) (by omega)
  have hi := in10 hp (by decide)
  refine MS.of okX4_owedOf (by decide +kernel) (Nat.le_of_ble_eq_true rfl) (by decide) rfl (by decide) ?_
  refine Seg.run [] 400 ?_
  refine And.intro hi ?_
  rw [cp, ← e3]
  refine And.intro (fun k3 => ?_) (fun k3 => ?_)
  · have k3 : tw h 1 3 p = 3 := k3
    have ek : owe1 (tw h 1) p is = if is then tw h 1 8 p else 1 := by unfold owe1; rw [if_pos k3]
    refine And.intro (fun c => ?_) (fun c => ?_)
    · exact Seg.ri (by rw [ek, if_neg (bq0 c)])
    · exact And.intro hi (Seg.ri (by rw [ek, if_pos (bq1 c), cp, e8]))
  refine And.intro (fun k4 => ?_) (fun k4 => ?_)
  · have k4 : tw h 1 3 p = 4 := k4
    have ek : owe1 (tw h 1) p is = if is then tw h 1 8 p / 2 else 0 := by unfold owe1; rw [k4]; rfl
    refine And.intro (fun c => ?_) (fun c => ?_)
    · exact Seg.ri (by rw [ek, if_neg (bq0 c)])
    · exact And.intro hi (And.intro (by decide) (Seg.ri (by rw [ek, if_pos (bq1 c), cp, e8])))
  refine And.intro (fun k5 => ?_) (fun k5 => ?_)
  · have k5 : tw h 1 3 p = 5 := k5
    have ek : owe1 (tw h 1) p is = if is then tw h 1 8 p else 0 := by unfold owe1; rw [k5]; rfl
    refine And.intro (fun c => ?_) (fun c => ?_)
    · exact Seg.ri (by rw [ek, if_neg (bq0 c)])
    · exact And.intro hi (Seg.ri (by rw [ek, if_pos (bq1 c), cp, e8]))
  refine And.intro (fun k6 => ?_) (fun k6 => ?_)
  · have k6 : tw h 1 3 p = 6 := k6
    have ek : owe1 (tw h 1) p is = if is then 2 * tw h 1 8 p else 2 := by unfold owe1; rw [k6]; rfl
    refine And.intro (fun c => ?_) (fun c => ?_)
    · exact Seg.ri (by rw [ek, if_neg (bq0 c)])
    · exact And.intro hi (Seg.ri (by rw [ek, if_pos (bq1 c), cp, e8]))
  have ek : owe1 (tw h 1) p is = if is then tw h 1 8 p else 0 := by
    unfold owe1
    rw [if_neg (show ¬ tw h 1 3 p = 3 from k3), if_neg (show ¬ tw h 1 3 p = 6 from k6), if_neg (show ¬ tw h 1 3 p = 4 from k4)]
  refine And.intro (fun c => ?_) (fun c => ?_)
  · exact Seg.ri (by rw [ek, if_neg (bq0 c)])
  · exact And.intro hi (Seg.ri (by rw [ek, if_pos (bq1 c), cp, e8]))
set_option maxRecDepth 100000 in
set_option maxHeartbeats 2000000 in
theorem tX4_owedBy (h : aH) (g : aG) (ht : TOk (tw h 1)) (set kp : Int32) : MS mX4_owedBy 2 [.ref 1, .int set, .int kp] h g [.int (owed (tw h 1) set kp)] h g := by
  obtain ⟨hP, eP⟩ := ht.np
  rw [tw_00] at eP
  refine MS.of okX4_owedBy (by decide +kernel) (Nat.le_of_ble_eq_true rfl) (by decide) rfl (by decide) ?_
  refine Seg.run [5] 400 ?_
  refine Seg.tr (Seg.iter (fun i => (5, [some (.ref 1), some (.int set), some (.int kp), some (.int (oweU (tw h 1) set kp i)), some (.int (nI i))], [], nW, h, g, ρ)) (nP (tw h 1)) (fun i hi => ?_)) ?_
  · refine Seg.run [5] 400 ?_
    refine And.intro (fun c => ?_) (fun c => ?_)
    · rw [eP] at c
      exact absurd c (nI_ge hi (by omega))
    refine Seg.tr (Seg.cN ((tX5_has set (nI i)).ms h g) (by decide +kernel) syX5_has oyX5_has rfl (by decide) rfl rfl rfl (Nat.le_of_ble_eq_true rfl) (Nat.le_of_ble_eq_true rfl)) ?_
    refine Seg.run [5] 400 ?_
    refine And.intro (fun d => ?_) (fun d => ?_)
    · exact Seg.of (by rw [oweU, if_neg (bq0 d), nI_succ] <;> rfl)
    refine Seg.tr (Seg.cN ((tX5_has kp (nI i)).ms h g) (by decide +kernel) syX5_has oyX5_has rfl (by decide) rfl rfl rfl (Nat.le_of_ble_eq_true rfl) (Nat.le_of_ble_eq_true rfl)) ?_
    refine Seg.tr (Seg.cV (tX4_owedOf h g i (by omega) (hsB kp (nI i))) mlX4_80 iyX4_owedOf seX4_owedOf oyX4_owedOf rfl (by decide) rfl (by decide) (by decide) rfl rfl rfl rfl (Nat.le_of_ble_eq_true rfl) (Nat.le_of_ble_eq_true rfl)) ?_
    refine Seg.run [5] 400 ?_
    exact Seg.of (by rw [oweU, if_pos (bq1 d), nI_succ] <;> rfl)
  · refine Seg.run [] 400 ?_
    refine And.intro (fun c => ?_) (fun c => ?_)
    · exact Seg.rf
    · rw [eP] at c
      exact absurd (nI_le (Nat.le_refl _) (by omega)) c
set_option maxRecDepth 100000 in
set_option maxHeartbeats 2000000 in
theorem tX4_broughtBy (h : aH) (g : aG) (ht : TOk (tw h 1)) (set thing : Int32) : MS mX4_broughtBy 2 [.ref 1, .int set, .int thing] h g [.int (brg (tw h 1) set thing)] h g := by
  obtain ⟨hP, eP⟩ := ht.np
  rw [tw_00] at eP
  refine MS.of okX4_broughtBy (by decide +kernel) (Nat.le_of_ble_eq_true rfl) (by decide) rfl (by decide) ?_
  refine Seg.run [5] 400 ?_
  refine Seg.tr (Seg.iter (fun i => (5, [some (.ref 1), some (.int set), some (.int thing), some (.int (brgU (tw h 1) set thing i)), some (.int (nI i))], [], nW, h, g, ρ)) (nP (tw h 1)) (fun i hi => ?_)) ?_
  · have hi10 : i < 10 := by omega
    have e6 := tw_6 (h := h) hi10
    have e7 := tw_7 (h := h) hi10
    have ci := cl10 (p := i) (by omega)
    refine Seg.run [5] 400 ?_
    refine And.intro (fun c => ?_) (fun c => ?_)
    · rw [eP] at c
      exact absurd c (nI_ge hi (by omega))
    refine Seg.tr (Seg.cN ((tX5_has set (nI i)).ms h g) (by decide +kernel) syX5_has oyX5_has rfl (by decide) rfl rfl rfl (Nat.le_of_ble_eq_true rfl) (Nat.le_of_ble_eq_true rfl)) ?_
    refine Seg.run [5] 400 ?_
    refine And.intro (fun d => ?_) (fun d => ?_)
    · exact Seg.of (by rw [brgU, if_neg (fun z => bq0 d z.1), nI_succ] <;> rfl)
    refine And.intro (in10 hi10 (by decide)) ?_
    rw [ci, ← e6]
    refine And.intro (fun f => ?_) (fun f => ?_)
    · exact Seg.of (by rw [brgU, if_neg (fun z => f z.2), nI_succ] <;> rfl)
    refine And.intro (in10 hi10 (by decide)) ?_
    rw [ci, ← e7]
    exact Seg.of (by rw [brgU, if_pos ⟨bq1 d, Decidable.not_not.mp f⟩, nI_succ] <;> rfl)
  · refine Seg.run [] 400 ?_
    refine And.intro (fun c => ?_) (fun c => ?_)
    · exact Seg.rf
    · rw [eP] at c
      exact absurd (nI_le (Nat.le_refl _) (by omega)) c
set_option maxRecDepth 100000 in
set_option maxHeartbeats 2000000 in
theorem tX4_isMet (h : aH) (g : aG) (ht : TOk (tw h 1)) (k : Nat) (hk : k < 6) (set : Int32) : MS mX4_isMet 3 [.ref 1, .int (nI k), .int set] h g [.int (bI (metB (tw h 1) k set = true))] h g := by
  have e9 := tw_9 (h := h) hk
  have e10 := tw_10 (h := h) hk
  have cp := cl10 (p := k) (by omega)
  refine MS.of okX4_isMet (by decide +kernel) (Nat.le_of_ble_eq_true rfl) (by decide) rfl (by decide) ?_
  refine Seg.run [] 400 ?_
  refine And.intro (in10 hk (by decide)) ?_
  rw [cp, ← e9]
  refine Seg.tr (Seg.cV (tX4_broughtBy h g ht set (tw h 1 9 k)) mlX4_84 iyX4_broughtBy seX4_broughtBy oyX4_broughtBy rfl (by decide) rfl (by decide) (by decide) rfl rfl rfl rfl (Nat.le_of_ble_eq_true rfl) (Nat.le_of_ble_eq_true rfl)) ?_
  refine Seg.run [] 400 ?_
  refine And.intro (in10 hk (by decide)) ?_
  rw [cp, ← e10]
  refine And.intro (fun c => ?_) (fun c => ?_)
  · exact And.intro (Or.inl rfl) (Seg.ri (bI_0 (fun z => nlt c (of_decide_eq_true z))))
  · exact And.intro (Or.inr rfl) (Seg.ri (bI_1 (decide_eq_true (nle c))))
set_option maxRecDepth 100000 in
set_option maxHeartbeats 2000000 in
theorem tX4_needsMetBy (h : aH) (g : aG) (ht : TOk (tw h 1)) (set : Int32) : MS mX4_needsMetBy 4 [.ref 1, .int set] h g [.int (metI (tw h 1) set)] h g := by
  obtain ⟨hN, eN⟩ := ht.nn
  rw [tw_01] at eN
  refine MS.of okX4_needsMetBy (by decide +kernel) (Nat.le_of_ble_eq_true rfl) (by decide) rfl (by decide) ?_
  refine Seg.run [4] 400 ?_
  refine Seg.tr (Seg.iter (fun i => (4, [some (.ref 1), some (.int set), some (.int (metU (tw h 1) set i)), some (.int (nI i))], [], nW, h, g, ρ)) (nN (tw h 1)) (fun i hi => ?_)) ?_
  · refine Seg.run [4] 400 ?_
    refine And.intro (fun c => ?_) (fun c => ?_)
    · rw [eN] at c
      exact absurd c (nI_ge hi (by omega))
    refine Seg.tr (Seg.cV (tX4_isMet h g ht i (by omega) set) mlX4_88 iyX4_isMet seX4_isMet oyX4_isMet rfl (by decide) rfl (by decide) (by decide) rfl rfl rfl rfl (Nat.le_of_ble_eq_true rfl) (Nat.le_of_ble_eq_true rfl)) ?_
    refine Seg.run [4] 400 ?_
    refine And.intro (fun d => ?_) (fun d => ?_)
    · exact Seg.of (by rw [metU, if_neg (bq0 d), nI_succ] <;> rfl)
    · exact Seg.of (by rw [metU, if_pos (bq1 d), nI_succ] <;> rfl)
  · refine Seg.run [] 400 ?_
    refine And.intro (fun c => ?_) (fun c => ?_)
    · exact Seg.rf
    · rw [eN] at c
      exact absurd (nI_le (Nat.le_refl _) (by omega)) c
set_option maxRecDepth 100000 in
set_option maxHeartbeats 2000000 in
theorem tX4_worthMetBy (h : aH) (g : aG) (ht : TOk (tw h 1)) (set : Int32) : MS mX4_worthMetBy 4 [.ref 1, .int set] h g [.int (wrt (tw h 1) set)] h g := by
  obtain ⟨hN, eN⟩ := ht.nn
  rw [tw_01] at eN
  refine MS.of okX4_worthMetBy (by decide +kernel) (Nat.le_of_ble_eq_true rfl) (by decide) rfl (by decide) ?_
  refine Seg.run [4] 400 ?_
  refine Seg.tr (Seg.iter (fun i => (4, [some (.ref 1), some (.int set), some (.int (wrtU (tw h 1) set i)), some (.int (nI i))], [], nW, h, g, ρ)) (nN (tw h 1)) (fun i hi => ?_)) ?_
  · have hi6 : i < 6 := by omega
    have e11 := tw_11 (h := h) hi6
    have ci := cl10 (p := i) (by omega)
    refine Seg.run [4] 400 ?_
    refine And.intro (fun c => ?_) (fun c => ?_)
    · rw [eN] at c
      exact absurd c (nI_ge hi (by omega))
    refine Seg.tr (Seg.cV (tX4_isMet h g ht i (by omega) set) mlX4_88 iyX4_isMet seX4_isMet oyX4_isMet rfl (by decide) rfl (by decide) (by decide) rfl rfl rfl rfl (Nat.le_of_ble_eq_true rfl) (Nat.le_of_ble_eq_true rfl)) ?_
    refine Seg.run [4] 400 ?_
    refine And.intro (fun d => ?_) (fun d => ?_)
    · exact Seg.of (by rw [wrtU, if_neg (bq0 d), nI_succ] <;> rfl)
    refine And.intro (in10 hi6 (by decide)) ?_
    rw [ci, ← e11]
    exact Seg.of (by rw [wrtU, if_pos (bq1 d), nI_succ] <;> rfl)
  · refine Seg.run [] 400 ?_
    refine And.intro (fun c => ?_) (fun c => ?_)
    · exact Seg.rf
    · rw [eN] at c
      exact absurd (nI_le (Nat.le_refl _) (by omega)) c
set_option maxRecDepth 100000 in
set_option maxHeartbeats 2000000 in
theorem tX4_drawNext (h : aH) (g : aG) : MS mX4_drawNext 1 [.ref 1] h g [.int (jush (dz (h 1 14)) 8)] (up2 h 1 14 (dz (h 1 14))) g := by
  refine MS.of okX4_drawNext (by decide +kernel) (Nat.le_of_ble_eq_true rfl) (by decide) rfl (by decide) ?_
  refine Seg.run [] 400 ?_
  refine And.intro (fun z => by cases z) ?_
  exact Seg.rf
theorem TOk.b0 {T : aH} (h : TOk T) {c : Nat} (hc : c < 8) : 0 < T 2 c ∧ T 2 c ≠ 0 := by
  obtain ⟨a, b, -, h1, h2, -, h3⟩ := h.2.2.2.1 c hc
  rw [h3]
  have : 0 < nI b := by rw [← nI_0]; exact nI_lt (by omega) (by omega)
  exact ⟨this, fun z => by rw [z] at this; exact absurd this (by decide)⟩
set_option maxRecDepth 100000 in
set_option maxHeartbeats 2000000 in
theorem tX4_tossCoins (h : aH) (g : aG) (ht : TOk (tw h 1)) : MS mX4_tossCoins 2 [.ref 1] h g [.int (tsU (tw h 1) (h 1 14) 8)] (up2 h 1 14 (dzU (h 1 14) 8)) g := by
  refine MS.of okX4_tossCoins (by decide +kernel) (Nat.le_of_ble_eq_true rfl) (by decide) rfl (by decide) ?_
  refine Seg.run [4] 400 ?_
  refine Seg.tr (b := (4, [some (.ref 1), some (.int (tsU (tw h 1) (h 1 14) 0)), some (.int (nI 0)), none], [], nW, up2 h 1 14 (dzU (h 1 14) 0), g, ρ)) (Seg.of (by rw [dzU, up2_same] <;> rfl)) ?_
  refine Seg.tr (Seg.iter (fun i => (4, [some (.ref 1), some (.int (tsU (tw h 1) (h 1 14) i)), some (.int (nI i)), none], [], nW, up2 h 1 14 (dzU (h 1 14) i), g, ρ)) 8 (fun i hi => ?_)) ?_
  · have e1 : tw h 1 1 i = up2 h 1 14 (dzU (h 1 14) (i + 1)) 2 i := tw_1 (h := h) hi
    have e2 : tw h 1 2 i = up2 h 1 14 (dzU (h 1 14) (i + 1)) 3 i := tw_2 (h := h) hi
    have ci := cl10 (p := i) (by omega)
    have hb := ht.b0 hi
    have hd := tX4_drawNext (up2 h 1 14 (dzU (h 1 14) i)) g
    rw [up2_s, up2_up2] at hd
    refine Seg.run [4] 400 ?_
    refine And.intro (fun c => ?_) (fun c => ?_)
    · exact (lim_ge (N := 8) hi (by decide) c).elim
    refine Seg.tr (Seg.cV hd mlX4_68 iyX4_drawNext seX4_drawNext oyX4_drawNext rfl (by decide) rfl (by decide) (by decide) rfl rfl rfl rfl (Nat.le_of_ble_eq_true rfl) (Nat.le_of_ble_eq_true rfl)) ?_
    refine Seg.run [4] 400 ?_
    refine And.intro (in10 hi (by decide)) ?_
    rw [ci, show dz (dzU (h 1 14) i) = dzU (h 1 14) (i + 1) from rfl, ← e2]
    refine And.intro (fun d => ?_) (fun d => ?_)
    · exact absurd hb.1 (fun z => nlt z d)
    refine And.intro (in10 hi (by decide)) ?_
    rw [ci, ← e2]
    refine And.intro hb.2 ?_
    refine And.intro (in10 hi (by decide)) ?_
    rw [ci, ← e1]
    refine And.intro (fun f => ?_) (fun f => ?_)
    · refine Seg.tr (Seg.fg 3) ?_
      exact Seg.of (by rw [tsU, if_neg (fun z => nlt z f), nI_succ] <;> rfl)
    · refine Seg.tr (Seg.fg 3) ?_
      exact Seg.of (by rw [tsU, if_pos (Int32.not_le.mp f), nI_succ] <;> rfl)
  · refine Seg.run [] 400 ?_
    refine And.intro (fun c => ?_) (fun c => ?_)
    · exact Seg.rf
    · exact (lim_le (N := 8) (Nat.le_refl _) (by decide) c).elim
set_option maxRecDepth 100000 in
set_option maxHeartbeats 2000000 in
theorem tX4_weightOf (h : aH) (g : aG) (heads : Int32) : MS mX4_weightOf 2 [.ref 1, .int heads] h g [.int (wg (tw h 1) heads)] h g := by
  refine MS.of okX4_weightOf (by decide +kernel) (Nat.le_of_ble_eq_true rfl) (by decide) rfl (by decide) ?_
  refine Seg.run [4] 400 ?_
  refine Seg.tr (Seg.iter (fun i => (4, [some (.ref 1), some (.int heads), some (.int (wgU (tw h 1) heads i)), some (.int (nI i))], [], nW, h, g, ρ)) 8 (fun i hi => ?_)) ?_
  · have e1 := tw_1 (h := h) hi
    have e2 := tw_2 (h := h) hi
    have ci := cl10 (p := i) (by omega)
    refine Seg.run [4] 400 ?_
    refine And.intro (fun c => ?_) (fun c => ?_)
    · exact (lim_ge (N := 8) hi (by decide) c).elim
    refine Seg.tr (Seg.cN ((tX5_has heads (nI i)).ms h g) (by decide +kernel) syX5_has oyX5_has rfl (by decide) rfl rfl rfl (Nat.le_of_ble_eq_true rfl) (Nat.le_of_ble_eq_true rfl)) ?_
    refine Seg.run [4] 400 ?_
    refine And.intro (fun d => ?_) (fun d => ?_)
    · refine And.intro (in10 hi (by decide)) ?_
      refine And.intro (in10 hi (by decide)) ?_
      rw [ci, ← e1, ← e2]
      exact Seg.of (by rw [wgU, if_neg (bq0 d), nI_succ] <;> rfl)
    · refine And.intro (in10 hi (by decide)) ?_
      rw [ci, ← e1]
      exact Seg.of (by rw [wgU, if_pos (bq1 d), nI_succ] <;> rfl)
  · refine Seg.run [] 400 ?_
    refine And.intro (fun c => ?_) (fun c => ?_)
    · exact Seg.rf
    · exact (lim_le (N := 8) (Nat.le_refl _) (by decide) c).elim
set_option maxRecDepth 100000 in
set_option maxHeartbeats 2000000 in
theorem tX4_wholeWeight (h : aH) (g : aG) : MS mX4_wholeWeight 1 [.ref 1] h g [.int (wh (tw h 1))] h g := by
  refine MS.of okX4_wholeWeight (by decide +kernel) (Nat.le_of_ble_eq_true rfl) (by decide) rfl (by decide) ?_
  refine Seg.run [4] 400 ?_
  refine Seg.tr (Seg.iter (fun i => (4, [some (.ref 1), some (.int (whU (tw h 1) i)), some (.int (nI i))], [], nW, h, g, ρ)) 8 (fun i hi => ?_)) ?_
  · have e2 := tw_2 (h := h) hi
    have ci := cl10 (p := i) (by omega)
    refine Seg.run [4] 400 ?_
    refine And.intro (fun c => ?_) (fun c => ?_)
    · exact (lim_ge (N := 8) hi (by decide) c).elim
    refine And.intro (in10 hi (by decide)) ?_
    rw [ci, ← e2]
    exact Seg.of (by rw [whU, nI_succ] <;> rfl)
  · refine Seg.run [] 400 ?_
    refine And.intro (fun c => ?_) (fun c => ?_)
    · exact Seg.rf
    · exact (lim_le (N := 8) (Nat.le_refl _) (by decide) c).elim
set_option maxRecDepth 100000 in
set_option maxHeartbeats 2000000 in
theorem tX4_heldSpots (h : aH) (g : aG) : MS mX4_heldSpots 1 [.ref 1] h g [.int (hldU (tw h 1) 10)] h g := by
  refine MS.of okX4_heldSpots (by decide +kernel) (Nat.le_of_ble_eq_true rfl) (by decide) rfl (by decide) ?_
  refine Seg.run [4] 400 ?_
  refine Seg.tr (Seg.iter (fun i => (4, [some (.ref 1), some (.int (hldU (tw h 1) i)), some (.int (nI i))], [], nW, h, g, ρ)) 10 (fun i hi => ?_)) ?_
  · have e2 := tw_12 (h := h) hi
    have ci := cl10 (p := i) (by omega)
    refine Seg.run [4] 400 ?_
    refine And.intro (fun c => ?_) (fun c => ?_)
    · exact (lim_ge (N := 10) hi (by decide) c).elim
    refine And.intro (in10 hi (by decide)) ?_
    rw [ci, ← e2]
    refine And.intro (fun d => ?_) (fun d => ?_)
    · exact Seg.of (by rw [hldU, if_pos (show tw h 1 12 i = -1 from d), nI_succ] <;> rfl)
    · exact Seg.of (by rw [hldU, if_neg (show ¬ tw h 1 12 i = -1 from d), nI_succ] <;> rfl)
  · refine Seg.run [] 400 ?_
    refine And.intro (fun c => ?_) (fun c => ?_)
    · exact Seg.rf
    · exact (lim_le (N := 10) (Nat.le_refl _) (by decide) c).elim
set_option maxRecDepth 100000 in
set_option maxHeartbeats 2000000 in
theorem tX4_partOf (h : aH) (g : aG) (p w : Nat) (hp : p < 10) (hw : w < 6) : MS mX4_partOf 1 [.ref 1, .int (nI p), .int (nI w)] h g [.int (tw h 1 (3 + w) p)] h g := by
  have cp := cl10 (p := p) (by omega)
  have hi := in10 hp (by decide)
  have ex : ∀ {a : Nat}, nI w = nI a → a < 6 → w = a := fun z ha => (nI_eq (by omega) (by omega)).mp z
  refine MS.of okX4_partOf (by decide +kernel) (Nat.le_of_ble_eq_true rfl) (by decide) rfl (by decide) ?_
  refine Seg.run [] 400 ?_
  refine And.intro (fun k0 => ?_) (fun k0 => ?_)
  · obtain rfl := ex (a := 0) k0 (by decide)
    exact And.intro hi (Seg.ri (by rw [cp, tw_3 hp]))
  refine And.intro (fun k1 => ?_) (fun k1 => ?_)
  · obtain rfl := ex (a := 1) k1 (by decide)
    exact And.intro hi (Seg.ri (by rw [cp, tw_4 hp]))
  refine And.intro (fun k2 => ?_) (fun k2 => ?_)
  · obtain rfl := ex (a := 2) k2 (by decide)
    exact And.intro hi (Seg.ri (by rw [cp, tw_5 hp]))
  refine And.intro (fun k3 => ?_) (fun k3 => ?_)
  · obtain rfl := ex (a := 3) k3 (by decide)
    exact And.intro hi (Seg.ri (by rw [cp, tw_6 hp]))
  refine And.intro (fun k4 => ?_) (fun k4 => ?_)
  · obtain rfl := ex (a := 4) k4 (by decide)
    exact And.intro hi (Seg.ri (by rw [cp, tw_7 hp]))
  have : w = 5 := by
    rcases (show w = 0 ∨ w = 1 ∨ w = 2 ∨ w = 3 ∨ w = 4 ∨ w = 5 by omega) with rfl | rfl | rfl | rfl | rfl | rfl
    · exact absurd rfl k0
    · exact absurd rfl k1
    · exact absurd rfl k2
    · exact absurd rfl k3
    · exact absurd rfl k4
    · rfl
  subst this
  exact And.intro hi (Seg.ri (by rw [cp, tw_8 hp]))
