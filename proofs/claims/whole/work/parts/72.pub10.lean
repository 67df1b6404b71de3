/-! ===== public methods: numbers written, copied, loaded, judged; printed by wip/whole/gen72.py ===== -/
def sp_write (V : aV) (s i v : Int32) : Int32 × aV := if (0 ≤ s ∧ s ≤ 3) then (if (V.2.2.2.1 (cl s)).1 = 0 then fnd V 5 (-1000006) else if (0 ≤ i ∧ i < nI (V.2.2.2.1 (cl s)).2.1) then (1, shV V (cl s) ((V.2.2.2.1 (cl s)).1, (V.2.2.2.1 (cl s)).2.1, fun j => if j = cl i then cutB (V.2.2.2.1 (cl s)).1 v else (V.2.2.2.1 (cl s)).2.2 j)) else fnd V 0 (-1000001)) else fnd V 0 (-1000001)
set_option maxRecDepth 100000 in
set_option maxHeartbeats 400000 in
theorem zC_write {V : aV} (hV : VOk V) (s i v : Int32) : CX mX5_write 11 [.int s, .int i, .int v] V (sp_write V s i v) := by
  intro h g hv
  obtain ⟨v1, v2, v3, v4, v5, v6⟩ := id hv
  have ht := hV.1
  refine MX.of okX5_write (by decide +kernel) (Nat.le_of_ble_eq_true rfl) (by decide) rfl (by decide) ?_
  refine SegP.run [] 400 ?_
  refine SegP.tr (Seg.cS ((tX5_isSheet s).ms h g) mlX5_265 syX5_isSheet oyX5_isSheet rfl (by decide) rfl rfl rfl (Nat.le_of_ble_eq_true rfl) (Nat.le_of_ble_eq_true rfl)) ?_
  refine SegP.run [] 400 ?_
  refine And.intro (fun z0 => ?_) (fun z0 => ?_)
  · have q0 := bn1 z0
    obtain ⟨x, hx, rfl⟩ := rng (a := 0) (b := 3) (by decide) (show nI 0 ≤ s ∧ s ≤ nI 3 from q0) (by decide)
    refine And.intro (in10 (p := x) (n := 4) (by omega) (by decide)) ?_
    rw [cl10 (p := x) (by omega)]
    rcases (show x = 0 ∨ x = 1 ∨ x = 2 ∨ x = 3 by omega) with rfl | rfl | rfl | rfl
    · have v5s := v5 0 (by decide)
      have hs := hV.2.2.2 0 (by decide)
      have eb : bI (h 54 1 = 0) = bI ((V.2.2.2.1 0).1 = 0) := bI_iff (by rw [show h 54 1 = nI (V.2.2.2.1 0).1 from v5s.1]; exact nI_eq (b := 0) (by omega) (by decide))
      refine SegP.tr (Seg.cV (tX2_isMissing_54 h g) mlX5_275 iyX2_isMissing seX2_isMissing oyX2_isMissing rfl (by decide) rfl (by decide) (by decide) rfl rfl rfl rfl (Nat.le_of_ble_eq_true rfl) (Nat.le_of_ble_eq_true rfl)) ?_
      refine SegP.run [] 400 ?_
      rw [eb]
      refine And.intro (fun zm => ?_) (fun zm => ?_)
      · have nm := bq0 zm
        refine And.intro (in10 (p := 0) (n := 4) (by decide) (by decide)) ?_
        rw [cl10 (p := 0) (by decide)]
        refine SegP.tr (Seg.of (b := (47, [some (.ref 0), some (.int (nI 0)), some (.int i), some (.int v)], [.int (nI (V.2.2.2.1 0).2.1 - 1), .int 0, .int i], nW, h, g, ρ)) (by rw [← show h 54 2 = nI (V.2.2.2.1 0).2.1 from v5s.2.1] <;> rfl)) ?_
        refine SegP.tr (Seg.cS ((tX5_isBetween i 0 (nI (V.2.2.2.1 0).2.1 - 1)).ms h g) mlX5_59 syX5_isBetween oyX5_isBetween rfl (by decide) rfl rfl rfl (Nat.le_of_ble_eq_true rfl) (Nat.le_of_ble_eq_true rfl)) ?_
        refine SegP.run [] 400 ?_
        refine And.intro (fun zi => ?_) (fun zi => ?_)
        · have wi := (in_lt (by omega) rfl).mp (bn1 zi)
          obtain ⟨i', hi, rfl⟩ := nI_of (x := i) (fun z => Int32.not_le.mpr z wi.1)
          have hi2 := (nI_ltI hi (by omega)).mp wi.2
          refine And.intro (in10 (p := 0) (n := 4) (by decide) (by decide)) ?_
          rw [cl10 (p := 0) (by decide)]
          refine SegP.tr (Seg.cV (tX2_put_54 h g (V.2.2.2.1 0).1 (V.2.2.2.1 0).2.1 i' hs.2.1 (by omega) hi2 v5s.1 v5s.2.1 v) mlX5_279 iyX2_put seX2_put oyX2_put rfl (by decide) rfl (by decide) (by decide) rfl rfl rfl rfl (Nat.le_of_ble_eq_true rfl) (Nat.le_of_ble_eq_true rfl)) ?_
          refine SegP.run [] 400 ?_
          have e : sp_write V (nI 0) (nI i') v = (1, shV V 0 ((V.2.2.2.1 0).1, (V.2.2.2.1 0).2.1, fun j => if j = i' then cutB (V.2.2.2.1 0).1 v else (V.2.2.2.1 0).2.2 j)) := by rw [sp_write, if_pos q0, cl_nI (n := 0) (by decide), if_neg nm, if_pos wi, cl_nI (by omega)]
          rw [e]
          exact SegP.ret ⟨rfl, hv.sh (s := 0) (by decide) v5s.1 v5s.2.1 (fun j hj => by
            by_cases y : j = i'
            · subst y; rw [show (55 + 2 * 0 : Nat) = 54 + 1 from rfl, up2_s]; simp
            · rw [show (55 + 2 * 0 : Nat) = 54 + 1 from rfl, up2_k y, v5s.2.2 j hj]; simp [y]) (fun a h1 h2 => up2_row h2), fun a ha => up2_row (by omega)⟩
        · refine SegP.tr (Seg.cV (tX5_refuse h g 0 (by decide) (-1000001) (by decide)) mlX5_64 iyX5_refuse seX5_refuse oyX5_refuse rfl (by decide) rfl (by decide) (by decide) rfl rfl rfl rfl (Nat.le_of_ble_eq_true rfl) (Nat.le_of_ble_eq_true rfl)) ?_
          refine SegP.run [] 400 ?_
          exact cfn hv (k := 0) (by decide) (by rw [sp_write, if_pos q0, cl_nI (n := 0) (by decide), if_neg nm, if_neg (fun y => bn0 zi ((in_lt (by omega) rfl).mpr y))])
      · refine SegP.tr (Seg.cV (tX5_refuse h g 5 (by decide) (-1000006) (by decide)) mlX5_64 iyX5_refuse seX5_refuse oyX5_refuse rfl (by decide) rfl (by decide) (by decide) rfl rfl rfl rfl (Nat.le_of_ble_eq_true rfl) (Nat.le_of_ble_eq_true rfl)) ?_
        refine SegP.run [] 400 ?_
        exact cfn hv (k := 5) (by decide) (by rw [sp_write, if_pos q0, cl_nI (n := 0) (by decide), if_pos (bq1 zm)])
    · have v5s := v5 1 (by decide)
      have hs := hV.2.2.2 1 (by decide)
      have eb : bI (h 56 1 = 0) = bI ((V.2.2.2.1 1).1 = 0) := bI_iff (by rw [show h 56 1 = nI (V.2.2.2.1 1).1 from v5s.1]; exact nI_eq (b := 0) (by omega) (by decide))
      refine SegP.tr (Seg.cV (tX2_isMissing_56 h g) mlX5_275 iyX2_isMissing seX2_isMissing oyX2_isMissing rfl (by decide) rfl (by decide) (by decide) rfl rfl rfl rfl (Nat.le_of_ble_eq_true rfl) (Nat.le_of_ble_eq_true rfl)) ?_
      refine SegP.run [] 400 ?_
      rw [eb]
      refine And.intro (fun zm => ?_) (fun zm => ?_)
      · have nm := bq0 zm
        refine And.intro (in10 (p := 1) (n := 4) (by decide) (by decide)) ?_
        rw [cl10 (p := 1) (by decide)]
        refine SegP.tr (Seg.of (b := (47, [some (.ref 0), some (.int (nI 1)), some (.int i), some (.int v)], [.int (nI (V.2.2.2.1 1).2.1 - 1), .int 0, .int i], nW, h, g, ρ)) (by rw [← show h 56 2 = nI (V.2.2.2.1 1).2.1 from v5s.2.1] <;> rfl)) ?_
        refine SegP.tr (Seg.cS ((tX5_isBetween i 0 (nI (V.2.2.2.1 1).2.1 - 1)).ms h g) mlX5_59 syX5_isBetween oyX5_isBetween rfl (by decide) rfl rfl rfl (Nat.le_of_ble_eq_true rfl) (Nat.le_of_ble_eq_true rfl)) ?_
        refine SegP.run [] 400 ?_
        refine And.intro (fun zi => ?_) (fun zi => ?_)
        · have wi := (in_lt (by omega) rfl).mp (bn1 zi)
          obtain ⟨i', hi, rfl⟩ := nI_of (x := i) (fun z => Int32.not_le.mpr z wi.1)
          have hi2 := (nI_ltI hi (by omega)).mp wi.2
          refine And.intro (in10 (p := 1) (n := 4) (by decide) (by decide)) ?_
          rw [cl10 (p := 1) (by decide)]
          refine SegP.tr (Seg.cV (tX2_put_56 h g (V.2.2.2.1 1).1 (V.2.2.2.1 1).2.1 i' hs.2.1 (by omega) hi2 v5s.1 v5s.2.1 v) mlX5_279 iyX2_put seX2_put oyX2_put rfl (by decide) rfl (by decide) (by decide) rfl rfl rfl rfl (Nat.le_of_ble_eq_true rfl) (Nat.le_of_ble_eq_true rfl)) ?_
          refine SegP.run [] 400 ?_
          have e : sp_write V (nI 1) (nI i') v = (1, shV V 1 ((V.2.2.2.1 1).1, (V.2.2.2.1 1).2.1, fun j => if j = i' then cutB (V.2.2.2.1 1).1 v else (V.2.2.2.1 1).2.2 j)) := by rw [sp_write, if_pos q0, cl_nI (n := 1) (by decide), if_neg nm, if_pos wi, cl_nI (by omega)]
          rw [e]
          exact SegP.ret ⟨rfl, hv.sh (s := 1) (by decide) v5s.1 v5s.2.1 (fun j hj => by
            by_cases y : j = i'
            · subst y; rw [show (55 + 2 * 1 : Nat) = 56 + 1 from rfl, up2_s]; simp
            · rw [show (55 + 2 * 1 : Nat) = 56 + 1 from rfl, up2_k y, v5s.2.2 j hj]; simp [y]) (fun a h1 h2 => up2_row h2), fun a ha => up2_row (by omega)⟩
        · refine SegP.tr (Seg.cV (tX5_refuse h g 0 (by decide) (-1000001) (by decide)) mlX5_64 iyX5_refuse seX5_refuse oyX5_refuse rfl (by decide) rfl (by decide) (by decide) rfl rfl rfl rfl (Nat.le_of_ble_eq_true rfl) (Nat.le_of_ble_eq_true rfl)) ?_
          refine SegP.run [] 400 ?_
          exact cfn hv (k := 0) (by decide) (by rw [sp_write, if_pos q0, cl_nI (n := 1) (by decide), if_neg nm, if_neg (fun y => bn0 zi ((in_lt (by omega) rfl).mpr y))])
      · refine SegP.tr (Seg.cV (tX5_refuse h g 5 (by decide) (-1000006) (by decide)) mlX5_64 iyX5_refuse seX5_refuse oyX5_refuse rfl (by decide) rfl (by decide) (by decide) rfl rfl rfl rfl (Nat.le_of_ble_eq_true rfl) (Nat.le_of_ble_eq_true rfl)) ?_
        refine SegP.run [] 400 ?_
        exact cfn hv (k := 5) (by decide) (by rw [sp_write, if_pos q0, cl_nI (n := 1) (by decide), if_pos (bq1 zm)])
    · have v5s := v5 2 (by decide)
      have hs := hV.2.2.2 2 (by decide)
      have eb : bI (h 58 1 = 0) = bI ((V.2.2.2.1 2).1 = 0) := bI_iff (by rw [show h 58 1 = nI (V.2.2.2.1 2).1 from v5s.1]; exact nI_eq (b := 0) (by omega) (by decide))
      refine SegP.tr (Seg.cV (tX2_isMissing_58 h g) mlX5_275 iyX2_isMissing seX2_isMissing oyX2_isMissing rfl (by decide) rfl (by decide) (by decide) rfl rfl rfl rfl (Nat.le_of_ble_eq_true rfl) (Nat.le_of_ble_eq_true rfl)) ?_
      refine SegP.run [] 400 ?_
      rw [eb]
      refine And.intro (fun zm => ?_) (fun zm => ?_)
      · have nm := bq0 zm
        refine And.intro (in10 (p := 2) (n := 4) (by decide) (by decide)) ?_
        rw [cl10 (p := 2) (by decide)]
        refine SegP.tr (Seg.of (b := (47, [some (.ref 0), some (.int (nI 2)), some (.int i), some (.int v)], [.int (nI (V.2.2.2.1 2).2.1 - 1), .int 0, .int i], nW, h, g, ρ)) (by rw [← show h 58 2 = nI (V.2.2.2.1 2).2.1 from v5s.2.1] <;> rfl)) ?_
        refine SegP.tr (Seg.cS ((tX5_isBetween i 0 (nI (V.2.2.2.1 2).2.1 - 1)).ms h g) mlX5_59 syX5_isBetween oyX5_isBetween rfl (by decide) rfl rfl rfl (Nat.le_of_ble_eq_true rfl) (Nat.le_of_ble_eq_true rfl)) ?_
        refine SegP.run [] 400 ?_
        refine And.intro (fun zi => ?_) (fun zi => ?_)
        · have wi := (in_lt (by omega) rfl).mp (bn1 zi)
          obtain ⟨i', hi, rfl⟩ := nI_of (x := i) (fun z => Int32.not_le.mpr z wi.1)
          have hi2 := (nI_ltI hi (by omega)).mp wi.2
          refine And.intro (in10 (p := 2) (n := 4) (by decide) (by decide)) ?_
          rw [cl10 (p := 2) (by decide)]
          refine SegP.tr (Seg.cV (tX2_put_58 h g (V.2.2.2.1 2).1 (V.2.2.2.1 2).2.1 i' hs.2.1 (by omega) hi2 v5s.1 v5s.2.1 v) mlX5_279 iyX2_put seX2_put oyX2_put rfl (by decide) rfl (by decide) (by decide) rfl rfl rfl rfl (Nat.le_of_ble_eq_true rfl) (Nat.le_of_ble_eq_true rfl)) ?_
          refine SegP.run [] 400 ?_
          have e : sp_write V (nI 2) (nI i') v = (1, shV V 2 ((V.2.2.2.1 2).1, (V.2.2.2.1 2).2.1, fun j => if j = i' then cutB (V.2.2.2.1 2).1 v else (V.2.2.2.1 2).2.2 j)) := by rw [sp_write, if_pos q0, cl_nI (n := 2) (by decide), if_neg nm, if_pos wi, cl_nI (by omega)]
          rw [e]
          exact SegP.ret ⟨rfl, hv.sh (s := 2) (by decide) v5s.1 v5s.2.1 (fun j hj => by
            by_cases y : j = i'
            · subst y; rw [show (55 + 2 * 2 : Nat) = 58 + 1 from rfl, up2_s]; simp
            · rw [show (55 + 2 * 2 : Nat) = 58 + 1 from rfl, up2_k y, v5s.2.2 j hj]; simp [y]) (fun a h1 h2 => up2_row h2), fun a ha => up2_row (by omega)⟩
        · refine SegP.tr (Seg.cV (tX5_refuse h g 0 (by decide) (-1000001) (by decide)) mlX5_64 iyX5_refuse seX5_refuse oyX5_refuse rfl (by decide) rfl (by decide) (by decide) rfl rfl rfl rfl (Nat.le_of_ble_eq_true rfl) (Nat.le_of_ble_eq_true rfl)) ?_
          refine SegP.run [] 400 ?_
          exact cfn hv (k := 0) (by decide) (by rw [sp_write, if_pos q0, cl_nI (n := 2) (by decide), if_neg nm, if_neg (fun y => bn0 zi ((in_lt (by omega) rfl).mpr y))])
      · refine SegP.tr (Seg.cV (tX5_refuse h g 5 (by decide) (-1000006) (by decide)) mlX5_64 iyX5_refuse seX5_refuse oyX5_refuse rfl (by decide) rfl (by decide) (by decide) rfl rfl rfl rfl (Nat.le_of_ble_eq_true rfl) (Nat.le_of_ble_eq_true rfl)) ?_
        refine SegP.run [] 400 ?_
        exact cfn hv (k := 5) (by decide) (by rw [sp_write, if_pos q0, cl_nI (n := 2) (by decide), if_pos (bq1 zm)])
    · have v5s := v5 3 (by decide)
      have hs := hV.2.2.2 3 (by decide)
      have eb : bI (h 60 1 = 0) = bI ((V.2.2.2.1 3).1 = 0) := bI_iff (by rw [show h 60 1 = nI (V.2.2.2.1 3).1 from v5s.1]; exact nI_eq (b := 0) (by omega) (by decide))
      refine SegP.tr (Seg.cV (tX2_isMissing_60 h g) mlX5_275 iyX2_isMissing seX2_isMissing oyX2_isMissing rfl (by decide) rfl (by decide) (by decide) rfl rfl rfl rfl (Nat.le_of_ble_eq_true rfl) (Nat.le_of_ble_eq_true rfl)) ?_
      refine SegP.run [] 400 ?_
      rw [eb]
      refine And.intro (fun zm => ?_) (fun zm => ?_)
      · have nm := bq0 zm
        refine And.intro (in10 (p := 3) (n := 4) (by decide) (by decide)) ?_
        rw [cl10 (p := 3) (by decide)]
        refine SegP.tr (Seg.of (b := (47, [some (.ref 0), some (.int (nI 3)), some (.int i), some (.int v)], [.int (nI (V.2.2.2.1 3).2.1 - 1), .int 0, .int i], nW, h, g, ρ)) (by rw [← show h 60 2 = nI (V.2.2.2.1 3).2.1 from v5s.2.1] <;> rfl)) ?_
        refine SegP.tr (Seg.cS ((tX5_isBetween i 0 (nI (V.2.2.2.1 3).2.1 - 1)).ms h g) mlX5_59 syX5_isBetween oyX5_isBetween rfl (by decide) rfl rfl rfl (Nat.le_of_ble_eq_true rfl) (Nat.le_of_ble_eq_true rfl)) ?_
        refine SegP.run [] 400 ?_
        refine And.intro (fun zi => ?_) (fun zi => ?_)
        · have wi := (in_lt (by omega) rfl).mp (bn1 zi)
          obtain ⟨i', hi, rfl⟩ := nI_of (x := i) (fun z => Int32.not_le.mpr z wi.1)
          have hi2 := (nI_ltI hi (by omega)).mp wi.2
          refine And.intro (in10 (p := 3) (n := 4) (by decide) (by decide)) ?_
          rw [cl10 (p := 3) (by decide)]
          refine SegP.tr (Seg.cV (tX2_put_60 h g (V.2.2.2.1 3).1 (V.2.2.2.1 3).2.1 i' hs.2.1 (by omega) hi2 v5s.1 v5s.2.1 v) mlX5_279 iyX2_put seX2_put oyX2_put rfl (by decide) rfl (by decide) (by decide) rfl rfl rfl rfl (Nat.le_of_ble_eq_true rfl) (Nat.le_of_ble_eq_true rfl)) ?_
          refine SegP.run [] 400 ?_
          have e : sp_write V (nI 3) (nI i') v = (1, shV V 3 ((V.2.2.2.1 3).1, (V.2.2.2.1 3).2.1, fun j => if j = i' then cutB (V.2.2.2.1 3).1 v else (V.2.2.2.1 3).2.2 j)) := by rw [sp_write, if_pos q0, cl_nI (n := 3) (by decide), if_neg nm, if_pos wi, cl_nI (by omega)]
          rw [e]
          exact SegP.ret ⟨rfl, hv.sh (s := 3) (by decide) v5s.1 v5s.2.1 (fun j hj => by
            by_cases y : j = i'
            · subst y; rw [show (55 + 2 * 3 : Nat) = 60 + 1 from rfl, up2_s]; simp
            · rw [show (55 + 2 * 3 : Nat) = 60 + 1 from rfl, up2_k y, v5s.2.2 j hj]; simp [y]) (fun a h1 h2 => up2_row h2), fun a ha => up2_row (by omega)⟩
        · refine SegP.tr (Seg.cV (tX5_refuse h g 0 (by decide) (-1000001) (by decide)) mlX5_64 iyX5_refuse seX5_refuse oyX5_refuse rfl (by decide) rfl (by decide) (by decide) rfl rfl rfl rfl (Nat.le_of_ble_eq_true rfl) (Nat.le_of_ble_eq_true rfl)) ?_
          refine SegP.run [] 400 ?_
          exact cfn hv (k := 0) (by decide) (by rw [sp_write, if_pos q0, cl_nI (n := 3) (by decide), if_neg nm, if_neg (fun y => bn0 zi ((in_lt (by omega) rfl).mpr y))])
      · refine SegP.tr (Seg.cV (tX5_refuse h g 5 (by decide) (-1000006) (by decide)) mlX5_64 iyX5_refuse seX5_refuse oyX5_refuse rfl (by decide) rfl (by decide) (by decide) rfl rfl rfl rfl (Nat.le_of_ble_eq_true rfl) (Nat.le_of_ble_eq_true rfl)) ?_
        refine SegP.run [] 400 ?_
        exact cfn hv (k := 5) (by decide) (by rw [sp_write, if_pos q0, cl_nI (n := 3) (by decide), if_pos (bq1 zm)])
  · refine SegP.tr (Seg.cV (tX5_refuse h g 0 (by decide) (-1000001) (by decide)) mlX5_64 iyX5_refuse seX5_refuse oyX5_refuse rfl (by decide) rfl (by decide) (by decide) rfl rfl rfl rfl (Nat.le_of_ble_eq_true rfl) (Nat.le_of_ble_eq_true rfl)) ?_
    refine SegP.run [] 400 ?_
    exact cfn hv (k := 0) (by decide) (by rw [sp_write, if_neg (fun y => bn0 z0 y)])
set_option maxRecDepth 100000 in
set_option maxHeartbeats 400000 in
theorem zM_write {V : aV} (hV : VOk V) (s i v : Int32) : DX mX6_write 11 [.int s, .int i, .int v] V (sp_write V s i v) := by
  intro h g hv
  obtain ⟨v1, v2, v3, v4, v5, v6⟩ := id hv
  have ht := hV.1
  refine MX.of okX6_write (by decide +kernel) (Nat.le_of_ble_eq_true rfl) (by decide) rfl (by decide) ?_
  refine SegP.run [] 400 ?_
  refine SegP.tr (Seg.cS ((tX6_isSheet s).ms h g) mlX6_256 syX6_isSheet oyX6_isSheet rfl (by decide) rfl rfl rfl (Nat.le_of_ble_eq_true rfl) (Nat.le_of_ble_eq_true rfl)) ?_
  refine SegP.run [] 400 ?_
  refine And.intro (fun z0 => ?_) (fun z0 => ?_)
  · have q0 := bn1 z0
    obtain ⟨x, hx, rfl⟩ := rng (a := 0) (b := 3) (by decide) (show nI 0 ≤ s ∧ s ≤ nI 3 from q0) (by decide)
    have v5s := v5 x (by omega)
    have hs := hV.2.2.2 x (by omega)
    have hin := in10 (p := x) (n := 4) (by omega) (by decide)
    have cx := cl10 (p := x) (by omega)
    refine And.intro hin ?_
    rw [cx, v5s.1]
    have e0 : nI (V.2.2.2.1 x).1 = 0 ↔ (V.2.2.2.1 x).1 = 0 := nI_eq (b := 0) (by omega) (by decide)
    refine And.intro (fun zm => ?_) (fun zm => ?_)
    · have nm : ¬ (V.2.2.2.1 x).1 = 0 := fun y => zm (e0.mpr y)
      refine And.intro hin ?_
      rw [cx, v5s.2.1]
      refine SegP.tr (Seg.cS ((tX6_in i 0 (nI (V.2.2.2.1 x).2.1 - 1)).ms h g) mlX6_47 syX6_in oyX6_in rfl (by decide) rfl rfl rfl (Nat.le_of_ble_eq_true rfl) (Nat.le_of_ble_eq_true rfl)) ?_
      refine SegP.run [] 400 ?_
      refine And.intro (fun zi => ?_) (fun zi => ?_)
      · have wi := (in_lt (by omega) rfl).mp (bn1 zi)
        obtain ⟨i', hi, rfl⟩ := nI_of (x := i) (fun z => Int32.not_le.mpr z wi.1)
        have hi2 := (nI_ltI hi (by omega)).mp wi.2
        refine And.intro hin ?_
        have ei : (40 : Int32) * nI x + nI i' = nI (40 * x + i') := by rw [show (40 : Int32) = nI 40 from rfl, nI_ml, nI_ad]
        refine And.intro (by rw [ei]; exact in10 (p := 40 * x + i') (n := 160) (by omega) (by decide)) ?_
        rw [ei, cl10 (p := 40 * x + i') (by omega), cx, v5s.1, cut_M (by omega)]
        have e : sp_write V (nI x) (nI i') v = (1, shV V x ((V.2.2.2.1 x).1, (V.2.2.2.1 x).2.1, fun j => if j = i' then cutB (V.2.2.2.1 x).1 v else (V.2.2.2.1 x).2.2 j)) := by rw [sp_write, if_pos q0, cl_nI (n := x) (by omega), if_neg nm, if_pos wi, cl_nI (by omega)]
        rw [e]
        exact SegP.ret ⟨rfl, hv.sh (s := x) (q := ((V.2.2.2.1 x).1, (V.2.2.2.1 x).2.1, fun j => if j = i' then cutB (V.2.2.2.1 x).1 v else (V.2.2.2.1 x).2.2 j)) (by omega) v5s.1 v5s.2.1 (fun j hj => by
          by_cases y : j = i'
          · subst y; rw [up2_s]; simp
          · rw [up2_k (by omega), v5s.2.2 j hj]; simp [y]) (fun _ _ => rfl) (fun _ _ => rfl) (fun j k hj hjx hk => up2_k (by omega)) (fun a ha => up2_row (by omega)) (fun j hj => (hV.2.2.2 j hj).2.1), fun a ha => up2_row (by omega)⟩
      · refine SegP.tr (Seg.cV (tX6_fd h g 0 (by decide) 0 (by decide) (-1000001) (by decide)) mlX6_51 iyX6_finding seX6_finding oyX6_finding rfl (by decide) rfl (by decide) (by decide) rfl rfl rfl rfl (Nat.le_of_ble_eq_true rfl) (Nat.le_of_ble_eq_true rfl)) ?_
        refine SegP.run [] 400 ?_
        exact mfn hv (k := 0) (by decide) (by rw [sp_write, if_pos q0, cl_nI (n := x) (by omega), if_neg nm, if_neg (fun y => bn0 zi ((in_lt (by omega) rfl).mpr y))])
    · refine SegP.tr (Seg.cV (tX6_fd h g 5 (by decide) 5 (by decide) (-1000006) (by decide)) mlX6_51 iyX6_finding seX6_finding oyX6_finding rfl (by decide) rfl (by decide) (by decide) rfl rfl rfl rfl (Nat.le_of_ble_eq_true rfl) (Nat.le_of_ble_eq_true rfl)) ?_
      refine SegP.run [] 400 ?_
      exact mfn hv (k := 5) (by decide) (by rw [sp_write, if_pos q0, cl_nI (n := x) (by omega), if_pos (e0.mp (Decidable.not_not.mp zm))])
  · refine SegP.tr (Seg.cV (tX6_fd h g 0 (by decide) 0 (by decide) (-1000001) (by decide)) mlX6_51 iyX6_finding seX6_finding oyX6_finding rfl (by decide) rfl (by decide) (by decide) rfl rfl rfl rfl (Nat.le_of_ble_eq_true rfl) (Nat.le_of_ble_eq_true rfl)) ?_
    refine SegP.run [] 400 ?_
    exact mfn hv (k := 0) (by decide) (by rw [sp_write, if_neg (fun y => bn0 z0 y)])
/-- how many numbers of a sheet become costs, from the i-th on -/
def ldM (q : Nat × Nat × (Nat → Int32)) (P : Nat) : Nat → Nat → Nat
  | 0, i => i
  | n + 1, i => if i < q.2.1 ∧ i < P ∧ gdP 5 (q.2.2 i) then ldM q P n (i + 1) else i
def ldT (T : aH) (q : Nat × Nat × (Nat → Int32)) (m : Nat) : aH := fun j k => if j = 8 ∧ k < m then q.2.2 k else T j k
theorem ldT_0 {T : aH} {q : Nat × Nat × (Nat → Int32)} : ldT T q 0 = T := by
  funext j k
  simp [ldT]
theorem ldT_s {T : aH} {q : Nat × Nat × (Nat → Int32)} {m : Nat} : up2 (ldT T q m) 8 m (q.2.2 m) = ldT T q (m + 1) := by
  funext j k
  simp only [up2, ldT]
  by_cases hj : j = 8
  · subst hj
    by_cases h1 : k = m
    · subst h1; simp
    · by_cases h2 : k < m
      · simp [h1, h2, show k < m + 1 by omega]
      · simp [h1, h2, show ¬ k < m + 1 by omega]
  · simp [hj]
theorem tnV_tn {V : aV} {T T' : aH} : tnV (tnV V T) T' = tnV V T' := rfl
theorem ld_more {q : Nat × Nat × (Nat → Int32)} {P n i : Nat} (h : i < q.2.1 ∧ i < P ∧ gdP 5 (q.2.2 i)) : ldM q P (n + 1) i = ldM q P n (i + 1) := if_pos h
theorem ld_end {q : Nat × Nat × (Nat → Int32)} {P n i : Nat} (h : ¬ (i < q.2.1 ∧ i < P ∧ gdP 5 (q.2.2 i))) : ldM q P (n + 1) i = i := if_neg h
theorem ldT_ok {T : aH} (ht : TOk T) {q : Nat × Nat × (Nat → Int32)} : ∀ m, (∀ k, k < m → gdP 5 (q.2.2 k)) → TOk (ldT T q m) := by
  intro m
  induction m with
  | zero => intro _; rw [ldT_0]; exact ht
  | succ m ih =>
    intro h
    obtain ⟨x, h1, h2⟩ := gdP_ok (w := 5) (by decide) (h m (Nat.lt_succ_self m))
    rw [← ldT_s, h2]
    exact (ih (fun k hk => h k (by omega))).set (w := 5) (by decide) h1
theorem ldM_ok {q : Nat × Nat × (Nat → Int32)} {P : Nat} : ∀ n i, (∀ k, k < i → gdP 5 (q.2.2 k)) → ∀ k, k < ldM q P n i → gdP 5 (q.2.2 k) := by
  intro n
  induction n with
  | zero => intro i h; exact h
  | succ n ih =>
    intro i h
    by_cases z : i < q.2.1 ∧ i < P ∧ gdP 5 (q.2.2 i)
    · rw [ld_more z]
      refine ih (i + 1) fun k hk => ?_
      by_cases e : k = i
      · subst e; exact z.2.2
      · exact h k (by omega)
    · rw [ld_end z]; exact h
/-- what a sheet lacks -/
def lkI (V : aV) (s : Int32) : Int32 := if (0 ≤ s ∧ s ≤ 3) then (if (V.2.2.2.1 (cl s)).1 = 0 then 5 else -1) else 0
set_option maxRecDepth 100000 in
set_option maxHeartbeats 400000 in
theorem tX6_lacks {h : aH} {g : aG} {V : aV} (hV : VOk V) (hv : MV h V) (s : Int32) : MS mX6_lacks 3 [.ref 63, .int s] h g [.int (lkI V s)] h g := by
  have v5 := hv.2.2.2.2.1
  refine MS.of okX6_lacks (by decide +kernel) (Nat.le_of_ble_eq_true rfl) (by decide) rfl (by decide) ?_
  refine Seg.run [] 400 ?_
  refine Seg.tr (Seg.cS ((tX6_isSheet s).ms h g) mlX6_256 syX6_isSheet oyX6_isSheet rfl (by decide) rfl rfl rfl (Nat.le_of_ble_eq_true rfl) (Nat.le_of_ble_eq_true rfl)) ?_
  refine Seg.run [] 400 ?_
  refine And.intro (fun z => ?_) (fun z => ?_)
  · have q0 := bn1 z
    obtain ⟨x, hx, rfl⟩ := rng (a := 0) (b := 3) (by decide) (show nI 0 ≤ s ∧ s ≤ nI 3 from q0) (by decide)
    have hs := hV.2.2.2 x (by omega)
    refine And.intro (in10 (p := x) (n := 4) (by omega) (by decide)) ?_
    rw [cl10 (p := x) (by omega), (v5 x (by omega)).1]
    have e0 : nI (V.2.2.2.1 x).1 = 0 ↔ (V.2.2.2.1 x).1 = 0 := nI_eq (b := 0) (by omega) (by decide)
    refine And.intro (fun z2 => ?_) (fun z2 => ?_)
    · exact Seg.ri (by rw [lkI, if_pos q0, cl_nI (by omega), if_neg (fun y => z2 (e0.mpr y))])
    · exact Seg.ri (by rw [lkI, if_pos q0, cl_nI (by omega), if_pos (e0.mp (Decidable.not_not.mp z2))])
  · exact Seg.ri (by rw [lkI, if_neg (bn0 z)])
def sp_load (V : aV) (s : Int32) : Int32 × aV := if (0 ≤ s ∧ s ≤ 3) then (if (V.2.2.2.1 (cl s)).1 = 0 then fnd V 5 (-1000006) else (nI (ldM (V.2.2.2.1 (cl s)) (nP V.1) 41 0), tnV V (ldT V.1 (V.2.2.2.1 (cl s)) (ldM (V.2.2.2.1 (cl s)) (nP V.1) 41 0)))) else fnd V 0 (-1000001)
set_option maxRecDepth 100000 in
set_option maxHeartbeats 400000 in
theorem zC_load {V : aV} (hV : VOk V) (s : Int32) : CX mX5_load 11 [.int s] V (sp_load V s) := by
  intro h g hv
  obtain ⟨v1, v2, v3, v4, v5, v6⟩ := id hv
  have ht := hV.1
  refine MX.of okX5_load (by decide +kernel) (Nat.le_of_ble_eq_true rfl) (by decide) rfl (by decide) ?_
  refine SegP.run [] 400 ?_
  refine SegP.tr (Seg.cS ((tX5_isSheet s).ms h g) mlX5_265 syX5_isSheet oyX5_isSheet rfl (by decide) rfl rfl rfl (Nat.le_of_ble_eq_true rfl) (Nat.le_of_ble_eq_true rfl)) ?_
  refine SegP.run [] 400 ?_
  refine And.intro (fun z0 => ?_) (fun z0 => ?_)
  · have q0 := bn1 z0
    obtain ⟨x, hx, rfl⟩ := rng (a := 0) (b := 3) (by decide) (show nI 0 ≤ s ∧ s ≤ nI 3 from q0) (by decide)
    refine And.intro (in10 (p := x) (n := 4) (by omega) (by decide)) ?_
    rw [cl10 (p := x) (by omega)]
    rcases (show x = 0 ∨ x = 1 ∨ x = 2 ∨ x = 3 by omega) with rfl | rfl | rfl | rfl
    · have v5s := v5 0 (by decide)
      have hs := hV.2.2.2 0 (by decide)
      have np10 := ht.np.1
      have eb : bI (h 54 1 = 0) = bI ((V.2.2.2.1 0).1 = 0) := bI_iff (by rw [show h 54 1 = nI (V.2.2.2.1 0).1 from v5s.1]; exact nI_eq (b := 0) (by omega) (by decide))
      refine SegP.tr (Seg.cV (tX2_isMissing_54 h g) mlX5_275 iyX2_isMissing seX2_isMissing oyX2_isMissing rfl (by decide) rfl (by decide) (by decide) rfl rfl rfl rfl (Nat.le_of_ble_eq_true rfl) (Nat.le_of_ble_eq_true rfl)) ?_
      refine SegP.run [38] 400 ?_
      rw [eb]
      refine And.intro (fun zm => ?_) (fun zm => ?_)
      · have nm := bq0 zm
        have e : ∀ m, m = ldM (V.2.2.2.1 0) (nP V.1) 41 0 → sp_load V (nI 0) = (nI m, tnV V (ldT V.1 (V.2.2.2.1 0) m)) := fun m hm => by rw [sp_load, if_pos q0, cl_nI (n := 0) (by decide), if_neg nm, hm]
        have loop : ∀ n i, n + i = 41 → i ≤ (V.2.2.2.1 0).2.1 → i ≤ nP V.1 → ldM (V.2.2.2.1 0) (nP V.1) n i = ldM (V.2.2.2.1 0) (nP V.1) 41 0 → ∀ h' : aH, CV h' (tnV V (ldT V.1 (V.2.2.2.1 0) i)) → (∀ a, 63 ≤ a → h' a = h a) → SegP mX5_load 11 (38, [some (.ref 0), some (.int (nI 0)), some (.int (nI i)), some (.int (nI i))], [], nW, h', g, ρ) (enP (enC h (sp_load V (nI 0)))) := by
          intro n
          induction n with
          | zero => intro i hn hi; omega
          | succ n ih =>
            intro i hn hi hP hm h' hv' fr
            have w5 := hv'.2.2.2.2.1 0 (by decide)
            have c8 : h' 1 8 = nI (nP V.1) := (cR0 hv').1.trans ht.np.2
            have done : ¬ (i < (V.2.2.2.1 0).2.1 ∧ i < nP V.1 ∧ gdP 5 ((V.2.2.2.1 0).2.2 i)) → SegP mX5_load 11 (112, [some (.ref 0), some (.int (nI 0)), some (.int (nI i)), some (.int (nI i))], [], nW, h', g, ρ) (enP (enC h (sp_load V (nI 0)))) := by
              intro z
              rw [ld_end z] at hm
              refine SegP.run [] 400 ?_
              exact cid' hv' fr (e i hm)
            refine SegP.run [112] 400 ?_
            refine And.intro (in10 (p := 0) (n := 4) (by decide) (by decide)) ?_
            rw [cl10 (p := 0) (by decide)]
            refine And.intro (fun z1 => ?_) (fun z1 => ?_)
            · have z1 : nI (V.2.2.2.1 0).2.1 ≤ nI i := by rw [← show h' 54 2 = nI (V.2.2.2.1 0).2.1 from w5.2.1]; exact z1
              exact done (fun y => absurd z1 (nI_ge y.1 (by omega)))
            have i1 : i < (V.2.2.2.1 0).2.1 := by
              rcases Nat.lt_or_ge i (V.2.2.2.1 0).2.1 with y | y
              · exact y
              · exact absurd (show h' 54 2 ≤ nI i by rw [show h' 54 2 = nI (V.2.2.2.1 0).2.1 from w5.2.1]; exact nI_le y (by omega)) z1
            refine And.intro (fun z2 => ?_) (fun z2 => ?_)
            · exact done (fun y => absurd (show nI (nP V.1) ≤ nI i by rw [← c8]; exact z2) (nI_ge y.2.1 (by omega)))
            have i2 : i < nP V.1 := by
              rcases Nat.lt_or_ge i (nP V.1) with y | y
              · exact y
              · exact absurd (show h' 1 8 ≤ nI i by rw [c8]; exact nI_le y (by omega)) z2
            have hin40 := in10 (p := i) (n := 40) (by omega) (by decide)
            have ci := cl10 (p := i) (by omega)
            have num : h' (54 + 1) i = (V.2.2.2.1 0).2.2 i := w5.2.2 i i1
            refine And.intro (in10 (p := 0) (n := 4) (by decide) (by decide)) ?_
            rw [cl10 (p := 0) (by decide)]
            refine And.intro hin40 ?_
            rw [ci, show h' 55 i = (V.2.2.2.1 0).2.2 i from num]
            refine SegP.tr (Seg.cS ((tX5_fitsPart 5 ((V.2.2.2.1 0).2.2 i)).ms h' g) mlX5_103 syX5_fitsPart oyX5_fitsPart rfl (by decide) rfl rfl rfl (Nat.le_of_ble_eq_true rfl) (Nat.le_of_ble_eq_true rfl)) ?_
            refine SegP.run [38, 112] 400 ?_
            refine And.intro (fun z3 => ?_) (fun z3 => ?_)
            · have z3 := (bn1 z3).2
              refine And.intro (in10 (p := 0) (n := 4) (by decide) (by decide)) ?_
              rw [cl10 (p := 0) (by decide)]
              refine And.intro hin40 ?_
              refine And.intro (in10 (p := i) (n := 10) (by omega) (by decide)) ?_
              rw [ci, show h' 55 i = (V.2.2.2.1 0).2.2 i from num]
              refine SegP.tr (Seg.of (b := (38, [some (.ref 0), some (.int (nI 0)), some (.int (nI (i + 1))), some (.int (nI (i + 1)))], [], nW, up2 h' 9 i ((V.2.2.2.1 0).2.2 i), g, ρ)) (by rw [nI_succ i] <;> rfl)) ?_
              refine ih (i + 1) (by omega) i1 i2 (by rw [← hm, ld_more ⟨i1, i2, z3⟩]) _ ?_ (fun a ha => by rw [up2_row (by omega)]; exact fr a ha)
              rw [← ldT_s, ← tnV_tn (T := ldT V.1 (V.2.2.2.1 0) i)]
              exact cT (j := 8) hv' (by decide) (show i < 10 by omega)
            · exact done (fun y => bn0 z3 ⟨by decide, y.2.2⟩)
        refine loop 41 0 rfl (Nat.zero_le _) (Nat.zero_le _) rfl h ?_ (fun a _ => rfl)
        rw [ldT_0]
        exact hv
      · refine SegP.tr (Seg.cV (tX5_refuse h g 5 (by decide) (-1000006) (by decide)) mlX5_64 iyX5_refuse seX5_refuse oyX5_refuse rfl (by decide) rfl (by decide) (by decide) rfl rfl rfl rfl (Nat.le_of_ble_eq_true rfl) (Nat.le_of_ble_eq_true rfl)) ?_
        refine SegP.run [] 400 ?_
        exact cfn hv (k := 5) (by decide) (by rw [sp_load, if_pos q0, cl_nI (n := 0) (by decide), if_pos (bq1 zm)])
    · have v5s := v5 1 (by decide)
      have hs := hV.2.2.2 1 (by decide)
      have np10 := ht.np.1
      have eb : bI (h 56 1 = 0) = bI ((V.2.2.2.1 1).1 = 0) := bI_iff (by rw [show h 56 1 = nI (V.2.2.2.1 1).1 from v5s.1]; exact nI_eq (b := 0) (by omega) (by decide))
      refine SegP.tr (Seg.cV (tX2_isMissing_56 h g) mlX5_275 iyX2_isMissing seX2_isMissing oyX2_isMissing rfl (by decide) rfl (by decide) (by decide) rfl rfl rfl rfl (Nat.le_of_ble_eq_true rfl) (Nat.le_of_ble_eq_true rfl)) ?_
      refine SegP.run [38] 400 ?_
      rw [eb]
      refine And.intro (fun zm => ?_) (fun zm => ?_)
      · have nm := bq0 zm
        have e : ∀ m, m = ldM (V.2.2.2.1 1) (nP V.1) 41 0 → sp_load V (nI 1) = (nI m, tnV V (ldT V.1 (V.2.2.2.1 1) m)) := fun m hm => by rw [sp_load, if_pos q0, cl_nI (n := 1) (by decide), if_neg nm, hm]
        have loop : ∀ n i, n + i = 41 → i ≤ (V.2.2.2.1 1).2.1 → i ≤ nP V.1 → ldM (V.2.2.2.1 1) (nP V.1) n i = ldM (V.2.2.2.1 1) (nP V.1) 41 0 → ∀ h' : aH, CV h' (tnV V (ldT V.1 (V.2.2.2.1 1) i)) → (∀ a, 63 ≤ a → h' a = h a) → SegP mX5_load 11 (38, [some (.ref 0), some (.int (nI 1)), some (.int (nI i)), some (.int (nI i))], [], nW, h', g, ρ) (enP (enC h (sp_load V (nI 1)))) := by
          intro n
          induction n with
          | zero => intro i hn hi; omega
          | succ n ih =>
            intro i hn hi hP hm h' hv' fr
            have w5 := hv'.2.2.2.2.1 1 (by decide)
            have c8 : h' 1 8 = nI (nP V.1) := (cR0 hv').1.trans ht.np.2
            have done : ¬ (i < (V.2.2.2.1 1).2.1 ∧ i < nP V.1 ∧ gdP 5 ((V.2.2.2.1 1).2.2 i)) → SegP mX5_load 11 (112, [some (.ref 0), some (.int (nI 1)), some (.int (nI i)), some (.int (nI i))], [], nW, h', g, ρ) (enP (enC h (sp_load V (nI 1)))) := by
              intro z
              rw [ld_end z] at hm
              refine SegP.run [] 400 ?_
              exact cid' hv' fr (e i hm)
            refine SegP.run [112] 400 ?_
            refine And.intro (in10 (p := 1) (n := 4) (by decide) (by decide)) ?_
            rw [cl10 (p := 1) (by decide)]
            refine And.intro (fun z1 => ?_) (fun z1 => ?_)
            · have z1 : nI (V.2.2.2.1 1).2.1 ≤ nI i := by rw [← show h' 56 2 = nI (V.2.2.2.1 1).2.1 from w5.2.1]; exact z1
              exact done (fun y => absurd z1 (nI_ge y.1 (by omega)))
            have i1 : i < (V.2.2.2.1 1).2.1 := by
              rcases Nat.lt_or_ge i (V.2.2.2.1 1).2.1 with y | y
              · exact y
              · exact absurd (show h' 56 2 ≤ nI i by rw [show h' 56 2 = nI (V.2.2.2.1 1).2.1 from w5.2.1]; exact nI_le y (by omega)) z1
            refine And.intro (fun z2 => ?_) (fun z2 => ?_)
            · exact done (fun y => absurd (show nI (nP V.1) ≤ nI i by rw [← c8]; exact z2) (nI_ge y.2.1 (by omega)))
            have i2 : i < nP V.1 := by
              rcases Nat.lt_or_ge i (nP V.1) with y | y
              · exact y
              · exact absurd (show h' 1 8 ≤ nI i by rw [c8]; exact nI_le y (by omega)) z2
            have hin40 := in10 (p := i) (n := 40) (by omega) (by decide)
            have ci := cl10 (p := i) (by omega)
            have num : h' (56 + 1) i = (V.2.2.2.1 1).2.2 i := w5.2.2 i i1
            refine And.intro (in10 (p := 1) (n := 4) (by decide) (by decide)) ?_
            rw [cl10 (p := 1) (by decide)]
            refine And.intro hin40 ?_
            rw [ci, show h' 57 i = (V.2.2.2.1 1).2.2 i from num]
            refine SegP.tr (Seg.cS ((tX5_fitsPart 5 ((V.2.2.2.1 1).2.2 i)).ms h' g) mlX5_103 syX5_fitsPart oyX5_fitsPart rfl (by decide) rfl rfl rfl (Nat.le_of_ble_eq_true rfl) (Nat.le_of_ble_eq_true rfl)) ?_
            refine SegP.run [38, 112] 400 ?_
            refine And.intro (fun z3 => ?_) (fun z3 => ?_)
            · have z3 := (bn1 z3).2
              refine And.intro (in10 (p := 1) (n := 4) (by decide) (by decide)) ?_
              rw [cl10 (p := 1) (by decide)]
              refine And.intro hin40 ?_
              refine And.intro (in10 (p := i) (n := 10) (by omega) (by decide)) ?_
              rw [ci, show h' 57 i = (V.2.2.2.1 1).2.2 i from num]
              refine SegP.tr (Seg.of (b := (38, [some (.ref 0), some (.int (nI 1)), some (.int (nI (i + 1))), some (.int (nI (i + 1)))], [], nW, up2 h' 9 i ((V.2.2.2.1 1).2.2 i), g, ρ)) (by rw [nI_succ i] <;> rfl)) ?_
              refine ih (i + 1) (by omega) i1 i2 (by rw [← hm, ld_more ⟨i1, i2, z3⟩]) _ ?_ (fun a ha => by rw [up2_row (by omega)]; exact fr a ha)
              rw [← ldT_s, ← tnV_tn (T := ldT V.1 (V.2.2.2.1 1) i)]
              exact cT (j := 8) hv' (by decide) (show i < 10 by omega)
            · exact done (fun y => bn0 z3 ⟨by decide, y.2.2⟩)
        refine loop 41 0 rfl (Nat.zero_le _) (Nat.zero_le _) rfl h ?_ (fun a _ => rfl)
        rw [ldT_0]
        exact hv
      · refine SegP.tr (Seg.cV (tX5_refuse h g 5 (by decide) (-1000006) (by decide)) mlX5_64 iyX5_refuse seX5_refuse oyX5_refuse rfl (by decide) rfl (by decide) (by decide) rfl rfl rfl rfl (Nat.le_of_ble_eq_true rfl) (Nat.le_of_ble_eq_true rfl)) ?_
        refine SegP.run [] 400 ?_
        exact cfn hv (k := 5) (by decide) (by rw [sp_load, if_pos q0, cl_nI (n := 1) (by decide), if_pos (bq1 zm)])
    · have v5s := v5 2 (by decide)
      have hs := hV.2.2.2 2 (by decide)
      have np10 := ht.np.1
      have eb : bI (h 58 1 = 0) = bI ((V.2.2.2.1 2).1 = 0) := bI_iff (by rw [show h 58 1 = nI (V.2.2.2.1 2).1 from v5s.1]; exact nI_eq (b := 0) (by omega) (by decide))
      refine SegP.tr (Seg.cV (tX2_isMissing_58 h g) mlX5_275 iyX2_isMissing seX2_isMissing oyX2_isMissing rfl (by decide) rfl (by decide) (by decide) rfl rfl rfl rfl (Nat.le_of_ble_eq_true rfl) (Nat.le_of_ble_eq_true rfl)) ?_
      refine SegP.run [38] 400 ?_
      rw [eb]
      refine And.intro (fun zm => ?_) (fun zm => ?_)
      · have nm := bq0 zm
        have e : ∀ m, m = ldM (V.2.2.2.1 2) (nP V.1) 41 0 → sp_load V (nI 2) = (nI m, tnV V (ldT V.1 (V.2.2.2.1 2) m)) := fun m hm => by rw [sp_load, if_pos q0, cl_nI (n := 2) (by decide), if_neg nm, hm]
        have loop : ∀ n i, n + i = 41 → i ≤ (V.2.2.2.1 2).2.1 → i ≤ nP V.1 → ldM (V.2.2.2.1 2) (nP V.1) n i = ldM (V.2.2.2.1 2) (nP V.1) 41 0 → ∀ h' : aH, CV h' (tnV V (ldT V.1 (V.2.2.2.1 2) i)) → (∀ a, 63 ≤ a → h' a = h a) → SegP mX5_load 11 (38, [some (.ref 0), some (.int (nI 2)), some (.int (nI i)), some (.int (nI i))], [], nW, h', g, ρ) (enP (enC h (sp_load V (nI 2)))) := by
          intro n
          induction n with
          | zero => intro i hn hi; omega
          | succ n ih =>
            intro i hn hi hP hm h' hv' fr
            have w5 := hv'.2.2.2.2.1 2 (by decide)
            have c8 : h' 1 8 = nI (nP V.1) := (cR0 hv').1.trans ht.np.2
            have done : ¬ (i < (V.2.2.2.1 2).2.1 ∧ i < nP V.1 ∧ gdP 5 ((V.2.2.2.1 2).2.2 i)) → SegP mX5_load 11 (112, [some (.ref 0), some (.int (nI 2)), some (.int (nI i)), some (.int (nI i))], [], nW, h', g, ρ) (enP (enC h (sp_load V (nI 2)))) := by
              intro z
              rw [ld_end z] at hm
              refine SegP.run [] 400 ?_
              exact cid' hv' fr (e i hm)
            refine SegP.run [112] 400 ?_
            refine And.intro (in10 (p := 2) (n := 4) (by decide) (by decide)) ?_
            rw [cl10 (p := 2) (by decide)]
            refine And.intro (fun z1 => ?_) (fun z1 => ?_)
            · have z1 : nI (V.2.2.2.1 2).2.1 ≤ nI i := by rw [← show h' 58 2 = nI (V.2.2.2.1 2).2.1 from w5.2.1]; exact z1
              exact done (fun y => absurd z1 (nI_ge y.1 (by omega)))
            have i1 : i < (V.2.2.2.1 2).2.1 := by
              rcases Nat.lt_or_ge i (V.2.2.2.1 2).2.1 with y | y
              · exact y
              · exact absurd (show h' 58 2 ≤ nI i by rw [show h' 58 2 = nI (V.2.2.2.1 2).2.1 from w5.2.1]; exact nI_le y (by omega)) z1
            refine And.intro (fun z2 => ?_) (fun z2 => ?_)
            · exact done (fun y => absurd (show nI (nP V.1) ≤ nI i by rw [← c8]; exact z2) (nI_ge y.2.1 (by omega)))
            have i2 : i < nP V.1 := by
              rcases Nat.lt_or_ge i (nP V.1) with y | y
              · exact y
              · exact absurd (show h' 1 8 ≤ nI i by rw [c8]; exact nI_le y (by omega)) z2
            have hin40 := in10 (p := i) (n := 40) (by omega) (by decide)
            have ci := cl10 (p := i) (by omega)
            have num : h' (58 + 1) i = (V.2.2.2.1 2).2.2 i := w5.2.2 i i1
            refine And.intro (in10 (p := 2) (n := 4) (by decide) (by decide)) ?_
            rw [cl10 (p := 2) (by decide)]
            refine And.intro hin40 ?_
            rw [ci, show h' 59 i = (V.2.2.2.1 2).2.2 i from num]
            refine SegP.tr (Seg.cS ((tX5_fitsPart 5 ((V.2.2.2.1 2).2.2 i)).ms h' g) mlX5_103 syX5_fitsPart oyX5_fitsPart rfl (by decide) rfl rfl rfl (Nat.le_of_ble_eq_true rfl) (Nat.le_of_ble_eq_true rfl)) ?_
            refine SegP.run [38, 112] 400 ?_
            refine And.intro (fun z3 => ?_) (fun z3 => ?_)
            · have z3 := (bn1 z3).2
              refine And.intro (in10 (p := 2) (n := 4) (by decide) (by decide)) ?_
              rw [cl10 (p := 2) (by decide)]
              refine And.intro hin40 ?_
              refine And.intro (in10 (p := i) (n := 10) (by omega) (by decide)) ?_
              rw [ci, show h' 59 i = (V.2.2.2.1 2).2.2 i from num]
              refine SegP.tr (Seg.of (b := (38, [some (.ref 0), some (.int (nI 2)), some (.int (nI (i + 1))), some (.int (nI (i + 1)))], [], nW, up2 h' 9 i ((V.2.2.2.1 2).2.2 i), g, ρ)) (by rw [nI_succ i] <;> rfl)) ?_
              refine ih (i + 1) (by omega) i1 i2 (by rw [← hm, ld_more ⟨i1, i2, z3⟩]) _ ?_ (fun a ha => by rw [up2_row (by omega)]; exact fr a ha)
              rw [← ldT_s, ← tnV_tn (T := ldT V.1 (V.2.2.2.1 2) i)]
              exact cT (j := 8) hv' (by decide) (show i < 10 by omega)
            · exact done (fun y => bn0 z3 ⟨by decide, y.2.2⟩)
        refine loop 41 0 rfl (Nat.zero_le _) (Nat.zero_le _) rfl h ?_ (fun a _ => rfl)
        rw [ldT_0]
        exact hv
      · refine SegP.tr (Seg.cV (tX5_refuse h g 5 (by decide) (-1000006) (by decide)) mlX5_64 iyX5_refuse seX5_refuse oyX5_refuse rfl (by decide) rfl (by decide) (by decide) rfl rfl rfl rfl (Nat.le_of_ble_eq_true rfl) (Nat.le_of_ble_eq_true rfl)) ?_
        refine SegP.run [] 400 ?_
        exact cfn hv (k := 5) (by decide) (by rw [sp_load, if_pos q0, cl_nI (n := 2) (by decide), if_pos (bq1 zm)])
    · have v5s := v5 3 (by decide)
      have hs := hV.2.2.2 3 (by decide)
      have np10 := ht.np.1
      have eb : bI (h 60 1 = 0) = bI ((V.2.2.2.1 3).1 = 0) := bI_iff (by rw [show h 60 1 = nI (V.2.2.2.1 3).1 from v5s.1]; exact nI_eq (b := 0) (by omega) (by decide))
      refine SegP.tr (Seg.cV (tX2_isMissing_60 h g) mlX5_275 iyX2_isMissing seX2_isMissing oyX2_isMissing rfl (by decide) rfl (by decide) (by decide) rfl rfl rfl rfl (Nat.le_of_ble_eq_true rfl) (Nat.le_of_ble_eq_true rfl)) ?_
      refine SegP.run [38] 400 ?_
      rw [eb]
      refine And.intro (fun zm => ?_) (fun zm => ?_)
      · have nm := bq0 zm
        have e : ∀ m, m = ldM (V.2.2.2.1 3) (nP V.1) 41 0 → sp_load V (nI 3) = (nI m, tnV V (ldT V.1 (V.2.2.2.1 3) m)) := fun m hm => by rw [sp_load, if_pos q0, cl_nI (n := 3) (by decide), if_neg nm, hm]
        have loop : ∀ n i, n + i = 41 → i ≤ (V.2.2.2.1 3).2.1 → i ≤ nP V.1 → ldM (V.2.2.2.1 3) (nP V.1) n i = ldM (V.2.2.2.1 3) (nP V.1) 41 0 → ∀ h' : aH, CV h' (tnV V (ldT V.1 (V.2.2.2.1 3) i)) → (∀ a, 63 ≤ a → h' a = h a) → SegP mX5_load 11 (38, [some (.ref 0), some (.int (nI 3)), some (.int (nI i)), some (.int (nI i))], [], nW, h', g, ρ) (enP (enC h (sp_load V (nI 3)))) := by
          intro n
          induction n with
          | zero => intro i hn hi; omega
          | succ n ih =>
            intro i hn hi hP hm h' hv' fr
            have w5 := hv'.2.2.2.2.1 3 (by decide)
            have c8 : h' 1 8 = nI (nP V.1) := (cR0 hv').1.trans ht.np.2
            have done : ¬ (i < (V.2.2.2.1 3).2.1 ∧ i < nP V.1 ∧ gdP 5 ((V.2.2.2.1 3).2.2 i)) → SegP mX5_load 11 (112, [some (.ref 0), some (.int (nI 3)), some (.int (nI i)), some (.int (nI i))], [], nW, h', g, ρ) (enP (enC h (sp_load V (nI 3)))) := by
              intro z
              rw [ld_end z] at hm
              refine SegP.run [] 400 ?_
              exact cid' hv' fr (e i hm)
            refine SegP.run [112] 400 ?_
            refine And.intro (in10 (p := 3) (n := 4) (by decide) (by decide)) ?_
            rw [cl10 (p := 3) (by decide)]
            refine And.intro (fun z1 => ?_) (fun z1 => ?_)
            · have z1 : nI (V.2.2.2.1 3).2.1 ≤ nI i := by rw [← show h' 60 2 = nI (V.2.2.2.1 3).2.1 from w5.2.1]; exact z1
              exact done (fun y => absurd z1 (nI_ge y.1 (by omega)))
            have i1 : i < (V.2.2.2.1 3).2.1 := by
              rcases Nat.lt_or_ge i (V.2.2.2.1 3).2.1 with y | y
              · exact y
              · exact absurd (show h' 60 2 ≤ nI i by rw [show h' 60 2 = nI (V.2.2.2.1 3).2.1 from w5.2.1]; exact nI_le y (by omega)) z1
            refine And.intro (fun z2 => ?_) (fun z2 => ?_)
            · exact done (fun y => absurd (show nI (nP V.1) ≤ nI i by rw [← c8]; exact z2) (nI_ge y.2.1 (by omega)))
            have i2 : i < nP V.1 := by
              rcases Nat.lt_or_ge i (nP V.1) with y | y
              · exact y
              · exact absurd (show h' 1 8 ≤ nI i by rw [c8]; exact nI_le y (by omega)) z2
            have hin40 := in10 (p := i) (n := 40) (by omega) (by decide)
            have ci := cl10 (p := i) (by omega)
            have num : h' (60 + 1) i = (V.2.2.2.1 3).2.2 i := w5.2.2 i i1
            refine And.intro (in10 (p := 3) (n := 4) (by decide) (by decide)) ?_
            rw [cl10 (p := 3) (by decide)]
            refine And.intro hin40 ?_
            rw [ci, show h' 61 i = (V.2.2.2.1 3).2.2 i from num]
            refine SegP.tr (Seg.cS ((tX5_fitsPart 5 ((V.2.2.2.1 3).2.2 i)).ms h' g) mlX5_103 syX5_fitsPart oyX5_fitsPart rfl (by decide) rfl rfl rfl (Nat.le_of_ble_eq_true rfl) (Nat.le_of_ble_eq_true rfl)) ?_
            refine SegP.run [38, 112] 400 ?_
            refine And.intro (fun z3 => ?_) (fun z3 => ?_)
            · have z3 := (bn1 z3).2
              refine And.intro (in10 (p := 3) (n := 4) (by decide) (by decide)) ?_
              rw [cl10 (p := 3) (by decide)]
              refine And.intro hin40 ?_
              refine And.intro (in10 (p := i) (n := 10) (by omega) (by decide)) ?_
              rw [ci, show h' 61 i = (V.2.2.2.1 3).2.2 i from num]
              refine SegP.tr (Seg.of (b := (38, [some (.ref 0), some (.int (nI 3)), some (.int (nI (i + 1))), some (.int (nI (i + 1)))], [], nW, up2 h' 9 i ((V.2.2.2.1 3).2.2 i), g, ρ)) (by rw [nI_succ i] <;> rfl)) ?_
              refine ih (i + 1) (by omega) i1 i2 (by rw [← hm, ld_more ⟨i1, i2, z3⟩]) _ ?_ (fun a ha => by rw [up2_row (by omega)]; exact fr a ha)
              rw [← ldT_s, ← tnV_tn (T := ldT V.1 (V.2.2.2.1 3) i)]
              exact cT (j := 8) hv' (by decide) (show i < 10 by omega)
            · exact done (fun y => bn0 z3 ⟨by decide, y.2.2⟩)
        refine loop 41 0 rfl (Nat.zero_le _) (Nat.zero_le _) rfl h ?_ (fun a _ => rfl)
        rw [ldT_0]
        exact hv
      · refine SegP.tr (Seg.cV (tX5_refuse h g 5 (by decide) (-1000006) (by decide)) mlX5_64 iyX5_refuse seX5_refuse oyX5_refuse rfl (by decide) rfl (by decide) (by decide) rfl rfl rfl rfl (Nat.le_of_ble_eq_true rfl) (Nat.le_of_ble_eq_true rfl)) ?_
        refine SegP.run [] 400 ?_
        exact cfn hv (k := 5) (by decide) (by rw [sp_load, if_pos q0, cl_nI (n := 3) (by decide), if_pos (bq1 zm)])
  · refine SegP.tr (Seg.cV (tX5_refuse h g 0 (by decide) (-1000001) (by decide)) mlX5_64 iyX5_refuse seX5_refuse oyX5_refuse rfl (by decide) rfl (by decide) (by decide) rfl rfl rfl rfl (Nat.le_of_ble_eq_true rfl) (Nat.le_of_ble_eq_true rfl)) ?_
    refine SegP.run [] 400 ?_
    exact cfn hv (k := 0) (by decide) (by rw [sp_load, if_neg (fun y => bn0 z0 y)])
set_option maxRecDepth 100000 in
set_option maxHeartbeats 400000 in
theorem zM_load {V : aV} (hV : VOk V) (s : Int32) : DX mX6_load 11 [.int s] V (sp_load V s) := by
  intro h g hv
  obtain ⟨v1, v2, v3, v4, v5, v6⟩ := id hv
  have ht := hV.1
  refine MX.of okX6_load (by decide +kernel) (Nat.le_of_ble_eq_true rfl) (by decide) rfl (by decide) ?_
  refine SegP.run [] 400 ?_
  refine SegP.tr (Seg.cV (tX6_lacks hV hv s) mlX6_259 iyX6_lacks seX6_lacks oyX6_lacks rfl (by decide) rfl (by decide) (by decide) rfl rfl rfl rfl (Nat.le_of_ble_eq_true rfl) (Nat.le_of_ble_eq_true rfl)) ?_
  refine SegP.run [18] 400 ?_
  by_cases q0 : (0 ≤ s ∧ s ≤ 3)
  · obtain ⟨x, hx, rfl⟩ := rng (a := 0) (b := 3) (by decide) (show nI 0 ≤ s ∧ s ≤ nI 3 from q0) (by decide)
    have hs := hV.2.2.2 x (by omega)
    have v5s := v5 x (by omega)
    by_cases nm : (V.2.2.2.1 x).1 = 0
    · have el : lkI V (nI x) = 5 := by rw [lkI, if_pos q0, cl_nI (by omega), if_pos nm]
      rw [el]
      refine And.intro (fun z => absurd z (by decide : ¬ (5 : Int32) < 0)) (fun _ => ?_)
      refine SegP.tr (Seg.cV (tX6_fd h g 5 (by decide) 5 (by decide) (-1000006) (by decide)) mlX6_51 iyX6_finding seX6_finding oyX6_finding rfl (by decide) rfl (by decide) (by decide) rfl rfl rfl rfl (Nat.le_of_ble_eq_true rfl) (Nat.le_of_ble_eq_true rfl)) ?_
      refine SegP.run [] 400 ?_
      exact mfn hv (k := 5) (by decide) (by rw [sp_load, if_pos q0, cl_nI (by omega), if_pos nm])
    · have el : lkI V (nI x) = -1 := by rw [lkI, if_pos q0, cl_nI (by omega), if_neg nm]
      rw [el]
      refine And.intro (fun _ => ?_) (fun z => absurd (by decide : (-1 : Int32) < 0) z)
      have np10 := ht.np.1
      have e : ∀ m, m = ldM (V.2.2.2.1 x) (nP V.1) 41 0 → sp_load V (nI x) = (nI m, tnV V (ldT V.1 (V.2.2.2.1 x) m)) := fun m hm => by rw [sp_load, if_pos q0, cl_nI (n := x) (by omega), if_neg nm, hm]
      have hin := in10 (p := x) (n := 4) (by omega) (by decide)
      have cx := cl10 (p := x) (by omega)
      have loop : ∀ n i, n + i = 41 → i ≤ (V.2.2.2.1 x).2.1 → i ≤ nP V.1 → ldM (V.2.2.2.1 x) (nP V.1) n i = ldM (V.2.2.2.1 x) (nP V.1) 41 0 → (∀ k, k < i → gdP 5 ((V.2.2.2.1 x).2.2 k)) → ∀ h' : aH, MV h' (tnV V (ldT V.1 (V.2.2.2.1 x) i)) → (∀ a, a < 63 → h' a = h a) → SegP mX6_load 11 (18, [some (.ref 63), some (.int (nI x)), some (.int (-1)), some (.int (nI i))], [], nW, h', g, ρ) (enP (enM h (sp_load V (nI x)))) := by
        intro n
        induction n with
        | zero => intro i hn hi; omega
        | succ n ih =>
          intro i hn hi hP hm hg h' hv' fr
          have w5 := hv'.2.2.2.2.1 x (by omega)
          have hti : TOk (ldT V.1 (V.2.2.2.1 x) i) := ldT_ok ht i hg
          have done : ¬ (i < (V.2.2.2.1 x).2.1 ∧ i < nP V.1 ∧ gdP 5 ((V.2.2.2.1 x).2.2 i)) → SegP mX6_load 11 (85, [some (.ref 63), some (.int (nI x)), some (.int (-1)), some (.int (nI i))], [], nW, h', g, ρ) (enP (enM h (sp_load V (nI x)))) := by
            intro z
            rw [ld_end z] at hm
            refine SegP.run [] 400 ?_
            exact mid' hv' fr (e i hm)
          have ei : (40 : Int32) * nI x + nI i = nI (40 * x + i) := by rw [show (40 : Int32) = nI 40 from rfl, nI_ml, nI_ad]
          have hin160 : vp_in ((40 : Int32) * nI x + nI i) 160 := by rw [ei]; exact in10 (by omega) (by decide)
          have c160 : ((40 : Int32) * nI x + nI i).toNatClampNeg = 40 * x + i := by rw [ei]; exact cl10 (by omega)
          refine SegP.run [85] 400 ?_
          refine And.intro hin ?_
          rw [cx, show h' 73 x = nI (V.2.2.2.1 x).2.1 from w5.2.1]
          refine And.intro (fun z1 => ?_) (fun z1 => ?_)
          · exact done (fun y => absurd z1 (nI_ge y.1 (by omega)))
          have i1 : i < (V.2.2.2.1 x).2.1 := by
            rcases Nat.lt_or_ge i (V.2.2.2.1 x).2.1 with y | y
            · exact y
            · exact absurd (nI_le y (by omega)) z1
          refine SegP.tr (Seg.cV (tX6_isPromise hti hv'.1 (nI i)) mlX6_161 iyX6_isPromise seX6_isPromise oyX6_isPromise rfl (by decide) rfl (by decide) (by decide) rfl rfl rfl rfl (Nat.le_of_ble_eq_true rfl) (Nat.le_of_ble_eq_true rfl)) ?_
          refine SegP.run [85] 400 ?_
          refine And.intro (fun z2 => ?_) (fun z2 => ?_)
          · exact done (fun y => bq0 z2 (isP_of hti y.2.1))
          have i2 : i < nP V.1 := by
            obtain ⟨k, k1, k2⟩ := isP_N hti (bq1 z2)
            have := (nI_eq (by omega) (by have := hti.np.1; omega)).mp k2
            subst this
            exact k1
          have num : h' 74 (40 * x + i) = (V.2.2.2.1 x).2.2 i := w5.2.2 i i1
          refine And.intro hin160 ?_
          rw [c160, num]
          refine SegP.tr (Seg.cS ((tX6_isGood 5 ((V.2.2.2.1 x).2.2 i)).ms h' g) mlX6_158 syX6_isGood oyX6_isGood rfl (by decide) rfl rfl rfl (Nat.le_of_ble_eq_true rfl) (Nat.le_of_ble_eq_true rfl)) ?_
          refine SegP.run [18, 85] 400 ?_
          refine And.intro (fun z3 => ?_) (fun z3 => ?_)
          · exact done (fun y => bq0 z3 y.2.2)
          have z3 := bq1 z3
          refine And.intro hin160 ?_
          have e6 : (20 : Int32) + 6 * nI i + 5 = nI (20 + 6 * i + 5) := idx6 i 5
          refine And.intro (by rw [e6]; exact in10 (by omega) (by decide)) ?_
          rw [c160, num, e6, cl10 (p := 20 + 6 * i + 5) (by omega)]
          refine SegP.tr (Seg.of (b := (18, [some (.ref 63), some (.int (nI x)), some (.int (-1)), some (.int (nI (i + 1)))], [], nW, up2 h' 64 (20 + 6 * i + 5) ((V.2.2.2.1 x).2.2 i), g, ρ)) (by rw [nI_succ i] <;> rfl)) ?_
          refine ih (i + 1) (by omega) i1 i2 (by rw [← hm, ld_more ⟨i1, i2, z3⟩]) (fun k hk => ?_) _ ?_ (fun a ha => by rw [up2_row (by omega)]; exact fr a ha)
          · by_cases y : k = i
            · subst y; exact z3
            · exact hg k (by omega)
          rw [← ldT_s, ← tnV_tn (T := ldT V.1 (V.2.2.2.1 x) i)]
          exact dT (j := 8) hv' (show i < 10 by omega) rfl
      refine loop 41 0 rfl (Nat.zero_le _) (Nat.zero_le _) rfl (fun k hk => absurd hk (Nat.not_lt_zero _)) h ?_ (fun a _ => rfl)
      rw [ldT_0]
      exact hv
  · have el : lkI V s = 0 := by rw [lkI, if_neg q0]
    rw [el]
    refine And.intro (fun z => absurd z (by decide : ¬ (0 : Int32) < 0)) (fun _ => ?_)
    refine SegP.tr (Seg.cV (tX6_fd h g 0 (by decide) 0 (by decide) (-1000001) (by decide)) mlX6_51 iyX6_finding seX6_finding oyX6_finding rfl (by decide) rfl (by decide) (by decide) rfl rfl rfl rfl (Nat.le_of_ble_eq_true rfl) (Nat.le_of_ble_eq_true rfl)) ?_
    refine SegP.run [] 400 ?_
    exact mfn hv (k := 0) (by decide) (by rw [sp_load, if_neg q0])
/-- is the i-th number right -/
def jdR (T : aH) (f : Nat → Int32) (i : Nat) : Prop := if i % 2 = 0 then (0 ≤ f i ∧ f i ≤ 255) else f i = kept T (f (i - 1))
/-- the first that is not, or how many there are -/
noncomputable def jdM (T : aH) (q : Nat × Nat × (Nat → Int32)) : Nat → Nat → Nat
  | 0, i => i
  | n + 1, i => @ite _ (i < q.2.1 ∧ jdR T q.2.2 i) (Classical.propDecidable _) (jdM T q n (i + 1)) i
theorem jd_more {T : aH} {q : Nat × Nat × (Nat → Int32)} {n i : Nat} (h : i < q.2.1 ∧ jdR T q.2.2 i) : jdM T q (n + 1) i = jdM T q n (i + 1) := by
  show @ite _ _ (Classical.propDecidable _) _ _ = _
  exact if_pos h
theorem jd_end {T : aH} {q : Nat × Nat × (Nat → Int32)} {n i : Nat} (h : ¬ (i < q.2.1 ∧ jdR T q.2.2 i)) : jdM T q (n + 1) i = i := by
  show @ite _ _ (Classical.propDecidable _) _ _ = _
  exact if_neg h
/-- the answer -/
def jdA (sz m : Nat) : Int32 := if m = sz ∧ sz % 2 = 0 then 0 else nI (1 + m)
theorem mod2 {i : Nat} (h : i < 2 ^ 31) : jrem (nI i) 2 = nI (i % 2) := jrem_nI (b := 2) h (by decide)
set_option maxRecDepth 100000 in
set_option maxHeartbeats 400000 in
theorem tX2_firstWrong_54 {h T : aH} {g : aG} (v1 : tw h 1 = T) (ht : TOk T) (q : Nat × Nat × (Nat → Int32)) (hz : q.2.1 ≤ 40) (e2 : h 54 2 = nI q.2.1) (e3 : ∀ i, i < q.2.1 → h (54 + 1) i = q.2.2 i) : MS mX2_firstWrong 4 [.ref 54, .ref 1] h g [.int (jdA q.2.1 (jdM T q 41 0))] h g := by
  refine MS.of okX2_firstWrong (by decide +kernel) (Nat.le_of_ble_eq_true rfl) (by decide) rfl (by decide) ?_
  have loop : ∀ n i, n + i = 41 → i ≤ q.2.1 → jdM T q n i = jdM T q 41 0 → Seg mX2_firstWrong 4 (2, [some (.ref 54), some (.ref 1), some (.int (nI i)), none], [], nW, h, g, ρ) (aRET, [], [.int (jdA q.2.1 (jdM T q 41 0))], nW, h, g, ρ) := by
    intro n
    induction n with
    | zero => intro i hn hi; omega
    | succ n ih =>
      intro i hn hi hm
      have hin40 : i < q.2.1 → vp_in (nI i) 40 := fun y => in10 (by omega) (by decide)
      have ci := cl10 (p := i) (by omega)
      have fin : i < q.2.1 → ∀ x : Int32, (x = 1 ∧ jdR T q.2.2 i) ∨ (x = 0 ∧ ¬ jdR T q.2.2 i) → Seg mX2_firstWrong 4 (54, [some (.ref 54), some (.ref 1), some (.int (nI i)), none], [.int x], nW, h, g, ρ) (aRET, [], [.int (jdA q.2.1 (jdM T q 41 0))], nW, h, g, ρ) := by
        rintro i1 x (⟨rfl, y⟩ | ⟨rfl, y⟩)
        · refine Seg.run [2] 400 ?_
          refine And.intro (fun _ => ?_) (fun z => absurd (by decide : ¬ (1 : Int32) = 0) z)
          refine Seg.tr (Seg.fg 3) ?_
          refine Seg.tr (Seg.of (b := (2, [some (.ref 54), some (.ref 1), some (.int (nI (i + 1))), none], [], nW, h, g, ρ)) (by rw [nI_succ i] <;> rfl)) ?_
          exact ih (i + 1) (by omega) i1 (by rw [← hm, jd_more ⟨i1, y⟩])
        · refine Seg.run [] 400 ?_
          refine And.intro (fun z => absurd rfl z) (fun _ => ?_)
          rw [jd_end (fun w => y w.2)] at hm
          exact Seg.ri (by rw [← hm, jdA, if_neg (by omega), ← nI_ad]; rfl)
      refine Seg.run [54] 400 ?_
      refine And.intro (fun z => ?_) (fun z => ?_)
      · have i1 : i = q.2.1 := by
          rcases Nat.lt_or_ge i q.2.1 with y | y
          · exact absurd (show nI q.2.1 ≤ nI i by rw [← e2]; exact z) (nI_ge y (by omega))
          · omega
        rw [jd_end (fun w => by omega)] at hm
        refine And.intro (by decide) ?_
        have e4 : jrem (h 54 2) 2 = nI (q.2.1 % 2) := by rw [e2]; exact mod2 (by omega)
        have e5 : nI (q.2.1 % 2) = 0 ↔ q.2.1 % 2 = 0 := nI_eq (b := 0) (by omega) (by decide)
        refine And.intro (fun z2 => ?_) (fun z2 => ?_)
        · have z3 : ¬ q.2.1 % 2 = 0 := fun y => z2 (by rw [e4]; exact e5.mpr y)
          exact Seg.ri (by rw [← hm, jdA, if_neg (fun y => z3 y.2), e2, i1, ← nI_ad]; rfl)
        · have z3 : q.2.1 % 2 = 0 := e5.mp (by rw [← e4]; exact Decidable.not_not.mp z2)
          exact Seg.ri (by rw [← hm, jdA, if_pos ⟨i1, z3⟩])
      have i1 : i < q.2.1 := by
        rcases Nat.lt_or_ge i q.2.1 with y | y
        · exact y
        · exact absurd (show h 54 2 ≤ nI i by rw [e2]; exact nI_le y (by omega)) z
      have e5 : nI (i % 2) = 0 ↔ i % 2 = 0 := nI_eq (b := 0) (by omega) (by decide)
      refine And.intro (by decide) ?_
      rw [mod2 (by omega)]
      refine And.intro (fun z2 => ?_) (fun z2 => ?_)
      · have z3 : ¬ i % 2 = 0 := fun y => z2 (e5.mpr y)
        have em : nI i - 1 = nI (i - 1) := nI_sb (b := 1) (by omega)
        have hk := tX4_keptIn h g (by rw [v1]; exact ht) (q.2.2 (i - 1))
        rw [v1] at hk
        refine And.intro (hin40 i1) ?_
        refine And.intro (by rw [em]; exact in10 (by omega) (by decide)) ?_
        rw [em, cl10 (p := i - 1) (by omega), ci, show h 55 i = q.2.2 i from e3 i i1, show h 55 (i - 1) = q.2.2 (i - 1) from e3 (i - 1) (by omega)]
        refine Seg.tr (Seg.cV hk mlX2_39 iyX4_keptIn seX4_keptIn oyX4_keptIn rfl (by decide) rfl (by decide) (by decide) rfl rfl rfl rfl (Nat.le_of_ble_eq_true rfl) (Nat.le_of_ble_eq_true rfl)) ?_
        refine Seg.run [54] 400 ?_
        have jr : jdR T q.2.2 i ↔ q.2.2 i = kept T (q.2.2 (i - 1)) := by unfold jdR; rw [if_neg z3]
        refine And.intro (fun z4 => ?_) (fun z4 => ?_)
        · exact fin i1 0 (Or.inr ⟨rfl, fun y => z4 (jr.mp y)⟩)
        · exact fin i1 1 (Or.inl ⟨rfl, jr.mpr (Decidable.not_not.mp z4)⟩)
      · have z3 : i % 2 = 0 := e5.mp (Decidable.not_not.mp z2)
        have jr : jdR T q.2.2 i ↔ (0 ≤ q.2.2 i ∧ q.2.2 i ≤ 255) := by unfold jdR; rw [if_pos z3]
        refine And.intro (hin40 i1) ?_
        rw [ci, show h 55 i = q.2.2 i from e3 i i1]
        refine Seg.tr (Seg.cN ((tX5_isThrow (q.2.2 i)).ms h g) (by decide +kernel) syX5_isThrow oyX5_isThrow rfl (by decide) rfl rfl rfl (Nat.le_of_ble_eq_true rfl) (Nat.le_of_ble_eq_true rfl)) ?_
        refine Seg.run [54] 400 ?_
        by_cases y : (0 ≤ q.2.2 i ∧ q.2.2 i ≤ 255)
        · rw [bI_t y]; exact fin i1 1 (Or.inl ⟨rfl, jr.mpr y⟩)
        · rw [bI_f y]; exact fin i1 0 (Or.inr ⟨rfl, fun w => y (jr.mp w)⟩)
  refine Seg.run [2] 400 ?_
  exact loop 41 0 rfl (Nat.zero_le _) rfl
set_option maxRecDepth 100000 in
set_option maxHeartbeats 400000 in
theorem tX2_firstWrong_56 {h T : aH} {g : aG} (v1 : tw h 1 = T) (ht : TOk T) (q : Nat × Nat × (Nat → Int32)) (hz : q.2.1 ≤ 40) (e2 : h 56 2 = nI q.2.1) (e3 : ∀ i, i < q.2.1 → h (56 + 1) i = q.2.2 i) : MS mX2_firstWrong 4 [.ref 56, .ref 1] h g [.int (jdA q.2.1 (jdM T q 41 0))] h g := by
  refine MS.of okX2_firstWrong (by decide +kernel) (Nat.le_of_ble_eq_true rfl) (by decide) rfl (by decide) ?_
  have loop : ∀ n i, n + i = 41 → i ≤ q.2.1 → jdM T q n i = jdM T q 41 0 → Seg mX2_firstWrong 4 (2, [some (.ref 56), some (.ref 1), some (.int (nI i)), none], [], nW, h, g, ρ) (aRET, [], [.int (jdA q.2.1 (jdM T q 41 0))], nW, h, g, ρ) := by
    intro n
    induction n with
    | zero => intro i hn hi; omega
    | succ n ih =>
      intro i hn hi hm
      have hin40 : i < q.2.1 → vp_in (nI i) 40 := fun y => in10 (by omega) (by decide)
      have ci := cl10 (p := i) (by omega)
      have fin : i < q.2.1 → ∀ x : Int32, (x = 1 ∧ jdR T q.2.2 i) ∨ (x = 0 ∧ ¬ jdR T q.2.2 i) → Seg mX2_firstWrong 4 (54, [some (.ref 56), some (.ref 1), some (.int (nI i)), none], [.int x], nW, h, g, ρ) (aRET, [], [.int (jdA q.2.1 (jdM T q 41 0))], nW, h, g, ρ) := by
        rintro i1 x (⟨rfl, y⟩ | ⟨rfl, y⟩)
        · refine Seg.run [2] 400 ?_
          refine And.intro (fun _ => ?_) (fun z => absurd (by decide : ¬ (1 : Int32) = 0) z)
          refine Seg.tr (Seg.fg 3) ?_
          refine Seg.tr (Seg.of (b := (2, [some (.ref 56), some (.ref 1), some (.int (nI (i + 1))), none], [], nW, h, g, ρ)) (by rw [nI_succ i] <;> rfl)) ?_
          exact ih (i + 1) (by omega) i1 (by rw [← hm, jd_more ⟨i1, y⟩])
        · refine Seg.run [] 400 ?_
          refine And.intro (fun z => absurd rfl z) (fun _ => ?_)
          rw [jd_end (fun w => y w.2)] at hm
          exact Seg.ri (by rw [← hm, jdA, if_neg (by omega), ← nI_ad]; rfl)
      refine Seg.run [54] 400 ?_
      refine And.intro (fun z => ?_) (fun z => ?_)
      · have i1 : i = q.2.1 := by
          rcases Nat.lt_or_ge i q.2.1 with y | y
          · exact absurd (show nI q.2.1 ≤ nI i by rw [← e2]; exact z) (nI_ge y (by omega))
          · omega
        rw [jd_end (fun w => by omega)] at hm
        refine And.intro (by decide) ?_
        have e4 : jrem (h 56 2) 2 = nI (q.2.1 % 2) := by rw [e2]; exact mod2 (by omega)
        have e5 : nI (q.2.1 % 2) = 0 ↔ q.2.1 % 2 = 0 := nI_eq (b := 0) (by omega) (by decide)
        refine And.intro (fun z2 => ?_) (fun z2 => ?_)
        · have z3 : ¬ q.2.1 % 2 = 0 := fun y => z2 (by rw [e4]; exact e5.mpr y)
          exact Seg.ri (by rw [← hm, jdA, if_neg (fun y => z3 y.2), e2, i1, ← nI_ad]; rfl)
        · have z3 : q.2.1 % 2 = 0 := e5.mp (by rw [← e4]; exact Decidable.not_not.mp z2)
          exact Seg.ri (by rw [← hm, jdA, if_pos ⟨i1, z3⟩])
      have i1 : i < q.2.1 := by
        rcases Nat.lt_or_ge i q.2.1 with y | y
        · exact y
        · exact absurd (show h 56 2 ≤ nI i by rw [e2]; exact nI_le y (by omega)) z
      have e5 : nI (i % 2) = 0 ↔ i % 2 = 0 := nI_eq (b := 0) (by omega) (by decide)
      refine And.intro (by decide) ?_
      rw [mod2 (by omega)]
      refine And.intro (fun z2 => ?_) (fun z2 => ?_)
      · have z3 : ¬ i % 2 = 0 := fun y => z2 (e5.mpr y)
        have em : nI i - 1 = nI (i - 1) := nI_sb (b := 1) (by omega)
        have hk := tX4_keptIn h g (by rw [v1]; exact ht) (q.2.2 (i - 1))
        rw [v1] at hk
        refine And.intro (hin40 i1) ?_
        refine And.intro (by rw [em]; exact in10 (by omega) (by decide)) ?_
        rw [em, cl10 (p := i - 1) (by omega), ci, show h 57 i = q.2.2 i from e3 i i1, show h 57 (i - 1) = q.2.2 (i - 1) from e3 (i - 1) (by omega)]
        refine Seg.tr (Seg.cV hk mlX2_39 iyX4_keptIn seX4_keptIn oyX4_keptIn rfl (by decide) rfl (by decide) (by decide) rfl rfl rfl rfl (Nat.le_of_ble_eq_true rfl) (Nat.le_of_ble_eq_true rfl)) ?_
        refine Seg.run [54] 400 ?_
        have jr : jdR T q.2.2 i ↔ q.2.2 i = kept T (q.2.2 (i - 1)) := by unfold jdR; rw [if_neg z3]
        refine And.intro (fun z4 => ?_) (fun z4 => ?_)
        · exact fin i1 0 (Or.inr ⟨rfl, fun y => z4 (jr.mp y)⟩)
        · exact fin i1 1 (Or.inl ⟨rfl, jr.mpr (Decidable.not_not.mp z4)⟩)
      · have z3 : i % 2 = 0 := e5.mp (Decidable.not_not.mp z2)
        have jr : jdR T q.2.2 i ↔ (0 ≤ q.2.2 i ∧ q.2.2 i ≤ 255) := by unfold jdR; rw [if_pos z3]
        refine And.intro (hin40 i1) ?_
        rw [ci, show h 57 i = q.2.2 i from e3 i i1]
        refine Seg.tr (Seg.cN ((tX5_isThrow (q.2.2 i)).ms h g) (by decide +kernel) syX5_isThrow oyX5_isThrow rfl (by decide) rfl rfl rfl (Nat.le_of_ble_eq_true rfl) (Nat.le_of_ble_eq_true rfl)) ?_
        refine Seg.run [54] 400 ?_
        by_cases y : (0 ≤ q.2.2 i ∧ q.2.2 i ≤ 255)
        · rw [bI_t y]; exact fin i1 1 (Or.inl ⟨rfl, jr.mpr y⟩)
        · rw [bI_f y]; exact fin i1 0 (Or.inr ⟨rfl, fun w => y (jr.mp w)⟩)
  refine Seg.run [2] 400 ?_
  exact loop 41 0 rfl (Nat.zero_le _) rfl
set_option maxRecDepth 100000 in
set_option maxHeartbeats 400000 in
theorem tX2_firstWrong_58 {h T : aH} {g : aG} (v1 : tw h 1 = T) (ht : TOk T) (q : Nat × Nat × (Nat → Int32)) (hz : q.2.1 ≤ 40) (e2 : h 58 2 = nI q.2.1) (e3 : ∀ i, i < q.2.1 → h (58 + 1) i = q.2.2 i) : MS mX2_firstWrong 4 [.ref 58, .ref 1] h g [.int (jdA q.2.1 (jdM T q 41 0))] h g := by
  refine MS.of okX2_firstWrong (by decide +kernel) (Nat.le_of_ble_eq_true rfl) (by decide) rfl (by decide) ?_
  have loop : ∀ n i, n + i = 41 → i ≤ q.2.1 → jdM T q n i = jdM T q 41 0 → Seg mX2_firstWrong 4 (2, [some (.ref 58), some (.ref 1), some (.int (nI i)), none], [], nW, h, g, ρ) (aRET, [], [.int (jdA q.2.1 (jdM T q 41 0))], nW, h, g, ρ) := by
    intro n
    induction n with
    | zero => intro i hn hi; omega
    | succ n ih =>
      intro i hn hi hm
      have hin40 : i < q.2.1 → vp_in (nI i) 40 := fun y => in10 (by omega) (by decide)
      have ci := cl10 (p := i) (by omega)
      have fin : i < q.2.1 → ∀ x : Int32, (x = 1 ∧ jdR T q.2.2 i) ∨ (x = 0 ∧ ¬ jdR T q.2.2 i) → Seg mX2_firstWrong 4 (54, [some (.ref 58), some (.ref 1), some (.int (nI i)), none], [.int x], nW, h, g, ρ) (aRET, [], [.int (jdA q.2.1 (jdM T q 41 0))], nW, h, g, ρ) := by
        rintro i1 x (⟨rfl, y⟩ | ⟨rfl, y⟩)
        · refine Seg.run [2] 400 ?_
          refine And.intro (fun _ => ?_) (fun z => absurd (by decide : ¬ (1 : Int32) = 0) z)
          refine Seg.tr (Seg.fg 3) ?_
          refine Seg.tr (Seg.of (b := (2, [some (.ref 58), some (.ref 1), some (.int (nI (i + 1))), none], [], nW, h, g, ρ)) (by rw [nI_succ i] <;> rfl)) ?_
          exact ih (i + 1) (by omega) i1 (by rw [← hm, jd_more ⟨i1, y⟩])
        · refine Seg.run [] 400 ?_
          refine And.intro (fun z => absurd rfl z) (fun _ => ?_)
          rw [jd_end (fun w => y w.2)] at hm
          exact Seg.ri (by rw [← hm, jdA, if_neg (by omega), ← nI_ad]; rfl)
      refine Seg.run [54] 400 ?_
      refine And.intro (fun z => ?_) (fun z => ?_)
      · have i1 : i = q.2.1 := by
          rcases Nat.lt_or_ge i q.2.1 with y | y
          · exact absurd (show nI q.2.1 ≤ nI i by rw [← e2]; exact z) (nI_ge y (by omega))
          · omega
        rw [jd_end (fun w => by omega)] at hm
        refine And.intro (by decide) ?_
        have e4 : jrem (h 58 2) 2 = nI (q.2.1 % 2) := by rw [e2]; exact mod2 (by omega)
        have e5 : nI (q.2.1 % 2) = 0 ↔ q.2.1 % 2 = 0 := nI_eq (b := 0) (by omega) (by decide)
        refine And.intro (fun z2 => ?_) (fun z2 => ?_)
        · have z3 : ¬ q.2.1 % 2 = 0 := fun y => z2 (by rw [e4]; exact e5.mpr y)
          exact Seg.ri (by rw [← hm, jdA, if_neg (fun y => z3 y.2), e2, i1, ← nI_ad]; rfl)
        · have z3 : q.2.1 % 2 = 0 := e5.mp (by rw [← e4]; exact Decidable.not_not.mp z2)
          exact Seg.ri (by rw [← hm, jdA, if_pos ⟨i1, z3⟩])
      have i1 : i < q.2.1 := by
        rcases Nat.lt_or_ge i q.2.1 with y | y
        · exact y
        · exact absurd (show h 58 2 ≤ nI i by rw [e2]; exact nI_le y (by omega)) z
      have e5 : nI (i % 2) = 0 ↔ i % 2 = 0 := nI_eq (b := 0) (by omega) (by decide)
      refine And.intro (by decide) ?_
      rw [mod2 (by omega)]
      refine And.intro (fun z2 => ?_) (fun z2 => ?_)
      · have z3 : ¬ i % 2 = 0 := fun y => z2 (e5.mpr y)
        have em : nI i - 1 = nI (i - 1) := nI_sb (b := 1) (by omega)
        have hk := tX4_keptIn h g (by rw [v1]; exact ht) (q.2.2 (i - 1))
        rw [v1] at hk
        refine And.intro (hin40 i1) ?_
        refine And.intro (by rw [em]; exact in10 (by omega) (by decide)) ?_
        rw [em, cl10 (p := i - 1) (by omega), ci, show h 59 i = q.2.2 i from e3 i i1, show h 59 (i - 1) = q.2.2 (i - 1) from e3 (i - 1) (by omega)]
        refine Seg.tr (Seg.cV hk mlX2_39 iyX4_keptIn seX4_keptIn oyX4_keptIn rfl (by decide) rfl (by decide) (by decide) rfl rfl rfl rfl (Nat.le_of_ble_eq_true rfl) (Nat.le_of_ble_eq_true rfl)) ?_
        refine Seg.run [54] 400 ?_
        have jr : jdR T q.2.2 i ↔ q.2.2 i = kept T (q.2.2 (i - 1)) := by unfold jdR; rw [if_neg z3]
        refine And.intro (fun z4 => ?_) (fun z4 => ?_)
        · exact fin i1 0 (Or.inr ⟨rfl, fun y => z4 (jr.mp y)⟩)
        · exact fin i1 1 (Or.inl ⟨rfl, jr.mpr (Decidable.not_not.mp z4)⟩)
      · have z3 : i % 2 = 0 := e5.mp (Decidable.not_not.mp z2)
        have jr : jdR T q.2.2 i ↔ (0 ≤ q.2.2 i ∧ q.2.2 i ≤ 255) := by unfold jdR; rw [if_pos z3]
        refine And.intro (hin40 i1) ?_
        rw [ci, show h 59 i = q.2.2 i from e3 i i1]
        refine Seg.tr (Seg.cN ((tX5_isThrow (q.2.2 i)).ms h g) (by decide +kernel) syX5_isThrow oyX5_isThrow rfl (by decide) rfl rfl rfl (Nat.le_of_ble_eq_true rfl) (Nat.le_of_ble_eq_true rfl)) ?_
        refine Seg.run [54] 400 ?_
        by_cases y : (0 ≤ q.2.2 i ∧ q.2.2 i ≤ 255)
        · rw [bI_t y]; exact fin i1 1 (Or.inl ⟨rfl, jr.mpr y⟩)
        · rw [bI_f y]; exact fin i1 0 (Or.inr ⟨rfl, fun w => y (jr.mp w)⟩)
  refine Seg.run [2] 400 ?_
  exact loop 41 0 rfl (Nat.zero_le _) rfl
set_option maxRecDepth 100000 in
set_option maxHeartbeats 400000 in
theorem tX2_firstWrong_60 {h T : aH} {g : aG} (v1 : tw h 1 = T) (ht : TOk T) (q : Nat × Nat × (Nat → Int32)) (hz : q.2.1 ≤ 40) (e2 : h 60 2 = nI q.2.1) (e3 : ∀ i, i < q.2.1 → h (60 + 1) i = q.2.2 i) : MS mX2_firstWrong 4 [.ref 60, .ref 1] h g [.int (jdA q.2.1 (jdM T q 41 0))] h g := by
  refine MS.of okX2_firstWrong (by decide +kernel) (Nat.le_of_ble_eq_true rfl) (by decide) rfl (by decide) ?_
  have loop : ∀ n i, n + i = 41 → i ≤ q.2.1 → jdM T q n i = jdM T q 41 0 → Seg mX2_firstWrong 4 (2, [some (.ref 60), some (.ref 1), some (.int (nI i)), none], [], nW, h, g, ρ) (aRET, [], [.int (jdA q.2.1 (jdM T q 41 0))], nW, h, g, ρ) := by
    intro n
    induction n with
    | zero => intro i hn hi; omega
    | succ n ih =>
      intro i hn hi hm
      have hin40 : i < q.2.1 → vp_in (nI i) 40 := fun y => in10 (by omega) (by decide)
      have ci := cl10 (p := i) (by omega)
      have fin : i < q.2.1 → ∀ x : Int32, (x = 1 ∧ jdR T q.2.2 i) ∨ (x = 0 ∧ ¬ jdR T q.2.2 i) → Seg mX2_firstWrong 4 (54, [some (.ref 60), some (.ref 1), some (.int (nI i)), none], [.int x], nW, h, g, ρ) (aRET, [], [.int (jdA q.2.1 (jdM T q 41 0))], nW, h, g, ρ) := by
        rintro i1 x (⟨rfl, y⟩ | ⟨rfl, y⟩)
        · refine Seg.run [2] 400 ?_
          refine And.intro (fun _ => ?_) (fun z => absurd (by decide : ¬ (1 : Int32) = 0) z)
          refine Seg.tr (Seg.fg 3) ?_
          refine Seg.tr (Seg.of (b := (2, [some (.ref 60), some (.ref 1), some (.int (nI (i + 1))), none], [], nW, h, g, ρ)) (by rw [nI_succ i] <;> rfl)) ?_
          exact ih (i + 1) (by omega) i1 (by rw [← hm, jd_more ⟨i1, y⟩])
        · refine Seg.run [] 400 ?_
          refine And.intro (fun z => absurd rfl z) (fun _ => ?_)
          rw [jd_end (fun w => y w.2)] at hm
          exact Seg.ri (by rw [← hm, jdA, if_neg (by omega), ← nI_ad]; rfl)
      refine Seg.run [54] 400 ?_
      refine And.intro (fun z => ?_) (fun z => ?_)
      · have i1 : i = q.2.1 := by
          rcases Nat.lt_or_ge i q.2.1 with y | y
          · exact absurd (show nI q.2.1 ≤ nI i by rw [← e2]; exact z) (nI_ge y (by omega))
          · omega
        rw [jd_end (fun w => by omega)] at hm
        refine And.intro (by decide) ?_
        have e4 : jrem (h 60 2) 2 = nI (q.2.1 % 2) := by rw [e2]; exact mod2 (by omega)
        have e5 : nI (q.2.1 % 2) = 0 ↔ q.2.1 % 2 = 0 := nI_eq (b := 0) (by omega) (by decide)
        refine And.intro (fun z2 => ?_) (fun z2 => ?_)
        · have z3 : ¬ q.2.1 % 2 = 0 := fun y => z2 (by rw [e4]; exact e5.mpr y)
          exact Seg.ri (by rw [← hm, jdA, if_neg (fun y => z3 y.2), e2, i1, ← nI_ad]; rfl)
        · have z3 : q.2.1 % 2 = 0 := e5.mp (by rw [← e4]; exact Decidable.not_not.mp z2)
          exact Seg.ri (by rw [← hm, jdA, if_pos ⟨i1, z3⟩])
      have i1 : i < q.2.1 := by
        rcases Nat.lt_or_ge i q.2.1 with y | y
        · exact y
        · exact absurd (show h 60 2 ≤ nI i by rw [e2]; exact nI_le y (by omega)) z
      have e5 : nI (i % 2) = 0 ↔ i % 2 = 0 := nI_eq (b := 0) (by omega) (by decide)
      refine And.intro (by decide) ?_
      rw [mod2 (by omega)]
      refine And.intro (fun z2 => ?_) (fun z2 => ?_)
      · have z3 : ¬ i % 2 = 0 := fun y => z2 (e5.mpr y)
        have em : nI i - 1 = nI (i - 1) := nI_sb (b := 1) (by omega)
        have hk := tX4_keptIn h g (by rw [v1]; exact ht) (q.2.2 (i - 1))
        rw [v1] at hk
        refine And.intro (hin40 i1) ?_
        refine And.intro (by rw [em]; exact in10 (by omega) (by decide)) ?_
        rw [em, cl10 (p := i - 1) (by omega), ci, show h 61 i = q.2.2 i from e3 i i1, show h 61 (i - 1) = q.2.2 (i - 1) from e3 (i - 1) (by omega)]
        refine Seg.tr (Seg.cV hk mlX2_39 iyX4_keptIn seX4_keptIn oyX4_keptIn rfl (by decide) rfl (by decide) (by decide) rfl rfl rfl rfl (Nat.le_of_ble_eq_true rfl) (Nat.le_of_ble_eq_true rfl)) ?_
        refine Seg.run [54] 400 ?_
        have jr : jdR T q.2.2 i ↔ q.2.2 i = kept T (q.2.2 (i - 1)) := by unfold jdR; rw [if_neg z3]
        refine And.intro (fun z4 => ?_) (fun z4 => ?_)
        · exact fin i1 0 (Or.inr ⟨rfl, fun y => z4 (jr.mp y)⟩)
        · exact fin i1 1 (Or.inl ⟨rfl, jr.mpr (Decidable.not_not.mp z4)⟩)
      · have z3 : i % 2 = 0 := e5.mp (Decidable.not_not.mp z2)
        have jr : jdR T q.2.2 i ↔ (0 ≤ q.2.2 i ∧ q.2.2 i ≤ 255) := by unfold jdR; rw [if_pos z3]
        refine And.intro (hin40 i1) ?_
        rw [ci, show h 61 i = q.2.2 i from e3 i i1]
        refine Seg.tr (Seg.cN ((tX5_isThrow (q.2.2 i)).ms h g) (by decide +kernel) syX5_isThrow oyX5_isThrow rfl (by decide) rfl rfl rfl (Nat.le_of_ble_eq_true rfl) (Nat.le_of_ble_eq_true rfl)) ?_
        refine Seg.run [54] 400 ?_
        by_cases y : (0 ≤ q.2.2 i ∧ q.2.2 i ≤ 255)
        · rw [bI_t y]; exact fin i1 1 (Or.inl ⟨rfl, jr.mpr y⟩)
        · rw [bI_f y]; exact fin i1 0 (Or.inr ⟨rfl, fun w => y (jr.mp w)⟩)
  refine Seg.run [2] 400 ?_
  exact loop 41 0 rfl (Nat.zero_le _) rfl
noncomputable def sp_judge (V : aV) (s : Int32) : Int32 × aV := if (0 ≤ s ∧ s ≤ 3) then (if (V.2.2.2.1 (cl s)).1 = 0 then fnd V 5 (-1000006) else (jdA (V.2.2.2.1 (cl s)).2.1 (jdM V.1 (V.2.2.2.1 (cl s)) 41 0), V)) else fnd V 0 (-1000001)
set_option maxRecDepth 100000 in
set_option maxHeartbeats 400000 in
theorem zC_judge {V : aV} (hV : VOk V) (s : Int32) : CX mX5_judge 11 [.int s] V (sp_judge V s) := by
  intro h g hv
  obtain ⟨v1, v2, v3, v4, v5, v6⟩ := id hv
  have ht := hV.1
  refine MX.of okX5_judge (by decide +kernel) (Nat.le_of_ble_eq_true rfl) (by decide) rfl (by decide) ?_
  refine SegP.run [] 400 ?_
  refine SegP.tr (Seg.cS ((tX5_isSheet s).ms h g) mlX5_265 syX5_isSheet oyX5_isSheet rfl (by decide) rfl rfl rfl (Nat.le_of_ble_eq_true rfl) (Nat.le_of_ble_eq_true rfl)) ?_
  refine SegP.run [] 400 ?_
  refine And.intro (fun z0 => ?_) (fun z0 => ?_)
  · have q0 := bn1 z0
    obtain ⟨x, hx, rfl⟩ := rng (a := 0) (b := 3) (by decide) (show nI 0 ≤ s ∧ s ≤ nI 3 from q0) (by decide)
    refine And.intro (in10 (p := x) (n := 4) (by omega) (by decide)) ?_
    rw [cl10 (p := x) (by omega)]
    rcases (show x = 0 ∨ x = 1 ∨ x = 2 ∨ x = 3 by omega) with rfl | rfl | rfl | rfl
    · have v5s := v5 0 (by decide)
      have hs := hV.2.2.2 0 (by decide)
      have eb : bI (h 54 1 = 0) = bI ((V.2.2.2.1 0).1 = 0) := bI_iff (by rw [show h 54 1 = nI (V.2.2.2.1 0).1 from v5s.1]; exact nI_eq (b := 0) (by omega) (by decide))
      refine SegP.tr (Seg.cV (tX2_isMissing_54 h g) mlX5_275 iyX2_isMissing seX2_isMissing oyX2_isMissing rfl (by decide) rfl (by decide) (by decide) rfl rfl rfl rfl (Nat.le_of_ble_eq_true rfl) (Nat.le_of_ble_eq_true rfl)) ?_
      refine SegP.run [] 400 ?_
      rw [eb]
      refine And.intro (fun zm => ?_) (fun zm => ?_)
      · have nm := bq0 zm
        refine And.intro (in10 (p := 0) (n := 4) (by decide) (by decide)) ?_
        rw [cl10 (p := 0) (by decide)]
        refine SegP.tr (Seg.cV (tX2_firstWrong_54 v1 ht (V.2.2.2.1 0) hs.2.1 v5s.2.1 v5s.2.2) mlX5_300 iyX2_firstWrong seX2_firstWrong oyX2_firstWrong rfl (by decide) rfl (by decide) (by decide) rfl rfl rfl rfl (Nat.le_of_ble_eq_true rfl) (Nat.le_of_ble_eq_true rfl)) ?_
        refine SegP.run [] 400 ?_
        exact cid hv (by rw [sp_judge, if_pos q0, cl_nI (n := 0) (by decide), if_neg nm])
      · refine SegP.tr (Seg.cV (tX5_refuse h g 5 (by decide) (-1000006) (by decide)) mlX5_64 iyX5_refuse seX5_refuse oyX5_refuse rfl (by decide) rfl (by decide) (by decide) rfl rfl rfl rfl (Nat.le_of_ble_eq_true rfl) (Nat.le_of_ble_eq_true rfl)) ?_
        refine SegP.run [] 400 ?_
        exact cfn hv (k := 5) (by decide) (by rw [sp_judge, if_pos q0, cl_nI (n := 0) (by decide), if_pos (bq1 zm)])
    · have v5s := v5 1 (by decide)
      have hs := hV.2.2.2 1 (by decide)
      have eb : bI (h 56 1 = 0) = bI ((V.2.2.2.1 1).1 = 0) := bI_iff (by rw [show h 56 1 = nI (V.2.2.2.1 1).1 from v5s.1]; exact nI_eq (b := 0) (by omega) (by decide))
      refine SegP.tr (Seg.cV (tX2_isMissing_56 h g) mlX5_275 iyX2_isMissing seX2_isMissing oyX2_isMissing rfl (by decide) rfl (by decide) (by decide) rfl rfl rfl rfl (Nat.le_of_ble_eq_true rfl) (Nat.le_of_ble_eq_true rfl)) ?_
      refine SegP.run [] 400 ?_
      rw [eb]
      refine And.intro (fun zm => ?_) (fun zm => ?_)
      · have nm := bq0 zm
        refine And.intro (in10 (p := 1) (n := 4) (by decide) (by decide)) ?_
        rw [cl10 (p := 1) (by decide)]
        refine SegP.tr (Seg.cV (tX2_firstWrong_56 v1 ht (V.2.2.2.1 1) hs.2.1 v5s.2.1 v5s.2.2) mlX5_300 iyX2_firstWrong seX2_firstWrong oyX2_firstWrong rfl (by decide) rfl (by decide) (by decide) rfl rfl rfl rfl (Nat.le_of_ble_eq_true rfl) (Nat.le_of_ble_eq_true rfl)) ?_
        refine SegP.run [] 400 ?_
        exact cid hv (by rw [sp_judge, if_pos q0, cl_nI (n := 1) (by decide), if_neg nm])
      · refine SegP.tr (Seg.cV (tX5_refuse h g 5 (by decide) (-1000006) (by decide)) mlX5_64 iyX5_refuse seX5_refuse oyX5_refuse rfl (by decide) rfl (by decide) (by decide) rfl rfl rfl rfl (Nat.le_of_ble_eq_true rfl) (Nat.le_of_ble_eq_true rfl)) ?_
        refine SegP.run [] 400 ?_
        exact cfn hv (k := 5) (by decide) (by rw [sp_judge, if_pos q0, cl_nI (n := 1) (by decide), if_pos (bq1 zm)])
    · have v5s := v5 2 (by decide)
      have hs := hV.2.2.2 2 (by decide)
      have eb : bI (h 58 1 = 0) = bI ((V.2.2.2.1 2).1 = 0) := bI_iff (by rw [show h 58 1 = nI (V.2.2.2.1 2).1 from v5s.1]; exact nI_eq (b := 0) (by omega) (by decide))
      refine SegP.tr (Seg.cV (tX2_isMissing_58 h g) mlX5_275 iyX2_isMissing seX2_isMissing oyX2_isMissing rfl (by decide) rfl (by decide) (by decide) rfl rfl rfl rfl (Nat.le_of_ble_eq_true rfl) (Nat.le_of_ble_eq_true rfl)) ?_
      refine SegP.run [] 400 ?_
      rw [eb]
      refine And.intro (fun zm => ?_) (fun zm => ?_)
      · have nm := bq0 zm
        refine And.intro (in10 (p := 2) (n := 4) (by decide) (by decide)) ?_
        rw [cl10 (p := 2) (by decide)]
        refine SegP.tr (Seg.cV (tX2_firstWrong_58 v1 ht (V.2.2.2.1 2) hs.2.1 v5s.2.1 v5s.2.2) mlX5_300 iyX2_firstWrong seX2_firstWrong oyX2_firstWrong rfl (by decide) rfl (by decide) (by decide) rfl rfl rfl rfl (Nat.le_of_ble_eq_true rfl) (Nat.le_of_ble_eq_true rfl)) ?_
        refine SegP.run [] 400 ?_
        exact cid hv (by rw [sp_judge, if_pos q0, cl_nI (n := 2) (by decide), if_neg nm])
      · refine SegP.tr (Seg.cV (tX5_refuse h g 5 (by decide) (-1000006) (by decide)) mlX5_64 iyX5_refuse seX5_refuse oyX5_refuse rfl (by decide) rfl (by decide) (by decide) rfl rfl rfl rfl (Nat.le_of_ble_eq_true rfl) (Nat.le_of_ble_eq_true rfl)) ?_
        refine SegP.run [] 400 ?_
        exact cfn hv (k := 5) (by decide) (by rw [sp_judge, if_pos q0, cl_nI (n := 2) (by decide), if_pos (bq1 zm)])
    · have v5s := v5 3 (by decide)
      have hs := hV.2.2.2 3 (by decide)
      have eb : bI (h 60 1 = 0) = bI ((V.2.2.2.1 3).1 = 0) := bI_iff (by rw [show h 60 1 = nI (V.2.2.2.1 3).1 from v5s.1]; exact nI_eq (b := 0) (by omega) (by decide))
      refine SegP.tr (Seg.cV (tX2_isMissing_60 h g) mlX5_275 iyX2_isMissing seX2_isMissing oyX2_isMissing rfl (by decide) rfl (by decide) (by decide) rfl rfl rfl rfl (Nat.le_of_ble_eq_true rfl) (Nat.le_of_ble_eq_true rfl)) ?_
      refine SegP.run [] 400 ?_
      rw [eb]
      refine And.intro (fun zm => ?_) (fun zm => ?_)
      · have nm := bq0 zm
        refine And.intro (in10 (p := 3) (n := 4) (by decide) (by decide)) ?_
        rw [cl10 (p := 3) (by decide)]
        refine SegP.tr (Seg.cV (tX2_firstWrong_60 v1 ht (V.2.2.2.1 3) hs.2.1 v5s.2.1 v5s.2.2) mlX5_300 iyX2_firstWrong seX2_firstWrong oyX2_firstWrong rfl (by decide) rfl (by decide) (by decide) rfl rfl rfl rfl (Nat.le_of_ble_eq_true rfl) (Nat.le_of_ble_eq_true rfl)) ?_
        refine SegP.run [] 400 ?_
        exact cid hv (by rw [sp_judge, if_pos q0, cl_nI (n := 3) (by decide), if_neg nm])
      · refine SegP.tr (Seg.cV (tX5_refuse h g 5 (by decide) (-1000006) (by decide)) mlX5_64 iyX5_refuse seX5_refuse oyX5_refuse rfl (by decide) rfl (by decide) (by decide) rfl rfl rfl rfl (Nat.le_of_ble_eq_true rfl) (Nat.le_of_ble_eq_true rfl)) ?_
        refine SegP.run [] 400 ?_
        exact cfn hv (k := 5) (by decide) (by rw [sp_judge, if_pos q0, cl_nI (n := 3) (by decide), if_pos (bq1 zm)])
  · refine SegP.tr (Seg.cV (tX5_refuse h g 0 (by decide) (-1000001) (by decide)) mlX5_64 iyX5_refuse seX5_refuse oyX5_refuse rfl (by decide) rfl (by decide) (by decide) rfl rfl rfl rfl (Nat.le_of_ble_eq_true rfl) (Nat.le_of_ble_eq_true rfl)) ?_
    refine SegP.run [] 400 ?_
    exact cfn hv (k := 0) (by decide) (by rw [sp_judge, if_neg (fun y => bn0 z0 y)])
set_option maxRecDepth 100000 in
set_option maxHeartbeats 400000 in
theorem zM_judge {V : aV} (hV : VOk V) (s : Int32) : DX mX6_judge 11 [.int s] V (sp_judge V s) := by
  intro h g hv
  obtain ⟨v1, v2, v3, v4, v5, v6⟩ := id hv
  have ht := hV.1
  refine MX.of okX6_judge (by decide +kernel) (Nat.le_of_ble_eq_true rfl) (by decide) rfl (by decide) ?_
  refine SegP.run [] 400 ?_
  refine SegP.tr (Seg.cV (tX6_lacks hV hv s) mlX6_259 iyX6_lacks seX6_lacks oyX6_lacks rfl (by decide) rfl (by decide) (by decide) rfl rfl rfl rfl (Nat.le_of_ble_eq_true rfl) (Nat.le_of_ble_eq_true rfl)) ?_
  refine SegP.run [27] 400 ?_
  by_cases q0 : (0 ≤ s ∧ s ≤ 3)
  · obtain ⟨x, hx, rfl⟩ := rng (a := 0) (b := 3) (by decide) (show nI 0 ≤ s ∧ s ≤ nI 3 from q0) (by decide)
    have hs := hV.2.2.2 x (by omega)
    have v5s := v5 x (by omega)
    by_cases nm : (V.2.2.2.1 x).1 = 0
    · have el : lkI V (nI x) = 5 := by rw [lkI, if_pos q0, cl_nI (by omega), if_pos nm]
      rw [el]
      refine And.intro (fun z => absurd z (by decide : ¬ (5 : Int32) < 0)) (fun _ => ?_)
      refine SegP.tr (Seg.cV (tX6_fd h g 5 (by decide) 5 (by decide) (-1000006) (by decide)) mlX6_51 iyX6_finding seX6_finding oyX6_finding rfl (by decide) rfl (by decide) (by decide) rfl rfl rfl rfl (Nat.le_of_ble_eq_true rfl) (Nat.le_of_ble_eq_true rfl)) ?_
      refine SegP.run [] 400 ?_
      exact mfn hv (k := 5) (by decide) (by rw [sp_judge, if_pos q0, cl_nI (by omega), if_pos nm])
    · have el : lkI V (nI x) = -1 := by rw [lkI, if_pos q0, cl_nI (by omega), if_neg nm]
      rw [el]
      refine And.intro (fun _ => ?_) (fun z => absurd (by decide : (-1 : Int32) < 0) z)
      have e : sp_judge V (nI x) = (jdA (V.2.2.2.1 x).2.1 (jdM V.1 (V.2.2.2.1 x) 41 0), V) := by rw [sp_judge, if_pos q0, cl_nI (n := x) (by omega), if_neg nm]
      have hin := in10 (p := x) (n := 4) (by omega) (by decide)
      have cx := cl10 (p := x) (by omega)
      have e40 : (40 : Int32) * nI x = nI (40 * x) := by rw [show (40 : Int32) = nI 40 from rfl, nI_ml]
      have out : ∀ i : Nat, i ≤ (V.2.2.2.1 x).2.1 → ∀ gd : Int32, (gd = 1 ∧ i = (V.2.2.2.1 x).2.1) ∨ (gd = 0 ∧ i < (V.2.2.2.1 x).2.1) → i = jdM V.1 (V.2.2.2.1 x) 41 0 → SegP mX6_judge 11 (117, [some (.ref 63), some (.int (nI x)), some (.int (-1)), some (.int (nI (40 * x))), some (.int (nI i)), some (.int gd)], [], nW, h, g, ρ) (enP (enM h (sp_judge V (nI x)))) := by
        rintro i hi gd (⟨rfl, y⟩ | ⟨rfl, y⟩) hm
        · have e5 : nI (i % 2) = 0 ↔ i % 2 = 0 := nI_eq (b := 0) (by omega) (by decide)
          refine SegP.run [] 400 ?_
          refine And.intro (fun z => absurd z (by decide : ¬ (1 : Int32) = 0)) (fun _ => ?_)
          refine And.intro (by decide) ?_
          rw [mod2 (by omega)]
          refine And.intro (fun z2 => ?_) (fun z2 => ?_)
          · exact mid hv (by rw [e, ← hm, jdA, if_neg (fun w => z2 (e5.mpr (by omega))), ← nI_ad]; rfl)
          · exact mid hv (by rw [e, ← hm, jdA, if_pos ⟨y, by have := e5.mp (Decidable.not_not.mp z2); omega⟩])
        · refine SegP.run [] 400 ?_
          refine And.intro (fun _ => ?_) (fun z => absurd rfl z)
          exact mid hv (by rw [e, ← hm, jdA, if_neg (by omega), ← nI_ad]; rfl)
      have loop : ∀ n i, n + i = 41 → i ≤ (V.2.2.2.1 x).2.1 → jdM V.1 (V.2.2.2.1 x) n i = jdM V.1 (V.2.2.2.1 x) 41 0 → SegP mX6_judge 11 (27, [some (.ref 63), some (.int (nI x)), some (.int (-1)), some (.int (nI (40 * x))), some (.int (nI i)), some (.int 1)], [], nW, h, g, ρ) (enP (enM h (sp_judge V (nI x)))) := by
        intro n
        induction n with
        | zero => intro i hn hi; omega
        | succ n ih =>
          intro i hn hi hm
          have ei : nI (40 * x) + nI i = nI (40 * x + i) := nI_ad _ _
          have c160 : (nI (40 * x) + nI i).toNatClampNeg = 40 * x + i := by rw [ei]; exact cl10 (by omega)
          have fin : i < (V.2.2.2.1 x).2.1 → ∀ y : Int32, (y = 1 ∧ jdR V.1 (V.2.2.2.1 x).2.2 i) ∨ (y = 0 ∧ ¬ jdR V.1 (V.2.2.2.1 x).2.2 i) → SegP mX6_judge 11 (97, [some (.ref 63), some (.int (nI x)), some (.int (-1)), some (.int (nI (40 * x))), some (.int (nI i)), some (.int 1)], [.int y], nW, h, g, ρ) (enP (enM h (sp_judge V (nI x)))) := by
            rintro i1 y (⟨rfl, w⟩ | ⟨rfl, w⟩)
            · refine SegP.run [27] 400 ?_
              refine And.intro (fun z => absurd z (by decide : ¬ (1 : Int32) = 0)) (fun _ => ?_)
              refine SegP.tr (Seg.of (b := (27, [some (.ref 63), some (.int (nI x)), some (.int (-1)), some (.int (nI (40 * x))), some (.int (nI (i + 1))), some (.int 1)], [], nW, h, g, ρ)) (by rw [nI_succ i] <;> rfl)) ?_
              exact ih (i + 1) (by omega) i1 (by rw [← hm, jd_more ⟨i1, w⟩])
            · refine SegP.run [27] 400 ?_
              refine And.intro (fun _ => ?_) (fun z => absurd rfl z)
              rw [jd_end (fun k => w k.2)] at hm
              refine SegP.tr (Seg.of (b := (27, [some (.ref 63), some (.int (nI x)), some (.int (-1)), some (.int (nI (40 * x))), some (.int (nI i)), some (.int 0)], [], nW, h, g, ρ)) (by rw [Int32.add_zero] <;> rfl)) ?_
              refine SegP.run [117] 400 ?_
              refine And.intro hin ?_
              rw [cx, v5s.2.1]
              refine And.intro (fun z => absurd z (nI_ge i1 (by omega))) (fun _ => ?_)
              refine And.intro (fun _ => ?_) (fun z => absurd rfl z)
              exact out i hi 0 (Or.inr ⟨rfl, i1⟩) hm
          refine SegP.run [97, 117] 400 ?_
          refine And.intro hin ?_
          rw [cx, v5s.2.1]
          refine And.intro (fun z => ?_) (fun z => ?_)
          · have i1 : i = (V.2.2.2.1 x).2.1 := by
              rcases Nat.lt_or_ge i (V.2.2.2.1 x).2.1 with y | y
              · exact absurd z (nI_ge y (by omega))
              · omega
            rw [jd_end (fun w => by omega)] at hm
            exact out i hi 1 (Or.inl ⟨rfl, i1⟩) hm
          have i1 : i < (V.2.2.2.1 x).2.1 := by
            rcases Nat.lt_or_ge i (V.2.2.2.1 x).2.1 with y | y
            · exact y
            · exact absurd (nI_le y (by omega)) z
          have e5 : nI (i % 2) = 0 ↔ i % 2 = 0 := nI_eq (b := 0) (by omega) (by decide)
          refine And.intro (fun z => absurd z (by decide : ¬ (1 : Int32) = 0)) (fun _ => ?_)
          refine And.intro (by decide) ?_
          rw [mod2 (by omega)]
          refine And.intro (fun z2 => ?_) (fun z2 => ?_)
          · have z3 : ¬ i % 2 = 0 := fun y => z2 (e5.mpr y)
            have em : nI (40 * x) + nI i - 1 = nI (40 * x + (i - 1)) := by rw [ei, show nI (40 * x + i) - 1 = nI (40 * x + i - 1) from nI_sb (b := 1) (by omega)]; congr 1; omega
            have cm : (nI (40 * x) + nI i - 1).toNatClampNeg = 40 * x + (i - 1) := by rw [em]; exact cl10 (by omega)
            have hk := tX6_keptIn h g (by rw [v1]; exact ht) ((V.2.2.2.1 x).2.2 (i - 1))
            rw [v1] at hk
            refine And.intro (by rw [ei]; exact in10 (by omega) (by decide)) ?_
            refine And.intro (by rw [em]; exact in10 (by omega) (by decide)) ?_
            rw [cm, c160, v5s.2.2 i i1, v5s.2.2 (i - 1) (by omega)]
            refine SegP.tr (Seg.cV hk mlX6_197 iyX6_keptIn seX6_keptIn oyX6_keptIn rfl (by decide) rfl (by decide) (by decide) rfl rfl rfl rfl (Nat.le_of_ble_eq_true rfl) (Nat.le_of_ble_eq_true rfl)) ?_
            refine SegP.run [97] 400 ?_
            have jr : jdR V.1 (V.2.2.2.1 x).2.2 i ↔ (V.2.2.2.1 x).2.2 i = kept V.1 ((V.2.2.2.1 x).2.2 (i - 1)) := by unfold jdR; rw [if_neg z3]
            refine And.intro (fun z4 => ?_) (fun z4 => ?_)
            · exact fin i1 0 (Or.inr ⟨rfl, fun y => z4 (jr.mp y)⟩)
            · exact fin i1 1 (Or.inl ⟨rfl, jr.mpr (Decidable.not_not.mp z4)⟩)
          · have z3 : i % 2 = 0 := e5.mp (Decidable.not_not.mp z2)
            have jr : jdR V.1 (V.2.2.2.1 x).2.2 i ↔ (0 ≤ (V.2.2.2.1 x).2.2 i ∧ (V.2.2.2.1 x).2.2 i ≤ 255) := by unfold jdR; rw [if_pos z3]
            refine And.intro (by rw [ei]; exact in10 (by omega) (by decide)) ?_
            rw [c160, v5s.2.2 i i1]
            refine SegP.tr (Seg.cS ((tX6_isThrow ((V.2.2.2.1 x).2.2 i)).ms h g) mlX6_194 syX6_isThrow oyX6_isThrow rfl (by decide) rfl rfl rfl (Nat.le_of_ble_eq_true rfl) (Nat.le_of_ble_eq_true rfl)) ?_
            refine SegP.run [97] 400 ?_
            by_cases y : (0 ≤ (V.2.2.2.1 x).2.2 i ∧ (V.2.2.2.1 x).2.2 i ≤ 255)
            · rw [bI_t y]; exact fin i1 1 (Or.inl ⟨rfl, jr.mpr y⟩)
            · rw [bI_f y]; exact fin i1 0 (Or.inr ⟨rfl, fun w => y (jr.mp w)⟩)
      refine SegP.tr (Seg.of (b := (27, [some (.ref 63), some (.int (nI x)), some (.int (-1)), some (.int (nI (40 * x))), some (.int (nI 0)), some (.int 1)], [], nW, h, g, ρ)) (by rw [← e40] <;> rfl)) ?_
      exact loop 41 0 rfl (Nat.zero_le _) rfl
  · have el : lkI V s = 0 := by rw [lkI, if_neg q0]
    rw [el]
    refine And.intro (fun z => absurd z (by decide : ¬ (0 : Int32) < 0)) (fun _ => ?_)
    refine SegP.tr (Seg.cV (tX6_fd h g 0 (by decide) 0 (by decide) (-1000001) (by decide)) mlX6_51 iyX6_finding seX6_finding oyX6_finding rfl (by decide) rfl (by decide) (by decide) rfl rfl rfl rfl (Nat.le_of_ble_eq_true rfl) (Nat.le_of_ble_eq_true rfl)) ?_
    refine SegP.run [] 400 ?_
    exact mfn hv (k := 0) (by decide) (by rw [sp_judge, if_neg q0])
