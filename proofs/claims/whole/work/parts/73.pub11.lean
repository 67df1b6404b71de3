/-! ===== public methods: numbers copied; printed by wip/whole/gen73.py ===== -/
/-- m numbers of one row from x on laid over another from y on -/
def cpF (a b : Nat → Int32) (x y m : Nat) : Nat → Int32 := fun i => if y ≤ i ∧ i < y + m then a (x + (i - y)) else b i
def sp_copy (V : aV) (s f t d n : Int32) : Int32 × aV := if (0 ≤ s ∧ s ≤ 3) ∧ (0 ≤ t ∧ t ≤ 3) then (if (V.2.2.2.1 (cl s)).1 = 0 ∨ (V.2.2.2.1 (cl t)).1 = 0 then fnd V 5 (-1000006) else if ¬ (V.2.2.2.1 (cl s)).1 = (V.2.2.2.1 (cl t)).1 then fnd V 2 (-1000003) else if spP (nI (V.2.2.2.1 (cl s)).2.1) f n ∧ spP (nI (V.2.2.2.1 (cl t)).2.1) d n then (n, shV V (cl t) ((V.2.2.2.1 (cl t)).1, (V.2.2.2.1 (cl t)).2.1, cpF (V.2.2.2.1 (cl s)).2.2 (V.2.2.2.1 (cl t)).2.2 (cl f) (cl d) (cl n))) else fnd V 0 (-1000001)) else fnd V 0 (-1000001)
set_option maxRecDepth 100000 in
set_option maxHeartbeats 400000 in
theorem lX5_copy_0_0 {V : aV} (hV : VOk V) {h : aH} {g : aG} (hv : CV h V) (f d n : Int32) : SegP mX5_copy 11 (21, [some (.ref 0), some (.int (nI 0)), some (.int f), some (.int (nI 0)), some (.int d), some (.int n)], [], nW, h, g, ρ) (enP (enC h (sp_copy V (nI 0) f (nI 0) d n))) := by
  have qq : ((0 : Int32) ≤ nI 0 ∧ nI 0 ≤ 3) ∧ ((0 : Int32) ≤ nI 0 ∧ nI 0 ≤ 3) := by decide
  have ws := hv.2.2.2.2.1 0 (by decide)
  have wt := hv.2.2.2.2.1 0 (by decide)
  have hs := hV.2.2.2 0 (by decide)
  have hu := hV.2.2.2 0 (by decide)
  have inS := in10 (p := 0) (n := 4) (by decide) (by decide)
  have inU := in10 (p := 0) (n := 4) (by decide) (by decide)
  have cS := cl10 (p := 0) (by decide)
  have cU := cl10 (p := 0) (by decide)
  have es : bI (h 54 1 = 0) = bI ((V.2.2.2.1 0).1 = 0) := bI_iff (by rw [show h 54 1 = nI (V.2.2.2.1 0).1 from ws.1]; exact nI_eq (b := 0) (by omega) (by decide))
  have et : bI (h 54 1 = 0) = bI ((V.2.2.2.1 0).1 = 0) := bI_iff (by rw [show h 54 1 = nI (V.2.2.2.1 0).1 from wt.1]; exact nI_eq (b := 0) (by omega) (by decide))
  have hm1 := tX2_isMissing_54 h g
  rw [es] at hm1
  have hm2 := tX2_isMissing_54 h g
  rw [et] at hm2
  have hp1 := tX2_hasSpan_54 h g f n
  rw [show h 54 2 = nI (V.2.2.2.1 0).2.1 from ws.2.1] at hp1
  have hp2 := tX2_hasSpan_54 h g d n
  rw [show h 54 2 = nI (V.2.2.2.1 0).2.1 from wt.2.1] at hp2
  refine SegP.run [] 400 ?_
  refine And.intro inS ?_
  rw [cS]
  refine SegP.tr (Seg.cV hm1 mlX5_275 iyX2_isMissing seX2_isMissing oyX2_isMissing rfl (by decide) rfl (by decide) (by decide) rfl rfl rfl rfl (Nat.le_of_ble_eq_true rfl) (Nat.le_of_ble_eq_true rfl)) ?_
  refine SegP.run [] 400 ?_
  refine And.intro (fun zm => ?_) (fun zm => ?_)
  · skip
    refine SegP.tr (Seg.cV (tX5_refuse h g 5 (by decide) (-1000006) (by decide)) mlX5_64 iyX5_refuse seX5_refuse oyX5_refuse rfl (by decide) rfl (by decide) (by decide) rfl rfl rfl rfl (Nat.le_of_ble_eq_true rfl) (Nat.le_of_ble_eq_true rfl)) ?_
    refine SegP.run [] 400 ?_
    exact cfn hv (k := 5) (by decide) (by rw [sp_copy, if_pos qq, cl_nI (n := 0) (by decide), if_pos (Or.inl (bn1 zm))])
  refine And.intro inU ?_
  rw [cU]
  refine SegP.tr (Seg.cV hm2 mlX5_275 iyX2_isMissing seX2_isMissing oyX2_isMissing rfl (by decide) rfl (by decide) (by decide) rfl rfl rfl rfl (Nat.le_of_ble_eq_true rfl) (Nat.le_of_ble_eq_true rfl)) ?_
  refine SegP.run [] 400 ?_
  refine And.intro (fun zt => ?_) (fun zt => ?_)
  case refine_2 =>
    have zt : cmpP .ne (bI ((V.2.2.2.1 0).1 = 0)) 0 := zt
    refine SegP.tr (Seg.cV (tX5_refuse h g 5 (by decide) (-1000006) (by decide)) mlX5_64 iyX5_refuse seX5_refuse oyX5_refuse rfl (by decide) rfl (by decide) (by decide) rfl rfl rfl rfl (Nat.le_of_ble_eq_true rfl) (Nat.le_of_ble_eq_true rfl)) ?_
    refine SegP.run [] 400 ?_
    exact cfn hv (k := 5) (by decide) (by rw [sp_copy, if_pos qq, cl_nI (n := 0) (by decide), if_pos (Or.inr (bn1 zt))])
  have nm : ¬ ((V.2.2.2.1 0).1 = 0 ∨ (V.2.2.2.1 0).1 = 0) := fun y => y.elim (bn0 zm) (bq0 zt)
  refine And.intro inS ?_
  refine And.intro inU ?_
  rw [cU]
  have eb : (h 54 1 = h 54 1) ↔ (V.2.2.2.1 0).1 = (V.2.2.2.1 0).1 := by
    exact ⟨fun _ => rfl, fun _ => rfl⟩
  refine And.intro (fun zk => ?_) (fun zk => ?_)
  case refine_2 =>
    have zk : ¬ (V.2.2.2.1 0).1 = (V.2.2.2.1 0).1 := fun y => zk (eb.mpr y)
    refine SegP.tr (Seg.cV (tX5_refuse h g 2 (by decide) (-1000003) (by decide)) mlX5_64 iyX5_refuse seX5_refuse oyX5_refuse rfl (by decide) rfl (by decide) (by decide) rfl rfl rfl rfl (Nat.le_of_ble_eq_true rfl) (Nat.le_of_ble_eq_true rfl)) ?_
    refine SegP.run [] 400 ?_
    exact cfn hv (k := 2) (by decide) (by rw [sp_copy, if_pos qq, cl_nI (n := 0) (by decide), if_neg nm, if_pos (fun y => zk (by rw [y]))])
  have eqb : (V.2.2.2.1 0).1 = (V.2.2.2.1 0).1 := eb.mp zk
  refine And.intro inS ?_
  rw [cS]
  refine SegP.tr (Seg.cV hp1 mlX5_285 iyX2_hasSpan seX2_hasSpan oyX2_hasSpan rfl (by decide) rfl (by decide) (by decide) rfl rfl rfl rfl (Nat.le_of_ble_eq_true rfl) (Nat.le_of_ble_eq_true rfl)) ?_
  refine SegP.run [] 400 ?_
  refine And.intro (fun zp => ?_) (fun zp => ?_)
  · skip
    refine SegP.tr (Seg.cV (tX5_refuse h g 0 (by decide) (-1000001) (by decide)) mlX5_64 iyX5_refuse seX5_refuse oyX5_refuse rfl (by decide) rfl (by decide) (by decide) rfl rfl rfl rfl (Nat.le_of_ble_eq_true rfl) (Nat.le_of_ble_eq_true rfl)) ?_
    refine SegP.run [] 400 ?_
    exact cfn hv (k := 0) (by decide) (by rw [sp_copy, if_pos qq, cl_nI (n := 0) (by decide), if_neg nm, if_neg (fun y => y eqb), if_neg (fun y => bq0 zp y.1)])
  refine And.intro inU ?_
  rw [cU]
  refine SegP.tr (Seg.cV hp2 mlX5_285 iyX2_hasSpan seX2_hasSpan oyX2_hasSpan rfl (by decide) rfl (by decide) (by decide) rfl rfl rfl rfl (Nat.le_of_ble_eq_true rfl) (Nat.le_of_ble_eq_true rfl)) ?_
  refine SegP.run [] 400 ?_
  refine And.intro (fun zq => ?_) (fun zq => ?_)
  case refine_2 =>
    have zq : ¬ cmpP .ne (bI (spP (nI (V.2.2.2.1 0).2.1) d n)) 0 := zq
    refine SegP.tr (Seg.cV (tX5_refuse h g 0 (by decide) (-1000001) (by decide)) mlX5_64 iyX5_refuse seX5_refuse oyX5_refuse rfl (by decide) rfl (by decide) (by decide) rfl rfl rfl rfl (Nat.le_of_ble_eq_true rfl) (Nat.le_of_ble_eq_true rfl)) ?_
    refine SegP.run [] 400 ?_
    exact cfn hv (k := 0) (by decide) (by rw [sp_copy, if_pos qq, cl_nI (n := 0) (by decide), if_neg nm, if_neg (fun y => y eqb), if_neg (fun y => bn0 zq y.2)])
  have p1 := bq1 zp
  have p2 := bn1 zq
  obtain ⟨x, m, rfl, rfl, hx⟩ := sp_N hs.2.1 p1
  obtain ⟨y, m2, rfl, em, hy⟩ := sp_N hu.2.1 p2
  obtain rfl : m = m2 := (nI_eq (by omega) (by omega)).mp em
  have cx := cl10 (p := x) (by omega)
  have cy := cl10 (p := y) (by omega)
  have cm := cl10 (p := m) (by omega)
  have e : sp_copy V (nI 0) (nI x) (nI 0) (nI y) (nI m) = (nI m, shV V 0 ((V.2.2.2.1 0).1, (V.2.2.2.1 0).2.1, cpF (V.2.2.2.1 0).2.2 (V.2.2.2.1 0).2.2 x y m)) := by rw [sp_copy, if_pos qq, cl_nI (n := 0) (by decide), if_neg nm, if_neg (fun z => z eqb), if_pos ⟨p1, p2⟩, cl_nI (n := x) (by omega), cl_nI (n := y) (by omega), cl_nI (n := m) (by omega)]
  refine And.intro inS ?_
  refine And.intro inU ?_
  rw [cU]
  refine And.intro ⟨nI_pos (by omega), nI_pos (by omega), nI_pos (by omega), by rw [cx, cm]; omega, by rw [cy, cm]; omega⟩ ?_
  rw [cx, cy, cm, e]
  refine SegP.ret ⟨rfl, hv.sh (s := 0) (q := ((V.2.2.2.1 0).1, (V.2.2.2.1 0).2.1, cpF (V.2.2.2.1 0).2.2 (V.2.2.2.1 0).2.2 x y m)) (by decide) ?_ ?_ (fun i hi => ?_) (fun a h1 h2 => ?_), fun a ha => ?_⟩
  · exact wt.1
  · exact wt.2.1
  · show upR h 55 (va_cpy (h 55) (h 55) x y m) 55 i = cpF _ _ x y m i
    have hi : i < (V.2.2.2.1 0).2.1 := hi
    simp only [upR, if_true]
    unfold cpF
    by_cases w : y ≤ i ∧ i < y + m
    · rw [if_pos w, pk_cpy_in w.1 w.2]
      exact ws.2.2 _ (by omega)
    · rw [if_neg w, pk_cpy_out (by omega)]
      exact wt.2.2 i hi
  · show upR h 55 _ a = h a
    simp only [upR, if_neg h2]
  · show upR h 55 _ a = h a
    simp only [upR, if_neg (show a ≠ 55 by omega)]
set_option maxRecDepth 100000 in
set_option maxHeartbeats 400000 in
theorem lX5_copy_0_1 {V : aV} (hV : VOk V) {h : aH} {g : aG} (hv : CV h V) (f d n : Int32) : SegP mX5_copy 11 (21, [some (.ref 0), some (.int (nI 0)), some (.int f), some (.int (nI 1)), some (.int d), some (.int n)], [], nW, h, g, ρ) (enP (enC h (sp_copy V (nI 0) f (nI 1) d n))) := by
  have qq : ((0 : Int32) ≤ nI 0 ∧ nI 0 ≤ 3) ∧ ((0 : Int32) ≤ nI 1 ∧ nI 1 ≤ 3) := by decide
  have ws := hv.2.2.2.2.1 0 (by decide)
  have wt := hv.2.2.2.2.1 1 (by decide)
  have hs := hV.2.2.2 0 (by decide)
  have hu := hV.2.2.2 1 (by decide)
  have inS := in10 (p := 0) (n := 4) (by decide) (by decide)
  have inU := in10 (p := 1) (n := 4) (by decide) (by decide)
  have cS := cl10 (p := 0) (by decide)
  have cU := cl10 (p := 1) (by decide)
  have es : bI (h 54 1 = 0) = bI ((V.2.2.2.1 0).1 = 0) := bI_iff (by rw [show h 54 1 = nI (V.2.2.2.1 0).1 from ws.1]; exact nI_eq (b := 0) (by omega) (by decide))
  have et : bI (h 56 1 = 0) = bI ((V.2.2.2.1 1).1 = 0) := bI_iff (by rw [show h 56 1 = nI (V.2.2.2.1 1).1 from wt.1]; exact nI_eq (b := 0) (by omega) (by decide))
  have hm1 := tX2_isMissing_54 h g
  rw [es] at hm1
  have hm2 := tX2_isMissing_56 h g
  rw [et] at hm2
  have hp1 := tX2_hasSpan_54 h g f n
  rw [show h 54 2 = nI (V.2.2.2.1 0).2.1 from ws.2.1] at hp1
  have hp2 := tX2_hasSpan_56 h g d n
  rw [show h 56 2 = nI (V.2.2.2.1 1).2.1 from wt.2.1] at hp2
  refine SegP.run [] 400 ?_
  refine And.intro inS ?_
  rw [cS]
  refine SegP.tr (Seg.cV hm1 mlX5_275 iyX2_isMissing seX2_isMissing oyX2_isMissing rfl (by decide) rfl (by decide) (by decide) rfl rfl rfl rfl (Nat.le_of_ble_eq_true rfl) (Nat.le_of_ble_eq_true rfl)) ?_
  refine SegP.run [] 400 ?_
  refine And.intro (fun zm => ?_) (fun zm => ?_)
  · skip
    refine SegP.tr (Seg.cV (tX5_refuse h g 5 (by decide) (-1000006) (by decide)) mlX5_64 iyX5_refuse seX5_refuse oyX5_refuse rfl (by decide) rfl (by decide) (by decide) rfl rfl rfl rfl (Nat.le_of_ble_eq_true rfl) (Nat.le_of_ble_eq_true rfl)) ?_
    refine SegP.run [] 400 ?_
    exact cfn hv (k := 5) (by decide) (by rw [sp_copy, if_pos qq, cl_nI (n := 0) (by decide), cl_nI (n := 1) (by decide), if_pos (Or.inl (bn1 zm))])
  refine And.intro inU ?_
  rw [cU]
  refine SegP.tr (Seg.cV hm2 mlX5_275 iyX2_isMissing seX2_isMissing oyX2_isMissing rfl (by decide) rfl (by decide) (by decide) rfl rfl rfl rfl (Nat.le_of_ble_eq_true rfl) (Nat.le_of_ble_eq_true rfl)) ?_
  refine SegP.run [] 400 ?_
  refine And.intro (fun zt => ?_) (fun zt => ?_)
  case refine_2 =>
    have zt : cmpP .ne (bI ((V.2.2.2.1 1).1 = 0)) 0 := zt
    refine SegP.tr (Seg.cV (tX5_refuse h g 5 (by decide) (-1000006) (by decide)) mlX5_64 iyX5_refuse seX5_refuse oyX5_refuse rfl (by decide) rfl (by decide) (by decide) rfl rfl rfl rfl (Nat.le_of_ble_eq_true rfl) (Nat.le_of_ble_eq_true rfl)) ?_
    refine SegP.run [] 400 ?_
    exact cfn hv (k := 5) (by decide) (by rw [sp_copy, if_pos qq, cl_nI (n := 0) (by decide), cl_nI (n := 1) (by decide), if_pos (Or.inr (bn1 zt))])
  have nm : ¬ ((V.2.2.2.1 0).1 = 0 ∨ (V.2.2.2.1 1).1 = 0) := fun y => y.elim (bn0 zm) (bq0 zt)
  refine And.intro inS ?_
  refine And.intro inU ?_
  rw [cU]
  have eb : (h 54 1 = h 56 1) ↔ (V.2.2.2.1 0).1 = (V.2.2.2.1 1).1 := by
    rw [show h 54 1 = nI (V.2.2.2.1 0).1 from ws.1, show h 56 1 = nI (V.2.2.2.1 1).1 from wt.1]
    exact nI_eq (by omega) (by omega)
  refine And.intro (fun zk => ?_) (fun zk => ?_)
  case refine_2 =>
    have zk : ¬ (V.2.2.2.1 0).1 = (V.2.2.2.1 1).1 := fun y => zk (eb.mpr y)
    refine SegP.tr (Seg.cV (tX5_refuse h g 2 (by decide) (-1000003) (by decide)) mlX5_64 iyX5_refuse seX5_refuse oyX5_refuse rfl (by decide) rfl (by decide) (by decide) rfl rfl rfl rfl (Nat.le_of_ble_eq_true rfl) (Nat.le_of_ble_eq_true rfl)) ?_
    refine SegP.run [] 400 ?_
    exact cfn hv (k := 2) (by decide) (by rw [sp_copy, if_pos qq, cl_nI (n := 0) (by decide), cl_nI (n := 1) (by decide), if_neg nm, if_pos (fun y => zk (by rw [y]))])
  have eqb : (V.2.2.2.1 0).1 = (V.2.2.2.1 1).1 := eb.mp zk
  refine And.intro inS ?_
  rw [cS]
  refine SegP.tr (Seg.cV hp1 mlX5_285 iyX2_hasSpan seX2_hasSpan oyX2_hasSpan rfl (by decide) rfl (by decide) (by decide) rfl rfl rfl rfl (Nat.le_of_ble_eq_true rfl) (Nat.le_of_ble_eq_true rfl)) ?_
  refine SegP.run [] 400 ?_
  refine And.intro (fun zp => ?_) (fun zp => ?_)
  · skip
    refine SegP.tr (Seg.cV (tX5_refuse h g 0 (by decide) (-1000001) (by decide)) mlX5_64 iyX5_refuse seX5_refuse oyX5_refuse rfl (by decide) rfl (by decide) (by decide) rfl rfl rfl rfl (Nat.le_of_ble_eq_true rfl) (Nat.le_of_ble_eq_true rfl)) ?_
    refine SegP.run [] 400 ?_
    exact cfn hv (k := 0) (by decide) (by rw [sp_copy, if_pos qq, cl_nI (n := 0) (by decide), cl_nI (n := 1) (by decide), if_neg nm, if_neg (fun y => y eqb), if_neg (fun y => bq0 zp y.1)])
  refine And.intro inU ?_
  rw [cU]
  refine SegP.tr (Seg.cV hp2 mlX5_285 iyX2_hasSpan seX2_hasSpan oyX2_hasSpan rfl (by decide) rfl (by decide) (by decide) rfl rfl rfl rfl (Nat.le_of_ble_eq_true rfl) (Nat.le_of_ble_eq_true rfl)) ?_
  refine SegP.run [] 400 ?_
  refine And.intro (fun zq => ?_) (fun zq => ?_)
  case refine_2 =>
    have zq : ¬ cmpP .ne (bI (spP (nI (V.2.2.2.1 1).2.1) d n)) 0 := zq
    refine SegP.tr (Seg.cV (tX5_refuse h g 0 (by decide) (-1000001) (by decide)) mlX5_64 iyX5_refuse seX5_refuse oyX5_refuse rfl (by decide) rfl (by decide) (by decide) rfl rfl rfl rfl (Nat.le_of_ble_eq_true rfl) (Nat.le_of_ble_eq_true rfl)) ?_
    refine SegP.run [] 400 ?_
    exact cfn hv (k := 0) (by decide) (by rw [sp_copy, if_pos qq, cl_nI (n := 0) (by decide), cl_nI (n := 1) (by decide), if_neg nm, if_neg (fun y => y eqb), if_neg (fun y => bn0 zq y.2)])
  have p1 := bq1 zp
  have p2 := bn1 zq
  obtain ⟨x, m, rfl, rfl, hx⟩ := sp_N hs.2.1 p1
  obtain ⟨y, m2, rfl, em, hy⟩ := sp_N hu.2.1 p2
  obtain rfl : m = m2 := (nI_eq (by omega) (by omega)).mp em
  have cx := cl10 (p := x) (by omega)
  have cy := cl10 (p := y) (by omega)
  have cm := cl10 (p := m) (by omega)
  have e : sp_copy V (nI 0) (nI x) (nI 1) (nI y) (nI m) = (nI m, shV V 1 ((V.2.2.2.1 1).1, (V.2.2.2.1 1).2.1, cpF (V.2.2.2.1 0).2.2 (V.2.2.2.1 1).2.2 x y m)) := by rw [sp_copy, if_pos qq, cl_nI (n := 0) (by decide), cl_nI (n := 1) (by decide), if_neg nm, if_neg (fun z => z eqb), if_pos ⟨p1, p2⟩, cl_nI (n := x) (by omega), cl_nI (n := y) (by omega), cl_nI (n := m) (by omega)]
  refine And.intro inS ?_
  refine And.intro inU ?_
  rw [cU]
  refine And.intro ⟨nI_pos (by omega), nI_pos (by omega), nI_pos (by omega), by rw [cx, cm]; omega, by rw [cy, cm]; omega⟩ ?_
  rw [cx, cy, cm, e]
  refine SegP.ret ⟨rfl, hv.sh (s := 1) (q := ((V.2.2.2.1 1).1, (V.2.2.2.1 1).2.1, cpF (V.2.2.2.1 0).2.2 (V.2.2.2.1 1).2.2 x y m)) (by decide) ?_ ?_ (fun i hi => ?_) (fun a h1 h2 => ?_), fun a ha => ?_⟩
  · exact wt.1
  · exact wt.2.1
  · show upR h 57 (va_cpy (h 55) (h 57) x y m) 57 i = cpF _ _ x y m i
    have hi : i < (V.2.2.2.1 1).2.1 := hi
    simp only [upR, if_true]
    unfold cpF
    by_cases w : y ≤ i ∧ i < y + m
    · rw [if_pos w, pk_cpy_in w.1 w.2]
      exact ws.2.2 _ (by omega)
    · rw [if_neg w, pk_cpy_out (by omega)]
      exact wt.2.2 i hi
  · show upR h 57 _ a = h a
    simp only [upR, if_neg h2]
  · show upR h 57 _ a = h a
    simp only [upR, if_neg (show a ≠ 57 by omega)]
set_option maxRecDepth 100000 in
set_option maxHeartbeats 400000 in
theorem lX5_copy_0_2 {V : aV} (hV : VOk V) {h : aH} {g : aG} (hv : CV h V) (f d n : Int32) : SegP mX5_copy 11 (21, [some (.ref 0), some (.int (nI 0)), some (.int f), some (.int (nI 2)), some (.int d), some (.int n)], [], nW, h, g, ρ) (enP (enC h (sp_copy V (nI 0) f (nI 2) d n))) := by
  have qq : ((0 : Int32) ≤ nI 0 ∧ nI 0 ≤ 3) ∧ ((0 : Int32) ≤ nI 2 ∧ nI 2 ≤ 3) := by decide
  have ws := hv.2.2.2.2.1 0 (by decide)
  have wt := hv.2.2.2.2.1 2 (by decide)
  have hs := hV.2.2.2 0 (by decide)
  have hu := hV.2.2.2 2 (by decide)
  have inS := in10 (p := 0) (n := 4) (by decide) (by decide)
  have inU := in10 (p := 2) (n := 4) (by decide) (by decide)
  have cS := cl10 (p := 0) (by decide)
  have cU := cl10 (p := 2) (by decide)
  have es : bI (h 54 1 = 0) = bI ((V.2.2.2.1 0).1 = 0) := bI_iff (by rw [show h 54 1 = nI (V.2.2.2.1 0).1 from ws.1]; exact nI_eq (b := 0) (by omega) (by decide))
  have et : bI (h 58 1 = 0) = bI ((V.2.2.2.1 2).1 = 0) := bI_iff (by rw [show h 58 1 = nI (V.2.2.2.1 2).1 from wt.1]; exact nI_eq (b := 0) (by omega) (by decide))
  have hm1 := tX2_isMissing_54 h g
  rw [es] at hm1
  have hm2 := tX2_isMissing_58 h g
  rw [et] at hm2
  have hp1 := tX2_hasSpan_54 h g f n
  rw [show h 54 2 = nI (V.2.2.2.1 0).2.1 from ws.2.1] at hp1
  have hp2 := tX2_hasSpan_58 h g d n
  rw [show h 58 2 = nI (V.2.2.2.1 2).2.1 from wt.2.1] at hp2
  refine SegP.run [] 400 ?_
  refine And.intro inS ?_
  rw [cS]
  refine SegP.tr (Seg.cV hm1 mlX5_275 iyX2_isMissing seX2_isMissing oyX2_isMissing rfl (by decide) rfl (by decide) (by decide) rfl rfl rfl rfl (Nat.le_of_ble_eq_true rfl) (Nat.le_of_ble_eq_true rfl)) ?_
  refine SegP.run [] 400 ?_
  refine And.intro (fun zm => ?_) (fun zm => ?_)
  · skip
    refine SegP.tr (Seg.cV (tX5_refuse h g 5 (by decide) (-1000006) (by decide)) mlX5_64 iyX5_refuse seX5_refuse oyX5_refuse rfl (by decide) rfl (by decide) (by decide) rfl rfl rfl rfl (Nat.le_of_ble_eq_true rfl) (Nat.le_of_ble_eq_true rfl)) ?_
    refine SegP.run [] 400 ?_
    exact cfn hv (k := 5) (by decide) (by rw [sp_copy, if_pos qq, cl_nI (n := 0) (by decide), cl_nI (n := 2) (by decide), if_pos (Or.inl (bn1 zm))])
  refine And.intro inU ?_
  rw [cU]
  refine SegP.tr (Seg.cV hm2 mlX5_275 iyX2_isMissing seX2_isMissing oyX2_isMissing rfl (by decide) rfl (by decide) (by decide) rfl rfl rfl rfl (Nat.le_of_ble_eq_true rfl) (Nat.le_of_ble_eq_true rfl)) ?_
  refine SegP.run [] 400 ?_
  refine And.intro (fun zt => ?_) (fun zt => ?_)
  case refine_2 =>
    have zt : cmpP .ne (bI ((V.2.2.2.1 2).1 = 0)) 0 := zt
    refine SegP.tr (Seg.cV (tX5_refuse h g 5 (by decide) (-1000006) (by decide)) mlX5_64 iyX5_refuse seX5_refuse oyX5_refuse rfl (by decide) rfl (by decide) (by decide) rfl rfl rfl rfl (Nat.le_of_ble_eq_true rfl) (Nat.le_of_ble_eq_true rfl)) ?_
    refine SegP.run [] 400 ?_
    exact cfn hv (k := 5) (by decide) (by rw [sp_copy, if_pos qq, cl_nI (n := 0) (by decide), cl_nI (n := 2) (by decide), if_pos (Or.inr (bn1 zt))])
  have nm : ¬ ((V.2.2.2.1 0).1 = 0 ∨ (V.2.2.2.1 2).1 = 0) := fun y => y.elim (bn0 zm) (bq0 zt)
  refine And.intro inS ?_
  refine And.intro inU ?_
  rw [cU]
  have eb : (h 54 1 = h 58 1) ↔ (V.2.2.2.1 0).1 = (V.2.2.2.1 2).1 := by
    rw [show h 54 1 = nI (V.2.2.2.1 0).1 from ws.1, show h 58 1 = nI (V.2.2.2.1 2).1 from wt.1]
    exact nI_eq (by omega) (by omega)
  refine And.intro (fun zk => ?_) (fun zk => ?_)
  case refine_2 =>
    have zk : ¬ (V.2.2.2.1 0).1 = (V.2.2.2.1 2).1 := fun y => zk (eb.mpr y)
    refine SegP.tr (Seg.cV (tX5_refuse h g 2 (by decide) (-1000003) (by decide)) mlX5_64 iyX5_refuse seX5_refuse oyX5_refuse rfl (by decide) rfl (by decide) (by decide) rfl rfl rfl rfl (Nat.le_of_ble_eq_true rfl) (Nat.le_of_ble_eq_true rfl)) ?_
    refine SegP.run [] 400 ?_
    exact cfn hv (k := 2) (by decide) (by rw [sp_copy, if_pos qq, cl_nI (n := 0) (by decide), cl_nI (n := 2) (by decide), if_neg nm, if_pos (fun y => zk (by rw [y]))])
  have eqb : (V.2.2.2.1 0).1 = (V.2.2.2.1 2).1 := eb.mp zk
  refine And.intro inS ?_
  rw [cS]
  refine SegP.tr (Seg.cV hp1 mlX5_285 iyX2_hasSpan seX2_hasSpan oyX2_hasSpan rfl (by decide) rfl (by decide) (by decide) rfl rfl rfl rfl (Nat.le_of_ble_eq_true rfl) (Nat.le_of_ble_eq_true rfl)) ?_
  refine SegP.run [] 400 ?_
  refine And.intro (fun zp => ?_) (fun zp => ?_)
  · skip
    refine SegP.tr (Seg.cV (tX5_refuse h g 0 (by decide) (-1000001) (by decide)) mlX5_64 iyX5_refuse seX5_refuse oyX5_refuse rfl (by decide) rfl (by decide) (by decide) rfl rfl rfl rfl (Nat.le_of_ble_eq_true rfl) (Nat.le_of_ble_eq_true rfl)) ?_
    refine SegP.run [] 400 ?_
    exact cfn hv (k := 0) (by decide) (by rw [sp_copy, if_pos qq, cl_nI (n := 0) (by decide), cl_nI (n := 2) (by decide), if_neg nm, if_neg (fun y => y eqb), if_neg (fun y => bq0 zp y.1)])
  refine And.intro inU ?_
  rw [cU]
  refine SegP.tr (Seg.cV hp2 mlX5_285 iyX2_hasSpan seX2_hasSpan oyX2_hasSpan rfl (by decide) rfl (by decide) (by decide) rfl rfl rfl rfl (Nat.le_of_ble_eq_true rfl) (Nat.le_of_ble_eq_true rfl)) ?_
  refine SegP.run [] 400 ?_
  refine And.intro (fun zq => ?_) (fun zq => ?_)
  case refine_2 =>
    have zq : ¬ cmpP .ne (bI (spP (nI (V.2.2.2.1 2).2.1) d n)) 0 := zq
    refine SegP.tr (Seg.cV (tX5_refuse h g 0 (by decide) (-1000001) (by decide)) mlX5_64 iyX5_refuse seX5_refuse oyX5_refuse rfl (by decide) rfl (by decide) (by decide) rfl rfl rfl rfl (Nat.le_of_ble_eq_true rfl) (Nat.le_of_ble_eq_true rfl)) ?_
    refine SegP.run [] 400 ?_
    exact cfn hv (k := 0) (by decide) (by rw [sp_copy, if_pos qq, cl_nI (n := 0) (by decide), cl_nI (n := 2) (by decide), if_neg nm, if_neg (fun y => y eqb), if_neg (fun y => bn0 zq y.2)])
  have p1 := bq1 zp
  have p2 := bn1 zq
  obtain ⟨x, m, rfl, rfl, hx⟩ := sp_N hs.2.1 p1
  obtain ⟨y, m2, rfl, em, hy⟩ := sp_N hu.2.1 p2
  obtain rfl : m = m2 := (nI_eq (by omega) (by omega)).mp em
  have cx := cl10 (p := x) (by omega)
  have cy := cl10 (p := y) (by omega)
  have cm := cl10 (p := m) (by omega)
  have e : sp_copy V (nI 0) (nI x) (nI 2) (nI y) (nI m) = (nI m, shV V 2 ((V.2.2.2.1 2).1, (V.2.2.2.1 2).2.1, cpF (V.2.2.2.1 0).2.2 (V.2.2.2.1 2).2.2 x y m)) := by rw [sp_copy, if_pos qq, cl_nI (n := 0) (by decide), cl_nI (n := 2) (by decide), if_neg nm, if_neg (fun z => z eqb), if_pos ⟨p1, p2⟩, cl_nI (n := x) (by omega), cl_nI (n := y) (by omega), cl_nI (n := m) (by omega)]
  refine And.intro inS ?_
  refine And.intro inU ?_
  rw [cU]
  refine And.intro ⟨nI_pos (by omega), nI_pos (by omega), nI_pos (by omega), by rw [cx, cm]; omega, by rw [cy, cm]; omega⟩ ?_
  rw [cx, cy, cm, e]
  refine SegP.ret ⟨rfl, hv.sh (s := 2) (q := ((V.2.2.2.1 2).1, (V.2.2.2.1 2).2.1, cpF (V.2.2.2.1 0).2.2 (V.2.2.2.1 2).2.2 x y m)) (by decide) ?_ ?_ (fun i hi => ?_) (fun a h1 h2 => ?_), fun a ha => ?_⟩
  · exact wt.1
  · exact wt.2.1
  · show upR h 59 (va_cpy (h 55) (h 59) x y m) 59 i = cpF _ _ x y m i
    have hi : i < (V.2.2.2.1 2).2.1 := hi
    simp only [upR, if_true]
    unfold cpF
    by_cases w : y ≤ i ∧ i < y + m
    · rw [if_pos w, pk_cpy_in w.1 w.2]
      exact ws.2.2 _ (by omega)
    · rw [if_neg w, pk_cpy_out (by omega)]
      exact wt.2.2 i hi
  · show upR h 59 _ a = h a
    simp only [upR, if_neg h2]
  · show upR h 59 _ a = h a
    simp only [upR, if_neg (show a ≠ 59 by omega)]
set_option maxRecDepth 100000 in
set_option maxHeartbeats 400000 in
theorem lX5_copy_0_3 {V : aV} (hV : VOk V) {h : aH} {g : aG} (hv : CV h V) (f d n : Int32) : SegP mX5_copy 11 (21, [some (.ref 0), some (.int (nI 0)), some (.int f), some (.int (nI 3)), some (.int d), some (.int n)], [], nW, h, g, ρ) (enP (enC h (sp_copy V (nI 0) f (nI 3) d n))) := by
  have qq : ((0 : Int32) ≤ nI 0 ∧ nI 0 ≤ 3) ∧ ((0 : Int32) ≤ nI 3 ∧ nI 3 ≤ 3) := by decide
  have ws := hv.2.2.2.2.1 0 (by decide)
  have wt := hv.2.2.2.2.1 3 (by decide)
  have hs := hV.2.2.2 0 (by decide)
  have hu := hV.2.2.2 3 (by decide)
  have inS := in10 (p := 0) (n := 4) (by decide) (by decide)
  have inU := in10 (p := 3) (n := 4) (by decide) (by decide)
  have cS := cl10 (p := 0) (by decide)
  have cU := cl10 (p := 3) (by decide)
  have es : bI (h 54 1 = 0) = bI ((V.2.2.2.1 0).1 = 0) := bI_iff (by rw [show h 54 1 = nI (V.2.2.2.1 0).1 from ws.1]; exact nI_eq (b := 0) (by omega) (by decide))
  have et : bI (h 60 1 = 0) = bI ((V.2.2.2.1 3).1 = 0) := bI_iff (by rw [show h 60 1 = nI (V.2.2.2.1 3).1 from wt.1]; exact nI_eq (b := 0) (by omega) (by decide))
  have hm1 := tX2_isMissing_54 h g
  rw [es] at hm1
  have hm2 := tX2_isMissing_60 h g
  rw [et] at hm2
  have hp1 := tX2_hasSpan_54 h g f n
  rw [show h 54 2 = nI (V.2.2.2.1 0).2.1 from ws.2.1] at hp1
  have hp2 := tX2_hasSpan_60 h g d n
  rw [show h 60 2 = nI (V.2.2.2.1 3).2.1 from wt.2.1] at hp2
  refine SegP.run [] 400 ?_
  refine And.intro inS ?_
  rw [cS]
  refine SegP.tr (Seg.cV hm1 mlX5_275 iyX2_isMissing seX2_isMissing oyX2_isMissing rfl (by decide) rfl (by decide) (by decide) rfl rfl rfl rfl (Nat.le_of_ble_eq_true rfl) (Nat.le_of_ble_eq_true rfl)) ?_
  refine SegP.run [] 400 ?_
  refine And.intro (fun zm => ?_) (fun zm => ?_)
  · skip
    refine SegP.tr (Seg.cV (tX5_refuse h g 5 (by decide) (-1000006) (by decide)) mlX5_64 iyX5_refuse seX5_refuse oyX5_refuse rfl (by decide) rfl (by decide) (by decide) rfl rfl rfl rfl (Nat.le_of_ble_eq_true rfl) (Nat.le_of_ble_eq_true rfl)) ?_
    refine SegP.run [] 400 ?_
    exact cfn hv (k := 5) (by decide) (by rw [sp_copy, if_pos qq, cl_nI (n := 0) (by decide), cl_nI (n := 3) (by decide), if_pos (Or.inl (bn1 zm))])
  refine And.intro inU ?_
  rw [cU]
  refine SegP.tr (Seg.cV hm2 mlX5_275 iyX2_isMissing seX2_isMissing oyX2_isMissing rfl (by decide) rfl (by decide) (by decide) rfl rfl rfl rfl (Nat.le_of_ble_eq_true rfl) (Nat.le_of_ble_eq_true rfl)) ?_
  refine SegP.run [] 400 ?_
  refine And.intro (fun zt => ?_) (fun zt => ?_)
  case refine_2 =>
    have zt : cmpP .ne (bI ((V.2.2.2.1 3).1 = 0)) 0 := zt
    refine SegP.tr (Seg.cV (tX5_refuse h g 5 (by decide) (-1000006) (by decide)) mlX5_64 iyX5_refuse seX5_refuse oyX5_refuse rfl (by decide) rfl (by decide) (by decide) rfl rfl rfl rfl (Nat.le_of_ble_eq_true rfl) (Nat.le_of_ble_eq_true rfl)) ?_
    refine SegP.run [] 400 ?_
    exact cfn hv (k := 5) (by decide) (by rw [sp_copy, if_pos qq, cl_nI (n := 0) (by decide), cl_nI (n := 3) (by decide), if_pos (Or.inr (bn1 zt))])
  have nm : ¬ ((V.2.2.2.1 0).1 = 0 ∨ (V.2.2.2.1 3).1 = 0) := fun y => y.elim (bn0 zm) (bq0 zt)
  refine And.intro inS ?_
  refine And.intro inU ?_
  rw [cU]
  have eb : (h 54 1 = h 60 1) ↔ (V.2.2.2.1 0).1 = (V.2.2.2.1 3).1 := by
    rw [show h 54 1 = nI (V.2.2.2.1 0).1 from ws.1, show h 60 1 = nI (V.2.2.2.1 3).1 from wt.1]
    exact nI_eq (by omega) (by omega)
  refine And.intro (fun zk => ?_) (fun zk => ?_)
  case refine_2 =>
    have zk : ¬ (V.2.2.2.1 0).1 = (V.2.2.2.1 3).1 := fun y => zk (eb.mpr y)
    refine SegP.tr (Seg.cV (tX5_refuse h g 2 (by decide) (-1000003) (by decide)) mlX5_64 iyX5_refuse seX5_refuse oyX5_refuse rfl (by decide) rfl (by decide) (by decide) rfl rfl rfl rfl (Nat.le_of_ble_eq_true rfl) (Nat.le_of_ble_eq_true rfl)) ?_
    refine SegP.run [] 400 ?_
    exact cfn hv (k := 2) (by decide) (by rw [sp_copy, if_pos qq, cl_nI (n := 0) (by decide), cl_nI (n := 3) (by decide), if_neg nm, if_pos (fun y => zk (by rw [y]))])
  have eqb : (V.2.2.2.1 0).1 = (V.2.2.2.1 3).1 := eb.mp zk
  refine And.intro inS ?_
  rw [cS]
  refine SegP.tr (Seg.cV hp1 mlX5_285 iyX2_hasSpan seX2_hasSpan oyX2_hasSpan rfl (by decide) rfl (by decide) (by decide) rfl rfl rfl rfl (Nat.le_of_ble_eq_true rfl) (Nat.le_of_ble_eq_true rfl)) ?_
  refine SegP.run [] 400 ?_
  refine And.intro (fun zp => ?_) (fun zp => ?_)
  · skip
    refine SegP.tr (Seg.cV (tX5_refuse h g 0 (by decide) (-1000001) (by decide)) mlX5_64 iyX5_refuse seX5_refuse oyX5_refuse rfl (by decide) rfl (by decide) (by decide) rfl rfl rfl rfl (Nat.le_of_ble_eq_true rfl) (Nat.le_of_ble_eq_true rfl)) ?_
    refine SegP.run [] 400 ?_
    exact cfn hv (k := 0) (by decide) (by rw [sp_copy, if_pos qq, cl_nI (n := 0) (by decide), cl_nI (n := 3) (by decide), if_neg nm, if_neg (fun y => y eqb), if_neg (fun y => bq0 zp y.1)])
  refine And.intro inU ?_
  rw [cU]
  refine SegP.tr (Seg.cV hp2 mlX5_285 iyX2_hasSpan seX2_hasSpan oyX2_hasSpan rfl (by decide) rfl (by decide) (by decide) rfl rfl rfl rfl (Nat.le_of_ble_eq_true rfl) (Nat.le_of_ble_eq_true rfl)) ?_
  refine SegP.run [] 400 ?_
  refine And.intro (fun zq => ?_) (fun zq => ?_)
  case refine_2 =>
    have zq : ¬ cmpP .ne (bI (spP (nI (V.2.2.2.1 3).2.1) d n)) 0 := zq
    refine SegP.tr (Seg.cV (tX5_refuse h g 0 (by decide) (-1000001) (by decide)) mlX5_64 iyX5_refuse seX5_refuse oyX5_refuse rfl (by decide) rfl (by decide) (by decide) rfl rfl rfl rfl (Nat.le_of_ble_eq_true rfl) (Nat.le_of_ble_eq_true rfl)) ?_
    refine SegP.run [] 400 ?_
    exact cfn hv (k := 0) (by decide) (by rw [sp_copy, if_pos qq, cl_nI (n := 0) (by decide), cl_nI (n := 3) (by decide), if_neg nm, if_neg (fun y => y eqb), if_neg (fun y => bn0 zq y.2)])
  have p1 := bq1 zp
  have p2 := bn1 zq
  obtain ⟨x, m, rfl, rfl, hx⟩ := sp_N hs.2.1 p1
  obtain ⟨y, m2, rfl, em, hy⟩ := sp_N hu.2.1 p2
  obtain rfl : m = m2 := (nI_eq (by omega) (by omega)).mp em
  have cx := cl10 (p := x) (by omega)
  have cy := cl10 (p := y) (by omega)
  have cm := cl10 (p := m) (by omega)
  have e : sp_copy V (nI 0) (nI x) (nI 3) (nI y) (nI m) = (nI m, shV V 3 ((V.2.2.2.1 3).1, (V.2.2.2.1 3).2.1, cpF (V.2.2.2.1 0).2.2 (V.2.2.2.1 3).2.2 x y m)) := by rw [sp_copy, if_pos qq, cl_nI (n := 0) (by decide), cl_nI (n := 3) (by decide), if_neg nm, if_neg (fun z => z eqb), if_pos ⟨p1, p2⟩, cl_nI (n := x) (by omega), cl_nI (n := y) (by omega), cl_nI (n := m) (by omega)]
  refine And.intro inS ?_
  refine And.intro inU ?_
  rw [cU]
  refine And.intro ⟨nI_pos (by omega), nI_pos (by omega), nI_pos (by omega), by rw [cx, cm]; omega, by rw [cy, cm]; omega⟩ ?_
  rw [cx, cy, cm, e]
  refine SegP.ret ⟨rfl, hv.sh (s := 3) (q := ((V.2.2.2.1 3).1, (V.2.2.2.1 3).2.1, cpF (V.2.2.2.1 0).2.2 (V.2.2.2.1 3).2.2 x y m)) (by decide) ?_ ?_ (fun i hi => ?_) (fun a h1 h2 => ?_), fun a ha => ?_⟩
  · exact wt.1
  · exact wt.2.1
  · show upR h 61 (va_cpy (h 55) (h 61) x y m) 61 i = cpF _ _ x y m i
    have hi : i < (V.2.2.2.1 3).2.1 := hi
    simp only [upR, if_true]
    unfold cpF
    by_cases w : y ≤ i ∧ i < y + m
    · rw [if_pos w, pk_cpy_in w.1 w.2]
      exact ws.2.2 _ (by omega)
    · rw [if_neg w, pk_cpy_out (by omega)]
      exact wt.2.2 i hi
  · show upR h 61 _ a = h a
    simp only [upR, if_neg h2]
  · show upR h 61 _ a = h a
    simp only [upR, if_neg (show a ≠ 61 by omega)]
set_option maxRecDepth 100000 in
set_option maxHeartbeats 400000 in
theorem lX5_copy_1_0 {V : aV} (hV : VOk V) {h : aH} {g : aG} (hv : CV h V) (f d n : Int32) : SegP mX5_copy 11 (21, [some (.ref 0), some (.int (nI 1)), some (.int f), some (.int (nI 0)), some (.int d), some (.int n)], [], nW, h, g, ρ) (enP (enC h (sp_copy V (nI 1) f (nI 0) d n))) := by
  have qq : ((0 : Int32) ≤ nI 1 ∧ nI 1 ≤ 3) ∧ ((0 : Int32) ≤ nI 0 ∧ nI 0 ≤ 3) := by decide
  have ws := hv.2.2.2.2.1 1 (by decide)
  have wt := hv.2.2.2.2.1 0 (by decide)
  have hs := hV.2.2.2 1 (by decide)
  have hu := hV.2.2.2 0 (by decide)
  have inS := in10 (p := 1) (n := 4) (by decide) (by decide)
  have inU := in10 (p := 0) (n := 4) (by decide) (by decide)
  have cS := cl10 (p := 1) (by decide)
  have cU := cl10 (p := 0) (by decide)
  have es : bI (h 56 1 = 0) = bI ((V.2.2.2.1 1).1 = 0) := bI_iff (by rw [show h 56 1 = nI (V.2.2.2.1 1).1 from ws.1]; exact nI_eq (b := 0) (by omega) (by decide))
  have et : bI (h 54 1 = 0) = bI ((V.2.2.2.1 0).1 = 0) := bI_iff (by rw [show h 54 1 = nI (V.2.2.2.1 0).1 from wt.1]; exact nI_eq (b := 0) (by omega) (by decide))
  have hm1 := tX2_isMissing_56 h g
  rw [es] at hm1
  have hm2 := tX2_isMissing_54 h g
  rw [et] at hm2
  have hp1 := tX2_hasSpan_56 h g f n
  rw [show h 56 2 = nI (V.2.2.2.1 1).2.1 from ws.2.1] at hp1
  have hp2 := tX2_hasSpan_54 h g d n
  rw [show h 54 2 = nI (V.2.2.2.1 0).2.1 from wt.2.1] at hp2
  refine SegP.run [] 400 ?_
  refine And.intro inS ?_
  rw [cS]
  refine SegP.tr (Seg.cV hm1 mlX5_275 iyX2_isMissing seX2_isMissing oyX2_isMissing rfl (by decide) rfl (by decide) (by decide) rfl rfl rfl rfl (Nat.le_of_ble_eq_true rfl) (Nat.le_of_ble_eq_true rfl)) ?_
  refine SegP.run [] 400 ?_
  refine And.intro (fun zm => ?_) (fun zm => ?_)
  · skip
    refine SegP.tr (Seg.cV (tX5_refuse h g 5 (by decide) (-1000006) (by decide)) mlX5_64 iyX5_refuse seX5_refuse oyX5_refuse rfl (by decide) rfl (by decide) (by decide) rfl rfl rfl rfl (Nat.le_of_ble_eq_true rfl) (Nat.le_of_ble_eq_true rfl)) ?_
    refine SegP.run [] 400 ?_
    exact cfn hv (k := 5) (by decide) (by rw [sp_copy, if_pos qq, cl_nI (n := 1) (by decide), cl_nI (n := 0) (by decide), if_pos (Or.inl (bn1 zm))])
  refine And.intro inU ?_
  rw [cU]
  refine SegP.tr (Seg.cV hm2 mlX5_275 iyX2_isMissing seX2_isMissing oyX2_isMissing rfl (by decide) rfl (by decide) (by decide) rfl rfl rfl rfl (Nat.le_of_ble_eq_true rfl) (Nat.le_of_ble_eq_true rfl)) ?_
  refine SegP.run [] 400 ?_
  refine And.intro (fun zt => ?_) (fun zt => ?_)
  case refine_2 =>
    have zt : cmpP .ne (bI ((V.2.2.2.1 0).1 = 0)) 0 := zt
    refine SegP.tr (Seg.cV (tX5_refuse h g 5 (by decide) (-1000006) (by decide)) mlX5_64 iyX5_refuse seX5_refuse oyX5_refuse rfl (by decide) rfl (by decide) (by decide) rfl rfl rfl rfl (Nat.le_of_ble_eq_true rfl) (Nat.le_of_ble_eq_true rfl)) ?_
    refine SegP.run [] 400 ?_
    exact cfn hv (k := 5) (by decide) (by rw [sp_copy, if_pos qq, cl_nI (n := 1) (by decide), cl_nI (n := 0) (by decide), if_pos (Or.inr (bn1 zt))])
  have nm : ¬ ((V.2.2.2.1 1).1 = 0 ∨ (V.2.2.2.1 0).1 = 0) := fun y => y.elim (bn0 zm) (bq0 zt)
  refine And.intro inS ?_
  refine And.intro inU ?_
  rw [cU]
  have eb : (h 56 1 = h 54 1) ↔ (V.2.2.2.1 1).1 = (V.2.2.2.1 0).1 := by
    rw [show h 56 1 = nI (V.2.2.2.1 1).1 from ws.1, show h 54 1 = nI (V.2.2.2.1 0).1 from wt.1]
    exact nI_eq (by omega) (by omega)
  refine And.intro (fun zk => ?_) (fun zk => ?_)
  case refine_2 =>
    have zk : ¬ (V.2.2.2.1 1).1 = (V.2.2.2.1 0).1 := fun y => zk (eb.mpr y)
    refine SegP.tr (Seg.cV (tX5_refuse h g 2 (by decide) (-1000003) (by decide)) mlX5_64 iyX5_refuse seX5_refuse oyX5_refuse rfl (by decide) rfl (by decide) (by decide) rfl rfl rfl rfl (Nat.le_of_ble_eq_true rfl) (Nat.le_of_ble_eq_true rfl)) ?_
    refine SegP.run [] 400 ?_
    exact cfn hv (k := 2) (by decide) (by rw [sp_copy, if_pos qq, cl_nI (n := 1) (by decide), cl_nI (n := 0) (by decide), if_neg nm, if_pos (fun y => zk (by rw [y]))])
  have eqb : (V.2.2.2.1 1).1 = (V.2.2.2.1 0).1 := eb.mp zk
  refine And.intro inS ?_
  rw [cS]
  refine SegP.tr (Seg.cV hp1 mlX5_285 iyX2_hasSpan seX2_hasSpan oyX2_hasSpan rfl (by decide) rfl (by decide) (by decide) rfl rfl rfl rfl (Nat.le_of_ble_eq_true rfl) (Nat.le_of_ble_eq_true rfl)) ?_
  refine SegP.run [] 400 ?_
  refine And.intro (fun zp => ?_) (fun zp => ?_)
  · skip
    refine SegP.tr (Seg.cV (tX5_refuse h g 0 (by decide) (-1000001) (by decide)) mlX5_64 iyX5_refuse seX5_refuse oyX5_refuse rfl (by decide) rfl (by decide) (by decide) rfl rfl rfl rfl (Nat.le_of_ble_eq_true rfl) (Nat.le_of_ble_eq_true rfl)) ?_
    refine SegP.run [] 400 ?_
    exact cfn hv (k := 0) (by decide) (by rw [sp_copy, if_pos qq, cl_nI (n := 1) (by decide), cl_nI (n := 0) (by decide), if_neg nm, if_neg (fun y => y eqb), if_neg (fun y => bq0 zp y.1)])
  refine And.intro inU ?_
  rw [cU]
  refine SegP.tr (Seg.cV hp2 mlX5_285 iyX2_hasSpan seX2_hasSpan oyX2_hasSpan rfl (by decide) rfl (by decide) (by decide) rfl rfl rfl rfl (Nat.le_of_ble_eq_true rfl) (Nat.le_of_ble_eq_true rfl)) ?_
  refine SegP.run [] 400 ?_
  refine And.intro (fun zq => ?_) (fun zq => ?_)
  case refine_2 =>
    have zq : ¬ cmpP .ne (bI (spP (nI (V.2.2.2.1 0).2.1) d n)) 0 := zq
    refine SegP.tr (Seg.cV (tX5_refuse h g 0 (by decide) (-1000001) (by decide)) mlX5_64 iyX5_refuse seX5_refuse oyX5_refuse rfl (by decide) rfl (by decide) (by decide) rfl rfl rfl rfl (Nat.le_of_ble_eq_true rfl) (Nat.le_of_ble_eq_true rfl)) ?_
    refine SegP.run [] 400 ?_
    exact cfn hv (k := 0) (by decide) (by rw [sp_copy, if_pos qq, cl_nI (n := 1) (by decide), cl_nI (n := 0) (by decide), if_neg nm, if_neg (fun y => y eqb), if_neg (fun y => bn0 zq y.2)])
  have p1 := bq1 zp
  have p2 := bn1 zq
  obtain ⟨x, m, rfl, rfl, hx⟩ := sp_N hs.2.1 p1
  obtain ⟨y, m2, rfl, em, hy⟩ := sp_N hu.2.1 p2
  obtain rfl : m = m2 := (nI_eq (by omega) (by omega)).mp em
  have cx := cl10 (p := x) (by omega)
  have cy := cl10 (p := y) (by omega)
  have cm := cl10 (p := m) (by omega)
  have e : sp_copy V (nI 1) (nI x) (nI 0) (nI y) (nI m) = (nI m, shV V 0 ((V.2.2.2.1 0).1, (V.2.2.2.1 0).2.1, cpF (V.2.2.2.1 1).2.2 (V.2.2.2.1 0).2.2 x y m)) := by rw [sp_copy, if_pos qq, cl_nI (n := 1) (by decide), cl_nI (n := 0) (by decide), if_neg nm, if_neg (fun z => z eqb), if_pos ⟨p1, p2⟩, cl_nI (n := x) (by omega), cl_nI (n := y) (by omega), cl_nI (n := m) (by omega)]
  refine And.intro inS ?_
  refine And.intro inU ?_
  rw [cU]
  refine And.intro ⟨nI_pos (by omega), nI_pos (by omega), nI_pos (by omega), by rw [cx, cm]; omega, by rw [cy, cm]; omega⟩ ?_
  rw [cx, cy, cm, e]
  refine SegP.ret ⟨rfl, hv.sh (s := 0) (q := ((V.2.2.2.1 0).1, (V.2.2.2.1 0).2.1, cpF (V.2.2.2.1 1).2.2 (V.2.2.2.1 0).2.2 x y m)) (by decide) ?_ ?_ (fun i hi => ?_) (fun a h1 h2 => ?_), fun a ha => ?_⟩
  · exact wt.1
  · exact wt.2.1
  · show upR h 55 (va_cpy (h 57) (h 55) x y m) 55 i = cpF _ _ x y m i
    have hi : i < (V.2.2.2.1 0).2.1 := hi
    simp only [upR, if_true]
    unfold cpF
    by_cases w : y ≤ i ∧ i < y + m
    · rw [if_pos w, pk_cpy_in w.1 w.2]
      exact ws.2.2 _ (by omega)
    · rw [if_neg w, pk_cpy_out (by omega)]
      exact wt.2.2 i hi
  · show upR h 55 _ a = h a
    simp only [upR, if_neg h2]
  · show upR h 55 _ a = h a
    simp only [upR, if_neg (show a ≠ 55 by omega)]
set_option maxRecDepth 100000 in
set_option maxHeartbeats 400000 in
theorem lX5_copy_1_1 {V : aV} (hV : VOk V) {h : aH} {g : aG} (hv : CV h V) (f d n : Int32) : SegP mX5_copy 11 (21, [some (.ref 0), some (.int (nI 1)), some (.int f), some (.int (nI 1)), some (.int d), some (.int n)], [], nW, h, g, ρ) (enP (enC h (sp_copy V (nI 1) f (nI 1) d n))) := by
  have qq : ((0 : Int32) ≤ nI 1 ∧ nI 1 ≤ 3) ∧ ((0 : Int32) ≤ nI 1 ∧ nI 1 ≤ 3) := by decide
  have ws := hv.2.2.2.2.1 1 (by decide)
  have wt := hv.2.2.2.2.1 1 (by decide)
  have hs := hV.2.2.2 1 (by decide)
  have hu := hV.2.2.2 1 (by decide)
  have inS := in10 (p := 1) (n := 4) (by decide) (by decide)
  have inU := in10 (p := 1) (n := 4) (by decide) (by decide)
  have cS := cl10 (p := 1) (by decide)
  have cU := cl10 (p := 1) (by decide)
  have es : bI (h 56 1 = 0) = bI ((V.2.2.2.1 1).1 = 0) := bI_iff (by rw [show h 56 1 = nI (V.2.2.2.1 1).1 from ws.1]; exact nI_eq (b := 0) (by omega) (by decide))
  have et : bI (h 56 1 = 0) = bI ((V.2.2.2.1 1).1 = 0) := bI_iff (by rw [show h 56 1 = nI (V.2.2.2.1 1).1 from wt.1]; exact nI_eq (b := 0) (by omega) (by decide))
  have hm1 := tX2_isMissing_56 h g
  rw [es] at hm1
  have hm2 := tX2_isMissing_56 h g
  rw [et] at hm2
  have hp1 := tX2_hasSpan_56 h g f n
  rw [show h 56 2 = nI (V.2.2.2.1 1).2.1 from ws.2.1] at hp1
  have hp2 := tX2_hasSpan_56 h g d n
  rw [show h 56 2 = nI (V.2.2.2.1 1).2.1 from wt.2.1] at hp2
  refine SegP.run [] 400 ?_
  refine And.intro inS ?_
  rw [cS]
  refine SegP.tr (Seg.cV hm1 mlX5_275 iyX2_isMissing seX2_isMissing oyX2_isMissing rfl (by decide) rfl (by decide) (by decide) rfl rfl rfl rfl (Nat.le_of_ble_eq_true rfl) (Nat.le_of_ble_eq_true rfl)) ?_
  refine SegP.run [] 400 ?_
  refine And.intro (fun zm => ?_) (fun zm => ?_)
  · skip
    refine SegP.tr (Seg.cV (tX5_refuse h g 5 (by decide) (-1000006) (by decide)) mlX5_64 iyX5_refuse seX5_refuse oyX5_refuse rfl (by decide) rfl (by decide) (by decide) rfl rfl rfl rfl (Nat.le_of_ble_eq_true rfl) (Nat.le_of_ble_eq_true rfl)) ?_
    refine SegP.run [] 400 ?_
    exact cfn hv (k := 5) (by decide) (by rw [sp_copy, if_pos qq, cl_nI (n := 1) (by decide), if_pos (Or.inl (bn1 zm))])
  refine And.intro inU ?_
  rw [cU]
  refine SegP.tr (Seg.cV hm2 mlX5_275 iyX2_isMissing seX2_isMissing oyX2_isMissing rfl (by decide) rfl (by decide) (by decide) rfl rfl rfl rfl (Nat.le_of_ble_eq_true rfl) (Nat.le_of_ble_eq_true rfl)) ?_
  refine SegP.run [] 400 ?_
  refine And.intro (fun zt => ?_) (fun zt => ?_)
  case refine_2 =>
    have zt : cmpP .ne (bI ((V.2.2.2.1 1).1 = 0)) 0 := zt
    refine SegP.tr (Seg.cV (tX5_refuse h g 5 (by decide) (-1000006) (by decide)) mlX5_64 iyX5_refuse seX5_refuse oyX5_refuse rfl (by decide) rfl (by decide) (by decide) rfl rfl rfl rfl (Nat.le_of_ble_eq_true rfl) (Nat.le_of_ble_eq_true rfl)) ?_
    refine SegP.run [] 400 ?_
    exact cfn hv (k := 5) (by decide) (by rw [sp_copy, if_pos qq, cl_nI (n := 1) (by decide), if_pos (Or.inr (bn1 zt))])
  have nm : ¬ ((V.2.2.2.1 1).1 = 0 ∨ (V.2.2.2.1 1).1 = 0) := fun y => y.elim (bn0 zm) (bq0 zt)
  refine And.intro inS ?_
  refine And.intro inU ?_
  rw [cU]
  have eb : (h 56 1 = h 56 1) ↔ (V.2.2.2.1 1).1 = (V.2.2.2.1 1).1 := by
    exact ⟨fun _ => rfl, fun _ => rfl⟩
  refine And.intro (fun zk => ?_) (fun zk => ?_)
  case refine_2 =>
    have zk : ¬ (V.2.2.2.1 1).1 = (V.2.2.2.1 1).1 := fun y => zk (eb.mpr y)
    refine SegP.tr (Seg.cV (tX5_refuse h g 2 (by decide) (-1000003) (by decide)) mlX5_64 iyX5_refuse seX5_refuse oyX5_refuse rfl (by decide) rfl (by decide) (by decide) rfl rfl rfl rfl (Nat.le_of_ble_eq_true rfl) (Nat.le_of_ble_eq_true rfl)) ?_
    refine SegP.run [] 400 ?_
    exact cfn hv (k := 2) (by decide) (by rw [sp_copy, if_pos qq, cl_nI (n := 1) (by decide), if_neg nm, if_pos (fun y => zk (by rw [y]))])
  have eqb : (V.2.2.2.1 1).1 = (V.2.2.2.1 1).1 := eb.mp zk
  refine And.intro inS ?_
  rw [cS]
  refine SegP.tr (Seg.cV hp1 mlX5_285 iyX2_hasSpan seX2_hasSpan oyX2_hasSpan rfl (by decide) rfl (by decide) (by decide) rfl rfl rfl rfl (Nat.le_of_ble_eq_true rfl) (Nat.le_of_ble_eq_true rfl)) ?_
  refine SegP.run [] 400 ?_
  refine And.intro (fun zp => ?_) (fun zp => ?_)
  · skip
    refine SegP.tr (Seg.cV (tX5_refuse h g 0 (by decide) (-1000001) (by decide)) mlX5_64 iyX5_refuse seX5_refuse oyX5_refuse rfl (by decide) rfl (by decide) (by decide) rfl rfl rfl rfl (Nat.le_of_ble_eq_true rfl) (Nat.le_of_ble_eq_true rfl)) ?_
    refine SegP.run [] 400 ?_
    exact cfn hv (k := 0) (by decide) (by rw [sp_copy, if_pos qq, cl_nI (n := 1) (by decide), if_neg nm, if_neg (fun y => y eqb), if_neg (fun y => bq0 zp y.1)])
  refine And.intro inU ?_
  rw [cU]
  refine SegP.tr (Seg.cV hp2 mlX5_285 iyX2_hasSpan seX2_hasSpan oyX2_hasSpan rfl (by decide) rfl (by decide) (by decide) rfl rfl rfl rfl (Nat.le_of_ble_eq_true rfl) (Nat.le_of_ble_eq_true rfl)) ?_
  refine SegP.run [] 400 ?_
  refine And.intro (fun zq => ?_) (fun zq => ?_)
  case refine_2 =>
    have zq : ¬ cmpP .ne (bI (spP (nI (V.2.2.2.1 1).2.1) d n)) 0 := zq
    refine SegP.tr (Seg.cV (tX5_refuse h g 0 (by decide) (-1000001) (by decide)) mlX5_64 iyX5_refuse seX5_refuse oyX5_refuse rfl (by decide) rfl (by decide) (by decide) rfl rfl rfl rfl (Nat.le_of_ble_eq_true rfl) (Nat.le_of_ble_eq_true rfl)) ?_
    refine SegP.run [] 400 ?_
    exact cfn hv (k := 0) (by decide) (by rw [sp_copy, if_pos qq, cl_nI (n := 1) (by decide), if_neg nm, if_neg (fun y => y eqb), if_neg (fun y => bn0 zq y.2)])
  have p1 := bq1 zp
  have p2 := bn1 zq
  obtain ⟨x, m, rfl, rfl, hx⟩ := sp_N hs.2.1 p1
  obtain ⟨y, m2, rfl, em, hy⟩ := sp_N hu.2.1 p2
  obtain rfl : m = m2 := (nI_eq (by omega) (by omega)).mp em
  have cx := cl10 (p := x) (by omega)
  have cy := cl10 (p := y) (by omega)
  have cm := cl10 (p := m) (by omega)
  have e : sp_copy V (nI 1) (nI x) (nI 1) (nI y) (nI m) = (nI m, shV V 1 ((V.2.2.2.1 1).1, (V.2.2.2.1 1).2.1, cpF (V.2.2.2.1 1).2.2 (V.2.2.2.1 1).2.2 x y m)) := by rw [sp_copy, if_pos qq, cl_nI (n := 1) (by decide), if_neg nm, if_neg (fun z => z eqb), if_pos ⟨p1, p2⟩, cl_nI (n := x) (by omega), cl_nI (n := y) (by omega), cl_nI (n := m) (by omega)]
  refine And.intro inS ?_
  refine And.intro inU ?_
  rw [cU]
  refine And.intro ⟨nI_pos (by omega), nI_pos (by omega), nI_pos (by omega), by rw [cx, cm]; omega, by rw [cy, cm]; omega⟩ ?_
  rw [cx, cy, cm, e]
  refine SegP.ret ⟨rfl, hv.sh (s := 1) (q := ((V.2.2.2.1 1).1, (V.2.2.2.1 1).2.1, cpF (V.2.2.2.1 1).2.2 (V.2.2.2.1 1).2.2 x y m)) (by decide) ?_ ?_ (fun i hi => ?_) (fun a h1 h2 => ?_), fun a ha => ?_⟩
  · exact wt.1
  · exact wt.2.1
  · show upR h 57 (va_cpy (h 57) (h 57) x y m) 57 i = cpF _ _ x y m i
    have hi : i < (V.2.2.2.1 1).2.1 := hi
    simp only [upR, if_true]
    unfold cpF
    by_cases w : y ≤ i ∧ i < y + m
    · rw [if_pos w, pk_cpy_in w.1 w.2]
      exact ws.2.2 _ (by omega)
    · rw [if_neg w, pk_cpy_out (by omega)]
      exact wt.2.2 i hi
  · show upR h 57 _ a = h a
    simp only [upR, if_neg h2]
  · show upR h 57 _ a = h a
    simp only [upR, if_neg (show a ≠ 57 by omega)]
set_option maxRecDepth 100000 in
set_option maxHeartbeats 400000 in
theorem lX5_copy_1_2 {V : aV} (hV : VOk V) {h : aH} {g : aG} (hv : CV h V) (f d n : Int32) : SegP mX5_copy 11 (21, [some (.ref 0), some (.int (nI 1)), some (.int f), some (.int (nI 2)), some (.int d), some (.int n)], [], nW, h, g, ρ) (enP (enC h (sp_copy V (nI 1) f (nI 2) d n))) := by
  have qq : ((0 : Int32) ≤ nI 1 ∧ nI 1 ≤ 3) ∧ ((0 : Int32) ≤ nI 2 ∧ nI 2 ≤ 3) := by decide
  have ws := hv.2.2.2.2.1 1 (by decide)
  have wt := hv.2.2.2.2.1 2 (by decide)
  have hs := hV.2.2.2 1 (by decide)
  have hu := hV.2.2.2 2 (by decide)
  have inS := in10 (p := 1) (n := 4) (by decide) (by decide)
  have inU := in10 (p := 2) (n := 4) (by decide) (by decide)
  have cS := cl10 (p := 1) (by decide)
  have cU := cl10 (p := 2) (by decide)
  have es : bI (h 56 1 = 0) = bI ((V.2.2.2.1 1).1 = 0) := bI_iff (by rw [show h 56 1 = nI (V.2.2.2.1 1).1 from ws.1]; exact nI_eq (b := 0) (by omega) (by decide))
  have et : bI (h 58 1 = 0) = bI ((V.2.2.2.1 2).1 = 0) := bI_iff (by rw [show h 58 1 = nI (V.2.2.2.1 2).1 from wt.1]; exact nI_eq (b := 0) (by omega) (by decide))
  have hm1 := tX2_isMissing_56 h g
  rw [es] at hm1
  have hm2 := tX2_isMissing_58 h g
  rw [et] at hm2
  have hp1 := tX2_hasSpan_56 h g f n
  rw [show h 56 2 = nI (V.2.2.2.1 1).2.1 from ws.2.1] at hp1
  have hp2 := tX2_hasSpan_58 h g d n
  rw [show h 58 2 = nI (V.2.2.2.1 2).2.1 from wt.2.1] at hp2
  refine SegP.run [] 400 ?_
  refine And.intro inS ?_
  rw [cS]
  refine SegP.tr (Seg.cV hm1 mlX5_275 iyX2_isMissing seX2_isMissing oyX2_isMissing rfl (by decide) rfl (by decide) (by decide) rfl rfl rfl rfl (Nat.le_of_ble_eq_true rfl) (Nat.le_of_ble_eq_true rfl)) ?_
  refine SegP.run [] 400 ?_
  refine And.intro (fun zm => ?_) (fun zm => ?_)
  · skip
    refine SegP.tr (Seg.cV (tX5_refuse h g 5 (by decide) (-1000006) (by decide)) mlX5_64 iyX5_refuse seX5_refuse oyX5_refuse rfl (by decide) rfl (by decide) (by decide) rfl rfl rfl rfl (Nat.le_of_ble_eq_true rfl) (Nat.le_of_ble_eq_true rfl)) ?_
    refine SegP.run [] 400 ?_
    exact cfn hv (k := 5) (by decide) (by rw [sp_copy, if_pos qq, cl_nI (n := 1) (by decide), cl_nI (n := 2) (by decide), if_pos (Or.inl (bn1 zm))])
  refine And.intro inU ?_
  rw [cU]
  refine SegP.tr (Seg.cV hm2 mlX5_275 iyX2_isMissing seX2_isMissing oyX2_isMissing rfl (by decide) rfl (by decide) (by decide) rfl rfl rfl rfl (Nat.le_of_ble_eq_true rfl) (Nat.le_of_ble_eq_true rfl)) ?_
  refine SegP.run [] 400 ?_
  refine And.intro (fun zt => ?_) (fun zt => ?_)
  case refine_2 =>
    have zt : cmpP .ne (bI ((V.2.2.2.1 2).1 = 0)) 0 := zt
    refine SegP.tr (Seg.cV (tX5_refuse h g 5 (by decide) (-1000006) (by decide)) mlX5_64 iyX5_refuse seX5_refuse oyX5_refuse rfl (by decide) rfl (by decide) (by decide) rfl rfl rfl rfl (Nat.le_of_ble_eq_true rfl) (Nat.le_of_ble_eq_true rfl)) ?_
    refine SegP.run [] 400 ?_
    exact cfn hv (k := 5) (by decide) (by rw [sp_copy, if_pos qq, cl_nI (n := 1) (by decide), cl_nI (n := 2) (by decide), if_pos (Or.inr (bn1 zt))])
  have nm : ¬ ((V.2.2.2.1 1).1 = 0 ∨ (V.2.2.2.1 2).1 = 0) := fun y => y.elim (bn0 zm) (bq0 zt)
  refine And.intro inS ?_
  refine And.intro inU ?_
  rw [cU]
  have eb : (h 56 1 = h 58 1) ↔ (V.2.2.2.1 1).1 = (V.2.2.2.1 2).1 := by
    rw [show h 56 1 = nI (V.2.2.2.1 1).1 from ws.1, show h 58 1 = nI (V.2.2.2.1 2).1 from wt.1]
    exact nI_eq (by omega) (by omega)
  refine And.intro (fun zk => ?_) (fun zk => ?_)
  case refine_2 =>
    have zk : ¬ (V.2.2.2.1 1).1 = (V.2.2.2.1 2).1 := fun y => zk (eb.mpr y)
    refine SegP.tr (Seg.cV (tX5_refuse h g 2 (by decide) (-1000003) (by decide)) mlX5_64 iyX5_refuse seX5_refuse oyX5_refuse rfl (by decide) rfl (by decide) (by decide) rfl rfl rfl rfl (Nat.le_of_ble_eq_true rfl) (Nat.le_of_ble_eq_true rfl)) ?_
    refine SegP.run [] 400 ?_
    exact cfn hv (k := 2) (by decide) (by rw [sp_copy, if_pos qq, cl_nI (n := 1) (by decide), cl_nI (n := 2) (by decide), if_neg nm, if_pos (fun y => zk (by rw [y]))])
  have eqb : (V.2.2.2.1 1).1 = (V.2.2.2.1 2).1 := eb.mp zk
  refine And.intro inS ?_
  rw [cS]
  refine SegP.tr (Seg.cV hp1 mlX5_285 iyX2_hasSpan seX2_hasSpan oyX2_hasSpan rfl (by decide) rfl (by decide) (by decide) rfl rfl rfl rfl (Nat.le_of_ble_eq_true rfl) (Nat.le_of_ble_eq_true rfl)) ?_
  refine SegP.run [] 400 ?_
  refine And.intro (fun zp => ?_) (fun zp => ?_)
  · skip
    refine SegP.tr (Seg.cV (tX5_refuse h g 0 (by decide) (-1000001) (by decide)) mlX5_64 iyX5_refuse seX5_refuse oyX5_refuse rfl (by decide) rfl (by decide) (by decide) rfl rfl rfl rfl (Nat.le_of_ble_eq_true rfl) (Nat.le_of_ble_eq_true rfl)) ?_
    refine SegP.run [] 400 ?_
    exact cfn hv (k := 0) (by decide) (by rw [sp_copy, if_pos qq, cl_nI (n := 1) (by decide), cl_nI (n := 2) (by decide), if_neg nm, if_neg (fun y => y eqb), if_neg (fun y => bq0 zp y.1)])
  refine And.intro inU ?_
  rw [cU]
  refine SegP.tr (Seg.cV hp2 mlX5_285 iyX2_hasSpan seX2_hasSpan oyX2_hasSpan rfl (by decide) rfl (by decide) (by decide) rfl rfl rfl rfl (Nat.le_of_ble_eq_true rfl) (Nat.le_of_ble_eq_true rfl)) ?_
  refine SegP.run [] 400 ?_
  refine And.intro (fun zq => ?_) (fun zq => ?_)
  case refine_2 =>
    have zq : ¬ cmpP .ne (bI (spP (nI (V.2.2.2.1 2).2.1) d n)) 0 := zq
    refine SegP.tr (Seg.cV (tX5_refuse h g 0 (by decide) (-1000001) (by decide)) mlX5_64 iyX5_refuse seX5_refuse oyX5_refuse rfl (by decide) rfl (by decide) (by decide) rfl rfl rfl rfl (Nat.le_of_ble_eq_true rfl) (Nat.le_of_ble_eq_true rfl)) ?_
    refine SegP.run [] 400 ?_
    exact cfn hv (k := 0) (by decide) (by rw [sp_copy, if_pos qq, cl_nI (n := 1) (by decide), cl_nI (n := 2) (by decide), if_neg nm, if_neg (fun y => y eqb), if_neg (fun y => bn0 zq y.2)])
  have p1 := bq1 zp
  have p2 := bn1 zq
  obtain ⟨x, m, rfl, rfl, hx⟩ := sp_N hs.2.1 p1
  obtain ⟨y, m2, rfl, em, hy⟩ := sp_N hu.2.1 p2
  obtain rfl : m = m2 := (nI_eq (by omega) (by omega)).mp em
  have cx := cl10 (p := x) (by omega)
  have cy := cl10 (p := y) (by omega)
  have cm := cl10 (p := m) (by omega)
  have e : sp_copy V (nI 1) (nI x) (nI 2) (nI y) (nI m) = (nI m, shV V 2 ((V.2.2.2.1 2).1, (V.2.2.2.1 2).2.1, cpF (V.2.2.2.1 1).2.2 (V.2.2.2.1 2).2.2 x y m)) := by rw [sp_copy, if_pos qq, cl_nI (n := 1) (by decide), cl_nI (n := 2) (by decide), if_neg nm, if_neg (fun z => z eqb), if_pos ⟨p1, p2⟩, cl_nI (n := x) (by omega), cl_nI (n := y) (by omega), cl_nI (n := m) (by omega)]
  refine And.intro inS ?_
  refine And.intro inU ?_
  rw [cU]
  refine And.intro ⟨nI_pos (by omega), nI_pos (by omega), nI_pos (by omega), by rw [cx, cm]; omega, by rw [cy, cm]; omega⟩ ?_
  rw [cx, cy, cm, e]
  refine SegP.ret ⟨rfl, hv.sh (s := 2) (q := ((V.2.2.2.1 2).1, (V.2.2.2.1 2).2.1, cpF (V.2.2.2.1 1).2.2 (V.2.2.2.1 2).2.2 x y m)) (by decide) ?_ ?_ (fun i hi => ?_) (fun a h1 h2 => ?_), fun a ha => ?_⟩
  · exact wt.1
  · exact wt.2.1
  · show upR h 59 (va_cpy (h 57) (h 59) x y m) 59 i = cpF _ _ x y m i
    have hi : i < (V.2.2.2.1 2).2.1 := hi
    simp only [upR, if_true]
    unfold cpF
    by_cases w : y ≤ i ∧ i < y + m
    · rw [if_pos w, pk_cpy_in w.1 w.2]
      exact ws.2.2 _ (by omega)
    · rw [if_neg w, pk_cpy_out (by omega)]
      exact wt.2.2 i hi
  · show upR h 59 _ a = h a
    simp only [upR, if_neg h2]
  · show upR h 59 _ a = h a
    simp only [upR, if_neg (show a ≠ 59 by omega)]
set_option maxRecDepth 100000 in
set_option maxHeartbeats 400000 in
theorem lX5_copy_1_3 {V : aV} (hV : VOk V) {h : aH} {g : aG} (hv : CV h V) (f d n : Int32) : SegP mX5_copy 11 (21, [some (.ref 0), some (.int (nI 1)), some (.int f), some (.int (nI 3)), some (.int d), some (.int n)], [], nW, h, g, ρ) (enP (enC h (sp_copy V (nI 1) f (nI 3) d n))) := by
  have qq : ((0 : Int32) ≤ nI 1 ∧ nI 1 ≤ 3) ∧ ((0 : Int32) ≤ nI 3 ∧ nI 3 ≤ 3) := by decide
  have ws := hv.2.2.2.2.1 1 (by decide)
  have wt := hv.2.2.2.2.1 3 (by decide)
  have hs := hV.2.2.2 1 (by decide)
  have hu := hV.2.2.2 3 (by decide)
  have inS := in10 (p := 1) (n := 4) (by decide) (by decide)
  have inU := in10 (p := 3) (n := 4) (by decide) (by decide)
  have cS := cl10 (p := 1) (by decide)
  have cU := cl10 (p := 3) (by decide)
  have es : bI (h 56 1 = 0) = bI ((V.2.2.2.1 1).1 = 0) := bI_iff (by rw [show h 56 1 = nI (V.2.2.2.1 1).1 from ws.1]; exact nI_eq (b := 0) (by omega) (by decide))
  have et : bI (h 60 1 = 0) = bI ((V.2.2.2.1 3).1 = 0) := bI_iff (by rw [show h 60 1 = nI (V.2.2.2.1 3).1 from wt.1]; exact nI_eq (b := 0) (by omega) (by decide))
  have hm1 := tX2_isMissing_56 h g
  rw [es] at hm1
  have hm2 := tX2_isMissing_60 h g
  rw [et] at hm2
  have hp1 := tX2_hasSpan_56 h g f n
  rw [show h 56 2 = nI (V.2.2.2.1 1).2.1 from ws.2.1] at hp1
  have hp2 := tX2_hasSpan_60 h g d n
  rw [show h 60 2 = nI (V.2.2.2.1 3).2.1 from wt.2.1] at hp2
  refine SegP.run [] 400 ?_
  refine And.intro inS ?_
  rw [cS]
  refine SegP.tr (Seg.cV hm1 mlX5_275 iyX2_isMissing seX2_isMissing oyX2_isMissing rfl (by decide) rfl (by decide) (by decide) rfl rfl rfl rfl (Nat.le_of_ble_eq_true rfl) (Nat.le_of_ble_eq_true rfl)) ?_
  refine SegP.run [] 400 ?_
  refine And.intro (fun zm => ?_) (fun zm => ?_)
  · skip
    refine SegP.tr (Seg.cV (tX5_refuse h g 5 (by decide) (-1000006) (by decide)) mlX5_64 iyX5_refuse seX5_refuse oyX5_refuse rfl (by decide) rfl (by decide) (by decide) rfl rfl rfl rfl (Nat.le_of_ble_eq_true rfl) (Nat.le_of_ble_eq_true rfl)) ?_
    refine SegP.run [] 400 ?_
    exact cfn hv (k := 5) (by decide) (by rw [sp_copy, if_pos qq, cl_nI (n := 1) (by decide), cl_nI (n := 3) (by decide), if_pos (Or.inl (bn1 zm))])
  refine And.intro inU ?_
  rw [cU]
  refine SegP.tr (Seg.cV hm2 mlX5_275 iyX2_isMissing seX2_isMissing oyX2_isMissing rfl (by decide) rfl (by decide) (by decide) rfl rfl rfl rfl (Nat.le_of_ble_eq_true rfl) (Nat.le_of_ble_eq_true rfl)) ?_
  refine SegP.run [] 400 ?_
  refine And.intro (fun zt => ?_) (fun zt => ?_)
  case refine_2 =>
    have zt : cmpP .ne (bI ((V.2.2.2.1 3).1 = 0)) 0 := zt
    refine SegP.tr (Seg.cV (tX5_refuse h g 5 (by decide) (-1000006) (by decide)) mlX5_64 iyX5_refuse seX5_refuse oyX5_refuse rfl (by decide) rfl (by decide) (by decide) rfl rfl rfl rfl (Nat.le_of_ble_eq_true rfl) (Nat.le_of_ble_eq_true rfl)) ?_
    refine SegP.run [] 400 ?_
    exact cfn hv (k := 5) (by decide) (by rw [sp_copy, if_pos qq, cl_nI (n := 1) (by decide), cl_nI (n := 3) (by decide), if_pos (Or.inr (bn1 zt))])
  have nm : ¬ ((V.2.2.2.1 1).1 = 0 ∨ (V.2.2.2.1 3).1 = 0) := fun y => y.elim (bn0 zm) (bq0 zt)
  refine And.intro inS ?_
  refine And.intro inU ?_
  rw [cU]
  have eb : (h 56 1 = h 60 1) ↔ (V.2.2.2.1 1).1 = (V.2.2.2.1 3).1 := by
    rw [show h 56 1 = nI (V.2.2.2.1 1).1 from ws.1, show h 60 1 = nI (V.2.2.2.1 3).1 from wt.1]
    exact nI_eq (by omega) (by omega)
  refine And.intro (fun zk => ?_) (fun zk => ?_)
  case refine_2 =>
    have zk : ¬ (V.2.2.2.1 1).1 = (V.2.2.2.1 3).1 := fun y => zk (eb.mpr y)
    refine SegP.tr (Seg.cV (tX5_refuse h g 2 (by decide) (-1000003) (by decide)) mlX5_64 iyX5_refuse seX5_refuse oyX5_refuse rfl (by decide) rfl (by decide) (by decide) rfl rfl rfl rfl (Nat.le_of_ble_eq_true rfl) (Nat.le_of_ble_eq_true rfl)) ?_
    refine SegP.run [] 400 ?_
    exact cfn hv (k := 2) (by decide) (by rw [sp_copy, if_pos qq, cl_nI (n := 1) (by decide), cl_nI (n := 3) (by decide), if_neg nm, if_pos (fun y => zk (by rw [y]))])
  have eqb : (V.2.2.2.1 1).1 = (V.2.2.2.1 3).1 := eb.mp zk
  refine And.intro inS ?_
  rw [cS]
  refine SegP.tr (Seg.cV hp1 mlX5_285 iyX2_hasSpan seX2_hasSpan oyX2_hasSpan rfl (by decide) rfl (by decide) (by decide) rfl rfl rfl rfl (Nat.le_of_ble_eq_true rfl) (Nat.le_of_ble_eq_true rfl)) ?_
  refine SegP.run [] 400 ?_
  refine And.intro (fun zp => ?_) (fun zp => ?_)
  · skip
    refine SegP.tr (Seg.cV (tX5_refuse h g 0 (by decide) (-1000001) (by decide)) mlX5_64 iyX5_refuse seX5_refuse oyX5_refuse rfl (by decide) rfl (by decide) (by decide) rfl rfl rfl rfl (Nat.le_of_ble_eq_true rfl) (Nat.le_of_ble_eq_true rfl)) ?_
    refine SegP.run [] 400 ?_
    exact cfn hv (k := 0) (by decide) (by rw [sp_copy, if_pos qq, cl_nI (n := 1) (by decide), cl_nI (n := 3) (by decide), if_neg nm, if_neg (fun y => y eqb), if_neg (fun y => bq0 zp y.1)])
  refine And.intro inU ?_
  rw [cU]
  refine SegP.tr (Seg.cV hp2 mlX5_285 iyX2_hasSpan seX2_hasSpan oyX2_hasSpan rfl (by decide) rfl (by decide) (by decide) rfl rfl rfl rfl (Nat.le_of_ble_eq_true rfl) (Nat.le_of_ble_eq_true rfl)) ?_
  refine SegP.run [] 400 ?_
  refine And.intro (fun zq => ?_) (fun zq => ?_)
  case refine_2 =>
    have zq : ¬ cmpP .ne (bI (spP (nI (V.2.2.2.1 3).2.1) d n)) 0 := zq
    refine SegP.tr (Seg.cV (tX5_refuse h g 0 (by decide) (-1000001) (by decide)) mlX5_64 iyX5_refuse seX5_refuse oyX5_refuse rfl (by decide) rfl (by decide) (by decide) rfl rfl rfl rfl (Nat.le_of_ble_eq_true rfl) (Nat.le_of_ble_eq_true rfl)) ?_
    refine SegP.run [] 400 ?_
    exact cfn hv (k := 0) (by decide) (by rw [sp_copy, if_pos qq, cl_nI (n := 1) (by decide), cl_nI (n := 3) (by decide), if_neg nm, if_neg (fun y => y eqb), if_neg (fun y => bn0 zq y.2)])
  have p1 := bq1 zp
  have p2 := bn1 zq
  obtain ⟨x, m, rfl, rfl, hx⟩ := sp_N hs.2.1 p1
  obtain ⟨y, m2, rfl, em, hy⟩ := sp_N hu.2.1 p2
  obtain rfl : m = m2 := (nI_eq (by omega) (by omega)).mp em
  have cx := cl10 (p := x) (by omega)
  have cy := cl10 (p := y) (by omega)
  have cm := cl10 (p := m) (by omega)
  have e : sp_copy V (nI 1) (nI x) (nI 3) (nI y) (nI m) = (nI m, shV V 3 ((V.2.2.2.1 3).1, (V.2.2.2.1 3).2.1, cpF (V.2.2.2.1 1).2.2 (V.2.2.2.1 3).2.2 x y m)) := by rw [sp_copy, if_pos qq, cl_nI (n := 1) (by decide), cl_nI (n := 3) (by decide), if_neg nm, if_neg (fun z => z eqb), if_pos ⟨p1, p2⟩, cl_nI (n := x) (by omega), cl_nI (n := y) (by omega), cl_nI (n := m) (by omega)]
  refine And.intro inS ?_
  refine And.intro inU ?_
  rw [cU]
  refine And.intro ⟨nI_pos (by omega), nI_pos (by omega), nI_pos (by omega), by rw [cx, cm]; omega, by rw [cy, cm]; omega⟩ ?_
  rw [cx, cy, cm, e]
  refine SegP.ret ⟨rfl, hv.sh (s := 3) (q := ((V.2.2.2.1 3).1, (V.2.2.2.1 3).2.1, cpF (V.2.2.2.1 1).2.2 (V.2.2.2.1 3).2.2 x y m)) (by decide) ?_ ?_ (fun i hi => ?_) (fun a h1 h2 => ?_), fun a ha => ?_⟩
  · exact wt.1
  · exact wt.2.1
  · show upR h 61 (va_cpy (h 57) (h 61) x y m) 61 i = cpF _ _ x y m i
    have hi : i < (V.2.2.2.1 3).2.1 := hi
    simp only [upR, if_true]
    unfold cpF
    by_cases w : y ≤ i ∧ i < y + m
    · rw [if_pos w, pk_cpy_in w.1 w.2]
      exact ws.2.2 _ (by omega)
    · rw [if_neg w, pk_cpy_out (by omega)]
      exact wt.2.2 i hi
  · show upR h 61 _ a = h a
    simp only [upR, if_neg h2]
  · show upR h 61 _ a = h a
    simp only [upR, if_neg (show a ≠ 61 by omega)]
set_option maxRecDepth 100000 in
set_option maxHeartbeats 400000 in
theorem lX5_copy_2_0 {V : aV} (hV : VOk V) {h : aH} {g : aG} (hv : CV h V) (f d n : Int32) : SegP mX5_copy 11 (21, [some (.ref 0), some (.int (nI 2)), some (.int f), some (.int (nI 0)), some (.int d), some (.int n)], [], nW, h, g, ρ) (enP (enC h (sp_copy V (nI 2) f (nI 0) d n))) := by
  have qq : ((0 : Int32) ≤ nI 2 ∧ nI 2 ≤ 3) ∧ ((0 : Int32) ≤ nI 0 ∧ nI 0 ≤ 3) := by decide
  have ws := hv.2.2.2.2.1 2 (by decide)
  have wt := hv.2.2.2.2.1 0 (by decide)
  have hs := hV.2.2.2 2 (by decide)
  have hu := hV.2.2.2 0 (by decide)
  have inS := in10 (p := 2) (n := 4) (by decide) (by decide)
  have inU := in10 (p := 0) (n := 4) (by decide) (by decide)
  have cS := cl10 (p := 2) (by decide)
  have cU := cl10 (p := 0) (by decide)
  have es : bI (h 58 1 = 0) = bI ((V.2.2.2.1 2).1 = 0) := bI_iff (by rw [show h 58 1 = nI (V.2.2.2.1 2).1 from ws.1]; exact nI_eq (b := 0) (by omega) (by decide))
  have et : bI (h 54 1 = 0) = bI ((V.2.2.2.1 0).1 = 0) := bI_iff (by rw [show h 54 1 = nI (V.2.2.2.1 0).1 from wt.1]; exact nI_eq (b := 0) (by omega) (by decide))
  have hm1 := tX2_isMissing_58 h g
  rw [es] at hm1
  have hm2 := tX2_isMissing_54 h g
  rw [et] at hm2
  have hp1 := tX2_hasSpan_58 h g f n
  rw [show h 58 2 = nI (V.2.2.2.1 2).2.1 from ws.2.1] at hp1
  have hp2 := tX2_hasSpan_54 h g d n
  rw [show h 54 2 = nI (V.2.2.2.1 0).2.1 from wt.2.1] at hp2
  refine SegP.run [] 400 ?_
  refine And.intro inS ?_
  rw [cS]
  refine SegP.tr (Seg.cV hm1 mlX5_275 iyX2_isMissing seX2_isMissing oyX2_isMissing rfl (by decide) rfl (by decide) (by decide) rfl rfl rfl rfl (Nat.le_of_ble_eq_true rfl) (Nat.le_of_ble_eq_true rfl)) ?_
  refine SegP.run [] 400 ?_
  refine And.intro (fun zm => ?_) (fun zm => ?_)
  · skip
    refine SegP.tr (Seg.cV (tX5_refuse h g 5 (by decide) (-1000006) (by decide)) mlX5_64 iyX5_refuse seX5_refuse oyX5_refuse rfl (by decide) rfl (by decide) (by decide) rfl rfl rfl rfl (Nat.le_of_ble_eq_true rfl) (Nat.le_of_ble_eq_true rfl)) ?_
    refine SegP.run [] 400 ?_
    exact cfn hv (k := 5) (by decide) (by rw [sp_copy, if_pos qq, cl_nI (n := 2) (by decide), cl_nI (n := 0) (by decide), if_pos (Or.inl (bn1 zm))])
  refine And.intro inU ?_
  rw [cU]
  refine SegP.tr (Seg.cV hm2 mlX5_275 iyX2_isMissing seX2_isMissing oyX2_isMissing rfl (by decide) rfl (by decide) (by decide) rfl rfl rfl rfl (Nat.le_of_ble_eq_true rfl) (Nat.le_of_ble_eq_true rfl)) ?_
  refine SegP.run [] 400 ?_
  refine And.intro (fun zt => ?_) (fun zt => ?_)
  case refine_2 =>
    have zt : cmpP .ne (bI ((V.2.2.2.1 0).1 = 0)) 0 := zt
    refine SegP.tr (Seg.cV (tX5_refuse h g 5 (by decide) (-1000006) (by decide)) mlX5_64 iyX5_refuse seX5_refuse oyX5_refuse rfl (by decide) rfl (by decide) (by decide) rfl rfl rfl rfl (Nat.le_of_ble_eq_true rfl) (Nat.le_of_ble_eq_true rfl)) ?_
    refine SegP.run [] 400 ?_
    exact cfn hv (k := 5) (by decide) (by rw [sp_copy, if_pos qq, cl_nI (n := 2) (by decide), cl_nI (n := 0) (by decide), if_pos (Or.inr (bn1 zt))])
  have nm : ¬ ((V.2.2.2.1 2).1 = 0 ∨ (V.2.2.2.1 0).1 = 0) := fun y => y.elim (bn0 zm) (bq0 zt)
  refine And.intro inS ?_
  refine And.intro inU ?_
  rw [cU]
  have eb : (h 58 1 = h 54 1) ↔ (V.2.2.2.1 2).1 = (V.2.2.2.1 0).1 := by
    rw [show h 58 1 = nI (V.2.2.2.1 2).1 from ws.1, show h 54 1 = nI (V.2.2.2.1 0).1 from wt.1]
    exact nI_eq (by omega) (by omega)
  refine And.intro (fun zk => ?_) (fun zk => ?_)
  case refine_2 =>
    have zk : ¬ (V.2.2.2.1 2).1 = (V.2.2.2.1 0).1 := fun y => zk (eb.mpr y)
    refine SegP.tr (Seg.cV (tX5_refuse h g 2 (by decide) (-1000003) (by decide)) mlX5_64 iyX5_refuse seX5_refuse oyX5_refuse rfl (by decide) rfl (by decide) (by decide) rfl rfl rfl rfl (Nat.le_of_ble_eq_true rfl) (Nat.le_of_ble_eq_true rfl)) ?_
    refine SegP.run [] 400 ?_
    exact cfn hv (k := 2) (by decide) (by rw [sp_copy, if_pos qq, cl_nI (n := 2) (by decide), cl_nI (n := 0) (by decide), if_neg nm, if_pos (fun y => zk (by rw [y]))])
  have eqb : (V.2.2.2.1 2).1 = (V.2.2.2.1 0).1 := eb.mp zk
  refine And.intro inS ?_
  rw [cS]
  refine SegP.tr (Seg.cV hp1 mlX5_285 iyX2_hasSpan seX2_hasSpan oyX2_hasSpan rfl (by decide) rfl (by decide) (by decide) rfl rfl rfl rfl (Nat.le_of_ble_eq_true rfl) (Nat.le_of_ble_eq_true rfl)) ?_
  refine SegP.run [] 400 ?_
  refine And.intro (fun zp => ?_) (fun zp => ?_)
  · skip
    refine SegP.tr (Seg.cV (tX5_refuse h g 0 (by decide) (-1000001) (by decide)) mlX5_64 iyX5_refuse seX5_refuse oyX5_refuse rfl (by decide) rfl (by decide) (by decide) rfl rfl rfl rfl (Nat.le_of_ble_eq_true rfl) (Nat.le_of_ble_eq_true rfl)) ?_
    refine SegP.run [] 400 ?_
    exact cfn hv (k := 0) (by decide) (by rw [sp_copy, if_pos qq, cl_nI (n := 2) (by decide), cl_nI (n := 0) (by decide), if_neg nm, if_neg (fun y => y eqb), if_neg (fun y => bq0 zp y.1)])
  refine And.intro inU ?_
  rw [cU]
  refine SegP.tr (Seg.cV hp2 mlX5_285 iyX2_hasSpan seX2_hasSpan oyX2_hasSpan rfl (by decide) rfl (by decide) (by decide) rfl rfl rfl rfl (Nat.le_of_ble_eq_true rfl) (Nat.le_of_ble_eq_true rfl)) ?_
  refine SegP.run [] 400 ?_
  refine And.intro (fun zq => ?_) (fun zq => ?_)
  case refine_2 =>
    have zq : ¬ cmpP .ne (bI (spP (nI (V.2.2.2.1 0).2.1) d n)) 0 := zq
    refine SegP.tr (Seg.cV (tX5_refuse h g 0 (by decide) (-1000001) (by decide)) mlX5_64 iyX5_refuse seX5_refuse oyX5_refuse rfl (by decide) rfl (by decide) (by decide) rfl rfl rfl rfl (Nat.le_of_ble_eq_true rfl) (Nat.le_of_ble_eq_true rfl)) ?_
    refine SegP.run [] 400 ?_
    exact cfn hv (k := 0) (by decide) (by rw [sp_copy, if_pos qq, cl_nI (n := 2) (by decide), cl_nI (n := 0) (by decide), if_neg nm, if_neg (fun y => y eqb), if_neg (fun y => bn0 zq y.2)])
  have p1 := bq1 zp
  have p2 := bn1 zq
  obtain ⟨x, m, rfl, rfl, hx⟩ := sp_N hs.2.1 p1
  obtain ⟨y, m2, rfl, em, hy⟩ := sp_N hu.2.1 p2
  obtain rfl : m = m2 := (nI_eq (by omega) (by omega)).mp em
  have cx := cl10 (p := x) (by omega)
  have cy := cl10 (p := y) (by omega)
  have cm := cl10 (p := m) (by omega)
  have e : sp_copy V (nI 2) (nI x) (nI 0) (nI y) (nI m) = (nI m, shV V 0 ((V.2.2.2.1 0).1, (V.2.2.2.1 0).2.1, cpF (V.2.2.2.1 2).2.2 (V.2.2.2.1 0).2.2 x y m)) := by rw [sp_copy, if_pos qq, cl_nI (n := 2) (by decide), cl_nI (n := 0) (by decide), if_neg nm, if_neg (fun z => z eqb), if_pos ⟨p1, p2⟩, cl_nI (n := x) (by omega), cl_nI (n := y) (by omega), cl_nI (n := m) (by omega)]
  refine And.intro inS ?_
  refine And.intro inU ?_
  rw [cU]
  refine And.intro ⟨nI_pos (by omega), nI_pos (by omega), nI_pos (by omega), by rw [cx, cm]; omega, by rw [cy, cm]; omega⟩ ?_
  rw [cx, cy, cm, e]
  refine SegP.ret ⟨rfl, hv.sh (s := 0) (q := ((V.2.2.2.1 0).1, (V.2.2.2.1 0).2.1, cpF (V.2.2.2.1 2).2.2 (V.2.2.2.1 0).2.2 x y m)) (by decide) ?_ ?_ (fun i hi => ?_) (fun a h1 h2 => ?_), fun a ha => ?_⟩
  · exact wt.1
  · exact wt.2.1
  · show upR h 55 (va_cpy (h 59) (h 55) x y m) 55 i = cpF _ _ x y m i
    have hi : i < (V.2.2.2.1 0).2.1 := hi
    simp only [upR, if_true]
    unfold cpF
    by_cases w : y ≤ i ∧ i < y + m
    · rw [if_pos w, pk_cpy_in w.1 w.2]
      exact ws.2.2 _ (by omega)
    · rw [if_neg w, pk_cpy_out (by omega)]
      exact wt.2.2 i hi
  · show upR h 55 _ a = h a
    simp only [upR, if_neg h2]
  · show upR h 55 _ a = h a
    simp only [upR, if_neg (show a ≠ 55 by omega)]
set_option maxRecDepth 100000 in
set_option maxHeartbeats 400000 in
theorem lX5_copy_2_1 {V : aV} (hV : VOk V) {h : aH} {g : aG} (hv : CV h V) (f d n : Int32) : SegP mX5_copy 11 (21, [some (.ref 0), some (.int (nI 2)), some (.int f), some (.int (nI 1)), some (.int d), some (.int n)], [], nW, h, g, ρ) (enP (enC h (sp_copy V (nI 2) f (nI 1) d n))) := by
  have qq : ((0 : Int32) ≤ nI 2 ∧ nI 2 ≤ 3) ∧ ((0 : Int32) ≤ nI 1 ∧ nI 1 ≤ 3) := by decide
  have ws := hv.2.2.2.2.1 2 (by decide)
  have wt := hv.2.2.2.2.1 1 (by decide)
  have hs := hV.2.2.2 2 (by decide)
  have hu := hV.2.2.2 1 (by decide)
  have inS := in10 (p := 2) (n := 4) (by decide) (by decide)
  have inU := in10 (p := 1) (n := 4) (by decide) (by decide)
  have cS := cl10 (p := 2) (by decide)
  have cU := cl10 (p := 1) (by decide)
  have es : bI (h 58 1 = 0) = bI ((V.2.2.2.1 2).1 = 0) := bI_iff (by rw [show h 58 1 = nI (V.2.2.2.1 2).1 from ws.1]; exact nI_eq (b := 0) (by omega) (by decide))
  have et : bI (h 56 1 = 0) = bI ((V.2.2.2.1 1).1 = 0) := bI_iff (by rw [show h 56 1 = nI (V.2.2.2.1 1).1 from wt.1]; exact nI_eq (b := 0) (by omega) (by decide))
  have hm1 := tX2_isMissing_58 h g
  rw [es] at hm1
  have hm2 := tX2_isMissing_56 h g
  rw [et] at hm2
  have hp1 := tX2_hasSpan_58 h g f n
  rw [show h 58 2 = nI (V.2.2.2.1 2).2.1 from ws.2.1] at hp1
  have hp2 := tX2_hasSpan_56 h g d n
  rw [show h 56 2 = nI (V.2.2.2.1 1).2.1 from wt.2.1] at hp2
  refine SegP.run [] 400 ?_
  refine And.intro inS ?_
  rw [cS]
  refine SegP.tr (Seg.cV hm1 mlX5_275 iyX2_isMissing seX2_isMissing oyX2_isMissing rfl (by decide) rfl (by decide) (by decide) rfl rfl rfl rfl (Nat.le_of_ble_eq_true rfl) (Nat.le_of_ble_eq_true rfl)) ?_
  refine SegP.run [] 400 ?_
  refine And.intro (fun zm => ?_) (fun zm => ?_)
  · skip
    refine SegP.tr (Seg.cV (tX5_refuse h g 5 (by decide) (-1000006) (by decide)) mlX5_64 iyX5_refuse seX5_refuse oyX5_refuse rfl (by decide) rfl (by decide) (by decide) rfl rfl rfl rfl (Nat.le_of_ble_eq_true rfl) (Nat.le_of_ble_eq_true rfl)) ?_
    refine SegP.run [] 400 ?_
    exact cfn hv (k := 5) (by decide) (by rw [sp_copy, if_pos qq, cl_nI (n := 2) (by decide), cl_nI (n := 1) (by decide), if_pos (Or.inl (bn1 zm))])
  refine And.intro inU ?_
  rw [cU]
  refine SegP.tr (Seg.cV hm2 mlX5_275 iyX2_isMissing seX2_isMissing oyX2_isMissing rfl (by decide) rfl (by decide) (by decide) rfl rfl rfl rfl (Nat.le_of_ble_eq_true rfl) (Nat.le_of_ble_eq_true rfl)) ?_
  refine SegP.run [] 400 ?_
  refine And.intro (fun zt => ?_) (fun zt => ?_)
  case refine_2 =>
    have zt : cmpP .ne (bI ((V.2.2.2.1 1).1 = 0)) 0 := zt
    refine SegP.tr (Seg.cV (tX5_refuse h g 5 (by decide) (-1000006) (by decide)) mlX5_64 iyX5_refuse seX5_refuse oyX5_refuse rfl (by decide) rfl (by decide) (by decide) rfl rfl rfl rfl (Nat.le_of_ble_eq_true rfl) (Nat.le_of_ble_eq_true rfl)) ?_
    refine SegP.run [] 400 ?_
    exact cfn hv (k := 5) (by decide) (by rw [sp_copy, if_pos qq, cl_nI (n := 2) (by decide), cl_nI (n := 1) (by decide), if_pos (Or.inr (bn1 zt))])
  have nm : ¬ ((V.2.2.2.1 2).1 = 0 ∨ (V.2.2.2.1 1).1 = 0) := fun y => y.elim (bn0 zm) (bq0 zt)
  refine And.intro inS ?_
  refine And.intro inU ?_
  rw [cU]
  have eb : (h 58 1 = h 56 1) ↔ (V.2.2.2.1 2).1 = (V.2.2.2.1 1).1 := by
    rw [show h 58 1 = nI (V.2.2.2.1 2).1 from ws.1, show h 56 1 = nI (V.2.2.2.1 1).1 from wt.1]
    exact nI_eq (by omega) (by omega)
  refine And.intro (fun zk => ?_) (fun zk => ?_)
  case refine_2 =>
    have zk : ¬ (V.2.2.2.1 2).1 = (V.2.2.2.1 1).1 := fun y => zk (eb.mpr y)
    refine SegP.tr (Seg.cV (tX5_refuse h g 2 (by decide) (-1000003) (by decide)) mlX5_64 iyX5_refuse seX5_refuse oyX5_refuse rfl (by decide) rfl (by decide) (by decide) rfl rfl rfl rfl (Nat.le_of_ble_eq_true rfl) (Nat.le_of_ble_eq_true rfl)) ?_
    refine SegP.run [] 400 ?_
    exact cfn hv (k := 2) (by decide) (by rw [sp_copy, if_pos qq, cl_nI (n := 2) (by decide), cl_nI (n := 1) (by decide), if_neg nm, if_pos (fun y => zk (by rw [y]))])
  have eqb : (V.2.2.2.1 2).1 = (V.2.2.2.1 1).1 := eb.mp zk
  refine And.intro inS ?_
  rw [cS]
  refine SegP.tr (Seg.cV hp1 mlX5_285 iyX2_hasSpan seX2_hasSpan oyX2_hasSpan rfl (by decide) rfl (by decide) (by decide) rfl rfl rfl rfl (Nat.le_of_ble_eq_true rfl) (Nat.le_of_ble_eq_true rfl)) ?_
  refine SegP.run [] 400 ?_
  refine And.intro (fun zp => ?_) (fun zp => ?_)
  · skip
    refine SegP.tr (Seg.cV (tX5_refuse h g 0 (by decide) (-1000001) (by decide)) mlX5_64 iyX5_refuse seX5_refuse oyX5_refuse rfl (by decide) rfl (by decide) (by decide) rfl rfl rfl rfl (Nat.le_of_ble_eq_true rfl) (Nat.le_of_ble_eq_true rfl)) ?_
    refine SegP.run [] 400 ?_
    exact cfn hv (k := 0) (by decide) (by rw [sp_copy, if_pos qq, cl_nI (n := 2) (by decide), cl_nI (n := 1) (by decide), if_neg nm, if_neg (fun y => y eqb), if_neg (fun y => bq0 zp y.1)])
  refine And.intro inU ?_
  rw [cU]
  refine SegP.tr (Seg.cV hp2 mlX5_285 iyX2_hasSpan seX2_hasSpan oyX2_hasSpan rfl (by decide) rfl (by decide) (by decide) rfl rfl rfl rfl (Nat.le_of_ble_eq_true rfl) (Nat.le_of_ble_eq_true rfl)) ?_
  refine SegP.run [] 400 ?_
  refine And.intro (fun zq => ?_) (fun zq => ?_)
  case refine_2 =>
    have zq : ¬ cmpP .ne (bI (spP (nI (V.2.2.2.1 1).2.1) d n)) 0 := zq
    refine SegP.tr (Seg.cV (tX5_refuse h g 0 (by decide) (-1000001) (by decide)) mlX5_64 iyX5_refuse seX5_refuse oyX5_refuse rfl (by decide) rfl (by decide) (by decide) rfl rfl rfl rfl (Nat.le_of_ble_eq_true rfl) (Nat.le_of_ble_eq_true rfl)) ?_
    refine SegP.run [] 400 ?_
    exact cfn hv (k := 0) (by decide) (by rw [sp_copy, if_pos qq, cl_nI (n := 2) (by decide), cl_nI (n := 1) (by decide), if_neg nm, if_neg (fun y => y eqb), if_neg (fun y => bn0 zq y.2)])
  have p1 := bq1 zp
  have p2 := bn1 zq
  obtain ⟨x, m, rfl, rfl, hx⟩ := sp_N hs.2.1 p1
  obtain ⟨y, m2, rfl, em, hy⟩ := sp_N hu.2.1 p2
  obtain rfl : m = m2 := (nI_eq (by omega) (by omega)).mp em
  have cx := cl10 (p := x) (by omega)
  have cy := cl10 (p := y) (by omega)
  have cm := cl10 (p := m) (by omega)
  have e : sp_copy V (nI 2) (nI x) (nI 1) (nI y) (nI m) = (nI m, shV V 1 ((V.2.2.2.1 1).1, (V.2.2.2.1 1).2.1, cpF (V.2.2.2.1 2).2.2 (V.2.2.2.1 1).2.2 x y m)) := by rw [sp_copy, if_pos qq, cl_nI (n := 2) (by decide), cl_nI (n := 1) (by decide), if_neg nm, if_neg (fun z => z eqb), if_pos ⟨p1, p2⟩, cl_nI (n := x) (by omega), cl_nI (n := y) (by omega), cl_nI (n := m) (by omega)]
  refine And.intro inS ?_
  refine And.intro inU ?_
  rw [cU]
  refine And.intro ⟨nI_pos (by omega), nI_pos (by omega), nI_pos (by omega), by rw [cx, cm]; omega, by rw [cy, cm]; omega⟩ ?_
  rw [cx, cy, cm, e]
  refine SegP.ret ⟨rfl, hv.sh (s := 1) (q := ((V.2.2.2.1 1).1, (V.2.2.2.1 1).2.1, cpF (V.2.2.2.1 2).2.2 (V.2.2.2.1 1).2.2 x y m)) (by decide) ?_ ?_ (fun i hi => ?_) (fun a h1 h2 => ?_), fun a ha => ?_⟩
  · exact wt.1
  · exact wt.2.1
  · show upR h 57 (va_cpy (h 59) (h 57) x y m) 57 i = cpF _ _ x y m i
    have hi : i < (V.2.2.2.1 1).2.1 := hi
    simp only [upR, if_true]
    unfold cpF
    by_cases w : y ≤ i ∧ i < y + m
    · rw [if_pos w, pk_cpy_in w.1 w.2]
      exact ws.2.2 _ (by omega)
    · rw [if_neg w, pk_cpy_out (by omega)]
      exact wt.2.2 i hi
  · show upR h 57 _ a = h a
    simp only [upR, if_neg h2]
  · show upR h 57 _ a = h a
    simp only [upR, if_neg (show a ≠ 57 by omega)]
set_option maxRecDepth 100000 in
set_option maxHeartbeats 400000 in
theorem lX5_copy_2_2 {V : aV} (hV : VOk V) {h : aH} {g : aG} (hv : CV h V) (f d n : Int32) : SegP mX5_copy 11 (21, [some (.ref 0), some (.int (nI 2)), some (.int f), some (.int (nI 2)), some (.int d), some (.int n)], [], nW, h, g, ρ) (enP (enC h (sp_copy V (nI 2) f (nI 2) d n))) := by
  have qq : ((0 : Int32) ≤ nI 2 ∧ nI 2 ≤ 3) ∧ ((0 : Int32) ≤ nI 2 ∧ nI 2 ≤ 3) := by decide
  have ws := hv.2.2.2.2.1 2 (by decide)
  have wt := hv.2.2.2.2.1 2 (by decide)
  have hs := hV.2.2.2 2 (by decide)
  have hu := hV.2.2.2 2 (by decide)
  have inS := in10 (p := 2) (n := 4) (by decide) (by decide)
  have inU := in10 (p := 2) (n := 4) (by decide) (by decide)
  have cS := cl10 (p := 2) (by decide)
  have cU := cl10 (p := 2) (by decide)
  have es : bI (h 58 1 = 0) = bI ((V.2.2.2.1 2).1 = 0) := bI_iff (by rw [show h 58 1 = nI (V.2.2.2.1 2).1 from ws.1]; exact nI_eq (b := 0) (by omega) (by decide))
  have et : bI (h 58 1 = 0) = bI ((V.2.2.2.1 2).1 = 0) := bI_iff (by rw [show h 58 1 = nI (V.2.2.2.1 2).1 from wt.1]; exact nI_eq (b := 0) (by omega) (by decide))
  have hm1 := tX2_isMissing_58 h g
  rw [es] at hm1
  have hm2 := tX2_isMissing_58 h g
  rw [et] at hm2
  have hp1 := tX2_hasSpan_58 h g f n
  rw [show h 58 2 = nI (V.2.2.2.1 2).2.1 from ws.2.1] at hp1
  have hp2 := tX2_hasSpan_58 h g d n
  rw [show h 58 2 = nI (V.2.2.2.1 2).2.1 from wt.2.1] at hp2
  refine SegP.run [] 400 ?_
  refine And.intro inS ?_
  rw [cS]
  refine SegP.tr (Seg.cV hm1 mlX5_275 iyX2_isMissing seX2_isMissing oyX2_isMissing rfl (by decide) rfl (by decide) (by decide) rfl rfl rfl rfl (Nat.le_of_ble_eq_true rfl) (Nat.le_of_ble_eq_true rfl)) ?_
  refine SegP.run [] 400 ?_
  refine And.intro (fun zm => ?_) (fun zm => ?_)
  · skip
    refine SegP.tr (Seg.cV (tX5_refuse h g 5 (by decide) (-1000006) (by decide)) mlX5_64 iyX5_refuse seX5_refuse oyX5_refuse rfl (by decide) rfl (by decide) (by decide) rfl rfl rfl rfl (Nat.le_of_ble_eq_true rfl) (Nat.le_of_ble_eq_true rfl)) ?_
    refine SegP.run [] 400 ?_
    exact cfn hv (k := 5) (by decide) (by rw [sp_copy, if_pos qq, cl_nI (n := 2) (by decide), if_pos (Or.inl (bn1 zm))])
  refine And.intro inU ?_
  rw [cU]
  refine SegP.tr (Seg.cV hm2 mlX5_275 iyX2_isMissing seX2_isMissing oyX2_isMissing rfl (by decide) rfl (by decide) (by decide) rfl rfl rfl rfl (Nat.le_of_ble_eq_true rfl) (Nat.le_of_ble_eq_true rfl)) ?_
  refine SegP.run [] 400 ?_
  refine And.intro (fun zt => ?_) (fun zt => ?_)
  case refine_2 =>
    have zt : cmpP .ne (bI ((V.2.2.2.1 2).1 = 0)) 0 := zt
    refine SegP.tr (Seg.cV (tX5_refuse h g 5 (by decide) (-1000006) (by decide)) mlX5_64 iyX5_refuse seX5_refuse oyX5_refuse rfl (by decide) rfl (by decide) (by decide) rfl rfl rfl rfl (Nat.le_of_ble_eq_true rfl) (Nat.le_of_ble_eq_true rfl)) ?_
    refine SegP.run [] 400 ?_
    exact cfn hv (k := 5) (by decide) (by rw [sp_copy, if_pos qq, cl_nI (n := 2) (by decide), if_pos (Or.inr (bn1 zt))])
  have nm : ¬ ((V.2.2.2.1 2).1 = 0 ∨ (V.2.2.2.1 2).1 = 0) := fun y => y.elim (bn0 zm) (bq0 zt)
  refine And.intro inS ?_
  refine And.intro inU ?_
  rw [cU]
  have eb : (h 58 1 = h 58 1) ↔ (V.2.2.2.1 2).1 = (V.2.2.2.1 2).1 := by
    exact ⟨fun _ => rfl, fun _ => rfl⟩
  refine And.intro (fun zk => ?_) (fun zk => ?_)
  case refine_2 =>
    have zk : ¬ (V.2.2.2.1 2).1 = (V.2.2.2.1 2).1 := fun y => zk (eb.mpr y)
    refine SegP.tr (Seg.cV (tX5_refuse h g 2 (by decide) (-1000003) (by decide)) mlX5_64 iyX5_refuse seX5_refuse oyX5_refuse rfl (by decide) rfl (by decide) (by decide) rfl rfl rfl rfl (Nat.le_of_ble_eq_true rfl) (Nat.le_of_ble_eq_true rfl)) ?_
    refine SegP.run [] 400 ?_
    exact cfn hv (k := 2) (by decide) (by rw [sp_copy, if_pos qq, cl_nI (n := 2) (by decide), if_neg nm, if_pos (fun y => zk (by rw [y]))])
  have eqb : (V.2.2.2.1 2).1 = (V.2.2.2.1 2).1 := eb.mp zk
  refine And.intro inS ?_
  rw [cS]
  refine SegP.tr (Seg.cV hp1 mlX5_285 iyX2_hasSpan seX2_hasSpan oyX2_hasSpan rfl (by decide) rfl (by decide) (by decide) rfl rfl rfl rfl (Nat.le_of_ble_eq_true rfl) (Nat.le_of_ble_eq_true rfl)) ?_
  refine SegP.run [] 400 ?_
  refine And.intro (fun zp => ?_) (fun zp => ?_)
  · skip
    refine SegP.tr (Seg.cV (tX5_refuse h g 0 (by decide) (-1000001) (by decide)) mlX5_64 iyX5_refuse seX5_refuse oyX5_refuse rfl (by decide) rfl (by decide) (by decide) rfl rfl rfl rfl (Nat.le_of_ble_eq_true rfl) (Nat.le_of_ble_eq_true rfl)) ?_
    refine SegP.run [] 400 ?_
    exact cfn hv (k := 0) (by decide) (by rw [sp_copy, if_pos qq, cl_nI (n := 2) (by decide), if_neg nm, if_neg (fun y => y eqb), if_neg (fun y => bq0 zp y.1)])
  refine And.intro inU ?_
  rw [cU]
  refine SegP.tr (Seg.cV hp2 mlX5_285 iyX2_hasSpan seX2_hasSpan oyX2_hasSpan rfl (by decide) rfl (by decide) (by decide) rfl rfl rfl rfl (Nat.le_of_ble_eq_true rfl) (Nat.le_of_ble_eq_true rfl)) ?_
  refine SegP.run [] 400 ?_
  refine And.intro (fun zq => ?_) (fun zq => ?_)
  case refine_2 =>
    have zq : ¬ cmpP .ne (bI (spP (nI (V.2.2.2.1 2).2.1) d n)) 0 := zq
    refine SegP.tr (Seg.cV (tX5_refuse h g 0 (by decide) (-1000001) (by decide)) mlX5_64 iyX5_refuse seX5_refuse oyX5_refuse rfl (by decide) rfl (by decide) (by decide) rfl rfl rfl rfl (Nat.le_of_ble_eq_true rfl) (Nat.le_of_ble_eq_true rfl)) ?_
    refine SegP.run [] 400 ?_
    exact cfn hv (k := 0) (by decide) (by rw [sp_copy, if_pos qq, cl_nI (n := 2) (by decide), if_neg nm, if_neg (fun y => y eqb), if_neg (fun y => bn0 zq y.2)])
  have p1 := bq1 zp
  have p2 := bn1 zq
  obtain ⟨x, m, rfl, rfl, hx⟩ := sp_N hs.2.1 p1
  obtain ⟨y, m2, rfl, em, hy⟩ := sp_N hu.2.1 p2
  obtain rfl : m = m2 := (nI_eq (by omega) (by omega)).mp em
  have cx := cl10 (p := x) (by omega)
  have cy := cl10 (p := y) (by omega)
  have cm := cl10 (p := m) (by omega)
  have e : sp_copy V (nI 2) (nI x) (nI 2) (nI y) (nI m) = (nI m, shV V 2 ((V.2.2.2.1 2).1, (V.2.2.2.1 2).2.1, cpF (V.2.2.2.1 2).2.2 (V.2.2.2.1 2).2.2 x y m)) := by rw [sp_copy, if_pos qq, cl_nI (n := 2) (by decide), if_neg nm, if_neg (fun z => z eqb), if_pos ⟨p1, p2⟩, cl_nI (n := x) (by omega), cl_nI (n := y) (by omega), cl_nI (n := m) (by omega)]
  refine And.intro inS ?_
  refine And.intro inU ?_
  rw [cU]
  refine And.intro ⟨nI_pos (by omega), nI_pos (by omega), nI_pos (by omega), by rw [cx, cm]; omega, by rw [cy, cm]; omega⟩ ?_
  rw [cx, cy, cm, e]
  refine SegP.ret ⟨rfl, hv.sh (s := 2) (q := ((V.2.2.2.1 2).1, (V.2.2.2.1 2).2.1, cpF (V.2.2.2.1 2).2.2 (V.2.2.2.1 2).2.2 x y m)) (by decide) ?_ ?_ (fun i hi => ?_) (fun a h1 h2 => ?_), fun a ha => ?_⟩
  · exact wt.1
  · exact wt.2.1
  · show upR h 59 (va_cpy (h 59) (h 59) x y m) 59 i = cpF _ _ x y m i
    have hi : i < (V.2.2.2.1 2).2.1 := hi
    simp only [upR, if_true]
    unfold cpF
    by_cases w : y ≤ i ∧ i < y + m
    · rw [if_pos w, pk_cpy_in w.1 w.2]
      exact ws.2.2 _ (by omega)
    · rw [if_neg w, pk_cpy_out (by omega)]
      exact wt.2.2 i hi
  · show upR h 59 _ a = h a
    simp only [upR, if_neg h2]
  · show upR h 59 _ a = h a
    simp only [upR, if_neg (show a ≠ 59 by omega)]
set_option maxRecDepth 100000 in
set_option maxHeartbeats 400000 in
theorem lX5_copy_2_3 {V : aV} (hV : VOk V) {h : aH} {g : aG} (hv : CV h V) (f d n : Int32) : SegP mX5_copy 11 (21, [some (.ref 0), some (.int (nI 2)), some (.int f), some (.int (nI 3)), some (.int d), some (.int n)], [], nW, h, g, ρ) (enP (enC h (sp_copy V (nI 2) f (nI 3) d n))) := by
  have qq : ((0 : Int32) ≤ nI 2 ∧ nI 2 ≤ 3) ∧ ((0 : Int32) ≤ nI 3 ∧ nI 3 ≤ 3) := by decide
  have ws := hv.2.2.2.2.1 2 (by decide)
  have wt := hv.2.2.2.2.1 3 (by decide)
  have hs := hV.2.2.2 2 (by decide)
  have hu := hV.2.2.2 3 (by decide)
  have inS := in10 (p := 2) (n := 4) (by decide) (by decide)
  have inU := in10 (p := 3) (n := 4) (by decide) (by decide)
  have cS := cl10 (p := 2) (by decide)
  have cU := cl10 (p := 3) (by decide)
  have es : bI (h 58 1 = 0) = bI ((V.2.2.2.1 2).1 = 0) := bI_iff (by rw [show h 58 1 = nI (V.2.2.2.1 2).1 from ws.1]; exact nI_eq (b := 0) (by omega) (by decide))
  have et : bI (h 60 1 = 0) = bI ((V.2.2.2.1 3).1 = 0) := bI_iff (by rw [show h 60 1 = nI (V.2.2.2.1 3).1 from wt.1]; exact nI_eq (b := 0) (by omega) (by decide))
  have hm1 := tX2_isMissing_58 h g
  rw [es] at hm1
  have hm2 := tX2_isMissing_60 h g
  rw [et] at hm2
  have hp1 := tX2_hasSpan_58 h g f n
  rw [show h 58 2 = nI (V.2.2.2.1 2).2.1 from ws.2.1] at hp1
  have hp2 := tX2_hasSpan_60 h g d n
  rw [show h 60 2 = nI (V.2.2.2.1 3).2.1 from wt.2.1] at hp2
  refine SegP.run [] 400 ?_
  refine And.intro inS ?_
  rw [cS]
  refine SegP.tr (Seg.cV hm1 mlX5_275 iyX2_isMissing seX2_isMissing oyX2_isMissing rfl (by decide) rfl (by decide) (by decide) rfl rfl rfl rfl (Nat.le_of_ble_eq_true rfl) (Nat.le_of_ble_eq_true rfl)) ?_
  refine SegP.run [] 400 ?_
  refine And.intro (fun zm => ?_) (fun zm => ?_)
  · skip
    refine SegP.tr (Seg.cV (tX5_refuse h g 5 (by decide) (-1000006) (by decide)) mlX5_64 iyX5_refuse seX5_refuse oyX5_refuse rfl (by decide) rfl (by decide) (by decide) rfl rfl rfl rfl (Nat.le_of_ble_eq_true rfl) (Nat.le_of_ble_eq_true rfl)) ?_
    refine SegP.run [] 400 ?_
    exact cfn hv (k := 5) (by decide) (by rw [sp_copy, if_pos qq, cl_nI (n := 2) (by decide), cl_nI (n := 3) (by decide), if_pos (Or.inl (bn1 zm))])
  refine And.intro inU ?_
  rw [cU]
  refine SegP.tr (Seg.cV hm2 mlX5_275 iyX2_isMissing seX2_isMissing oyX2_isMissing rfl (by decide) rfl (by decide) (by decide) rfl rfl rfl rfl (Nat.le_of_ble_eq_true rfl) (Nat.le_of_ble_eq_true rfl)) ?_
  refine SegP.run [] 400 ?_
  refine And.intro (fun zt => ?_) (fun zt => ?_)
  case refine_2 =>
    have zt : cmpP .ne (bI ((V.2.2.2.1 3).1 = 0)) 0 := zt
    refine SegP.tr (Seg.cV (tX5_refuse h g 5 (by decide) (-1000006) (by decide)) mlX5_64 iyX5_refuse seX5_refuse oyX5_refuse rfl (by decide) rfl (by decide) (by decide) rfl rfl rfl rfl (Nat.le_of_ble_eq_true rfl) (Nat.le_of_ble_eq_true rfl)) ?_
    refine SegP.run [] 400 ?_
    exact cfn hv (k := 5) (by decide) (by rw [sp_copy, if_pos qq, cl_nI (n := 2) (by decide), cl_nI (n := 3) (by decide), if_pos (Or.inr (bn1 zt))])
  have nm : ¬ ((V.2.2.2.1 2).1 = 0 ∨ (V.2.2.2.1 3).1 = 0) := fun y => y.elim (bn0 zm) (bq0 zt)
  refine And.intro inS ?_
  refine And.intro inU ?_
  rw [cU]
  have eb : (h 58 1 = h 60 1) ↔ (V.2.2.2.1 2).1 = (V.2.2.2.1 3).1 := by
    rw [show h 58 1 = nI (V.2.2.2.1 2).1 from ws.1, show h 60 1 = nI (V.2.2.2.1 3).1 from wt.1]
    exact nI_eq (by omega) (by omega)
  refine And.intro (fun zk => ?_) (fun zk => ?_)
  case refine_2 =>
    have zk : ¬ (V.2.2.2.1 2).1 = (V.2.2.2.1 3).1 := fun y => zk (eb.mpr y)
    refine SegP.tr (Seg.cV (tX5_refuse h g 2 (by decide) (-1000003) (by decide)) mlX5_64 iyX5_refuse seX5_refuse oyX5_refuse rfl (by decide) rfl (by decide) (by decide) rfl rfl rfl rfl (Nat.le_of_ble_eq_true rfl) (Nat.le_of_ble_eq_true rfl)) ?_
    refine SegP.run [] 400 ?_
    exact cfn hv (k := 2) (by decide) (by rw [sp_copy, if_pos qq, cl_nI (n := 2) (by decide), cl_nI (n := 3) (by decide), if_neg nm, if_pos (fun y => zk (by rw [y]))])
  have eqb : (V.2.2.2.1 2).1 = (V.2.2.2.1 3).1 := eb.mp zk
  refine And.intro inS ?_
  rw [cS]
  refine SegP.tr (Seg.cV hp1 mlX5_285 iyX2_hasSpan seX2_hasSpan oyX2_hasSpan rfl (by decide) rfl (by decide) (by decide) rfl rfl rfl rfl (Nat.le_of_ble_eq_true rfl) (Nat.le_of_ble_eq_true rfl)) ?_
  refine SegP.run [] 400 ?_
  refine And.intro (fun zp => ?_) (fun zp => ?_)
  · skip
    refine SegP.tr (Seg.cV (tX5_refuse h g 0 (by decide) (-1000001) (by decide)) mlX5_64 iyX5_refuse seX5_refuse oyX5_refuse rfl (by decide) rfl (by decide) (by decide) rfl rfl rfl rfl (Nat.le_of_ble_eq_true rfl) (Nat.le_of_ble_eq_true rfl)) ?_
    refine SegP.run [] 400 ?_
    exact cfn hv (k := 0) (by decide) (by rw [sp_copy, if_pos qq, cl_nI (n := 2) (by decide), cl_nI (n := 3) (by decide), if_neg nm, if_neg (fun y => y eqb), if_neg (fun y => bq0 zp y.1)])
  refine And.intro inU ?_
  rw [cU]
  refine SegP.tr (Seg.cV hp2 mlX5_285 iyX2_hasSpan seX2_hasSpan oyX2_hasSpan rfl (by decide) rfl (by decide) (by decide) rfl rfl rfl rfl (Nat.le_of_ble_eq_true rfl) (Nat.le_of_ble_eq_true rfl)) ?_
  refine SegP.run [] 400 ?_
  refine And.intro (fun zq => ?_) (fun zq => ?_)
  case refine_2 =>
    have zq : ¬ cmpP .ne (bI (spP (nI (V.2.2.2.1 3).2.1) d n)) 0 := zq
    refine SegP.tr (Seg.cV (tX5_refuse h g 0 (by decide) (-1000001) (by decide)) mlX5_64 iyX5_refuse seX5_refuse oyX5_refuse rfl (by decide) rfl (by decide) (by decide) rfl rfl rfl rfl (Nat.le_of_ble_eq_true rfl) (Nat.le_of_ble_eq_true rfl)) ?_
    refine SegP.run [] 400 ?_
    exact cfn hv (k := 0) (by decide) (by rw [sp_copy, if_pos qq, cl_nI (n := 2) (by decide), cl_nI (n := 3) (by decide), if_neg nm, if_neg (fun y => y eqb), if_neg (fun y => bn0 zq y.2)])
  have p1 := bq1 zp
  have p2 := bn1 zq
  obtain ⟨x, m, rfl, rfl, hx⟩ := sp_N hs.2.1 p1
  obtain ⟨y, m2, rfl, em, hy⟩ := sp_N hu.2.1 p2
  obtain rfl : m = m2 := (nI_eq (by omega) (by omega)).mp em
  have cx := cl10 (p := x) (by omega)
  have cy := cl10 (p := y) (by omega)
  have cm := cl10 (p := m) (by omega)
  have e : sp_copy V (nI 2) (nI x) (nI 3) (nI y) (nI m) = (nI m, shV V 3 ((V.2.2.2.1 3).1, (V.2.2.2.1 3).2.1, cpF (V.2.2.2.1 2).2.2 (V.2.2.2.1 3).2.2 x y m)) := by rw [sp_copy, if_pos qq, cl_nI (n := 2) (by decide), cl_nI (n := 3) (by decide), if_neg nm, if_neg (fun z => z eqb), if_pos ⟨p1, p2⟩, cl_nI (n := x) (by omega), cl_nI (n := y) (by omega), cl_nI (n := m) (by omega)]
  refine And.intro inS ?_
  refine And.intro inU ?_
  rw [cU]
  refine And.intro ⟨nI_pos (by omega), nI_pos (by omega), nI_pos (by omega), by rw [cx, cm]; omega, by rw [cy, cm]; omega⟩ ?_
  rw [cx, cy, cm, e]
  refine SegP.ret ⟨rfl, hv.sh (s := 3) (q := ((V.2.2.2.1 3).1, (V.2.2.2.1 3).2.1, cpF (V.2.2.2.1 2).2.2 (V.2.2.2.1 3).2.2 x y m)) (by decide) ?_ ?_ (fun i hi => ?_) (fun a h1 h2 => ?_), fun a ha => ?_⟩
  · exact wt.1
  · exact wt.2.1
  · show upR h 61 (va_cpy (h 59) (h 61) x y m) 61 i = cpF _ _ x y m i
    have hi : i < (V.2.2.2.1 3).2.1 := hi
    simp only [upR, if_true]
    unfold cpF
    by_cases w : y ≤ i ∧ i < y + m
    · rw [if_pos w, pk_cpy_in w.1 w.2]
      exact ws.2.2 _ (by omega)
    · rw [if_neg w, pk_cpy_out (by omega)]
      exact wt.2.2 i hi
  · show upR h 61 _ a = h a
    simp only [upR, if_neg h2]
  · show upR h 61 _ a = h a
    simp only [upR, if_neg (show a ≠ 61 by omega)]
set_option maxRecDepth 100000 in
set_option maxHeartbeats 400000 in
theorem lX5_copy_3_0 {V : aV} (hV : VOk V) {h : aH} {g : aG} (hv : CV h V) (f d n : Int32) : SegP mX5_copy 11 (21, [some (.ref 0), some (.int (nI 3)), some (.int f), some (.int (nI 0)), some (.int d), some (.int n)], [], nW, h, g, ρ) (enP (enC h (sp_copy V (nI 3) f (nI 0) d n))) := by
  have qq : ((0 : Int32) ≤ nI 3 ∧ nI 3 ≤ 3) ∧ ((0 : Int32) ≤ nI 0 ∧ nI 0 ≤ 3) := by decide
  have ws := hv.2.2.2.2.1 3 (by decide)
  have wt := hv.2.2.2.2.1 0 (by decide)
  have hs := hV.2.2.2 3 (by decide)
  have hu := hV.2.2.2 0 (by decide)
  have inS := in10 (p := 3) (n := 4) (by decide) (by decide)
  have inU := in10 (p := 0) (n := 4) (by decide) (by decide)
  have cS := cl10 (p := 3) (by decide)
  have cU := cl10 (p := 0) (by decide)
  have es : bI (h 60 1 = 0) = bI ((V.2.2.2.1 3).1 = 0) := bI_iff (by rw [show h 60 1 = nI (V.2.2.2.1 3).1 from ws.1]; exact nI_eq (b := 0) (by omega) (by decide))
  have et : bI (h 54 1 = 0) = bI ((V.2.2.2.1 0).1 = 0) := bI_iff (by rw [show h 54 1 = nI (V.2.2.2.1 0).1 from wt.1]; exact nI_eq (b := 0) (by omega) (by decide))
  have hm1 := tX2_isMissing_60 h g
  rw [es] at hm1
  have hm2 := tX2_isMissing_54 h g
  rw [et] at hm2
  have hp1 := tX2_hasSpan_60 h g f n
  rw [show h 60 2 = nI (V.2.2.2.1 3).2.1 from ws.2.1] at hp1
  have hp2 := tX2_hasSpan_54 h g d n
  rw [show h 54 2 = nI (V.2.2.2.1 0).2.1 from wt.2.1] at hp2
  refine SegP.run [] 400 ?_
  refine And.intro inS ?_
  rw [cS]
  refine SegP.tr (Seg.cV hm1 mlX5_275 iyX2_isMissing seX2_isMissing oyX2_isMissing rfl (by decide) rfl (by decide) (by decide) rfl rfl rfl rfl (Nat.le_of_ble_eq_true rfl) (Nat.le_of_ble_eq_true rfl)) ?_
  refine SegP.run [] 400 ?_
  refine And.intro (fun zm => ?_) (fun zm => ?_)
  · skip
    refine SegP.tr (Seg.cV (tX5_refuse h g 5 (by decide) (-1000006) (by decide)) mlX5_64 iyX5_refuse seX5_refuse oyX5_refuse rfl (by decide) rfl (by decide) (by decide) rfl rfl rfl rfl (Nat.le_of_ble_eq_true rfl) (Nat.le_of_ble_eq_true rfl)) ?_
    refine SegP.run [] 400 ?_
    exact cfn hv (k := 5) (by decide) (by rw [sp_copy, if_pos qq, cl_nI (n := 3) (by decide), cl_nI (n := 0) (by decide), if_pos (Or.inl (bn1 zm))])
  refine And.intro inU ?_
  rw [cU]
  refine SegP.tr (Seg.cV hm2 mlX5_275 iyX2_isMissing seX2_isMissing oyX2_isMissing rfl (by decide) rfl (by decide) (by decide) rfl rfl rfl rfl (Nat.le_of_ble_eq_true rfl) (Nat.le_of_ble_eq_true rfl)) ?_
  refine SegP.run [] 400 ?_
  refine And.intro (fun zt => ?_) (fun zt => ?_)
  case refine_2 =>
    have zt : cmpP .ne (bI ((V.2.2.2.1 0).1 = 0)) 0 := zt
    refine SegP.tr (Seg.cV (tX5_refuse h g 5 (by decide) (-1000006) (by decide)) mlX5_64 iyX5_refuse seX5_refuse oyX5_refuse rfl (by decide) rfl (by decide) (by decide) rfl rfl rfl rfl (Nat.le_of_ble_eq_true rfl) (Nat.le_of_ble_eq_true rfl)) ?_
    refine SegP.run [] 400 ?_
    exact cfn hv (k := 5) (by decide) (by rw [sp_copy, if_pos qq, cl_nI (n := 3) (by decide), cl_nI (n := 0) (by decide), if_pos (Or.inr (bn1 zt))])
  have nm : ¬ ((V.2.2.2.1 3).1 = 0 ∨ (V.2.2.2.1 0).1 = 0) := fun y => y.elim (bn0 zm) (bq0 zt)
  refine And.intro inS ?_
  refine And.intro inU ?_
  rw [cU]
  have eb : (h 60 1 = h 54 1) ↔ (V.2.2.2.1 3).1 = (V.2.2.2.1 0).1 := by
    rw [show h 60 1 = nI (V.2.2.2.1 3).1 from ws.1, show h 54 1 = nI (V.2.2.2.1 0).1 from wt.1]
    exact nI_eq (by omega) (by omega)
  refine And.intro (fun zk => ?_) (fun zk => ?_)
  case refine_2 =>
    have zk : ¬ (V.2.2.2.1 3).1 = (V.2.2.2.1 0).1 := fun y => zk (eb.mpr y)
    refine SegP.tr (Seg.cV (tX5_refuse h g 2 (by decide) (-1000003) (by decide)) mlX5_64 iyX5_refuse seX5_refuse oyX5_refuse rfl (by decide) rfl (by decide) (by decide) rfl rfl rfl rfl (Nat.le_of_ble_eq_true rfl) (Nat.le_of_ble_eq_true rfl)) ?_
    refine SegP.run [] 400 ?_
    exact cfn hv (k := 2) (by decide) (by rw [sp_copy, if_pos qq, cl_nI (n := 3) (by decide), cl_nI (n := 0) (by decide), if_neg nm, if_pos (fun y => zk (by rw [y]))])
  have eqb : (V.2.2.2.1 3).1 = (V.2.2.2.1 0).1 := eb.mp zk
  refine And.intro inS ?_
  rw [cS]
  refine SegP.tr (Seg.cV hp1 mlX5_285 iyX2_hasSpan seX2_hasSpan oyX2_hasSpan rfl (by decide) rfl (by decide) (by decide) rfl rfl rfl rfl (Nat.le_of_ble_eq_true rfl) (Nat.le_of_ble_eq_true rfl)) ?_
  refine SegP.run [] 400 ?_
  refine And.intro (fun zp => ?_) (fun zp => ?_)
  · skip
    refine SegP.tr (Seg.cV (tX5_refuse h g 0 (by decide) (-1000001) (by decide)) mlX5_64 iyX5_refuse seX5_refuse oyX5_refuse rfl (by decide) rfl (by decide) (by decide) rfl rfl rfl rfl (Nat.le_of_ble_eq_true rfl) (Nat.le_of_ble_eq_true rfl)) ?_
    refine SegP.run [] 400 ?_
    exact cfn hv (k := 0) (by decide) (by rw [sp_copy, if_pos qq, cl_nI (n := 3) (by decide), cl_nI (n := 0) (by decide), if_neg nm, if_neg (fun y => y eqb), if_neg (fun y => bq0 zp y.1)])
  refine And.intro inU ?_
  rw [cU]
  refine SegP.tr (Seg.cV hp2 mlX5_285 iyX2_hasSpan seX2_hasSpan oyX2_hasSpan rfl (by decide) rfl (by decide) (by decide) rfl rfl rfl rfl (Nat.le_of_ble_eq_true rfl) (Nat.le_of_ble_eq_true rfl)) ?_
  refine SegP.run [] 400 ?_
  refine And.intro (fun zq => ?_) (fun zq => ?_)
  case refine_2 =>
    have zq : ¬ cmpP .ne (bI (spP (nI (V.2.2.2.1 0).2.1) d n)) 0 := zq
    refine SegP.tr (Seg.cV (tX5_refuse h g 0 (by decide) (-1000001) (by decide)) mlX5_64 iyX5_refuse seX5_refuse oyX5_refuse rfl (by decide) rfl (by decide) (by decide) rfl rfl rfl rfl (Nat.le_of_ble_eq_true rfl) (Nat.le_of_ble_eq_true rfl)) ?_
    refine SegP.run [] 400 ?_
    exact cfn hv (k := 0) (by decide) (by rw [sp_copy, if_pos qq, cl_nI (n := 3) (by decide), cl_nI (n := 0) (by decide), if_neg nm, if_neg (fun y => y eqb), if_neg (fun y => bn0 zq y.2)])
  have p1 := bq1 zp
  have p2 := bn1 zq
  obtain ⟨x, m, rfl, rfl, hx⟩ := sp_N hs.2.1 p1
  obtain ⟨y, m2, rfl, em, hy⟩ := sp_N hu.2.1 p2
  obtain rfl : m = m2 := (nI_eq (by omega) (by omega)).mp em
  have cx := cl10 (p := x) (by omega)
  have cy := cl10 (p := y) (by omega)
  have cm := cl10 (p := m) (by omega)
  have e : sp_copy V (nI 3) (nI x) (nI 0) (nI y) (nI m) = (nI m, shV V 0 ((V.2.2.2.1 0).1, (V.2.2.2.1 0).2.1, cpF (V.2.2.2.1 3).2.2 (V.2.2.2.1 0).2.2 x y m)) := by rw [sp_copy, if_pos qq, cl_nI (n := 3) (by decide), cl_nI (n := 0) (by decide), if_neg nm, if_neg (fun z => z eqb), if_pos ⟨p1, p2⟩, cl_nI (n := x) (by omega), cl_nI (n := y) (by omega), cl_nI (n := m) (by omega)]
  refine And.intro inS ?_
  refine And.intro inU ?_
  rw [cU]
  refine And.intro ⟨nI_pos (by omega), nI_pos (by omega), nI_pos (by omega), by rw [cx, cm]; omega, by rw [cy, cm]; omega⟩ ?_
  rw [cx, cy, cm, e]
  refine SegP.ret ⟨rfl, hv.sh (s := 0) (q := ((V.2.2.2.1 0).1, (V.2.2.2.1 0).2.1, cpF (V.2.2.2.1 3).2.2 (V.2.2.2.1 0).2.2 x y m)) (by decide) ?_ ?_ (fun i hi => ?_) (fun a h1 h2 => ?_), fun a ha => ?_⟩
  · exact wt.1
  · exact wt.2.1
  · show upR h 55 (va_cpy (h 61) (h 55) x y m) 55 i = cpF _ _ x y m i
    have hi : i < (V.2.2.2.1 0).2.1 := hi
    simp only [upR, if_true]
    unfold cpF
    by_cases w : y ≤ i ∧ i < y + m
    · rw [if_pos w, pk_cpy_in w.1 w.2]
      exact ws.2.2 _ (by omega)
    · rw [if_neg w, pk_cpy_out (by omega)]
      exact wt.2.2 i hi
  · show upR h 55 _ a = h a
    simp only [upR, if_neg h2]
  · show upR h 55 _ a = h a
    simp only [upR, if_neg (show a ≠ 55 by omega)]
set_option maxRecDepth 100000 in
set_option maxHeartbeats 400000 in
theorem lX5_copy_3_1 {V : aV} (hV : VOk V) {h : aH} {g : aG} (hv : CV h V) (f d n : Int32) : SegP mX5_copy 11 (21, [some (.ref 0), some (.int (nI 3)), some (.int f), some (.int (nI 1)), some (.int d), some (.int n)], [], nW, h, g, ρ) (enP (enC h (sp_copy V (nI 3) f (nI 1) d n))) := by
  have qq : ((0 : Int32) ≤ nI 3 ∧ nI 3 ≤ 3) ∧ ((0 : Int32) ≤ nI 1 ∧ nI 1 ≤ 3) := by decide
  have ws := hv.2.2.2.2.1 3 (by decide)
  have wt := hv.2.2.2.2.1 1 (by decide)
  have hs := hV.2.2.2 3 (by decide)
  have hu := hV.2.2.2 1 (by decide)
  have inS := in10 (p := 3) (n := 4) (by decide) (by decide)
  have inU := in10 (p := 1) (n := 4) (by decide) (by decide)
  have cS := cl10 (p := 3) (by decide)
  have cU := cl10 (p := 1) (by decide)
  have es : bI (h 60 1 = 0) = bI ((V.2.2.2.1 3).1 = 0) := bI_iff (by rw [show h 60 1 = nI (V.2.2.2.1 3).1 from ws.1]; exact nI_eq (b := 0) (by omega) (by decide))
  have et : bI (h 56 1 = 0) = bI ((V.2.2.2.1 1).1 = 0) := bI_iff (by rw [show h 56 1 = nI (V.2.2.2.1 1).1 from wt.1]; exact nI_eq (b := 0) (by omega) (by decide))
  have hm1 := tX2_isMissing_60 h g
  rw [es] at hm1
  have hm2 := tX2_isMissing_56 h g
  rw [et] at hm2
  have hp1 := tX2_hasSpan_60 h g f n
  rw [show h 60 2 = nI (V.2.2.2.1 3).2.1 from ws.2.1] at hp1
  have hp2 := tX2_hasSpan_56 h g d n
  rw [show h 56 2 = nI (V.2.2.2.1 1).2.1 from wt.2.1] at hp2
  refine SegP.run [] 400 ?_
  refine And.intro inS ?_
  rw [cS]
  refine SegP.tr (Seg.cV hm1 mlX5_275 iyX2_isMissing seX2_isMissing oyX2_isMissing rfl (by decide) rfl (by decide) (by decide) rfl rfl rfl rfl (Nat.le_of_ble_eq_true rfl) (Nat.le_of_ble_eq_true rfl)) ?_
  refine SegP.run [] 400 ?_
  refine And.intro (fun zm => ?_) (fun zm => ?_)
  · skip
    refine SegP.tr (Seg.cV (tX5_refuse h g 5 (by decide) (-1000006) (by decide)) mlX5_64 iyX5_refuse seX5_refuse oyX5_refuse rfl (by decide) rfl (by decide) (by decide) rfl rfl rfl rfl (Nat.le_of_ble_eq_true rfl) (Nat.le_of_ble_eq_true rfl)) ?_
    refine SegP.run [] 400 ?_
    exact cfn hv (k := 5) (by decide) (by rw [sp_copy, if_pos qq, cl_nI (n := 3) (by decide), cl_nI (n := 1) (by decide), if_pos (Or.inl (bn1 zm))])
  refine And.intro inU ?_
  rw [cU]
  refine SegP.tr (Seg.cV hm2 mlX5_275 iyX2_isMissing seX2_isMissing oyX2_isMissing rfl (by decide) rfl (by decide) (by decide) rfl rfl rfl rfl (Nat.le_of_ble_eq_true rfl) (Nat.le_of_ble_eq_true rfl)) ?_
  refine SegP.run [] 400 ?_
  refine And.intro (fun zt => ?_) (fun zt => ?_)
  case refine_2 =>
    have zt : cmpP .ne (bI ((V.2.2.2.1 1).1 = 0)) 0 := zt
    refine SegP.tr (Seg.cV (tX5_refuse h g 5 (by decide) (-1000006) (by decide)) mlX5_64 iyX5_refuse seX5_refuse oyX5_refuse rfl (by decide) rfl (by decide) (by decide) rfl rfl rfl rfl (Nat.le_of_ble_eq_true rfl) (Nat.le_of_ble_eq_true rfl)) ?_
    refine SegP.run [] 400 ?_
    exact cfn hv (k := 5) (by decide) (by rw [sp_copy, if_pos qq, cl_nI (n := 3) (by decide), cl_nI (n := 1) (by decide), if_pos (Or.inr (bn1 zt))])
  have nm : ¬ ((V.2.2.2.1 3).1 = 0 ∨ (V.2.2.2.1 1).1 = 0) := fun y => y.elim (bn0 zm) (bq0 zt)
  refine And.intro inS ?_
  refine And.intro inU ?_
  rw [cU]
  have eb : (h 60 1 = h 56 1) ↔ (V.2.2.2.1 3).1 = (V.2.2.2.1 1).1 := by
    rw [show h 60 1 = nI (V.2.2.2.1 3).1 from ws.1, show h 56 1 = nI (V.2.2.2.1 1).1 from wt.1]
    exact nI_eq (by omega) (by omega)
  refine And.intro (fun zk => ?_) (fun zk => ?_)
  case refine_2 =>
    have zk : ¬ (V.2.2.2.1 3).1 = (V.2.2.2.1 1).1 := fun y => zk (eb.mpr y)
    refine SegP.tr (Seg.cV (tX5_refuse h g 2 (by decide) (-1000003) (by decide)) mlX5_64 iyX5_refuse seX5_refuse oyX5_refuse rfl (by decide) rfl (by decide) (by decide) rfl rfl rfl rfl (Nat.le_of_ble_eq_true rfl) (Nat.le_of_ble_eq_true rfl)) ?_
    refine SegP.run [] 400 ?_
    exact cfn hv (k := 2) (by decide) (by rw [sp_copy, if_pos qq, cl_nI (n := 3) (by decide), cl_nI (n := 1) (by decide), if_neg nm, if_pos (fun y => zk (by rw [y]))])
  have eqb : (V.2.2.2.1 3).1 = (V.2.2.2.1 1).1 := eb.mp zk
  refine And.intro inS ?_
  rw [cS]
  refine SegP.tr (Seg.cV hp1 mlX5_285 iyX2_hasSpan seX2_hasSpan oyX2_hasSpan rfl (by decide) rfl (by decide) (by decide) rfl rfl rfl rfl (Nat.le_of_ble_eq_true rfl) (Nat.le_of_ble_eq_true rfl)) ?_
  refine SegP.run [] 400 ?_
  refine And.intro (fun zp => ?_) (fun zp => ?_)
  · skip
    refine SegP.tr (Seg.cV (tX5_refuse h g 0 (by decide) (-1000001) (by decide)) mlX5_64 iyX5_refuse seX5_refuse oyX5_refuse rfl (by decide) rfl (by decide) (by decide) rfl rfl rfl rfl (Nat.le_of_ble_eq_true rfl) (Nat.le_of_ble_eq_true rfl)) ?_
    refine SegP.run [] 400 ?_
    exact cfn hv (k := 0) (by decide) (by rw [sp_copy, if_pos qq, cl_nI (n := 3) (by decide), cl_nI (n := 1) (by decide), if_neg nm, if_neg (fun y => y eqb), if_neg (fun y => bq0 zp y.1)])
  refine And.intro inU ?_
  rw [cU]
  refine SegP.tr (Seg.cV hp2 mlX5_285 iyX2_hasSpan seX2_hasSpan oyX2_hasSpan rfl (by decide) rfl (by decide) (by decide) rfl rfl rfl rfl (Nat.le_of_ble_eq_true rfl) (Nat.le_of_ble_eq_true rfl)) ?_
  refine SegP.run [] 400 ?_
  refine And.intro (fun zq => ?_) (fun zq => ?_)
  case refine_2 =>
    have zq : ¬ cmpP .ne (bI (spP (nI (V.2.2.2.1 1).2.1) d n)) 0 := zq
    refine SegP.tr (Seg.cV (tX5_refuse h g 0 (by decide) (-1000001) (by decide)) mlX5_64 iyX5_refuse seX5_refuse oyX5_refuse rfl (by decide) rfl (by decide) (by decide) rfl rfl rfl rfl (Nat.le_of_ble_eq_true rfl) (Nat.le_of_ble_eq_true rfl)) ?_
    refine SegP.run [] 400 ?_
    exact cfn hv (k := 0) (by decide) (by rw [sp_copy, if_pos qq, cl_nI (n := 3) (by decide), cl_nI (n := 1) (by decide), if_neg nm, if_neg (fun y => y eqb), if_neg (fun y => bn0 zq y.2)])
  have p1 := bq1 zp
  have p2 := bn1 zq
  obtain ⟨x, m, rfl, rfl, hx⟩ := sp_N hs.2.1 p1
  obtain ⟨y, m2, rfl, em, hy⟩ := sp_N hu.2.1 p2
  obtain rfl : m = m2 := (nI_eq (by omega) (by omega)).mp em
  have cx := cl10 (p := x) (by omega)
  have cy := cl10 (p := y) (by omega)
  have cm := cl10 (p := m) (by omega)
  have e : sp_copy V (nI 3) (nI x) (nI 1) (nI y) (nI m) = (nI m, shV V 1 ((V.2.2.2.1 1).1, (V.2.2.2.1 1).2.1, cpF (V.2.2.2.1 3).2.2 (V.2.2.2.1 1).2.2 x y m)) := by rw [sp_copy, if_pos qq, cl_nI (n := 3) (by decide), cl_nI (n := 1) (by decide), if_neg nm, if_neg (fun z => z eqb), if_pos ⟨p1, p2⟩, cl_nI (n := x) (by omega), cl_nI (n := y) (by omega), cl_nI (n := m) (by omega)]
  refine And.intro inS ?_
  refine And.intro inU ?_
  rw [cU]
  refine And.intro ⟨nI_pos (by omega), nI_pos (by omega), nI_pos (by omega), by rw [cx, cm]; omega, by rw [cy, cm]; omega⟩ ?_
  rw [cx, cy, cm, e]
  refine SegP.ret ⟨rfl, hv.sh (s := 1) (q := ((V.2.2.2.1 1).1, (V.2.2.2.1 1).2.1, cpF (V.2.2.2.1 3).2.2 (V.2.2.2.1 1).2.2 x y m)) (by decide) ?_ ?_ (fun i hi => ?_) (fun a h1 h2 => ?_), fun a ha => ?_⟩
  · exact wt.1
  · exact wt.2.1
  · show upR h 57 (va_cpy (h 61) (h 57) x y m) 57 i = cpF _ _ x y m i
    have hi : i < (V.2.2.2.1 1).2.1 := hi
    simp only [upR, if_true]
    unfold cpF
    by_cases w : y ≤ i ∧ i < y + m
    · rw [if_pos w, pk_cpy_in w.1 w.2]
      exact ws.2.2 _ (by omega)
    · rw [if_neg w, pk_cpy_out (by omega)]
      exact wt.2.2 i hi
  · show upR h 57 _ a = h a
    simp only [upR, if_neg h2]
  · show upR h 57 _ a = h a
    simp only [upR, if_neg (show a ≠ 57 by omega)]
set_option maxRecDepth 100000 in
set_option maxHeartbeats 400000 in
theorem lX5_copy_3_2 {V : aV} (hV : VOk V) {h : aH} {g : aG} (hv : CV h V) (f d n : Int32) : SegP mX5_copy 11 (21, [some (.ref 0), some (.int (nI 3)), some (.int f), some (.int (nI 2)), some (.int d), some (.int n)], [], nW, h, g, ρ) (enP (enC h (sp_copy V (nI 3) f (nI 2) d n))) := by
  have qq : ((0 : Int32) ≤ nI 3 ∧ nI 3 ≤ 3) ∧ ((0 : Int32) ≤ nI 2 ∧ nI 2 ≤ 3) := by decide
  have ws := hv.2.2.2.2.1 3 (by decide)
  have wt := hv.2.2.2.2.1 2 (by decide)
  have hs := hV.2.2.2 3 (by decide)
  have hu := hV.2.2.2 2 (by decide)
  have inS := in10 (p := 3) (n := 4) (by decide) (by decide)
  have inU := in10 (p := 2) (n := 4) (by decide) (by decide)
  have cS := cl10 (p := 3) (by decide)
  have cU := cl10 (p := 2) (by decide)
  have es : bI (h 60 1 = 0) = bI ((V.2.2.2.1 3).1 = 0) := bI_iff (by rw [show h 60 1 = nI (V.2.2.2.1 3).1 from ws.1]; exact nI_eq (b := 0) (by omega) (by decide))
  have et : bI (h 58 1 = 0) = bI ((V.2.2.2.1 2).1 = 0) := bI_iff (by rw [show h 58 1 = nI (V.2.2.2.1 2).1 from wt.1]; exact nI_eq (b := 0) (by omega) (by decide))
  have hm1 := tX2_isMissing_60 h g
  rw [es] at hm1
  have hm2 := tX2_isMissing_58 h g
  rw [et] at hm2
  have hp1 := tX2_hasSpan_60 h g f n
  rw [show h 60 2 = nI (V.2.2.2.1 3).2.1 from ws.2.1] at hp1
  have hp2 := tX2_hasSpan_58 h g d n
  rw [show h 58 2 = nI (V.2.2.2.1 2).2.1 from wt.2.1] at hp2
  refine SegP.run [] 400 ?_
  refine And.intro inS ?_
  rw [cS]
  refine SegP.tr (Seg.cV hm1 mlX5_275 iyX2_isMissing seX2_isMissing oyX2_isMissing rfl (by decide) rfl (by decide) (by decide) rfl rfl rfl rfl (Nat.le_of_ble_eq_true rfl) (Nat.le_of_ble_eq_true rfl)) ?_
  refine SegP.run [] 400 ?_
  refine And.intro (fun zm => ?_) (fun zm => ?_)
  · skip
    refine SegP.tr (Seg.cV (tX5_refuse h g 5 (by decide) (-1000006) (by decide)) mlX5_64 iyX5_refuse seX5_refuse oyX5_refuse rfl (by decide) rfl (by decide) (by decide) rfl rfl rfl rfl (Nat.le_of_ble_eq_true rfl) (Nat.le_of_ble_eq_true rfl)) ?_
    refine SegP.run [] 400 ?_
    exact cfn hv (k := 5) (by decide) (by rw [sp_copy, if_pos qq, cl_nI (n := 3) (by decide), cl_nI (n := 2) (by decide), if_pos (Or.inl (bn1 zm))])
  refine And.intro inU ?_
  rw [cU]
  refine SegP.tr (Seg.cV hm2 mlX5_275 iyX2_isMissing seX2_isMissing oyX2_isMissing rfl (by decide) rfl (by decide) (by decide) rfl rfl rfl rfl (Nat.le_of_ble_eq_true rfl) (Nat.le_of_ble_eq_true rfl)) ?_
  refine SegP.run [] 400 ?_
  refine And.intro (fun zt => ?_) (fun zt => ?_)
  case refine_2 =>
    have zt : cmpP .ne (bI ((V.2.2.2.1 2).1 = 0)) 0 := zt
    refine SegP.tr (Seg.cV (tX5_refuse h g 5 (by decide) (-1000006) (by decide)) mlX5_64 iyX5_refuse seX5_refuse oyX5_refuse rfl (by decide) rfl (by decide) (by decide) rfl rfl rfl rfl (Nat.le_of_ble_eq_true rfl) (Nat.le_of_ble_eq_true rfl)) ?_
    refine SegP.run [] 400 ?_
    exact cfn hv (k := 5) (by decide) (by rw [sp_copy, if_pos qq, cl_nI (n := 3) (by decide), cl_nI (n := 2) (by decide), if_pos (Or.inr (bn1 zt))])
  have nm : ¬ ((V.2.2.2.1 3).1 = 0 ∨ (V.2.2.2.1 2).1 = 0) := fun y => y.elim (bn0 zm) (bq0 zt)
  refine And.intro inS ?_
  refine And.intro inU ?_
  rw [cU]
  have eb : (h 60 1 = h 58 1) ↔ (V.2.2.2.1 3).1 = (V.2.2.2.1 2).1 := by
    rw [show h 60 1 = nI (V.2.2.2.1 3).1 from ws.1, show h 58 1 = nI (V.2.2.2.1 2).1 from wt.1]
    exact nI_eq (by omega) (by omega)
  refine And.intro (fun zk => ?_) (fun zk => ?_)
  case refine_2 =>
    have zk : ¬ (V.2.2.2.1 3).1 = (V.2.2.2.1 2).1 := fun y => zk (eb.mpr y)
    refine SegP.tr (Seg.cV (tX5_refuse h g 2 (by decide) (-1000003) (by decide)) mlX5_64 iyX5_refuse seX5_refuse oyX5_refuse rfl (by decide) rfl (by decide) (by decide) rfl rfl rfl rfl (Nat.le_of_ble_eq_true rfl) (Nat.le_of_ble_eq_true rfl)) ?_
    refine SegP.run [] 400 ?_
    exact cfn hv (k := 2) (by decide) (by rw [sp_copy, if_pos qq, cl_nI (n := 3) (by decide), cl_nI (n := 2) (by decide), if_neg nm, if_pos (fun y => zk (by rw [y]))])
  have eqb : (V.2.2.2.1 3).1 = (V.2.2.2.1 2).1 := eb.mp zk
  refine And.intro inS ?_
  rw [cS]
  refine SegP.tr (Seg.cV hp1 mlX5_285 iyX2_hasSpan seX2_hasSpan oyX2_hasSpan rfl (by decide) rfl (by decide) (by decide) rfl rfl rfl rfl (Nat.le_of_ble_eq_true rfl) (Nat.le_of_ble_eq_true rfl)) ?_
  refine SegP.run [] 400 ?_
  refine And.intro (fun zp => ?_) (fun zp => ?_)
  · skip
    refine SegP.tr (Seg.cV (tX5_refuse h g 0 (by decide) (-1000001) (by decide)) mlX5_64 iyX5_refuse seX5_refuse oyX5_refuse rfl (by decide) rfl (by decide) (by decide) rfl rfl rfl rfl (Nat.le_of_ble_eq_true rfl) (Nat.le_of_ble_eq_true rfl)) ?_
    refine SegP.run [] 400 ?_
    exact cfn hv (k := 0) (by decide) (by rw [sp_copy, if_pos qq, cl_nI (n := 3) (by decide), cl_nI (n := 2) (by decide), if_neg nm, if_neg (fun y => y eqb), if_neg (fun y => bq0 zp y.1)])
  refine And.intro inU ?_
  rw [cU]
  refine SegP.tr (Seg.cV hp2 mlX5_285 iyX2_hasSpan seX2_hasSpan oyX2_hasSpan rfl (by decide) rfl (by decide) (by decide) rfl rfl rfl rfl (Nat.le_of_ble_eq_true rfl) (Nat.le_of_ble_eq_true rfl)) ?_
  refine SegP.run [] 400 ?_
  refine And.intro (fun zq => ?_) (fun zq => ?_)
  case refine_2 =>
    have zq : ¬ cmpP .ne (bI (spP (nI (V.2.2.2.1 2).2.1) d n)) 0 := zq
    refine SegP.tr (Seg.cV (tX5_refuse h g 0 (by decide) (-1000001) (by decide)) mlX5_64 iyX5_refuse seX5_refuse oyX5_refuse rfl (by decide) rfl (by decide) (by decide) rfl rfl rfl rfl (Nat.le_of_ble_eq_true rfl) (Nat.le_of_ble_eq_true rfl)) ?_
    refine SegP.run [] 400 ?_
    exact cfn hv (k := 0) (by decide) (by rw [sp_copy, if_pos qq, cl_nI (n := 3) (by decide), cl_nI (n := 2) (by decide), if_neg nm, if_neg (fun y => y eqb), if_neg (fun y => bn0 zq y.2)])
  have p1 := bq1 zp
  have p2 := bn1 zq
  obtain ⟨x, m, rfl, rfl, hx⟩ := sp_N hs.2.1 p1
  obtain ⟨y, m2, rfl, em, hy⟩ := sp_N hu.2.1 p2
  obtain rfl : m = m2 := (nI_eq (by omega) (by omega)).mp em
  have cx := cl10 (p := x) (by omega)
  have cy := cl10 (p := y) (by omega)
  have cm := cl10 (p := m) (by omega)
  have e : sp_copy V (nI 3) (nI x) (nI 2) (nI y) (nI m) = (nI m, shV V 2 ((V.2.2.2.1 2).1, (V.2.2.2.1 2).2.1, cpF (V.2.2.2.1 3).2.2 (V.2.2.2.1 2).2.2 x y m)) := by rw [sp_copy, if_pos qq, cl_nI (n := 3) (by decide), cl_nI (n := 2) (by decide), if_neg nm, if_neg (fun z => z eqb), if_pos ⟨p1, p2⟩, cl_nI (n := x) (by omega), cl_nI (n := y) (by omega), cl_nI (n := m) (by omega)]
  refine And.intro inS ?_
  refine And.intro inU ?_
  rw [cU]
  refine And.intro ⟨nI_pos (by omega), nI_pos (by omega), nI_pos (by omega), by rw [cx, cm]; omega, by rw [cy, cm]; omega⟩ ?_
  rw [cx, cy, cm, e]
  refine SegP.ret ⟨rfl, hv.sh (s := 2) (q := ((V.2.2.2.1 2).1, (V.2.2.2.1 2).2.1, cpF (V.2.2.2.1 3).2.2 (V.2.2.2.1 2).2.2 x y m)) (by decide) ?_ ?_ (fun i hi => ?_) (fun a h1 h2 => ?_), fun a ha => ?_⟩
  · exact wt.1
  · exact wt.2.1
  · show upR h 59 (va_cpy (h 61) (h 59) x y m) 59 i = cpF _ _ x y m i
    have hi : i < (V.2.2.2.1 2).2.1 := hi
    simp only [upR, if_true]
    unfold cpF
    by_cases w : y ≤ i ∧ i < y + m
    · rw [if_pos w, pk_cpy_in w.1 w.2]
      exact ws.2.2 _ (by omega)
    · rw [if_neg w, pk_cpy_out (by omega)]
      exact wt.2.2 i hi
  · show upR h 59 _ a = h a
    simp only [upR, if_neg h2]
  · show upR h 59 _ a = h a
    simp only [upR, if_neg (show a ≠ 59 by omega)]
set_option maxRecDepth 100000 in
set_option maxHeartbeats 400000 in
theorem lX5_copy_3_3 {V : aV} (hV : VOk V) {h : aH} {g : aG} (hv : CV h V) (f d n : Int32) : SegP mX5_copy 11 (21, [some (.ref 0), some (.int (nI 3)), some (.int f), some (.int (nI 3)), some (.int d), some (.int n)], [], nW, h, g, ρ) (enP (enC h (sp_copy V (nI 3) f (nI 3) d n))) := by
  have qq : ((0 : Int32) ≤ nI 3 ∧ nI 3 ≤ 3) ∧ ((0 : Int32) ≤ nI 3 ∧ nI 3 ≤ 3) := by decide
  have ws := hv.2.2.2.2.1 3 (by decide)
  have wt := hv.2.2.2.2.1 3 (by decide)
  have hs := hV.2.2.2 3 (by decide)
  have hu := hV.2.2.2 3 (by decide)
  have inS := in10 (p := 3) (n := 4) (by decide) (by decide)
  have inU := in10 (p := 3) (n := 4) (by decide) (by decide)
  have cS := cl10 (p := 3) (by decide)
  have cU := cl10 (p := 3) (by decide)
  have es : bI (h 60 1 = 0) = bI ((V.2.2.2.1 3).1 = 0) := bI_iff (by rw [show h 60 1 = nI (V.2.2.2.1 3).1 from ws.1]; exact nI_eq (b := 0) (by omega) (by decide))
  have et : bI (h 60 1 = 0) = bI ((V.2.2.2.1 3).1 = 0) := bI_iff (by rw [show h 60 1 = nI (V.2.2.2.1 3).1 from wt.1]; exact nI_eq (b := 0) (by omega) (by decide))
  have hm1 := tX2_isMissing_60 h g
  rw [es] at hm1
  have hm2 := tX2_isMissing_60 h g
  rw [et] at hm2
  have hp1 := tX2_hasSpan_60 h g f n
  rw [show h 60 2 = nI (V.2.2.2.1 3).2.1 from ws.2.1] at hp1
  have hp2 := tX2_hasSpan_60 h g d n
  rw [show h 60 2 = nI (V.2.2.2.1 3).2.1 from wt.2.1] at hp2
  refine SegP.run [] 400 ?_
  refine And.intro inS ?_
  rw [cS]
  refine SegP.tr (Seg.cV hm1 mlX5_275 iyX2_isMissing seX2_isMissing oyX2_isMissing rfl (by decide) rfl (by decide) (by decide) rfl rfl rfl rfl (Nat.le_of_ble_eq_true rfl) (Nat.le_of_ble_eq_true rfl)) ?_
  refine SegP.run [] 400 ?_
  refine And.intro (fun zm => ?_) (fun zm => ?_)
  · skip
    refine SegP.tr (Seg.cV (tX5_refuse h g 5 (by decide) (-1000006) (by decide)) mlX5_64 iyX5_refuse seX5_refuse oyX5_refuse rfl (by decide) rfl (by decide) (by decide) rfl rfl rfl rfl (Nat.le_of_ble_eq_true rfl) (Nat.le_of_ble_eq_true rfl)) ?_
    refine SegP.run [] 400 ?_
    exact cfn hv (k := 5) (by decide) (by rw [sp_copy, if_pos qq, cl_nI (n := 3) (by decide), if_pos (Or.inl (bn1 zm))])
  refine And.intro inU ?_
  rw [cU]
  refine SegP.tr (Seg.cV hm2 mlX5_275 iyX2_isMissing seX2_isMissing oyX2_isMissing rfl (by decide) rfl (by decide) (by decide) rfl rfl rfl rfl (Nat.le_of_ble_eq_true rfl) (Nat.le_of_ble_eq_true rfl)) ?_
  refine SegP.run [] 400 ?_
  refine And.intro (fun zt => ?_) (fun zt => ?_)
  case refine_2 =>
    have zt : cmpP .ne (bI ((V.2.2.2.1 3).1 = 0)) 0 := zt
    refine SegP.tr (Seg.cV (tX5_refuse h g 5 (by decide) (-1000006) (by decide)) mlX5_64 iyX5_refuse seX5_refuse oyX5_refuse rfl (by decide) rfl (by decide) (by decide) rfl rfl rfl rfl (Nat.le_of_ble_eq_true rfl) (Nat.le_of_ble_eq_true rfl)) ?_
    refine SegP.run [] 400 ?_
    exact cfn hv (k := 5) (by decide) (by rw [sp_copy, if_pos qq, cl_nI (n := 3) (by decide), if_pos (Or.inr (bn1 zt))])
  have nm : ¬ ((V.2.2.2.1 3).1 = 0 ∨ (V.2.2.2.1 3).1 = 0) := fun y => y.elim (bn0 zm) (bq0 zt)
  refine And.intro inS ?_
  refine And.intro inU ?_
  rw [cU]
  have eb : (h 60 1 = h 60 1) ↔ (V.2.2.2.1 3).1 = (V.2.2.2.1 3).1 := by
    exact ⟨fun _ => rfl, fun _ => rfl⟩
  refine And.intro (fun zk => ?_) (fun zk => ?_)
  case refine_2 =>
    have zk : ¬ (V.2.2.2.1 3).1 = (V.2.2.2.1 3).1 := fun y => zk (eb.mpr y)
    refine SegP.tr (Seg.cV (tX5_refuse h g 2 (by decide) (-1000003) (by decide)) mlX5_64 iyX5_refuse seX5_refuse oyX5_refuse rfl (by decide) rfl (by decide) (by decide) rfl rfl rfl rfl (Nat.le_of_ble_eq_true rfl) (Nat.le_of_ble_eq_true rfl)) ?_
    refine SegP.run [] 400 ?_
    exact cfn hv (k := 2) (by decide) (by rw [sp_copy, if_pos qq, cl_nI (n := 3) (by decide), if_neg nm, if_pos (fun y => zk (by rw [y]))])
  have eqb : (V.2.2.2.1 3).1 = (V.2.2.2.1 3).1 := eb.mp zk
  refine And.intro inS ?_
  rw [cS]
  refine SegP.tr (Seg.cV hp1 mlX5_285 iyX2_hasSpan seX2_hasSpan oyX2_hasSpan rfl (by decide) rfl (by decide) (by decide) rfl rfl rfl rfl (Nat.le_of_ble_eq_true rfl) (Nat.le_of_ble_eq_true rfl)) ?_
  refine SegP.run [] 400 ?_
  refine And.intro (fun zp => ?_) (fun zp => ?_)
  · skip
    refine SegP.tr (Seg.cV (tX5_refuse h g 0 (by decide) (-1000001) (by decide)) mlX5_64 iyX5_refuse seX5_refuse oyX5_refuse rfl (by decide) rfl (by decide) (by decide) rfl rfl rfl rfl (Nat.le_of_ble_eq_true rfl) (Nat.le_of_ble_eq_true rfl)) ?_
    refine SegP.run [] 400 ?_
    exact cfn hv (k := 0) (by decide) (by rw [sp_copy, if_pos qq, cl_nI (n := 3) (by decide), if_neg nm, if_neg (fun y => y eqb), if_neg (fun y => bq0 zp y.1)])
  refine And.intro inU ?_
  rw [cU]
  refine SegP.tr (Seg.cV hp2 mlX5_285 iyX2_hasSpan seX2_hasSpan oyX2_hasSpan rfl (by decide) rfl (by decide) (by decide) rfl rfl rfl rfl (Nat.le_of_ble_eq_true rfl) (Nat.le_of_ble_eq_true rfl)) ?_
  refine SegP.run [] 400 ?_
  refine And.intro (fun zq => ?_) (fun zq => ?_)
  case refine_2 =>
    have zq : ¬ cmpP .ne (bI (spP (nI (V.2.2.2.1 3).2.1) d n)) 0 := zq
    refine SegP.tr (Seg.cV (tX5_refuse h g 0 (by decide) (-1000001) (by decide)) mlX5_64 iyX5_refuse seX5_refuse oyX5_refuse rfl (by decide) rfl (by decide) (by decide) rfl rfl rfl rfl (Nat.le_of_ble_eq_true rfl) (Nat.le_of_ble_eq_true rfl)) ?_
    refine SegP.run [] 400 ?_
    exact cfn hv (k := 0) (by decide) (by rw [sp_copy, if_pos qq, cl_nI (n := 3) (by decide), if_neg nm, if_neg (fun y => y eqb), if_neg (fun y => bn0 zq y.2)])
  have p1 := bq1 zp
  have p2 := bn1 zq
  obtain ⟨x, m, rfl, rfl, hx⟩ := sp_N hs.2.1 p1
  obtain ⟨y, m2, rfl, em, hy⟩ := sp_N hu.2.1 p2
  obtain rfl : m = m2 := (nI_eq (by omega) (by omega)).mp em
  have cx := cl10 (p := x) (by omega)
  have cy := cl10 (p := y) (by omega)
  have cm := cl10 (p := m) (by omega)
  have e : sp_copy V (nI 3) (nI x) (nI 3) (nI y) (nI m) = (nI m, shV V 3 ((V.2.2.2.1 3).1, (V.2.2.2.1 3).2.1, cpF (V.2.2.2.1 3).2.2 (V.2.2.2.1 3).2.2 x y m)) := by rw [sp_copy, if_pos qq, cl_nI (n := 3) (by decide), if_neg nm, if_neg (fun z => z eqb), if_pos ⟨p1, p2⟩, cl_nI (n := x) (by omega), cl_nI (n := y) (by omega), cl_nI (n := m) (by omega)]
  refine And.intro inS ?_
  refine And.intro inU ?_
  rw [cU]
  refine And.intro ⟨nI_pos (by omega), nI_pos (by omega), nI_pos (by omega), by rw [cx, cm]; omega, by rw [cy, cm]; omega⟩ ?_
  rw [cx, cy, cm, e]
  refine SegP.ret ⟨rfl, hv.sh (s := 3) (q := ((V.2.2.2.1 3).1, (V.2.2.2.1 3).2.1, cpF (V.2.2.2.1 3).2.2 (V.2.2.2.1 3).2.2 x y m)) (by decide) ?_ ?_ (fun i hi => ?_) (fun a h1 h2 => ?_), fun a ha => ?_⟩
  · exact wt.1
  · exact wt.2.1
  · show upR h 61 (va_cpy (h 61) (h 61) x y m) 61 i = cpF _ _ x y m i
    have hi : i < (V.2.2.2.1 3).2.1 := hi
    simp only [upR, if_true]
    unfold cpF
    by_cases w : y ≤ i ∧ i < y + m
    · rw [if_pos w, pk_cpy_in w.1 w.2]
      exact ws.2.2 _ (by omega)
    · rw [if_neg w, pk_cpy_out (by omega)]
      exact wt.2.2 i hi
  · show upR h 61 _ a = h a
    simp only [upR, if_neg h2]
  · show upR h 61 _ a = h a
    simp only [upR, if_neg (show a ≠ 61 by omega)]
set_option maxRecDepth 100000 in
set_option maxHeartbeats 400000 in
theorem zC_copy {V : aV} (hV : VOk V) (s f t d n : Int32) : CX mX5_copy 11 [.int s, .int f, .int t, .int d, .int n] V (sp_copy V s f t d n) := by
  intro h g hv
  obtain ⟨v1, v2, v3, v4, v5, v6⟩ := id hv
  have ht := hV.1
  refine MX.of okX5_copy (by decide +kernel) (Nat.le_of_ble_eq_true rfl) (by decide) rfl (by decide) ?_
  refine SegP.run [] 400 ?_
  refine SegP.tr (Seg.cS ((tX5_isSheet s).ms h g) mlX5_265 syX5_isSheet oyX5_isSheet rfl (by decide) rfl rfl rfl (Nat.le_of_ble_eq_true rfl) (Nat.le_of_ble_eq_true rfl)) ?_
  refine SegP.run [] 400 ?_
  refine And.intro (fun z0 => ?_) (fun z0 => ?_)
  · refine SegP.tr (Seg.cV (tX5_refuse h g 0 (by decide) (-1000001) (by decide)) mlX5_64 iyX5_refuse seX5_refuse oyX5_refuse rfl (by decide) rfl (by decide) (by decide) rfl rfl rfl rfl (Nat.le_of_ble_eq_true rfl) (Nat.le_of_ble_eq_true rfl)) ?_
    refine SegP.run [] 400 ?_
    exact cfn hv (k := 0) (by decide) (by rw [sp_copy, if_neg (fun y => bq0 z0 y.1)])
  have q0 := bq1 z0
  refine SegP.tr (Seg.cS ((tX5_isSheet t).ms h g) mlX5_265 syX5_isSheet oyX5_isSheet rfl (by decide) rfl rfl rfl (Nat.le_of_ble_eq_true rfl) (Nat.le_of_ble_eq_true rfl)) ?_
  refine SegP.run [21] 400 ?_
  refine And.intro (fun z1 => ?_) (fun z1 => ?_)
  · have q1 := bn1 z1
    obtain ⟨x, hx, rfl⟩ := rng (a := 0) (b := 3) (by decide) (show nI 0 ≤ s ∧ s ≤ nI 3 from q0) (by decide)
    obtain ⟨y, hy, rfl⟩ := rng (a := 0) (b := 3) (by decide) (show nI 0 ≤ t ∧ t ≤ nI 3 from q1) (by decide)
    rcases (show x = 0 ∨ x = 1 ∨ x = 2 ∨ x = 3 by omega) with rfl | rfl | rfl | rfl <;> rcases (show y = 0 ∨ y = 1 ∨ y = 2 ∨ y = 3 by omega) with rfl | rfl | rfl | rfl
    · exact lX5_copy_0_0 hV hv f d n
    · exact lX5_copy_0_1 hV hv f d n
    · exact lX5_copy_0_2 hV hv f d n
    · exact lX5_copy_0_3 hV hv f d n
    · exact lX5_copy_1_0 hV hv f d n
    · exact lX5_copy_1_1 hV hv f d n
    · exact lX5_copy_1_2 hV hv f d n
    · exact lX5_copy_1_3 hV hv f d n
    · exact lX5_copy_2_0 hV hv f d n
    · exact lX5_copy_2_1 hV hv f d n
    · exact lX5_copy_2_2 hV hv f d n
    · exact lX5_copy_2_3 hV hv f d n
    · exact lX5_copy_3_0 hV hv f d n
    · exact lX5_copy_3_1 hV hv f d n
    · exact lX5_copy_3_2 hV hv f d n
    · exact lX5_copy_3_3 hV hv f d n
  · refine SegP.tr (Seg.cV (tX5_refuse h g 0 (by decide) (-1000001) (by decide)) mlX5_64 iyX5_refuse seX5_refuse oyX5_refuse rfl (by decide) rfl (by decide) (by decide) rfl rfl rfl rfl (Nat.le_of_ble_eq_true rfl) (Nat.le_of_ble_eq_true rfl)) ?_
    refine SegP.run [] 400 ?_
    exact cfn hv (k := 0) (by decide) (by rw [sp_copy, if_neg (fun y => bn0 z1 y.2)])
set_option maxRecDepth 100000 in
set_option maxHeartbeats 400000 in
theorem zM_copy {V : aV} (hV : VOk V) (s f t d n : Int32) : DX mX6_copy 11 [.int s, .int f, .int t, .int d, .int n] V (sp_copy V s f t d n) := by
  intro h g hv
  obtain ⟨v1, v2, v3, v4, v5, v6⟩ := id hv
  have ht := hV.1
  refine MX.of okX6_copy (by decide +kernel) (Nat.le_of_ble_eq_true rfl) (by decide) rfl (by decide) ?_
  refine SegP.run [] 400 ?_
  refine SegP.tr (Seg.cS ((tX6_isSheet s).ms h g) mlX6_256 syX6_isSheet oyX6_isSheet rfl (by decide) rfl rfl rfl (Nat.le_of_ble_eq_true rfl) (Nat.le_of_ble_eq_true rfl)) ?_
  refine SegP.run [] 400 ?_
  refine And.intro (fun z0 => ?_) (fun z0 => ?_)
  · refine SegP.tr (Seg.cV (tX6_fd h g 0 (by decide) 0 (by decide) (-1000001) (by decide)) mlX6_51 iyX6_finding seX6_finding oyX6_finding rfl (by decide) rfl (by decide) (by decide) rfl rfl rfl rfl (Nat.le_of_ble_eq_true rfl) (Nat.le_of_ble_eq_true rfl)) ?_
    refine SegP.run [] 400 ?_
    exact mfn hv (k := 0) (by decide) (by rw [sp_copy, if_neg (fun y => bq0 z0 y.1)])
  have q0 := bq1 z0
  refine SegP.tr (Seg.cS ((tX6_isSheet t).ms h g) mlX6_256 syX6_isSheet oyX6_isSheet rfl (by decide) rfl rfl rfl (Nat.le_of_ble_eq_true rfl) (Nat.le_of_ble_eq_true rfl)) ?_
  refine SegP.run [38, 106, 115] 400 ?_
  refine And.intro (fun z1 => ?_) (fun z1 => ?_)
  · have q1 := bn1 z1
    obtain ⟨x, hx, rfl⟩ := rng (a := 0) (b := 3) (by decide) (show nI 0 ≤ s ∧ s ≤ nI 3 from q0) (by decide)
    obtain ⟨y, hy, rfl⟩ := rng (a := 0) (b := 3) (by decide) (show nI 0 ≤ t ∧ t ≤ nI 3 from q1) (by decide)
    have qq : ((0 : Int32) ≤ nI x ∧ nI x ≤ 3) ∧ ((0 : Int32) ≤ nI y ∧ nI y ≤ 3) := ⟨q0, q1⟩
    have E : sp_copy V (nI x) f (nI y) d n = (if (V.2.2.2.1 x).1 = 0 ∨ (V.2.2.2.1 y).1 = 0 then fnd V 5 (-1000006) else if ¬ (V.2.2.2.1 x).1 = (V.2.2.2.1 y).1 then fnd V 2 (-1000003) else if spP (nI (V.2.2.2.1 x).2.1) f n ∧ spP (nI (V.2.2.2.1 y).2.1) d n then (n, shV V y ((V.2.2.2.1 y).1, (V.2.2.2.1 y).2.1, cpF (V.2.2.2.1 x).2.2 (V.2.2.2.1 y).2.2 (cl f) (cl d) (cl n))) else fnd V 0 (-1000001)) := by
      unfold sp_copy
      rw [if_pos qq, show cl (nI x) = x from cl_nI (by omega), show cl (nI y) = y from cl_nI (by omega)]
    have ws := v5 x (by omega)
    have wt := v5 y (by omega)
    have hs := hV.2.2.2 x (by omega)
    have hu := hV.2.2.2 y (by omega)
    have inS := in10 (p := x) (n := 4) (by omega) (by decide)
    have inU := in10 (p := y) (n := 4) (by omega) (by decide)
    have cS := cl10 (p := x) (by omega)
    have cU := cl10 (p := y) (by omega)
    have zs : nI (V.2.2.2.1 x).1 = 0 ↔ (V.2.2.2.1 x).1 = 0 := nI_eq (b := 0) (by omega) (by decide)
    have zu : nI (V.2.2.2.1 y).1 = 0 ↔ (V.2.2.2.1 y).1 = 0 := nI_eq (b := 0) (by omega) (by decide)
    have ebb : nI (V.2.2.2.1 x).1 = nI (V.2.2.2.1 y).1 ↔ (V.2.2.2.1 x).1 = (V.2.2.2.1 y).1 := nI_eq (by omega) (by omega)
    have f5 : ((V.2.2.2.1 x).1 = 0 ∨ (V.2.2.2.1 y).1 = 0) → SegP mX6_copy 11 (38, [some (.ref 63), some (.int (nI x)), some (.int f), some (.int (nI y)), some (.int d), some (.int n), none], [], nW, h, g, ρ) (enP (enM h (sp_copy V (nI x) f (nI y) d n))) := by
      intro w
      refine SegP.run [] 400 ?_
      refine SegP.tr (Seg.cV (tX6_fd h g 5 (by decide) 5 (by decide) (-1000006) (by decide)) mlX6_51 iyX6_finding seX6_finding oyX6_finding rfl (by decide) rfl (by decide) (by decide) rfl rfl rfl rfl (Nat.le_of_ble_eq_true rfl) (Nat.le_of_ble_eq_true rfl)) ?_
      refine SegP.run [] 400 ?_
      exact mfn hv (k := 5) (by decide) (by rw [E, if_pos w])
    refine And.intro inS ?_
    rw [cS, ws.1]
    refine And.intro (fun za => ?_) (fun za => ?_)
    · exact f5 (Or.inl (zs.mp za))
    refine And.intro inU ?_
    rw [cU, wt.1]
    refine And.intro (fun zb => ?_) (fun zb => f5 (Or.inr (zu.mp (Decidable.not_not.mp zb))))
    have nm : ¬ ((V.2.2.2.1 x).1 = 0 ∨ (V.2.2.2.1 y).1 = 0) := fun w => w.elim (fun k => za (zs.mpr k)) (fun k => zb (zu.mpr k))
    refine And.intro inS ?_
    refine And.intro inU ?_
    rw [cS, cU, ws.1, wt.1]
    refine And.intro (fun zk => ?_) (fun zk => ?_)
    case refine_2 =>
      refine SegP.tr (Seg.cV (tX6_fd h g 2 (by decide) 2 (by decide) (-1000003) (by decide)) mlX6_51 iyX6_finding seX6_finding oyX6_finding rfl (by decide) rfl (by decide) (by decide) rfl rfl rfl rfl (Nat.le_of_ble_eq_true rfl) (Nat.le_of_ble_eq_true rfl)) ?_
      refine SegP.run [] 400 ?_
      exact mfn hv (k := 2) (by decide) (by rw [E, if_neg nm, if_pos (fun w => zk (ebb.mpr w))])
    have eqb := ebb.mp zk
    have f0 : ¬ (spP (nI (V.2.2.2.1 x).2.1) f n ∧ spP (nI (V.2.2.2.1 y).2.1) d n) → SegP mX6_copy 11 (106, [some (.ref 63), some (.int (nI x)), some (.int f), some (.int (nI y)), some (.int d), some (.int n), none], [], nW, h, g, ρ) (enP (enM h (sp_copy V (nI x) f (nI y) d n))) := by
      intro w
      refine SegP.run [] 400 ?_
      refine SegP.tr (Seg.cV (tX6_fd h g 0 (by decide) 0 (by decide) (-1000001) (by decide)) mlX6_51 iyX6_finding seX6_finding oyX6_finding rfl (by decide) rfl (by decide) (by decide) rfl rfl rfl rfl (Nat.le_of_ble_eq_true rfl) (Nat.le_of_ble_eq_true rfl)) ?_
      refine SegP.run [] 400 ?_
      exact mfn hv (k := 0) (by decide) (by rw [E, if_neg nm, if_neg (fun z => z eqb), if_neg w])
    refine And.intro (fun y1 => ?_) (fun y1 => ?_)
    · exact f0 (fun w => nlt y1 w.1.1)
    refine And.intro (fun y2 => ?_) (fun y2 => ?_)
    · exact f0 (fun w => nlt y2 w.2.1)
    refine And.intro (fun y3 => ?_) (fun y3 => ?_)
    · exact f0 (fun w => nlt y3 w.1.2.1)
    have i1 := sp_I hs.2.1 (nle y1) (nle y3)
    have i2 := sp_I hu.2.1 (nle y2) (nle y3)
    refine And.intro inS ?_
    rw [cS, ws.2.1]
    refine And.intro (fun y4 => ?_) (fun y4 => ?_)
    · exact f0 (fun w => Int32.not_le.mpr y4 (i1.mp w.1))
    refine And.intro inU ?_
    rw [cU, wt.2.1]
    refine And.intro (fun y5 => ?_) (fun y5 => f0 (fun w => y5 (i2.mp w.2)))
    have p1 := i1.mpr (Int32.not_lt.mp y4)
    have p2 := i2.mpr y5
    obtain ⟨f', m, rfl, rfl, hf⟩ := sp_N hs.2.1 p1
    obtain ⟨d', m2, rfl, em, hd⟩ := sp_N hu.2.1 p2
    obtain rfl : m = m2 := (nI_eq (by omega) (by omega)).mp em
    have e : sp_copy V (nI x) (nI f') (nI y) (nI d') (nI m) = (nI m, shV V y ((V.2.2.2.1 y).1, (V.2.2.2.1 y).2.1, cpF (V.2.2.2.1 x).2.2 (V.2.2.2.1 y).2.2 f' d' m)) := by rw [E, if_neg nm, if_neg (fun z => z eqb), if_pos ⟨p1, p2⟩, cl_nI (n := f') (by omega), cl_nI (n := d') (by omega), cl_nI (n := m) (by omega)]
    refine SegP.tp (SegP.iter (fun i dd => ∃ h', dd = (115, [some (.ref 63), some (.int (nI x)), some (.int (nI f')), some (.int (nI y)), some (.int (nI d')), some (.int (nI m)), some (.int (nI i))], [], nW, h', g, ρ) ∧ (∀ a, a ≠ 75 → h' a = h a) ∧ ∀ k, k < i → h' 75 k = h 74 (40 * x + f' + k)) m (fun i hi dd hdd => ?_) _ ⟨h, rfl, fun a _ => rfl, fun k hk => absurd hk (Nat.not_lt_zero _)⟩) (fun dd hdd => ?_)
    · obtain ⟨h', rfl, r1, r2⟩ := hdd
      have ei : (40 : Int32) * nI x + nI f' + nI i = nI (40 * x + f' + i) := by rw [show (40 : Int32) = nI 40 from rfl, nI_ml, nI_ad, nI_ad]
      refine SegP.run [115] 400 ?_
      refine And.intro (fun c => ?_) (fun c => ?_)
      · exact absurd c (nI_ge hi (by omega))
      refine And.intro (by rw [ei]; exact in10 (by omega) (by decide)) ?_
      refine And.intro (in10 (p := i) (n := 40) (by omega) (by decide)) ?_
      rw [ei, cl10 (p := 40 * x + f' + i) (by omega), cl10 (p := i) (by omega), r1 74 (by decide)]
      refine SegP.rf ⟨_, by rw [nI_succ i] <;> rfl, fun a ha => by rw [up2_row ha]; exact r1 a ha, fun k hk => ?_⟩
      by_cases w : k = i
      · subst w; rw [up2_s]
      · rw [up2_k w]; exact r2 k (by omega)
    obtain ⟨h1, rfl, r1, r2⟩ := hdd
    refine SegP.run [152] 400 ?_
    refine And.intro (fun _ => ?_) (fun c => absurd (nI_le (Nat.le_refl _) (by omega)) c)
    refine SegP.tp (SegP.iter (fun i dd => ∃ h', dd = (152, [some (.ref 63), some (.int (nI x)), some (.int (nI f')), some (.int (nI y)), some (.int (nI d')), some (.int (nI m)), some (.int (nI i))], [], nW, h', g, ρ) ∧ (∀ a, a ≠ 74 → h' a = h1 a) ∧ ∀ k, h' 74 k = if 40 * y + d' ≤ k ∧ k < 40 * y + d' + i then h 74 (40 * x + f' + (k - (40 * y + d'))) else h 74 k) m (fun i hi dd hdd => ?_) _ ⟨h1, rfl, fun a _ => rfl, fun k => by rw [if_neg (by omega), r1 74 (by decide)]⟩) (fun dd hdd => ?_)
    · obtain ⟨h', rfl, u1, u2⟩ := hdd
      have ei : (40 : Int32) * nI y + nI d' + nI i = nI (40 * y + d' + i) := by rw [show (40 : Int32) = nI 40 from rfl, nI_ml, nI_ad, nI_ad]
      refine SegP.run [152] 400 ?_
      refine And.intro (fun c => ?_) (fun c => ?_)
      · exact absurd c (nI_ge hi (by omega))
      refine And.intro (in10 (p := i) (n := 40) (by omega) (by decide)) ?_
      refine And.intro (by rw [ei]; exact in10 (by omega) (by decide)) ?_
      rw [ei, cl10 (p := 40 * y + d' + i) (by omega), cl10 (p := i) (by omega), u1 75 (by decide), r2 i hi]
      refine SegP.rf ⟨_, by rw [nI_succ i] <;> rfl, fun a ha => by rw [up2_row ha]; exact u1 a ha, fun k => ?_⟩
      by_cases w : k = 40 * y + d' + i
      · subst w; rw [up2_s, if_pos (by omega)]; congr 1; omega
      · rw [up2_k w, u2 k]
        by_cases w2 : 40 * y + d' ≤ k ∧ k < 40 * y + d' + i
        · rw [if_pos w2, if_pos (by omega)]
        · rw [if_neg w2, if_neg (by omega)]
    obtain ⟨h2, rfl, u1, u2⟩ := hdd
    have un : ∀ a, a ≠ 74 → a ≠ 75 → h2 a = h a := fun a a1 a2 => (u1 a a1).trans (r1 a a2)
    refine SegP.run [] 400 ?_
    refine And.intro (fun _ => ?_) (fun c => absurd (nI_le (Nat.le_refl _) (by omega)) c)
    rw [e]
    have hv' : MV h2 (shV V y ((V.2.2.2.1 y).1, (V.2.2.2.1 y).2.1, cpF (V.2.2.2.1 x).2.2 (V.2.2.2.1 y).2.2 f' d' m)) := by
      refine hv.sh (s := y) (q := ((V.2.2.2.1 y).1, (V.2.2.2.1 y).2.1, cpF (V.2.2.2.1 x).2.2 (V.2.2.2.1 y).2.2 f' d' m)) (by omega) ?_ ?_ (fun i hi => ?_) (fun j _ => by rw [un 72 (by decide) (by decide)]) (fun j _ => by rw [un 73 (by decide) (by decide)]) (fun j i hj hjx hi => ?_) (fun a ha => un a (by omega) (by omega)) (fun j hj => (hV.2.2.2 j hj).2.1)
      · rw [un 72 (by decide) (by decide)]; exact wt.1
      · rw [un 73 (by decide) (by decide)]; exact wt.2.1
      · have hi : i < (V.2.2.2.1 y).2.1 := hi
        show h2 74 (40 * y + i) = cpF _ _ f' d' m i
        unfold cpF
        rw [u2]
        by_cases w : d' ≤ i ∧ i < d' + m
        · rw [if_pos w, if_pos (by omega), show 40 * x + f' + (40 * y + i - (40 * y + d')) = 40 * x + (f' + (i - d')) by omega]
          exact ws.2.2 _ (by omega)
        · rw [if_neg w, if_neg (by omega)]
          exact wt.2.2 i hi
      · rw [u2, if_neg (by omega)]
    exact SegP.ret ⟨rfl, hv', fun a ha => un a (by omega) (by omega)⟩
  · refine SegP.tr (Seg.cV (tX6_fd h g 0 (by decide) 0 (by decide) (-1000001) (by decide)) mlX6_51 iyX6_finding seX6_finding oyX6_finding rfl (by decide) rfl (by decide) (by decide) rfl rfl rfl rfl (Nat.le_of_ble_eq_true rfl) (Nat.le_of_ble_eq_true rfl)) ?_
    refine SegP.run [] 400 ?_
    exact mfn hv (k := 0) (by decide) (by rw [sp_copy, if_neg (fun y => bn0 z1 y.2)])
