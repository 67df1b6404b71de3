/-! ===== the law: each call; printed by wip/whole/gen88.py ===== -/
theorem CV.out {h h' : aH} {V : aV} (hv : CV h V) (f : ∀ a, a < 63 → h' a = h a) : CV h' V := hv.fr fun a ha _ => f a ha
theorem MV.out {h h' : aH} {V : aV} (hv : MV h V) (f : ∀ a, 63 ≤ a → h' a = h a) : MV h' V := hv.fr (fun a ha => f a (by omega)) (by rw [f 63 (by decide)]) (by rw [f 63 (by decide)])
theorem ixS {i L w : Nat} (hi : i + 6 ≤ L) (hL : L ≤ 3072) (hw : w < 6) {x : Int32} (hx : x = nI w) : vp_in (nI i + x) L := by
  subst hx
  rw [nI_ad]
  exact vp_in_nI (by omega) (by omega)
set_option maxRecDepth 100000 in
set_option maxHeartbeats 400000 in
theorem lw_feed {L : Nat} {xs : Nat → Int32} {V : aV} {h : aH} {g : aG} (hC : CV h V) (hM : MV h V) (hV : VOk V) {i : Nat} (hi : i + 6 ≤ L) (hL : L ≤ 3072) {P : aCfg → Prop} (k : ∀ V' h' g', CV h' V' → MV h' V' → VOk V' → SegP (mL_law L xs) 12 (1647, [some (.ref 400), some (.ref 0), some (.ref 63), some (.int (nI i))], [], nW, h', g', ρ) P) : SegP (mL_law L xs) 12 (236, [some (.ref 400), some (.ref 0), some (.ref 63), some (.int (nI i))], [], nW, h, g, ρ) P := by
  refine SegP.run [] 400 ?_
  refine And.intro (ixS (w := 1) hi hL (by decide) rfl) ?_
  refine And.intro (ixS (w := 2) hi hL (by decide) rfl) ?_
  refine SegP.cV (zC_feed hV (xs (nI i + 1).toNatClampNeg) (xs (nI i + 2).toNatClampNeg) h g hC) mlL_13 iyX5_feed seX5_feed oyX5_feed rfl (by decide) rfl (by decide) (by decide) rfl rfl rfl rfl (Nat.le_of_ble_eq_true rfl) ?_
  rintro _ h1 g1 ⟨rfl, c1, f1⟩
  refine SegP.run [] 400 ?_
  refine And.intro (ixS (w := 1) hi hL (by decide) rfl) ?_
  refine And.intro (ixS (w := 2) hi hL (by decide) rfl) ?_
  refine SegP.cV (zM_feed hV (xs (nI i + 1).toNatClampNeg) (xs (nI i + 2).toNatClampNeg) h1 g1 (hM.out f1)) mlL_17 iyX6_feed seX6_feed oyX6_feed rfl (by decide) rfl (by decide) (by decide) rfl rfl rfl rfl (Nat.le_of_ble_eq_true rfl) ?_
  rintro _ h2 g2 ⟨rfl, m2, f2⟩
  refine SegP.run [1647] 400 ?_
  exact And.intro (fun _ => k _ h2 g2 (c1.out f2) m2 (oV_feed hV (xs (nI i + 1).toNatClampNeg) (xs (nI i + 2).toNatClampNeg))) (fun z => absurd rfl z)
set_option maxRecDepth 100000 in
set_option maxHeartbeats 400000 in
theorem lw_wipe {L : Nat} {xs : Nat → Int32} {V : aV} {h : aH} {g : aG} (hC : CV h V) (hM : MV h V) (hV : VOk V) {i : Nat} (hi : i + 6 ≤ L) (hL : L ≤ 3072) {P : aCfg → Prop} (k : ∀ V' h' g', CV h' V' → MV h' V' → VOk V' → SegP (mL_law L xs) 12 (1647, [some (.ref 400), some (.ref 0), some (.ref 63), some (.int (nI i))], [], nW, h', g', ρ) P) : SegP (mL_law L xs) 12 (269, [some (.ref 400), some (.ref 0), some (.ref 63), some (.int (nI i))], [], nW, h, g, ρ) P := by
  refine SegP.run [] 400 ?_
  refine SegP.cV (zC_wipe hV  h g hC) mlL_18 iyX5_wipe seX5_wipe oyX5_wipe rfl (by decide) rfl (by decide) (by decide) rfl rfl rfl rfl (Nat.le_of_ble_eq_true rfl) ?_
  rintro _ h1 g1 ⟨rfl, c1, f1⟩
  refine SegP.run [] 400 ?_
  refine SegP.cV (zM_wipe hV  h1 g1 (hM.out f1)) mlL_22 iyX6_wipe seX6_wipe oyX6_wipe rfl (by decide) rfl (by decide) (by decide) rfl rfl rfl rfl (Nat.le_of_ble_eq_true rfl) ?_
  rintro _ h2 g2 ⟨rfl, m2, f2⟩
  refine SegP.run [1647] 400 ?_
  exact And.intro (fun _ => k _ h2 g2 (c1.out f2) m2 (oV_wipe hV )) (fun z => absurd rfl z)
set_option maxRecDepth 100000 in
set_option maxHeartbeats 400000 in
theorem lw_town {L : Nat} {xs : Nat → Int32} {V : aV} {h : aH} {g : aG} (hC : CV h V) (hM : MV h V) (hV : VOk V) {i : Nat} (hi : i + 6 ≤ L) (hL : L ≤ 3072) {P : aCfg → Prop} (k : ∀ V' h' g', CV h' V' → MV h' V' → VOk V' → SegP (mL_law L xs) 12 (1647, [some (.ref 400), some (.ref 0), some (.ref 63), some (.int (nI i))], [], nW, h', g', ρ) P) : SegP (mL_law L xs) 12 (282, [some (.ref 400), some (.ref 0), some (.ref 63), some (.int (nI i))], [], nW, h, g, ρ) P := by
  refine SegP.run [] 400 ?_
  refine SegP.cV (zC_town hV  h g hC) mlL_23 iyX5_town seX5_town oyX5_town rfl (by decide) rfl (by decide) (by decide) rfl rfl rfl rfl (Nat.le_of_ble_eq_true rfl) ?_
  rintro _ h1 g1 ⟨rfl, c1, f1⟩
  refine SegP.run [] 400 ?_
  refine SegP.cV (zM_town hV  h1 g1 (hM.out f1)) mlL_26 iyX6_town seX6_town oyX6_town rfl (by decide) rfl (by decide) (by decide) rfl rfl rfl rfl (Nat.le_of_ble_eq_true rfl) ?_
  rintro _ h2 g2 ⟨rfl, m2, f2⟩
  refine SegP.run [1647] 400 ?_
  exact And.intro (fun _ => k _ h2 g2 (c1.out f2) m2 (oV_town hV )) (fun z => absurd rfl z)
set_option maxRecDepth 100000 in
set_option maxHeartbeats 400000 in
theorem lw_coin {L : Nat} {xs : Nat → Int32} {V : aV} {h : aH} {g : aG} (hC : CV h V) (hM : MV h V) (hV : VOk V) {i : Nat} (hi : i + 6 ≤ L) (hL : L ≤ 3072) {P : aCfg → Prop} (k : ∀ V' h' g', CV h' V' → MV h' V' → VOk V' → SegP (mL_law L xs) 12 (1647, [some (.ref 400), some (.ref 0), some (.ref 63), some (.int (nI i))], [], nW, h', g', ρ) P) : SegP (mL_law L xs) 12 (295, [some (.ref 400), some (.ref 0), some (.ref 63), some (.int (nI i))], [], nW, h, g, ρ) P := by
  refine SegP.run [] 400 ?_
  refine And.intro (ixS (w := 1) hi hL (by decide) rfl) ?_
  refine And.intro (ixS (w := 2) hi hL (by decide) rfl) ?_
  refine And.intro (ixS (w := 3) hi hL (by decide) rfl) ?_
  refine SegP.cV (zC_coin hV (xs (nI i + 1).toNatClampNeg) (xs (nI i + 2).toNatClampNeg) (xs (nI i + 3).toNatClampNeg) h g hC) mlL_27 iyX5_coin seX5_coin oyX5_coin rfl (by decide) rfl (by decide) (by decide) rfl rfl rfl rfl (Nat.le_of_ble_eq_true rfl) ?_
  rintro _ h1 g1 ⟨rfl, c1, f1⟩
  refine SegP.run [] 400 ?_
  refine And.intro (ixS (w := 1) hi hL (by decide) rfl) ?_
  refine And.intro (ixS (w := 2) hi hL (by decide) rfl) ?_
  refine And.intro (ixS (w := 3) hi hL (by decide) rfl) ?_
  refine SegP.cV (zM_coin hV (xs (nI i + 1).toNatClampNeg) (xs (nI i + 2).toNatClampNeg) (xs (nI i + 3).toNatClampNeg) h1 g1 (hM.out f1)) mlL_31 iyX6_coin seX6_coin oyX6_coin rfl (by decide) rfl (by decide) (by decide) rfl rfl rfl rfl (Nat.le_of_ble_eq_true rfl) ?_
  rintro _ h2 g2 ⟨rfl, m2, f2⟩
  refine SegP.run [1647] 400 ?_
  exact And.intro (fun _ => k _ h2 g2 (c1.out f2) m2 (oV_coin hV (xs (nI i + 1).toNatClampNeg) (xs (nI i + 2).toNatClampNeg) (xs (nI i + 3).toNatClampNeg))) (fun z => absurd rfl z)
set_option maxRecDepth 100000 in
set_option maxHeartbeats 400000 in
theorem lw_promise {L : Nat} {xs : Nat → Int32} {V : aV} {h : aH} {g : aG} (hC : CV h V) (hM : MV h V) (hV : VOk V) {i : Nat} (hi : i + 6 ≤ L) (hL : L ≤ 3072) {P : aCfg → Prop} (k : ∀ V' h' g', CV h' V' → MV h' V' → VOk V' → SegP (mL_law L xs) 12 (1647, [some (.ref 400), some (.ref 0), some (.ref 63), some (.int (nI i))], [], nW, h', g', ρ) P) : SegP (mL_law L xs) 12 (338, [some (.ref 400), some (.ref 0), some (.ref 63), some (.int (nI i))], [], nW, h, g, ρ) P := by
  refine SegP.run [] 400 ?_
  refine And.intro (ixS (w := 1) hi hL (by decide) rfl) ?_
  refine And.intro (ixS (w := 2) hi hL (by decide) rfl) ?_
  refine And.intro (ixS (w := 3) hi hL (by decide) rfl) ?_
  refine And.intro (ixS (w := 4) hi hL (by decide) rfl) ?_
  refine SegP.cV (zC_promise hV (xs (nI i + 1).toNatClampNeg) (xs (nI i + 2).toNatClampNeg) (xs (nI i + 3).toNatClampNeg) (xs (nI i + 4).toNatClampNeg) h g hC) mlL_32 iyX5_promise seX5_promise oyX5_promise rfl (by decide) rfl (by decide) (by decide) rfl rfl rfl rfl (Nat.le_of_ble_eq_true rfl) ?_
  rintro _ h1 g1 ⟨rfl, c1, f1⟩
  refine SegP.run [] 400 ?_
  refine And.intro (ixS (w := 1) hi hL (by decide) rfl) ?_
  refine And.intro (ixS (w := 2) hi hL (by decide) rfl) ?_
  refine And.intro (ixS (w := 3) hi hL (by decide) rfl) ?_
  refine And.intro (ixS (w := 4) hi hL (by decide) rfl) ?_
  refine SegP.cV (zM_promise hV (xs (nI i + 1).toNatClampNeg) (xs (nI i + 2).toNatClampNeg) (xs (nI i + 3).toNatClampNeg) (xs (nI i + 4).toNatClampNeg) h1 g1 (hM.out f1)) mlL_36 iyX6_promise seX6_promise oyX6_promise rfl (by decide) rfl (by decide) (by decide) rfl rfl rfl rfl (Nat.le_of_ble_eq_true rfl) ?_
  rintro _ h2 g2 ⟨rfl, m2, f2⟩
  refine SegP.run [1647] 400 ?_
  exact And.intro (fun _ => k _ h2 g2 (c1.out f2) m2 (oV_promise hV (xs (nI i + 1).toNatClampNeg) (xs (nI i + 2).toNatClampNeg) (xs (nI i + 3).toNatClampNeg) (xs (nI i + 4).toNatClampNeg))) (fun z => absurd rfl z)
set_option maxRecDepth 100000 in
set_option maxHeartbeats 400000 in
theorem lw_promiseOf {L : Nat} {xs : Nat → Int32} {V : aV} {h : aH} {g : aG} (hC : CV h V) (hM : MV h V) (hV : VOk V) {i : Nat} (hi : i + 6 ≤ L) (hL : L ≤ 3072) {P : aCfg → Prop} (k : ∀ V' h' g', CV h' V' → MV h' V' → VOk V' → SegP (mL_law L xs) 12 (1647, [some (.ref 400), some (.ref 0), some (.ref 63), some (.int (nI i))], [], nW, h', g', ρ) P) : SegP (mL_law L xs) 12 (391, [some (.ref 400), some (.ref 0), some (.ref 63), some (.int (nI i))], [], nW, h, g, ρ) P := by
  refine SegP.run [] 400 ?_
  refine And.intro (ixS (w := 1) hi hL (by decide) rfl) ?_
  refine And.intro (ixS (w := 2) hi hL (by decide) rfl) ?_
  refine SegP.cV (zC_promiseOf hV (xs (nI i + 1).toNatClampNeg) (xs (nI i + 2).toNatClampNeg) h g hC) mlL_37 iyX5_promiseOf seX5_promiseOf oyX5_promiseOf rfl (by decide) rfl (by decide) (by decide) rfl rfl rfl rfl (Nat.le_of_ble_eq_true rfl) ?_
  rintro _ h1 g1 ⟨rfl, c1, f1⟩
  refine SegP.run [] 400 ?_
  refine And.intro (ixS (w := 1) hi hL (by decide) rfl) ?_
  refine And.intro (ixS (w := 2) hi hL (by decide) rfl) ?_
  refine SegP.cV (zM_promiseOf hV (xs (nI i + 1).toNatClampNeg) (xs (nI i + 2).toNatClampNeg) h1 g1 (hM.out f1)) mlL_40 iyX6_promiseOf seX6_promiseOf oyX6_promiseOf rfl (by decide) rfl (by decide) (by decide) rfl rfl rfl rfl (Nat.le_of_ble_eq_true rfl) ?_
  rintro _ h2 g2 ⟨rfl, m2, f2⟩
  refine SegP.run [1647] 400 ?_
  exact And.intro (fun _ => k _ h2 g2 (c1.out f2) m2 (oV_promiseOf hV (xs (nI i + 1).toNatClampNeg) (xs (nI i + 2).toNatClampNeg))) (fun z => absurd rfl z)
set_option maxRecDepth 100000 in
set_option maxHeartbeats 400000 in
theorem lw_change {L : Nat} {xs : Nat → Int32} {V : aV} {h : aH} {g : aG} (hC : CV h V) (hM : MV h V) (hV : VOk V) {i : Nat} (hi : i + 6 ≤ L) (hL : L ≤ 3072) {P : aCfg → Prop} (k : ∀ V' h' g', CV h' V' → MV h' V' → VOk V' → SegP (mL_law L xs) 12 (1647, [some (.ref 400), some (.ref 0), some (.ref 63), some (.int (nI i))], [], nW, h', g', ρ) P) : SegP (mL_law L xs) 12 (424, [some (.ref 400), some (.ref 0), some (.ref 63), some (.int (nI i))], [], nW, h, g, ρ) P := by
  refine SegP.run [] 400 ?_
  refine And.intro (ixS (w := 1) hi hL (by decide) rfl) ?_
  refine And.intro (ixS (w := 2) hi hL (by decide) rfl) ?_
  refine And.intro (ixS (w := 3) hi hL (by decide) rfl) ?_
  refine SegP.cV (zC_change hV (xs (nI i + 1).toNatClampNeg) (xs (nI i + 2).toNatClampNeg) (xs (nI i + 3).toNatClampNeg) h g hC) mlL_41 iyX5_change seX5_change oyX5_change rfl (by decide) rfl (by decide) (by decide) rfl rfl rfl rfl (Nat.le_of_ble_eq_true rfl) ?_
  rintro _ h1 g1 ⟨rfl, c1, f1⟩
  refine SegP.run [] 400 ?_
  refine And.intro (ixS (w := 1) hi hL (by decide) rfl) ?_
  refine And.intro (ixS (w := 2) hi hL (by decide) rfl) ?_
  refine And.intro (ixS (w := 3) hi hL (by decide) rfl) ?_
  refine SegP.cV (zM_change hV (xs (nI i + 1).toNatClampNeg) (xs (nI i + 2).toNatClampNeg) (xs (nI i + 3).toNatClampNeg) h1 g1 (hM.out f1)) mlL_44 iyX6_change seX6_change oyX6_change rfl (by decide) rfl (by decide) (by decide) rfl rfl rfl rfl (Nat.le_of_ble_eq_true rfl) ?_
  rintro _ h2 g2 ⟨rfl, m2, f2⟩
  refine SegP.run [1647] 400 ?_
  exact And.intro (fun _ => k _ h2 g2 (c1.out f2) m2 (oV_change hV (xs (nI i + 1).toNatClampNeg) (xs (nI i + 2).toNatClampNeg) (xs (nI i + 3).toNatClampNeg))) (fun z => absurd rfl z)
set_option maxRecDepth 100000 in
set_option maxHeartbeats 400000 in
theorem lw_drop {L : Nat} {xs : Nat → Int32} {V : aV} {h : aH} {g : aG} (hC : CV h V) (hM : MV h V) (hV : VOk V) {i : Nat} (hi : i + 6 ≤ L) (hL : L ≤ 3072) {P : aCfg → Prop} (k : ∀ V' h' g', CV h' V' → MV h' V' → VOk V' → SegP (mL_law L xs) 12 (1647, [some (.ref 400), some (.ref 0), some (.ref 63), some (.int (nI i))], [], nW, h', g', ρ) P) : SegP (mL_law L xs) 12 (467, [some (.ref 400), some (.ref 0), some (.ref 63), some (.int (nI i))], [], nW, h, g, ρ) P := by
  refine SegP.run [] 400 ?_
  refine SegP.cV (zC_drop hV  h g hC) mlL_45 iyX5_drop seX5_drop oyX5_drop rfl (by decide) rfl (by decide) (by decide) rfl rfl rfl rfl (Nat.le_of_ble_eq_true rfl) ?_
  rintro _ h1 g1 ⟨rfl, c1, f1⟩
  refine SegP.run [] 400 ?_
  refine SegP.cV (zM_drop hV  h1 g1 (hM.out f1)) mlL_48 iyX6_drop seX6_drop oyX6_drop rfl (by decide) rfl (by decide) (by decide) rfl rfl rfl rfl (Nat.le_of_ble_eq_true rfl) ?_
  rintro _ h2 g2 ⟨rfl, m2, f2⟩
  refine SegP.run [1647] 400 ?_
  exact And.intro (fun _ => k _ h2 g2 (c1.out f2) m2 (oV_drop hV )) (fun z => absurd rfl z)
set_option maxRecDepth 100000 in
set_option maxHeartbeats 400000 in
theorem lw_need {L : Nat} {xs : Nat → Int32} {V : aV} {h : aH} {g : aG} (hC : CV h V) (hM : MV h V) (hV : VOk V) {i : Nat} (hi : i + 6 ≤ L) (hL : L ≤ 3072) {P : aCfg → Prop} (k : ∀ V' h' g', CV h' V' → MV h' V' → VOk V' → SegP (mL_law L xs) 12 (1647, [some (.ref 400), some (.ref 0), some (.ref 63), some (.int (nI i))], [], nW, h', g', ρ) P) : SegP (mL_law L xs) 12 (480, [some (.ref 400), some (.ref 0), some (.ref 63), some (.int (nI i))], [], nW, h, g, ρ) P := by
  refine SegP.run [] 400 ?_
  refine And.intro (ixS (w := 1) hi hL (by decide) rfl) ?_
  refine And.intro (ixS (w := 2) hi hL (by decide) rfl) ?_
  refine And.intro (ixS (w := 3) hi hL (by decide) rfl) ?_
  refine SegP.cV (zC_need hV (xs (nI i + 1).toNatClampNeg) (xs (nI i + 2).toNatClampNeg) (xs (nI i + 3).toNatClampNeg) h g hC) mlL_49 iyX5_need seX5_need oyX5_need rfl (by decide) rfl (by decide) (by decide) rfl rfl rfl rfl (Nat.le_of_ble_eq_true rfl) ?_
  rintro _ h1 g1 ⟨rfl, c1, f1⟩
  refine SegP.run [] 400 ?_
  refine And.intro (ixS (w := 1) hi hL (by decide) rfl) ?_
  refine And.intro (ixS (w := 2) hi hL (by decide) rfl) ?_
  refine And.intro (ixS (w := 3) hi hL (by decide) rfl) ?_
  refine SegP.cV (zM_need hV (xs (nI i + 1).toNatClampNeg) (xs (nI i + 2).toNatClampNeg) (xs (nI i + 3).toNatClampNeg) h1 g1 (hM.out f1)) mlL_52 iyX6_need seX6_need oyX6_need rfl (by decide) rfl (by decide) (by decide) rfl rfl rfl rfl (Nat.le_of_ble_eq_true rfl) ?_
  rintro _ h2 g2 ⟨rfl, m2, f2⟩
  refine SegP.run [1647] 400 ?_
  exact And.intro (fun _ => k _ h2 g2 (c1.out f2) m2 (oV_need hV (xs (nI i + 1).toNatClampNeg) (xs (nI i + 2).toNatClampNeg) (xs (nI i + 3).toNatClampNeg))) (fun z => absurd rfl z)
set_option maxRecDepth 100000 in
set_option maxHeartbeats 400000 in
theorem lw_needOf {L : Nat} {xs : Nat → Int32} {V : aV} {h : aH} {g : aG} (hC : CV h V) (hM : MV h V) (hV : VOk V) {i : Nat} (hi : i + 6 ≤ L) (hL : L ≤ 3072) {P : aCfg → Prop} (k : ∀ V' h' g', CV h' V' → MV h' V' → VOk V' → SegP (mL_law L xs) 12 (1647, [some (.ref 400), some (.ref 0), some (.ref 63), some (.int (nI i))], [], nW, h', g', ρ) P) : SegP (mL_law L xs) 12 (523, [some (.ref 400), some (.ref 0), some (.ref 63), some (.int (nI i))], [], nW, h, g, ρ) P := by
  refine SegP.run [] 400 ?_
  refine And.intro (ixS (w := 1) hi hL (by decide) rfl) ?_
  refine And.intro (ixS (w := 2) hi hL (by decide) rfl) ?_
  refine SegP.cV (zC_needOf hV (xs (nI i + 1).toNatClampNeg) (xs (nI i + 2).toNatClampNeg) h g hC) mlL_53 iyX5_needOf seX5_needOf oyX5_needOf rfl (by decide) rfl (by decide) (by decide) rfl rfl rfl rfl (Nat.le_of_ble_eq_true rfl) ?_
  rintro _ h1 g1 ⟨rfl, c1, f1⟩
  refine SegP.run [] 400 ?_
  refine And.intro (ixS (w := 1) hi hL (by decide) rfl) ?_
  refine And.intro (ixS (w := 2) hi hL (by decide) rfl) ?_
  refine SegP.cV (zM_needOf hV (xs (nI i + 1).toNatClampNeg) (xs (nI i + 2).toNatClampNeg) h1 g1 (hM.out f1)) mlL_56 iyX6_needOf seX6_needOf oyX6_needOf rfl (by decide) rfl (by decide) (by decide) rfl rfl rfl rfl (Nat.le_of_ble_eq_true rfl) ?_
  rintro _ h2 g2 ⟨rfl, m2, f2⟩
  refine SegP.run [1647] 400 ?_
  exact And.intro (fun _ => k _ h2 g2 (c1.out f2) m2 (oV_needOf hV (xs (nI i + 1).toNatClampNeg) (xs (nI i + 2).toNatClampNeg))) (fun z => absurd rfl z)
set_option maxRecDepth 100000 in
set_option maxHeartbeats 400000 in
theorem lw_cast {L : Nat} {xs : Nat → Int32} {V : aV} {h : aH} {g : aG} (hC : CV h V) (hM : MV h V) (hV : VOk V) {i : Nat} (hi : i + 6 ≤ L) (hL : L ≤ 3072) {P : aCfg → Prop} (k : ∀ V' h' g', CV h' V' → MV h' V' → VOk V' → SegP (mL_law L xs) 12 (1647, [some (.ref 400), some (.ref 0), some (.ref 63), some (.int (nI i))], [], nW, h', g', ρ) P) : SegP (mL_law L xs) 12 (556, [some (.ref 400), some (.ref 0), some (.ref 63), some (.int (nI i))], [], nW, h, g, ρ) P := by
  refine SegP.run [] 400 ?_
  refine SegP.cV (zC_cast hV  h g hC) mlL_57 iyX5_cast seX5_cast oyX5_cast rfl (by decide) rfl (by decide) (by decide) rfl rfl rfl rfl (Nat.le_of_ble_eq_true rfl) ?_
  rintro _ h1 g1 ⟨rfl, c1, f1⟩
  refine SegP.run [] 400 ?_
  refine SegP.cV (zM_cast hV  h1 g1 (hM.out f1)) mlL_60 iyX6_cast seX6_cast oyX6_cast rfl (by decide) rfl (by decide) (by decide) rfl rfl rfl rfl (Nat.le_of_ble_eq_true rfl) ?_
  rintro _ h2 g2 ⟨rfl, m2, f2⟩
  refine SegP.run [1647] 400 ?_
  exact And.intro (fun _ => k _ h2 g2 (c1.out f2) m2 (oV_cast hV )) (fun z => absurd rfl z)
set_option maxRecDepth 100000 in
set_option maxHeartbeats 400000 in
theorem lw_lay {L : Nat} {xs : Nat → Int32} {V : aV} {h : aH} {g : aG} (hC : CV h V) (hM : MV h V) (hV : VOk V) {i : Nat} (hi : i + 6 ≤ L) (hL : L ≤ 3072) {P : aCfg → Prop} (k : ∀ V' h' g', CV h' V' → MV h' V' → VOk V' → SegP (mL_law L xs) 12 (1647, [some (.ref 400), some (.ref 0), some (.ref 63), some (.int (nI i))], [], nW, h', g', ρ) P) : SegP (mL_law L xs) 12 (569, [some (.ref 400), some (.ref 0), some (.ref 63), some (.int (nI i))], [], nW, h, g, ρ) P := by
  refine SegP.run [] 400 ?_
  refine And.intro (ixS (w := 1) hi hL (by decide) rfl) ?_
  refine SegP.cV (zC_lay hV (xs (nI i + 1).toNatClampNeg) h g hC) mlL_61 iyX5_lay seX5_lay oyX5_lay rfl (by decide) rfl (by decide) (by decide) rfl rfl rfl rfl (Nat.le_of_ble_eq_true rfl) ?_
  rintro _ h1 g1 ⟨rfl, c1, f1⟩
  refine SegP.run [] 400 ?_
  refine And.intro (ixS (w := 1) hi hL (by decide) rfl) ?_
  refine SegP.cV (zM_lay hV (xs (nI i + 1).toNatClampNeg) h1 g1 (hM.out f1)) mlL_65 iyX6_lay seX6_lay oyX6_lay rfl (by decide) rfl (by decide) (by decide) rfl rfl rfl rfl (Nat.le_of_ble_eq_true rfl) ?_
  rintro _ h2 g2 ⟨rfl, m2, f2⟩
  refine SegP.run [1647] 400 ?_
  exact And.intro (fun _ => k _ h2 g2 (c1.out f2) m2 (oV_lay hV (xs (nI i + 1).toNatClampNeg))) (fun z => absurd rfl z)
set_option maxRecDepth 100000 in
set_option maxHeartbeats 400000 in
theorem lw_kept {L : Nat} {xs : Nat → Int32} {V : aV} {h : aH} {g : aG} (hC : CV h V) (hM : MV h V) (hV : VOk V) {i : Nat} (hi : i + 6 ≤ L) (hL : L ≤ 3072) {P : aCfg → Prop} (k : ∀ V' h' g', CV h' V' → MV h' V' → VOk V' → SegP (mL_law L xs) 12 (1647, [some (.ref 400), some (.ref 0), some (.ref 63), some (.int (nI i))], [], nW, h', g', ρ) P) : SegP (mL_law L xs) 12 (592, [some (.ref 400), some (.ref 0), some (.ref 63), some (.int (nI i))], [], nW, h, g, ρ) P := by
  refine SegP.run [] 400 ?_
  refine SegP.cV (zC_kept hV  h g hC) mlL_66 iyX5_kept seX5_kept oyX5_kept rfl (by decide) rfl (by decide) (by decide) rfl rfl rfl rfl (Nat.le_of_ble_eq_true rfl) ?_
  rintro _ h1 g1 ⟨rfl, c1, f1⟩
  refine SegP.run [] 400 ?_
  refine SegP.cV (zM_kept hV  h1 g1 (hM.out f1)) mlL_69 iyX6_kept seX6_kept oyX6_kept rfl (by decide) rfl (by decide) (by decide) rfl rfl rfl rfl (Nat.le_of_ble_eq_true rfl) ?_
  rintro _ h2 g2 ⟨rfl, m2, f2⟩
  refine SegP.run [1647] 400 ?_
  exact And.intro (fun _ => k _ h2 g2 (c1.out f2) m2 (oV_kept hV )) (fun z => absurd rfl z)
set_option maxRecDepth 100000 in
set_option maxHeartbeats 400000 in
theorem lw_owes {L : Nat} {xs : Nat → Int32} {V : aV} {h : aH} {g : aG} (hC : CV h V) (hM : MV h V) (hV : VOk V) {i : Nat} (hi : i + 6 ≤ L) (hL : L ≤ 3072) {P : aCfg → Prop} (k : ∀ V' h' g', CV h' V' → MV h' V' → VOk V' → SegP (mL_law L xs) 12 (1647, [some (.ref 400), some (.ref 0), some (.ref 63), some (.int (nI i))], [], nW, h', g', ρ) P) : SegP (mL_law L xs) 12 (605, [some (.ref 400), some (.ref 0), some (.ref 63), some (.int (nI i))], [], nW, h, g, ρ) P := by
  refine SegP.run [] 400 ?_
  refine And.intro (ixS (w := 1) hi hL (by decide) rfl) ?_
  refine SegP.cV (zC_owes hV (xs (nI i + 1).toNatClampNeg) h g hC) mlL_70 iyX5_owes seX5_owes oyX5_owes rfl (by decide) rfl (by decide) (by decide) rfl rfl rfl rfl (Nat.le_of_ble_eq_true rfl) ?_
  rintro _ h1 g1 ⟨rfl, c1, f1⟩
  refine SegP.run [] 400 ?_
  refine And.intro (ixS (w := 1) hi hL (by decide) rfl) ?_
  refine SegP.cV (zM_owes hV (xs (nI i + 1).toNatClampNeg) h1 g1 (hM.out f1)) mlL_73 iyX6_owes seX6_owes oyX6_owes rfl (by decide) rfl (by decide) (by decide) rfl rfl rfl rfl (Nat.le_of_ble_eq_true rfl) ?_
  rintro _ h2 g2 ⟨rfl, m2, f2⟩
  refine SegP.run [1647] 400 ?_
  exact And.intro (fun _ => k _ h2 g2 (c1.out f2) m2 (oV_owes hV (xs (nI i + 1).toNatClampNeg))) (fun z => absurd rfl z)
set_option maxRecDepth 100000 in
set_option maxHeartbeats 400000 in
theorem lw_brings {L : Nat} {xs : Nat → Int32} {V : aV} {h : aH} {g : aG} (hC : CV h V) (hM : MV h V) (hV : VOk V) {i : Nat} (hi : i + 6 ≤ L) (hL : L ≤ 3072) {P : aCfg → Prop} (k : ∀ V' h' g', CV h' V' → MV h' V' → VOk V' → SegP (mL_law L xs) 12 (1647, [some (.ref 400), some (.ref 0), some (.ref 63), some (.int (nI i))], [], nW, h', g', ρ) P) : SegP (mL_law L xs) 12 (628, [some (.ref 400), some (.ref 0), some (.ref 63), some (.int (nI i))], [], nW, h, g, ρ) P := by
  refine SegP.run [] 400 ?_
  refine And.intro (ixS (w := 1) hi hL (by decide) rfl) ?_
  refine And.intro (ixS (w := 2) hi hL (by decide) rfl) ?_
  refine SegP.cV (zC_brings hV (xs (nI i + 1).toNatClampNeg) (xs (nI i + 2).toNatClampNeg) h g hC) mlL_74 iyX5_brings seX5_brings oyX5_brings rfl (by decide) rfl (by decide) (by decide) rfl rfl rfl rfl (Nat.le_of_ble_eq_true rfl) ?_
  rintro _ h1 g1 ⟨rfl, c1, f1⟩
  refine SegP.run [] 400 ?_
  refine And.intro (ixS (w := 1) hi hL (by decide) rfl) ?_
  refine And.intro (ixS (w := 2) hi hL (by decide) rfl) ?_
  refine SegP.cV (zM_brings hV (xs (nI i + 1).toNatClampNeg) (xs (nI i + 2).toNatClampNeg) h1 g1 (hM.out f1)) mlL_77 iyX6_brings seX6_brings oyX6_brings rfl (by decide) rfl (by decide) (by decide) rfl rfl rfl rfl (Nat.le_of_ble_eq_true rfl) ?_
  rintro _ h2 g2 ⟨rfl, m2, f2⟩
  refine SegP.run [1647] 400 ?_
  exact And.intro (fun _ => k _ h2 g2 (c1.out f2) m2 (oV_brings hV (xs (nI i + 1).toNatClampNeg) (xs (nI i + 2).toNatClampNeg))) (fun z => absurd rfl z)
set_option maxRecDepth 100000 in
set_option maxHeartbeats 400000 in
theorem lw_met {L : Nat} {xs : Nat → Int32} {V : aV} {h : aH} {g : aG} (hC : CV h V) (hM : MV h V) (hV : VOk V) {i : Nat} (hi : i + 6 ≤ L) (hL : L ≤ 3072) {P : aCfg → Prop} (k : ∀ V' h' g', CV h' V' → MV h' V' → VOk V' → SegP (mL_law L xs) 12 (1647, [some (.ref 400), some (.ref 0), some (.ref 63), some (.int (nI i))], [], nW, h', g', ρ) P) : SegP (mL_law L xs) 12 (661, [some (.ref 400), some (.ref 0), some (.ref 63), some (.int (nI i))], [], nW, h, g, ρ) P := by
  refine SegP.run [] 400 ?_
  refine And.intro (ixS (w := 1) hi hL (by decide) rfl) ?_
  refine SegP.cV (zC_met hV (xs (nI i + 1).toNatClampNeg) h g hC) mlL_78 iyX5_met seX5_met oyX5_met rfl (by decide) rfl (by decide) (by decide) rfl rfl rfl rfl (Nat.le_of_ble_eq_true rfl) ?_
  rintro _ h1 g1 ⟨rfl, c1, f1⟩
  refine SegP.run [] 400 ?_
  refine And.intro (ixS (w := 1) hi hL (by decide) rfl) ?_
  refine SegP.cV (zM_met hV (xs (nI i + 1).toNatClampNeg) h1 g1 (hM.out f1)) mlL_81 iyX6_met seX6_met oyX6_met rfl (by decide) rfl (by decide) (by decide) rfl rfl rfl rfl (Nat.le_of_ble_eq_true rfl) ?_
  rintro _ h2 g2 ⟨rfl, m2, f2⟩
  refine SegP.run [1647] 400 ?_
  exact And.intro (fun _ => k _ h2 g2 (c1.out f2) m2 (oV_met hV (xs (nI i + 1).toNatClampNeg))) (fun z => absurd rfl z)
set_option maxRecDepth 100000 in
set_option maxHeartbeats 400000 in
theorem lw_weight {L : Nat} {xs : Nat → Int32} {V : aV} {h : aH} {g : aG} (hC : CV h V) (hM : MV h V) (hV : VOk V) {i : Nat} (hi : i + 6 ≤ L) (hL : L ≤ 3072) {P : aCfg → Prop} (k : ∀ V' h' g', CV h' V' → MV h' V' → VOk V' → SegP (mL_law L xs) 12 (1647, [some (.ref 400), some (.ref 0), some (.ref 63), some (.int (nI i))], [], nW, h', g', ρ) P) : SegP (mL_law L xs) 12 (684, [some (.ref 400), some (.ref 0), some (.ref 63), some (.int (nI i))], [], nW, h, g, ρ) P := by
  refine SegP.run [] 400 ?_
  refine And.intro (ixS (w := 1) hi hL (by decide) rfl) ?_
  refine SegP.cV (zC_weight hV (xs (nI i + 1).toNatClampNeg) h g hC) mlL_82 iyX5_weight seX5_weight oyX5_weight rfl (by decide) rfl (by decide) (by decide) rfl rfl rfl rfl (Nat.le_of_ble_eq_true rfl) ?_
  rintro _ h1 g1 ⟨rfl, c1, f1⟩
  refine SegP.run [] 400 ?_
  refine And.intro (ixS (w := 1) hi hL (by decide) rfl) ?_
  refine SegP.cV (zM_weight hV (xs (nI i + 1).toNatClampNeg) h1 g1 (hM.out f1)) mlL_85 iyX6_weight seX6_weight oyX6_weight rfl (by decide) rfl (by decide) (by decide) rfl rfl rfl rfl (Nat.le_of_ble_eq_true rfl) ?_
  rintro _ h2 g2 ⟨rfl, m2, f2⟩
  refine SegP.run [1647] 400 ?_
  exact And.intro (fun _ => k _ h2 g2 (c1.out f2) m2 (oV_weight hV (xs (nI i + 1).toNatClampNeg))) (fun z => absurd rfl z)
set_option maxRecDepth 100000 in
set_option maxHeartbeats 400000 in
theorem lw_chance {L : Nat} {xs : Nat → Int32} {V : aV} {h : aH} {g : aG} (hC : CV h V) (hM : MV h V) (hV : VOk V) {i : Nat} (hi : i + 6 ≤ L) (hL : L ≤ 3072) {P : aCfg → Prop} (k : ∀ V' h' g', CV h' V' → MV h' V' → VOk V' → SegP (mL_law L xs) 12 (1647, [some (.ref 400), some (.ref 0), some (.ref 63), some (.int (nI i))], [], nW, h', g', ρ) P) : SegP (mL_law L xs) 12 (707, [some (.ref 400), some (.ref 0), some (.ref 63), some (.int (nI i))], [], nW, h, g, ρ) P := by
  refine SegP.run [] 400 ?_
  refine And.intro (ixS (w := 1) hi hL (by decide) rfl) ?_
  refine And.intro (ixS (w := 2) hi hL (by decide) rfl) ?_
  refine SegP.cV (zC_chance hV (xs (nI i + 1).toNatClampNeg) (xs (nI i + 2).toNatClampNeg) h g hC) mlL_86 iyX5_chance seX5_chance oyX5_chance rfl (by decide) rfl (by decide) (by decide) rfl rfl rfl rfl (Nat.le_of_ble_eq_true rfl) ?_
  rintro _ h1 g1 ⟨rfl, c1, f1⟩
  refine SegP.run [] 400 ?_
  refine And.intro (ixS (w := 1) hi hL (by decide) rfl) ?_
  refine And.intro (ixS (w := 2) hi hL (by decide) rfl) ?_
  refine SegP.cV (zM_chance hV (xs (nI i + 1).toNatClampNeg) (xs (nI i + 2).toNatClampNeg) h1 g1 (hM.out f1)) mlL_89 iyX6_chance seX6_chance oyX6_chance rfl (by decide) rfl (by decide) (by decide) rfl rfl rfl rfl (Nat.le_of_ble_eq_true rfl) ?_
  rintro _ h2 g2 ⟨rfl, m2, f2⟩
  refine SegP.run [1647] 400 ?_
  exact And.intro (fun _ => k _ h2 g2 (c1.out f2) m2 (oV_chance hV (xs (nI i + 1).toNatClampNeg) (xs (nI i + 2).toNatClampNeg))) (fun z => absurd rfl z)
set_option maxRecDepth 100000 in
set_option maxHeartbeats 400000 in
theorem lw_joint {L : Nat} {xs : Nat → Int32} {V : aV} {h : aH} {g : aG} (hC : CV h V) (hM : MV h V) (hV : VOk V) {i : Nat} (hi : i + 6 ≤ L) (hL : L ≤ 3072) {P : aCfg → Prop} (k : ∀ V' h' g', CV h' V' → MV h' V' → VOk V' → SegP (mL_law L xs) 12 (1647, [some (.ref 400), some (.ref 0), some (.ref 63), some (.int (nI i))], [], nW, h', g', ρ) P) : SegP (mL_law L xs) 12 (740, [some (.ref 400), some (.ref 0), some (.ref 63), some (.int (nI i))], [], nW, h, g, ρ) P := by
  refine SegP.run [] 400 ?_
  refine And.intro (ixS (w := 1) hi hL (by decide) rfl) ?_
  refine And.intro (ixS (w := 2) hi hL (by decide) rfl) ?_
  refine And.intro (ixS (w := 3) hi hL (by decide) rfl) ?_
  refine And.intro (ixS (w := 4) hi hL (by decide) rfl) ?_
  refine SegP.cV (zC_joint hV (xs (nI i + 1).toNatClampNeg) (xs (nI i + 2).toNatClampNeg) (xs (nI i + 3).toNatClampNeg) (xs (nI i + 4).toNatClampNeg) h g hC) mlL_90 iyX5_joint seX5_joint oyX5_joint rfl (by decide) rfl (by decide) (by decide) rfl rfl rfl rfl (Nat.le_of_ble_eq_true rfl) ?_
  rintro _ h1 g1 ⟨rfl, c1, f1⟩
  refine SegP.run [] 400 ?_
  refine And.intro (ixS (w := 1) hi hL (by decide) rfl) ?_
  refine And.intro (ixS (w := 2) hi hL (by decide) rfl) ?_
  refine And.intro (ixS (w := 3) hi hL (by decide) rfl) ?_
  refine And.intro (ixS (w := 4) hi hL (by decide) rfl) ?_
  refine SegP.cV (zM_joint hV (xs (nI i + 1).toNatClampNeg) (xs (nI i + 2).toNatClampNeg) (xs (nI i + 3).toNatClampNeg) (xs (nI i + 4).toNatClampNeg) h1 g1 (hM.out f1)) mlL_93 iyX6_joint seX6_joint oyX6_joint rfl (by decide) rfl (by decide) (by decide) rfl rfl rfl rfl (Nat.le_of_ble_eq_true rfl) ?_
  rintro _ h2 g2 ⟨rfl, m2, f2⟩
  refine SegP.run [1647] 400 ?_
  exact And.intro (fun _ => k _ h2 g2 (c1.out f2) m2 (oV_joint hV (xs (nI i + 1).toNatClampNeg) (xs (nI i + 2).toNatClampNeg) (xs (nI i + 3).toNatClampNeg) (xs (nI i + 4).toNatClampNeg))) (fun z => absurd rfl z)
set_option maxRecDepth 100000 in
set_option maxHeartbeats 400000 in
theorem lw_sure {L : Nat} {xs : Nat → Int32} {V : aV} {h : aH} {g : aG} (hC : CV h V) (hM : MV h V) (hV : VOk V) {i : Nat} (hi : i + 6 ≤ L) (hL : L ≤ 3072) {P : aCfg → Prop} (k : ∀ V' h' g', CV h' V' → MV h' V' → VOk V' → SegP (mL_law L xs) 12 (1647, [some (.ref 400), some (.ref 0), some (.ref 63), some (.int (nI i))], [], nW, h', g', ρ) P) : SegP (mL_law L xs) 12 (793, [some (.ref 400), some (.ref 0), some (.ref 63), some (.int (nI i))], [], nW, h, g, ρ) P := by
  refine SegP.run [] 400 ?_
  refine And.intro (ixS (w := 1) hi hL (by decide) rfl) ?_
  refine And.intro (ixS (w := 2) hi hL (by decide) rfl) ?_
  refine And.intro (ixS (w := 3) hi hL (by decide) rfl) ?_
  refine SegP.cV (zC_sure hV (xs (nI i + 1).toNatClampNeg) (xs (nI i + 2).toNatClampNeg) (xs (nI i + 3).toNatClampNeg) h g hC) mlL_94 iyX5_sure seX5_sure oyX5_sure rfl (by decide) rfl (by decide) (by decide) rfl rfl rfl rfl (Nat.le_of_ble_eq_true rfl) ?_
  rintro _ h1 g1 ⟨rfl, c1, f1⟩
  refine SegP.run [] 400 ?_
  refine And.intro (ixS (w := 1) hi hL (by decide) rfl) ?_
  refine And.intro (ixS (w := 2) hi hL (by decide) rfl) ?_
  refine And.intro (ixS (w := 3) hi hL (by decide) rfl) ?_
  refine SegP.cV (zM_sure hV (xs (nI i + 1).toNatClampNeg) (xs (nI i + 2).toNatClampNeg) (xs (nI i + 3).toNatClampNeg) h1 g1 (hM.out f1)) mlL_97 iyX6_sure seX6_sure oyX6_sure rfl (by decide) rfl (by decide) (by decide) rfl rfl rfl rfl (Nat.le_of_ble_eq_true rfl) ?_
  rintro _ h2 g2 ⟨rfl, m2, f2⟩
  refine SegP.run [1647] 400 ?_
  exact And.intro (fun _ => k _ h2 g2 (c1.out f2) m2 (oV_sure hV (xs (nI i + 1).toNatClampNeg) (xs (nI i + 2).toNatClampNeg) (xs (nI i + 3).toNatClampNeg))) (fun z => absurd rfl z)
set_option maxRecDepth 100000 in
set_option maxHeartbeats 400000 in
theorem lw_all {L : Nat} {xs : Nat → Int32} {V : aV} {h : aH} {g : aG} (hC : CV h V) (hM : MV h V) (hV : VOk V) {i : Nat} (hi : i + 6 ≤ L) (hL : L ≤ 3072) {P : aCfg → Prop} (k : ∀ V' h' g', CV h' V' → MV h' V' → VOk V' → SegP (mL_law L xs) 12 (1647, [some (.ref 400), some (.ref 0), some (.ref 63), some (.int (nI i))], [], nW, h', g', ρ) P) : SegP (mL_law L xs) 12 (836, [some (.ref 400), some (.ref 0), some (.ref 63), some (.int (nI i))], [], nW, h, g, ρ) P := by
  refine SegP.run [] 400 ?_
  refine And.intro (ixS (w := 1) hi hL (by decide) rfl) ?_
  refine And.intro (ixS (w := 2) hi hL (by decide) rfl) ?_
  refine SegP.cV (zC_all hV (xs (nI i + 1).toNatClampNeg) (xs (nI i + 2).toNatClampNeg) h g hC) mlL_98 iyX5_all seX5_all oyX5_all rfl (by decide) rfl (by decide) (by decide) rfl rfl rfl rfl (Nat.le_of_ble_eq_true rfl) ?_
  rintro _ h1 g1 ⟨rfl, c1, f1⟩
  refine SegP.run [] 400 ?_
  refine And.intro (ixS (w := 1) hi hL (by decide) rfl) ?_
  refine And.intro (ixS (w := 2) hi hL (by decide) rfl) ?_
  refine SegP.cV (zM_all hV (xs (nI i + 1).toNatClampNeg) (xs (nI i + 2).toNatClampNeg) h1 g1 (hM.out f1)) mlL_101 iyX6_all seX6_all oyX6_all rfl (by decide) rfl (by decide) (by decide) rfl rfl rfl rfl (Nat.le_of_ble_eq_true rfl) ?_
  rintro _ h2 g2 ⟨rfl, m2, f2⟩
  refine SegP.run [1647] 400 ?_
  exact And.intro (fun _ => k _ h2 g2 (c1.out f2) m2 (oV_all hV (xs (nI i + 1).toNatClampNeg) (xs (nI i + 2).toNatClampNeg))) (fun z => absurd rfl z)
set_option maxRecDepth 100000 in
set_option maxHeartbeats 400000 in
theorem lw_mean {L : Nat} {xs : Nat → Int32} {V : aV} {h : aH} {g : aG} (hC : CV h V) (hM : MV h V) (hV : VOk V) {i : Nat} (hi : i + 6 ≤ L) (hL : L ≤ 3072) {P : aCfg → Prop} (k : ∀ V' h' g', CV h' V' → MV h' V' → VOk V' → SegP (mL_law L xs) 12 (1647, [some (.ref 400), some (.ref 0), some (.ref 63), some (.int (nI i))], [], nW, h', g', ρ) P) : SegP (mL_law L xs) 12 (869, [some (.ref 400), some (.ref 0), some (.ref 63), some (.int (nI i))], [], nW, h, g, ρ) P := by
  refine SegP.run [] 400 ?_
  refine And.intro (ixS (w := 1) hi hL (by decide) rfl) ?_
  refine And.intro (ixS (w := 2) hi hL (by decide) rfl) ?_
  refine SegP.cV (zC_mean hV (xs (nI i + 1).toNatClampNeg) (xs (nI i + 2).toNatClampNeg) h g hC) mlL_102 iyX5_mean seX5_mean oyX5_mean rfl (by decide) rfl (by decide) (by decide) rfl rfl rfl rfl (Nat.le_of_ble_eq_true rfl) ?_
  rintro _ h1 g1 ⟨rfl, c1, f1⟩
  refine SegP.run [] 400 ?_
  refine And.intro (ixS (w := 1) hi hL (by decide) rfl) ?_
  refine And.intro (ixS (w := 2) hi hL (by decide) rfl) ?_
  refine SegP.cV (zM_mean hV (xs (nI i + 1).toNatClampNeg) (xs (nI i + 2).toNatClampNeg) h1 g1 (hM.out f1)) mlL_105 iyX6_mean seX6_mean oyX6_mean rfl (by decide) rfl (by decide) (by decide) rfl rfl rfl rfl (Nat.le_of_ble_eq_true rfl) ?_
  rintro _ h2 g2 ⟨rfl, m2, f2⟩
  refine SegP.run [1647] 400 ?_
  exact And.intro (fun _ => k _ h2 g2 (c1.out f2) m2 (oV_mean hV (xs (nI i + 1).toNatClampNeg) (xs (nI i + 2).toNatClampNeg))) (fun z => absurd rfl z)
set_option maxRecDepth 100000 in
set_option maxHeartbeats 400000 in
theorem lw_worth {L : Nat} {xs : Nat → Int32} {V : aV} {h : aH} {g : aG} (hC : CV h V) (hM : MV h V) (hV : VOk V) {i : Nat} (hi : i + 6 ≤ L) (hL : L ≤ 3072) {P : aCfg → Prop} (k : ∀ V' h' g', CV h' V' → MV h' V' → VOk V' → SegP (mL_law L xs) 12 (1647, [some (.ref 400), some (.ref 0), some (.ref 63), some (.int (nI i))], [], nW, h', g', ρ) P) : SegP (mL_law L xs) 12 (902, [some (.ref 400), some (.ref 0), some (.ref 63), some (.int (nI i))], [], nW, h, g, ρ) P := by
  refine SegP.run [] 400 ?_
  refine And.intro (ixS (w := 1) hi hL (by decide) rfl) ?_
  refine And.intro (ixS (w := 2) hi hL (by decide) rfl) ?_
  refine SegP.cV (zC_worth hV (xs (nI i + 1).toNatClampNeg) (xs (nI i + 2).toNatClampNeg) h g hC) mlL_106 iyX5_worth seX5_worth oyX5_worth rfl (by decide) rfl (by decide) (by decide) rfl rfl rfl rfl (Nat.le_of_ble_eq_true rfl) ?_
  rintro _ h1 g1 ⟨rfl, c1, f1⟩
  refine SegP.run [] 400 ?_
  refine And.intro (ixS (w := 1) hi hL (by decide) rfl) ?_
  refine And.intro (ixS (w := 2) hi hL (by decide) rfl) ?_
  refine SegP.cV (zM_worth hV (xs (nI i + 1).toNatClampNeg) (xs (nI i + 2).toNatClampNeg) h1 g1 (hM.out f1)) mlL_109 iyX6_worth seX6_worth oyX6_worth rfl (by decide) rfl (by decide) (by decide) rfl rfl rfl rfl (Nat.le_of_ble_eq_true rfl) ?_
  rintro _ h2 g2 ⟨rfl, m2, f2⟩
  refine SegP.run [1647] 400 ?_
  exact And.intro (fun _ => k _ h2 g2 (c1.out f2) m2 (oV_worth hV (xs (nI i + 1).toNatClampNeg) (xs (nI i + 2).toNatClampNeg))) (fun z => absurd rfl z)
set_option maxRecDepth 100000 in
set_option maxHeartbeats 400000 in
theorem lw_harm {L : Nat} {xs : Nat → Int32} {V : aV} {h : aH} {g : aG} (hC : CV h V) (hM : MV h V) (hV : VOk V) {i : Nat} (hi : i + 6 ≤ L) (hL : L ≤ 3072) {P : aCfg → Prop} (k : ∀ V' h' g', CV h' V' → MV h' V' → VOk V' → SegP (mL_law L xs) 12 (1647, [some (.ref 400), some (.ref 0), some (.ref 63), some (.int (nI i))], [], nW, h', g', ρ) P) : SegP (mL_law L xs) 12 (935, [some (.ref 400), some (.ref 0), some (.ref 63), some (.int (nI i))], [], nW, h, g, ρ) P := by
  refine SegP.run [] 400 ?_
  refine And.intro (ixS (w := 1) hi hL (by decide) rfl) ?_
  refine And.intro (ixS (w := 2) hi hL (by decide) rfl) ?_
  refine And.intro (ixS (w := 3) hi hL (by decide) rfl) ?_
  refine SegP.cV (zC_harm hV (xs (nI i + 1).toNatClampNeg) (xs (nI i + 2).toNatClampNeg) (xs (nI i + 3).toNatClampNeg) h g hC) mlL_110 iyX5_harm seX5_harm oyX5_harm rfl (by decide) rfl (by decide) (by decide) rfl rfl rfl rfl (Nat.le_of_ble_eq_true rfl) ?_
  rintro _ h1 g1 ⟨rfl, c1, f1⟩
  refine SegP.run [] 400 ?_
  refine And.intro (ixS (w := 1) hi hL (by decide) rfl) ?_
  refine And.intro (ixS (w := 2) hi hL (by decide) rfl) ?_
  refine And.intro (ixS (w := 3) hi hL (by decide) rfl) ?_
  refine SegP.cV (zM_harm hV (xs (nI i + 1).toNatClampNeg) (xs (nI i + 2).toNatClampNeg) (xs (nI i + 3).toNatClampNeg) h1 g1 (hM.out f1)) mlL_113 iyX6_harm seX6_harm oyX6_harm rfl (by decide) rfl (by decide) (by decide) rfl rfl rfl rfl (Nat.le_of_ble_eq_true rfl) ?_
  rintro _ h2 g2 ⟨rfl, m2, f2⟩
  refine SegP.run [1647] 400 ?_
  exact And.intro (fun _ => k _ h2 g2 (c1.out f2) m2 (oV_harm hV (xs (nI i + 1).toNatClampNeg) (xs (nI i + 2).toNatClampNeg) (xs (nI i + 3).toNatClampNeg))) (fun z => absurd rfl z)
set_option maxRecDepth 100000 in
set_option maxHeartbeats 400000 in
theorem lw_likely {L : Nat} {xs : Nat → Int32} {V : aV} {h : aH} {g : aG} (hC : CV h V) (hM : MV h V) (hV : VOk V) {i : Nat} (hi : i + 6 ≤ L) (hL : L ≤ 3072) {P : aCfg → Prop} (k : ∀ V' h' g', CV h' V' → MV h' V' → VOk V' → SegP (mL_law L xs) 12 (1647, [some (.ref 400), some (.ref 0), some (.ref 63), some (.int (nI i))], [], nW, h', g', ρ) P) : SegP (mL_law L xs) 12 (978, [some (.ref 400), some (.ref 0), some (.ref 63), some (.int (nI i))], [], nW, h, g, ρ) P := by
  refine SegP.run [] 400 ?_
  refine And.intro (ixS (w := 1) hi hL (by decide) rfl) ?_
  refine SegP.cV (zC_likely hV (xs (nI i + 1).toNatClampNeg) h g hC) mlL_114 iyX5_likely seX5_likely oyX5_likely rfl (by decide) rfl (by decide) (by decide) rfl rfl rfl rfl (Nat.le_of_ble_eq_true rfl) ?_
  rintro _ h1 g1 ⟨rfl, c1, f1⟩
  refine SegP.run [] 400 ?_
  refine And.intro (ixS (w := 1) hi hL (by decide) rfl) ?_
  refine SegP.cV (zM_likely hV (xs (nI i + 1).toNatClampNeg) h1 g1 (hM.out f1)) mlL_117 iyX6_likely seX6_likely oyX6_likely rfl (by decide) rfl (by decide) (by decide) rfl rfl rfl rfl (Nat.le_of_ble_eq_true rfl) ?_
  rintro _ h2 g2 ⟨rfl, m2, f2⟩
  refine SegP.run [1647] 400 ?_
  exact And.intro (fun _ => k _ h2 g2 (c1.out f2) m2 (oV_likely hV (xs (nI i + 1).toNatClampNeg))) (fun z => absurd rfl z)
set_option maxRecDepth 100000 in
set_option maxHeartbeats 400000 in
theorem lw_fewest {L : Nat} {xs : Nat → Int32} {V : aV} {h : aH} {g : aG} (hC : CV h V) (hM : MV h V) (hV : VOk V) {i : Nat} (hi : i + 6 ≤ L) (hL : L ≤ 3072) {P : aCfg → Prop} (k : ∀ V' h' g', CV h' V' → MV h' V' → VOk V' → SegP (mL_law L xs) 12 (1647, [some (.ref 400), some (.ref 0), some (.ref 63), some (.int (nI i))], [], nW, h', g', ρ) P) : SegP (mL_law L xs) 12 (1001, [some (.ref 400), some (.ref 0), some (.ref 63), some (.int (nI i))], [], nW, h, g, ρ) P := by
  refine SegP.run [] 400 ?_
  refine And.intro (ixS (w := 1) hi hL (by decide) rfl) ?_
  refine And.intro (ixS (w := 2) hi hL (by decide) rfl) ?_
  refine And.intro (ixS (w := 3) hi hL (by decide) rfl) ?_
  refine SegP.cV (zC_fewest hV (xs (nI i + 1).toNatClampNeg) (xs (nI i + 2).toNatClampNeg) (xs (nI i + 3).toNatClampNeg) h g hC) mlL_118 iyX5_fewest seX5_fewest oyX5_fewest rfl (by decide) rfl (by decide) (by decide) rfl rfl rfl rfl (Nat.le_of_ble_eq_true rfl) ?_
  rintro _ h1 g1 ⟨rfl, c1, f1⟩
  refine SegP.run [] 400 ?_
  refine And.intro (ixS (w := 1) hi hL (by decide) rfl) ?_
  refine And.intro (ixS (w := 2) hi hL (by decide) rfl) ?_
  refine And.intro (ixS (w := 3) hi hL (by decide) rfl) ?_
  refine SegP.cV (zM_fewest hV (xs (nI i + 1).toNatClampNeg) (xs (nI i + 2).toNatClampNeg) (xs (nI i + 3).toNatClampNeg) h1 g1 (hM.out f1)) mlL_121 iyX6_fewest seX6_fewest oyX6_fewest rfl (by decide) rfl (by decide) (by decide) rfl rfl rfl rfl (Nat.le_of_ble_eq_true rfl) ?_
  rintro _ h2 g2 ⟨rfl, m2, f2⟩
  refine SegP.run [1647] 400 ?_
  exact And.intro (fun _ => k _ h2 g2 (c1.out f2) m2 (oV_fewest hV (xs (nI i + 1).toNatClampNeg) (xs (nI i + 2).toNatClampNeg) (xs (nI i + 3).toNatClampNeg))) (fun z => absurd rfl z)
set_option maxRecDepth 100000 in
set_option maxHeartbeats 400000 in
theorem lw_cheapest {L : Nat} {xs : Nat → Int32} {V : aV} {h : aH} {g : aG} (hC : CV h V) (hM : MV h V) (hV : VOk V) {i : Nat} (hi : i + 6 ≤ L) (hL : L ≤ 3072) {P : aCfg → Prop} (k : ∀ V' h' g', CV h' V' → MV h' V' → VOk V' → SegP (mL_law L xs) 12 (1647, [some (.ref 400), some (.ref 0), some (.ref 63), some (.int (nI i))], [], nW, h', g', ρ) P) : SegP (mL_law L xs) 12 (1044, [some (.ref 400), some (.ref 0), some (.ref 63), some (.int (nI i))], [], nW, h, g, ρ) P := by
  refine SegP.run [] 400 ?_
  refine And.intro (ixS (w := 1) hi hL (by decide) rfl) ?_
  refine And.intro (ixS (w := 2) hi hL (by decide) rfl) ?_
  refine And.intro (ixS (w := 3) hi hL (by decide) rfl) ?_
  refine SegP.cV (zC_cheapest hV (xs (nI i + 1).toNatClampNeg) (xs (nI i + 2).toNatClampNeg) (xs (nI i + 3).toNatClampNeg) h g hC) mlL_122 iyX5_cheapest seX5_cheapest oyX5_cheapest rfl (by decide) rfl (by decide) (by decide) rfl rfl rfl rfl (Nat.le_of_ble_eq_true rfl) ?_
  rintro _ h1 g1 ⟨rfl, c1, f1⟩
  refine SegP.run [] 400 ?_
  refine And.intro (ixS (w := 1) hi hL (by decide) rfl) ?_
  refine And.intro (ixS (w := 2) hi hL (by decide) rfl) ?_
  refine And.intro (ixS (w := 3) hi hL (by decide) rfl) ?_
  refine SegP.cV (zM_cheapest hV (xs (nI i + 1).toNatClampNeg) (xs (nI i + 2).toNatClampNeg) (xs (nI i + 3).toNatClampNeg) h1 g1 (hM.out f1)) mlL_125 iyX6_cheapest seX6_cheapest oyX6_cheapest rfl (by decide) rfl (by decide) (by decide) rfl rfl rfl rfl (Nat.le_of_ble_eq_true rfl) ?_
  rintro _ h2 g2 ⟨rfl, m2, f2⟩
  refine SegP.run [1647] 400 ?_
  exact And.intro (fun _ => k _ h2 g2 (c1.out f2) m2 (oV_cheapest hV (xs (nI i + 1).toNatClampNeg) (xs (nI i + 2).toNatClampNeg) (xs (nI i + 3).toNatClampNeg))) (fun z => absurd rfl z)
set_option maxRecDepth 100000 in
set_option maxHeartbeats 400000 in
theorem lw_most {L : Nat} {xs : Nat → Int32} {V : aV} {h : aH} {g : aG} (hC : CV h V) (hM : MV h V) (hV : VOk V) {i : Nat} (hi : i + 6 ≤ L) (hL : L ≤ 3072) {P : aCfg → Prop} (k : ∀ V' h' g', CV h' V' → MV h' V' → VOk V' → SegP (mL_law L xs) 12 (1647, [some (.ref 400), some (.ref 0), some (.ref 63), some (.int (nI i))], [], nW, h', g', ρ) P) : SegP (mL_law L xs) 12 (1087, [some (.ref 400), some (.ref 0), some (.ref 63), some (.int (nI i))], [], nW, h, g, ρ) P := by
  refine SegP.run [] 400 ?_
  refine And.intro (ixS (w := 1) hi hL (by decide) rfl) ?_
  refine And.intro (ixS (w := 2) hi hL (by decide) rfl) ?_
  refine And.intro (ixS (w := 3) hi hL (by decide) rfl) ?_
  refine SegP.cV (zC_most hV (xs (nI i + 1).toNatClampNeg) (xs (nI i + 2).toNatClampNeg) (xs (nI i + 3).toNatClampNeg) h g hC) mlL_126 iyX5_most seX5_most oyX5_most rfl (by decide) rfl (by decide) (by decide) rfl rfl rfl rfl (Nat.le_of_ble_eq_true rfl) ?_
  rintro _ h1 g1 ⟨rfl, c1, f1⟩
  refine SegP.run [] 400 ?_
  refine And.intro (ixS (w := 1) hi hL (by decide) rfl) ?_
  refine And.intro (ixS (w := 2) hi hL (by decide) rfl) ?_
  refine And.intro (ixS (w := 3) hi hL (by decide) rfl) ?_
  refine SegP.cV (zM_most hV (xs (nI i + 1).toNatClampNeg) (xs (nI i + 2).toNatClampNeg) (xs (nI i + 3).toNatClampNeg) h1 g1 (hM.out f1)) mlL_129 iyX6_most seX6_most oyX6_most rfl (by decide) rfl (by decide) (by decide) rfl rfl rfl rfl (Nat.le_of_ble_eq_true rfl) ?_
  rintro _ h2 g2 ⟨rfl, m2, f2⟩
  refine SegP.run [1647] 400 ?_
  exact And.intro (fun _ => k _ h2 g2 (c1.out f2) m2 (oV_most hV (xs (nI i + 1).toNatClampNeg) (xs (nI i + 2).toNatClampNeg) (xs (nI i + 3).toNatClampNeg))) (fun z => absurd rfl z)
set_option maxRecDepth 100000 in
set_option maxHeartbeats 400000 in
theorem lw_best {L : Nat} {xs : Nat → Int32} {V : aV} {h : aH} {g : aG} (hC : CV h V) (hM : MV h V) (hV : VOk V) {i : Nat} (hi : i + 6 ≤ L) (hL : L ≤ 3072) {P : aCfg → Prop} (k : ∀ V' h' g', CV h' V' → MV h' V' → VOk V' → SegP (mL_law L xs) 12 (1647, [some (.ref 400), some (.ref 0), some (.ref 63), some (.int (nI i))], [], nW, h', g', ρ) P) : SegP (mL_law L xs) 12 (1130, [some (.ref 400), some (.ref 0), some (.ref 63), some (.int (nI i))], [], nW, h, g, ρ) P := by
  refine SegP.run [] 400 ?_
  refine SegP.cV (zC_best hV  h g hC) mlL_130 iyX5_best seX5_best oyX5_best rfl (by decide) rfl (by decide) (by decide) rfl rfl rfl rfl (Nat.le_of_ble_eq_true rfl) ?_
  rintro _ h1 g1 ⟨rfl, c1, f1⟩
  refine SegP.run [] 400 ?_
  refine SegP.cV (zM_best hV  h1 g1 (hM.out f1)) mlL_133 iyX6_best seX6_best oyX6_best rfl (by decide) rfl (by decide) (by decide) rfl rfl rfl rfl (Nat.le_of_ble_eq_true rfl) ?_
  rintro _ h2 g2 ⟨rfl, m2, f2⟩
  refine SegP.run [1647] 400 ?_
  exact And.intro (fun _ => k _ h2 g2 (c1.out f2) m2 (oV_best hV )) (fun z => absurd rfl z)
set_option maxRecDepth 100000 in
set_option maxHeartbeats 400000 in
theorem lw_helps {L : Nat} {xs : Nat → Int32} {V : aV} {h : aH} {g : aG} (hC : CV h V) (hM : MV h V) (hV : VOk V) {i : Nat} (hi : i + 6 ≤ L) (hL : L ≤ 3072) {P : aCfg → Prop} (k : ∀ V' h' g', CV h' V' → MV h' V' → VOk V' → SegP (mL_law L xs) 12 (1647, [some (.ref 400), some (.ref 0), some (.ref 63), some (.int (nI i))], [], nW, h', g', ρ) P) : SegP (mL_law L xs) 12 (1143, [some (.ref 400), some (.ref 0), some (.ref 63), some (.int (nI i))], [], nW, h, g, ρ) P := by
  refine SegP.run [] 400 ?_
  refine SegP.cV (zC_helps hV  h g hC) mlL_134 iyX5_helps seX5_helps oyX5_helps rfl (by decide) rfl (by decide) (by decide) rfl rfl rfl rfl (Nat.le_of_ble_eq_true rfl) ?_
  rintro _ h1 g1 ⟨rfl, c1, f1⟩
  refine SegP.run [] 400 ?_
  refine SegP.cV (zM_helps hV  h1 g1 (hM.out f1)) mlL_137 iyX6_helps seX6_helps oyX6_helps rfl (by decide) rfl (by decide) (by decide) rfl rfl rfl rfl (Nat.le_of_ble_eq_true rfl) ?_
  rintro _ h2 g2 ⟨rfl, m2, f2⟩
  refine SegP.run [1647] 400 ?_
  exact And.intro (fun _ => k _ h2 g2 (c1.out f2) m2 (oV_helps hV )) (fun z => absurd rfl z)
set_option maxRecDepth 100000 in
set_option maxHeartbeats 400000 in
theorem lw_hangs {L : Nat} {xs : Nat → Int32} {V : aV} {h : aH} {g : aG} (hC : CV h V) (hM : MV h V) (hV : VOk V) {i : Nat} (hi : i + 6 ≤ L) (hL : L ≤ 3072) {P : aCfg → Prop} (k : ∀ V' h' g', CV h' V' → MV h' V' → VOk V' → SegP (mL_law L xs) 12 (1647, [some (.ref 400), some (.ref 0), some (.ref 63), some (.int (nI i))], [], nW, h', g', ρ) P) : SegP (mL_law L xs) 12 (1156, [some (.ref 400), some (.ref 0), some (.ref 63), some (.int (nI i))], [], nW, h, g, ρ) P := by
  refine SegP.run [] 400 ?_
  refine And.intro (ixS (w := 1) hi hL (by decide) rfl) ?_
  refine SegP.cV (zC_hangs hV (xs (nI i + 1).toNatClampNeg) h g hC) mlL_138 iyX5_hangs seX5_hangs oyX5_hangs rfl (by decide) rfl (by decide) (by decide) rfl rfl rfl rfl (Nat.le_of_ble_eq_true rfl) ?_
  rintro _ h1 g1 ⟨rfl, c1, f1⟩
  refine SegP.run [] 400 ?_
  refine And.intro (ixS (w := 1) hi hL (by decide) rfl) ?_
  refine SegP.cV (zM_hangs hV (xs (nI i + 1).toNatClampNeg) h1 g1 (hM.out f1)) mlL_141 iyX6_hangs seX6_hangs oyX6_hangs rfl (by decide) rfl (by decide) (by decide) rfl rfl rfl rfl (Nat.le_of_ble_eq_true rfl) ?_
  rintro _ h2 g2 ⟨rfl, m2, f2⟩
  refine SegP.run [1647] 400 ?_
  exact And.intro (fun _ => k _ h2 g2 (c1.out f2) m2 (oV_hangs hV (xs (nI i + 1).toNatClampNeg))) (fun z => absurd rfl z)
set_option maxRecDepth 100000 in
set_option maxHeartbeats 400000 in
theorem lw_asks {L : Nat} {xs : Nat → Int32} {V : aV} {h : aH} {g : aG} (hC : CV h V) (hM : MV h V) (hV : VOk V) {i : Nat} (hi : i + 6 ≤ L) (hL : L ≤ 3072) {P : aCfg → Prop} (k : ∀ V' h' g', CV h' V' → MV h' V' → VOk V' → SegP (mL_law L xs) 12 (1647, [some (.ref 400), some (.ref 0), some (.ref 63), some (.int (nI i))], [], nW, h', g', ρ) P) : SegP (mL_law L xs) 12 (1179, [some (.ref 400), some (.ref 0), some (.ref 63), some (.int (nI i))], [], nW, h, g, ρ) P := by
  refine SegP.run [] 400 ?_
  refine And.intro (ixS (w := 1) hi hL (by decide) rfl) ?_
  refine SegP.cV (zC_asks hV (xs (nI i + 1).toNatClampNeg) h g hC) mlL_142 iyX5_asks seX5_asks oyX5_asks rfl (by decide) rfl (by decide) (by decide) rfl rfl rfl rfl (Nat.le_of_ble_eq_true rfl) ?_
  rintro _ h1 g1 ⟨rfl, c1, f1⟩
  refine SegP.run [] 400 ?_
  refine And.intro (ixS (w := 1) hi hL (by decide) rfl) ?_
  refine SegP.cV (zM_asks hV (xs (nI i + 1).toNatClampNeg) h1 g1 (hM.out f1)) mlL_145 iyX6_asks seX6_asks oyX6_asks rfl (by decide) rfl (by decide) (by decide) rfl rfl rfl rfl (Nat.le_of_ble_eq_true rfl) ?_
  rintro _ h2 g2 ⟨rfl, m2, f2⟩
  refine SegP.run [1647] 400 ?_
  exact And.intro (fun _ => k _ h2 g2 (c1.out f2) m2 (oV_asks hV (xs (nI i + 1).toNatClampNeg))) (fun z => absurd rfl z)
set_option maxRecDepth 100000 in
set_option maxHeartbeats 400000 in
theorem lw_apart {L : Nat} {xs : Nat → Int32} {V : aV} {h : aH} {g : aG} (hC : CV h V) (hM : MV h V) (hV : VOk V) {i : Nat} (hi : i + 6 ≤ L) (hL : L ≤ 3072) {P : aCfg → Prop} (k : ∀ V' h' g', CV h' V' → MV h' V' → VOk V' → SegP (mL_law L xs) 12 (1647, [some (.ref 400), some (.ref 0), some (.ref 63), some (.int (nI i))], [], nW, h', g', ρ) P) : SegP (mL_law L xs) 12 (1202, [some (.ref 400), some (.ref 0), some (.ref 63), some (.int (nI i))], [], nW, h, g, ρ) P := by
  refine SegP.run [] 400 ?_
  refine And.intro (ixS (w := 1) hi hL (by decide) rfl) ?_
  refine And.intro (ixS (w := 2) hi hL (by decide) rfl) ?_
  refine SegP.cV (zC_apart hV (xs (nI i + 1).toNatClampNeg) (xs (nI i + 2).toNatClampNeg) h g hC) mlL_146 iyX5_apart seX5_apart oyX5_apart rfl (by decide) rfl (by decide) (by decide) rfl rfl rfl rfl (Nat.le_of_ble_eq_true rfl) ?_
  rintro _ h1 g1 ⟨rfl, c1, f1⟩
  refine SegP.run [] 400 ?_
  refine And.intro (ixS (w := 1) hi hL (by decide) rfl) ?_
  refine And.intro (ixS (w := 2) hi hL (by decide) rfl) ?_
  refine SegP.cV (zM_apart hV (xs (nI i + 1).toNatClampNeg) (xs (nI i + 2).toNatClampNeg) h1 g1 (hM.out f1)) mlL_149 iyX6_apart seX6_apart oyX6_apart rfl (by decide) rfl (by decide) (by decide) rfl rfl rfl rfl (Nat.le_of_ble_eq_true rfl) ?_
  rintro _ h2 g2 ⟨rfl, m2, f2⟩
  refine SegP.run [1647] 400 ?_
  exact And.intro (fun _ => k _ h2 g2 (c1.out f2) m2 (oV_apart hV (xs (nI i + 1).toNatClampNeg) (xs (nI i + 2).toNatClampNeg))) (fun z => absurd rfl z)
set_option maxRecDepth 100000 in
set_option maxHeartbeats 400000 in
theorem lw_tries {L : Nat} {xs : Nat → Int32} {V : aV} {h : aH} {g : aG} (hC : CV h V) (hM : MV h V) (hV : VOk V) {i : Nat} (hi : i + 6 ≤ L) (hL : L ≤ 3072) {P : aCfg → Prop} (k : ∀ V' h' g', CV h' V' → MV h' V' → VOk V' → SegP (mL_law L xs) 12 (1647, [some (.ref 400), some (.ref 0), some (.ref 63), some (.int (nI i))], [], nW, h', g', ρ) P) : SegP (mL_law L xs) 12 (1235, [some (.ref 400), some (.ref 0), some (.ref 63), some (.int (nI i))], [], nW, h, g, ρ) P := by
  refine SegP.run [] 400 ?_
  refine And.intro (ixS (w := 1) hi hL (by decide) rfl) ?_
  refine And.intro (ixS (w := 2) hi hL (by decide) rfl) ?_
  refine And.intro (ixS (w := 3) hi hL (by decide) rfl) ?_
  refine SegP.cV (zC_tries hV (xs (nI i + 1).toNatClampNeg) (xs (nI i + 2).toNatClampNeg) (xs (nI i + 3).toNatClampNeg) h g hC) mlL_150 iyX5_tries seX5_tries oyX5_tries rfl (by decide) rfl (by decide) (by decide) rfl rfl rfl rfl (Nat.le_of_ble_eq_true rfl) ?_
  rintro _ h1 g1 ⟨rfl, c1, f1⟩
  refine SegP.run [] 400 ?_
  refine And.intro (ixS (w := 1) hi hL (by decide) rfl) ?_
  refine And.intro (ixS (w := 2) hi hL (by decide) rfl) ?_
  refine And.intro (ixS (w := 3) hi hL (by decide) rfl) ?_
  refine SegP.cV (zM_tries hV (xs (nI i + 1).toNatClampNeg) (xs (nI i + 2).toNatClampNeg) (xs (nI i + 3).toNatClampNeg) h1 g1 (hM.out f1)) mlL_153 iyX6_tries seX6_tries oyX6_tries rfl (by decide) rfl (by decide) (by decide) rfl rfl rfl rfl (Nat.le_of_ble_eq_true rfl) ?_
  rintro _ h2 g2 ⟨rfl, m2, f2⟩
  refine SegP.run [1647] 400 ?_
  exact And.intro (fun _ => k _ h2 g2 (c1.out f2) m2 (oV_tries hV (xs (nI i + 1).toNatClampNeg) (xs (nI i + 2).toNatClampNeg) (xs (nI i + 3).toNatClampNeg))) (fun z => absurd rfl z)
set_option maxRecDepth 100000 in
set_option maxHeartbeats 400000 in
theorem lw_seed {L : Nat} {xs : Nat → Int32} {V : aV} {h : aH} {g : aG} (hC : CV h V) (hM : MV h V) (hV : VOk V) {i : Nat} (hi : i + 6 ≤ L) (hL : L ≤ 3072) {P : aCfg → Prop} (k : ∀ V' h' g', CV h' V' → MV h' V' → VOk V' → SegP (mL_law L xs) 12 (1647, [some (.ref 400), some (.ref 0), some (.ref 63), some (.int (nI i))], [], nW, h', g', ρ) P) : SegP (mL_law L xs) 12 (1278, [some (.ref 400), some (.ref 0), some (.ref 63), some (.int (nI i))], [], nW, h, g, ρ) P := by
  refine SegP.run [] 400 ?_
  refine And.intro (ixS (w := 1) hi hL (by decide) rfl) ?_
  refine SegP.cV (zC_seed hV (xs (nI i + 1).toNatClampNeg) h g hC) mlL_154 iyX5_seed seX5_seed oyX5_seed rfl (by decide) rfl (by decide) (by decide) rfl rfl rfl rfl (Nat.le_of_ble_eq_true rfl) ?_
  rintro _ h1 g1 ⟨rfl, c1, f1⟩
  refine SegP.run [] 400 ?_
  refine And.intro (ixS (w := 1) hi hL (by decide) rfl) ?_
  refine SegP.cV (zM_seed hV (xs (nI i + 1).toNatClampNeg) h1 g1 (hM.out f1)) mlL_157 iyX6_seed seX6_seed oyX6_seed rfl (by decide) rfl (by decide) (by decide) rfl rfl rfl rfl (Nat.le_of_ble_eq_true rfl) ?_
  rintro _ h2 g2 ⟨rfl, m2, f2⟩
  refine SegP.run [1647] 400 ?_
  exact And.intro (fun _ => k _ h2 g2 (c1.out f2) m2 (oV_seed hV (xs (nI i + 1).toNatClampNeg))) (fun z => absurd rfl z)
set_option maxRecDepth 100000 in
set_option maxHeartbeats 400000 in
theorem lw_hold {L : Nat} {xs : Nat → Int32} {V : aV} {h : aH} {g : aG} (hC : CV h V) (hM : MV h V) (hV : VOk V) {i : Nat} (hi : i + 6 ≤ L) (hL : L ≤ 3072) {P : aCfg → Prop} (k : ∀ V' h' g', CV h' V' → MV h' V' → VOk V' → SegP (mL_law L xs) 12 (1647, [some (.ref 400), some (.ref 0), some (.ref 63), some (.int (nI i))], [], nW, h', g', ρ) P) : SegP (mL_law L xs) 12 (1301, [some (.ref 400), some (.ref 0), some (.ref 63), some (.int (nI i))], [], nW, h, g, ρ) P := by
  refine SegP.run [] 400 ?_
  refine And.intro (ixS (w := 1) hi hL (by decide) rfl) ?_
  refine And.intro (ixS (w := 2) hi hL (by decide) rfl) ?_
  refine SegP.cV (zC_hold hV (xs (nI i + 1).toNatClampNeg) (xs (nI i + 2).toNatClampNeg) h g hC) mlL_158 iyX5_hold seX5_hold oyX5_hold rfl (by decide) rfl (by decide) (by decide) rfl rfl rfl rfl (Nat.le_of_ble_eq_true rfl) ?_
  rintro _ h1 g1 ⟨rfl, c1, f1⟩
  refine SegP.run [] 400 ?_
  refine And.intro (ixS (w := 1) hi hL (by decide) rfl) ?_
  refine And.intro (ixS (w := 2) hi hL (by decide) rfl) ?_
  refine SegP.cV (zM_hold hV (xs (nI i + 1).toNatClampNeg) (xs (nI i + 2).toNatClampNeg) h1 g1 (hM.out f1)) mlL_161 iyX6_hold seX6_hold oyX6_hold rfl (by decide) rfl (by decide) (by decide) rfl rfl rfl rfl (Nat.le_of_ble_eq_true rfl) ?_
  rintro _ h2 g2 ⟨rfl, m2, f2⟩
  refine SegP.run [1647] 400 ?_
  exact And.intro (fun _ => k _ h2 g2 (c1.out f2) m2 (oV_hold hV (xs (nI i + 1).toNatClampNeg) (xs (nI i + 2).toNatClampNeg))) (fun z => absurd rfl z)
set_option maxRecDepth 100000 in
set_option maxHeartbeats 400000 in
theorem lw_as {L : Nat} {xs : Nat → Int32} {V : aV} {h : aH} {g : aG} (hC : CV h V) (hM : MV h V) (hV : VOk V) {i : Nat} (hi : i + 6 ≤ L) (hL : L ≤ 3072) {P : aCfg → Prop} (k : ∀ V' h' g', CV h' V' → MV h' V' → VOk V' → SegP (mL_law L xs) 12 (1647, [some (.ref 400), some (.ref 0), some (.ref 63), some (.int (nI i))], [], nW, h', g', ρ) P) : SegP (mL_law L xs) 12 (1334, [some (.ref 400), some (.ref 0), some (.ref 63), some (.int (nI i))], [], nW, h, g, ρ) P := by
  refine SegP.run [] 400 ?_
  refine And.intro (ixS (w := 1) hi hL (by decide) rfl) ?_
  refine And.intro (ixS (w := 2) hi hL (by decide) rfl) ?_
  refine SegP.cV (zC_as hV (xs (nI i + 1).toNatClampNeg) (xs (nI i + 2).toNatClampNeg) h g hC) mlL_162 iyX5_as seX5_as oyX5_as rfl (by decide) rfl (by decide) (by decide) rfl rfl rfl rfl (Nat.le_of_ble_eq_true rfl) ?_
  rintro _ h1 g1 ⟨rfl, c1, f1⟩
  refine SegP.run [] 400 ?_
  refine And.intro (ixS (w := 1) hi hL (by decide) rfl) ?_
  refine And.intro (ixS (w := 2) hi hL (by decide) rfl) ?_
  refine SegP.cV (zM_as hV (xs (nI i + 1).toNatClampNeg) (xs (nI i + 2).toNatClampNeg) h1 g1 (hM.out f1)) mlL_165 iyX6_as seX6_as oyX6_as rfl (by decide) rfl (by decide) (by decide) rfl rfl rfl rfl (Nat.le_of_ble_eq_true rfl) ?_
  rintro _ h2 g2 ⟨rfl, m2, f2⟩
  refine SegP.run [1647] 400 ?_
  exact And.intro (fun _ => k _ h2 g2 (c1.out f2) m2 (oV_as hV (xs (nI i + 1).toNatClampNeg) (xs (nI i + 2).toNatClampNeg))) (fun z => absurd rfl z)
set_option maxRecDepth 100000 in
set_option maxHeartbeats 400000 in
theorem lw_sheet {L : Nat} {xs : Nat → Int32} {V : aV} {h : aH} {g : aG} (hC : CV h V) (hM : MV h V) (hV : VOk V) {i : Nat} (hi : i + 6 ≤ L) (hL : L ≤ 3072) {P : aCfg → Prop} (k : ∀ V' h' g', CV h' V' → MV h' V' → VOk V' → SegP (mL_law L xs) 12 (1647, [some (.ref 400), some (.ref 0), some (.ref 63), some (.int (nI i))], [], nW, h', g', ρ) P) : SegP (mL_law L xs) 12 (1367, [some (.ref 400), some (.ref 0), some (.ref 63), some (.int (nI i))], [], nW, h, g, ρ) P := by
  refine SegP.run [] 400 ?_
  refine And.intro (ixS (w := 1) hi hL (by decide) rfl) ?_
  refine And.intro (ixS (w := 2) hi hL (by decide) rfl) ?_
  refine And.intro (ixS (w := 3) hi hL (by decide) rfl) ?_
  refine SegP.cV (zC_sheet hV (xs (nI i + 1).toNatClampNeg) (xs (nI i + 2).toNatClampNeg) (xs (nI i + 3).toNatClampNeg) h g hC) mlL_166 iyX5_sheet seX5_sheet oyX5_sheet rfl (by decide) rfl (by decide) (by decide) rfl rfl rfl rfl (Nat.le_of_ble_eq_true rfl) ?_
  rintro _ h1 g1 ⟨rfl, c1, f1⟩
  refine SegP.run [] 400 ?_
  refine And.intro (ixS (w := 1) hi hL (by decide) rfl) ?_
  refine And.intro (ixS (w := 2) hi hL (by decide) rfl) ?_
  refine And.intro (ixS (w := 3) hi hL (by decide) rfl) ?_
  refine SegP.cV (zM_sheet hV (xs (nI i + 1).toNatClampNeg) (xs (nI i + 2).toNatClampNeg) (xs (nI i + 3).toNatClampNeg) h1 g1 (hM.out f1)) mlL_169 iyX6_sheet seX6_sheet oyX6_sheet rfl (by decide) rfl (by decide) (by decide) rfl rfl rfl rfl (Nat.le_of_ble_eq_true rfl) ?_
  rintro _ h2 g2 ⟨rfl, m2, f2⟩
  refine SegP.run [1647] 400 ?_
  exact And.intro (fun _ => k _ h2 g2 (c1.out f2) m2 (oV_sheet hV (xs (nI i + 1).toNatClampNeg) (xs (nI i + 2).toNatClampNeg) (xs (nI i + 3).toNatClampNeg))) (fun z => absurd rfl z)
set_option maxRecDepth 100000 in
set_option maxHeartbeats 400000 in
theorem lw_write {L : Nat} {xs : Nat → Int32} {V : aV} {h : aH} {g : aG} (hC : CV h V) (hM : MV h V) (hV : VOk V) {i : Nat} (hi : i + 6 ≤ L) (hL : L ≤ 3072) {P : aCfg → Prop} (k : ∀ V' h' g', CV h' V' → MV h' V' → VOk V' → SegP (mL_law L xs) 12 (1647, [some (.ref 400), some (.ref 0), some (.ref 63), some (.int (nI i))], [], nW, h', g', ρ) P) : SegP (mL_law L xs) 12 (1410, [some (.ref 400), some (.ref 0), some (.ref 63), some (.int (nI i))], [], nW, h, g, ρ) P := by
  refine SegP.run [] 400 ?_
  refine And.intro (ixS (w := 1) hi hL (by decide) rfl) ?_
  refine And.intro (ixS (w := 2) hi hL (by decide) rfl) ?_
  refine And.intro (ixS (w := 3) hi hL (by decide) rfl) ?_
  refine SegP.cV (zC_write hV (xs (nI i + 1).toNatClampNeg) (xs (nI i + 2).toNatClampNeg) (xs (nI i + 3).toNatClampNeg) h g hC) mlL_170 iyX5_write seX5_write oyX5_write rfl (by decide) rfl (by decide) (by decide) rfl rfl rfl rfl (Nat.le_of_ble_eq_true rfl) ?_
  rintro _ h1 g1 ⟨rfl, c1, f1⟩
  refine SegP.run [] 400 ?_
  refine And.intro (ixS (w := 1) hi hL (by decide) rfl) ?_
  refine And.intro (ixS (w := 2) hi hL (by decide) rfl) ?_
  refine And.intro (ixS (w := 3) hi hL (by decide) rfl) ?_
  refine SegP.cV (zM_write hV (xs (nI i + 1).toNatClampNeg) (xs (nI i + 2).toNatClampNeg) (xs (nI i + 3).toNatClampNeg) h1 g1 (hM.out f1)) mlL_173 iyX6_write seX6_write oyX6_write rfl (by decide) rfl (by decide) (by decide) rfl rfl rfl rfl (Nat.le_of_ble_eq_true rfl) ?_
  rintro _ h2 g2 ⟨rfl, m2, f2⟩
  refine SegP.run [1647] 400 ?_
  exact And.intro (fun _ => k _ h2 g2 (c1.out f2) m2 (oV_write hV (xs (nI i + 1).toNatClampNeg) (xs (nI i + 2).toNatClampNeg) (xs (nI i + 3).toNatClampNeg))) (fun z => absurd rfl z)
set_option maxRecDepth 100000 in
set_option maxHeartbeats 400000 in
theorem lw_copy {L : Nat} {xs : Nat → Int32} {V : aV} {h : aH} {g : aG} (hC : CV h V) (hM : MV h V) (hV : VOk V) {i : Nat} (hi : i + 6 ≤ L) (hL : L ≤ 3072) {P : aCfg → Prop} (k : ∀ V' h' g', CV h' V' → MV h' V' → VOk V' → SegP (mL_law L xs) 12 (1647, [some (.ref 400), some (.ref 0), some (.ref 63), some (.int (nI i))], [], nW, h', g', ρ) P) : SegP (mL_law L xs) 12 (1453, [some (.ref 400), some (.ref 0), some (.ref 63), some (.int (nI i))], [], nW, h, g, ρ) P := by
  refine SegP.run [] 400 ?_
  refine And.intro (ixS (w := 1) hi hL (by decide) rfl) ?_
  refine And.intro (ixS (w := 2) hi hL (by decide) rfl) ?_
  refine And.intro (ixS (w := 3) hi hL (by decide) rfl) ?_
  refine And.intro (ixS (w := 4) hi hL (by decide) rfl) ?_
  refine And.intro (ixS (w := 5) hi hL (by decide) rfl) ?_
  refine SegP.cV (zC_copy hV (xs (nI i + 1).toNatClampNeg) (xs (nI i + 2).toNatClampNeg) (xs (nI i + 3).toNatClampNeg) (xs (nI i + 4).toNatClampNeg) (xs (nI i + 5).toNatClampNeg) h g hC) mlL_174 iyX5_copy seX5_copy oyX5_copy rfl (by decide) rfl (by decide) (by decide) rfl rfl rfl rfl (Nat.le_of_ble_eq_true rfl) ?_
  rintro _ h1 g1 ⟨rfl, c1, f1⟩
  refine SegP.run [] 400 ?_
  refine And.intro (ixS (w := 1) hi hL (by decide) rfl) ?_
  refine And.intro (ixS (w := 2) hi hL (by decide) rfl) ?_
  refine And.intro (ixS (w := 3) hi hL (by decide) rfl) ?_
  refine And.intro (ixS (w := 4) hi hL (by decide) rfl) ?_
  refine And.intro (ixS (w := 5) hi hL (by decide) rfl) ?_
  refine SegP.cV (zM_copy hV (xs (nI i + 1).toNatClampNeg) (xs (nI i + 2).toNatClampNeg) (xs (nI i + 3).toNatClampNeg) (xs (nI i + 4).toNatClampNeg) (xs (nI i + 5).toNatClampNeg) h1 g1 (hM.out f1)) mlL_178 iyX6_copy seX6_copy oyX6_copy rfl (by decide) rfl (by decide) (by decide) rfl rfl rfl rfl (Nat.le_of_ble_eq_true rfl) ?_
  rintro _ h2 g2 ⟨rfl, m2, f2⟩
  refine SegP.run [1647] 400 ?_
  exact And.intro (fun _ => k _ h2 g2 (c1.out f2) m2 (oV_copy hV (xs (nI i + 1).toNatClampNeg) (xs (nI i + 2).toNatClampNeg) (xs (nI i + 3).toNatClampNeg) (xs (nI i + 4).toNatClampNeg) (xs (nI i + 5).toNatClampNeg))) (fun z => absurd rfl z)
set_option maxRecDepth 100000 in
set_option maxHeartbeats 400000 in
theorem lw_load {L : Nat} {xs : Nat → Int32} {V : aV} {h : aH} {g : aG} (hC : CV h V) (hM : MV h V) (hV : VOk V) {i : Nat} (hi : i + 6 ≤ L) (hL : L ≤ 3072) {P : aCfg → Prop} (k : ∀ V' h' g', CV h' V' → MV h' V' → VOk V' → SegP (mL_law L xs) 12 (1647, [some (.ref 400), some (.ref 0), some (.ref 63), some (.int (nI i))], [], nW, h', g', ρ) P) : SegP (mL_law L xs) 12 (1516, [some (.ref 400), some (.ref 0), some (.ref 63), some (.int (nI i))], [], nW, h, g, ρ) P := by
  refine SegP.run [] 400 ?_
  refine And.intro (ixS (w := 1) hi hL (by decide) rfl) ?_
  refine SegP.cV (zC_load hV (xs (nI i + 1).toNatClampNeg) h g hC) mlL_179 iyX5_load seX5_load oyX5_load rfl (by decide) rfl (by decide) (by decide) rfl rfl rfl rfl (Nat.le_of_ble_eq_true rfl) ?_
  rintro _ h1 g1 ⟨rfl, c1, f1⟩
  refine SegP.run [] 400 ?_
  refine And.intro (ixS (w := 1) hi hL (by decide) rfl) ?_
  refine SegP.cV (zM_load hV (xs (nI i + 1).toNatClampNeg) h1 g1 (hM.out f1)) mlL_182 iyX6_load seX6_load oyX6_load rfl (by decide) rfl (by decide) (by decide) rfl rfl rfl rfl (Nat.le_of_ble_eq_true rfl) ?_
  rintro _ h2 g2 ⟨rfl, m2, f2⟩
  refine SegP.run [1647] 400 ?_
  exact And.intro (fun _ => k _ h2 g2 (c1.out f2) m2 (oV_load hV (xs (nI i + 1).toNatClampNeg))) (fun z => absurd rfl z)
set_option maxRecDepth 100000 in
set_option maxHeartbeats 400000 in
theorem lw_judge {L : Nat} {xs : Nat → Int32} {V : aV} {h : aH} {g : aG} (hC : CV h V) (hM : MV h V) (hV : VOk V) {i : Nat} (hi : i + 6 ≤ L) (hL : L ≤ 3072) {P : aCfg → Prop} (k : ∀ V' h' g', CV h' V' → MV h' V' → VOk V' → SegP (mL_law L xs) 12 (1647, [some (.ref 400), some (.ref 0), some (.ref 63), some (.int (nI i))], [], nW, h', g', ρ) P) : SegP (mL_law L xs) 12 (1539, [some (.ref 400), some (.ref 0), some (.ref 63), some (.int (nI i))], [], nW, h, g, ρ) P := by
  refine SegP.run [] 400 ?_
  refine And.intro (ixS (w := 1) hi hL (by decide) rfl) ?_
  refine SegP.cV (zC_judge hV (xs (nI i + 1).toNatClampNeg) h g hC) mlL_183 iyX5_judge seX5_judge oyX5_judge rfl (by decide) rfl (by decide) (by decide) rfl rfl rfl rfl (Nat.le_of_ble_eq_true rfl) ?_
  rintro _ h1 g1 ⟨rfl, c1, f1⟩
  refine SegP.run [] 400 ?_
  refine And.intro (ixS (w := 1) hi hL (by decide) rfl) ?_
  refine SegP.cV (zM_judge hV (xs (nI i + 1).toNatClampNeg) h1 g1 (hM.out f1)) mlL_186 iyX6_judge seX6_judge oyX6_judge rfl (by decide) rfl (by decide) (by decide) rfl rfl rfl rfl (Nat.le_of_ble_eq_true rfl) ?_
  rintro _ h2 g2 ⟨rfl, m2, f2⟩
  refine SegP.run [1647] 400 ?_
  exact And.intro (fun _ => k _ h2 g2 (c1.out f2) m2 (oV_judge hV (xs (nI i + 1).toNatClampNeg))) (fun z => absurd rfl z)
set_option maxRecDepth 100000 in
set_option maxHeartbeats 400000 in
theorem lw_image {L : Nat} {xs : Nat → Int32} {V : aV} {h : aH} {g : aG} (hC : CV h V) (hM : MV h V) (hV : VOk V) {i : Nat} (hi : i + 6 ≤ L) (hL : L ≤ 3072) {P : aCfg → Prop} (k : ∀ V' h' g', CV h' V' → MV h' V' → VOk V' → SegP (mL_law L xs) 12 (1647, [some (.ref 400), some (.ref 0), some (.ref 63), some (.int (nI i))], [], nW, h', g', ρ) P) : SegP (mL_law L xs) 12 (1562, [some (.ref 400), some (.ref 0), some (.ref 63), some (.int (nI i))], [], nW, h, g, ρ) P := by
  refine SegP.run [] 400 ?_
  refine SegP.cV (zC_image hV  h g hC) mlL_187 iyX5_image seX5_image oyX5_image rfl (by decide) rfl (by decide) (by decide) rfl rfl rfl rfl (Nat.le_of_ble_eq_true rfl) ?_
  rintro _ h1 g1 ⟨rfl, c1, f1⟩
  refine SegP.run [] 400 ?_
  refine SegP.cV (zM_image hV  h1 g1 (hM.out f1)) mlL_190 iyX6_image seX6_image oyX6_image rfl (by decide) rfl (by decide) (by decide) rfl rfl rfl rfl (Nat.le_of_ble_eq_true rfl) ?_
  rintro _ h2 g2 ⟨rfl, m2, f2⟩
  refine SegP.run [1647] 400 ?_
  exact And.intro (fun _ => k _ h2 g2 (c1.out f2) m2 (oV_image hV )) (fun z => absurd rfl z)
set_option maxRecDepth 100000 in
set_option maxHeartbeats 400000 in
theorem lw_undo {L : Nat} {xs : Nat → Int32} {V : aV} {h : aH} {g : aG} (hC : CV h V) (hM : MV h V) (hV : VOk V) {i : Nat} (hi : i + 6 ≤ L) (hL : L ≤ 3072) {P : aCfg → Prop} (k : ∀ V' h' g', CV h' V' → MV h' V' → VOk V' → SegP (mL_law L xs) 12 (1647, [some (.ref 400), some (.ref 0), some (.ref 63), some (.int (nI i))], [], nW, h', g', ρ) P) : SegP (mL_law L xs) 12 (1575, [some (.ref 400), some (.ref 0), some (.ref 63), some (.int (nI i))], [], nW, h, g, ρ) P := by
  refine SegP.run [] 400 ?_
  refine SegP.cV (zC_undo hV  h g hC) mlL_191 iyX5_undo seX5_undo oyX5_undo rfl (by decide) rfl (by decide) (by decide) rfl rfl rfl rfl (Nat.le_of_ble_eq_true rfl) ?_
  rintro _ h1 g1 ⟨rfl, c1, f1⟩
  refine SegP.run [] 400 ?_
  refine SegP.cV (zM_undo hV  h1 g1 (hM.out f1)) mlL_194 iyX6_undo seX6_undo oyX6_undo rfl (by decide) rfl (by decide) (by decide) rfl rfl rfl rfl (Nat.le_of_ble_eq_true rfl) ?_
  rintro _ h2 g2 ⟨rfl, m2, f2⟩
  refine SegP.run [1647] 400 ?_
  exact And.intro (fun _ => k _ h2 g2 (c1.out f2) m2 (oV_undo hV )) (fun z => absurd rfl z)
set_option maxRecDepth 100000 in
set_option maxHeartbeats 400000 in
theorem lw_tear {L : Nat} {xs : Nat → Int32} {V : aV} {h : aH} {g : aG} (hC : CV h V) (hM : MV h V) (hV : VOk V) {i : Nat} (hi : i + 6 ≤ L) (hL : L ≤ 3072) {P : aCfg → Prop} (k : ∀ V' h' g', CV h' V' → MV h' V' → VOk V' → SegP (mL_law L xs) 12 (1647, [some (.ref 400), some (.ref 0), some (.ref 63), some (.int (nI i))], [], nW, h', g', ρ) P) : SegP (mL_law L xs) 12 (1588, [some (.ref 400), some (.ref 0), some (.ref 63), some (.int (nI i))], [], nW, h, g, ρ) P := by
  refine SegP.run [] 400 ?_
  refine SegP.cV (zC_tear hV  h g hC) mlL_195 iyX5_tear seX5_tear oyX5_tear rfl (by decide) rfl (by decide) (by decide) rfl rfl rfl rfl (Nat.le_of_ble_eq_true rfl) ?_
  rintro _ h1 g1 ⟨rfl, c1, f1⟩
  refine SegP.run [] 400 ?_
  refine SegP.cV (zM_tear hV  h1 g1 (hM.out f1)) mlL_198 iyX6_tear seX6_tear oyX6_tear rfl (by decide) rfl (by decide) (by decide) rfl rfl rfl rfl (Nat.le_of_ble_eq_true rfl) ?_
  rintro _ h2 g2 ⟨rfl, m2, f2⟩
  refine SegP.run [1647] 400 ?_
  exact And.intro (fun _ => k _ h2 g2 (c1.out f2) m2 (oV_tear hV )) (fun z => absurd rfl z)
set_option maxRecDepth 100000 in
set_option maxHeartbeats 400000 in
theorem lw_count {L : Nat} {xs : Nat → Int32} {V : aV} {h : aH} {g : aG} (hC : CV h V) (hM : MV h V) (hV : VOk V) {i : Nat} (hi : i + 6 ≤ L) (hL : L ≤ 3072) {P : aCfg → Prop} (k : ∀ V' h' g', CV h' V' → MV h' V' → VOk V' → SegP (mL_law L xs) 12 (1647, [some (.ref 400), some (.ref 0), some (.ref 63), some (.int (nI i))], [], nW, h', g', ρ) P) : SegP (mL_law L xs) 12 (1601, [some (.ref 400), some (.ref 0), some (.ref 63), some (.int (nI i))], [], nW, h, g, ρ) P := by
  refine SegP.run [] 400 ?_
  refine And.intro (ixS (w := 1) hi hL (by decide) rfl) ?_
  refine SegP.cV (zC_count hV (xs (nI i + 1).toNatClampNeg) h g hC) mlL_199 iyX5_count seX5_count oyX5_count rfl (by decide) rfl (by decide) (by decide) rfl rfl rfl rfl (Nat.le_of_ble_eq_true rfl) ?_
  rintro _ h1 g1 ⟨rfl, c1, f1⟩
  refine SegP.run [] 400 ?_
  refine And.intro (ixS (w := 1) hi hL (by decide) rfl) ?_
  refine SegP.cV (zM_count hV (xs (nI i + 1).toNatClampNeg) h1 g1 (hM.out f1)) mlL_202 iyX6_count seX6_count oyX6_count rfl (by decide) rfl (by decide) (by decide) rfl rfl rfl rfl (Nat.le_of_ble_eq_true rfl) ?_
  rintro _ h2 g2 ⟨rfl, m2, f2⟩
  refine SegP.run [1647] 400 ?_
  exact And.intro (fun _ => k _ h2 g2 (c1.out f2) m2 (oV_count hV (xs (nI i + 1).toNatClampNeg))) (fun z => absurd rfl z)
set_option maxRecDepth 100000 in
set_option maxHeartbeats 400000 in
theorem lw_status {L : Nat} {xs : Nat → Int32} {V : aV} {h : aH} {g : aG} (hC : CV h V) (hM : MV h V) (hV : VOk V) {i : Nat} (hi : i + 6 ≤ L) (hL : L ≤ 3072) {P : aCfg → Prop} (k : ∀ V' h' g', CV h' V' → MV h' V' → VOk V' → SegP (mL_law L xs) 12 (1647, [some (.ref 400), some (.ref 0), some (.ref 63), some (.int (nI i))], [], nW, h', g', ρ) P) : SegP (mL_law L xs) 12 (1624, [some (.ref 400), some (.ref 0), some (.ref 63), some (.int (nI i))], [], nW, h, g, ρ) P := by
  refine SegP.run [] 400 ?_
  refine And.intro (ixS (w := 1) hi hL (by decide) rfl) ?_
  refine SegP.cV (zC_status hV (xs (nI i + 1).toNatClampNeg) h g hC) mlL_203 iyX5_status seX5_status oyX5_status rfl (by decide) rfl (by decide) (by decide) rfl rfl rfl rfl (Nat.le_of_ble_eq_true rfl) ?_
  rintro _ h1 g1 ⟨rfl, c1, f1⟩
  refine SegP.run [] 400 ?_
  refine And.intro (ixS (w := 1) hi hL (by decide) rfl) ?_
  refine SegP.cV (zM_status hV (xs (nI i + 1).toNatClampNeg) h1 g1 (hM.out f1)) mlL_206 iyX6_status seX6_status oyX6_status rfl (by decide) rfl (by decide) (by decide) rfl rfl rfl rfl (Nat.le_of_ble_eq_true rfl) ?_
  rintro _ h2 g2 ⟨rfl, m2, f2⟩
  refine SegP.run [1647] 400 ?_
  exact And.intro (fun _ => k _ h2 g2 (c1.out f2) m2 (oV_status hV (xs (nI i + 1).toNatClampNeg))) (fun z => absurd rfl z)
