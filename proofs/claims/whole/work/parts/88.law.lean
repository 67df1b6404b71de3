/-! ===== the law: each call; printed by wip/whole/gen88.py ===== -/
theorem CV.out {h h' : aH} {V : aV} (hv : CV h V) (f : ∀ a, a < 63 → h' a = h a) : CV h' V := hv.fr fun a ha _ => f a ha
theorem MV.out {h h' : aH} {V : aV} (hv : MV h V) (f : ∀ a, 63 ≤ a → h' a = h a) : MV h' V := hv.fr (fun a ha => f a (by omega)) (by rw [f 63 (by decide)]) (by rw [f 63 (by decide)])
theorem ixS {i L w : Nat} (hi : i + 6 ≤ L) (hL : L ≤ 3072) (hw : w < 6) {x : Int32} (hx : x = nI w) : vp_in (nI i + x) L := by
  subst hx
  rw [nI_ad]
  exact in10 (by omega) (by omega)
set_option maxRecDepth 100000 in
set_option maxHeartbeats 400000 in
theorem lw_feed {L : Nat} {xs : Nat → Int32} {V : aV} {h : aH} {g : aG} (hC : CV h V) (hM : MV h V) (hV : VOk V) {i : Nat} (hi : i + 6 ≤ L) (hL : L ≤ 3072) {P : aCfg → Prop} (k : ∀ V' h' g', CV h' V' → MV h' V' → VOk V' → SegP (mL_law L xs) 12 (1647, [some (.ref 400), some (.ref 0), some (.ref 63), some (.int (nI i))], [], nW, h', g', ρ) P) : SegP (mL_law L xs) 12 (236, [some (.ref 400), some (.ref 0), some (.ref 63), some (.int (nI i))], [], nW, h, g, ρ) P := by
  refine SegP.run [] 400 ?_
  refine And.intro (ixS (w := 1) hi hL (by decide) rfl) ?_
  refine And.intro (ixS (w := 2) hi hL (by decide) rfl) ?_
  refine SegP.cV (zC_feed hV (xs (nI i + 1).toNatClampNeg) (xs (nI i + 2).toNatClampNeg) h g hC) mlL_13 iyX5_feed seX5_feed oyX5_feed rfl (by decide) rfl (by decide) (by decide) rfl rfl rfl rfl (Nat.le_of_ble_eq_true rfl) ?_
  rintro _ h1 g1 ⟨rfl, c1, f1⟩
  refine SegP.run [] 400 ?_
  refine And.intro (ixS (w := 1) hi hL (by decide) rfl) ?_
  refine And.intro (ixS (w := 2) hi hL (by decide) rfl) ?_
  refine SegP.cV (zM_feed hV (xs (nI i + 1).toNatClampNeg) (xs (nI i + 2).toNatClampNeg) h1 g1 (hM.out f1)) mlL_17 iyX6_feed seX6_feed oyX6_feed rfl (by decide) rfl (by decide) (by decide) rfl rfl rfl rfl (Nat.le_of_ble_eq_true rfl) ?_
  rintro _ h2 g2 ⟨rfl, m2, f2⟩
  refine SegP.run [1647] 400 ?_
  exact And.intro (fun _ => k _ h2 g2 (c1.out f2) m2 (oV_feed hV (xs (nI i + 1).toNatClampNeg) (xs (nI i + 2).toNatClampNeg))) (fun z => absurd rfl z)
set_option maxRecDepth 100000 in
set_option maxHeartbeats 400000 in
theorem lw_wipe {L : Nat} {xs : Nat → Int32} {V : aV} {h : aH} {g : aG} (hC : CV h V) (hM : MV h V) (hV : VOk V) {i : Nat} (hi : i + 6 ≤ L) (hL : L ≤ 3072) {P : aCfg → Prop} (k : ∀ V' h' g', CV h' V' → MV h' V' → VOk V' → SegP (mL_law L xs) 12 (1647, [some (.ref 400), some (.ref 0), some (.ref 63), some (.int (nI i))], [], nW, h', g', ρ) P) : SegP (mL_law L xs) 12 (269, [some (.ref 400), some (.ref 0), some (.ref 63), some (.int (nI i))], [], nW, h, g, ρ) P := by
  refine SegP.run [] 400 ?_
  refine SegP.cV (zC_wipe hV  h g hC) mlL_18 iyX5_wipe seX5_wipe oyX5_wipe rfl (by decide) rfl (by decide) (by decide) rfl rfl rfl rfl (Nat.le_of_ble_eq_true rfl) ?_
  rintro _ h1 g1 ⟨rfl, c1, f1⟩
  refine SegP.run [] 400 ?_
  refine SegP.cV (zM_wipe hV  h1 g1 (hM.out f1)) mlL_22 iyX6_wipe seX6_wipe oyX6_wipe rfl (by decide) rfl (by decide) (by decide) rfl rfl rfl rfl (Nat.le_of_ble_eq_true rfl) ?_
  rintro _ h2 g2 ⟨rfl, m2, f2⟩
  refine SegP.run [1647] 400 ?_
  exact And.intro (fun _ => k _ h2 g2 (c1.out f2) m2 (oV_wipe hV )) (fun z => absurd rfl z)
set_option maxRecDepth 100000 in
set_option maxHeartbeats 400000 in
theorem lw_town {L : Nat} {xs : Nat → Int32} {V : aV} {h : aH} {g : aG} (hC : CV h V) (hM : MV h V) (hV : VOk V) {i : Nat} (hi : i + 6 ≤ L) (hL : L ≤ 3072) {P : aCfg → Prop} (k : ∀ V' h' g', CV h' V' → MV h' V' → VOk V' → SegP (mL_law L xs) 12 (1647, [some (.ref 400), some (.ref 0), some (.ref 63), some (.int (nI i))], [], nW, h', g', ρ) P) : SegP (mL_law L xs) 12 (282, [some (.ref 400), some (.ref 0), some (.ref 63), some (.int (nI i))], [], nW, h, g, ρ) P := by
  refine SegP.run [] 400 ?_
  refine SegP.cV (zC_town hV  h g hC) mlL_23 iyX5_town seX5_town oyX5_town rfl (by decide) rfl (by decide) (by decide) rfl rfl rfl rfl (Nat.le_of_ble_eq_true rfl) ?_
  rintro _ h1 g1 ⟨rfl, c1, f1⟩
  refine SegP.run [] 400 ?_
  refine SegP.cV (zM_town hV  h1 g1 (hM.out f1)) mlL_26 iyX6_town seX6_town oyX6_town rfl (by decide) rfl (by decide) (by decide) rfl rfl rfl rfl (Nat.le_of_ble_eq_true rfl) ?_
  rintro _ h2 g2 ⟨rfl, m2, f2⟩
  refine SegP.run [1647] 400 ?_
  exact And.intro (fun _ => k _ h2 g2 (c1.out f2) m2 (oV_town hV )) (fun z => absurd rfl z)
