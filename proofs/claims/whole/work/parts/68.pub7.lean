/-! ===== the reference's searches: most, best, helps, likely; its public methods; printed by wip/whole/gen68.py ===== -/
set_option maxRecDepth 100000 in
set_option maxHeartbeats 400000 in
theorem lX6_most {h : aH} {g : aG} {V : aV} (hd : FD h V) (m : Nat) (hm : m < 2 ^ 31) (a b : Int32) : Seg mX6_most 11 (35, [some (.ref 63), some (.int (nI m)), some (.int a), some (.int b), some (.int 0), some (.int 1), none], [], nW, h, g, ρ) (111, [some (.ref 63), some (.int (nI m)), some (.int a), some (.int b), some (.int (foI (moS V.1 m a b (2 ^ nP V.1)))), some (.int (nI (2 ^ nP V.1))), none], [], nW, h, g, ρ) := by
  have hf := hd.1
  have ht := hf.2.2.2.2
  have hp := pow_le10 ht.np.1
  have h1p : 1 ≤ 2 ^ nP V.1 := Nat.one_le_two_pow
  have w8 := wh8 ht
  have in0 : vp_in (0 : Int32) 108 := in10 (p := 0) (by decide) (by decide)
  have mo0 : moS V.1 m a b (0 + 1) = some 0 := se_pos (Or.inl rfl) (fun k h => by cases h)
  have e2 : (h 63 15).toInt64 = lN (whN V.1) := by rw [hf.2.2.1, w8.2.2]; exact nI_l (by omega)
  have eN : 2 ^ nP V.1 - 1 + 1 = 2 ^ nP V.1 := by omega
  refine Seg.tr (b := (35, [some (.ref 63), some (.int (nI m)), some (.int a), some (.int b), some (.int (foI (moS V.1 m a b (0 + 1)))), some (.int (nI (0 + 1))), none], [], nW, h, g, ρ)) (Seg.of (by rw [mo0] <;> rfl)) ?_
  refine Seg.tr (Seg.iter (fun i => (35, [some (.ref 63), some (.int (nI m)), some (.int a), some (.int b), some (.int (foI (moS V.1 m a b (i + 1)))), some (.int (nI (i + 1))), none], [], nW, h, g, ρ)) (2 ^ nP V.1 - 1) (fun i hi => ?_)) ?_
  · have hi2 : i + 1 < 2 ^ nP V.1 := by omega
    have his := sets_lt ht hi2
    obtain ⟨f, hf'⟩ := mo_some (T := V.1) (m := m) (a := a) (b := b) i
    have fl : f < 1024 := by have := (se_lt (i + 1) f hf').1; omega
    have pi := pcN_le (i + 1) his
    have pf := pcN_le f fl
    have hh := tX6_harmOf h V.1 g hf (nI (i + 1)) (nI m)
    rw [← hr_ha ht hm] at hh
    have hrl : hrN V.1 (i + 1) m < 2 ^ 31 := by rw [hr_ha ht hm]; exact ha_l ht
    have e1 : (nI (hrN V.1 (i + 1) m)).toInt64 = lN (hrN V.1 (i + 1) m) := nI_l hrl
    have no : ¬ ((i + 1 = 0 ∨ okM V.1 (i + 1) m a b) ∧ pcN f < pcN (i + 1)) → ∀ x : Option Value, Seg mX6_most 11 (101, [some (.ref 63), some (.int (nI m)), some (.int a), some (.int b), some (.int (nI f)), some (.int (nI (i + 1))), x], [], nW, h, g, ρ) (35, [some (.ref 63), some (.int (nI m)), some (.int a), some (.int b), some (.int (foI (moS V.1 m a b (i + 1 + 1)))), some (.int (nI (i + 1 + 1))), none], [], nW, h, g, ρ) := by
      intro z x
      refine Seg.tr (Seg.fg 6) ?_
      refine Seg.tr (b := (101, [some (.ref 63), some (.int (nI m)), some (.int a), some (.int b), some (.int (nI f)), some (.int (nI (i + 1))), none], [], nW, h, g, ρ)) Seg.rf ?_
      refine Seg.run [35] 400 ?_
      refine Seg.of ?_
      rw [show moS V.1 m a b (i + 1 + 1) = moS V.1 m a b (i + 1) from se_neg fun y => z ⟨y.1, y.2 f hf'⟩, hf', nI_succ (i + 1)] <;> rfl
    rw [hf']
    refine Seg.run [] 400 ?_
    refine And.intro in0 ?_
    refine And.intro (fun z => ?_) (fun z => ?_)
    · exact absurd (show nI (2 ^ nP V.1) ≤ nI (i + 1) by rw [← hd.sh]; exact z) (nI_ge hi2 (by omega))
    refine Seg.tr (Seg.cS (tX6_many h g (i + 1) his) mlX6_240 syX6_many oyX6_many rfl (by decide) rfl rfl rfl (Nat.le_of_ble_eq_true rfl) (Nat.le_of_ble_eq_true rfl)) ?_
    refine Seg.run [] 400 ?_
    refine Seg.tr (Seg.cS (tX6_many h g f fl) mlX6_240 syX6_many oyX6_many rfl (by decide) rfl rfl rfl (Nat.le_of_ble_eq_true rfl) (Nat.le_of_ble_eq_true rfl)) ?_
    refine Seg.run [101] 400 ?_
    refine And.intro (fun z => ?_) (fun z => ?_)
    · have z3 := (nI_leI (by omega) (by omega)).mp z
      refine And.intro (fun _ => no (fun y => by omega) _) (fun y => absurd rfl y)
    have z3 : pcN f < pcN (i + 1) := by
      rcases Nat.lt_or_ge (pcN f) (pcN (i + 1)) with y | y
      · exact y
      · exact absurd ((nI_leI (by omega) (by omega)).mpr y) z
    refine And.intro (fun y => absurd y (by decide : ¬ (1 : Int32) = 0)) (fun _ => ?_)
    refine Seg.tr (Seg.cV hh mlX6_237 iyX6_harmOf seX6_harmOf oyX6_harmOf rfl (by decide) rfl (by decide) (by decide) rfl rfl rfl rfl (Nat.le_of_ble_eq_true rfl) (Nat.le_of_ble_eq_true rfl)) ?_
    refine Seg.run [35, 101] 400 ?_
    refine And.intro (fun z4 => ?_) (fun z4 => ?_)
    · have z5 : 0 < lg_cmp ((nI (hrN V.1 (i + 1) m)).toInt64 * b.toInt64) ((h 63 15).toInt64 * a.toInt64) := z4
      rw [e1, e2, Int64.mul_comm (lN (whN V.1))] at z5
      refine no (fun y => ?_) _
      rcases y.1 with y1 | y1
      · omega
      · exact absurd ((lg_cmp_gt _ _).mp z5) (Int64.not_lt.mpr y1)
    · have z5 : ¬ 0 < lg_cmp ((nI (hrN V.1 (i + 1) m)).toInt64 * b.toInt64) ((h 63 15).toInt64 * a.toInt64) := z4
      rw [e1, e2, Int64.mul_comm (lN (whN V.1))] at z5
      have ok : okM V.1 (i + 1) m a b := Int64.not_lt.mp fun y => z5 ((lg_cmp_gt _ _).mpr y)
      refine Seg.tr (Seg.fg 6) ?_
      refine Seg.of ?_
      rw [show moS V.1 m a b (i + 1 + 1) = some (i + 1) from se_pos (Or.inr ok) (fun k hk => by obtain rfl : f = k := Option.some.inj (hf'.symm.trans hk); exact z3), nI_succ (i + 1)] <;> rfl
  · rw [eN]
    refine Seg.run [111] 400 ?_
    refine And.intro in0 ?_
    refine And.intro (fun z => ?_) (fun z => ?_)
    · exact Seg.rf
    · exact absurd (show (1 : Int32) <<< (h 64 (0 : Int32).toNatClampNeg &&& 31) ≤ nI (2 ^ nP V.1) by rw [hd.sh]; exact nI_le (Nat.le_refl _) (by omega)) z
/-- worths less costs, as the reference has it -/
def bvJ (T : aH) (S : Nat) : Int32 := nI (mwN T S) - nI (mcN T S)
theorem bvJ_lt {T : aH} (ht : TOk T) {S F : Nat} : bvJ T F < bvJ T S ↔ ((mwN T F : Int) - mcN T F < (mwN T S : Int) - mcN T S) := by
  have b1 := mwN_l ht S
  have b2 := mcN_l ht S
  have b3 := mwN_l ht F
  have b4 := mcN_l ht F
  have key : ∀ S, mwN T S < 2 ^ 31 → mcN T S < 2 ^ 31 → (bvJ T S).toInt = (mwN T S : Int) - mcN T S := fun S h1 h2 => by
    unfold bvJ
    rw [Int32.toInt_sub, nI_toInt h1, nI_toInt h2]
    apply Int.bmod_eq_of_le
    · simp only [show ((2 ^ 32 : Nat) : Int) = 4294967296 from rfl]; omega
    · simp only [show ((2 ^ 32 : Nat) : Int) = 4294967296 from rfl]; omega
  rw [Int32.lt_iff_toInt_lt, key S b1 b2, key F b3 b4]
set_option maxRecDepth 100000 in
set_option maxHeartbeats 400000 in
theorem lX6_best {h : aH} {g : aG} {V : aV} (hd : FD h V) : Seg mX6_best 11 (20, [some (.ref 63), some (.int 0), some (.int (bvJ V.1 0)), some (.int 1), none], [], nW, h, g, ρ) (aRET, [], [.int (foI (beS V.1 (2 ^ nP V.1)))], nW, h, g, ρ) := by
  have hf := hd.1
  have ht := hf.2.2.2.2
  have hp := pow_le10 ht.np.1
  have h1p : 1 ≤ 2 ^ nP V.1 := Nat.one_le_two_pow
  have in0 : vp_in (0 : Int32) 108 := in10 (p := 0) (by decide) (by decide)
  have be0 : beS V.1 (0 + 1) = some 0 := se_pos trivial (fun k h => by cases h)
  have eN : 2 ^ nP V.1 - 1 + 1 = 2 ^ nP V.1 := by omega
  have bel : ∀ x : Option Nat, bvJ V.1 (x.getD 0) = bvJ V.1 (x.getD 0) := fun _ => rfl
  refine Seg.tr (b := (20, [some (.ref 63), some (.int (foI (beS V.1 (0 + 1)))), some (.int (bvJ V.1 ((beS V.1 (0 + 1)).getD 0))), some (.int (nI (0 + 1))), none], [], nW, h, g, ρ)) (Seg.of (by rw [be0] <;> rfl)) ?_
  refine Seg.tr (Seg.iter (fun i => (20, [some (.ref 63), some (.int (foI (beS V.1 (i + 1)))), some (.int (bvJ V.1 ((beS V.1 (i + 1)).getD 0))), some (.int (nI (i + 1))), none], [], nW, h, g, ρ)) (2 ^ nP V.1 - 1) (fun i hi => ?_)) ?_
  · have hi2 : i + 1 < 2 ^ nP V.1 := by omega
    obtain ⟨f, hf'⟩ := be_some (T := V.1) i
    have hw := tX6_worthOf h V.1 g hf (nI (i + 1))
    rw [← mw_wo ht] at hw
    have hm := tX6_meanOf h V.1 g hf (nI (i + 1))
    rw [← mc_me ht] at hm
    rw [hf']
    refine Seg.run [] 400 ?_
    refine And.intro in0 ?_
    refine And.intro (fun z => ?_) (fun z => ?_)
    · exact absurd (show nI (2 ^ nP V.1) ≤ nI (i + 1) by rw [← hd.sh]; exact z) (nI_ge hi2 (by omega))
    refine Seg.tr (Seg.cV hw mlX6_234 iyX6_worthOf seX6_worthOf oyX6_worthOf rfl (by decide) rfl (by decide) (by decide) rfl rfl rfl rfl (Nat.le_of_ble_eq_true rfl) (Nat.le_of_ble_eq_true rfl)) ?_
    refine Seg.run [] 400 ?_
    refine Seg.tr (Seg.cV hm mlX6_231 iyX6_meanOf seX6_meanOf oyX6_meanOf rfl (by decide) rfl (by decide) (by decide) rfl rfl rfl rfl (Nat.le_of_ble_eq_true rfl) (Nat.le_of_ble_eq_true rfl)) ?_
    refine Seg.run [20] 400 ?_
    refine And.intro (fun z => ?_) (fun z => ?_)
    · have z1 : bvJ V.1 (i + 1) ≤ bvJ V.1 f := z
      refine And.intro (fun _ => ?_) (fun y => absurd z y)
      refine Seg.tr (Seg.fg 4) ?_
      refine Seg.of ?_
      rw [show beS V.1 (i + 1 + 1) = beS V.1 (i + 1) from se_neg fun y => absurd z1 (Int32.not_le.mpr ((bvJ_lt ht).mpr (y.2 f hf'))), hf', nI_succ (i + 1)] <;> rfl
    · have z1 : bvJ V.1 f < bvJ V.1 (i + 1) := Int32.not_le.mp z
      refine And.intro (fun y => absurd y z) (fun _ => ?_)
      refine Seg.tr (Seg.fg 4) ?_
      refine Seg.of ?_
      rw [show beS V.1 (i + 1 + 1) = some (i + 1) from se_pos trivial (fun k hk => by obtain rfl : f = k := Option.some.inj (hf'.symm.trans hk); exact (bvJ_lt ht).mp z1), nI_succ (i + 1)] <;> rfl
  · rw [eN]
    refine Seg.run [] 400 ?_
    refine And.intro in0 ?_
    refine And.intro (fun z => ?_) (fun z => ?_)
    · exact Seg.rf
    · exact absurd (show (1 : Int32) <<< (h 64 (0 : Int32).toNatClampNeg &&& 31) ≤ nI (2 ^ nP V.1) by rw [hd.sh]; exact nI_le (Nat.le_refl _) (by omega)) z
set_option maxRecDepth 100000 in
set_option maxHeartbeats 400000 in
theorem zM_fewest {V : aV} (hV : VOk V) (k a b : Int32) : DX mX6_fewest 11 [.int k, .int a, .int b] V (sp_fewest V k a b) := by
  intro h g hv
  obtain ⟨v1, v2, v3, v4, v5, v6⟩ := id hv
  have ht := hV.1
  refine MX.of okX6_fewest (by decide +kernel) (Nat.le_of_ble_eq_true rfl) (by decide) rfl (by decide) ?_
  refine SegP.run [] 400 ?_
  refine SegP.tr (Seg.cV (tX6_isNeed ht v1 k) mlX6_168 iyX6_isNeed seX6_isNeed oyX6_isNeed rfl (by decide) rfl (by decide) (by decide) rfl rfl rfl rfl (Nat.le_of_ble_eq_true rfl) (Nat.le_of_ble_eq_true rfl)) ?_
  refine SegP.run [] 400 ?_
  refine And.intro (fun z0 => ?_) (fun z0 => ?_)
  · refine SegP.tr (Seg.cV (tX6_fd h g 0 (by decide) 0 (by decide) (-1000001) (by decide)) mlX6_51 iyX6_finding seX6_finding oyX6_finding rfl (by decide) rfl (by decide) (by decide) rfl rfl rfl rfl (Nat.le_of_ble_eq_true rfl) (Nat.le_of_ble_eq_true rfl)) ?_
    refine SegP.run [] 400 ?_
    exact mfn hv (k := 0) (by decide) (by rw [sp_fewest, if_neg (fun y => bq0 z0 y.1)])
  have q0 := bq1 z0
  refine SegP.tr (Seg.cS ((tX6_isChance a b).ms h g) mlX6_243 syX6_isChance oyX6_isChance rfl (by decide) rfl rfl rfl (Nat.le_of_ble_eq_true rfl) (Nat.le_of_ble_eq_true rfl)) ?_
  refine SegP.run [] 400 ?_
  refine And.intro (fun z1 => ?_) (fun z1 => ?_)
  · have q1 := bn1 z1
    obtain ⟨k', hk, rfl⟩ := isN_N ht q0
    have h6 := ht.nn.1
    refine SegP.tr (Seg.cV (tX6_findThrows h g (by rw [v1]; exact ht)) mlX6_218 iyX6_findThrows seX6_findThrows oyX6_findThrows rfl (by decide) rfl (by decide) (by decide) rfl rfl rfl rfl (Nat.le_of_ble_eq_true rfl) (Nat.le_of_ble_eq_true rfl)) ?_
    have hf := FT_ft (h := h) (by rw [v1]; exact ht)
    rw [v1] at hf
    have hd : FD (ftH h) V := ⟨hf, ftV hv⟩
    refine SegP.run [32] 400 ?_
    refine SegP.tr (lX6_fewest hd k' (by omega) a b) ?_
    refine SegP.run [] 400 ?_
    refine And.intro (fun zz => ?_) (fun zz => ?_)
    · exact mid' (ftV hv) ftF (by rw [sp_fewest, if_pos ⟨q0, q1⟩, cl_nI (by omega), if_neg (Int32.not_lt.mpr zz)])
    · refine SegP.tr (Seg.cV (tX6_fd (ftH h) g 3 (by decide) 3 (by decide) (-1000004) (by decide)) mlX6_51 iyX6_finding seX6_finding oyX6_finding rfl (by decide) rfl (by decide) (by decide) rfl rfl rfl rfl (Nat.le_of_ble_eq_true rfl) (Nat.le_of_ble_eq_true rfl)) ?_
      refine SegP.run [] 400 ?_
      exact mfn' (ftV hv) ftF (k := 3) (by decide) (by rw [sp_fewest, if_pos ⟨q0, q1⟩, cl_nI (by omega), if_pos (Int32.not_le.mp zz)])
  · refine SegP.tr (Seg.cV (tX6_fd h g 0 (by decide) 0 (by decide) (-1000001) (by decide)) mlX6_51 iyX6_finding seX6_finding oyX6_finding rfl (by decide) rfl (by decide) (by decide) rfl rfl rfl rfl (Nat.le_of_ble_eq_true rfl) (Nat.le_of_ble_eq_true rfl)) ?_
    refine SegP.run [] 400 ?_
    exact mfn hv (k := 0) (by decide) (by rw [sp_fewest, if_neg (fun y => bn0 z1 y.2)])
set_option maxRecDepth 100000 in
set_option maxHeartbeats 400000 in
theorem zM_cheapest {V : aV} (hV : VOk V) (k a b : Int32) : DX mX6_cheapest 11 [.int k, .int a, .int b] V (sp_cheapest V k a b) := by
  intro h g hv
  obtain ⟨v1, v2, v3, v4, v5, v6⟩ := id hv
  have ht := hV.1
  refine MX.of okX6_cheapest (by decide +kernel) (Nat.le_of_ble_eq_true rfl) (by decide) rfl (by decide) ?_
  refine SegP.run [] 400 ?_
  refine SegP.tr (Seg.cV (tX6_isNeed ht v1 k) mlX6_168 iyX6_isNeed seX6_isNeed oyX6_isNeed rfl (by decide) rfl (by decide) (by decide) rfl rfl rfl rfl (Nat.le_of_ble_eq_true rfl) (Nat.le_of_ble_eq_true rfl)) ?_
  refine SegP.run [] 400 ?_
  refine And.intro (fun z0 => ?_) (fun z0 => ?_)
  · refine SegP.tr (Seg.cV (tX6_fd h g 0 (by decide) 0 (by decide) (-1000001) (by decide)) mlX6_51 iyX6_finding seX6_finding oyX6_finding rfl (by decide) rfl (by decide) (by decide) rfl rfl rfl rfl (Nat.le_of_ble_eq_true rfl) (Nat.le_of_ble_eq_true rfl)) ?_
    refine SegP.run [] 400 ?_
    exact mfn hv (k := 0) (by decide) (by rw [sp_cheapest, if_neg (fun y => bq0 z0 y.1)])
  have q0 := bq1 z0
  refine SegP.tr (Seg.cS ((tX6_isChance a b).ms h g) mlX6_243 syX6_isChance oyX6_isChance rfl (by decide) rfl rfl rfl (Nat.le_of_ble_eq_true rfl) (Nat.le_of_ble_eq_true rfl)) ?_
  refine SegP.run [] 400 ?_
  refine And.intro (fun z1 => ?_) (fun z1 => ?_)
  · have q1 := bn1 z1
    obtain ⟨k', hk, rfl⟩ := isN_N ht q0
    have h6 := ht.nn.1
    refine SegP.tr (Seg.cV (tX6_findThrows h g (by rw [v1]; exact ht)) mlX6_218 iyX6_findThrows seX6_findThrows oyX6_findThrows rfl (by decide) rfl (by decide) (by decide) rfl rfl rfl rfl (Nat.le_of_ble_eq_true rfl) (Nat.le_of_ble_eq_true rfl)) ?_
    have hf := FT_ft (h := h) (by rw [v1]; exact ht)
    rw [v1] at hf
    have hd : FD (ftH h) V := ⟨hf, ftV hv⟩
    refine SegP.run [35] 400 ?_
    refine SegP.tr (lX6_cheapest hd k' (by omega) a b) ?_
    refine SegP.run [] 400 ?_
    refine And.intro (fun zz => ?_) (fun zz => ?_)
    · exact mid' (ftV hv) ftF (by rw [sp_cheapest, if_pos ⟨q0, q1⟩, cl_nI (by omega), if_neg (Int32.not_lt.mpr zz)])
    · refine SegP.tr (Seg.cV (tX6_fd (ftH h) g 3 (by decide) 3 (by decide) (-1000004) (by decide)) mlX6_51 iyX6_finding seX6_finding oyX6_finding rfl (by decide) rfl (by decide) (by decide) rfl rfl rfl rfl (Nat.le_of_ble_eq_true rfl) (Nat.le_of_ble_eq_true rfl)) ?_
      refine SegP.run [] 400 ?_
      exact mfn' (ftV hv) ftF (k := 3) (by decide) (by rw [sp_cheapest, if_pos ⟨q0, q1⟩, cl_nI (by omega), if_pos (Int32.not_le.mp zz)])
  · refine SegP.tr (Seg.cV (tX6_fd h g 0 (by decide) 0 (by decide) (-1000001) (by decide)) mlX6_51 iyX6_finding seX6_finding oyX6_finding rfl (by decide) rfl (by decide) (by decide) rfl rfl rfl rfl (Nat.le_of_ble_eq_true rfl) (Nat.le_of_ble_eq_true rfl)) ?_
    refine SegP.run [] 400 ?_
    exact mfn hv (k := 0) (by decide) (by rw [sp_cheapest, if_neg (fun y => bn0 z1 y.2)])
set_option maxRecDepth 100000 in
set_option maxHeartbeats 400000 in
theorem zM_most {V : aV} (hV : VOk V) (m a b : Int32) : DX mX6_most 11 [.int m, .int a, .int b] V (sp_most V m a b) := by
  intro h g hv
  obtain ⟨v1, v2, v3, v4, v5, v6⟩ := id hv
  have ht := hV.1
  refine MX.of okX6_most (by decide +kernel) (Nat.le_of_ble_eq_true rfl) (by decide) rfl (by decide) ?_
  refine SegP.run [] 400 ?_
  refine SegP.tr (Seg.cS ((tX6_in m 0 9999).ms h g) mlX6_47 syX6_in oyX6_in rfl (by decide) rfl rfl rfl (Nat.le_of_ble_eq_true rfl) (Nat.le_of_ble_eq_true rfl)) ?_
  refine SegP.run [] 400 ?_
  refine And.intro (fun z0 => ?_) (fun z0 => ?_)
  · refine SegP.tr (Seg.cV (tX6_fd h g 0 (by decide) 0 (by decide) (-1000001) (by decide)) mlX6_51 iyX6_finding seX6_finding oyX6_finding rfl (by decide) rfl (by decide) (by decide) rfl rfl rfl rfl (Nat.le_of_ble_eq_true rfl) (Nat.le_of_ble_eq_true rfl)) ?_
    refine SegP.run [] 400 ?_
    exact mfn hv (k := 0) (by decide) (by rw [sp_most, if_neg (fun y => bq0 z0 y.1)])
  have q0 := bq1 z0
  refine SegP.tr (Seg.cS ((tX6_isChance a b).ms h g) mlX6_243 syX6_isChance oyX6_isChance rfl (by decide) rfl rfl rfl (Nat.le_of_ble_eq_true rfl) (Nat.le_of_ble_eq_true rfl)) ?_
  refine SegP.run [] 400 ?_
  refine And.intro (fun z1 => ?_) (fun z1 => ?_)
  · have q1 := bn1 z1
    obtain ⟨m', hm, rfl⟩ := rng (a := 0) (b := 9999) (by decide) (show nI 0 ≤ m ∧ m ≤ nI 9999 from q0) (by decide)
    refine SegP.tr (Seg.cV (tX6_findThrows h g (by rw [v1]; exact ht)) mlX6_218 iyX6_findThrows seX6_findThrows oyX6_findThrows rfl (by decide) rfl (by decide) (by decide) rfl rfl rfl rfl (Nat.le_of_ble_eq_true rfl) (Nat.le_of_ble_eq_true rfl)) ?_
    have hf := FT_ft (h := h) (by rw [v1]; exact ht)
    rw [v1] at hf
    have hd : FD (ftH h) V := ⟨hf, ftV hv⟩
    refine SegP.run [35] 400 ?_
    refine SegP.tr (lX6_most hd m' (by omega) a b) ?_
    refine SegP.run [] 400 ?_
    exact mid' (ftV hv) ftF (by rw [sp_most, if_pos ⟨q0, q1⟩, cl_nI (by omega)])
  · refine SegP.tr (Seg.cV (tX6_fd h g 0 (by decide) 0 (by decide) (-1000001) (by decide)) mlX6_51 iyX6_finding seX6_finding oyX6_finding rfl (by decide) rfl (by decide) (by decide) rfl rfl rfl rfl (Nat.le_of_ble_eq_true rfl) (Nat.le_of_ble_eq_true rfl)) ?_
    refine SegP.run [] 400 ?_
    exact mfn hv (k := 0) (by decide) (by rw [sp_most, if_neg (fun y => bn0 z1 y.2)])
set_option maxRecDepth 100000 in
set_option maxHeartbeats 400000 in
theorem zM_best {V : aV} (hV : VOk V)  : DX mX6_best 11 [] V (sp_best V ) := by
  intro h g hv
  obtain ⟨v1, v2, v3, v4, v5, v6⟩ := id hv
  have ht := hV.1
  refine MX.of okX6_best (by decide +kernel) (Nat.le_of_ble_eq_true rfl) (by decide) rfl (by decide) ?_
  refine SegP.run [] 400 ?_
  refine SegP.tr (Seg.cV (tX6_findThrows h g (by rw [v1]; exact ht)) mlX6_218 iyX6_findThrows seX6_findThrows oyX6_findThrows rfl (by decide) rfl (by decide) (by decide) rfl rfl rfl rfl (Nat.le_of_ble_eq_true rfl) (Nat.le_of_ble_eq_true rfl)) ?_
  have hf := FT_ft (h := h) (by rw [v1]; exact ht)
  rw [v1] at hf
  have hd : FD (ftH h) V := ⟨hf, ftV hv⟩
  have hw := tX6_worthOf (ftH h) V.1 g hf (nI 0)
  rw [← mw_wo ht] at hw
  have hm := tX6_meanOf (ftH h) V.1 g hf (nI 0)
  rw [← mc_me ht] at hm
  refine SegP.run [20] 400 ?_
  refine SegP.tr (Seg.cV hw mlX6_234 iyX6_worthOf seX6_worthOf oyX6_worthOf rfl (by decide) rfl (by decide) (by decide) rfl rfl rfl rfl (Nat.le_of_ble_eq_true rfl) (Nat.le_of_ble_eq_true rfl)) ?_
  refine SegP.run [20] 400 ?_
  refine SegP.tr (Seg.cV hm mlX6_231 iyX6_meanOf seX6_meanOf oyX6_meanOf rfl (by decide) rfl (by decide) (by decide) rfl rfl rfl rfl (Nat.le_of_ble_eq_true rfl) (Nat.le_of_ble_eq_true rfl)) ?_
  refine SegP.run [20] 400 ?_
  refine SegP.tr (lX6_best hd) ?_
  exact mid' (ftV hv) ftF rfl
