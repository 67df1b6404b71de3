/-! ===== the class's chances: what sets owe, row by row; searches ===== -/
theorem os_mix {T : aH} {S K : Nat} : ∀ p, p ≤ 10 → osN T (S &&& K) 1023 p + osN T S 0 p = osN T S K p + osN T (S &&& K) 0 p := by
  intro p
  induction p with
  | zero => intro _; rfl
  | succ p ih =>
    intro hp
    have i := ih (by omega)
    have h1 : (1023 : Nat).testBit p = true := by
      have key : ∀ p, p < 10 → (1023 : Nat).testBit p = true := by decide +kernel
      exact key p (by omega)
    show osN T (S &&& K) 1023 p + (if (S &&& K).testBit p = true then ow1N T p ((1023 : Nat).testBit p) else 0) + (osN T S 0 p + (if S.testBit p = true then ow1N T p ((0 : Nat).testBit p) else 0)) = osN T S K p + (if S.testBit p = true then ow1N T p (K.testBit p) else 0) + (osN T (S &&& K) 0 p + (if (S &&& K).testBit p = true then ow1N T p ((0 : Nat).testBit p) else 0))
    rw [h1, Nat.testBit_and, Nat.zero_testBit]
    cases hs : S.testBit p <;> cases hk : K.testBit p <;> simp <;> omega
/-- what a set owes if all of it is kept, less what it owes if none is -/
def odI (T : aH) (S : Nat) : Int := (osN T S 1023 (nP T) : Int) - (osN T S 0 (nP T) : Int)
theorem od_rs {T : aH} (ht : TOk T) {S : Nat} (hS : S < 2 ^ nP T) (h0 : 0 < S) : odI T S = odI T (rsN S) + (ow1N T (tzN S) true : Int) - (ow1N T (tzN S) false : Int) ∧ osN T S 0 (nP T) = osN T (rsN S) 0 (nP T) + ow1N T (tzN S) false := by
  have hs := sets_lt ht hS
  have tl := tz_lt hS ht.np.1 h0
  have h1 := os_rs (T := T) (K := 1023) hs h0 (nP T) ht.np.1
  have h2 := os_rs (T := T) (K := 0) hs h0 (nP T) ht.np.1
  rw [if_pos tl] at h1 h2
  have k1 : (1023 : Nat).testBit (tzN S) = true := by
    have key : ∀ p, p < 10 → (1023 : Nat).testBit p = true := by decide +kernel
    exact key _ (tzN_ok S hs h0).1
  rw [k1] at h1
  rw [Nat.zero_testBit] at h2
  refine ⟨?_, h2⟩
  unfold odI
  rw [h1, h2]
  omega
theorem od_0 {T : aH} : odI T 0 = 0 := by unfold odI; rw [os_0, os_0]; rfl
set_option maxRecDepth 100000 in
set_option maxHeartbeats 400000 in
theorem tX0_fillOwedRows (h T : aH) (g : aG) (e : tw h 1 = T) (ht : TOk T) : MX mX0_fillOwedRows 3 [.ref 43] h g (fun r h' g' => r = [] ∧ h' = h ∧ ∀ S, S < 2 ^ nP T → g' 50 S = lN (osN T S 0 (nP T)) ∧ g' 49 S = lI (odI T S)) := by
  have hp := pow_le10 ht.np.1
  have h1p : 1 ≤ 2 ^ nP T := Nat.one_le_two_pow
  let I : Nat → aCfg → Prop := fun i d => ∃ g', d = (16, [some (.ref 43), some (.int (nI (i + 1))), none, none, none], [], nW, h, g', ρ) ∧ ∀ K, K < i + 1 → g' 50 K = lN (osN T K 0 (nP T)) ∧ g' 49 K = lI (odI T K)
  refine MX.of okX0_fillOwedRows (by decide +kernel) (Nat.le_of_ble_eq_true rfl) (by decide) rfl (by decide) ?_
  refine SegP.run [16] 400 ?_
  refine And.intro (in10 (p := 0) (by decide) (by decide)) ?_
  refine And.intro (in10 (p := 0) (by decide) (by decide)) ?_
  refine SegP.tp (SegP.iter I (2 ^ nP T - 1) (fun i hi d hd => ?_) _ ⟨_, rfl, fun K hK => ?_⟩) (fun d hd => ?_)
  · obtain ⟨g', rfl, f2⟩ := hd
    have hi2 : i + 1 < 2 ^ nP T := by omega
    have hs : i + 1 < 1024 := by omega
    have hin := in10 (p := i + 1) (n := 1024) hs (by decide)
    have ci := nI_clamp (n := i + 1) (by omega)
    have h0 := Nat.succ_pos i
    obtain ⟨r1, r2⟩ := pcN_rs (i + 1) hs h0
    obtain ⟨t1, t2, t3, t4, t5⟩ := tzN_ok (i + 1) hs h0
    have tl := tz_lt hi2 ht.np.1 h0
    obtain ⟨o1, o2⟩ := ow1_nI ht tl true
    obtain ⟨o3, o4⟩ := ow1_nI ht tl false
    obtain ⟨m1, m2⟩ := od_rs ht hi2 h0
    have ho1 : ∀ g', MS mX4_owedOf 1 [.ref 1, .int (nI (tzN (i + 1))), .int 1] h g' [.int (nI (ow1N T (tzN (i + 1)) true))] h g' := fun g' => by
      rw [← o1, ← e]; exact tX4_owedOf h g' (tzN (i + 1)) t1 true
    have ho2 : ∀ g', MS mX4_owedOf 1 [.ref 1, .int (nI (tzN (i + 1))), .int 0] h g' [.int (nI (ow1N T (tzN (i + 1)) false))] h g' := fun g' => by
      rw [← o3, ← e]; exact tX4_owedOf h g' (tzN (i + 1)) t1 false
    have hinr := in10 (p := rsN (i + 1)) (n := 1024) (by omega) (by decide)
    have cr := nI_clamp (n := rsN (i + 1)) (by omega)
    refine SegP.run [] 400 ?_
    refine SegP.tr (Seg.cV (tX0_sets h T g' e ht) mlX0_79 iyX0_sets seX0_sets oyX0_sets rfl (by decide) rfl (by decide) (by decide) rfl rfl rfl rfl (Nat.le_of_ble_eq_true rfl) (Nat.le_of_ble_eq_true rfl)) ?_
    refine SegP.run [] 400 ?_
    refine And.intro (fun z => ?_) (fun z => ?_)
    · exact absurd z (nI_ge hi2 (by omega))
    refine SegP.tr (Seg.cS ((tJ6_tz hs h0).ms h g') mlX0_142 syJ6_numberOfTrailingZeros_0f7a4 oyJ6_numberOfTrailingZeros_0f7a4 rfl (by decide) rfl rfl rfl (Nat.le_of_ble_eq_true rfl) (Nat.le_of_ble_eq_true rfl)) ?_
    refine SegP.run [] 400 ?_
    refine SegP.tr (Seg.cV (ho2 g') mlX0_161 iyX4_owedOf seX4_owedOf oyX4_owedOf rfl (by decide) rfl (by decide) (by decide) rfl rfl rfl rfl (Nat.le_of_ble_eq_true rfl) (Nat.le_of_ble_eq_true rfl)) ?_
    refine SegP.run [] 400 ?_
    refine And.intro (by rw [rs_I h0]; exact hinr) ?_
    refine And.intro hin ?_
    refine And.intro (by rw [rs_I h0]; exact hinr) ?_
    refine SegP.tr (Seg.of (b := (79, [some (.ref 43), some (.int (nI (i + 1))), some (.int (nI (tzN (i + 1)))), some (.int (nI (rsN (i + 1)))), some (.int (nI (ow1N T (tzN (i + 1)) false)))], [.int 1, .int (nI (tzN (i + 1))), .ref 1, .long (lI (odI T (rsN (i + 1)))), .int (nI (i + 1)), .ref 49], nW, h, up2 g' 50 (i + 1) (lN (osN T (i + 1) 0 (nP T))), ρ)) ?_) ?_
    · rw [rs_I h0, cr, ci, up2_o (show (49 : Nat) ≠ 50 by decide), (f2 _ (by omega)).1, (f2 _ (by omega)).2, nI_l (n := ow1N T (tzN (i + 1)) false) (by omega), lN_add, ← m2] <;> rfl
    refine SegP.tr (Seg.cV (ho1 _) mlX0_161 iyX4_owedOf seX4_owedOf oyX4_owedOf rfl (by decide) rfl (by decide) (by decide) rfl rfl rfl rfl (Nat.le_of_ble_eq_true rfl) (Nat.le_of_ble_eq_true rfl)) ?_
    refine SegP.run [16] 400 ?_
    refine And.intro hin ?_
    refine SegP.tr (Seg.fg 2) (SegP.tr (Seg.fg 3) (SegP.tr (Seg.fg 4) ?_))
    refine SegP.rf ⟨up2 (up2 g' 50 (i + 1) (lN (osN T (i + 1) 0 (nP T)))) 49 (i + 1) (lI (odI T (i + 1))), ?_, fun K hK => ?_⟩
    · rw [ci, nI_l (n := ow1N T (tzN (i + 1)) false) (by omega), nI_l (n := ow1N T (tzN (i + 1)) true) (by omega), lI_nat (ow1N T (tzN (i + 1)) true), lI_nat (ow1N T (tzN (i + 1)) false), lI_add, lI_sub, ← m1, nI_succ (i + 1)] <;> rfl
    · by_cases q : K = i + 1
      · subst q
        exact ⟨by rw [up2_o (by decide), up2_s], by rw [up2_s]⟩
      · exact ⟨by rw [up2_o (by decide), up2_k q]; exact (f2 K (by omega)).1, by rw [up2_k q, up2_o (by decide)]; exact (f2 K (by omega)).2⟩
  · obtain rfl : K = 0 := by omega
    refine ⟨?_, ?_⟩
    · rw [up2_o (by decide), show (0 : Int32).toNatClampNeg = 0 from rfl, up2_s, os_0]; rfl
    · rw [show (0 : Int32).toNatClampNeg = 0 from rfl, up2_s, od_0]; rfl
  · obtain ⟨g', rfl, f2⟩ := hd
    have eN : 2 ^ nP T - 1 + 1 = 2 ^ nP T := by omega
    refine SegP.run [] 400 ?_
    refine SegP.tr (Seg.cV (tX0_sets h T g' e ht) mlX0_79 iyX0_sets seX0_sets oyX0_sets rfl (by decide) rfl (by decide) (by decide) rfl rfl rfl rfl (Nat.le_of_ble_eq_true rfl) (Nat.le_of_ble_eq_true rfl)) ?_
    refine SegP.run [] 400 ?_
    refine And.intro (fun z => ?_) (fun z => ?_)
    · exact SegP.ret ⟨rfl, rfl, fun K hK => f2 K (by omega)⟩
    · exact absurd (by rw [eN]; exact nI_le (Nat.le_refl _) (by omega)) z
/-- the weight of throws in which a set owes more -/
def hrN (T : aH) (S m : Nat) : Nat := FN T (fun K => if m < owN T (nI S) (nI K) then 1 else 0)
set_option maxRecDepth 100000 in
set_option maxHeartbeats 400000 in
theorem tX0_weightOfMoreByRows (h T : aH) (g : aG) (hc : CG h T) (S m : Nat) (hS : S < 2 ^ nP T) (hm : m < 2 ^ 31) (hg : ∀ K, K < 2 ^ nP T → g 50 K = lN (osN T K 0 (nP T)) ∧ g 49 K = lI (odI T K)) : MS mX0_weightOfMoreByRows 1 [.ref 43, .int (nI S), .int (nI m)] h g [.long (lN (hrN T S m))] h g := by
  obtain ⟨⟨eT, ht, -, -⟩, C, cs, cw, hC, eC, hcs, hsum⟩ := hc
  have w8 := wh8 ht
  have hp := pow_le10 ht.np.1
  have hs := sets_lt ht hS
  have hinS := in10 (p := S) (n := 1024) hs (by decide)
  have cS := nI_clamp (n := S) (by omega)
  refine MS.of okX0_weightOfMoreByRows (by decide +kernel) (Nat.le_of_ble_eq_true rfl) (by decide) rfl (by decide) ?_
  refine Seg.run [5] 400 ?_
  refine Seg.tr (Seg.iter (fun i => (5, [some (.ref 43), some (.int (nI S)), some (.int (nI m)), some (.long (lN (SN (fun c => (if m < owN T (nI S) (nI (cs c)) then 1 else 0) * cw c) i))), none, some (.int (nI i))], [], nW, h, g, ρ)) C (fun i hi => ?_)) ?_
  · obtain ⟨e1, e2, l1, l2⟩ := hcs i hi
    have step : SN (fun c => (if m < owN T (nI S) (nI (cs c)) then 1 else 0) * cw c) (i + 1) = SN (fun c => (if m < owN T (nI S) (nI (cs c)) then 1 else 0) * cw c) i + (if m < owN T (nI S) (nI (cs i)) then 1 else 0) * cw i := rfl
    have ci := cl10 (p := i) (by omega)
    have hin := in10 (p := i) (n := 256) (by omega) (by decide)
    have hl : S &&& cs i < 2 ^ nP T := Nat.and_lt_two_pow S l1
    have hinc := in10 (p := S &&& cs i) (n := 1024) (by omega) (by decide)
    have cc := nI_clamp (n := S &&& cs i) (by omega)
    have es : lN (osN T S 0 (nP T)) + lI (odI T (S &&& cs i)) = lN (owN T (nI S) (nI (cs i))) := by
      rw [ow_os ht hs (sets_lt ht l1), lI_nat, lI_nat, lI_add]
      congr 1
      have := os_mix (T := T) (S := S) (K := cs i) (nP T) ht.np.1
      unfold odI
      omega
    have hb := (ow_nI ht (nI S) (nI (cs i))).2
    refine Seg.run [5] 400 ?_
    refine And.intro (fun c => ?_) (fun c => ?_)
    · exact absurd (show nI C ≤ nI i by rw [← eC]; exact c) (nI_ge hi (by omega))
    refine And.intro hinS ?_
    refine And.intro hin ?_
    rw [ci, e1, cS]
    refine And.intro (by rw [nI_and]; exact hinc) ?_
    rw [nI_and, cc, (hg S hS).1, (hg _ hl).2]
    refine And.intro (fun d => ?_) (fun d => ?_)
    · have d' : ¬ m < owN T (nI S) (nI (cs i)) := by
        have d1 : lg_cmp (lN (osN T S 0 (nP T)) + lI (odI T (S &&& cs i))) (nI m).toInt64 ≤ 0 := d
        rw [es, nI_l hm] at d1
        have := (lN_le (by omega) hm).mp ((lg_cmp_le _ _).mp d1)
        omega
      exact Seg.of (by rw [step, if_neg d', Nat.zero_mul, Nat.add_zero, nI_succ] <;> rfl)
    · have d' : m < owN T (nI S) (nI (cs i)) := by
        have d1 : ¬ lg_cmp (lN (osN T S 0 (nP T)) + lI (odI T (S &&& cs i))) (nI m).toInt64 ≤ 0 := d
        rw [es, nI_l hm] at d1
        rcases Nat.lt_or_ge m (owN T (nI S) (nI (cs i))) with y | y
        · exact y
        · exact absurd ((lg_cmp_le _ _).mpr ((lN_le (by omega) hm).mpr y)) d1
      refine And.intro hin ?_
      exact Seg.of (by rw [step, if_pos d', Nat.one_mul, ci, e2, nI_l (by omega), lN_add, nI_succ] <;> rfl)
  · refine Seg.run [] 400 ?_
    refine And.intro (fun c => ?_) (fun c => ?_)
    · exact Seg.rl (by rw [hsum (fun K => if m < owN T (nI S) (nI K) then 1 else 0)] <;> rfl)
    · exact absurd (show h 43 5 ≤ nI C by rw [eC]; exact nI_le (Nat.le_refl _) (by omega)) c
/-! searches -/
/-- found: none, or the number of a set -/
def foI : Option Nat → Int32
  | none => -1
  | some k => nI k
/-- as sure as asked for: with a in b or more -/
def okS (T : aH) (k S : Nat) (a b : Int32) : Prop := a.toInt64 * lN (whN T) ≤ lN (FN T (fun K => if metB T k (nI (S &&& K)) = true then 1 else 0)) * b.toInt64
def okM (T : aH) (S m : Nat) (a b : Int32) : Prop := lN (hrN T S m) * b.toInt64 ≤ a.toInt64 * lN (whN T)
noncomputable section
/-- the first of those that are best so far: q says that the latter is better -/
def seU (ok : Nat → Prop) (q : Nat → Nat → Prop) : Nat → Option Nat
  | 0 => none
  | i + 1 => @ite _ (ok i ∧ ∀ k, seU ok q i = some k → q k i) (Classical.propDecidable _) (some i) (seU ok q i)
end
theorem se_pos {ok : Nat → Prop} {q : Nat → Nat → Prop} {i : Nat} (h1 : ok i) (h2 : ∀ k, seU ok q i = some k → q k i) : seU ok q (i + 1) = some i := by
  show @ite _ _ (Classical.propDecidable _) _ _ = _
  exact if_pos ⟨h1, h2⟩
theorem se_neg {ok : Nat → Prop} {q : Nat → Nat → Prop} {i : Nat} (h : ¬ (ok i ∧ ∀ k, seU ok q i = some k → q k i)) : seU ok q (i + 1) = seU ok q i := by
  show @ite _ _ (Classical.propDecidable _) _ _ = _
  exact if_neg h
theorem se_lt {ok : Nat → Prop} {q : Nat → Nat → Prop} : ∀ i k, seU ok q i = some k → k < i ∧ ok k := by
  intro i
  induction i with
  | zero => intro k h; cases h
  | succ i ih =>
    intro k h
    by_cases z : ok i ∧ ∀ k, seU ok q i = some k → q k i
    · rw [se_pos z.1 z.2] at h
      cases h
      exact ⟨Nat.lt_succ_self _, z.1⟩
    · rw [se_neg z] at h
      have := ih k h
      exact ⟨by omega, this.2⟩
theorem foI_no {x : Option Nat} (hx : ∀ k, x = some k → k < 1024) : foI x = -1 ↔ x = none := by
  cases x with
  | none => exact ⟨fun _ => rfl, fun _ => rfl⟩
  | some k =>
    have h := hx k rfl
    have h1 := nI_pos' (n := k) (by omega)
    constructor
    · intro z
      rw [show foI (some k) = nI k from rfl] at z
      rw [z] at h1
      exact absurd h1 (by decide)
    · intro z; cases z
theorem foI_neg {x : Option Nat} (hx : ∀ k, x = some k → k < 1024) : foI x < 0 ↔ x = none := by
  cases x with
  | none => exact ⟨fun _ => rfl, fun _ => show (-1 : Int32) < 0 by decide⟩
  | some k =>
    have h := hx k rfl
    constructor
    · intro z
      exact absurd z (nI_pos (n := k) (by omega))
    · intro z; cases z
