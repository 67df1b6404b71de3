/-! ===== the reference's searches ===== -/
theorem okS_su {T : aH} (ht : TOk T) {k S : Nat} (hS : S < 2 ^ nP T) {a b : Int32} : okS T k S a b ↔ lN (whN T) * a.toInt64 ≤ lN (suN T k (nI S) 256) * b.toInt64 := by
  unfold okS
  rw [Int64.mul_comm a.toInt64, show FN T (fun K => if metB T k (nI (S &&& K)) = true then 1 else 0) = suN T k (nI S) 256 by
    rw [su_FN ht]
    exact FN_congr fun t _ => by rw [nI_and]]
theorem mc_me {T : aH} (ht : TOk T) {S : Nat} : mcN T S = meN T (nI S) 256 := (me_FN ht).symm
theorem mw_wo {T : aH} (ht : TOk T) {S : Nat} : mwN T S = woN T (nI S) (nN T) := by
  rw [wo_FN ht]
  exact FN_congr fun t _ => by rw [nI_and]
theorem hr_ha {T : aH} (ht : TOk T) {S m : Nat} (hm : m < 2 ^ 31) : hrN T S m = haN T (nI S) (nI m) 256 := by
  rw [ha_FN ht]
  refine FN_congr fun t _ => ?_
  obtain ⟨o1, o2⟩ := ow_nI ht (nI S) (nI (kN T t))
  rw [o1]
  by_cases z : m < owN T (nI S) (nI (kN T t))
  · rw [if_pos z, if_pos (nI_lt z (by omega))]
  · rw [if_neg z, if_neg (nI_nlt (by omega) hm)]
/-- the reference lays all throws down; then its row is as it was -/
def FD (h : aH) (V : aV) : Prop := FT h V.1 ∧ MV h V
theorem FD.np {h : aH} {V : aV} (hd : FD h V) : h 64 (0 : Int32).toNatClampNeg = nI (nP V.1) := (mR0 hd.2).1.trans hd.1.2.2.2.2.np.2
theorem FD.sh {h : aH} {V : aV} (hd : FD h V) : (1 : Int32) <<< (h 64 (0 : Int32).toNatClampNeg &&& 31) = nI (2 ^ nP V.1) := by
  rw [hd.np]
  exact bt1_nI (Nat.lt_succ_of_le hd.1.2.2.2.2.np.1)
set_option maxRecDepth 100000 in
set_option maxHeartbeats 400000 in
theorem tX6_isSure {h T : aH} {g : aG} (hf : FT h T) (k S : Nat) (hk : k < 6) (hS : S < 2 ^ nP T) (a b : Int32) : (okS T k S a b → MS mX6_isSure 5 [.ref 63, .int (nI k), .int (nI S), .int a, .int b] h g [.int 1] h g) ∧ (¬ okS T k S a b → MS mX6_isSure 5 [.ref 63, .int (nI k), .int (nI S), .int a, .int b] h g [.int 0] h g) := by
  have ht := hf.2.2.2.2
  have w8 := wh8 ht
  have e1 : (nI (suN T k (nI S) 256)).toInt64 = lN (suN T k (nI S) 256) := nI_l (su_l ht)
  have e2 : (h 63 15).toInt64 = lN (whN T) := by rw [hf.2.2.1, w8.2.2]; exact nI_l (by omega)
  have ok := okS_su ht hS (k := k) (a := a) (b := b)
  have key : ∀ x : Int32, (x = 1 ∧ okS T k S a b) ∨ (x = 0 ∧ ¬ okS T k S a b) → MS mX6_isSure 5 [.ref 63, .int (nI k), .int (nI S), .int a, .int b] h g [.int x] h g := by
    intro x hx
    refine MS.of okX6_isSure (by decide +kernel) (Nat.le_of_ble_eq_true rfl) (by decide) rfl (by decide) ?_
    refine Seg.run [] 400 ?_
    refine Seg.tr (Seg.cV (tX6_sureOf h T g hf k hk (nI S)) mlX6_228 iyX6_sureOf seX6_sureOf oyX6_sureOf rfl (by decide) rfl (by decide) (by decide) rfl rfl rfl rfl (Nat.le_of_ble_eq_true rfl) (Nat.le_of_ble_eq_true rfl)) ?_
    refine Seg.run [] 400 ?_
    refine And.intro (fun z => ?_) (fun z => ?_)
    · have z1 : lg_cmp ((nI (suN T k (nI S) 256)).toInt64 * b.toInt64) ((h 63 15).toInt64 * a.toInt64) < 0 := z
      rw [e1, e2] at z1
      refine And.intro (Or.inl rfl) (Seg.ri ?_)
      rcases hx with ⟨-, y⟩ | ⟨y, -⟩
      · exact absurd ((lg_cmp_lt _ _).mp z1) (Int64.not_lt.mpr (ok.mp y))
      · exact y.symm
    · have z1 : ¬ lg_cmp ((nI (suN T k (nI S) 256)).toInt64 * b.toInt64) ((h 63 15).toInt64 * a.toInt64) < 0 := z
      rw [e1, e2] at z1
      refine And.intro (Or.inr rfl) (Seg.ri ?_)
      rcases hx with ⟨y, -⟩ | ⟨-, y⟩
      · exact y.symm
      · exact absurd (ok.mpr (Int64.not_lt.mp fun w => z1 ((lg_cmp_lt _ _).mpr w))) y
  exact ⟨fun y => key 1 (Or.inl ⟨rfl, y⟩), fun y => key 0 (Or.inr ⟨rfl, y⟩)⟩
theorem fe_lt {T : aH} {ok : Nat → Prop} {q : Nat → Nat → Prop} (ht : TOk T) {i : Nat} (hi : i ≤ 2 ^ nP T) : ∀ f, seU ok q i = some f → f < 1024 ∧ f < 2 ^ nP T := fun f hf => by
  have := (se_lt i f hf).1
  have := pow_le10 ht.np.1
  omega
set_option maxRecDepth 100000 in
set_option maxHeartbeats 400000 in
theorem lX6_fewest {h : aH} {g : aG} {V : aV} (hd : FD h V) (k : Nat) (hk : k < 6) (a b : Int32) : Seg mX6_fewest 11 (32, [some (.ref 63), some (.int (nI k)), some (.int a), some (.int b), some (.int (-1)), some (.int 0), none], [], nW, h, g, ρ) (102, [some (.ref 63), some (.int (nI k)), some (.int a), some (.int b), some (.int (foI (feS V.1 k a b (2 ^ nP V.1)))), some (.int (nI (2 ^ nP V.1))), none], [], nW, h, g, ρ) := by
  have hf := hd.1
  have ht := hf.2.2.2.2
  have hp := pow_le10 ht.np.1
  have in0 : vp_in (0 : Int32) 108 := in10 (p := 0) (by decide) (by decide)
  refine Seg.tr (Seg.iter (fun i => (32, [some (.ref 63), some (.int (nI k)), some (.int a), some (.int b), some (.int (foI (feS V.1 k a b i))), some (.int (nI i)), none], [], nW, h, g, ρ)) (2 ^ nP V.1) (fun i hi => ?_)) ?_
  · have his := sets_lt ht hi
    have lt : ∀ f, feS V.1 k a b i = some f → f < 1024 ∧ f < 2 ^ nP V.1 := fe_lt ht (Nat.le_of_lt hi)
    obtain ⟨su1, su0⟩ := tX6_isSure (g := g) hf k i hk hi a b
    have no : ¬ (okS V.1 k i a b ∧ ∀ f, feS V.1 k a b i = some f → pcN i < pcN f) → ∀ m : Option Value, Seg mX6_fewest 11 (92, [some (.ref 63), some (.int (nI k)), some (.int a), some (.int b), some (.int (foI (feS V.1 k a b i))), some (.int (nI i)), m], [], nW, h, g, ρ) (32, [some (.ref 63), some (.int (nI k)), some (.int a), some (.int b), some (.int (foI (feS V.1 k a b (i + 1)))), some (.int (nI (i + 1))), none], [], nW, h, g, ρ) := by
      intro z m
      refine Seg.tr (Seg.fg 6) ?_
      refine Seg.tr (b := (92, [some (.ref 63), some (.int (nI k)), some (.int a), some (.int b), some (.int (foI (feS V.1 k a b i))), some (.int (nI i)), none], [], nW, h, g, ρ)) Seg.rf ?_
      refine Seg.run [32] 400 ?_
      refine Seg.of ?_
      rw [show feS V.1 k a b (i + 1) = feS V.1 k a b i from se_neg z, nI_succ] <;> rfl
    have fin : ∀ m : Int32, ((m = 1 ∧ ∀ f, feS V.1 k a b i = some f → pcN i < pcN f) ∨ (m = 0 ∧ ¬ ∀ f, feS V.1 k a b i = some f → pcN i < pcN f)) → Seg mX6_fewest 11 (68, [some (.ref 63), some (.int (nI k)), some (.int a), some (.int b), some (.int (foI (feS V.1 k a b i))), some (.int (nI i)), none], [.int m], nW, h, g, ρ) (32, [some (.ref 63), some (.int (nI k)), some (.int a), some (.int b), some (.int (foI (feS V.1 k a b (i + 1)))), some (.int (nI (i + 1))), none], [], nW, h, g, ρ) := by
      intro m hm
      refine Seg.run [92] 400 ?_
      refine And.intro (fun z => ?_) (fun z => ?_)
      · refine no (fun y => ?_) _
        rcases hm with ⟨rfl, -⟩ | ⟨-, w⟩
        · exact absurd z (by decide : ¬ (1 : Int32) = 0)
        · exact w y.2
      have may : ∀ f, feS V.1 k a b i = some f → pcN i < pcN f := by
        rcases hm with ⟨-, w⟩ | ⟨rfl, -⟩
        · exact w
        · exact absurd rfl z
      by_cases ok : okS V.1 k i a b
      · refine Seg.tr (Seg.cV (su1 ok) mlX6_246 iyX6_isSure seX6_isSure oyX6_isSure rfl (by decide) rfl (by decide) (by decide) rfl rfl rfl rfl (Nat.le_of_ble_eq_true rfl) (Nat.le_of_ble_eq_true rfl)) ?_
        refine Seg.run [32] 400 ?_
        refine And.intro (fun z => absurd z (by decide : ¬ (1 : Int32) = 0)) (fun z => ?_)
        refine Seg.tr (Seg.fg 6) ?_
        refine Seg.of ?_
        rw [show feS V.1 k a b (i + 1) = some i from se_pos ok may, nI_succ] <;> rfl
      · refine Seg.tr (Seg.cV (su0 ok) mlX6_246 iyX6_isSure seX6_isSure oyX6_isSure rfl (by decide) rfl (by decide) (by decide) rfl rfl rfl rfl (Nat.le_of_ble_eq_true rfl) (Nat.le_of_ble_eq_true rfl)) ?_
        refine Seg.run [92] 400 ?_
        refine And.intro (fun z => ?_) (fun z => absurd rfl z)
        exact no (fun y => ok y.1) _
    refine Seg.run [68] 400 ?_
    refine And.intro in0 ?_
    refine And.intro (fun z => ?_) (fun z => ?_)
    · exact absurd (show nI (2 ^ nP V.1) ≤ nI i by rw [← hd.sh]; exact z) (nI_ge hi (by omega))
    refine And.intro (fun z1 => ?_) (fun z1 => ?_)
    · exact fin 1 (Or.inl ⟨rfl, fun f hf' => by rw [(foI_neg (fun f hf' => (lt f hf').1)).mp z1] at hf'; cases hf'⟩)
    · cases hf' : feS V.1 k a b i with
      | none => exact absurd ((foI_neg (fun f hf' => (lt f hf').1)).mpr hf') z1
      | some f =>
        obtain ⟨fl, fl2⟩ := lt f hf'
        rw [hf'] at fin
        have pi := pcN_le i his
        have pf := pcN_le f fl
        refine Seg.tr (Seg.cS (tX6_many h g i his) mlX6_240 syX6_many oyX6_many rfl (by decide) rfl rfl rfl (Nat.le_of_ble_eq_true rfl) (Nat.le_of_ble_eq_true rfl)) ?_
        refine Seg.run [] 400 ?_
        refine Seg.tr (Seg.cS (tX6_many h g f fl) mlX6_240 syX6_many oyX6_many rfl (by decide) rfl rfl rfl (Nat.le_of_ble_eq_true rfl) (Nat.le_of_ble_eq_true rfl)) ?_
        refine Seg.run [68] 400 ?_
        refine And.intro (fun z2 => ?_) (fun z2 => ?_)
        · have z3 := (nI_leI (by omega) (by omega)).mp z2
          exact fin 0 (Or.inr ⟨rfl, fun y => by have := y f rfl; omega⟩)
        · refine fin 1 (Or.inl ⟨rfl, fun f' e => ?_⟩)
          obtain rfl : f = f' := Option.some.inj e
          rcases Nat.lt_or_ge (pcN i) (pcN f) with y | y
          · exact y
          · exact absurd ((nI_leI (by omega) (by omega)).mpr y) z2
  · refine Seg.run [102] 400 ?_
    refine And.intro in0 ?_
    refine And.intro (fun z => ?_) (fun z => ?_)
    · exact Seg.rf
    · exact absurd (show (1 : Int32) <<< (h 64 (0 : Int32).toNatClampNeg &&& 31) ≤ nI (2 ^ nP V.1) by rw [hd.sh]; exact nI_le (Nat.le_refl _) (by omega)) z
/-- the least mean so far -/
def lsI (T : aH) : Option Nat → Int32
  | none => 0
  | some f => nI (mcN T f)
set_option maxRecDepth 100000 in
set_option maxHeartbeats 400000 in
theorem lX6_cheapest {h : aH} {g : aG} {V : aV} (hd : FD h V) (k : Nat) (hk : k < 6) (a b : Int32) : Seg mX6_cheapest 11 (35, [some (.ref 63), some (.int (nI k)), some (.int a), some (.int b), some (.int (-1)), some (.int 0), some (.int 0), none], [], nW, h, g, ρ) (94, [some (.ref 63), some (.int (nI k)), some (.int a), some (.int b), some (.int (foI (chS V.1 k a b (2 ^ nP V.1)))), some (.int (lsI V.1 (chS V.1 k a b (2 ^ nP V.1)))), some (.int (nI (2 ^ nP V.1))), none], [], nW, h, g, ρ) := by
  have hf := hd.1
  have ht := hf.2.2.2.2
  have hp := pow_le10 ht.np.1
  have in0 : vp_in (0 : Int32) 108 := in10 (p := 0) (by decide) (by decide)
  refine Seg.tr (Seg.iter (fun i => (35, [some (.ref 63), some (.int (nI k)), some (.int a), some (.int b), some (.int (foI (chS V.1 k a b i))), some (.int (lsI V.1 (chS V.1 k a b i))), some (.int (nI i)), none], [], nW, h, g, ρ)) (2 ^ nP V.1) (fun i hi => ?_)) ?_
  · have his := sets_lt ht hi
    have lt : ∀ f, chS V.1 k a b i = some f → f < 1024 ∧ f < 2 ^ nP V.1 := fe_lt ht (Nat.le_of_lt hi)
    obtain ⟨su1, su0⟩ := tX6_isSure (g := g) hf k i hk hi a b
    have hm := tX6_meanOf h V.1 g hf (nI i)
    rw [← mc_me ht] at hm
    have no : ¬ (okS V.1 k i a b ∧ ∀ f, chS V.1 k a b i = some f → mcN V.1 i < mcN V.1 f) → Seg mX6_cheapest 11 (88, [some (.ref 63), some (.int (nI k)), some (.int a), some (.int b), some (.int (foI (chS V.1 k a b i))), some (.int (lsI V.1 (chS V.1 k a b i))), some (.int (nI i)), some (.int (nI (mcN V.1 i)))], [], nW, h, g, ρ) (35, [some (.ref 63), some (.int (nI k)), some (.int a), some (.int b), some (.int (foI (chS V.1 k a b (i + 1)))), some (.int (lsI V.1 (chS V.1 k a b (i + 1)))), some (.int (nI (i + 1))), none], [], nW, h, g, ρ) := by
      intro z
      refine Seg.run [35] 400 ?_
      refine Seg.tr (Seg.fg 7) ?_
      refine Seg.of ?_
      rw [show chS V.1 k a b (i + 1) = chS V.1 k a b i from se_neg z, nI_succ] <;> rfl
    have may : (∀ f, chS V.1 k a b i = some f → mcN V.1 i < mcN V.1 f) → Seg mX6_cheapest 11 (68, [some (.ref 63), some (.int (nI k)), some (.int a), some (.int b), some (.int (foI (chS V.1 k a b i))), some (.int (lsI V.1 (chS V.1 k a b i))), some (.int (nI i)), some (.int (nI (mcN V.1 i)))], [], nW, h, g, ρ) (35, [some (.ref 63), some (.int (nI k)), some (.int a), some (.int b), some (.int (foI (chS V.1 k a b (i + 1)))), some (.int (lsI V.1 (chS V.1 k a b (i + 1)))), some (.int (nI (i + 1))), none], [], nW, h, g, ρ) := by
      intro y
      by_cases ok : okS V.1 k i a b
      · refine Seg.run [] 400 ?_
        refine Seg.tr (Seg.cV (su1 ok) mlX6_246 iyX6_isSure seX6_isSure oyX6_isSure rfl (by decide) rfl (by decide) (by decide) rfl rfl rfl rfl (Nat.le_of_ble_eq_true rfl) (Nat.le_of_ble_eq_true rfl)) ?_
        refine Seg.run [35] 400 ?_
        refine And.intro (fun z => absurd z (by decide : ¬ (1 : Int32) = 0)) (fun z => ?_)
        refine Seg.tr (Seg.fg 7) ?_
        refine Seg.of ?_
        rw [show chS V.1 k a b (i + 1) = some i from se_pos ok y, nI_succ] <;> rfl
      · refine Seg.run [] 400 ?_
        refine Seg.tr (Seg.cV (su0 ok) mlX6_246 iyX6_isSure seX6_isSure oyX6_isSure rfl (by decide) rfl (by decide) (by decide) rfl rfl rfl rfl (Nat.le_of_ble_eq_true rfl) (Nat.le_of_ble_eq_true rfl)) ?_
        refine Seg.run [88] 400 ?_
        refine And.intro (fun z => ?_) (fun z => absurd rfl z)
        exact no (fun w => ok w.1)
    refine Seg.run [] 400 ?_
    refine And.intro in0 ?_
    refine And.intro (fun z => ?_) (fun z => ?_)
    · exact absurd (show nI (2 ^ nP V.1) ≤ nI i by rw [← hd.sh]; exact z) (nI_ge hi (by omega))
    refine Seg.tr (Seg.cV hm mlX6_231 iyX6_meanOf seX6_meanOf oyX6_meanOf rfl (by decide) rfl (by decide) (by decide) rfl rfl rfl rfl (Nat.le_of_ble_eq_true rfl) (Nat.le_of_ble_eq_true rfl)) ?_
    refine Seg.run [68, 88] 400 ?_
    refine And.intro (fun z1 => ?_) (fun z1 => ?_)
    · exact may fun f hf' => by rw [(foI_neg (fun f hf' => (lt f hf').1)).mp z1] at hf'; cases hf'
    · cases hf' : chS V.1 k a b i with
      | none => exact absurd ((foI_neg (fun f hf' => (lt f hf').1)).mpr hf') z1
      | some f =>
        rw [hf'] at no may
        refine And.intro (fun z2 => ?_) (fun z2 => ?_)
        · have z3 := (nI_leI (mcN_l ht f) (mcN_l ht i)).mp z2
          exact no fun y => by have := y.2 f rfl; omega
        · refine may fun f' e => ?_
          obtain rfl : f = f' := Option.some.inj e
          rcases Nat.lt_or_ge (mcN V.1 i) (mcN V.1 f) with y | y
          · exact y
          · exact absurd ((nI_leI (mcN_l ht f) (mcN_l ht i)).mpr y) z2
  · refine Seg.run [94] 400 ?_
    refine And.intro in0 ?_
    refine And.intro (fun z => ?_) (fun z => ?_)
    · exact Seg.rf
    · exact absurd (show (1 : Int32) <<< (h 64 (0 : Int32).toNatClampNeg &&& 31) ≤ nI (2 ^ nP V.1) by rw [hd.sh]; exact nI_le (Nat.le_refl _) (by omega)) z
