/-! ===== public methods: chances; printed by wip/whole/gen65.py ===== -/
theorem cid' {mt : aM} {lv : Nat} {h h' : aH} {g : aG} {V : aV} {p : Int32 × aV} {x : Int32} (hv : CV h' V) (f : ∀ a, 63 ≤ a → h' a = h a) (e : p = (x, V)) : SegP mt lv (aRET, [], [.int x], nW, h', g, ρ) (enP (enC h p)) := by
  subst e
  exact SegP.ret ⟨rfl, hv, f⟩
theorem mid' {mt : aM} {lv : Nat} {h h' : aH} {g : aG} {V : aV} {p : Int32 × aV} {x : Int32} (hv : MV h' V) (f : ∀ a, a < 63 → h' a = h a) (e : p = (x, V)) : SegP mt lv (aRET, [], [.int x], nW, h', g, ρ) (enP (enM h p)) := by
  subst e
  exact SegP.ret ⟨rfl, hv, f⟩
theorem cfn' {mt : aM} {lv : Nat} {h h' : aH} {g : aG} {V : aV} {p : Int32 × aV} {k : Nat} {x : Int32} (hv : CV h' V) (f : ∀ a, 63 ≤ a → h' a = h a) (hk : k < 7) (e : p = fnd V k x) : SegP mt lv (aRET, [], [.int x], nW, up2 h' 62 k (h' 62 k + 1), g, ρ) (enP (enC h p)) := by
  subst e
  exact SegP.ret ⟨rfl, hv.fn hk, fun a ha => (up2_row (by omega)).trans (f a ha)⟩
theorem mfn' {mt : aM} {lv : Nat} {h h' : aH} {g : aG} {V : aV} {p : Int32 × aV} {k : Nat} {x : Int32} (hv : MV h' V) (f : ∀ a, a < 63 → h' a = h a) (hk : k < 7) (e : p = fnd V k x) : SegP mt lv (aRET, [], [.int x], nW, up2 h' 67 k (h' 67 k + 1), g, ρ) (enP (enM h p)) := by
  subst e
  exact SegP.ret ⟨rfl, hv.fn hk, fun a ha => (up2_row (by omega)).trans (f a ha)⟩
theorem frV {h h' : aH} {V : aV} (hv : CV h V) (f : frO h h') : CV h' V := hv.fr fun a _ hb => f a (by omega)
theorem fr63 {h h' : aH} (f : frO h h') : ∀ a, 63 ≤ a → h' a = h a := fun a ha => f a (Or.inr (by omega))
def bvI (b : Bool) : Int32 := bif b then 1 else 0
theorem bit_I : ∀ a, a < 10 → ∀ K, K < 1024 → ((nI K >>> (nI a &&& 31)) &&& 1) = bvI (K.testBit a) := by decide +kernel
theorem mny_I {K a b : Nat} (hK : K < 1024) (ha : a < 10) (hb : b < 10) : mny (nI K) (nI a) (nI b) = bvI (K.testBit a) + bvI (K.testBit b) := by
  unfold mny
  rw [bit_I a ha K hK, bit_I b hb K hK]
theorem jc_0 {K a b : Nat} (hK : K < 1024) (ha : a < 10) (hb : b < 10) : jcB (nI K) (nI a) (nI b) 0 = (K.testBit a && K.testBit b) := by
  unfold jcB
  rw [if_pos rfl, mny_I hK ha hb]
  cases K.testBit a <;> cases K.testBit b <;> decide
theorem jc_1 {K a b : Nat} (hK : K < 1024) (ha : a < 10) (hb : b < 10) : jcB (nI K) (nI a) (nI b) 1 = (K.testBit a || K.testBit b) := by
  unfold jcB
  rw [if_neg (by decide), if_pos rfl, mny_I hK ha hb]
  cases K.testBit a <;> cases K.testBit b <;> decide
theorem jc_2 {K a b : Nat} (hK : K < 1024) (ha : a < 10) (hb : b < 10) : jcB (nI K) (nI a) (nI b) 2 = (K.testBit a != K.testBit b) := by
  unfold jcB
  rw [if_neg (by decide), if_neg (by decide), mny_I hK ha hb]
  cases K.testBit a <;> cases K.testBit b <;> decide
theorem p2_lt {a : Nat} (ha : a < 10) : 2 ^ a < 1024 := Nat.lt_of_lt_of_le (Nat.pow_lt_pow_right (show 1 < 2 by decide) ha) (show 2 ^ 10 ≤ 1024 by decide)
theorem both_iff {K a b : Nat} (hK : K < 1024) (ha : a < 10) (hb : b < 10) : (nI K &&& nI (2 ^ a ||| 2 ^ b) = nI (2 ^ a ||| 2 ^ b)) ↔ (K.testBit a && K.testBit b) = true := by
  have hm : 2 ^ a ||| 2 ^ b < 1024 := Nat.or_lt_two_pow (n := 10) (p2_lt ha) (p2_lt hb)
  have h1 : K &&& (2 ^ a ||| 2 ^ b) < 1024 := Nat.lt_of_le_of_lt Nat.and_le_left hK
  rw [nI_and, nI_eq (by omega) (by omega), Bool.and_eq_true]
  constructor
  · intro e
    have e1 : (K &&& (2 ^ a ||| 2 ^ b)).testBit a = (2 ^ a ||| 2 ^ b).testBit a := by rw [e]
    have e2 : (K &&& (2 ^ a ||| 2 ^ b)).testBit b = (2 ^ a ||| 2 ^ b).testBit b := by rw [e]
    simp only [Nat.testBit_and, Nat.testBit_or, Nat.testBit_two_pow_self, Bool.true_or, Bool.or_true, Bool.and_true] at e1 e2
    exact ⟨e1, e2⟩
  · rintro ⟨e1, e2⟩
    apply Nat.eq_of_testBit_eq
    intro i
    simp only [Nat.testBit_and, Nat.testBit_or, Nat.testBit_two_pow]
    by_cases z : a = i
    · subst z; simp [e1]
    · by_cases z2 : b = i
      · subst z2; simp [e2]
      · simp [z, z2]
theorem any_iff {K a b : Nat} (hK : K < 1024) (ha : a < 10) (hb : b < 10) : (nI K &&& nI (2 ^ a ||| 2 ^ b) ≠ 0) ↔ (K.testBit a || K.testBit b) = true := by
  have h1 : K &&& (2 ^ a ||| 2 ^ b) < 1024 := Nat.lt_of_le_of_lt Nat.and_le_left hK
  have e0 : (nI (K &&& (2 ^ a ||| 2 ^ b)) = 0) ↔ K &&& (2 ^ a ||| 2 ^ b) = 0 := nI_eq (b := 0) (by omega) (by decide)
  rw [nI_and, Ne, e0, Bool.or_eq_true]
  constructor
  · intro e
    cases ea : K.testBit a
    · cases eb : K.testBit b
      · refine absurd ?_ e
        apply Nat.eq_of_testBit_eq
        intro i
        simp only [Nat.testBit_and, Nat.testBit_or, Nat.testBit_two_pow, Nat.zero_testBit]
        by_cases z : a = i
        · subst z; simp [ea]
        · by_cases z2 : b = i
          · subst z2; simp [eb]
          · simp [z, z2]
      · exact Or.inr rfl
    · exact Or.inl rfl
  · rintro (e | e) z
    · have e1 : (K &&& (2 ^ a ||| 2 ^ b)).testBit a = (0 : Nat).testBit a := by rw [z]
      simp [Nat.testBit_two_pow, e] at e1
    · have e1 : (K &&& (2 ^ a ||| 2 ^ b)).testBit b = (0 : Nat).testBit b := by rw [z]
      simp [Nat.testBit_two_pow, e] at e1
theorem sh1 {a : Nat} (ha : a < 10) : (1 : Int32) <<< (nI a &&& 31) = nI (2 ^ a) := bt1_nI (by omega)
/-- weights of both, of either -/
theorem fn_both {T : aH} (ht : TOk T) {a b : Nat} (ha : a < 10) (hb : b < 10) : FN T (fun K => if nI K &&& nI (2 ^ a ||| 2 ^ b) = nI (2 ^ a ||| 2 ^ b) then 1 else 0) = jtN T (nI a) (nI b) 0 256 := by
  rw [jt_FN ht]
  exact FN_congr fun t _ => by
    have hk := kN_lt ht t
    by_cases z : ((kN T t).testBit a && (kN T t).testBit b) = true
    · rw [if_pos ((both_iff hk ha hb).mpr z), if_pos (by rw [jc_0 hk ha hb]; exact z)]
    · rw [if_neg (fun y => z ((both_iff hk ha hb).mp y)), if_neg (by rw [jc_0 hk ha hb]; exact z)]
theorem fn_any {T : aH} (ht : TOk T) {a b : Nat} (ha : a < 10) (hb : b < 10) : FN T (fun K => if nI K &&& nI (2 ^ a ||| 2 ^ b) ≠ 0 then 1 else 0) = jtN T (nI a) (nI b) 1 256 := by
  rw [jt_FN ht]
  exact FN_congr fun t _ => by
    have hk := kN_lt ht t
    by_cases z : ((kN T t).testBit a || (kN T t).testBit b) = true
    · rw [if_pos ((any_iff hk ha hb).mpr z), if_pos (by rw [jc_1 hk ha hb]; exact z)]
    · rw [if_neg (fun y => z ((any_iff hk ha hb).mp y)), if_neg (by rw [jc_1 hk ha hb]; exact z)]
theorem jt_sub {T : aH} (ht : TOk T) {a b : Nat} (ha : a < 10) (hb : b < 10) : jtN T (nI a) (nI b) 0 256 + jtN T (nI a) (nI b) 2 256 = jtN T (nI a) (nI b) 1 256 := by
  rw [jt_FN ht, jt_FN ht, jt_FN ht, ← FN_add]
  exact FN_congr fun t _ => by
    have hk := kN_lt ht t
    rw [jc_0 hk ha hb, jc_1 hk ha hb, jc_2 hk ha hb]
    cases (kN T t).testBit a <;> cases (kN T t).testBit b <;> rfl
theorem jt_l {T : aH} (ht : TOk T) {a b w : Int32} : jtN T a b w 256 < 2 ^ 31 := by
  have w8 := wh8 ht
  rw [jt_FN ht]
  have : FN T (fun K => if jcB (nI K) a b w = true then 1 else 0) ≤ 1 * whN T := FN_le ht fun t _ => by split <;> omega
  omega
theorem su_l {T : aH} (ht : TOk T) {k : Nat} {s : Int32} : suN T k s 256 < 2 ^ 31 := by
  have w8 := wh8 ht
  rw [su_FN ht]
  have : FN T (fun K => if metB T k (s &&& nI K) = true then 1 else 0) ≤ 1 * whN T := FN_le ht fun t _ => by split <;> omega
  omega
theorem me_l {T : aH} (ht : TOk T) {s : Int32} : meN T s 256 < 2 ^ 31 := by
  have w8 := wh8 ht
  rw [me_FN ht]
  have : FN T (fun K => owN T s (nI K)) ≤ 980 * whN T := FN_le ht fun t _ => (ow_nI ht _ _).2
  omega
theorem wo_l {T : aH} (ht : TOk T) {s : Int32} : woN T s (nN T) < 2 ^ 31 := by
  have w8 := wh8 ht
  rw [wo_FN ht]
  have : FN T (fun K => wrN T (s &&& nI K)) ≤ 594 * whN T := FN_le ht fun t _ => wrN_le ht _
  omega
theorem ha_l {T : aH} (ht : TOk T) {s m : Int32} : haN T s m 256 < 2 ^ 31 := by
  have w8 := wh8 ht
  rw [ha_FN ht]
  have : FN T (fun K => if m < owed T s (nI K) then 1 else 0) ≤ 1 * whN T := FN_le ht fun t _ => by split <;> omega
  omega
def alN (T : aH) (set : Int32) : Nat → Nat := SN (fun t => if metI T (set &&& kept T (nI t)) = nI (2 ^ nN T - 1) then wN T t else 0)
theorem al_FN {T : aH} (ht : TOk T) {set : Int32} : alN T set 256 = FN T (fun K => if metI T (set &&& nI K) = nI (2 ^ nN T - 1) then 1 else 0) := SN_congr fun t _ => by
  rw [(kept_nI ht t).1]
  exact ite1
theorem al_l {T : aH} (ht : TOk T) {s : Int32} : alN T s 256 < 2 ^ 31 := by
  have w8 := wh8 ht
  rw [al_FN ht]
  have : FN T (fun K => if metI T (s &&& nI K) = nI (2 ^ nN T - 1) then 1 else 0) ≤ 1 * whN T := FN_le ht fun t _ => by split <;> omega
  omega
def sp_chance (V : aV) (p part : Int32) : Int32 × aV := if isP V.1 p ∧ (0 ≤ part ∧ part ≤ 1) then (tldN (jtN V.1 p p 0 256) (whN V.1) part, V) else fnd V 0 (-1000001)
set_option maxRecDepth 100000 in
set_option maxHeartbeats 400000 in
theorem zC_chance {V : aV} (hV : VOk V) (p part : Int32) : CX mX5_chance 11 [.int p, .int part] V (sp_chance V p part) := by
  intro h g hv
  obtain ⟨v1, v2, v3, v4, v5, v6⟩ := id hv
  have ht := hV.1
  refine MX.of okX5_chance (by decide +kernel) (Nat.le_of_ble_eq_true rfl) (by decide) rfl (by decide) ?_
  refine SegP.run [] 400 ?_
  refine SegP.tr (Seg.cV (tX5_isPromise v1 p) mlX5_114 iyX5_isPromise seX5_isPromise oyX5_isPromise rfl (by decide) rfl (by decide) (by decide) rfl rfl rfl rfl (Nat.le_of_ble_eq_true rfl) (Nat.le_of_ble_eq_true rfl)) ?_
  refine SegP.run [] 400 ?_
  refine And.intro (fun z0 => ?_) (fun z0 => ?_)
  · refine SegP.tr (Seg.cV (tX5_refuse h g 0 (by decide) (-1000001) (by decide)) mlX5_64 iyX5_refuse seX5_refuse oyX5_refuse rfl (by decide) rfl (by decide) (by decide) rfl rfl rfl rfl (Nat.le_of_ble_eq_true rfl) (Nat.le_of_ble_eq_true rfl)) ?_
    refine SegP.run [] 400 ?_
    exact cfn hv (k := 0) (by decide) (by rw [sp_chance, if_neg (fun y => bq0 z0 y.1)])
  have q0 := bq1 z0
  refine SegP.tr (Seg.cS ((tX5_isPart part).ms h g) mlX5_178 syX5_isPart oyX5_isPart rfl (by decide) rfl rfl rfl (Nat.le_of_ble_eq_true rfl) (Nat.le_of_ble_eq_true rfl)) ?_
  refine SegP.run [] 400 ?_
  refine And.intro (fun z1 => ?_) (fun z1 => ?_)
  · have q1 := bn1 z1
    obtain ⟨p', hp, rfl⟩ := isP_N ht q0
    have h10 := ht.np.1
    refine SegP.cV (tX0_gather h V.1 g v1 ht) mlX5_181 iyX0_gather seX0_gather oyX0_gather rfl (by decide) rfl (by decide) (by decide) rfl rfl rfl rfl (Nat.le_of_ble_eq_true rfl) ?_
    rintro r h1 g1 ⟨rfl, fr, hc⟩
    have hv1 := frV hv fr
    refine SegP.run [] 400 ?_
    have hm := tX0_weightOfAllKept h1 V.1 g1 hc (nI (2 ^ p'))
    have e0 := fn_both ht (a := p') (b := p') (by omega) (by omega)
    rw [Nat.or_self] at e0
    rw [e0] at hm
    refine SegP.tr (Seg.cV (show MS mX0_weightOfAllKept 1 [.ref 43, .int ((1 : Int32) <<< (nI p' &&& 31))] h1 g1 [.long (lN (jtN V.1 (nI p') (nI p') 0 256))] h1 g1 by rw [sh1 (by omega)]; exact hm) mlX5_184 iyX0_weightOfAllKept seX0_weightOfAllKept oyX0_weightOfAllKept rfl (by decide) rfl (by decide) (by decide) rfl rfl rfl rfl (Nat.le_of_ble_eq_true rfl) (Nat.le_of_ble_eq_true rfl)) ?_
    refine SegP.run [] 400 ?_
    refine SegP.tr (Seg.cV (tX0_fraction h1 V.1 g1 hc.1.1 ht (jtN V.1 (nI p') (nI p') 0 256) (jt_l ht) part) mlX5_188 iyX0_fraction seX0_fraction oyX0_fraction rfl (by decide) rfl (by decide) (by decide) rfl rfl rfl rfl (Nat.le_of_ble_eq_true rfl) (Nat.le_of_ble_eq_true rfl)) ?_
    refine SegP.run [] 400 ?_
    exact cid' hv1 (fr63 fr) (by rw [sp_chance, if_pos ⟨q0, q1⟩])
  · refine SegP.tr (Seg.cV (tX5_refuse h g 0 (by decide) (-1000001) (by decide)) mlX5_64 iyX5_refuse seX5_refuse oyX5_refuse rfl (by decide) rfl (by decide) (by decide) rfl rfl rfl rfl (Nat.le_of_ble_eq_true rfl) (Nat.le_of_ble_eq_true rfl)) ?_
    refine SegP.run [] 400 ?_
    exact cfn hv (k := 0) (by decide) (by rw [sp_chance, if_neg (fun y => bn0 z1 y.2)])
set_option maxRecDepth 100000 in
set_option maxHeartbeats 400000 in
theorem zM_chance {V : aV} (hV : VOk V) (p part : Int32) : DX mX6_chance 11 [.int p, .int part] V (sp_chance V p part) := by
  intro h g hv
  obtain ⟨v1, v2, v3, v4, v5, v6⟩ := id hv
  have ht := hV.1
  refine MX.of okX6_chance (by decide +kernel) (Nat.le_of_ble_eq_true rfl) (by decide) rfl (by decide) ?_
  refine SegP.run [] 400 ?_
  refine SegP.tr (Seg.cV (tX6_isPromise ht v1 p) mlX6_161 iyX6_isPromise seX6_isPromise oyX6_isPromise rfl (by decide) rfl (by decide) (by decide) rfl rfl rfl rfl (Nat.le_of_ble_eq_true rfl) (Nat.le_of_ble_eq_true rfl)) ?_
  refine SegP.run [] 400 ?_
  refine And.intro (fun z0 => ?_) (fun z0 => ?_)
  · refine SegP.tr (Seg.cV (tX6_fd h g 0 (by decide) 0 (by decide) (-1000001) (by decide)) mlX6_51 iyX6_finding seX6_finding oyX6_finding rfl (by decide) rfl (by decide) (by decide) rfl rfl rfl rfl (Nat.le_of_ble_eq_true rfl) (Nat.le_of_ble_eq_true rfl)) ?_
    refine SegP.run [] 400 ?_
    exact mfn hv (k := 0) (by decide) (by rw [sp_chance, if_neg (fun y => bq0 z0 y.1)])
  have q0 := bq1 z0
  refine SegP.tr (Seg.cS ((tX6_isPart part).ms h g) mlX6_215 syX6_isPart oyX6_isPart rfl (by decide) rfl rfl rfl (Nat.le_of_ble_eq_true rfl) (Nat.le_of_ble_eq_true rfl)) ?_
  refine SegP.run [] 400 ?_
  refine And.intro (fun z1 => ?_) (fun z1 => ?_)
  · have q1 := bn1 z1
    obtain ⟨p', hp, rfl⟩ := isP_N ht q0
    have h10 := ht.np.1
    refine SegP.tr (Seg.cV (tX6_findThrows h g (by rw [v1]; exact ht)) mlX6_218 iyX6_findThrows seX6_findThrows oyX6_findThrows rfl (by decide) rfl (by decide) (by decide) rfl rfl rfl rfl (Nat.le_of_ble_eq_true rfl) (Nat.le_of_ble_eq_true rfl)) ?_
    have hf := FT_ft (h := h) (by rw [v1]; exact ht)
    rw [v1] at hf
    refine SegP.run [] 400 ?_
    refine SegP.tr (Seg.cV (tX6_jointOf (ftH h) V.1 g hf (nI p') (nI p') 0) mlX6_221 iyX6_jointOf seX6_jointOf oyX6_jointOf rfl (by decide) rfl (by decide) (by decide) rfl rfl rfl rfl (Nat.le_of_ble_eq_true rfl) (Nat.le_of_ble_eq_true rfl)) ?_
    refine SegP.run [] 400 ?_
    refine SegP.tr (Seg.cV (tX6_told (ftH h) V.1 g hf (jtN V.1 (nI p') (nI p') 0 256) (jt_l ht) part) mlX6_225 iyX6_told seX6_told oyX6_told rfl (by decide) rfl (by decide) (by decide) rfl rfl rfl rfl (Nat.le_of_ble_eq_true rfl) (Nat.le_of_ble_eq_true rfl)) ?_
    refine SegP.run [] 400 ?_
    exact mid' (ftV hv) ftF (by rw [sp_chance, if_pos ⟨q0, q1⟩])
  · refine SegP.tr (Seg.cV (tX6_fd h g 0 (by decide) 0 (by decide) (-1000001) (by decide)) mlX6_51 iyX6_finding seX6_finding oyX6_finding rfl (by decide) rfl (by decide) (by decide) rfl rfl rfl rfl (Nat.le_of_ble_eq_true rfl) (Nat.le_of_ble_eq_true rfl)) ?_
    refine SegP.run [] 400 ?_
    exact mfn hv (k := 0) (by decide) (by rw [sp_chance, if_neg (fun y => bn0 z1 y.2)])
def sp_joint (V : aV) (a b w part : Int32) : Int32 × aV := if isP V.1 a ∧ isP V.1 b ∧ (0 ≤ w ∧ w ≤ 2) ∧ (0 ≤ part ∧ part ≤ 1) then (tldN (jtN V.1 a b w 256) (whN V.1) part, V) else fnd V 0 (-1000001)
set_option maxRecDepth 100000 in
set_option maxHeartbeats 400000 in
theorem zC_joint {V : aV} (hV : VOk V) (a b w part : Int32) : CX mX5_joint 11 [.int a, .int b, .int w, .int part] V (sp_joint V a b w part) := by
  intro h g hv
  obtain ⟨v1, v2, v3, v4, v5, v6⟩ := id hv
  have ht := hV.1
  refine MX.of okX5_joint (by decide +kernel) (Nat.le_of_ble_eq_true rfl) (by decide) rfl (by decide) ?_
  refine SegP.run [] 400 ?_
  refine SegP.tr (Seg.cV (tX5_isPromise v1 a) mlX5_114 iyX5_isPromise seX5_isPromise oyX5_isPromise rfl (by decide) rfl (by decide) (by decide) rfl rfl rfl rfl (Nat.le_of_ble_eq_true rfl) (Nat.le_of_ble_eq_true rfl)) ?_
  refine SegP.run [] 400 ?_
  refine And.intro (fun z0 => ?_) (fun z0 => ?_)
  · refine SegP.tr (Seg.cV (tX5_refuse h g 0 (by decide) (-1000001) (by decide)) mlX5_64 iyX5_refuse seX5_refuse oyX5_refuse rfl (by decide) rfl (by decide) (by decide) rfl rfl rfl rfl (Nat.le_of_ble_eq_true rfl) (Nat.le_of_ble_eq_true rfl)) ?_
    refine SegP.run [] 400 ?_
    exact cfn hv (k := 0) (by decide) (by rw [sp_joint, if_neg (fun y => bq0 z0 y.1)])
  have q0 := bq1 z0
  refine SegP.tr (Seg.cV (tX5_isPromise v1 b) mlX5_114 iyX5_isPromise seX5_isPromise oyX5_isPromise rfl (by decide) rfl (by decide) (by decide) rfl rfl rfl rfl (Nat.le_of_ble_eq_true rfl) (Nat.le_of_ble_eq_true rfl)) ?_
  refine SegP.run [] 400 ?_
  refine And.intro (fun z1 => ?_) (fun z1 => ?_)
  · refine SegP.tr (Seg.cV (tX5_refuse h g 0 (by decide) (-1000001) (by decide)) mlX5_64 iyX5_refuse seX5_refuse oyX5_refuse rfl (by decide) rfl (by decide) (by decide) rfl rfl rfl rfl (Nat.le_of_ble_eq_true rfl) (Nat.le_of_ble_eq_true rfl)) ?_
    refine SegP.run [] 400 ?_
    exact cfn hv (k := 0) (by decide) (by rw [sp_joint, if_neg (fun y => bq0 z1 y.2.1)])
  have q1 := bq1 z1
  refine SegP.tr (Seg.cS ((tX5_isBetween w 0 2).ms h g) mlX5_59 syX5_isBetween oyX5_isBetween rfl (by decide) rfl rfl rfl (Nat.le_of_ble_eq_true rfl) (Nat.le_of_ble_eq_true rfl)) ?_
  refine SegP.run [] 400 ?_
  refine And.intro (fun z2 => ?_) (fun z2 => ?_)
  · refine SegP.tr (Seg.cV (tX5_refuse h g 0 (by decide) (-1000001) (by decide)) mlX5_64 iyX5_refuse seX5_refuse oyX5_refuse rfl (by decide) rfl (by decide) (by decide) rfl rfl rfl rfl (Nat.le_of_ble_eq_true rfl) (Nat.le_of_ble_eq_true rfl)) ?_
    refine SegP.run [] 400 ?_
    exact cfn hv (k := 0) (by decide) (by rw [sp_joint, if_neg (fun y => bq0 z2 y.2.2.1)])
  have q2 := bq1 z2
  refine SegP.tr (Seg.cS ((tX5_isPart part).ms h g) mlX5_178 syX5_isPart oyX5_isPart rfl (by decide) rfl rfl rfl (Nat.le_of_ble_eq_true rfl) (Nat.le_of_ble_eq_true rfl)) ?_
  refine SegP.run [] 400 ?_
  refine And.intro (fun z3 => ?_) (fun z3 => ?_)
  · have q3 := bn1 z3
    obtain ⟨a', ha, rfl⟩ := isP_N ht q0
    obtain ⟨b', hb, rfl⟩ := isP_N ht q1
    have h10 := ht.np.1
    refine SegP.cV (tX0_gather h V.1 g v1 ht) mlX5_181 iyX0_gather seX0_gather oyX0_gather rfl (by decide) rfl (by decide) (by decide) rfl rfl rfl rfl (Nat.le_of_ble_eq_true rfl) ?_
    rintro r h1 g1 ⟨rfl, fr, hc⟩
    have hv1 := frV hv fr
    refine SegP.run [] 400 ?_
    have ew : (1 : Int32) <<< (nI a' &&& 31) ||| (1 : Int32) <<< (nI b' &&& 31) = nI (2 ^ a' ||| 2 ^ b') := by rw [sh1 (by omega), sh1 (by omega), nI_or]
    have hm : MS mX0_weightOfAllKept 1 [.ref 43, .int ((1 : Int32) <<< (nI a' &&& 31) ||| (1 : Int32) <<< (nI b' &&& 31))] h1 g1 [.long (lN (jtN V.1 (nI a') (nI b') 0 256))] h1 g1 := by
      rw [ew, ← fn_both ht (by omega) (by omega)]
      exact tX0_weightOfAllKept h1 V.1 g1 hc _
    have hm2 : MS mX0_weightOfAnyKept 1 [.ref 43, .int ((1 : Int32) <<< (nI a' &&& 31) ||| (1 : Int32) <<< (nI b' &&& 31))] h1 g1 [.long (lN (jtN V.1 (nI a') (nI b') 1 256))] h1 g1 := by
      rw [ew, ← fn_any ht (by omega) (by omega)]
      exact tX0_weightOfAnyKept h1 V.1 g1 hc _
    refine SegP.tr (Seg.cV hm mlX5_184 iyX0_weightOfAllKept seX0_weightOfAllKept oyX0_weightOfAllKept rfl (by decide) rfl (by decide) (by decide) rfl rfl rfl rfl (Nat.le_of_ble_eq_true rfl) (Nat.le_of_ble_eq_true rfl)) ?_
    refine SegP.run [] 400 ?_
    refine And.intro (fun w0 => ?_) (fun w0 => ?_)
    · refine SegP.tr (Seg.cV hm2 mlX5_192 iyX0_weightOfAnyKept seX0_weightOfAnyKept oyX0_weightOfAnyKept rfl (by decide) rfl (by decide) (by decide) rfl rfl rfl rfl (Nat.le_of_ble_eq_true rfl) (Nat.le_of_ble_eq_true rfl)) ?_
      refine SegP.run [] 400 ?_
      refine And.intro (fun w1 => ?_) (fun w1 => ?_)
      · have w2 : w = 2 := by
          obtain ⟨x, hx, rfl⟩ := rng (a := 0) (b := 2) (by decide) (show nI 0 ≤ w ∧ w ≤ nI 2 from q2) (by decide)
          rcases (show x = 0 ∨ x = 1 ∨ x = 2 by omega) with rfl | rfl | rfl
          · exact absurd rfl w0
          · exact absurd rfl w1
          · rfl
        subst w2
        have es : lN (jtN V.1 (nI a') (nI b') 1 256) - lN (jtN V.1 (nI a') (nI b') 0 256) = lN (jtN V.1 (nI a') (nI b') 2 256) := by
          have := jt_sub ht (a := a') (b := b') (by omega) (by omega)
          rw [lN_sub (by omega)]
          congr 1
          omega
        refine SegP.tr (Seg.cV (show MS mX0_fraction 2 [.ref 43, .long (lN (jtN V.1 (nI a') (nI b') 1 256) - lN (jtN V.1 (nI a') (nI b') 0 256)), .int part] h1 g1 [.int (tldN (jtN V.1 (nI a') (nI b') 2 256) (whN V.1) part)] h1 g1 by rw [es]; exact tX0_fraction h1 V.1 g1 hc.1.1 ht _ (jt_l ht) part) mlX5_188 iyX0_fraction seX0_fraction oyX0_fraction rfl (by decide) rfl (by decide) (by decide) rfl rfl rfl rfl (Nat.le_of_ble_eq_true rfl) (Nat.le_of_ble_eq_true rfl)) ?_
        refine SegP.run [] 400 ?_
        exact cid' hv1 (fr63 fr) (by rw [sp_joint, if_pos ⟨q0, q1, q2, q3⟩])
      · have w1 : w = 1 := Decidable.not_not.mp w1
        subst w1
        refine SegP.tr (Seg.cV (tX0_fraction h1 V.1 g1 hc.1.1 ht (jtN V.1 (nI a') (nI b') 1 256) (jt_l ht) part) mlX5_188 iyX0_fraction seX0_fraction oyX0_fraction rfl (by decide) rfl (by decide) (by decide) rfl rfl rfl rfl (Nat.le_of_ble_eq_true rfl) (Nat.le_of_ble_eq_true rfl)) ?_
        refine SegP.run [] 400 ?_
        exact cid' hv1 (fr63 fr) (by rw [sp_joint, if_pos ⟨q0, q1, q2, q3⟩])
    · have w0 : w = 0 := Decidable.not_not.mp w0
      subst w0
      refine SegP.tr (Seg.cV (tX0_fraction h1 V.1 g1 hc.1.1 ht (jtN V.1 (nI a') (nI b') 0 256) (jt_l ht) part) mlX5_188 iyX0_fraction seX0_fraction oyX0_fraction rfl (by decide) rfl (by decide) (by decide) rfl rfl rfl rfl (Nat.le_of_ble_eq_true rfl) (Nat.le_of_ble_eq_true rfl)) ?_
      refine SegP.run [] 400 ?_
      exact cid' hv1 (fr63 fr) (by rw [sp_joint, if_pos ⟨q0, q1, q2, q3⟩])
  · refine SegP.tr (Seg.cV (tX5_refuse h g 0 (by decide) (-1000001) (by decide)) mlX5_64 iyX5_refuse seX5_refuse oyX5_refuse rfl (by decide) rfl (by decide) (by decide) rfl rfl rfl rfl (Nat.le_of_ble_eq_true rfl) (Nat.le_of_ble_eq_true rfl)) ?_
    refine SegP.run [] 400 ?_
    exact cfn hv (k := 0) (by decide) (by rw [sp_joint, if_neg (fun y => bn0 z3 y.2.2.2)])
set_option maxRecDepth 100000 in
set_option maxHeartbeats 400000 in
theorem zM_joint {V : aV} (hV : VOk V) (a b w part : Int32) : DX mX6_joint 11 [.int a, .int b, .int w, .int part] V (sp_joint V a b w part) := by
  intro h g hv
  obtain ⟨v1, v2, v3, v4, v5, v6⟩ := id hv
  have ht := hV.1
  refine MX.of okX6_joint (by decide +kernel) (Nat.le_of_ble_eq_true rfl) (by decide) rfl (by decide) ?_
  refine SegP.run [] 400 ?_
  refine SegP.tr (Seg.cV (tX6_isPromise ht v1 a) mlX6_161 iyX6_isPromise seX6_isPromise oyX6_isPromise rfl (by decide) rfl (by decide) (by decide) rfl rfl rfl rfl (Nat.le_of_ble_eq_true rfl) (Nat.le_of_ble_eq_true rfl)) ?_
  refine SegP.run [] 400 ?_
  refine And.intro (fun z0 => ?_) (fun z0 => ?_)
  · refine SegP.tr (Seg.cV (tX6_fd h g 0 (by decide) 0 (by decide) (-1000001) (by decide)) mlX6_51 iyX6_finding seX6_finding oyX6_finding rfl (by decide) rfl (by decide) (by decide) rfl rfl rfl rfl (Nat.le_of_ble_eq_true rfl) (Nat.le_of_ble_eq_true rfl)) ?_
    refine SegP.run [] 400 ?_
    exact mfn hv (k := 0) (by decide) (by rw [sp_joint, if_neg (fun y => bq0 z0 y.1)])
  have q0 := bq1 z0
  refine SegP.tr (Seg.cV (tX6_isPromise ht v1 b) mlX6_161 iyX6_isPromise seX6_isPromise oyX6_isPromise rfl (by decide) rfl (by decide) (by decide) rfl rfl rfl rfl (Nat.le_of_ble_eq_true rfl) (Nat.le_of_ble_eq_true rfl)) ?_
  refine SegP.run [] 400 ?_
  refine And.intro (fun z1 => ?_) (fun z1 => ?_)
  · refine SegP.tr (Seg.cV (tX6_fd h g 0 (by decide) 0 (by decide) (-1000001) (by decide)) mlX6_51 iyX6_finding seX6_finding oyX6_finding rfl (by decide) rfl (by decide) (by decide) rfl rfl rfl rfl (Nat.le_of_ble_eq_true rfl) (Nat.le_of_ble_eq_true rfl)) ?_
    refine SegP.run [] 400 ?_
    exact mfn hv (k := 0) (by decide) (by rw [sp_joint, if_neg (fun y => bq0 z1 y.2.1)])
  have q1 := bq1 z1
  refine SegP.tr (Seg.cS ((tX6_in w 0 2).ms h g) mlX6_47 syX6_in oyX6_in rfl (by decide) rfl rfl rfl (Nat.le_of_ble_eq_true rfl) (Nat.le_of_ble_eq_true rfl)) ?_
  refine SegP.run [] 400 ?_
  refine And.intro (fun z2 => ?_) (fun z2 => ?_)
  · refine SegP.tr (Seg.cV (tX6_fd h g 0 (by decide) 0 (by decide) (-1000001) (by decide)) mlX6_51 iyX6_finding seX6_finding oyX6_finding rfl (by decide) rfl (by decide) (by decide) rfl rfl rfl rfl (Nat.le_of_ble_eq_true rfl) (Nat.le_of_ble_eq_true rfl)) ?_
    refine SegP.run [] 400 ?_
    exact mfn hv (k := 0) (by decide) (by rw [sp_joint, if_neg (fun y => bq0 z2 y.2.2.1)])
  have q2 := bq1 z2
  refine SegP.tr (Seg.cS ((tX6_isPart part).ms h g) mlX6_215 syX6_isPart oyX6_isPart rfl (by decide) rfl rfl rfl (Nat.le_of_ble_eq_true rfl) (Nat.le_of_ble_eq_true rfl)) ?_
  refine SegP.run [] 400 ?_
  refine And.intro (fun z3 => ?_) (fun z3 => ?_)
  · have q3 := bn1 z3
    refine SegP.tr (Seg.cV (tX6_findThrows h g (by rw [v1]; exact ht)) mlX6_218 iyX6_findThrows seX6_findThrows oyX6_findThrows rfl (by decide) rfl (by decide) (by decide) rfl rfl rfl rfl (Nat.le_of_ble_eq_true rfl) (Nat.le_of_ble_eq_true rfl)) ?_
    have hf := FT_ft (h := h) (by rw [v1]; exact ht)
    rw [v1] at hf
    refine SegP.run [] 400 ?_
    refine SegP.tr (Seg.cV (tX6_jointOf (ftH h) V.1 g hf a b w) mlX6_221 iyX6_jointOf seX6_jointOf oyX6_jointOf rfl (by decide) rfl (by decide) (by decide) rfl rfl rfl rfl (Nat.le_of_ble_eq_true rfl) (Nat.le_of_ble_eq_true rfl)) ?_
    refine SegP.run [] 400 ?_
    refine SegP.tr (Seg.cV (tX6_told (ftH h) V.1 g hf (jtN V.1 a b w 256) (jt_l ht) part) mlX6_225 iyX6_told seX6_told oyX6_told rfl (by decide) rfl (by decide) (by decide) rfl rfl rfl rfl (Nat.le_of_ble_eq_true rfl) (Nat.le_of_ble_eq_true rfl)) ?_
    refine SegP.run [] 400 ?_
    exact mid' (ftV hv) ftF (by rw [sp_joint, if_pos ⟨q0, q1, q2, q3⟩])
  · refine SegP.tr (Seg.cV (tX6_fd h g 0 (by decide) 0 (by decide) (-1000001) (by decide)) mlX6_51 iyX6_finding seX6_finding oyX6_finding rfl (by decide) rfl (by decide) (by decide) rfl rfl rfl rfl (Nat.le_of_ble_eq_true rfl) (Nat.le_of_ble_eq_true rfl)) ?_
    refine SegP.run [] 400 ?_
    exact mfn hv (k := 0) (by decide) (by rw [sp_joint, if_neg (fun y => bn0 z3 y.2.2.2)])
def sp_sure (V : aV) (k p part : Int32) : Int32 × aV := if isN V.1 k ∧ isS V.1 p ∧ (0 ≤ part ∧ part ≤ 1) then (tldN (suN V.1 (cl k) p 256) (whN V.1) part, V) else fnd V 0 (-1000001)
set_option maxRecDepth 100000 in
set_option maxHeartbeats 400000 in
theorem zC_sure {V : aV} (hV : VOk V) (k p part : Int32) : CX mX5_sure 11 [.int k, .int p, .int part] V (sp_sure V k p part) := by
  intro h g hv
  obtain ⟨v1, v2, v3, v4, v5, v6⟩ := id hv
  have ht := hV.1
  refine MX.of okX5_sure (by decide +kernel) (Nat.le_of_ble_eq_true rfl) (by decide) rfl (by decide) ?_
  refine SegP.run [] 400 ?_
  refine SegP.tr (Seg.cV (tX5_isNeed v1 k) mlX5_138 iyX5_isNeed seX5_isNeed oyX5_isNeed rfl (by decide) rfl (by decide) (by decide) rfl rfl rfl rfl (Nat.le_of_ble_eq_true rfl) (Nat.le_of_ble_eq_true rfl)) ?_
  refine SegP.run [] 400 ?_
  refine And.intro (fun z0 => ?_) (fun z0 => ?_)
  · refine SegP.tr (Seg.cV (tX5_refuse h g 0 (by decide) (-1000001) (by decide)) mlX5_64 iyX5_refuse seX5_refuse oyX5_refuse rfl (by decide) rfl (by decide) (by decide) rfl rfl rfl rfl (Nat.le_of_ble_eq_true rfl) (Nat.le_of_ble_eq_true rfl)) ?_
    refine SegP.run [] 400 ?_
    exact cfn hv (k := 0) (by decide) (by rw [sp_sure, if_neg (fun y => bq0 z0 y.1)])
  have q0 := bq1 z0
  refine SegP.tr (Seg.cV (tX5_isSet ht v1 p) mlX5_163 iyX5_isSet seX5_isSet oyX5_isSet rfl (by decide) rfl (by decide) (by decide) rfl rfl rfl rfl (Nat.le_of_ble_eq_true rfl) (Nat.le_of_ble_eq_true rfl)) ?_
  refine SegP.run [] 400 ?_
  refine And.intro (fun z1 => ?_) (fun z1 => ?_)
  · refine SegP.tr (Seg.cV (tX5_refuse h g 0 (by decide) (-1000001) (by decide)) mlX5_64 iyX5_refuse seX5_refuse oyX5_refuse rfl (by decide) rfl (by decide) (by decide) rfl rfl rfl rfl (Nat.le_of_ble_eq_true rfl) (Nat.le_of_ble_eq_true rfl)) ?_
    refine SegP.run [] 400 ?_
    exact cfn hv (k := 0) (by decide) (by rw [sp_sure, if_neg (fun y => bq0 z1 y.2.1)])
  have q1 := bq1 z1
  refine SegP.tr (Seg.cS ((tX5_isPart part).ms h g) mlX5_178 syX5_isPart oyX5_isPart rfl (by decide) rfl rfl rfl (Nat.le_of_ble_eq_true rfl) (Nat.le_of_ble_eq_true rfl)) ?_
  refine SegP.run [] 400 ?_
  refine And.intro (fun z2 => ?_) (fun z2 => ?_)
  · have q2 := bn1 z2
    obtain ⟨k', hk, rfl⟩ := isN_N ht q0
    have h6 := ht.nn.1
    refine SegP.cV (tX0_gather h V.1 g v1 ht) mlX5_181 iyX0_gather seX0_gather oyX0_gather rfl (by decide) rfl (by decide) (by decide) rfl rfl rfl rfl (Nat.le_of_ble_eq_true rfl) ?_
    rintro r h1 g1 ⟨rfl, fr, hc⟩
    have hv1 := frV hv fr
    refine SegP.run [] 400 ?_
    have hm := tX0_weightOfMet h1 V.1 g1 hc k' (by omega) p
    rw [show FN V.1 (fun K => if metB V.1 k' (nI K &&& p) = true then 1 else 0) = suN V.1 k' p 256 by rw [su_FN ht]; exact FN_congr fun t _ => by rw [Int32.and_comm]] at hm
    refine SegP.tr (Seg.cV hm mlX5_195 iyX0_weightOfMet seX0_weightOfMet oyX0_weightOfMet rfl (by decide) rfl (by decide) (by decide) rfl rfl rfl rfl (Nat.le_of_ble_eq_true rfl) (Nat.le_of_ble_eq_true rfl)) ?_
    refine SegP.run [] 400 ?_
    refine SegP.tr (Seg.cV (tX0_fraction h1 V.1 g1 hc.1.1 ht (suN V.1 k' p 256) (su_l ht) part) mlX5_188 iyX0_fraction seX0_fraction oyX0_fraction rfl (by decide) rfl (by decide) (by decide) rfl rfl rfl rfl (Nat.le_of_ble_eq_true rfl) (Nat.le_of_ble_eq_true rfl)) ?_
    refine SegP.run [] 400 ?_
    exact cid' hv1 (fr63 fr) (by rw [sp_sure, if_pos ⟨q0, q1, q2⟩, cl_nI (by omega)])
  · refine SegP.tr (Seg.cV (tX5_refuse h g 0 (by decide) (-1000001) (by decide)) mlX5_64 iyX5_refuse seX5_refuse oyX5_refuse rfl (by decide) rfl (by decide) (by decide) rfl rfl rfl rfl (Nat.le_of_ble_eq_true rfl) (Nat.le_of_ble_eq_true rfl)) ?_
    refine SegP.run [] 400 ?_
    exact cfn hv (k := 0) (by decide) (by rw [sp_sure, if_neg (fun y => bn0 z2 y.2.2)])
set_option maxRecDepth 100000 in
set_option maxHeartbeats 400000 in
theorem zM_sure {V : aV} (hV : VOk V) (k p part : Int32) : DX mX6_sure 11 [.int k, .int p, .int part] V (sp_sure V k p part) := by
  intro h g hv
  obtain ⟨v1, v2, v3, v4, v5, v6⟩ := id hv
  have ht := hV.1
  refine MX.of okX6_sure (by decide +kernel) (Nat.le_of_ble_eq_true rfl) (by decide) rfl (by decide) ?_
  refine SegP.run [] 400 ?_
  refine SegP.tr (Seg.cV (tX6_isNeed ht v1 k) mlX6_168 iyX6_isNeed seX6_isNeed oyX6_isNeed rfl (by decide) rfl (by decide) (by decide) rfl rfl rfl rfl (Nat.le_of_ble_eq_true rfl) (Nat.le_of_ble_eq_true rfl)) ?_
  refine SegP.run [] 400 ?_
  refine And.intro (fun z0 => ?_) (fun z0 => ?_)
  · refine SegP.tr (Seg.cV (tX6_fd h g 0 (by decide) 0 (by decide) (-1000001) (by decide)) mlX6_51 iyX6_finding seX6_finding oyX6_finding rfl (by decide) rfl (by decide) (by decide) rfl rfl rfl rfl (Nat.le_of_ble_eq_true rfl) (Nat.le_of_ble_eq_true rfl)) ?_
    refine SegP.run [] 400 ?_
    exact mfn hv (k := 0) (by decide) (by rw [sp_sure, if_neg (fun y => bq0 z0 y.1)])
  have q0 := bq1 z0
  refine SegP.tr (Seg.cV (tX6_isSet ht v1 p) mlX6_200 iyX6_isSet seX6_isSet oyX6_isSet rfl (by decide) rfl (by decide) (by decide) rfl rfl rfl rfl (Nat.le_of_ble_eq_true rfl) (Nat.le_of_ble_eq_true rfl)) ?_
  refine SegP.run [] 400 ?_
  refine And.intro (fun z1 => ?_) (fun z1 => ?_)
  · refine SegP.tr (Seg.cV (tX6_fd h g 0 (by decide) 0 (by decide) (-1000001) (by decide)) mlX6_51 iyX6_finding seX6_finding oyX6_finding rfl (by decide) rfl (by decide) (by decide) rfl rfl rfl rfl (Nat.le_of_ble_eq_true rfl) (Nat.le_of_ble_eq_true rfl)) ?_
    refine SegP.run [] 400 ?_
    exact mfn hv (k := 0) (by decide) (by rw [sp_sure, if_neg (fun y => bq0 z1 y.2.1)])
  have q1 := bq1 z1
  refine SegP.tr (Seg.cS ((tX6_isPart part).ms h g) mlX6_215 syX6_isPart oyX6_isPart rfl (by decide) rfl rfl rfl (Nat.le_of_ble_eq_true rfl) (Nat.le_of_ble_eq_true rfl)) ?_
  refine SegP.run [] 400 ?_
  refine And.intro (fun z2 => ?_) (fun z2 => ?_)
  · have q2 := bn1 z2
    obtain ⟨k', hk, rfl⟩ := isN_N ht q0
    have h6 := ht.nn.1
    refine SegP.tr (Seg.cV (tX6_findThrows h g (by rw [v1]; exact ht)) mlX6_218 iyX6_findThrows seX6_findThrows oyX6_findThrows rfl (by decide) rfl (by decide) (by decide) rfl rfl rfl rfl (Nat.le_of_ble_eq_true rfl) (Nat.le_of_ble_eq_true rfl)) ?_
    have hf := FT_ft (h := h) (by rw [v1]; exact ht)
    rw [v1] at hf
    refine SegP.run [] 400 ?_
    refine SegP.tr (Seg.cV (tX6_sureOf (ftH h) V.1 g hf k' (by omega) p) mlX6_228 iyX6_sureOf seX6_sureOf oyX6_sureOf rfl (by decide) rfl (by decide) (by decide) rfl rfl rfl rfl (Nat.le_of_ble_eq_true rfl) (Nat.le_of_ble_eq_true rfl)) ?_
    refine SegP.run [] 400 ?_
    refine SegP.tr (Seg.cV (tX6_told (ftH h) V.1 g hf (suN V.1 k' p 256) (su_l ht) part) mlX6_225 iyX6_told seX6_told oyX6_told rfl (by decide) rfl (by decide) (by decide) rfl rfl rfl rfl (Nat.le_of_ble_eq_true rfl) (Nat.le_of_ble_eq_true rfl)) ?_
    refine SegP.run [] 400 ?_
    exact mid' (ftV hv) ftF (by rw [sp_sure, if_pos ⟨q0, q1, q2⟩, cl_nI (by omega)])
  · refine SegP.tr (Seg.cV (tX6_fd h g 0 (by decide) 0 (by decide) (-1000001) (by decide)) mlX6_51 iyX6_finding seX6_finding oyX6_finding rfl (by decide) rfl (by decide) (by decide) rfl rfl rfl rfl (Nat.le_of_ble_eq_true rfl) (Nat.le_of_ble_eq_true rfl)) ?_
    refine SegP.run [] 400 ?_
    exact mfn hv (k := 0) (by decide) (by rw [sp_sure, if_neg (fun y => bn0 z2 y.2.2)])
def sp_all (V : aV) (p part : Int32) : Int32 × aV := if isS V.1 p ∧ (0 ≤ part ∧ part ≤ 1) then (tldN (alN V.1 p 256) (whN V.1) part, V) else fnd V 0 (-1000001)
set_option maxRecDepth 100000 in
set_option maxHeartbeats 400000 in
theorem zC_all {V : aV} (hV : VOk V) (p part : Int32) : CX mX5_all 11 [.int p, .int part] V (sp_all V p part) := by
  intro h g hv
  obtain ⟨v1, v2, v3, v4, v5, v6⟩ := id hv
  have ht := hV.1
  refine MX.of okX5_all (by decide +kernel) (Nat.le_of_ble_eq_true rfl) (by decide) rfl (by decide) ?_
  refine SegP.run [] 400 ?_
  refine SegP.tr (Seg.cV (tX5_isSet ht v1 p) mlX5_163 iyX5_isSet seX5_isSet oyX5_isSet rfl (by decide) rfl (by decide) (by decide) rfl rfl rfl rfl (Nat.le_of_ble_eq_true rfl) (Nat.le_of_ble_eq_true rfl)) ?_
  refine SegP.run [] 400 ?_
  refine And.intro (fun z0 => ?_) (fun z0 => ?_)
  · refine SegP.tr (Seg.cV (tX5_refuse h g 0 (by decide) (-1000001) (by decide)) mlX5_64 iyX5_refuse seX5_refuse oyX5_refuse rfl (by decide) rfl (by decide) (by decide) rfl rfl rfl rfl (Nat.le_of_ble_eq_true rfl) (Nat.le_of_ble_eq_true rfl)) ?_
    refine SegP.run [] 400 ?_
    exact cfn hv (k := 0) (by decide) (by rw [sp_all, if_neg (fun y => bq0 z0 y.1)])
  have q0 := bq1 z0
  refine SegP.tr (Seg.cS ((tX5_isPart part).ms h g) mlX5_178 syX5_isPart oyX5_isPart rfl (by decide) rfl rfl rfl (Nat.le_of_ble_eq_true rfl) (Nat.le_of_ble_eq_true rfl)) ?_
  refine SegP.run [] 400 ?_
  refine And.intro (fun z1 => ?_) (fun z1 => ?_)
  · have q1 := bn1 z1
    refine SegP.cV (tX0_gather h V.1 g v1 ht) mlX5_181 iyX0_gather seX0_gather oyX0_gather rfl (by decide) rfl (by decide) (by decide) rfl rfl rfl rfl (Nat.le_of_ble_eq_true rfl) ?_
    rintro r h1 g1 ⟨rfl, fr, hc⟩
    have hv1 := frV hv fr
    refine SegP.run [] 400 ?_
    have hm := tX0_weightOfAllMet h1 V.1 g1 hc p
    rw [show FN V.1 (fun K => if metI V.1 (nI K &&& p) = nI (2 ^ nN V.1 - 1) then 1 else 0) = alN V.1 p 256 by rw [al_FN ht]; exact FN_congr fun t _ => by rw [Int32.and_comm]] at hm
    refine SegP.tr (Seg.cV hm mlX5_199 iyX0_weightOfAllMet seX0_weightOfAllMet oyX0_weightOfAllMet rfl (by decide) rfl (by decide) (by decide) rfl rfl rfl rfl (Nat.le_of_ble_eq_true rfl) (Nat.le_of_ble_eq_true rfl)) ?_
    refine SegP.run [] 400 ?_
    refine SegP.tr (Seg.cV (tX0_fraction h1 V.1 g1 hc.1.1 ht (alN V.1 p 256) (al_l ht) part) mlX5_188 iyX0_fraction seX0_fraction oyX0_fraction rfl (by decide) rfl (by decide) (by decide) rfl rfl rfl rfl (Nat.le_of_ble_eq_true rfl) (Nat.le_of_ble_eq_true rfl)) ?_
    refine SegP.run [] 400 ?_
    exact cid' hv1 (fr63 fr) (by rw [sp_all, if_pos ⟨q0, q1⟩])
  · refine SegP.tr (Seg.cV (tX5_refuse h g 0 (by decide) (-1000001) (by decide)) mlX5_64 iyX5_refuse seX5_refuse oyX5_refuse rfl (by decide) rfl (by decide) (by decide) rfl rfl rfl rfl (Nat.le_of_ble_eq_true rfl) (Nat.le_of_ble_eq_true rfl)) ?_
    refine SegP.run [] 400 ?_
    exact cfn hv (k := 0) (by decide) (by rw [sp_all, if_neg (fun y => bn0 z1 y.2)])
set_option maxRecDepth 100000 in
set_option maxHeartbeats 400000 in
theorem zM_all {V : aV} (hV : VOk V) (p part : Int32) : DX mX6_all 11 [.int p, .int part] V (sp_all V p part) := by
  intro h g hv
  obtain ⟨v1, v2, v3, v4, v5, v6⟩ := id hv
  have ht := hV.1
  refine MX.of okX6_all (by decide +kernel) (Nat.le_of_ble_eq_true rfl) (by decide) rfl (by decide) ?_
  refine SegP.run [] 400 ?_
  refine SegP.tr (Seg.cV (tX6_isSet ht v1 p) mlX6_200 iyX6_isSet seX6_isSet oyX6_isSet rfl (by decide) rfl (by decide) (by decide) rfl rfl rfl rfl (Nat.le_of_ble_eq_true rfl) (Nat.le_of_ble_eq_true rfl)) ?_
  refine SegP.run [] 400 ?_
  refine And.intro (fun z0 => ?_) (fun z0 => ?_)
  · refine SegP.tr (Seg.cV (tX6_fd h g 0 (by decide) 0 (by decide) (-1000001) (by decide)) mlX6_51 iyX6_finding seX6_finding oyX6_finding rfl (by decide) rfl (by decide) (by decide) rfl rfl rfl rfl (Nat.le_of_ble_eq_true rfl) (Nat.le_of_ble_eq_true rfl)) ?_
    refine SegP.run [] 400 ?_
    exact mfn hv (k := 0) (by decide) (by rw [sp_all, if_neg (fun y => bq0 z0 y.1)])
  have q0 := bq1 z0
  refine SegP.tr (Seg.cS ((tX6_isPart part).ms h g) mlX6_215 syX6_isPart oyX6_isPart rfl (by decide) rfl rfl rfl (Nat.le_of_ble_eq_true rfl) (Nat.le_of_ble_eq_true rfl)) ?_
  refine SegP.run [] 400 ?_
  refine And.intro (fun z1 => ?_) (fun z1 => ?_)
  · have q1 := bn1 z1
    have hN := ht.nn.1
    have e64 : ftH h 64 1 = nI (nN V.1) := ((mR0 (ftV hv)).2.1).trans ht.nn.2
    have em : (1 : Int32) <<< (ftH h 64 (1 : Int32).toNatClampNeg &&& 31) - 1 = nI (2 ^ nN V.1 - 1) := by
      rw [show (1 : Int32).toNatClampNeg = 1 from rfl, e64, sh1 (by omega)]
      exact nI_sb (b := 1) Nat.one_le_two_pow
    refine SegP.tr (Seg.cV (tX6_findThrows h g (by rw [v1]; exact ht)) mlX6_218 iyX6_findThrows seX6_findThrows oyX6_findThrows rfl (by decide) rfl (by decide) (by decide) rfl rfl rfl rfl (Nat.le_of_ble_eq_true rfl) (Nat.le_of_ble_eq_true rfl)) ?_
    have hf := FT_ft (h := h) (by rw [v1]; exact ht)
    rw [v1] at hf
    refine SegP.run [30] 400 ?_
    refine SegP.tr (Seg.iter (fun i => (30, [some (.ref 63), some (.int p), some (.int part), some (.int (nI (alN V.1 p i))), some (.int (nI i))], [], nW, ftH h, g, ρ)) 256 (fun i hi => ?_)) ?_
    · have e1 := hf.1 i hi
      have e2 := (hf.2.1 i hi).trans (wg8 ht hi)
      have ci := cl10 hi
      have step : alN V.1 p (i + 1) = alN V.1 p i + (if metI V.1 (p &&& kept V.1 (nI i)) = nI (2 ^ nN V.1 - 1) then wN V.1 i else 0) := rfl
      have hm := tX6_metBy (ftH h) g (by rw [hf.2.2.2.1]; exact ht) (p &&& kept V.1 (nI i))
      rw [hf.2.2.2.1] at hm
      have hin := in10 hi (by decide)
      refine Seg.run [30] 400 ?_
      refine And.intro (fun c => ?_) (fun c => ?_)
      · exact (lim_ge (N := 256) hi (by decide) c).elim
      refine And.intro hin ?_
      rw [ci, e1]
      refine Seg.tr (Seg.cV hm mlX6_206 iyX6_metBy seX6_metBy oyX6_metBy rfl (by decide) rfl (by decide) (by decide) rfl rfl rfl rfl (Nat.le_of_ble_eq_true rfl) (Nat.le_of_ble_eq_true rfl)) ?_
      refine Seg.run [30] 400 ?_
      refine And.intro (in10 (p := 1) (by decide) (by decide)) ?_
      refine And.intro (fun d => ?_) (fun d => ?_)
      · have d' : ¬ metI V.1 (p &&& kept V.1 (nI i)) = nI (2 ^ nN V.1 - 1) := by rw [← em]; exact d
        exact Seg.of (by rw [step, if_neg d', Int32.add_zero, nI_succ] <;> rfl)
      · have d' : metI V.1 (p &&& kept V.1 (nI i)) = nI (2 ^ nN V.1 - 1) := by rw [← em]; exact Decidable.not_not.mp d
        refine And.intro hin ?_
        exact Seg.of (by rw [step, if_pos d', ci, e2, nI_ad, nI_succ] <;> rfl)
    · refine SegP.run [] 400 ?_
      refine And.intro (fun c => ?_) (fun c => ?_)
      · refine SegP.tr (Seg.cV (tX6_told (ftH h) V.1 g hf (alN V.1 p 256) (al_l ht) part) mlX6_225 iyX6_told seX6_told oyX6_told rfl (by decide) rfl (by decide) (by decide) rfl rfl rfl rfl (Nat.le_of_ble_eq_true rfl) (Nat.le_of_ble_eq_true rfl)) ?_
        refine SegP.run [] 400 ?_
        exact mid' (ftV hv) ftF (by rw [sp_all, if_pos ⟨q0, q1⟩])
      · exact (lim_le (N := 256) (Nat.le_refl _) (by decide) c).elim
  · refine SegP.tr (Seg.cV (tX6_fd h g 0 (by decide) 0 (by decide) (-1000001) (by decide)) mlX6_51 iyX6_finding seX6_finding oyX6_finding rfl (by decide) rfl (by decide) (by decide) rfl rfl rfl rfl (Nat.le_of_ble_eq_true rfl) (Nat.le_of_ble_eq_true rfl)) ?_
    refine SegP.run [] 400 ?_
    exact mfn hv (k := 0) (by decide) (by rw [sp_all, if_neg (fun y => bn0 z1 y.2)])
def sp_mean (V : aV) (p part : Int32) : Int32 × aV := if isS V.1 p ∧ (0 ≤ part ∧ part ≤ 1) then (tldN (meN V.1 p 256) (whN V.1) part, V) else fnd V 0 (-1000001)
set_option maxRecDepth 100000 in
set_option maxHeartbeats 400000 in
theorem zC_mean {V : aV} (hV : VOk V) (p part : Int32) : CX mX5_mean 11 [.int p, .int part] V (sp_mean V p part) := by
  intro h g hv
  obtain ⟨v1, v2, v3, v4, v5, v6⟩ := id hv
  have ht := hV.1
  refine MX.of okX5_mean (by decide +kernel) (Nat.le_of_ble_eq_true rfl) (by decide) rfl (by decide) ?_
  refine SegP.run [] 400 ?_
  refine SegP.tr (Seg.cV (tX5_isSet ht v1 p) mlX5_163 iyX5_isSet seX5_isSet oyX5_isSet rfl (by decide) rfl (by decide) (by decide) rfl rfl rfl rfl (Nat.le_of_ble_eq_true rfl) (Nat.le_of_ble_eq_true rfl)) ?_
  refine SegP.run [] 400 ?_
  refine And.intro (fun z0 => ?_) (fun z0 => ?_)
  · refine SegP.tr (Seg.cV (tX5_refuse h g 0 (by decide) (-1000001) (by decide)) mlX5_64 iyX5_refuse seX5_refuse oyX5_refuse rfl (by decide) rfl (by decide) (by decide) rfl rfl rfl rfl (Nat.le_of_ble_eq_true rfl) (Nat.le_of_ble_eq_true rfl)) ?_
    refine SegP.run [] 400 ?_
    exact cfn hv (k := 0) (by decide) (by rw [sp_mean, if_neg (fun y => bq0 z0 y.1)])
  have q0 := bq1 z0
  refine SegP.tr (Seg.cS ((tX5_isPart part).ms h g) mlX5_178 syX5_isPart oyX5_isPart rfl (by decide) rfl rfl rfl (Nat.le_of_ble_eq_true rfl) (Nat.le_of_ble_eq_true rfl)) ?_
  refine SegP.run [] 400 ?_
  refine And.intro (fun z1 => ?_) (fun z1 => ?_)
  · have q1 := bn1 z1
    refine SegP.cV (tX0_gather h V.1 g v1 ht) mlX5_181 iyX0_gather seX0_gather oyX0_gather rfl (by decide) rfl (by decide) (by decide) rfl rfl rfl rfl (Nat.le_of_ble_eq_true rfl) ?_
    rintro r h1 g1 ⟨rfl, fr, hc⟩
    have hv1 := frV hv fr
    refine SegP.run [] 400 ?_
    have hm := tX0_weighedOwed h1 V.1 g1 hc p
    rw [← me_FN ht] at hm
    refine SegP.tr (Seg.cV hm mlX5_202 iyX0_weighedOwed seX0_weighedOwed oyX0_weighedOwed rfl (by decide) rfl (by decide) (by decide) rfl rfl rfl rfl (Nat.le_of_ble_eq_true rfl) (Nat.le_of_ble_eq_true rfl)) ?_
    refine SegP.run [] 400 ?_
    refine SegP.tr (Seg.cV (tX0_fraction h1 V.1 g1 hc.1.1 ht (meN V.1 p 256) (me_l ht) part) mlX5_188 iyX0_fraction seX0_fraction oyX0_fraction rfl (by decide) rfl (by decide) (by decide) rfl rfl rfl rfl (Nat.le_of_ble_eq_true rfl) (Nat.le_of_ble_eq_true rfl)) ?_
    refine SegP.run [] 400 ?_
    exact cid' hv1 (fr63 fr) (by rw [sp_mean, if_pos ⟨q0, q1⟩])
  · refine SegP.tr (Seg.cV (tX5_refuse h g 0 (by decide) (-1000001) (by decide)) mlX5_64 iyX5_refuse seX5_refuse oyX5_refuse rfl (by decide) rfl (by decide) (by decide) rfl rfl rfl rfl (Nat.le_of_ble_eq_true rfl) (Nat.le_of_ble_eq_true rfl)) ?_
    refine SegP.run [] 400 ?_
    exact cfn hv (k := 0) (by decide) (by rw [sp_mean, if_neg (fun y => bn0 z1 y.2)])
set_option maxRecDepth 100000 in
set_option maxHeartbeats 400000 in
theorem zM_mean {V : aV} (hV : VOk V) (p part : Int32) : DX mX6_mean 11 [.int p, .int part] V (sp_mean V p part) := by
  intro h g hv
  obtain ⟨v1, v2, v3, v4, v5, v6⟩ := id hv
  have ht := hV.1
  refine MX.of okX6_mean (by decide +kernel) (Nat.le_of_ble_eq_true rfl) (by decide) rfl (by decide) ?_
  refine SegP.run [] 400 ?_
  refine SegP.tr (Seg.cV (tX6_isSet ht v1 p) mlX6_200 iyX6_isSet seX6_isSet oyX6_isSet rfl (by decide) rfl (by decide) (by decide) rfl rfl rfl rfl (Nat.le_of_ble_eq_true rfl) (Nat.le_of_ble_eq_true rfl)) ?_
  refine SegP.run [] 400 ?_
  refine And.intro (fun z0 => ?_) (fun z0 => ?_)
  · refine SegP.tr (Seg.cV (tX6_fd h g 0 (by decide) 0 (by decide) (-1000001) (by decide)) mlX6_51 iyX6_finding seX6_finding oyX6_finding rfl (by decide) rfl (by decide) (by decide) rfl rfl rfl rfl (Nat.le_of_ble_eq_true rfl) (Nat.le_of_ble_eq_true rfl)) ?_
    refine SegP.run [] 400 ?_
    exact mfn hv (k := 0) (by decide) (by rw [sp_mean, if_neg (fun y => bq0 z0 y.1)])
  have q0 := bq1 z0
  refine SegP.tr (Seg.cS ((tX6_isPart part).ms h g) mlX6_215 syX6_isPart oyX6_isPart rfl (by decide) rfl rfl rfl (Nat.le_of_ble_eq_true rfl) (Nat.le_of_ble_eq_true rfl)) ?_
  refine SegP.run [] 400 ?_
  refine And.intro (fun z1 => ?_) (fun z1 => ?_)
  · have q1 := bn1 z1
    refine SegP.tr (Seg.cV (tX6_findThrows h g (by rw [v1]; exact ht)) mlX6_218 iyX6_findThrows seX6_findThrows oyX6_findThrows rfl (by decide) rfl (by decide) (by decide) rfl rfl rfl rfl (Nat.le_of_ble_eq_true rfl) (Nat.le_of_ble_eq_true rfl)) ?_
    have hf := FT_ft (h := h) (by rw [v1]; exact ht)
    rw [v1] at hf
    refine SegP.run [] 400 ?_
    refine SegP.tr (Seg.cV (tX6_meanOf (ftH h) V.1 g hf p) mlX6_231 iyX6_meanOf seX6_meanOf oyX6_meanOf rfl (by decide) rfl (by decide) (by decide) rfl rfl rfl rfl (Nat.le_of_ble_eq_true rfl) (Nat.le_of_ble_eq_true rfl)) ?_
    refine SegP.run [] 400 ?_
    refine SegP.tr (Seg.cV (tX6_told (ftH h) V.1 g hf (meN V.1 p 256) (me_l ht) part) mlX6_225 iyX6_told seX6_told oyX6_told rfl (by decide) rfl (by decide) (by decide) rfl rfl rfl rfl (Nat.le_of_ble_eq_true rfl) (Nat.le_of_ble_eq_true rfl)) ?_
    refine SegP.run [] 400 ?_
    exact mid' (ftV hv) ftF (by rw [sp_mean, if_pos ⟨q0, q1⟩])
  · refine SegP.tr (Seg.cV (tX6_fd h g 0 (by decide) 0 (by decide) (-1000001) (by decide)) mlX6_51 iyX6_finding seX6_finding oyX6_finding rfl (by decide) rfl (by decide) (by decide) rfl rfl rfl rfl (Nat.le_of_ble_eq_true rfl) (Nat.le_of_ble_eq_true rfl)) ?_
    refine SegP.run [] 400 ?_
    exact mfn hv (k := 0) (by decide) (by rw [sp_mean, if_neg (fun y => bn0 z1 y.2)])
def sp_worth (V : aV) (p part : Int32) : Int32 × aV := if isS V.1 p ∧ (0 ≤ part ∧ part ≤ 1) then (tldN (woN V.1 p (nN V.1)) (whN V.1) part, V) else fnd V 0 (-1000001)
set_option maxRecDepth 100000 in
set_option maxHeartbeats 400000 in
theorem zC_worth {V : aV} (hV : VOk V) (p part : Int32) : CX mX5_worth 11 [.int p, .int part] V (sp_worth V p part) := by
  intro h g hv
  obtain ⟨v1, v2, v3, v4, v5, v6⟩ := id hv
  have ht := hV.1
  refine MX.of okX5_worth (by decide +kernel) (Nat.le_of_ble_eq_true rfl) (by decide) rfl (by decide) ?_
  refine SegP.run [] 400 ?_
  refine SegP.tr (Seg.cV (tX5_isSet ht v1 p) mlX5_163 iyX5_isSet seX5_isSet oyX5_isSet rfl (by decide) rfl (by decide) (by decide) rfl rfl rfl rfl (Nat.le_of_ble_eq_true rfl) (Nat.le_of_ble_eq_true rfl)) ?_
  refine SegP.run [] 400 ?_
  refine And.intro (fun z0 => ?_) (fun z0 => ?_)
  · refine SegP.tr (Seg.cV (tX5_refuse h g 0 (by decide) (-1000001) (by decide)) mlX5_64 iyX5_refuse seX5_refuse oyX5_refuse rfl (by decide) rfl (by decide) (by decide) rfl rfl rfl rfl (Nat.le_of_ble_eq_true rfl) (Nat.le_of_ble_eq_true rfl)) ?_
    refine SegP.run [] 400 ?_
    exact cfn hv (k := 0) (by decide) (by rw [sp_worth, if_neg (fun y => bq0 z0 y.1)])
  have q0 := bq1 z0
  refine SegP.tr (Seg.cS ((tX5_isPart part).ms h g) mlX5_178 syX5_isPart oyX5_isPart rfl (by decide) rfl rfl rfl (Nat.le_of_ble_eq_true rfl) (Nat.le_of_ble_eq_true rfl)) ?_
  refine SegP.run [] 400 ?_
  refine And.intro (fun z1 => ?_) (fun z1 => ?_)
  · have q1 := bn1 z1
    refine SegP.cV (tX0_gather h V.1 g v1 ht) mlX5_181 iyX0_gather seX0_gather oyX0_gather rfl (by decide) rfl (by decide) (by decide) rfl rfl rfl rfl (Nat.le_of_ble_eq_true rfl) ?_
    rintro r h1 g1 ⟨rfl, fr, hc⟩
    have hv1 := frV hv fr
    refine SegP.run [] 400 ?_
    have hm := tX0_weighedWorth h1 V.1 g1 hc p
    rw [show FN V.1 (fun K => wrN V.1 (nI K &&& p)) = woN V.1 p (nN V.1) by rw [wo_FN ht]; exact FN_congr fun t _ => by rw [Int32.and_comm]] at hm
    refine SegP.tr (Seg.cV hm mlX5_205 iyX0_weighedWorth seX0_weighedWorth oyX0_weighedWorth rfl (by decide) rfl (by decide) (by decide) rfl rfl rfl rfl (Nat.le_of_ble_eq_true rfl) (Nat.le_of_ble_eq_true rfl)) ?_
    refine SegP.run [] 400 ?_
    refine SegP.tr (Seg.cV (tX0_fraction h1 V.1 g1 hc.1.1 ht (woN V.1 p (nN V.1)) (wo_l ht) part) mlX5_188 iyX0_fraction seX0_fraction oyX0_fraction rfl (by decide) rfl (by decide) (by decide) rfl rfl rfl rfl (Nat.le_of_ble_eq_true rfl) (Nat.le_of_ble_eq_true rfl)) ?_
    refine SegP.run [] 400 ?_
    exact cid' hv1 (fr63 fr) (by rw [sp_worth, if_pos ⟨q0, q1⟩])
  · refine SegP.tr (Seg.cV (tX5_refuse h g 0 (by decide) (-1000001) (by decide)) mlX5_64 iyX5_refuse seX5_refuse oyX5_refuse rfl (by decide) rfl (by decide) (by decide) rfl rfl rfl rfl (Nat.le_of_ble_eq_true rfl) (Nat.le_of_ble_eq_true rfl)) ?_
    refine SegP.run [] 400 ?_
    exact cfn hv (k := 0) (by decide) (by rw [sp_worth, if_neg (fun y => bn0 z1 y.2)])
set_option maxRecDepth 100000 in
set_option maxHeartbeats 400000 in
theorem zM_worth {V : aV} (hV : VOk V) (p part : Int32) : DX mX6_worth 11 [.int p, .int part] V (sp_worth V p part) := by
  intro h g hv
  obtain ⟨v1, v2, v3, v4, v5, v6⟩ := id hv
  have ht := hV.1
  refine MX.of okX6_worth (by decide +kernel) (Nat.le_of_ble_eq_true rfl) (by decide) rfl (by decide) ?_
  refine SegP.run [] 400 ?_
  refine SegP.tr (Seg.cV (tX6_isSet ht v1 p) mlX6_200 iyX6_isSet seX6_isSet oyX6_isSet rfl (by decide) rfl (by decide) (by decide) rfl rfl rfl rfl (Nat.le_of_ble_eq_true rfl) (Nat.le_of_ble_eq_true rfl)) ?_
  refine SegP.run [] 400 ?_
  refine And.intro (fun z0 => ?_) (fun z0 => ?_)
  · refine SegP.tr (Seg.cV (tX6_fd h g 0 (by decide) 0 (by decide) (-1000001) (by decide)) mlX6_51 iyX6_finding seX6_finding oyX6_finding rfl (by decide) rfl (by decide) (by decide) rfl rfl rfl rfl (Nat.le_of_ble_eq_true rfl) (Nat.le_of_ble_eq_true rfl)) ?_
    refine SegP.run [] 400 ?_
    exact mfn hv (k := 0) (by decide) (by rw [sp_worth, if_neg (fun y => bq0 z0 y.1)])
  have q0 := bq1 z0
  refine SegP.tr (Seg.cS ((tX6_isPart part).ms h g) mlX6_215 syX6_isPart oyX6_isPart rfl (by decide) rfl rfl rfl (Nat.le_of_ble_eq_true rfl) (Nat.le_of_ble_eq_true rfl)) ?_
  refine SegP.run [] 400 ?_
  refine And.intro (fun z1 => ?_) (fun z1 => ?_)
  · have q1 := bn1 z1
    refine SegP.tr (Seg.cV (tX6_findThrows h g (by rw [v1]; exact ht)) mlX6_218 iyX6_findThrows seX6_findThrows oyX6_findThrows rfl (by decide) rfl (by decide) (by decide) rfl rfl rfl rfl (Nat.le_of_ble_eq_true rfl) (Nat.le_of_ble_eq_true rfl)) ?_
    have hf := FT_ft (h := h) (by rw [v1]; exact ht)
    rw [v1] at hf
    refine SegP.run [] 400 ?_
    refine SegP.tr (Seg.cV (tX6_worthOf (ftH h) V.1 g hf p) mlX6_234 iyX6_worthOf seX6_worthOf oyX6_worthOf rfl (by decide) rfl (by decide) (by decide) rfl rfl rfl rfl (Nat.le_of_ble_eq_true rfl) (Nat.le_of_ble_eq_true rfl)) ?_
    refine SegP.run [] 400 ?_
    refine SegP.tr (Seg.cV (tX6_told (ftH h) V.1 g hf (woN V.1 p (nN V.1)) (wo_l ht) part) mlX6_225 iyX6_told seX6_told oyX6_told rfl (by decide) rfl (by decide) (by decide) rfl rfl rfl rfl (Nat.le_of_ble_eq_true rfl) (Nat.le_of_ble_eq_true rfl)) ?_
    refine SegP.run [] 400 ?_
    exact mid' (ftV hv) ftF (by rw [sp_worth, if_pos ⟨q0, q1⟩])
  · refine SegP.tr (Seg.cV (tX6_fd h g 0 (by decide) 0 (by decide) (-1000001) (by decide)) mlX6_51 iyX6_finding seX6_finding oyX6_finding rfl (by decide) rfl (by decide) (by decide) rfl rfl rfl rfl (Nat.le_of_ble_eq_true rfl) (Nat.le_of_ble_eq_true rfl)) ?_
    refine SegP.run [] 400 ?_
    exact mfn hv (k := 0) (by decide) (by rw [sp_worth, if_neg (fun y => bn0 z1 y.2)])
def sp_harm (V : aV) (p m part : Int32) : Int32 × aV := if isS V.1 p ∧ (0 ≤ m ∧ m ≤ 9999) ∧ (0 ≤ part ∧ part ≤ 1) then (tldN (haN V.1 p m 256) (whN V.1) part, V) else fnd V 0 (-1000001)
set_option maxRecDepth 100000 in
set_option maxHeartbeats 400000 in
theorem zC_harm {V : aV} (hV : VOk V) (p m part : Int32) : CX mX5_harm 11 [.int p, .int m, .int part] V (sp_harm V p m part) := by
  intro h g hv
  obtain ⟨v1, v2, v3, v4, v5, v6⟩ := id hv
  have ht := hV.1
  refine MX.of okX5_harm (by decide +kernel) (Nat.le_of_ble_eq_true rfl) (by decide) rfl (by decide) ?_
  refine SegP.run [] 400 ?_
  refine SegP.tr (Seg.cV (tX5_isSet ht v1 p) mlX5_163 iyX5_isSet seX5_isSet oyX5_isSet rfl (by decide) rfl (by decide) (by decide) rfl rfl rfl rfl (Nat.le_of_ble_eq_true rfl) (Nat.le_of_ble_eq_true rfl)) ?_
  refine SegP.run [] 400 ?_
  refine And.intro (fun z0 => ?_) (fun z0 => ?_)
  · refine SegP.tr (Seg.cV (tX5_refuse h g 0 (by decide) (-1000001) (by decide)) mlX5_64 iyX5_refuse seX5_refuse oyX5_refuse rfl (by decide) rfl (by decide) (by decide) rfl rfl rfl rfl (Nat.le_of_ble_eq_true rfl) (Nat.le_of_ble_eq_true rfl)) ?_
    refine SegP.run [] 400 ?_
    exact cfn hv (k := 0) (by decide) (by rw [sp_harm, if_neg (fun y => bq0 z0 y.1)])
  have q0 := bq1 z0
  refine SegP.tr (Seg.cS ((tX5_isBetween m 0 9999).ms h g) mlX5_59 syX5_isBetween oyX5_isBetween rfl (by decide) rfl rfl rfl (Nat.le_of_ble_eq_true rfl) (Nat.le_of_ble_eq_true rfl)) ?_
  refine SegP.run [] 400 ?_
  refine And.intro (fun z1 => ?_) (fun z1 => ?_)
  · refine SegP.tr (Seg.cV (tX5_refuse h g 0 (by decide) (-1000001) (by decide)) mlX5_64 iyX5_refuse seX5_refuse oyX5_refuse rfl (by decide) rfl (by decide) (by decide) rfl rfl rfl rfl (Nat.le_of_ble_eq_true rfl) (Nat.le_of_ble_eq_true rfl)) ?_
    refine SegP.run [] 400 ?_
    exact cfn hv (k := 0) (by decide) (by rw [sp_harm, if_neg (fun y => bq0 z1 y.2.1)])
  have q1 := bq1 z1
  refine SegP.tr (Seg.cS ((tX5_isPart part).ms h g) mlX5_178 syX5_isPart oyX5_isPart rfl (by decide) rfl rfl rfl (Nat.le_of_ble_eq_true rfl) (Nat.le_of_ble_eq_true rfl)) ?_
  refine SegP.run [] 400 ?_
  refine And.intro (fun z2 => ?_) (fun z2 => ?_)
  · have q2 := bn1 z2
    refine SegP.cV (tX0_gather h V.1 g v1 ht) mlX5_181 iyX0_gather seX0_gather oyX0_gather rfl (by decide) rfl (by decide) (by decide) rfl rfl rfl rfl (Nat.le_of_ble_eq_true rfl) ?_
    rintro r h1 g1 ⟨rfl, fr, hc⟩
    have hv1 := frV hv fr
    refine SegP.run [] 400 ?_
    have hm := tX0_weightOfMore h1 V.1 g1 hc p m
    rw [← ha_FN ht] at hm
    refine SegP.tr (Seg.cV hm mlX5_208 iyX0_weightOfMore seX0_weightOfMore oyX0_weightOfMore rfl (by decide) rfl (by decide) (by decide) rfl rfl rfl rfl (Nat.le_of_ble_eq_true rfl) (Nat.le_of_ble_eq_true rfl)) ?_
    refine SegP.run [] 400 ?_
    refine SegP.tr (Seg.cV (tX0_fraction h1 V.1 g1 hc.1.1 ht (haN V.1 p m 256) (ha_l ht) part) mlX5_188 iyX0_fraction seX0_fraction oyX0_fraction rfl (by decide) rfl (by decide) (by decide) rfl rfl rfl rfl (Nat.le_of_ble_eq_true rfl) (Nat.le_of_ble_eq_true rfl)) ?_
    refine SegP.run [] 400 ?_
    exact cid' hv1 (fr63 fr) (by rw [sp_harm, if_pos ⟨q0, q1, q2⟩])
  · refine SegP.tr (Seg.cV (tX5_refuse h g 0 (by decide) (-1000001) (by decide)) mlX5_64 iyX5_refuse seX5_refuse oyX5_refuse rfl (by decide) rfl (by decide) (by decide) rfl rfl rfl rfl (Nat.le_of_ble_eq_true rfl) (Nat.le_of_ble_eq_true rfl)) ?_
    refine SegP.run [] 400 ?_
    exact cfn hv (k := 0) (by decide) (by rw [sp_harm, if_neg (fun y => bn0 z2 y.2.2)])
set_option maxRecDepth 100000 in
set_option maxHeartbeats 400000 in
theorem zM_harm {V : aV} (hV : VOk V) (p m part : Int32) : DX mX6_harm 11 [.int p, .int m, .int part] V (sp_harm V p m part) := by
  intro h g hv
  obtain ⟨v1, v2, v3, v4, v5, v6⟩ := id hv
  have ht := hV.1
  refine MX.of okX6_harm (by decide +kernel) (Nat.le_of_ble_eq_true rfl) (by decide) rfl (by decide) ?_
  refine SegP.run [] 400 ?_
  refine SegP.tr (Seg.cV (tX6_isSet ht v1 p) mlX6_200 iyX6_isSet seX6_isSet oyX6_isSet rfl (by decide) rfl (by decide) (by decide) rfl rfl rfl rfl (Nat.le_of_ble_eq_true rfl) (Nat.le_of_ble_eq_true rfl)) ?_
  refine SegP.run [] 400 ?_
  refine And.intro (fun z0 => ?_) (fun z0 => ?_)
  · refine SegP.tr (Seg.cV (tX6_fd h g 0 (by decide) 0 (by decide) (-1000001) (by decide)) mlX6_51 iyX6_finding seX6_finding oyX6_finding rfl (by decide) rfl (by decide) (by decide) rfl rfl rfl rfl (Nat.le_of_ble_eq_true rfl) (Nat.le_of_ble_eq_true rfl)) ?_
    refine SegP.run [] 400 ?_
    exact mfn hv (k := 0) (by decide) (by rw [sp_harm, if_neg (fun y => bq0 z0 y.1)])
  have q0 := bq1 z0
  refine SegP.tr (Seg.cS ((tX6_in m 0 9999).ms h g) mlX6_47 syX6_in oyX6_in rfl (by decide) rfl rfl rfl (Nat.le_of_ble_eq_true rfl) (Nat.le_of_ble_eq_true rfl)) ?_
  refine SegP.run [] 400 ?_
  refine And.intro (fun z1 => ?_) (fun z1 => ?_)
  · refine SegP.tr (Seg.cV (tX6_fd h g 0 (by decide) 0 (by decide) (-1000001) (by decide)) mlX6_51 iyX6_finding seX6_finding oyX6_finding rfl (by decide) rfl (by decide) (by decide) rfl rfl rfl rfl (Nat.le_of_ble_eq_true rfl) (Nat.le_of_ble_eq_true rfl)) ?_
    refine SegP.run [] 400 ?_
    exact mfn hv (k := 0) (by decide) (by rw [sp_harm, if_neg (fun y => bq0 z1 y.2.1)])
  have q1 := bq1 z1
  refine SegP.tr (Seg.cS ((tX6_isPart part).ms h g) mlX6_215 syX6_isPart oyX6_isPart rfl (by decide) rfl rfl rfl (Nat.le_of_ble_eq_true rfl) (Nat.le_of_ble_eq_true rfl)) ?_
  refine SegP.run [] 400 ?_
  refine And.intro (fun z2 => ?_) (fun z2 => ?_)
  · have q2 := bn1 z2
    refine SegP.tr (Seg.cV (tX6_findThrows h g (by rw [v1]; exact ht)) mlX6_218 iyX6_findThrows seX6_findThrows oyX6_findThrows rfl (by decide) rfl (by decide) (by decide) rfl rfl rfl rfl (Nat.le_of_ble_eq_true rfl) (Nat.le_of_ble_eq_true rfl)) ?_
    have hf := FT_ft (h := h) (by rw [v1]; exact ht)
    rw [v1] at hf
    refine SegP.run [] 400 ?_
    refine SegP.tr (Seg.cV (tX6_harmOf (ftH h) V.1 g hf p m) mlX6_237 iyX6_harmOf seX6_harmOf oyX6_harmOf rfl (by decide) rfl (by decide) (by decide) rfl rfl rfl rfl (Nat.le_of_ble_eq_true rfl) (Nat.le_of_ble_eq_true rfl)) ?_
    refine SegP.run [] 400 ?_
    refine SegP.tr (Seg.cV (tX6_told (ftH h) V.1 g hf (haN V.1 p m 256) (ha_l ht) part) mlX6_225 iyX6_told seX6_told oyX6_told rfl (by decide) rfl (by decide) (by decide) rfl rfl rfl rfl (Nat.le_of_ble_eq_true rfl) (Nat.le_of_ble_eq_true rfl)) ?_
    refine SegP.run [] 400 ?_
    exact mid' (ftV hv) ftF (by rw [sp_harm, if_pos ⟨q0, q1, q2⟩])
  · refine SegP.tr (Seg.cV (tX6_fd h g 0 (by decide) 0 (by decide) (-1000001) (by decide)) mlX6_51 iyX6_finding seX6_finding oyX6_finding rfl (by decide) rfl (by decide) (by decide) rfl rfl rfl rfl (Nat.le_of_ble_eq_true rfl) (Nat.le_of_ble_eq_true rfl)) ?_
    refine SegP.run [] 400 ?_
    exact mfn hv (k := 0) (by decide) (by rw [sp_harm, if_neg (fun y => bn0 z2 y.2.2)])
