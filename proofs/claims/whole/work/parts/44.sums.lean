/-! ===== sums over what is kept ===== -/
theorem nI_and (a b : Nat) : nI a &&& nI b = nI (a &&& b) := Int32.toBitVec_inj.mp BitVec.ofNat_and.symm
theorem nI_or (a b : Nat) : nI a ||| nI b = nI (a ||| b) := Int32.toBitVec_inj.mp BitVec.ofNat_or.symm
theorem nI_xor (a b : Nat) : nI a ^^^ nI b = nI (a ^^^ b) := Int32.toBitVec_inj.mp BitVec.ofNat_xor.symm
theorem bt1_nI {p : Nat} (h : p < 11) : bt1 p = nI (2 ^ p) := by
  have key : ∀ p, p < 11 → bt1 p = nI (2 ^ p) := by decide +kernel
  exact key p h
theorem pow_le10 {p : Nat} (h : p ≤ 10) : 2 ^ p ≤ 1024 := Nat.pow_le_pow_right (by decide) h
def kU (T : aH) (t : Nat) : Nat → Nat
  | 0 => 0
  | p + 1 => if kpB T (nI t) (nI (kU T t p)) p = true then kU T t p ||| 2 ^ p else kU T t p
def kN (T : aH) (t : Nat) : Nat := kU T t (nP T)
theorem kU_nI {T : aH} {t : Nat} : ∀ p, p ≤ 10 → kpU T (nI t) p = nI (kU T t p) ∧ kU T t p < 2 ^ p := by
  intro p
  induction p with
  | zero => intro _; exact ⟨rfl, Nat.one_pos⟩
  | succ p ih =>
    intro hp
    obtain ⟨i1, i2⟩ := ih (by omega)
    have h2 : 2 ^ (p + 1) = 2 ^ p + 2 ^ p := by omega
    simp only [kpU, kU]
    rw [i1]
    split
    · rw [bt1_nI (by omega), nI_or]
      exact ⟨rfl, Nat.or_lt_two_pow (by omega) (by omega)⟩
    · exact ⟨rfl, by omega⟩
theorem kept_nI {T : aH} (h : TOk T) (t : Nat) : kept T (nI t) = nI (kN T t) ∧ kN T t < 2 ^ nP T := kU_nI (nP T) h.np.1
theorem kN_lt {T : aH} (h : TOk T) (t : Nat) : kN T t < 1024 := Nat.lt_of_lt_of_le (kept_nI h t).2 (pow_le10 h.np.1)
/-- the sum of F of what is kept, weighed -/
def FN (T : aH) (F : Nat → Nat) : Nat := SN (fun t => F (kN T t) * wN T t) 256
theorem FN_le {T : aH} (h : TOk T) {F : Nat → Nat} {B : Nat} (hF : ∀ t, t < 256 → F (kN T t) ≤ B) : FN T F ≤ B * whN T := by
  rw [← wN8 h, ← SN_mul]
  exact SN_le fun t ht => Nat.mul_le_mul_right _ (hF t ht)
theorem FN_congr {T : aH} {F G : Nat → Nat} (hF : ∀ t, t < 256 → F (kN T t) = G (kN T t)) : FN T F = FN T G := SN_congr fun t ht => by rw [hF t ht]
theorem SN_swap {f : Nat → Nat → Nat} {m : Nat} : ∀ {n : Nat}, SN (fun k => SN (fun t => f k t) m) n = SN (fun t => SN (fun k => f k t) n) m := by
  intro n
  induction n with
  | zero =>
    have : ∀ m, SN (fun t => SN (fun k => f k t) 0) m = 0 := by
      intro m
      induction m with
      | zero => rfl
      | succ m ih => simp only [SN] at ih ⊢; omega
    exact (this m).symm
  | succ n ih => simp only [SN]; rw [ih, ← SN_add]
theorem SN_zero {f : Nat → Nat} : ∀ {n : Nat}, (∀ k, k < n → f k = 0) → SN f n = 0 := by
  intro n
  induction n with
  | zero => intro _; rfl
  | succ n ih => intro h; simp only [SN]; rw [ih (fun k hk => h k (by omega)), h n (by omega)]
theorem SN_one {f : Nat → Nat} {a : Nat} : ∀ {n : Nat}, a < n → SN (fun k => if a = k then f k else 0) n = f a := by
  intro n
  induction n with
  | zero => intro h; exact absurd h (Nat.not_lt_zero _)
  | succ n ih =>
    intro h
    simp only [SN]
    by_cases e : a = n
    · subst e
      rw [if_pos rfl, SN_zero (fun k hk => if_neg (by omega)), Nat.zero_add]
    · rw [if_neg e, ih (by omega), Nat.add_zero]
/-- the weight of the throws in which just this is kept -/
def tgN (T : aH) (K : Nat) : Nat := SN (fun t => if kN T t = K then wN T t else 0) 256
theorem tg_sum {T : aH} {F : Nat → Nat} {N : Nat} (hN : ∀ t, t < 256 → kN T t < N) : SN (fun K => F K * tgN T K) N = FN T F := by
  have e1 : SN (fun K => F K * tgN T K) N = SN (fun K => SN (fun t => if kN T t = K then F K * wN T t else 0) 256) N := SN_congr fun K hK => by
    unfold tgN
    rw [← SN_mul]
    refine SN_congr fun t ht => ?_
    split
    · rfl
    · rfl
  rw [e1, SN_swap]
  refine SN_congr fun t ht => ?_
  exact SN_one (f := fun K => F K * wN T t) (hN t ht)
theorem tg_le {T : aH} (h : TOk T) (K : Nat) : tgN T K ≤ whN T := by
  rw [← wN8 h]
  refine SN_le fun t ht => ?_
  split <;> omega
/-- how many there are below i that are kept in a throw of some weight; which they are -/
def cnN (T : aH) (i : Nat) : Nat := SN (fun K => if 0 < tgN T K then 1 else 0) i
def csF (T : aH) : Nat → Nat → Nat
  | 0 => fun _ => 0
  | i + 1 => if 0 < tgN T i then fun k => if k = cnN T i then i else csF T i k else csF T i
theorem cn_le {T : aH} : ∀ i, cnN T i ≤ 256 := by
  intro i
  have key : ∀ n : Nat, SN (fun K => if 0 < SN (fun t => if kN T t = K then wN T t else 0) n then 1 else 0) i ≤ n := by
    intro n
    induction n with
    | zero => exact Nat.le_of_eq (SN_zero fun k hk => if_neg (Nat.lt_irrefl 0))
    | succ n ih =>
      have e : SN (fun K => if 0 < SN (fun t => if kN T t = K then wN T t else 0) (n + 1) then 1 else 0) i ≤ SN (fun K => (if 0 < SN (fun t => if kN T t = K then wN T t else 0) n then 1 else 0) + (if kN T n = K then 1 else 0)) i := SN_le fun K hK => by
        show (if 0 < SN (fun t => if kN T t = K then wN T t else 0) n + (if kN T n = K then wN T n else 0) then 1 else 0) ≤ _
        by_cases z : kN T n = K
        · simp only [if_pos z]; split <;> omega
        · simp only [if_neg z]; exact Nat.le_refl _
      rw [SN_add] at e
      have o : SN (fun K => if kN T n = K then 1 else 0) i ≤ 1 := by
        rcases Nat.lt_or_ge (kN T n) i with hk | hk
        · rw [SN_one (f := fun _ => 1) hk]; exact Nat.le_refl _
        · rw [SN_zero (fun k hk2 => if_neg (by omega))]; exact Nat.zero_le _
      omega
  exact key 256
theorem cn_mono {T : aH} {i j : Nat} (h : i ≤ j) : cnN T i ≤ cnN T j := by
  induction h with
  | refl => exact Nat.le_refl _
  | step _ ih => exact Nat.le_trans ih (Nat.le_add_right _ _)
theorem cs_sum {T : aH} {F : Nat → Nat} : ∀ i, SN (fun c => F (csF T i c) * tgN T (csF T i c)) (cnN T i) = SN (fun K => F K * tgN T K) i := by
  intro i
  induction i with
  | zero => rfl
  | succ i ih =>
    have e1 : SN (fun K => F K * tgN T K) (i + 1) = SN (fun K => F K * tgN T K) i + F i * tgN T i := rfl
    by_cases z : 0 < tgN T i
    · have e2 : cnN T (i + 1) = cnN T i + 1 := by
        show cnN T i + (if 0 < tgN T i then 1 else 0) = _
        rw [if_pos z]
      have e3 : csF T (i + 1) = fun k => if k = cnN T i then i else csF T i k := by
        show (if 0 < tgN T i then _ else _) = _
        rw [if_pos z]
      rw [e1, e2, e3, ← ih]
      show SN _ (cnN T i) + F (if cnN T i = cnN T i then i else csF T i (cnN T i)) * tgN T (if cnN T i = cnN T i then i else csF T i (cnN T i)) = _
      rw [if_pos rfl]
      congr 1
      exact SN_congr fun c hc => by
        show F (if c = cnN T i then i else csF T i c) * tgN T (if c = cnN T i then i else csF T i c) = _
        rw [if_neg (by omega)]
    · have e2 : cnN T (i + 1) = cnN T i := by
        show cnN T i + (if 0 < tgN T i then 1 else 0) = _
        rw [if_neg z]; rfl
      have e3 : csF T (i + 1) = csF T i := by
        show (if 0 < tgN T i then _ else _) = _
        rw [if_neg z]
      have z0 : tgN T i = 0 := by omega
      rw [e1, e2, e3, ih, z0, Nat.mul_zero, Nat.add_zero]
theorem cs_lt {T : aH} : ∀ i c, c < cnN T i → csF T i c < i := by
  intro i
  induction i with
  | zero => intro c hc; exact absurd hc (Nat.not_lt_zero _)
  | succ i ih =>
    intro c hc
    by_cases z : 0 < tgN T i
    · have e2 : cnN T (i + 1) = cnN T i + 1 := by
        show cnN T i + (if 0 < tgN T i then 1 else 0) = _
        rw [if_pos z]
      have e3 : csF T (i + 1) = fun k => if k = cnN T i then i else csF T i k := by
        show (if 0 < tgN T i then _ else _) = _
        rw [if_pos z]
      rw [e3]
      by_cases e : c = cnN T i
      · simp only [e, if_true]; omega
      · simp only [if_neg e]
        have := ih c (by omega)
        omega
    · have e2 : cnN T (i + 1) = cnN T i := by
        show cnN T i + (if 0 < tgN T i then 1 else 0) = _
        rw [if_neg z]; rfl
      have e3 : csF T (i + 1) = csF T i := by
        show (if 0 < tgN T i then _ else _) = _
        rw [if_neg z]
      rw [e3]
      have := ih c (by omega)
      omega
/-- once there are 256 of them there are no more -/
theorem cn_full {T : aH} {i j : Nat} (h : i ≤ j) (e : cnN T i = 256) {F : Nat → Nat} : SN (fun K => F K * tgN T K) j = SN (fun K => F K * tgN T K) i := by
  induction h with
  | refl => rfl
  | @step m hm ih =>
    have h1 := cn_le (T := T) (m + 1)
    have h2 := cn_mono (T := T) hm
    have h3 : cnN T (m + 1) = cnN T m + (if 0 < tgN T m then 1 else 0) := rfl
    have z : ¬ 0 < tgN T m := fun z => by rw [if_pos z] at h3; omega
    have z0 : tgN T m = 0 := by omega
    show SN _ m + F m * tgN T m = _
    rw [ih, z0, Nat.mul_zero, Nat.add_zero]
/-! the reference's sums are such sums -/
theorem ite1 {p : Prop} [Decidable p] {w : Nat} : (if p then w else 0) = (if p then 1 else 0) * w := by split <;> simp
theorem jt_FN {T : aH} (h : TOk T) {one other what : Int32} : jtN T one other what 256 = FN T (fun K => if jcB (nI K) one other what = true then 1 else 0) := SN_congr fun t ht => by
  rw [(kept_nI h t).1]
  exact ite1
theorem su_FN {T : aH} (h : TOk T) {k : Nat} {set : Int32} : suN T k set 256 = FN T (fun K => if metB T k (set &&& nI K) = true then 1 else 0) := SN_congr fun t ht => by
  rw [(kept_nI h t).1]
  exact ite1
theorem me_FN {T : aH} (h : TOk T) {set : Int32} : meN T set 256 = FN T (fun K => owN T set (nI K)) := SN_congr fun t ht => by
  rw [(kept_nI h t).1]
theorem ha_FN {T : aH} (h : TOk T) {set much : Int32} : haN T set much 256 = FN T (fun K => if much < owed T set (nI K) then 1 else 0) := SN_congr fun t ht => by
  rw [(kept_nI h t).1]
  exact ite1
/-- the worths of needs met, as a natural number -/
def wrNU (T : aH) (set : Int32) : Nat → Nat := SN (fun k => if metB T k set = true then vN T k else 0)
def wrN (T : aH) (set : Int32) : Nat := wrNU T set (nN T)
theorem wr_nI {T : aH} (h : TOk T) (set : Int32) : ∀ k, k ≤ nN T → wrtU T set k = nI (wrNU T set k) ∧ wrNU T set k ≤ 99 * k := by
  intro k
  induction k with
  | zero => intro _; exact ⟨rfl, Nat.le_refl _⟩
  | succ k ih =>
    intro hk
    obtain ⟨i1, i2⟩ := ih (by omega)
    obtain ⟨⟨-, v1⟩, v2⟩ := h.v (show k < nN T by omega)
    have e : wrNU T set (k + 1) = wrNU T set k + (if metB T k set = true then vN T k else 0) := rfl
    rw [e]
    simp only [wrtU]
    split
    · rw [i1, v2, nI_ad]; exact ⟨rfl, by omega⟩
    · rw [i1]; exact ⟨rfl, by omega⟩
theorem wo_FN {T : aH} (h : TOk T) {set : Int32} : woN T set (nN T) = FN T (fun K => wrN T (set &&& nI K)) := by
  have e1 : woN T set (nN T) = SN (fun k => SN (fun t => if metB T k (set &&& nI (kN T t)) = true then vN T k * wN T t else 0) 256) (nN T) := SN_congr fun k hk => by
    show vN T k * SN _ 256 = _
    rw [← SN_mul]
    refine SN_congr fun t ht => ?_
    rw [(kept_nI h t).1]
    split <;> simp
  rw [e1, SN_swap]
  refine SN_congr fun t ht => ?_
  show _ = SN _ (nN T) * wN T t
  rw [Nat.mul_comm, ← SN_mul]
  refine SN_congr fun k hk => ?_
  split
  · rw [Nat.mul_comm]
  · simp
