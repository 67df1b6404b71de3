/-! ===== numbers: weights and sums as natural numbers ===== -/
theorem nI_divN {a b : Nat} (ha : a < 2 ^ 31) (hb : b < 2 ^ 31) : nI a / nI b = nI (a / b) := by
  apply Int32.toInt_inj.mp
  rw [Int32.toInt_div, nI_toInt ha, nI_toInt hb, nI_toInt (Nat.lt_of_le_of_lt (Nat.div_le_self _ _) ha)]
  have h1 : (a : Int).tdiv (b : Int) = ((a / b : Nat) : Int) := by simp
  rw [h1]
  have hq : a / b ≤ a := Nat.div_le_self _ _
  generalize a / b = q at hq ⊢
  apply Int.bmod_eq_of_le
  · simp only [show ((2 ^ 32 : Nat) : Int) = 4294967296 from rfl]; omega
  · simp only [show ((2 ^ 32 : Nat) : Int) = 4294967296 from rfl]; omega
theorem nI_sb {a b : Nat} (h : b ≤ a) : nI a - nI b = nI (a - b) := by
  have : nI a = nI (a - b) + nI b := by rw [nI_ad]; congr 1; omega
  rw [this]
  simp
theorem jrem_nI {a b : Nat} (ha : a < 2 ^ 31) (hb : b < 2 ^ 31) : jrem (nI a) (nI b) = nI (a % b) := by
  unfold jrem
  rw [nI_divN ha hb, nI_ml, nI_sb (by rw [Nat.mul_comm]; exact Nat.mul_div_le a b)]
  congr 1
  rw [Nat.mul_comm]
  exact (Nat.mod_eq_sub_mul_div ..).symm
def SN (f : Nat → Nat) : Nat → Nat
  | 0 => 0
  | n + 1 => SN f n + f n
theorem SN_congr {f f' : Nat → Nat} : ∀ {n : Nat}, (∀ t, t < n → f t = f' t) → SN f n = SN f' n := by
  intro n
  induction n with
  | zero => intro _; rfl
  | succ n ih => intro h; simp only [SN]; rw [ih (fun t ht => h t (by omega)), h n (by omega)]
theorem SN_le {f f' : Nat → Nat} : ∀ {n : Nat}, (∀ t, t < n → f t ≤ f' t) → SN f n ≤ SN f' n := by
  intro n
  induction n with
  | zero => intro _; exact Nat.le_refl _
  | succ n ih => intro h; simp only [SN]; exact Nat.add_le_add (ih (fun t ht => h t (by omega))) (h n (by omega))
theorem SN_mul {f : Nat → Nat} {c : Nat} : ∀ {n : Nat}, SN (fun t => c * f t) n = c * SN f n := by
  intro n
  induction n with
  | zero => rfl
  | succ n ih => simp only [SN, ih]; rw [Nat.mul_add]
theorem SN_add {f f' : Nat → Nat} : ∀ {n : Nat}, SN (fun t => f t + f' t) n = SN f n + SN f' n := by
  intro n
  induction n with
  | zero => rfl
  | succ n ih => simp only [SN, ih]; omega
theorem SN_split {f : Nat → Nat} {m : Nat} : ∀ {n : Nat}, SN f (m + n) = SN f m + SN (fun t => f (m + t)) n := by
  intro n
  induction n with
  | zero => rfl
  | succ n ih => rw [← Nat.add_assoc]; simp only [SN, ih]; omega
def aN (T : aH) (c : Nat) : Nat := (T 1 c).toNatClampNeg
def bN (T : aH) (c : Nat) : Nat := (T 2 c).toNatClampNeg
def wNU (T : aH) (t : Nat) : Nat → Nat
  | 0 => 1
  | c + 1 => wNU T t c * (if t.testBit c = true then aN T c else bN T c - aN T c)
def wN (T : aH) (t : Nat) : Nat := wNU T t 8
def whNU (T : aH) : Nat → Nat
  | 0 => 1
  | c + 1 => whNU T c * bN T c
def whN (T : aH) : Nat := whNU T 8
theorem TOk.ab {T : aH} (h : TOk T) {c : Nat} (hc : c < 8) : aN T c ≤ bN T c ∧ 1 ≤ bN T c ∧ bN T c ≤ 6 ∧ T 1 c = nI (aN T c) ∧ T 2 c = nI (bN T c) := by
  obtain ⟨a, b, h1, h2, h3, h4, h5⟩ := h.2.2.2.1 c hc
  have e1 : aN T c = a := by rw [aN, h4]; exact nI_clamp (by omega)
  have e2 : bN T c = b := by rw [bN, h5]; exact nI_clamp (by omega)
  rw [e1, e2]
  exact ⟨h1, h2, h3, h4, h5⟩
theorem hsB_nI {t c : Nat} (ht : t < 1024) (hc : c < 10) : hsB (nI t) (nI c) = t.testBit c := by
  have key : ∀ c, c < 10 → ∀ t, t < 1024 → (hsB (nI t) (nI c) == t.testBit c) = true := by decide +kernel
  simpa using key c hc t ht
theorem wg_nI {T : aH} (h : TOk T) {t : Nat} (ht : t < 256) : ∀ k, k ≤ 8 → wgU T (nI t) k = nI (wNU T t k) := by
  intro k
  induction k with
  | zero => intro _; rfl
  | succ k ih =>
    intro hk
    obtain ⟨h1, h2, h3, h4, h5⟩ := h.ab (show k < 8 by omega)
    simp only [wgU, wNU]
    rw [ih (by omega), hsB_nI (by omega) (by omega)]
    split
    · rw [h4, nI_ml]
    · rw [h4, h5, nI_sb h1, nI_ml]
theorem wh_nI {T : aH} (h : TOk T) : ∀ k, k ≤ 8 → whU T k = nI (whNU T k) := by
  intro k
  induction k with
  | zero => intro _; rfl
  | succ k ih =>
    intro hk
    obtain ⟨h1, h2, h3, h4, h5⟩ := h.ab (show k < 8 by omega)
    simp only [whU, whNU]
    rw [ih (by omega), h5, nI_ml]
theorem wNU_low {T : aH} {t t' : Nat} : ∀ k, (∀ c, c < k → t.testBit c = t'.testBit c) → wNU T t k = wNU T t' k := by
  intro k
  induction k with
  | zero => intro _; rfl
  | succ k ih => intro h; simp only [wNU]; rw [ih (fun c hc => h c (by omega)), h k (by omega)]
theorem wN_sum {T : aH} (h : TOk T) : ∀ k, k ≤ 8 → SN (fun t => wNU T t k) (2 ^ k) = whNU T k := by
  intro k
  induction k with
  | zero => intro _; rfl
  | succ k ih =>
    intro hk
    obtain ⟨h1, h2, h3, -⟩ := h.ab (show k < 8 by omega)
    rw [show 2 ^ (k + 1) = 2 ^ k + 2 ^ k by omega, SN_split]
    have e1 : SN (fun t => wNU T t (k + 1)) (2 ^ k) = SN (fun t => (bN T k - aN T k) * wNU T t k) (2 ^ k) := SN_congr fun t ht => by
      simp only [wNU]
      rw [if_neg (by rw [Nat.testBit_lt_two_pow ht]; simp), Nat.mul_comm]
    have e2 : SN (fun t => wNU T (2 ^ k + t) (k + 1)) (2 ^ k) = SN (fun t => aN T k * wNU T t k) (2 ^ k) := SN_congr fun t ht => by
      simp only [wNU]
      rw [if_pos (by rw [Nat.testBit_two_pow_add_eq, Nat.testBit_lt_two_pow ht]; rfl), Nat.mul_comm]
      congr 1
      exact wNU_low k fun c hc => Nat.testBit_two_pow_add_gt hc t
    rw [e1, e2, SN_mul, SN_mul, ih (by omega), ← Nat.add_mul, Nat.sub_add_cancel h1]
    simp only [whNU]
    rw [Nat.mul_comm]
theorem wh_bd {T : aH} (h : TOk T) : ∀ k, k ≤ 8 → 1 ≤ whNU T k ∧ whNU T k ≤ 6 ^ k := by
  intro k
  induction k with
  | zero => intro _; exact ⟨Nat.le_refl _, Nat.le_refl _⟩
  | succ k ih =>
    intro hk
    obtain ⟨h1, h2, h3, -⟩ := h.ab (show k < 8 by omega)
    obtain ⟨i1, i2⟩ := ih (by omega)
    simp only [whNU]
    exact ⟨Nat.mul_pos i1 h2, Nat.mul_le_mul i2 h3⟩
theorem wh8 {T : aH} (h : TOk T) : 1 ≤ whN T ∧ whN T ≤ 1679616 ∧ wh T = nI (whN T) := ⟨(wh_bd h 8 (by decide)).1, (wh_bd h 8 (by decide)).2, wh_nI h 8 (by decide)⟩
theorem wN8 {T : aH} (h : TOk T) : SN (wN T) 256 = whN T := wN_sum h 8 (by decide)
theorem wg8 {T : aH} (h : TOk T) {t : Nat} (ht : t < 256) : wg T (nI t) = nI (wN T t) := wg_nI h ht 8 (by decide)

/-- what a promise owes, what a set owes, as natural numbers -/
def cN (T : aH) (p : Nat) : Nat := (T 8 p).toNatClampNeg
def ow1N (T : aH) (p : Nat) (is : Bool) : Nat :=
  if T 3 p = 3 then (if is then cN T p else 1)
  else if T 3 p = 6 then (if is then 2 * cN T p else 2)
  else if T 3 p = 4 then (if is then cN T p / 2 else 0)
  else (if is then cN T p else 0)
def owNU (T : aH) (set kp : Int32) : Nat → Nat
  | 0 => 0
  | p + 1 => if hsB set (nI p) = true then owNU T set kp p + ow1N T p (hsB kp (nI p)) else owNU T set kp p
def owN (T : aH) (set kp : Int32) : Nat := owNU T set kp (nP T)
theorem TOk.c {T : aH} (h : TOk T) {p : Nat} (hp : p < nP T) : cN T p < 50 ∧ T 8 p = nI (cN T p) := by
  obtain ⟨x, h1, h2⟩ := (h.2.2.2.2.1 p hp).2.2.2
  have e1 : cN T p = x := by rw [cN, h2]; exact nI_clamp (by omega)
  rw [e1]; exact ⟨h1, h2⟩
theorem ow1_nI {T : aH} (h : TOk T) {p : Nat} (hp : p < nP T) (is : Bool) : owe1 T p is = nI (ow1N T p is) ∧ ow1N T p is ≤ 98 := by
  obtain ⟨h1, h2⟩ := h.c hp
  unfold owe1 ow1N
  rw [h2]
  have e2 : (2 : Int32) * nI (cN T p) = nI (2 * cN T p) := nI_ml 2 _
  have e3 : nI (cN T p) / 2 = nI (cN T p / 2) := nI_divN (b := 2) (by omega) (by decide)
  cases is <;> simp only [if_true, Bool.false_eq_true, if_false]
  all_goals (repeat' split)
  all_goals first
    | exact ⟨rfl, by omega⟩
    | exact ⟨e2, by omega⟩
    | exact ⟨e3, by omega⟩
theorem owU_nI {T : aH} (h : TOk T) (set kp : Int32) : ∀ k, k ≤ nP T → oweU T set kp k = nI (owNU T set kp k) ∧ owNU T set kp k ≤ 98 * k := by
  intro k
  induction k with
  | zero => intro _; exact ⟨rfl, Nat.le_refl _⟩
  | succ k ih =>
    intro hk
    obtain ⟨i1, i2⟩ := ih (by omega)
    obtain ⟨j1, j2⟩ := ow1_nI h (show k < nP T by omega) (hsB kp (nI k))
    simp only [oweU, owNU]
    split
    · rw [i1, j1, nI_ad]
      exact ⟨rfl, by omega⟩
    · exact ⟨i1, by omega⟩
theorem ow_nI {T : aH} (h : TOk T) (set kp : Int32) : owed T set kp = nI (owN T set kp) ∧ owN T set kp ≤ 980 := by
  obtain ⟨h1, h2⟩ := owU_nI h set kp (nP T) (Nat.le_refl _)
  have := h.np.1
  exact ⟨h1, by unfold owN; omega⟩
