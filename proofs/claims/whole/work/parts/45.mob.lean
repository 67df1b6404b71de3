/-! ===== what all sets gain at once: bit by bit ===== -/
def SI (f : Nat → Int) : Nat → Int
  | 0 => 0
  | n + 1 => SI f n + f n
theorem SI_congr {f g : Nat → Int} : ∀ {n : Nat}, (∀ k, k < n → f k = g k) → SI f n = SI g n := by
  intro n
  induction n with
  | zero => intro _; rfl
  | succ n ih => intro h; simp only [SI]; rw [ih (fun k hk => h k (by omega)), h n (by omega)]
theorem SI_split {f : Nat → Int} {m : Nat} : ∀ {n : Nat}, SI f (m + n) = SI f m + SI (fun k => f (m + k)) n := by
  intro n
  induction n with
  | zero => simp [SI]
  | succ n ih => rw [← Nat.add_assoc]; simp only [SI, ih]; omega
theorem SI_nat {f : Nat → Nat} : ∀ {n : Nat}, SI (fun k => (f k : Int)) n = (SN f n : Nat) := by
  intro n
  induction n with
  | zero => rfl
  | succ n ih => simp only [SI, SN, ih]; omega
def zpS (j : Nat) (f : Nat → Int) : Nat → Int := fun s => if s.testBit j = true then f s + f (s ^^^ 2 ^ j) else f s
def mpS (j : Nat) (f : Nat → Int) : Nat → Int := fun s => if s.testBit j = true then f s - f (s ^^^ 2 ^ j) else f s
def spS (j : Nat) (f : Nat → Int) : Nat → Int := fun s => if s.testBit j = true then f s else f s + f (s ||| 2 ^ j)
def zpU : Nat → (Nat → Int) → Nat → Int
  | 0, f => f
  | j + 1, f => zpS j (zpU j f)
def mpU : Nat → (Nat → Int) → Nat → Int
  | 0, f => f
  | j + 1, f => mpS j (mpU j f)
def spU : Nat → (Nat → Int) → Nat → Int
  | 0, f => f
  | j + 1, f => spS j (spU j f)
theorem hi_or {n s : Nat} (h : s < 2 ^ n) : 2 ^ n + s = 2 ^ n ||| s := by
  have := Nat.two_pow_add_eq_or_of_lt h 1
  simpa using this
theorem hi_bit {n s j : Nat} (h : s < 2 ^ n) (hj : j < n) : (2 ^ n + s).testBit j = s.testBit j := Nat.testBit_two_pow_add_gt hj s
theorem hi_xor {n s j : Nat} (h : s < 2 ^ n) (hj : j < n) : (2 ^ n + s) ^^^ 2 ^ j = 2 ^ n + (s ^^^ 2 ^ j) := by
  have h2 : s ^^^ 2 ^ j < 2 ^ n := Nat.xor_lt_two_pow h (Nat.pow_lt_pow_right (by decide) hj)
  rw [hi_or h, hi_or h2]
  apply Nat.eq_of_testBit_eq
  intro i
  simp only [Nat.testBit_xor, Nat.testBit_or, Nat.testBit_two_pow]
  by_cases e : n = i
  · subst e
    rw [Nat.testBit_lt_two_pow h, show decide (j = n) = false from decide_eq_false (by omega)]
    simp
  · simp [e]
theorem hi_or2 {n s j : Nat} (h : s < 2 ^ n) (hj : j < n) : (2 ^ n + s) ||| 2 ^ j = 2 ^ n + (s ||| 2 ^ j) := by
  have h2 : s ||| 2 ^ j < 2 ^ n := Nat.or_lt_two_pow h (Nat.pow_lt_pow_right (by decide) hj)
  rw [hi_or h, hi_or h2, Nat.or_assoc]
theorem xor_lt {n s j : Nat} (h : s < 2 ^ n) (hj : j < n) : s ^^^ 2 ^ j < 2 ^ n := Nat.xor_lt_two_pow h (Nat.pow_lt_pow_right (by decide) hj)
theorem or_lt {n s j : Nat} (h : s < 2 ^ n) (hj : j < n) : s ||| 2 ^ j < 2 ^ n := Nat.or_lt_two_pow h (Nat.pow_lt_pow_right (by decide) hj)
theorem zp_hi {n : Nat} {f : Nat → Int} : ∀ j, j ≤ n → ∀ s, s < 2 ^ n → zpU j f (2 ^ n + s) = zpU j (fun s => f (2 ^ n + s)) s := by
  intro j
  induction j with
  | zero => intro _ s _; rfl
  | succ j ih =>
    intro hj s hs
    simp only [zpU, zpS]
    rw [hi_bit hs (by omega), hi_xor hs (by omega), ih (by omega) s hs, ih (by omega) _ (xor_lt hs (by omega))]
theorem mp_hi {n : Nat} {f : Nat → Int} : ∀ j, j ≤ n → ∀ s, s < 2 ^ n → mpU j f (2 ^ n + s) = mpU j (fun s => f (2 ^ n + s)) s := by
  intro j
  induction j with
  | zero => intro _ s _; rfl
  | succ j ih =>
    intro hj s hs
    simp only [mpU, mpS]
    rw [hi_bit hs (by omega), hi_xor hs (by omega), ih (by omega) s hs, ih (by omega) _ (xor_lt hs (by omega))]
theorem sp_hi {n : Nat} {f : Nat → Int} : ∀ j, j ≤ n → ∀ s, s < 2 ^ n → spU j f (2 ^ n + s) = spU j (fun s => f (2 ^ n + s)) s := by
  intro j
  induction j with
  | zero => intro _ s _; rfl
  | succ j ih =>
    intro hj s hs
    simp only [spU, spS]
    rw [hi_bit hs (by omega), hi_or2 hs (by omega), ih (by omega) s hs, ih (by omega) _ (or_lt hs (by omega))]
theorem zp_congr {n : Nat} {f g : Nat → Int} (h : ∀ s, s < 2 ^ n → f s = g s) : ∀ j, j ≤ n → ∀ s, s < 2 ^ n → zpU j f s = zpU j g s := by
  intro j
  induction j with
  | zero => intro _ s hs; exact h s hs
  | succ j ih =>
    intro hj s hs
    simp only [zpU, zpS]
    rw [ih (by omega) s hs, ih (by omega) _ (xor_lt hs (by omega))]
theorem zp_add {f g : Nat → Int} : ∀ j, zpU j (fun s => f s + g s) = fun s => zpU j f s + zpU j g s := by
  intro j
  induction j with
  | zero => rfl
  | succ j ih =>
    funext s
    simp only [zpU, zpS, ih]
    split <;> omega
theorem zp_sub {f g : Nat → Int} : ∀ j, zpU j (fun s => f s - g s) = fun s => zpU j f s - zpU j g s := by
  intro j
  induction j with
  | zero => rfl
  | succ j ih =>
    funext s
    simp only [zpU, zpS, ih]
    split <;> omega
theorem top_bit {n s : Nat} (h : s < 2 ^ n) : (2 ^ n + s).testBit n = true := by
  rw [Nat.testBit_two_pow_add_eq, Nat.testBit_lt_two_pow h]; rfl
theorem top_xor {n s : Nat} (h : s < 2 ^ n) : (2 ^ n + s) ^^^ 2 ^ n = s := by
  rw [hi_or h]
  apply Nat.eq_of_testBit_eq
  intro i
  simp only [Nat.testBit_xor, Nat.testBit_or, Nat.testBit_two_pow]
  by_cases e : n = i
  · subst e; rw [Nat.testBit_lt_two_pow h]; simp
  · simp [e]
theorem and_hi {n s K : Nat} (h : s < 2 ^ n) (hK : K < 2 ^ n) : s &&& (2 ^ n + K) = s &&& K := by
  rw [hi_or hK]
  apply Nat.eq_of_testBit_eq
  intro i
  simp only [Nat.testBit_and, Nat.testBit_or, Nat.testBit_two_pow]
  by_cases e : n = i
  · subst e; rw [Nat.testBit_lt_two_pow h]; simp
  · simp [e]
theorem hi_and {n s K : Nat} (h : s < 2 ^ n) (hK : K < 2 ^ n) : (2 ^ n + s) &&& (2 ^ n + K) = 2 ^ n + (s &&& K) := by
  have h2 : s &&& K < 2 ^ n := Nat.and_lt_two_pow s hK
  rw [hi_or h, hi_or hK, hi_or h2]
  apply Nat.eq_of_testBit_eq
  intro i
  simp only [Nat.testBit_and, Nat.testBit_or, Nat.testBit_two_pow]
  cases decide (n = i) <;> simp
theorem mob : ∀ (n : Nat) (f t : Nat → Int) (s : Nat), s < 2 ^ n → zpU n (fun s => mpU n f s * spU n t s) s = SI (fun K => t K * f (s &&& K)) (2 ^ n) := by
  intro n
  induction n with
  | zero =>
    intro f t s hs
    have : s = 0 := by simpa using hs
    subst this
    simp [zpU, mpU, spU, SI, Int.mul_comm]
  | succ n ih =>
    intro f t s hs
    have lo : ∀ s, s < 2 ^ n → (s.testBit n = true) = False := fun s h => by rw [Nat.testBit_lt_two_pow h]; simp
    have m0 : ∀ s, s < 2 ^ n → mpU (n + 1) f s = mpU n f s := fun s h => by simp only [mpU, mpS, lo s h, if_false]
    have m1 : ∀ s, s < 2 ^ n → mpU (n + 1) f (2 ^ n + s) = mpU n (fun s => f (2 ^ n + s)) s - mpU n f s := fun s h => by
      simp only [mpU, mpS]
      rw [if_pos (top_bit h), top_xor h, mp_hi n (Nat.le_refl _) s h]
    have s0 : ∀ s, s < 2 ^ n → spU (n + 1) t s = spU n t s + spU n (fun s => t (2 ^ n + s)) s := fun s h => by
      simp only [spU, spS, lo s h, if_false]
      rw [Nat.or_comm, ← hi_or h, sp_hi n (Nat.le_refl _) s h]
    have s1 : ∀ s, s < 2 ^ n → spU (n + 1) t (2 ^ n + s) = spU n (fun s => t (2 ^ n + s)) s := fun s h => by
      simp only [spU, spS]
      rw [if_pos (top_bit h), sp_hi n (Nat.le_refl _) s h]
    have z0 : ∀ s, s < 2 ^ n → zpU n (fun s => mpU (n + 1) f s * spU (n + 1) t s) s = SI (fun K => t K * f (s &&& K)) (2 ^ n) + SI (fun K => t (2 ^ n + K) * f (s &&& K)) (2 ^ n) := fun s h => by
      rw [zp_congr (g := fun s => mpU n f s * spU n t s + mpU n f s * spU n (fun s => t (2 ^ n + s)) s) (fun s h => by rw [m0 s h, s0 s h, Int.mul_add]) n (Nat.le_refl _) s h, zp_add]
      dsimp only
      rw [ih f t s h, ih f (fun s => t (2 ^ n + s)) s h]
    have hsp : SI (fun K => t K * f (s &&& K)) (2 ^ (n + 1)) = SI (fun K => t K * f (s &&& K)) (2 ^ n) + SI (fun K => t (2 ^ n + K) * f (s &&& (2 ^ n + K))) (2 ^ n) := by
      rw [show 2 ^ (n + 1) = 2 ^ n + 2 ^ n by omega, SI_split]
    rw [hsp]
    rcases Nat.lt_or_ge s (2 ^ n) with h | h
    · simp only [zpU, zpS, lo s h, if_false]
      rw [z0 s h]
      congr 1
      exact SI_congr fun K hK => by rw [and_hi h hK]
    · obtain ⟨r, rfl⟩ : ∃ r, s = 2 ^ n + r := ⟨s - 2 ^ n, by omega⟩
      have hr : r < 2 ^ n := by omega
      simp only [zpU, zpS]
      rw [if_pos (top_bit hr), top_xor hr, z0 r hr, zp_hi n (Nat.le_refl _) r hr]
      rw [zp_congr (g := fun s => mpU n (fun s => f (2 ^ n + s)) s * spU n (fun s => t (2 ^ n + s)) s - mpU n f s * spU n (fun s => t (2 ^ n + s)) s) (fun s h => by rw [m1 s h, s1 s h, Int.sub_mul]) n (Nat.le_refl _) r hr, zp_sub]
      dsimp only
      rw [ih (fun s => f (2 ^ n + s)) (fun s => t (2 ^ n + s)) r hr, ih f (fun s => t (2 ^ n + s)) r hr]
      have e1 : SI (fun K => t K * f ((2 ^ n + r) &&& K)) (2 ^ n) = SI (fun K => t K * f (r &&& K)) (2 ^ n) := SI_congr fun K hK => by
        rw [Nat.and_comm, and_hi hK hr, Nat.and_comm]
      have e2 : SI (fun K => t (2 ^ n + K) * f ((2 ^ n + r) &&& (2 ^ n + K))) (2 ^ n) = SI (fun K => t (2 ^ n + K) * f (2 ^ n + (r &&& K))) (2 ^ n) := SI_congr fun K hK => by rw [hi_and hr hK]
      rw [e1, e2]
      omega
