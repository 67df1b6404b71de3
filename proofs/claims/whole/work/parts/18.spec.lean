/-! ===== what the town's things are, as numbers: T j k, T 0 its counts (promises, needs, the latest throw, z), T 1.. its rows ===== -/
def lenT : Nat → Nat
  | 0 => 4
  | 1 => 8
  | 2 => 8
  | 3 => 10
  | 4 => 10
  | 5 => 10
  | 6 => 10
  | 7 => 10
  | 8 => 10
  | 9 => 6
  | 10 => 6
  | 11 => 6
  | 12 => 10
  | _ => 0
/-- the class's town at cell b -/
def tw (h : aH) (b : Nat) : aH := fun j k => if k < lenT j then (match j with
  | 0 => (match k with
    | 0 => h b 8
    | 1 => h b 12
    | 2 => h b 13
    | _ => h b 14)
  | j + 1 => h (b + (j + 1)) k) else 0
/-- the reference's row of numbers at cell b -/
def tm (h : aH) (b : Nat) : aH := fun j k => if k < lenT j then (match j with
  | 0 => h b k
  | 1 => h b (4 + k)
  | 2 => h b (12 + k)
  | 9 => h b (80 + 3 * k)
  | 10 => h b (80 + 3 * k + 1)
  | 11 => h b (80 + 3 * k + 2)
  | 12 => h b (98 + k)
  | j => h b (20 + 6 * k + (j - 3))) else 0
def hsB (s m : Int32) : Bool := decide ((s >>> (m &&& 31)) &&& 1 = 1)
/-- is a promise kept -/
def kpB (T : aH) (heads set : Int32) (p : Nat) : Bool :=
  if T 3 p = 1 ∨ T 3 p = 3 then hsB heads (T 4 p) && hsB heads (T 5 p)
  else if T 3 p = 2 then hsB heads (T 4 p) || hsB heads (T 5 p)
  else if T 3 p = 5 then !(hsB heads (T 4 p)) && !(hsB heads (T 5 p))
  else if T 3 p = 6 then hsB heads (T 4 p) && hsB heads (T 5 p) && (decide (p = 0) || hsB set (nI p - 1))
  else hsB heads (T 4 p)
def bt1 (p : Nat) : Int32 := 1 <<< (nI p &&& 31)
def kpU (T : aH) (heads : Int32) : Nat → Int32
  | 0 => 0
  | p + 1 => if kpB T heads (kpU T heads p) p = true then kpU T heads p ||| bt1 p else kpU T heads p
def nP (T : aH) : Nat := (T 0 0).toNatClampNeg
def nN (T : aH) : Nat := (T 0 1).toNatClampNeg
def kept (T : aH) (heads : Int32) : Int32 := kpU T heads (nP T)
/-- what a promise owes -/
def owe1 (T : aH) (p : Nat) (is : Bool) : Int32 :=
  if T 3 p = 3 then (if is then T 8 p else 1)
  else if T 3 p = 6 then (if is then 2 * T 8 p else 2)
  else if T 3 p = 4 then (if is then T 8 p / 2 else 0)
  else (if is then T 8 p else 0)
def oweU (T : aH) (set kept : Int32) : Nat → Int32
  | 0 => 0
  | p + 1 => if hsB set (nI p) = true then oweU T set kept p + owe1 T p (hsB kept (nI p)) else oweU T set kept p
def owed (T : aH) (set kept : Int32) : Int32 := oweU T set kept (nP T)
def brgU (T : aH) (set thing : Int32) : Nat → Int32
  | 0 => 0
  | p + 1 => if hsB set (nI p) = true ∧ T 6 p = thing then brgU T set thing p + T 7 p else brgU T set thing p
def brg (T : aH) (set thing : Int32) : Int32 := brgU T set thing (nP T)
def metB (T : aH) (need : Nat) (set : Int32) : Bool := decide (T 10 need ≤ brg T set (T 9 need))
def metU (T : aH) (set : Int32) : Nat → Int32
  | 0 => 0
  | k + 1 => if metB T k set = true then metU T set k ||| bt1 k else metU T set k
def metI (T : aH) (set : Int32) : Int32 := metU T set (nN T)
/-- draws: z behind k draws -/
def dz (z : Int32) : Int32 := z * 1103515245 + 12345
def dzU (z : Int32) : Nat → Int32
  | 0 => z
  | k + 1 => dz (dzU z k)
def tsU (T : aH) (z : Int32) : Nat → Int32
  | 0 => 0
  | c + 1 => if jrem (jush (dzU z (c + 1)) 8) (T 2 c) < T 1 c then tsU T z c ||| bt1 c else tsU T z c
def wgU (T : aH) (heads : Int32) : Nat → Int32
  | 0 => 1
  | c + 1 => wgU T heads c * (if hsB heads (nI c) = true then T 1 c else T 2 c - T 1 c)
def wg (T : aH) (heads : Int32) : Int32 := wgU T heads 8
def whU (T : aH) : Nat → Int32
  | 0 => 1
  | c + 1 => whU T c * T 2 c
def wh (T : aH) : Int32 := whU T 8
/-- a town as it must be -/
def TOk (T : aH) : Prop :=
  (∃ P, P ≤ 10 ∧ T 0 0 = nI P) ∧ (∃ N, N ≤ 6 ∧ T 0 1 = nI N) ∧ (T 0 2 = -1 ∨ ∃ t, t < 256 ∧ T 0 2 = nI t) ∧
  (∀ c, c < 8 → ∃ a b, a ≤ b ∧ 1 ≤ b ∧ b ≤ 6 ∧ T 1 c = nI a ∧ T 2 c = nI b) ∧
  (∀ p, p < nP T → ((∃ x, x < 7 ∧ T 3 p = nI x) ∧ (∃ x, x < 8 ∧ T 4 p = nI x) ∧ (∃ x, x < 8 ∧ T 5 p = nI x)) ∧ ((∃ x, x < 6 ∧ T 6 p = nI x) ∧ (∃ x, (1 ≤ x ∧ x ≤ 9) ∧ T 7 p = nI x) ∧ (∃ x, x < 50 ∧ T 8 p = nI x))) ∧
  (∀ k, k < nN T → (∃ x, x < 6 ∧ T 9 k = nI x) ∧ (∃ x, (1 ≤ x ∧ x ≤ 40) ∧ T 10 k = nI x) ∧ (∃ x, (1 ≤ x ∧ x ≤ 99) ∧ T 11 k = nI x)) ∧
  (∀ k, k < 10 → T 12 k = -1 ∨ ∃ p, p < nP T ∧ T 12 k = nI p)
theorem TOk.np {T : aH} (h : TOk T) : nP T ≤ 10 ∧ T 0 0 = nI (nP T) := by
  obtain ⟨⟨P, h1, h2⟩, -⟩ := h
  have : nP T = P := by rw [nP, h2]; exact nI_clamp (by omega)
  rw [this]; exact ⟨h1, h2⟩
theorem TOk.nn {T : aH} (h : TOk T) : nN T ≤ 6 ∧ T 0 1 = nI (nN T) := by
  obtain ⟨-, ⟨P, h1, h2⟩, -⟩ := h
  have : nN T = P := by rw [nN, h2]; exact nI_clamp (by omega)
  rw [this]; exact ⟨h1, h2⟩
section TW
variable {h : aH} {k : Nat}
theorem tw_00 : tw h 1 0 0 = h 1 8 := rfl
theorem tw_01 : tw h 1 0 1 = h 1 12 := rfl
theorem tw_02 : tw h 1 0 2 = h 1 13 := rfl
theorem tw_03 : tw h 1 0 3 = h 1 14 := rfl
theorem tw_1 (hk : k < 8) : tw h 1 1 k = h 2 k := by simp [tw, lenT, hk]
theorem tw_2 (hk : k < 8) : tw h 1 2 k = h 3 k := by simp [tw, lenT, hk]
theorem tw_3 (hk : k < 10) : tw h 1 3 k = h 4 k := by simp [tw, lenT, hk]
theorem tw_4 (hk : k < 10) : tw h 1 4 k = h 5 k := by simp [tw, lenT, hk]
theorem tw_5 (hk : k < 10) : tw h 1 5 k = h 6 k := by simp [tw, lenT, hk]
theorem tw_6 (hk : k < 10) : tw h 1 6 k = h 7 k := by simp [tw, lenT, hk]
theorem tw_7 (hk : k < 10) : tw h 1 7 k = h 8 k := by simp [tw, lenT, hk]
theorem tw_8 (hk : k < 10) : tw h 1 8 k = h 9 k := by simp [tw, lenT, hk]
theorem tw_9 (hk : k < 6) : tw h 1 9 k = h 10 k := by simp [tw, lenT, hk]
theorem tw_10 (hk : k < 6) : tw h 1 10 k = h 11 k := by simp [tw, lenT, hk]
theorem tw_11 (hk : k < 6) : tw h 1 11 k = h 12 k := by simp [tw, lenT, hk]
theorem tw_12 (hk : k < 10) : tw h 1 12 k = h 13 k := by simp [tw, lenT, hk]
theorem tm_0 (hk : k < 4) : tm h 64 0 k = h 64 k := by simp [tm, lenT, hk]
theorem tm_1 (hk : k < 8) : tm h 64 1 k = h 64 (4 + k) := by simp [tm, lenT, hk]
theorem tm_2 (hk : k < 8) : tm h 64 2 k = h 64 (12 + k) := by simp [tm, lenT, hk]
theorem tm_3 (hk : k < 10) : tm h 64 3 k = h 64 (20 + 6 * k + 0) := by simp [tm, lenT, hk]
theorem tm_4 (hk : k < 10) : tm h 64 4 k = h 64 (20 + 6 * k + 1) := by simp [tm, lenT, hk]
theorem tm_5 (hk : k < 10) : tm h 64 5 k = h 64 (20 + 6 * k + 2) := by simp [tm, lenT, hk]
theorem tm_6 (hk : k < 10) : tm h 64 6 k = h 64 (20 + 6 * k + 3) := by simp [tm, lenT, hk]
theorem tm_7 (hk : k < 10) : tm h 64 7 k = h 64 (20 + 6 * k + 4) := by simp [tm, lenT, hk]
theorem tm_8 (hk : k < 10) : tm h 64 8 k = h 64 (20 + 6 * k + 5) := by simp [tm, lenT, hk]
theorem tm_9 (hk : k < 6) : tm h 64 9 k = h 64 (80 + 3 * k + 0) := by simp [tm, lenT, hk]
theorem tm_10 (hk : k < 6) : tm h 64 10 k = h 64 (80 + 3 * k + 1) := by simp [tm, lenT, hk]
theorem tm_11 (hk : k < 6) : tm h 64 11 k = h 64 (80 + 3 * k + 2) := by simp [tm, lenT, hk]
theorem tm_12 (hk : k < 10) : tm h 64 12 k = h 64 (98 + k) := by simp [tm, lenT, hk]
end TW
theorem cl10 {p : Nat} (h : p < 256) : (nI p).toNatClampNeg = p := nI_clamp (by omega)
theorem in10 {p n : Nat} (h : p < n) (hn : n ≤ 2000) : vp_in (nI p) n := vp_in_nI h (by omega)
def wrtU (T : aH) (set : Int32) : Nat → Int32
  | 0 => 0
  | k + 1 => if metB T k set = true then wrtU T set k + T 11 k else wrtU T set k
def wrt (T : aH) (set : Int32) : Int32 := wrtU T set (nN T)
def hldU (T : aH) : Nat → Int32
  | 0 => 0
  | k + 1 => if T 12 k = -1 then hldU T k else hldU T k + 1
theorem up2_o {α : Type} {h : Nat → Nat → α} {a k : Nat} {x : α} {b j : Nat} (hb : b ≠ a) : up2 h a k x b j = h b j := by simp [up2, hb]
theorem up2_k {α : Type} {h : Nat → Nat → α} {a k : Nat} {x : α} {b j : Nat} (hj : j ≠ k) : up2 h a k x b j = h b j := by simp [up2, hj]
theorem up2_s {α : Type} {h : Nat → Nat → α} {a k : Nat} {x : α} : up2 h a k x a k = x := by simp [up2]
theorem up2_same {α : Type} {h : Nat → Nat → α} {a k : Nat} : up2 h a k (h a k) = h := by
  funext b j
  simp only [up2]
  split
  · next e => subst e; split
              · next e => subst e; rfl
              · rfl
  · rfl
theorem up2_up2 {α : Type} {h : Nat → Nat → α} {a k : Nat} {x y : α} : up2 (up2 h a k x) a k y = up2 h a k y := by
  funext b j
  simp only [up2]
  split
  · split <;> rfl
  · rfl
