/-! ===== small words for walks ===== -/
/-- a truth value as the machine has it -/
def bI (P : Prop) [Decidable P] : Int32 := if P then 1 else 0
theorem bI_1 {P : Prop} [Decidable P] (h : P) : (1 : Int32) = bI P := by simp [bI, h]
theorem bI_0 {P : Prop} [Decidable P] (h : ¬ P) : (0 : Int32) = bI P := by simp [bI, h]
theorem bI_t {P : Prop} [Decidable P] (h : P) : bI P = 1 := by simp [bI, h]
theorem bI_f {P : Prop} [Decidable P] (h : ¬ P) : bI P = 0 := by simp [bI, h]
theorem bI_01 (P : Prop) [Decidable P] : bI P = 0 ∨ bI P = 1 := by by_cases h : P <;> simp [bI, h]
theorem bI_eq0 {P : Prop} [Decidable P] : bI P = 0 ↔ ¬ P := by by_cases h : P <;> simp [bI, h]
theorem bI_ne0 {P : Prop} [Decidable P] : bI P ≠ 0 ↔ P := by by_cases h : P <;> simp [bI, h]
theorem bI_iff {P Q : Prop} [Decidable P] [Decidable Q] (h : P ↔ Q) : bI P = bI Q := by by_cases z : P <;> simp [bI, z, h.mp] <;> simp_all
theorem Seg.ri {mt : aM} {lv n : Nat} {M : aMem} {x y : Int32} (h : x = y) : Seg mt lv (aRET, [], [.int x], n, M) (aRET, [], [.int y], n, M) := h ▸ Seg.rf
theorem Seg.rl {mt : aM} {lv n : Nat} {M : aMem} {x y : Int64} (h : x = y) : Seg mt lv (aRET, [], [.long x], n, M) (aRET, [], [.long y], n, M) := h ▸ Seg.rf
theorem Seg.rim {mt : aM} {lv n : Nat} {M M' : aMem} {x y : Int32} (h : x = y) (hm : M = M') : Seg mt lv (aRET, [], [.int x], n, M) (aRET, [], [.int y], n, M') := h ▸ hm ▸ Seg.rf
theorem nlt {a b : Int32} (h : a < b) : ¬ b ≤ a := Int32.not_le.mpr h
theorem nle {a b : Int32} (h : ¬ a < b) : b ≤ a := Int32.not_lt.mp h
