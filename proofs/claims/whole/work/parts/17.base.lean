/-! ===== small words for walks ===== -/
/-- a truth value as the machine has it -/
def bI (P : Prop) [Decidable P] : Int32 := if P then 1 else 0
theorem bI_1 {P : Prop} [Decidable P] (h : P) : (1 : Int32) = bI P := by simp [bI, h]
theorem bI_0 {P : Prop} [Decidable P] (h : ¬ P) : (0 : Int32) = bI P := by simp [bI, h]
theorem bI_t {P : Prop} [Decidable P] (h : P) : bI P = 1 := by simp [bI, h]
theorem bI_f {P : Prop} [Decidable P] (h : ¬ P) : bI P = 0 := by simp [bI, h]
theorem bI_01 (P : Prop) [Decidable P] : bI P = 0 ∨ bI P = 1 := by by_cases h : P <;> simp [bI, h]
theorem bI_eq0 {P : Prop} [Decidable P] : bI P = 0 ↔ ¬ P := by by_cases h : P <;> simp [bI, h]
theorem bI_ne0 {P : Prop} [Decidable P] : bI P ≠ 0 ↔ P := by by_cases h : P <;> simp [bI, h]
theorem bI_iff {P Q : Prop} [Decidable P] [Decidable Q] (h : P ↔ Q) : bI P = bI Q := by by_cases z : P <;> simp [bI, z, h.mp] <;> simp_all
theorem Seg.ri {mt : aM} {lv n : Nat} {M : aMem} {x y : Int32} (h : x = y) : Seg mt lv (aRET, [], [.int x], n, M) (aRET, [], [.int y], n, M) := h ▸ Seg.rf
theorem Seg.rl {mt : aM} {lv n : Nat} {M : aMem} {x y : Int64} (h : x = y) : Seg mt lv (aRET, [], [.long x], n, M) (aRET, [], [.long y], n, M) := h ▸ Seg.rf
theorem Seg.rim {mt : aM} {lv n : Nat} {M M' : aMem} {x y : Int32} (h : x = y) (hm : M = M') : Seg mt lv (aRET, [], [.int x], n, M) (aRET, [], [.int y], n, M') := h ▸ hm ▸ Seg.rf
theorem nlt {a b : Int32} (h : a < b) : ¬ b ≤ a := Int32.not_le.mpr h
theorem nle {a b : Int32} (h : ¬ a < b) : b ≤ a := Int32.not_lt.mp h
/-- a local that is of no use any more -/
theorem Seg.fg {mt : aM} {lv pc n : Nat} {ls : List (Option Value)} {st : List Value} {M : aMem} (k : Nat) : Seg mt lv (pc, ls, st, n, M) (pc, ls.set k none, st, n, M) := by
  intro p l e R s m args below meth c A D σ0 n0 Q Fz C h
  refine ⟨fun z => h.1 z, fun z σ τ H locs la hF hlen hl => h.2 z σ τ H locs la hF (by simpa using hlen) ⟨hl.1, hl.2.1, fun q hq => hl.2.2 q (ascF_none _ _ _ _ hq).1⟩⟩
theorem lim_ge {i N : Nat} (hi : i < N) (hN : N < 2 ^ 31) (c : cmpP .ge (nI i) (nI N)) : False := nI_ge hi hN c
theorem lim_le {i N : Nat} (hi : N ≤ i) (hN : i < 2 ^ 31) (c : ¬ cmpP .ge (nI i) (nI N)) : False := c (nI_le hi hN)
