/-! ===== bits counted; the lowest bit ===== -/
/-- how many bits, of ten -/
def pcN (s : Nat) : Nat := SN (fun j => if s.testBit j = true then 1 else 0) 10
/-- the lowest bit, of ten -/
def tzN (s : Nat) : Nat := if s.testBit 0 then 0 else if s.testBit 1 then 1 else if s.testBit 2 then 2 else if s.testBit 3 then 3 else if s.testBit 4 then 4 else if s.testBit 5 then 5 else if s.testBit 6 then 6 else if s.testBit 7 then 7 else if s.testBit 8 then 8 else 9
/-- the set without its lowest -/
def rsN (s : Nat) : Nat := s &&& (s - 1)
def bcE (x : Int32) : Int32 :=
  let a := x - (jush x 1 &&& 1431655765)
  let b := (a &&& 858993459) + (jush a 2 &&& 858993459)
  let c := (b + jush b 4) &&& 252645135
  let d := c + jush c 8
  (d + jush d 16) &&& 63
theorem bcE_pc : ∀ s, s < 1024 → bcE (nI s) = nI (pcN s) := by decide +kernel
theorem pcN_le : ∀ s, s < 1024 → pcN s ≤ 10 := by decide +kernel
theorem pcN_rs : ∀ s, s < 1024 → 0 < s → pcN (rsN s) + 1 = pcN s ∧ rsN s < s := by decide +kernel
theorem tzN_ok : ∀ s, s < 1024 → 0 < s → tzN s < 10 ∧ s.testBit (tzN s) = true ∧ rsN s = s - 2 ^ tzN s ∧ 2 ^ tzN s ≤ s ∧ (rsN s).testBit (tzN s) = false := by decide +kernel
theorem rsN_bit : ∀ s, s < 1024 → 0 < s → ∀ j, j < 10 → s.testBit j = ((rsN s).testBit j || decide (j = tzN s)) := by decide +kernel
theorem rsN_0 : ∀ s, s < 1024 → 0 < s → rsN s = 0 → s = 2 ^ tzN s := by decide +kernel
theorem rs_I {s : Nat} (h0 : 0 < s) : nI s &&& (nI s - 1) = nI (rsN s) := by
  rw [show nI s - 1 = nI (s - 1) from nI_sb (b := 1) h0, nI_and]
  rfl
set_option maxRecDepth 100000 in
set_option maxHeartbeats 400000 in
theorem tJ6_bitCount (x : Int32) : MP mJ6_bitCount_0f7a4 1 [.int x] [.int (bcE x)] := by
  refine MP.of okJ6_bitCount_0f7a4 (by decide +kernel) (Nat.le_of_ble_eq_true rfl) (by decide) rfl rfl (fun n h g q hn => ?_)
  refine Seg.run [] 400 ?_
  exact Seg.rf
theorem tJ6_bc {s : Nat} (h : s < 1024) : MP mJ6_bitCount_0f7a4 1 [.int (nI s)] [.int (nI (pcN s))] := by
  rw [← bcE_pc s h]
  exact tJ6_bitCount _
/-- the lowest bit as the machine finds it, of less than 256 times 256 -/
def tzA (s : Nat) : Int32 := (nI s ^^^ -1) &&& (nI s - 1)
theorem tzA_0 : ∀ s, s < 1024 → 0 < s → tzA s ≤ 0 → tzA s &&& 32 = nI (tzN s) := by decide +kernel
theorem tzA_1 : ∀ s, s < 1024 → ¬ 65536 < tzA s := by decide +kernel
def tzB (s : Nat) : Int32 := if 256 < tzA s then jush (tzA s) 8 else tzA s
def tzB' (s : Nat) : Int32 := if 256 < tzA s then 1 + 8 else 1
def tzC (s : Nat) : Int32 := if 16 < tzB s then jush (tzB s) 4 else tzB s
def tzC' (s : Nat) : Int32 := if 16 < tzB s then tzB' s + 4 else tzB' s
def tzD (s : Nat) : Int32 := if 4 < tzC s then jush (tzC s) 2 else tzC s
def tzD' (s : Nat) : Int32 := if 4 < tzC s then tzC' s + 2 else tzC' s
theorem tzE : ∀ s, s < 1024 → 0 < s → ¬ tzA s ≤ 0 → tzD' s + jush (tzD s) 1 = nI (tzN s) := by decide +kernel
set_option maxRecDepth 100000 in
set_option maxHeartbeats 400000 in
theorem tJ6_tz {s : Nat} (hs : s < 1024) (h0 : 0 < s) : MP mJ6_numberOfTrailingZeros_0f7a4 1 [.int (nI s)] [.int (nI (tzN s))] := by
  refine MP.of okJ6_numberOfTrailingZeros_0f7a4 (by decide +kernel) (Nat.le_of_ble_eq_true rfl) (by decide) rfl rfl (fun n h g q hn => ?_)
  refine Seg.run [17] 400 ?_
  refine And.intro (fun z => ?_) (fun z => ?_)
  · have z : ¬ tzA s ≤ 0 := Int32.not_le.mpr z
    have s4 : ∀ x y : Int32, x = tzD s → y = tzD' s → Seg mJ6_numberOfTrailingZeros_0f7a4 1 (74, [some (.int x), some (.int y)], [], n, h, g, q) (aRET, [], [.int (nI (tzN s))], n, h, g, q) := by
      intro x y hx hy
      subst hx; subst hy
      refine Seg.run [] 400 ?_
      exact Seg.ri (tzE s hs h0 z)
    have s3 : ∀ x y : Int32, x = tzC s → y = tzC' s → Seg mJ6_numberOfTrailingZeros_0f7a4 1 (62, [some (.int x), some (.int y)], [], n, h, g, q) (aRET, [], [.int (nI (tzN s))], n, h, g, q) := by
      intro x y hx hy
      subst hx; subst hy
      refine Seg.run [74] 400 ?_
      refine And.intro (fun c => ?_) (fun c => ?_)
      · exact s4 _ _ (if_neg (Int32.not_lt.mpr c)).symm (if_neg (Int32.not_lt.mpr c)).symm
      · exact s4 _ _ (if_pos (Int32.not_le.mp c)).symm (if_pos (Int32.not_le.mp c)).symm
    have s2 : ∀ x y : Int32, x = tzB s → y = tzB' s → Seg mJ6_numberOfTrailingZeros_0f7a4 1 (49, [some (.int x), some (.int y)], [], n, h, g, q) (aRET, [], [.int (nI (tzN s))], n, h, g, q) := by
      intro x y hx hy
      subst hx; subst hy
      refine Seg.run [62] 400 ?_
      refine And.intro (fun c => ?_) (fun c => ?_)
      · exact s3 _ _ (if_neg (Int32.not_lt.mpr c)).symm (if_neg (Int32.not_lt.mpr c)).symm
      · exact s3 _ _ (if_pos (Int32.not_le.mp c)).symm (if_pos (Int32.not_le.mp c)).symm
    have s1 : Seg mJ6_numberOfTrailingZeros_0f7a4 1 (34, [some (.int (tzA s)), some (.int 1)], [], n, h, g, q) (aRET, [], [.int (nI (tzN s))], n, h, g, q) := by
      refine Seg.run [49] 400 ?_
      refine And.intro (fun c => ?_) (fun c => ?_)
      · exact s2 _ _ (if_neg (Int32.not_lt.mpr c)).symm (if_neg (Int32.not_lt.mpr c)).symm
      · exact s2 _ _ (if_pos (Int32.not_le.mp c)).symm (if_pos (Int32.not_le.mp c)).symm
    refine Seg.run [34] 400 ?_
    refine And.intro (fun c => ?_) (fun c => ?_)
    · exact s1
    · exact absurd (Int32.not_le.mp c) (tzA_1 s hs)
  · exact Seg.ri (tzA_0 s hs h0 (Int32.not_lt.mp z))
set_option maxRecDepth 100000 in
set_option maxHeartbeats 400000 in
theorem tX6_many (h : aH) (g : aG) (s : Nat) (hs : s < 1024) : MS mX6_many 1 [.int (nI s)] h g [.int (nI (pcN s))] h g := by
  have loop : ∀ m, m < 1024 → ∀ c, Seg mX6_many 1 (4, [some (.int (nI s)), some (.int (nI c)), some (.int (nI m))], [], nW, h, g, ρ) (aRET, [], [.int (nI (c + pcN m))], nW, h, g, ρ) := by
    intro m
    induction m using Nat.strongRecOn with
    | ind m ih =>
      intro hm c
      rcases Nat.eq_zero_or_pos m with e | e
      · subst e
        refine Seg.run [] 400 ?_
        refine And.intro (fun z => ?_) (fun z => ?_)
        · exact Seg.rf
        · exact absurd rfl z
      · obtain ⟨p1, p2⟩ := pcN_rs m hm e
        refine Seg.run [4] 400 ?_
        refine And.intro (fun z => ?_) (fun z => ?_)
        · exact absurd ((nI_eq (b := 0) (by omega) (by decide)).mp z) (by omega)
        · refine Seg.tr (Seg.of (b := (4, [some (.int (nI s)), some (.int (nI (c + 1))), some (.int (nI (rsN m)))], [], nW, h, g, ρ)) (by rw [← rs_I e, nI_succ] <;> rfl)) ?_
          refine Seg.tr (ih (rsN m) p2 (by omega) (c + 1)) ?_
          exact Seg.of (by rw [← p1, Nat.add_assoc, Nat.add_comm 1])
  refine MS.of okX6_many (by decide +kernel) (Nat.le_of_ble_eq_true rfl) (by decide) rfl (by decide) ?_
  refine Seg.run [4] 400 ?_
  refine Seg.tr (loop s hs 0) ?_
  exact Seg.of (by rw [Nat.zero_add])
