/-! ===== the reference's constructor; the finished world ===== -/
def sA (H : aH) (i : Nat) : aH := fun a j => if a = 64 ∧ 4 ≤ j ∧ j < 4 + i then 1 else if a = 64 ∧ 12 ≤ j ∧ j < 12 + i then 2 else H a j
theorem sA_0 {H : aH} : sA H 0 = H := by
  funext a j
  simp only [sA]
  rw [if_neg (by omega), if_neg (by omega)]
theorem sA_s {H : aH} {i : Nat} (hi : i < 8) : up2 (up2 (sA H i) 64 (4 + i) 1) 64 (12 + i) 2 = sA H (i + 1) := by
  funext a j
  simp only [up2, sA]
  by_cases ha : a = 64
  · subst ha
    simp only [true_and, if_true]
    by_cases h1 : j = 12 + i
    · rw [if_pos h1, if_neg (by omega), if_pos (by omega)]
    · rw [if_neg h1]
      by_cases h2 : j = 4 + i
      · rw [if_pos h2, if_pos (by omega)]
      · rw [if_neg h2]
        by_cases h3 : 4 ≤ j ∧ j < 4 + i
        · rw [if_pos h3, if_pos (by omega)]
        · rw [if_neg h3]
          by_cases h4 : 12 ≤ j ∧ j < 12 + i
          · rw [if_pos h4, if_neg (by omega), if_pos (by omega)]
          · rw [if_neg h4, if_neg (by omega), if_neg (by omega)]
  · simp [ha]
def sB (H : aH) (i : Nat) : aH := fun a j => if a = 64 ∧ 98 ≤ j ∧ j < 98 + i then -1 else H a j
theorem sB_0 {H : aH} : sB H 0 = H := by
  funext a j
  simp only [sB]
  rw [if_neg (by omega)]
theorem sB_s {H : aH} {i : Nat} : up2 (sB H i) 64 (98 + i) (-1) = sB H (i + 1) := by
  funext a j
  simp only [up2, sB]
  by_cases ha : a = 64
  · subst ha
    simp only [true_and, if_true]
    by_cases h1 : j = 98 + i
    · rw [if_pos h1, if_pos (by omega)]
    · rw [if_neg h1]
      by_cases h3 : 98 ≤ j ∧ j < 98 + i
      · rw [if_pos h3, if_pos (by omega)]
      · rw [if_neg h3, if_neg (by omega)]
  · simp [ha]
def x6Hs (h : aH) : aH := up2 (up2 (rzU h 0 64 12) 64 2 (-1)) 64 3 1
def x6H (h : aH) : aH := sB (sA (x6Hs h) 8) 10
def x6R (r : Nat → Nat → Option Nat) : Nat → Nat → Option Nat := up2 (rowZ (up2 (rowZ (up2 (rowZ (up2 (rowZ (up2 (rowZ (up2 (rowZ (up2 (rowZ (up2 (rowZ (up2 (rowZ (up2 (rowZ (up2 (rowZ (up2 (rowZ r 64 none) 63 0 (some 64)) 65 none) 63 1 (some 65)) 66 none) 63 2 (some 66)) 67 none) 63 4 (some 67)) 68 none) 63 5 (some 68)) 69 none) 63 13 (some 69)) 70 none) 63 14 (some 70)) 71 none) 63 16 (some 71)) 72 none) 63 17 (some 72)) 73 none) 63 18 (some 73)) 74 none) 63 19 (some 74)) 75 none) 63 20 (some 75)
set_option maxRecDepth 100000 in
set_option maxHeartbeats 2000000 in
theorem tX6_init (h : aH) (g : aG) (r : Nat → Nat → Option Nat) : MM (mX6_init 76) 1 [.ref 63] 64 (h, g, r) [] 76 (x6H h, g, x6R r) := by
  refine MMq (okX6_init 76) (by decide +kernel) (Nat.le_of_ble_eq_true rfl) (by decide) rfl rfl (by decide) (by decide) ?_
  refine Seg.run [117] 400 ?_
  iterate 12 (refine And.intro rfl ?_; refine And.intro ⟨rfl, rfl⟩ ?_)
  refine And.intro (in10 (p := 2) (by decide) (by decide)) ?_
  refine And.intro (in10 (p := 3) (by decide) (by decide)) ?_
  refine Seg.tr (b := (117, [some (.ref 63), some (.int (nI 0))], [], 76, sA (x6Hs h) 0, g, x6R r)) (Seg.of (by rw [sA_0] <;> rfl)) ?_
  refine Seg.tr (Seg.iter (fun i => (117, [some (.ref 63), some (.int (nI i))], [], 76, sA (x6Hs h) i, g, x6R r)) 8 (fun i hi => ?_)) ?_
  · refine Seg.run [117] 400 ?_
    refine And.intro (fun c => ?_) (fun c => ?_)
    · exact (lim_ge (N := 8) hi (by decide) c).elim
    refine And.intro (by rw [idx4]; exact in10 (by omega) (by decide)) ?_
    refine And.intro (by rw [idx12]; exact in10 (by omega) (by decide)) ?_
    exact Seg.of (by rw [idx4, idx12, cl10 (by omega), cl10 (by omega), sA_s hi, nI_succ] <;> rfl)
  · refine Seg.run [150] 400 ?_
    refine And.intro (fun c => ?_) (fun c => ?_)
    · refine Seg.tr (b := (150, [some (.ref 63), some (.int (nI 0))], [], 76, sB (sA (x6Hs h) 8) 0, g, x6R r)) (Seg.of (by rw [sB_0] <;> rfl)) ?_
      refine Seg.tr (Seg.iter (fun i => (150, [some (.ref 63), some (.int (nI i))], [], 76, sB (sA (x6Hs h) 8) i, g, x6R r)) 10 (fun i hi => ?_)) ?_
      · refine Seg.run [150] 400 ?_
        refine And.intro (fun c => ?_) (fun c => ?_)
        · exact (lim_ge (N := 10) hi (by decide) c).elim
        refine And.intro (by rw [idx98]; exact in10 (by omega) (by decide)) ?_
        exact Seg.of (by rw [idx98, cl10 (by omega), sB_s, nI_succ] <;> rfl)
      · refine Seg.run [] 400 ?_
        refine And.intro (fun c => ?_) (fun c => ?_)
        · exact Seg.rf
        · exact (lim_le (N := 10) (Nat.le_refl _) (by decide) c).elim
    · exact (lim_le (N := 8) (Nat.le_refl _) (by decide) c).elim
/-- the memory at the law's first call -/
def hI : aH := x6H (rowZ (x5H (rowZ h0 0 0)) 63 0)
def gI : aG := x0G g0
def rI : Nat → Nat → Option Nat := x6R (rowZ (x5R (rowZ r0 0 none)) 63 none)
theorem rI_21 : ∀ a, a < 76 → ∀ k, k < 21 → rI a k = ρ a k := by decide +kernel
theorem nb_up {r : Nat → Nat → Option Nat} {a k : Nat} {x : Option Nat} (hk : k < 21) (h : ∀ b j, 21 ≤ j → r b j = none) : ∀ b j, 21 ≤ j → up2 r a k x b j = none := fun b j hj => by
  rw [up2_k (by omega)]; exact h b j hj
theorem nb_rz {r : Nat → Nat → Option Nat} {a : Nat} (h : ∀ b j, 21 ≤ j → r b j = none) : ∀ b j, 21 ≤ j → rowZ r a none b j = none := fun b j hj => by
  unfold rowZ upR
  split
  · rfl
  · exact h b j hj
set_option maxRecDepth 10000 in
theorem rI_big : ∀ b j, 21 ≤ j → rI b j = none := by
  unfold rI x6R x5R x5Rs x5Rb x5Ra x2R x0R x1R x3R tnR
  repeat' first
    | exact fun b j _ => rfl
    | refine nb_up (by decide) ?_
    | refine nb_rz ?_
theorem ρ_53 : ∀ j, 21 ≤ j → ρ 53 j = none := by
  intro j hj
  have hb : ∀ k, k ≤ 21 → Nat.blt j k = false := fun k hk => by
    rw [← Bool.not_eq_true, Nat.blt_eq]; omega
  show (bif Nat.blt j 2 then _ else (bif Nat.blt j 3 then _ else (bif Nat.blt j 4 then _ else none))) = none
  rw [hb 2 (by decide), hb 3 (by decide), hb 4 (by decide)]
  rfl
theorem rI_53 : rI 53 = ρ 53 := by
  funext j
  rcases Nat.lt_or_ge j 21 with h | h
  · exact rI_21 53 (by decide) j h
  · rw [rI_big 53 j h, ρ_53 j h]
theorem nf_21 : ∀ ci, nfC ci ≤ 21 := by
  intro ci
  unfold nfC
  split <;> decide
theorem sh_3 : ∀ a, a < 76 → ((shp a).1 = 3 → a = 53) ∧ (shp a).1 < 4 := by decide +kernel
theorem wd_rI {σ τ : Nat → Nat} {h : aH} {g : aG} : wd σ τ 76 (h, g, rI) = wd σ τ 76 (h, g, ρ) := by
  refine wd_congr fun a ha => ⟨rfl, ?_⟩
  have h3 := sh_3 a ha
  rcases hs : shp a with ⟨k, z⟩
  rw [hs] at h3
  match k, hs, h3 with
  | 0, hs, _ =>
    rw [ce_obj hs, ce_obj hs]
    congr 2
    refine List.map_congr_left fun k hk => ?_
    have hk : k < nfC z := List.mem_range.mp hk
    have := nf_21 z
    dsimp only
    rw [rI_21 a ha k (by omega)]
  | 1, hs, _ => rw [ce_int hs, ce_int hs]
  | 2, hs, _ => rw [ce_long hs, ce_long hs]
  | 3, hs, h3 =>
    obtain rfl := h3.1 rfl
    rw [ce_ref hs, ce_ref hs]
    dsimp only
    rw [rI_53]
  | k + 4, _, h3 => exact absurd h3.2 (by omega)
