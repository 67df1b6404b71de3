/-! ===== constructors (printed by wip/whole/gen30.py) ===== -/
def l2 (H : aH) (c1 c2 : Nat) (v1 v2 : Int32) (i : Nat) : aH := fun a j => if a = c1 ∧ j < i then v1 else if a = c2 ∧ j < i then v2 else H a j
theorem l2_0 {H : aH} {c1 c2 : Nat} {v1 v2 : Int32} : l2 H c1 c2 v1 v2 0 = H := by funext a j; simp [l2]
theorem l2_s {H : aH} {c1 c2 : Nat} {v1 v2 : Int32} {i : Nat} (hc : c1 ≠ c2) : up2 (up2 (l2 H c1 c2 v1 v2 i) c1 i v1) c2 i v2 = l2 H c1 c2 v1 v2 (i + 1) := by
  funext a j
  simp only [up2, l2]
  by_cases h1 : a = c2
  · subst h1
    by_cases h2 : j = i
    · subst h2; simp [Ne.symm hc]
    · by_cases h3 : j < i
      · simp [h2, h3, Ne.symm hc, show j < i + 1 by omega]
      · simp [h2, h3, Ne.symm hc, show ¬ j < i + 1 by omega]
  · by_cases h4 : a = c1
    · subst h4
      by_cases h2 : j = i
      · subst h2; simp [h1]
      · by_cases h3 : j < i
        · simp [h1, h2, h3, show j < i + 1 by omega]
        · simp [h1, h2, h3, show ¬ j < i + 1 by omega]
    · simp [h1, h4]
def l1 (H : aH) (c1 : Nat) (v1 : Int32) (i : Nat) : aH := fun a j => if a = c1 ∧ j < i then v1 else H a j
theorem l1_0 {H : aH} {c1 : Nat} {v1 : Int32} : l1 H c1 v1 0 = H := by funext a j; simp [l1]
theorem l1_s {H : aH} {c1 : Nat} {v1 : Int32} {i : Nat} : up2 (l1 H c1 v1 i) c1 i v1 = l1 H c1 v1 (i + 1) := by
  funext a j
  simp only [up2, l1]
  by_cases h4 : a = c1
  · subst h4
    by_cases h2 : j = i
    · subst h2; simp
    · by_cases h3 : j < i
      · simp [h2, h3, show j < i + 1 by omega]
      · simp [h2, h3, show ¬ j < i + 1 by omega]
  · simp [h4]
/-- rows n..n+k-1 emptied -/
def rzU {α : Type} (h : Nat → Nat → α) (z : α) (n : Nat) : Nat → Nat → Nat → α
  | 0 => h
  | k + 1 => rowZ (rzU h z n k) (n + k) z
/-- the references of a town: they are laid one behind another -/
def tnR (b : Nat) (r : Nat → Nat → Option Nat) : Nat → Nat → Option Nat := up2 (rowZ (up2 (rowZ (up2 (rowZ (up2 (rowZ (up2 (rowZ (up2 (rowZ (up2 (rowZ (up2 (rowZ (up2 (rowZ (up2 (rowZ (up2 (rowZ (up2 (rowZ r (b + 1) none) b 0 (some (b + 1))) (b + 2) none) b 1 (some (b + 2))) (b + 3) none) b 2 (some (b + 3))) (b + 4) none) b 3 (some (b + 4))) (b + 5) none) b 4 (some (b + 5))) (b + 6) none) b 5 (some (b + 6))) (b + 7) none) b 6 (some (b + 7))) (b + 8) none) b 7 (some (b + 8))) (b + 9) none) b 9 (some (b + 9))) (b + 10) none) b 10 (some (b + 10))) (b + 11) none) b 11 (some (b + 11))) (b + 12) none) b 15 (some (b + 12))
def tnH (b : Nat) (h : aH) : aH := up2 (up2 (up2 (up2 (l1 (l2 (rzU h 0 (b + 1) 12) (b + 1) (b + 2) 1 2 8) (b + 12) (-1) 10) b 8 0) b 12 0) b 13 (-1)) b 14 1
theorem MMq {mt : aM} {lv : Nat} {av : List Value} {n0 n1 : Nat} {M0 M1 : aMem} {r : List Value} (hok : OkM mt) (hy : plainFor mt.1 = true) (hen : (enL av).length ≤ mt.2.2.1) (hlv : 1 ≤ lv) (hscr : mt.2.2.2.2.1.1 = 0) (hnx : mt.2.2.2.2.1.2.2 = n1) (hn01 : n0 ≤ n1) (hn1 : n1 ≤ nW)
    (h : Seg mt lv (0, paL mt.2.2.1 (enL av), [], n0, M0) (aRET, [], r, n1, M1)) : MM mt lv av n0 M0 r n1 M1 := MM.ofF hy hok hen hlv hscr (Nat.le_of_eq hnx) hn01 hn1 h

set_option maxRecDepth 100000 in
set_option maxHeartbeats 4000000 in
theorem tX4_init_1 (h : aH) (g : aG) (r : Nat → Nat → Option Nat) : MM (mX4_init 14) 1 [.ref 1] 2 (h, g, r) [] 14 (tnH 1 h, g, tnR 1 r) := by
  refine MMq (okX4_init 14) (by decide +kernel) (Nat.le_of_ble_eq_true rfl) (by decide) rfl rfl (by decide) (by decide) ?_
  refine Seg.run [102] 400 ?_
  iterate 12 (refine And.intro rfl ?_; refine And.intro ⟨rfl, rfl⟩ ?_)
  refine Seg.tr (b := (102, [some (.ref 1), some (.int (nI 0))], [], 14, l2 (rzU h 0 2 12) 2 3 1 2 0, g, tnR 1 r)) (Seg.of (by rw [l2_0] <;> rfl)) ?_
  refine Seg.tr (Seg.iter (fun i => (102, [some (.ref 1), some (.int (nI i))], [], 14, l2 (rzU h 0 2 12) 2 3 1 2 i, g, tnR 1 r)) 8 (fun i hi => ?_)) ?_
  · refine Seg.run [102] 400 ?_
    refine And.intro (fun c => ?_) (fun c => ?_)
    · exact (lim_ge (N := 8) hi (by decide) c).elim
    refine And.intro (in10 hi (by decide)) ?_
    refine And.intro (in10 hi (by decide)) ?_
    exact Seg.of (by rw [cl10 (by omega), l2_s (by decide), nI_succ] <;> rfl)
  · refine Seg.run [130] 400 ?_
    refine And.intro (fun c => ?_) (fun c => ?_)
    · refine Seg.tr (b := (130, [some (.ref 1), some (.int (nI 0))], [], 14, l1 (l2 (rzU h 0 2 12) 2 3 1 2 8) 13 (-1) 0, g, tnR 1 r)) (Seg.of (by rw [l1_0] <;> rfl)) ?_
      refine Seg.tr (Seg.iter (fun i => (130, [some (.ref 1), some (.int (nI i))], [], 14, l1 (l2 (rzU h 0 2 12) 2 3 1 2 8) 13 (-1) i, g, tnR 1 r)) 10 (fun i hi => ?_)) ?_
      · refine Seg.run [130] 400 ?_
        refine And.intro (fun c => ?_) (fun c => ?_)
        · exact (lim_ge (N := 10) hi (by decide) c).elim
        refine And.intro (in10 hi (by decide)) ?_
        exact Seg.of (by rw [cl10 (by omega), l1_s, nI_succ] <;> rfl)
      · refine Seg.run [] 400 ?_
        refine And.intro (fun c => ?_) (fun c => ?_)
        · refine And.intro (fun z => by cases z) ?_
          refine And.intro (fun z => by cases z) ?_
          refine And.intro (fun z => by cases z) ?_
          refine And.intro (fun z => by cases z) ?_
          exact Seg.rf
        · exact (lim_le (N := 10) (Nat.le_refl _) (by decide) c).elim
    · exact (lim_le (N := 8) (Nat.le_refl _) (by decide) c).elim
set_option maxRecDepth 100000 in
set_option maxHeartbeats 4000000 in
theorem tX4_init_14 (h : aH) (g : aG) (r : Nat → Nat → Option Nat) : MM (mX4_init 27) 1 [.ref 14] 15 (h, g, r) [] 27 (tnH 14 h, g, tnR 14 r) := by
  refine MMq (okX4_init 27) (by decide +kernel) (Nat.le_of_ble_eq_true rfl) (by decide) rfl rfl (by decide) (by decide) ?_
  refine Seg.run [102] 400 ?_
  iterate 12 (refine And.intro rfl ?_; refine And.intro ⟨rfl, rfl⟩ ?_)
  refine Seg.tr (b := (102, [some (.ref 14), some (.int (nI 0))], [], 27, l2 (rzU h 0 15 12) 15 16 1 2 0, g, tnR 14 r)) (Seg.of (by rw [l2_0] <;> rfl)) ?_
  refine Seg.tr (Seg.iter (fun i => (102, [some (.ref 14), some (.int (nI i))], [], 27, l2 (rzU h 0 15 12) 15 16 1 2 i, g, tnR 14 r)) 8 (fun i hi => ?_)) ?_
  · refine Seg.run [102] 400 ?_
    refine And.intro (fun c => ?_) (fun c => ?_)
    · exact (lim_ge (N := 8) hi (by decide) c).elim
    refine And.intro (in10 hi (by decide)) ?_
    refine And.intro (in10 hi (by decide)) ?_
    exact Seg.of (by rw [cl10 (by omega), l2_s (by decide), nI_succ] <;> rfl)
  · refine Seg.run [130] 400 ?_
    refine And.intro (fun c => ?_) (fun c => ?_)
    · refine Seg.tr (b := (130, [some (.ref 14), some (.int (nI 0))], [], 27, l1 (l2 (rzU h 0 15 12) 15 16 1 2 8) 26 (-1) 0, g, tnR 14 r)) (Seg.of (by rw [l1_0] <;> rfl)) ?_
      refine Seg.tr (Seg.iter (fun i => (130, [some (.ref 14), some (.int (nI i))], [], 27, l1 (l2 (rzU h 0 15 12) 15 16 1 2 8) 26 (-1) i, g, tnR 14 r)) 10 (fun i hi => ?_)) ?_
      · refine Seg.run [130] 400 ?_
        refine And.intro (fun c => ?_) (fun c => ?_)
        · exact (lim_ge (N := 10) hi (by decide) c).elim
        refine And.intro (in10 hi (by decide)) ?_
        exact Seg.of (by rw [cl10 (by omega), l1_s, nI_succ] <;> rfl)
      · refine Seg.run [] 400 ?_
        refine And.intro (fun c => ?_) (fun c => ?_)
        · refine And.intro (fun z => by cases z) ?_
          refine And.intro (fun z => by cases z) ?_
          refine And.intro (fun z => by cases z) ?_
          refine And.intro (fun z => by cases z) ?_
          exact Seg.rf
        · exact (lim_le (N := 10) (Nat.le_refl _) (by decide) c).elim
    · exact (lim_le (N := 8) (Nat.le_refl _) (by decide) c).elim
set_option maxRecDepth 100000 in
set_option maxHeartbeats 4000000 in
theorem tX4_init_30 (h : aH) (g : aG) (r : Nat → Nat → Option Nat) : MM (mX4_init 43) 1 [.ref 30] 31 (h, g, r) [] 43 (tnH 30 h, g, tnR 30 r) := by
  refine MMq (okX4_init 43) (by decide +kernel) (Nat.le_of_ble_eq_true rfl) (by decide) rfl rfl (by decide) (by decide) ?_
  refine Seg.run [102] 400 ?_
  iterate 12 (refine And.intro rfl ?_; refine And.intro ⟨rfl, rfl⟩ ?_)
  refine Seg.tr (b := (102, [some (.ref 30), some (.int (nI 0))], [], 43, l2 (rzU h 0 31 12) 31 32 1 2 0, g, tnR 30 r)) (Seg.of (by rw [l2_0] <;> rfl)) ?_
  refine Seg.tr (Seg.iter (fun i => (102, [some (.ref 30), some (.int (nI i))], [], 43, l2 (rzU h 0 31 12) 31 32 1 2 i, g, tnR 30 r)) 8 (fun i hi => ?_)) ?_
  · refine Seg.run [102] 400 ?_
    refine And.intro (fun c => ?_) (fun c => ?_)
    · exact (lim_ge (N := 8) hi (by decide) c).elim
    refine And.intro (in10 hi (by decide)) ?_
    refine And.intro (in10 hi (by decide)) ?_
    exact Seg.of (by rw [cl10 (by omega), l2_s (by decide), nI_succ] <;> rfl)
  · refine Seg.run [130] 400 ?_
    refine And.intro (fun c => ?_) (fun c => ?_)
    · refine Seg.tr (b := (130, [some (.ref 30), some (.int (nI 0))], [], 43, l1 (l2 (rzU h 0 31 12) 31 32 1 2 8) 42 (-1) 0, g, tnR 30 r)) (Seg.of (by rw [l1_0] <;> rfl)) ?_
      refine Seg.tr (Seg.iter (fun i => (130, [some (.ref 30), some (.int (nI i))], [], 43, l1 (l2 (rzU h 0 31 12) 31 32 1 2 8) 42 (-1) i, g, tnR 30 r)) 10 (fun i hi => ?_)) ?_
      · refine Seg.run [130] 400 ?_
        refine And.intro (fun c => ?_) (fun c => ?_)
        · exact (lim_ge (N := 10) hi (by decide) c).elim
        refine And.intro (in10 hi (by decide)) ?_
        exact Seg.of (by rw [cl10 (by omega), l1_s, nI_succ] <;> rfl)
      · refine Seg.run [] 400 ?_
        refine And.intro (fun c => ?_) (fun c => ?_)
        · refine And.intro (fun z => by cases z) ?_
          refine And.intro (fun z => by cases z) ?_
          refine And.intro (fun z => by cases z) ?_
          refine And.intro (fun z => by cases z) ?_
          exact Seg.rf
        · exact (lim_le (N := 10) (Nat.le_refl _) (by decide) c).elim
    · exact (lim_le (N := 8) (Nat.le_refl _) (by decide) c).elim
