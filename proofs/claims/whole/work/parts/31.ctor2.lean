/-! ===== constructors, on (printed by wip/whole/gen31.py) ===== -/
def x1H (h : aH) : aH := up2 (up2 (up2 (up2 (up2 (tnH 30 (rowZ h 30 0)) 29 2 0) 29 3 0) 29 4 0) 29 5 0) 29 6 0
def x1R (r : Nat → Nat → Option Nat) : Nat → Nat → Option Nat := up2 (up2 (tnR 30 (rowZ r 30 none)) 29 1 (some 30)) 29 0 (some 27)
def x0H (h : aH) : aH := up2 (rowZ (rowZ (rowZ (rowZ (rowZ (rowZ h 44 0) 45 0) 46 0) 47 0) 51 0) 52 0) 43 5 0
def x0G (g : aG) : aG := rowZ (rowZ (rowZ g 48 0) 49 0) 50 0
def x0R (r : Nat → Nat → Option Nat) : Nat → Nat → Option Nat := up2 (up2 (rowZ (up2 (rowZ (up2 (rowZ (up2 (rowZ (up2 (rowZ (up2 (rowZ (up2 (rowZ (up2 (rowZ (up2 (rowZ r 44 none) 43 1 (some 44)) 45 none) 43 2 (some 45)) 46 none) 43 3 (some 46)) 47 none) 43 4 (some 47)) 48 none) 43 6 (some 48)) 49 none) 43 7 (some 49)) 50 none) 43 8 (some 50)) 51 none) 43 9 (some 51)) 52 none) 43 10 (some 52)) 43 0 (some 1)
set_option maxRecDepth 100000 in
set_option maxHeartbeats 4000000 in
theorem tX3_init (h : aH) (g : aG) (r : Nat → Nat → Option Nat) : MM (mX3_init 29) 1 [.ref 27] 28 (h, g, r) [] 29 (up2 (rowZ h 28 0) 27 1 0, g, up2 (rowZ r 28 none) 27 0 (some 28)) := by
  refine MMq (okX3_init 29) (by decide +kernel) (Nat.le_of_ble_eq_true rfl) (by decide) rfl rfl (by decide) (by decide) ?_
  refine Seg.run [] 400 ?_
  iterate 1 (refine And.intro rfl ?_; refine And.intro ⟨rfl, rfl⟩ ?_)
  refine And.intro (fun z => by cases z) ?_
  exact Seg.rf
set_option maxRecDepth 100000 in
set_option maxHeartbeats 4000000 in
theorem tX2_init_54 (h : aH) (g : aG) (r : Nat → Nat → Option Nat) : MM (mX2_init 56) 1 [.ref 54] 55 (h, g, r) [] 56 (up2 (up2 (rowZ h 55 0) 54 1 0) 54 2 0, g, up2 (rowZ r 55 none) 54 0 (some 55)) := by
  refine MMq (okX2_init 56) (by decide +kernel) (Nat.le_of_ble_eq_true rfl) (by decide) rfl rfl (by decide) (by decide) ?_
  refine Seg.run [] 400 ?_
  iterate 1 (refine And.intro rfl ?_; refine And.intro ⟨rfl, rfl⟩ ?_)
  refine And.intro (fun z => by cases z) ?_
  refine And.intro (fun z => by cases z) ?_
  exact Seg.rf
set_option maxRecDepth 100000 in
set_option maxHeartbeats 4000000 in
theorem tX2_init_56 (h : aH) (g : aG) (r : Nat → Nat → Option Nat) : MM (mX2_init 58) 1 [.ref 56] 57 (h, g, r) [] 58 (up2 (up2 (rowZ h 57 0) 56 1 0) 56 2 0, g, up2 (rowZ r 57 none) 56 0 (some 57)) := by
  refine MMq (okX2_init 58) (by decide +kernel) (Nat.le_of_ble_eq_true rfl) (by decide) rfl rfl (by decide) (by decide) ?_
  refine Seg.run [] 400 ?_
  iterate 1 (refine And.intro rfl ?_; refine And.intro ⟨rfl, rfl⟩ ?_)
  refine And.intro (fun z => by cases z) ?_
  refine And.intro (fun z => by cases z) ?_
  exact Seg.rf
set_option maxRecDepth 100000 in
set_option maxHeartbeats 4000000 in
theorem tX2_init_58 (h : aH) (g : aG) (r : Nat → Nat → Option Nat) : MM (mX2_init 60) 1 [.ref 58] 59 (h, g, r) [] 60 (up2 (up2 (rowZ h 59 0) 58 1 0) 58 2 0, g, up2 (rowZ r 59 none) 58 0 (some 59)) := by
  refine MMq (okX2_init 60) (by decide +kernel) (Nat.le_of_ble_eq_true rfl) (by decide) rfl rfl (by decide) (by decide) ?_
  refine Seg.run [] 400 ?_
  iterate 1 (refine And.intro rfl ?_; refine And.intro ⟨rfl, rfl⟩ ?_)
  refine And.intro (fun z => by cases z) ?_
  refine And.intro (fun z => by cases z) ?_
  exact Seg.rf
set_option maxRecDepth 100000 in
set_option maxHeartbeats 4000000 in
theorem tX2_init_60 (h : aH) (g : aG) (r : Nat → Nat → Option Nat) : MM (mX2_init 62) 1 [.ref 60] 61 (h, g, r) [] 62 (up2 (up2 (rowZ h 61 0) 60 1 0) 60 2 0, g, up2 (rowZ r 61 none) 60 0 (some 61)) := by
  refine MMq (okX2_init 62) (by decide +kernel) (Nat.le_of_ble_eq_true rfl) (by decide) rfl rfl (by decide) (by decide) ?_
  refine Seg.run [] 400 ?_
  iterate 1 (refine And.intro rfl ?_; refine And.intro ⟨rfl, rfl⟩ ?_)
  refine And.intro (fun z => by cases z) ?_
  refine And.intro (fun z => by cases z) ?_
  exact Seg.rf
set_option maxRecDepth 100000 in
set_option maxHeartbeats 4000000 in
theorem tX1_init (h : aH) (g : aG) (r : Nat → Nat → Option Nat) : MM (mX1_init 43) 2 [.ref 29, .ref 27] 30 (h, g, r) [] 43 (x1H h, g, x1R r) := by
  refine MMq (okX1_init 43) (by decide +kernel) (Nat.le_of_ble_eq_true rfl) (by decide) rfl rfl (by decide) (by decide) ?_
  refine Seg.run [] 400 ?_
  refine Seg.tr (Seg.callI (tX4_init_30 _ _ _) rfl rfl mlX1_11 iyX4_init rfl (oyX4_init _) rfl (by decide) rfl rfl (Nat.le_of_ble_eq_true rfl) (by decide) (Or.inr (by decide))) ?_
  refine Seg.run [] 400 ?_
  refine And.intro ⟨rfl, rfl⟩ ?_
  refine And.intro ⟨rfl, rfl⟩ ?_
  iterate 5 (refine And.intro (fun z => by cases z) ?_)
  exact Seg.rf
set_option maxRecDepth 100000 in
set_option maxHeartbeats 4000000 in
theorem tX0_init (h : aH) (g : aG) (r : Nat → Nat → Option Nat) : MM (mX0_init 53) 1 [.ref 43, .ref 1] 44 (h, g, r) [] 53 (x0H h, x0G g, x0R r) := by
  refine MMq (okX0_init 53) (by decide +kernel) (Nat.le_of_ble_eq_true rfl) (by decide) rfl rfl (by decide) (by decide) ?_
  refine Seg.run [] 400 ?_
  iterate 9 (refine And.intro rfl ?_; refine And.intro ⟨rfl, rfl⟩ ?_)
  refine And.intro ⟨rfl, rfl⟩ ?_
  iterate 1 (refine And.intro (fun z => by cases z) ?_)
  exact Seg.rf
def h0 : aH := fun _ _ => 0
def g0 : aG := fun _ _ => 0
def r0 : Nat → Nat → Option Nat := fun _ _ => none
def x3H (h : aH) : aH := up2 (rowZ h 28 0) 27 1 0
def x3R (r : Nat → Nat → Option Nat) : Nat → Nat → Option Nat := up2 (rowZ r 28 none) 27 0 (some 28)
def x2H (b : Nat) (h : aH) : aH := up2 (up2 (rowZ h (b + 1) 0) b 1 0) b 2 0
def x2R (b : Nat) (r : Nat → Nat → Option Nat) : Nat → Nat → Option Nat := up2 (rowZ r (b + 1) none) b 0 (some (b + 1))
def x5Ha (h : aH) : aH := x0H (rowZ (x1H (rowZ (x3H (rowZ (up2 (tnH 14 (rowZ (tnH 1 (rowZ h 1 0)) 14 0)) 0 2 0) 27 0)) 29 0)) 43 0)
def x5Ra (r : Nat → Nat → Option Nat) : Nat → Nat → Option Nat := up2 (x0R (rowZ (up2 (x1R (rowZ (up2 (x3R (rowZ (up2 (tnR 14 (rowZ (up2 (tnR 1 (rowZ r 1 none)) 0 0 (some 1)) 14 none)) 0 1 (some 14)) 27 none)) 0 3 (some 27)) 29 none)) 0 4 (some 29)) 43 none)) 0 5 (some 43)
def x5H (h : aH) : aH := rowZ (x2H 60 (rowZ (x2H 58 (rowZ (x2H 56 (rowZ (x2H 54 (rowZ (x5Ha h) 54 0)) 56 0)) 58 0)) 60 0)) 62 0
def x5Rb (r : Nat → Nat → Option Nat) : Nat → Nat → Option Nat := up2 (rowZ (x5Ra r) 53 none) 0 6 (some 53)
def x5Rs (b s : Nat) (r : Nat → Nat → Option Nat) : Nat → Nat → Option Nat := up2 (x2R b (rowZ r b none)) 53 s (some b)
def x5R (r : Nat → Nat → Option Nat) : Nat → Nat → Option Nat := up2 (rowZ (x5Rs 60 3 (x5Rs 58 2 (x5Rs 56 1 (x5Rs 54 0 (x5Rb r))))) 62 none) 0 7 (some 62)
set_option maxRecDepth 100000 in
set_option maxHeartbeats 4000000 in
theorem tX5_init (h : aH) (g : aG) (r : Nat → Nat → Option Nat) : MM (mX5_init 63) 3 [.ref 0] 1 (h, g, r) [] 63 (x5H h, x0G g, x5R r) := by
  refine MMq (okX5_init 63) (by decide +kernel) (Nat.le_of_ble_eq_true rfl) (by decide) rfl rfl (by decide) (by decide) ?_
  refine Seg.run [] 400 ?_
  refine Seg.tr (Seg.callI (tX4_init_1 _ _ _) rfl rfl mlX5_9 iyX4_init rfl (oyX4_init _) rfl (by decide) rfl rfl (Nat.le_of_ble_eq_true rfl) (by decide) (Or.inr (by decide))) ?_
  refine Seg.run [] 400 ?_
  refine And.intro ⟨rfl, rfl⟩ ?_
  refine Seg.tr (Seg.callI (tX4_init_14 _ _ _) rfl rfl mlX5_9 iyX4_init rfl (oyX4_init _) rfl (by decide) rfl rfl (Nat.le_of_ble_eq_true rfl) (by decide) (Or.inr (by decide))) ?_
  refine Seg.run [] 400 ?_
  refine And.intro ⟨rfl, rfl⟩ ?_
  refine And.intro (fun _ => Or.inl rfl) ?_
  refine Seg.tr (Seg.callI (tX3_init _ _ _) rfl rfl mlX5_25 iyX3_init rfl (oyX3_init _) rfl (by decide) rfl rfl (Nat.le_of_ble_eq_true rfl) (by decide) (Or.inr (by decide))) ?_
  refine Seg.run [] 400 ?_
  refine And.intro ⟨rfl, rfl⟩ ?_
  refine Seg.tr (Seg.callI (tX1_init _ _ _) rfl rfl mlX5_32 iyX1_init rfl (oyX1_init _) rfl (by decide) rfl rfl (Nat.le_of_ble_eq_true rfl) (by decide) (Or.inr (by decide))) ?_
  refine Seg.run [] 400 ?_
  refine And.intro ⟨rfl, rfl⟩ ?_
  refine Seg.tr (Seg.callI (tX0_init _ _ _) rfl rfl mlX5_41 iyX0_init rfl (oyX0_init _) rfl (by decide) rfl rfl (Nat.le_of_ble_eq_true rfl) (by decide) (Or.inr (by decide))) ?_
  refine Seg.run [] 400 ?_
  refine And.intro ⟨rfl, rfl⟩ ?_
  refine And.intro rfl ?_
  refine And.intro ⟨rfl, rfl⟩ ?_
  refine And.intro (fun c => absurd (show cmpP .ge (nI 0) (nI 4) from c) (fun z => lim_ge (N := 4) (by decide) (by decide) z)) (fun c => ?_)
  refine Seg.tr (Seg.callI (tX2_init_54 _ _ _) rfl rfl mlX5_54 iyX2_init rfl (oyX2_init _) rfl (by decide) rfl rfl (Nat.le_of_ble_eq_true rfl) (by decide) (Or.inr (by decide))) ?_
  refine Seg.run [] 400 ?_
  refine And.intro (show vp_in (nI 0) 4 from in10 (by decide) (by decide)) ?_
  refine And.intro (fun c => absurd (show cmpP .ge (nI 1) (nI 4) from c) (fun z => lim_ge (N := 4) (by decide) (by decide) z)) (fun c => ?_)
  refine Seg.tr (Seg.callI (tX2_init_56 _ _ _) rfl rfl mlX5_54 iyX2_init rfl (oyX2_init _) rfl (by decide) rfl rfl (Nat.le_of_ble_eq_true rfl) (by decide) (Or.inr (by decide))) ?_
  refine Seg.run [] 400 ?_
  refine And.intro (show vp_in (nI 1) 4 from in10 (by decide) (by decide)) ?_
  refine And.intro (fun c => absurd (show cmpP .ge (nI 2) (nI 4) from c) (fun z => lim_ge (N := 4) (by decide) (by decide) z)) (fun c => ?_)
  refine Seg.tr (Seg.callI (tX2_init_58 _ _ _) rfl rfl mlX5_54 iyX2_init rfl (oyX2_init _) rfl (by decide) rfl rfl (Nat.le_of_ble_eq_true rfl) (by decide) (Or.inr (by decide))) ?_
  refine Seg.run [] 400 ?_
  refine And.intro (show vp_in (nI 2) 4 from in10 (by decide) (by decide)) ?_
  refine And.intro (fun c => absurd (show cmpP .ge (nI 3) (nI 4) from c) (fun z => lim_ge (N := 4) (by decide) (by decide) z)) (fun c => ?_)
  refine Seg.tr (Seg.callI (tX2_init_60 _ _ _) rfl rfl mlX5_54 iyX2_init rfl (oyX2_init _) rfl (by decide) rfl rfl (Nat.le_of_ble_eq_true rfl) (by decide) (Or.inr (by decide))) ?_
  refine Seg.run [] 400 ?_
  refine And.intro (show vp_in (nI 3) 4 from in10 (by decide) (by decide)) ?_
  refine And.intro (fun c => ?_) (fun c => absurd (show ¬ cmpP .ge (nI 4) (nI 4) from c) (fun z => lim_le (N := 4) (by decide) (by decide) z))
  refine And.intro rfl ?_
  refine And.intro ⟨rfl, rfl⟩ ?_
  exact Seg.rf
