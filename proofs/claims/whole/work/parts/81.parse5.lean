/-! ===== parsing: the class reads items and a text; printed by wip/whole/gen81.py ===== -/
def kw (n : Nat) (b : Nat → Int32) (p : Nat) : Nat := if wdP n b p 0 then 0 else if wdP n b p 1 then 1 else if wdP n b p 2 then 2 else if wdP n b p 3 then 3 else if wdP n b p 4 then 4 else if wdP n b p 5 then 5 else if wdP n b p 6 then 6 else 7
theorem kw_le {n : Nat} {b : Nat → Int32} {p : Nat} : kw n b p ≤ 7 := by
  unfold kw
  repeat' split
  all_goals decide
def kwI (n : Nat) (b : Nat → Int32) (p : Nat) : Int32 := if kw n b p = 7 then -1 else nI (kw n b p)
set_option maxRecDepth 100000 in
set_option maxHeartbeats 400000 in
theorem tX1_wordOfKind_0 : MP mX1_wordOfKind 1 [.int 0] [.ref (100 + 0)] := by
  refine MP.of okX1_wordOfKind (by decide +kernel) (Nat.le_of_ble_eq_true rfl) (by decide) rfl rfl (fun n h g q hn => ?_)
  refine Seg.run [] 400 ?_
  refine And.intro (fun _ => ?_) (fun z => absurd rfl z)
  exact Seg.rf
set_option maxRecDepth 100000 in
set_option maxHeartbeats 400000 in
theorem tX1_wordOfKind_1 : MP mX1_wordOfKind 1 [.int 1] [.ref (100 + 1)] := by
  refine MP.of okX1_wordOfKind (by decide +kernel) (Nat.le_of_ble_eq_true rfl) (by decide) rfl rfl (fun n h g q hn => ?_)
  refine Seg.run [] 400 ?_
  refine And.intro (fun z => absurd z (by decide : ¬ (1 : Int32) = 0)) (fun _ => ?_)
  refine And.intro (fun _ => ?_) (fun z => absurd rfl z)
  exact Seg.rf
set_option maxRecDepth 100000 in
set_option maxHeartbeats 400000 in
theorem tX1_wordOfKind_2 : MP mX1_wordOfKind 1 [.int 2] [.ref (100 + 2)] := by
  refine MP.of okX1_wordOfKind (by decide +kernel) (Nat.le_of_ble_eq_true rfl) (by decide) rfl rfl (fun n h g q hn => ?_)
  refine Seg.run [] 400 ?_
  refine And.intro (fun z => absurd z (by decide : ¬ (2 : Int32) = 0)) (fun _ => ?_)
  refine And.intro (fun z => absurd z (by decide : ¬ (2 : Int32) = 1)) (fun _ => ?_)
  refine And.intro (fun _ => ?_) (fun z => absurd rfl z)
  exact Seg.rf
set_option maxRecDepth 100000 in
set_option maxHeartbeats 400000 in
theorem tX1_wordOfKind_3 : MP mX1_wordOfKind 1 [.int 3] [.ref (100 + 3)] := by
  refine MP.of okX1_wordOfKind (by decide +kernel) (Nat.le_of_ble_eq_true rfl) (by decide) rfl rfl (fun n h g q hn => ?_)
  refine Seg.run [] 400 ?_
  refine And.intro (fun z => absurd z (by decide : ¬ (3 : Int32) = 0)) (fun _ => ?_)
  refine And.intro (fun z => absurd z (by decide : ¬ (3 : Int32) = 1)) (fun _ => ?_)
  refine And.intro (fun z => absurd z (by decide : ¬ (3 : Int32) = 2)) (fun _ => ?_)
  refine And.intro (fun _ => ?_) (fun z => absurd rfl z)
  exact Seg.rf
set_option maxRecDepth 100000 in
set_option maxHeartbeats 400000 in
theorem tX1_wordOfKind_4 : MP mX1_wordOfKind 1 [.int 4] [.ref (100 + 4)] := by
  refine MP.of okX1_wordOfKind (by decide +kernel) (Nat.le_of_ble_eq_true rfl) (by decide) rfl rfl (fun n h g q hn => ?_)
  refine Seg.run [] 400 ?_
  refine And.intro (fun z => absurd z (by decide : ¬ (4 : Int32) = 0)) (fun _ => ?_)
  refine And.intro (fun z => absurd z (by decide : ¬ (4 : Int32) = 1)) (fun _ => ?_)
  refine And.intro (fun z => absurd z (by decide : ¬ (4 : Int32) = 2)) (fun _ => ?_)
  refine And.intro (fun z => absurd z (by decide : ¬ (4 : Int32) = 3)) (fun _ => ?_)
  refine And.intro (fun _ => ?_) (fun z => absurd rfl z)
  exact Seg.rf
set_option maxRecDepth 100000 in
set_option maxHeartbeats 400000 in
theorem tX1_wordOfKind_5 : MP mX1_wordOfKind 1 [.int 5] [.ref (100 + 5)] := by
  refine MP.of okX1_wordOfKind (by decide +kernel) (Nat.le_of_ble_eq_true rfl) (by decide) rfl rfl (fun n h g q hn => ?_)
  refine Seg.run [] 400 ?_
  refine And.intro (fun z => absurd z (by decide : ¬ (5 : Int32) = 0)) (fun _ => ?_)
  refine And.intro (fun z => absurd z (by decide : ¬ (5 : Int32) = 1)) (fun _ => ?_)
  refine And.intro (fun z => absurd z (by decide : ¬ (5 : Int32) = 2)) (fun _ => ?_)
  refine And.intro (fun z => absurd z (by decide : ¬ (5 : Int32) = 3)) (fun _ => ?_)
  refine And.intro (fun z => absurd z (by decide : ¬ (5 : Int32) = 4)) (fun _ => ?_)
  refine And.intro (fun _ => ?_) (fun z => absurd rfl z)
  exact Seg.rf
set_option maxRecDepth 100000 in
set_option maxHeartbeats 400000 in
theorem tX1_wordOfKind_6 : MP mX1_wordOfKind 1 [.int 6] [.ref (100 + 6)] := by
  refine MP.of okX1_wordOfKind (by decide +kernel) (Nat.le_of_ble_eq_true rfl) (by decide) rfl rfl (fun n h g q hn => ?_)
  refine Seg.run [] 400 ?_
  refine And.intro (fun z => absurd z (by decide : ¬ (6 : Int32) = 0)) (fun _ => ?_)
  refine And.intro (fun z => absurd z (by decide : ¬ (6 : Int32) = 1)) (fun _ => ?_)
  refine And.intro (fun z => absurd z (by decide : ¬ (6 : Int32) = 2)) (fun _ => ?_)
  refine And.intro (fun z => absurd z (by decide : ¬ (6 : Int32) = 3)) (fun _ => ?_)
  refine And.intro (fun z => absurd z (by decide : ¬ (6 : Int32) = 4)) (fun _ => ?_)
  refine And.intro (fun z => absurd z (by decide : ¬ (6 : Int32) = 5)) (fun _ => ?_)
  exact Seg.rf
set_option maxRecDepth 100000 in
set_option maxHeartbeats 400000 in
theorem tX1_kindOfWord {h : aH} {g : aG} {n : Nat} {b : Nat → Int32} {p : Nat} (hr : RCx h n b p) : MS mX1_kindOfWord 6 [.ref 29] h g [.int (kwI n b p)] h g := by
  have s7 : (∀ i, i < 7 → ¬ wdP n b p i) → Seg mX1_kindOfWord 6 (2, [some (.ref 29), some (.int 7)], [], nW, h, g, ρ) (aRET, [], [.int (kwI n b p)], nW, h, g, ρ) := by
    intro c
    refine Seg.run [] 400 ?_
    refine And.intro (fun _ => ?_) (fun z => absurd (show (7 : Int32) ≤ 7 by decide) z)
    exact Seg.ri (by rw [kwI, kw, if_neg (c 0 (by decide)), if_neg (c 1 (by decide)), if_neg (c 2 (by decide)), if_neg (c 3 (by decide)), if_neg (c 4 (by decide)), if_neg (c 5 (by decide)), if_neg (c 6 (by decide))] <;> rfl)
  have s6 : (∀ i, i < 6 → ¬ wdP n b p i) → Seg mX1_kindOfWord 6 (2, [some (.ref 29), some (.int 6)], [], nW, h, g, ρ) (aRET, [], [.int (kwI n b p)], nW, h, g, ρ) := by
    intro c
    refine Seg.run [] 400 ?_
    refine And.intro (fun z => absurd z (by decide : ¬ (7 : Int32) ≤ 6)) (fun _ => ?_)
    refine Seg.tr (Seg.cS (tX1_wordOfKind_6.ms h g) mlX1_77 syX1_wordOfKind oyX1_wordOfKind rfl (by decide) rfl rfl rfl (Nat.le_of_ble_eq_true rfl) (Nat.le_of_ble_eq_true rfl)) ?_
    by_cases w : wdP n b p 6
    · refine Seg.tr (Seg.cV (tX1_isWord_6 (g := g) hr 1 (Or.inl ⟨rfl, w⟩)) mlX1_81 iyX1_isWord seX1_isWord oyX1_isWord rfl (by decide) rfl (by decide) (by decide) rfl rfl rfl rfl (Nat.le_of_ble_eq_true rfl) (Nat.le_of_ble_eq_true rfl)) ?_
      refine Seg.run [2] 400 ?_
      refine And.intro (fun z => absurd z (by decide : ¬ (1 : Int32) = 0)) (fun _ => ?_)
      exact Seg.ri (by rw [kwI, kw, if_neg (c 0 (by decide)), if_neg (c 1 (by decide)), if_neg (c 2 (by decide)), if_neg (c 3 (by decide)), if_neg (c 4 (by decide)), if_neg (c 5 (by decide)), if_pos w] <;> rfl)
    · refine Seg.tr (Seg.cV (tX1_isWord_6 (g := g) hr 0 (Or.inr ⟨rfl, w⟩)) mlX1_81 iyX1_isWord seX1_isWord oyX1_isWord rfl (by decide) rfl (by decide) (by decide) rfl rfl rfl rfl (Nat.le_of_ble_eq_true rfl) (Nat.le_of_ble_eq_true rfl)) ?_
      refine Seg.run [2] 400 ?_
      refine And.intro (fun _ => ?_) (fun z => absurd rfl z)
      exact s7 (fun i hi => if y : i = 6 then by rw [y]; exact w else c i (by omega))
  have s5 : (∀ i, i < 5 → ¬ wdP n b p i) → Seg mX1_kindOfWord 6 (2, [some (.ref 29), some (.int 5)], [], nW, h, g, ρ) (aRET, [], [.int (kwI n b p)], nW, h, g, ρ) := by
    intro c
    refine Seg.run [] 400 ?_
    refine And.intro (fun z => absurd z (by decide : ¬ (7 : Int32) ≤ 5)) (fun _ => ?_)
    refine Seg.tr (Seg.cS (tX1_wordOfKind_5.ms h g) mlX1_77 syX1_wordOfKind oyX1_wordOfKind rfl (by decide) rfl rfl rfl (Nat.le_of_ble_eq_true rfl) (Nat.le_of_ble_eq_true rfl)) ?_
    by_cases w : wdP n b p 5
    · refine Seg.tr (Seg.cV (tX1_isWord_5 (g := g) hr 1 (Or.inl ⟨rfl, w⟩)) mlX1_81 iyX1_isWord seX1_isWord oyX1_isWord rfl (by decide) rfl (by decide) (by decide) rfl rfl rfl rfl (Nat.le_of_ble_eq_true rfl) (Nat.le_of_ble_eq_true rfl)) ?_
      refine Seg.run [2] 400 ?_
      refine And.intro (fun z => absurd z (by decide : ¬ (1 : Int32) = 0)) (fun _ => ?_)
      exact Seg.ri (by rw [kwI, kw, if_neg (c 0 (by decide)), if_neg (c 1 (by decide)), if_neg (c 2 (by decide)), if_neg (c 3 (by decide)), if_neg (c 4 (by decide)), if_pos w] <;> rfl)
    · refine Seg.tr (Seg.cV (tX1_isWord_5 (g := g) hr 0 (Or.inr ⟨rfl, w⟩)) mlX1_81 iyX1_isWord seX1_isWord oyX1_isWord rfl (by decide) rfl (by decide) (by decide) rfl rfl rfl rfl (Nat.le_of_ble_eq_true rfl) (Nat.le_of_ble_eq_true rfl)) ?_
      refine Seg.run [2] 400 ?_
      refine And.intro (fun _ => ?_) (fun z => absurd rfl z)
      exact s6 (fun i hi => if y : i = 5 then by rw [y]; exact w else c i (by omega))
  have s4 : (∀ i, i < 4 → ¬ wdP n b p i) → Seg mX1_kindOfWord 6 (2, [some (.ref 29), some (.int 4)], [], nW, h, g, ρ) (aRET, [], [.int (kwI n b p)], nW, h, g, ρ) := by
    intro c
    refine Seg.run [] 400 ?_
    refine And.intro (fun z => absurd z (by decide : ¬ (7 : Int32) ≤ 4)) (fun _ => ?_)
    refine Seg.tr (Seg.cS (tX1_wordOfKind_4.ms h g) mlX1_77 syX1_wordOfKind oyX1_wordOfKind rfl (by decide) rfl rfl rfl (Nat.le_of_ble_eq_true rfl) (Nat.le_of_ble_eq_true rfl)) ?_
    by_cases w : wdP n b p 4
    · refine Seg.tr (Seg.cV (tX1_isWord_4 (g := g) hr 1 (Or.inl ⟨rfl, w⟩)) mlX1_81 iyX1_isWord seX1_isWord oyX1_isWord rfl (by decide) rfl (by decide) (by decide) rfl rfl rfl rfl (Nat.le_of_ble_eq_true rfl) (Nat.le_of_ble_eq_true rfl)) ?_
      refine Seg.run [2] 400 ?_
      refine And.intro (fun z => absurd z (by decide : ¬ (1 : Int32) = 0)) (fun _ => ?_)
      exact Seg.ri (by rw [kwI, kw, if_neg (c 0 (by decide)), if_neg (c 1 (by decide)), if_neg (c 2 (by decide)), if_neg (c 3 (by decide)), if_pos w] <;> rfl)
    · refine Seg.tr (Seg.cV (tX1_isWord_4 (g := g) hr 0 (Or.inr ⟨rfl, w⟩)) mlX1_81 iyX1_isWord seX1_isWord oyX1_isWord rfl (by decide) rfl (by decide) (by decide) rfl rfl rfl rfl (Nat.le_of_ble_eq_true rfl) (Nat.le_of_ble_eq_true rfl)) ?_
      refine Seg.run [2] 400 ?_
      refine And.intro (fun _ => ?_) (fun z => absurd rfl z)
      exact s5 (fun i hi => if y : i = 4 then by rw [y]; exact w else c i (by omega))
  have s3 : (∀ i, i < 3 → ¬ wdP n b p i) → Seg mX1_kindOfWord 6 (2, [some (.ref 29), some (.int 3)], [], nW, h, g, ρ) (aRET, [], [.int (kwI n b p)], nW, h, g, ρ) := by
    intro c
    refine Seg.run [] 400 ?_
    refine And.intro (fun z => absurd z (by decide : ¬ (7 : Int32) ≤ 3)) (fun _ => ?_)
    refine Seg.tr (Seg.cS (tX1_wordOfKind_3.ms h g) mlX1_77 syX1_wordOfKind oyX1_wordOfKind rfl (by decide) rfl rfl rfl (Nat.le_of_ble_eq_true rfl) (Nat.le_of_ble_eq_true rfl)) ?_
    by_cases w : wdP n b p 3
    · refine Seg.tr (Seg.cV (tX1_isWord_3 (g := g) hr 1 (Or.inl ⟨rfl, w⟩)) mlX1_81 iyX1_isWord seX1_isWord oyX1_isWord rfl (by decide) rfl (by decide) (by decide) rfl rfl rfl rfl (Nat.le_of_ble_eq_true rfl) (Nat.le_of_ble_eq_true rfl)) ?_
      refine Seg.run [2] 400 ?_
      refine And.intro (fun z => absurd z (by decide : ¬ (1 : Int32) = 0)) (fun _ => ?_)
      exact Seg.ri (by rw [kwI, kw, if_neg (c 0 (by decide)), if_neg (c 1 (by decide)), if_neg (c 2 (by decide)), if_pos w] <;> rfl)
    · refine Seg.tr (Seg.cV (tX1_isWord_3 (g := g) hr 0 (Or.inr ⟨rfl, w⟩)) mlX1_81 iyX1_isWord seX1_isWord oyX1_isWord rfl (by decide) rfl (by decide) (by decide) rfl rfl rfl rfl (Nat.le_of_ble_eq_true rfl) (Nat.le_of_ble_eq_true rfl)) ?_
      refine Seg.run [2] 400 ?_
      refine And.intro (fun _ => ?_) (fun z => absurd rfl z)
      exact s4 (fun i hi => if y : i = 3 then by rw [y]; exact w else c i (by omega))
  have s2 : (∀ i, i < 2 → ¬ wdP n b p i) → Seg mX1_kindOfWord 6 (2, [some (.ref 29), some (.int 2)], [], nW, h, g, ρ) (aRET, [], [.int (kwI n b p)], nW, h, g, ρ) := by
    intro c
    refine Seg.run [] 400 ?_
    refine And.intro (fun z => absurd z (by decide : ¬ (7 : Int32) ≤ 2)) (fun _ => ?_)
    refine Seg.tr (Seg.cS (tX1_wordOfKind_2.ms h g) mlX1_77 syX1_wordOfKind oyX1_wordOfKind rfl (by decide) rfl rfl rfl (Nat.le_of_ble_eq_true rfl) (Nat.le_of_ble_eq_true rfl)) ?_
    by_cases w : wdP n b p 2
    · refine Seg.tr (Seg.cV (tX1_isWord_2 (g := g) hr 1 (Or.inl ⟨rfl, w⟩)) mlX1_81 iyX1_isWord seX1_isWord oyX1_isWord rfl (by decide) rfl (by decide) (by decide) rfl rfl rfl rfl (Nat.le_of_ble_eq_true rfl) (Nat.le_of_ble_eq_true rfl)) ?_
      refine Seg.run [2] 400 ?_
      refine And.intro (fun z => absurd z (by decide : ¬ (1 : Int32) = 0)) (fun _ => ?_)
      exact Seg.ri (by rw [kwI, kw, if_neg (c 0 (by decide)), if_neg (c 1 (by decide)), if_pos w] <;> rfl)
    · refine Seg.tr (Seg.cV (tX1_isWord_2 (g := g) hr 0 (Or.inr ⟨rfl, w⟩)) mlX1_81 iyX1_isWord seX1_isWord oyX1_isWord rfl (by decide) rfl (by decide) (by decide) rfl rfl rfl rfl (Nat.le_of_ble_eq_true rfl) (Nat.le_of_ble_eq_true rfl)) ?_
      refine Seg.run [2] 400 ?_
      refine And.intro (fun _ => ?_) (fun z => absurd rfl z)
      exact s3 (fun i hi => if y : i = 2 then by rw [y]; exact w else c i (by omega))
  have s1 : (∀ i, i < 1 → ¬ wdP n b p i) → Seg mX1_kindOfWord 6 (2, [some (.ref 29), some (.int 1)], [], nW, h, g, ρ) (aRET, [], [.int (kwI n b p)], nW, h, g, ρ) := by
    intro c
    refine Seg.run [] 400 ?_
    refine And.intro (fun z => absurd z (by decide : ¬ (7 : Int32) ≤ 1)) (fun _ => ?_)
    refine Seg.tr (Seg.cS (tX1_wordOfKind_1.ms h g) mlX1_77 syX1_wordOfKind oyX1_wordOfKind rfl (by decide) rfl rfl rfl (Nat.le_of_ble_eq_true rfl) (Nat.le_of_ble_eq_true rfl)) ?_
    by_cases w : wdP n b p 1
    · refine Seg.tr (Seg.cV (tX1_isWord_1 (g := g) hr 1 (Or.inl ⟨rfl, w⟩)) mlX1_81 iyX1_isWord seX1_isWord oyX1_isWord rfl (by decide) rfl (by decide) (by decide) rfl rfl rfl rfl (Nat.le_of_ble_eq_true rfl) (Nat.le_of_ble_eq_true rfl)) ?_
      refine Seg.run [2] 400 ?_
      refine And.intro (fun z => absurd z (by decide : ¬ (1 : Int32) = 0)) (fun _ => ?_)
      exact Seg.ri (by rw [kwI, kw, if_neg (c 0 (by decide)), if_pos w] <;> rfl)
    · refine Seg.tr (Seg.cV (tX1_isWord_1 (g := g) hr 0 (Or.inr ⟨rfl, w⟩)) mlX1_81 iyX1_isWord seX1_isWord oyX1_isWord rfl (by decide) rfl (by decide) (by decide) rfl rfl rfl rfl (Nat.le_of_ble_eq_true rfl) (Nat.le_of_ble_eq_true rfl)) ?_
      refine Seg.run [2] 400 ?_
      refine And.intro (fun _ => ?_) (fun z => absurd rfl z)
      exact s2 (fun i hi => if y : i = 1 then by rw [y]; exact w else c i (by omega))
  have s0 : (∀ i, i < 0 → ¬ wdP n b p i) → Seg mX1_kindOfWord 6 (2, [some (.ref 29), some (.int 0)], [], nW, h, g, ρ) (aRET, [], [.int (kwI n b p)], nW, h, g, ρ) := by
    intro c
    refine Seg.run [] 400 ?_
    refine And.intro (fun z => absurd z (by decide : ¬ (7 : Int32) ≤ 0)) (fun _ => ?_)
    refine Seg.tr (Seg.cS (tX1_wordOfKind_0.ms h g) mlX1_77 syX1_wordOfKind oyX1_wordOfKind rfl (by decide) rfl rfl rfl (Nat.le_of_ble_eq_true rfl) (Nat.le_of_ble_eq_true rfl)) ?_
    by_cases w : wdP n b p 0
    · refine Seg.tr (Seg.cV (tX1_isWord_0 (g := g) hr 1 (Or.inl ⟨rfl, w⟩)) mlX1_81 iyX1_isWord seX1_isWord oyX1_isWord rfl (by decide) rfl (by decide) (by decide) rfl rfl rfl rfl (Nat.le_of_ble_eq_true rfl) (Nat.le_of_ble_eq_true rfl)) ?_
      refine Seg.run [2] 400 ?_
      refine And.intro (fun z => absurd z (by decide : ¬ (1 : Int32) = 0)) (fun _ => ?_)
      exact Seg.ri (by rw [kwI, kw, if_pos w] <;> rfl)
    · refine Seg.tr (Seg.cV (tX1_isWord_0 (g := g) hr 0 (Or.inr ⟨rfl, w⟩)) mlX1_81 iyX1_isWord seX1_isWord oyX1_isWord rfl (by decide) rfl (by decide) (by decide) rfl rfl rfl rfl (Nat.le_of_ble_eq_true rfl) (Nat.le_of_ble_eq_true rfl)) ?_
      refine Seg.run [2] 400 ?_
      refine And.intro (fun _ => ?_) (fun z => absurd rfl z)
      exact s1 (fun i hi => if y : i = 0 then by rw [y]; exact w else c i (by omega))
  refine MS.of okX1_kindOfWord (by decide +kernel) (Nat.le_of_ble_eq_true rfl) (by decide) rfl (by decide) ?_
  refine Seg.run [2] 400 ?_
  exact s0 (fun i hi => absurd hi (Nat.not_lt_zero i))
def pItem (n : Nat) (b : Nat → Int32) (p : Nat) (T : aH) : rP := if wdP n b p 7 then pCoin n b (tE n b p) T else if wdP n b p 8 then (if nN T < 6 then pNeed n b (tE n b p) T else .inl p) else if kw n b p = 7 then .inl p else (if nP T < 10 then pPro n b (tE n b p) T (kw n b p) else .inl p)
/-- an answer of an item's method given on -/
theorem qC_on {n : Nat} {b : Nat → Int32} {res : rP} {h : aH} {r : List Value} {h' : aH} {g' : aG} (q : qC n b res h r h' g') : ∃ x, (x = 0 ∨ x = 1) ∧ r = [.int x] ∧ qC n b res h [.int x] h' g' := by
  rcases q with ⟨q, T', e, rfl, z⟩ | ⟨q, e, rfl, z⟩
  · exact ⟨1, Or.inr rfl, rfl, Or.inl ⟨q, T', e, rfl, z⟩⟩
  · exact ⟨0, Or.inl rfl, rfl, Or.inr ⟨q, e, rfl, z⟩⟩
set_option maxRecDepth 100000 in
set_option maxHeartbeats 400000 in
theorem tX1_readItem {h : aH} {g : aG} {n : Nat} {b : Nat → Int32} (hb : BT n b) {p : Nat} (hp : p ≤ n) (hr : RCx h n b p) (ht : TOk (tw h 30)) : MX mX1_readItem 8 [.ref 29] h g (qC n b (pItem n b p (tw h 30)) h) := by
  refine MX.of okX1_readItem (by decide +kernel) (Nat.le_of_ble_eq_true rfl) (by decide) rfl (by decide) ?_
  refine SegP.run [14] 400 ?_
  by_cases w : wdP n b p 7
  · rw [pItem, if_pos w]
    refine SegP.tr (Seg.cV (tX1_isWord_7 (g := g) hr 1 (Or.inl ⟨rfl, w⟩)) mlX1_81 iyX1_isWord seX1_isWord oyX1_isWord rfl (by decide) rfl (by decide) (by decide) rfl rfl rfl rfl (Nat.le_of_ble_eq_true rfl) (Nat.le_of_ble_eq_true rfl)) ?_
    refine SegP.run [14] 400 ?_
    refine And.intro (fun z => absurd z (by decide : ¬ (1 : Int32) = 0)) (fun _ => ?_)
    refine SegP.cV (tX1_readCoin (g := g) hb hp hr) mlX1_101 iyX1_readCoin seX1_readCoin oyX1_readCoin rfl (by decide) rfl (by decide) (by decide) rfl rfl rfl rfl (Nat.le_of_ble_eq_true rfl) ?_
    intro r h' g' q
    obtain ⟨x, hx, rfl, q⟩ := qC_on q
    refine SegP.run [] 400 ?_
    exact And.intro hx (SegP.ret q)
  rw [pItem, if_neg w]
  refine SegP.tr (Seg.cV (tX1_isWord_7 (g := g) hr 0 (Or.inr ⟨rfl, w⟩)) mlX1_81 iyX1_isWord seX1_isWord oyX1_isWord rfl (by decide) rfl (by decide) (by decide) rfl rfl rfl rfl (Nat.le_of_ble_eq_true rfl) (Nat.le_of_ble_eq_true rfl)) ?_
  refine SegP.run [14] 400 ?_
  refine And.intro (fun _ => ?_) (fun z => absurd rfl z)
  refine SegP.run [28] 400 ?_
  by_cases w2 : wdP n b p 8
  · rw [if_pos w2]
    refine SegP.tr (Seg.cV (tX1_isWord_8 (g := g) hr 1 (Or.inl ⟨rfl, w2⟩)) mlX1_81 iyX1_isWord seX1_isWord oyX1_isWord rfl (by decide) rfl (by decide) (by decide) rfl rfl rfl rfl (Nat.le_of_ble_eq_true rfl) (Nat.le_of_ble_eq_true rfl)) ?_
    refine SegP.run [28] 400 ?_
    refine And.intro (fun z => absurd z (by decide : ¬ (1 : Int32) = 0)) (fun _ => ?_)
    refine SegP.cV (tX1_readNeed (g := g) hb hp hr ht) mlX1_106 iyX1_readNeed seX1_readNeed oyX1_readNeed rfl (by decide) rfl (by decide) (by decide) rfl rfl rfl rfl (Nat.le_of_ble_eq_true rfl) ?_
    intro r h' g' q
    obtain ⟨x, hx, rfl, q⟩ := qC_on q
    refine SegP.run [] 400 ?_
    exact And.intro hx (SegP.ret q)
  rw [if_neg w2]
  refine SegP.tr (Seg.cV (tX1_isWord_8 (g := g) hr 0 (Or.inr ⟨rfl, w2⟩)) mlX1_81 iyX1_isWord seX1_isWord oyX1_isWord rfl (by decide) rfl (by decide) (by decide) rfl rfl rfl rfl (Nat.le_of_ble_eq_true rfl) (Nat.le_of_ble_eq_true rfl)) ?_
  refine SegP.run [28] 400 ?_
  refine And.intro (fun _ => ?_) (fun z => absurd rfl z)
  have kl := kw_le (n := n) (b := b) (p := p)
  refine SegP.run [] 400 ?_
  refine SegP.tr (Seg.cV (tX1_kindOfWord (g := g) hr) mlX1_109 iyX1_kindOfWord seX1_kindOfWord oyX1_kindOfWord rfl (by decide) rfl (by decide) (by decide) rfl rfl rfl rfl (Nat.le_of_ble_eq_true rfl) (Nat.le_of_ble_eq_true rfl)) ?_
  refine SegP.run [44] 400 ?_
  by_cases w3 : kw n b p = 7
  · have e1 : kwI n b p = -1 := by rw [kwI, if_pos w3]
    rw [if_pos w3, e1]
    refine And.intro (fun z => absurd z (by decide : ¬ (0 : Int32) ≤ -1)) (fun _ => ?_)
    refine SegP.tr (Seg.cV (tX1_faultHere h g) mlX1_112 iyX1_faultHere seX1_faultHere oyX1_faultHere rfl (by decide) rfl (by decide) (by decide) rfl rfl rfl rfl (Nat.le_of_ble_eq_true rfl) (Nat.le_of_ble_eq_true rfl)) ?_
    refine SegP.run [] 400 ?_
    exact And.intro (Or.inl rfl) (SegP.ret (Or.inr ⟨p, rfl, rfl, by rw [up2_s]; exact hr.2.2.1, fun a ha _ => up2_row ha⟩))
  · have e1 : kwI n b p = nI (kw n b p) := by rw [kwI, if_neg w3]
    rw [if_neg w3, e1]
    refine And.intro (fun _ => ?_) (fun z => absurd (show (0 : Int32) ≤ nI (kw n b p) from nI_pos' (by omega)) z)
    refine SegP.run [] 400 ?_
    refine SegP.cV (tX1_readPromise (g := g) hb hp hr ht (kw n b p) (by omega)) mlX1_115 iyX1_readPromise seX1_readPromise oyX1_readPromise rfl (by decide) rfl (by decide) (by decide) rfl rfl rfl rfl (Nat.le_of_ble_eq_true rfl) ?_
    intro r h' g' q
    obtain ⟨x, hx, rfl, q⟩ := qC_on q
    refine SegP.run [] 400 ?_
    exact And.intro hx (SegP.ret q)
