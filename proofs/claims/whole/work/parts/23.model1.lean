/-! ===== the reference: looks at its row of numbers ===== -/
theorem nI_ad (a b : Nat) : nI a + nI b = nI (a + b) := by simp [nI]
theorem nI_ml (a b : Nat) : nI a * nI b = nI (a * b) := by simp [nI]
theorem idx6 (p w : Nat) : (20 : Int32) + 6 * nI p + nI w = nI (20 + 6 * p + w) := by
  rw [show (20 : Int32) = nI 20 from rfl, show (6 : Int32) = nI 6 from rfl, nI_ml, nI_ad, nI_ad]
theorem idx3 (p w : Nat) : (80 : Int32) + 3 * nI p + nI w = nI (80 + 3 * p + w) := by
  rw [show (80 : Int32) = nI 80 from rfl, show (3 : Int32) = nI 3 from rfl, nI_ml, nI_ad, nI_ad]
theorem idx12 (p : Nat) : (12 : Int32) + nI p = nI (12 + p) := by rw [show (12 : Int32) = nI 12 from rfl, nI_ad]
theorem idx4 (p : Nat) : (4 : Int32) + nI p = nI (4 + p) := by rw [show (4 : Int32) = nI 4 from rfl, nI_ad]
theorem idx98 (p : Nat) : (98 : Int32) + nI p = nI (98 + p) := by rw [show (98 : Int32) = nI 98 from rfl, nI_ad]
theorem tm_its {h : aH} {p w : Nat} (hp : p < 10) (hw : w < 6) : tm h 64 (3 + w) p = h 64 (20 + 6 * p + w) := by
  rcases (show w = 0 ∨ w = 1 ∨ w = 2 ∨ w = 3 ∨ w = 4 ∨ w = 5 by omega) with rfl | rfl | rfl | rfl | rfl | rfl
  · exact tm_3 hp
  · exact tm_4 hp
  · exact tm_5 hp
  · exact tm_6 hp
  · exact tm_7 hp
  · exact tm_8 hp
theorem tm_nits {h : aH} {p w : Nat} (hp : p < 6) (hw : w < 3) : tm h 64 (9 + w) p = h 64 (80 + 3 * p + w) := by
  rcases (show w = 0 ∨ w = 1 ∨ w = 2 by omega) with rfl | rfl | rfl
  · exact tm_9 hp
  · exact tm_10 hp
  · exact tm_11 hp
set_option maxRecDepth 100000 in
set_option maxHeartbeats 2000000 in
theorem tX6_its (h : aH) (g : aG) (p w : Nat) (hp : p < 10) (hw : w < 6) : MS mX6_its 1 [.ref 63, .int (nI p), .int (nI w)] h g [.int (tm h 64 (3 + w) p)] h g := by
  refine MS.of okX6_its (by decide +kernel) (Nat.le_of_ble_eq_true rfl) (by decide) rfl (by decide) ?_
  refine Seg.run [] 400 ?_
  exact And.intro (by rw [idx6]; exact in10 (by omega) (by decide)) (Seg.ri (by rw [idx6, cl10 (by omega), tm_its hp hw]))
set_option maxRecDepth 100000 in
set_option maxHeartbeats 2000000 in
theorem tX6_needIts (h : aH) (g : aG) (p w : Nat) (hp : p < 6) (hw : w < 3) : MS mX6_needIts 1 [.ref 63, .int (nI p), .int (nI w)] h g [.int (tm h 64 (9 + w) p)] h g := by
  refine MS.of okX6_needIts (by decide +kernel) (Nat.le_of_ble_eq_true rfl) (by decide) rfl (by decide) ?_
  refine Seg.run [] 400 ?_
  exact And.intro (by rw [idx3]; exact in10 (by omega) (by decide)) (Seg.ri (by rw [idx3, cl10 (by omega), tm_nits hp hw]))
set_option maxRecDepth 100000 in
set_option maxHeartbeats 2000000 in
theorem tX6_keptIn (h : aH) (g : aG) (ht : TOk (tm h 64)) (heads : Int32) : MS mX6_keptIn 2 [.ref 63, .int heads] h g [.int (kept (tm h 64) heads)] h g := by
  obtain ⟨hP, eP⟩ := ht.np
  rw [tm_0 (by decide)] at eP
  refine MS.of okX6_keptIn (by decide +kernel) (Nat.le_of_ble_eq_true rfl) (by decide) rfl (by decide) ?_
  refine Seg.run [4] 400 ?_
  refine Seg.tr (Seg.iter (fun i => (4, [some (.ref 63), some (.int heads), some (.int (kpU (tm h 64) heads i)), some (.int (nI i)), none, none, none], [], nW, h, g, ρ)) (nP (tm h 64)) (fun i hi => ?_)) ?_
  · have hp : i < 10 := by omega
    have fin : ∀ x : Int32, x = bI (kpB (tm h 64) heads (kpU (tm h 64) heads i) i = true) → Seg mX6_keptIn 2 (183, [some (.ref 63), some (.int heads), some (.int (kpU (tm h 64) heads i)), some (.int (nI i)), some (.int (bI (hsB heads (tm h 64 4 i) = true))), some (.int (bI (hsB heads (tm h 64 5 i) = true))), some (.int x)], [], nW, h, g, ρ) (4, [some (.ref 63), some (.int heads), some (.int (kpU (tm h 64) heads (i + 1))), some (.int (nI (i + 1))), none, none, none], [], nW, h, g, ρ) := by
      intro x hx
      subst hx
      refine Seg.run [4] 400 ?_
      refine And.intro (fun c => ?_) (fun c => ?_)
      · refine Seg.tr (Seg.fg 4) (Seg.tr (Seg.fg 5) (Seg.tr (Seg.fg 6) ?_))
        exact Seg.of (by rw [kpU, if_neg (bq0 c), nI_succ, Int32.or_zero] <;> rfl)
      · refine Seg.tr (Seg.fg 4) (Seg.tr (Seg.fg 5) (Seg.tr (Seg.fg 6) ?_))
        exact Seg.of (by rw [kpU, if_pos (bq1 c), nI_succ] <;> rfl)
    have and2 : ∀ {k : Int32}, tm h 64 3 i = k → (k = 1 ∨ k = 3) → kpB (tm h 64) heads (kpU (tm h 64) heads i) i = (hsB heads (tm h 64 4 i) && hsB heads (tm h 64 5 i)) := fun e z => by
      unfold kpB; rw [if_pos (by rw [e]; exact z)]
    refine Seg.run [4] 400 ?_
    refine And.intro (in10 (p := 0) (by decide) (by decide)) ?_
    refine And.intro (fun c => ?_) (fun c => ?_)
    · exact absurd (show nI (nP (tm h 64)) ≤ nI i by rw [← eP]; exact c) (nI_ge hi (by omega))
    refine Seg.tr (Seg.cV (show MS mX6_its 1 [.ref 63, .int (nI i), .int 1] h g [.int (tm h 64 4 i)] h g from tX6_its h g i 1 hp (by decide)) mlX6_164 iyX6_its seX6_its oyX6_its rfl (by decide) rfl (by decide) (by decide) rfl rfl rfl rfl (Nat.le_of_ble_eq_true rfl) (Nat.le_of_ble_eq_true rfl)) ?_
    refine Seg.tr (Seg.cS ((tX6_heads heads (tm h 64 4 i)).ms h g) mlX6_174 syX6_heads oyX6_heads rfl (by decide) rfl rfl rfl (Nat.le_of_ble_eq_true rfl) (Nat.le_of_ble_eq_true rfl)) ?_
    refine Seg.run [4] 400 ?_
    refine Seg.tr (Seg.cV (show MS mX6_its 1 [.ref 63, .int (nI i), .int 2] h g [.int (tm h 64 5 i)] h g from tX6_its h g i 2 hp (by decide)) mlX6_164 iyX6_its seX6_its oyX6_its rfl (by decide) rfl (by decide) (by decide) rfl rfl rfl rfl (Nat.le_of_ble_eq_true rfl) (Nat.le_of_ble_eq_true rfl)) ?_
    refine Seg.tr (Seg.cS ((tX6_heads heads (tm h 64 5 i)).ms h g) mlX6_174 syX6_heads oyX6_heads rfl (by decide) rfl rfl rfl (Nat.le_of_ble_eq_true rfl) (Nat.le_of_ble_eq_true rfl)) ?_
    refine Seg.run [4] 400 ?_
    refine Seg.tr (Seg.cV (show MS mX6_its 1 [.ref 63, .int (nI i), .int 0] h g [.int (tm h 64 3 i)] h g from tX6_its h g i 0 hp (by decide)) mlX6_164 iyX6_its seX6_its oyX6_its rfl (by decide) rfl (by decide) (by decide) rfl rfl rfl rfl (Nat.le_of_ble_eq_true rfl) (Nat.le_of_ble_eq_true rfl)) ?_
    refine Seg.run [183] 400 ?_
    refine And.intro (fun k1 => ?_) (fun k1 => ?_)
    · have k1 : tm h 64 3 i = 1 := k1
      have ek := and2 k1 (Or.inl rfl)
      refine And.intro (fun c => ?_) (fun c => ?_)
      · exact fin _ (bI_0 (by rw [ek]; simp [bq0 c]))
      refine And.intro (fun d => ?_) (fun d => ?_)
      · exact fin _ (bI_0 (by rw [ek]; simp [bq0 d]))
      · exact fin _ (bI_1 (by rw [ek]; simp [bq1 c, bq1 d]))
    refine And.intro (fun k2 => ?_) (fun k2 => ?_)
    · have k2 : tm h 64 3 i = 2 := k2
      have ek : kpB (tm h 64) heads (kpU (tm h 64) heads i) i = (hsB heads (tm h 64 4 i) || hsB heads (tm h 64 5 i)) := by unfold kpB; rw [k2]; rfl
      refine And.intro (fun c => ?_) (fun c => ?_)
      · exact fin _ (bI_1 (by rw [ek]; simp [bn1 c]))
      refine And.intro (fun d => ?_) (fun d => ?_)
      · exact fin _ (bI_0 (by rw [ek]; simp [bn0 c, bq0 d]))
      · exact fin _ (bI_1 (by rw [ek]; simp [bq1 d]))
    refine And.intro (fun k3 => ?_) (fun k3 => ?_)
    · have k3 : tm h 64 3 i = 3 := k3
      have ek := and2 k3 (Or.inr rfl)
      refine And.intro (fun c => ?_) (fun c => ?_)
      · exact fin _ (bI_0 (by rw [ek]; simp [bq0 c]))
      refine And.intro (fun d => ?_) (fun d => ?_)
      · exact fin _ (bI_0 (by rw [ek]; simp [bq0 d]))
      · exact fin _ (bI_1 (by rw [ek]; simp [bq1 c, bq1 d]))
    refine And.intro (fun k4 => ?_) (fun k4 => ?_)
    · have k4 : tm h 64 3 i = 4 := k4
      have ek : kpB (tm h 64) heads (kpU (tm h 64) heads i) i = hsB heads (tm h 64 4 i) := by unfold kpB; rw [k4]; rfl
      exact fin _ (by rw [ek])
    refine And.intro (fun k5 => ?_) (fun k5 => ?_)
    · have k5 : tm h 64 3 i = 5 := k5
      have ek : kpB (tm h 64) heads (kpU (tm h 64) heads i) i = (!(hsB heads (tm h 64 4 i)) && !(hsB heads (tm h 64 5 i))) := by unfold kpB; rw [k5]; rfl
      refine And.intro (fun c => ?_) (fun c => ?_)
      · exact fin _ (bI_0 (by rw [ek]; simp [bn1 c]))
      refine And.intro (fun d => ?_) (fun d => ?_)
      · exact fin _ (bI_0 (by rw [ek]; simp [bn1 d]))
      · exact fin _ (bI_1 (by rw [ek]; simp [bn0 c, bn0 d]))
    refine And.intro (fun k6 => ?_) (fun k6 => ?_)
    · have k6 : tm h 64 3 i = 6 := k6
      have ek : kpB (tm h 64) heads (kpU (tm h 64) heads i) i = (hsB heads (tm h 64 4 i) && hsB heads (tm h 64 5 i) && (decide (i = 0) || hsB (kpU (tm h 64) heads i) (nI i - 1))) := by unfold kpB; rw [k6]; rfl
      refine And.intro (fun c => ?_) (fun c => ?_)
      · exact fin _ (bI_0 (by rw [ek]; simp [bq0 c]))
      refine And.intro (fun d => ?_) (fun d => ?_)
      · exact fin _ (bI_0 (by rw [ek]; simp [bq0 d]))
      refine And.intro (fun z => ?_) (fun z => ?_)
      · have z : nI i = 0 := z
        have z0 : i = 0 := (nI_eq (by omega) (by omega)).mp (z.trans nI_0.symm)
        exact fin _ (bI_1 (by rw [ek]; rw [bq1 c, bq1 d]; simp [z0]))
      have z0 : i ≠ 0 := fun y => z (by rw [y]; rfl)
      refine And.intro (fun f => ?_) (fun f => ?_)
      · exact fin _ (bI_0 (by rw [ek]; simp [hsB, show ¬ _ = (1 : Int32) from f, z0]))
      · exact fin _ (bI_1 (by rw [ek]; rw [bq1 c, bq1 d]; simp [hsB, show _ = (1 : Int32) from Decidable.not_not.mp f]))
    have ek : kpB (tm h 64) heads (kpU (tm h 64) heads i) i = hsB heads (tm h 64 4 i) := by
      unfold kpB
      rw [if_neg (fun z => z.elim k1 k3), if_neg (show ¬ tm h 64 3 i = 2 from k2), if_neg (show ¬ tm h 64 3 i = 5 from k5), if_neg (show ¬ tm h 64 3 i = 6 from k6)]
    exact fin _ (by rw [ek])
  · refine Seg.run [] 400 ?_
    refine And.intro (in10 (p := 0) (by decide) (by decide)) ?_
    refine And.intro (fun c => ?_) (fun c => ?_)
    · exact Seg.rf
    · exact absurd (show h 64 0 ≤ nI (nP (tm h 64)) by rw [eP]; exact nI_le (Nat.le_refl _) (by omega)) c

theorem hs1 {s m : Int32} (h : ¬ cmpP .ne ((s >>> (m &&& 31)) &&& 1) 1) : hsB s m = true := decide_eq_true (Decidable.not_not.mp h)
theorem hs0 {s m : Int32} (h : cmpP .ne ((s >>> (m &&& 31)) &&& 1) 1) : ¬ hsB s m = true := fun z => h (of_decide_eq_true z)
set_option maxRecDepth 100000 in
set_option maxHeartbeats 2000000 in
theorem tX6_owesOf (h : aH) (g : aG) (p : Nat) (hp : p < 10) (is : Bool) : MS mX6_owesOf 2 [.ref 63, .int (nI p), .int (bI (is = true))] h g [.int (owe1 (tm h 64) p is)] h g := by
  refine MS.of okX6_owesOf (by decide +kernel) (Nat.le_of_ble_eq_true rfl) (by decide) rfl (by decide) ?_
  refine Seg.run [] 400 ?_
  refine Seg.tr (Seg.cV (show MS mX6_its 1 [.ref 63, .int (nI p), .int 5] h g [.int (tm h 64 8 p)] h g from tX6_its h g p 5 hp (by decide)) mlX6_164 iyX6_its seX6_its oyX6_its rfl (by decide) rfl (by decide) (by decide) rfl rfl rfl rfl (Nat.le_of_ble_eq_true rfl) (Nat.le_of_ble_eq_true rfl)) ?_
  refine Seg.run [] 400 ?_
  refine Seg.tr (Seg.cV (show MS mX6_its 1 [.ref 63, .int (nI p), .int 0] h g [.int (tm h 64 3 p)] h g from tX6_its h g p 0 hp (by decide)) mlX6_164 iyX6_its seX6_its oyX6_its rfl (by decide) rfl (by decide) (by decide) rfl rfl rfl rfl (Nat.le_of_ble_eq_true rfl) (Nat.le_of_ble_eq_true rfl)) ?_
  refine Seg.run [] 400 ?_
  refine And.intro (fun k3 => ?_) (fun k3 => ?_)
  · have k3 : tm h 64 3 p = 3 := k3
    have ek : owe1 (tm h 64) p is = if is then tm h 64 8 p else 1 := by unfold owe1; rw [if_pos k3]
    refine And.intro (fun c => ?_) (fun c => ?_)
    · exact Seg.ri (by rw [ek, if_neg (bq0 c)])
    · exact Seg.ri (by rw [ek, if_pos (bq1 c)])
  refine And.intro (fun k4 => ?_) (fun k4 => ?_)
  · have k4 : tm h 64 3 p = 4 := k4
    have ek : owe1 (tm h 64) p is = if is then tm h 64 8 p / 2 else 0 := by unfold owe1; rw [k4]; rfl
    refine And.intro (fun c => ?_) (fun c => ?_)
    · exact Seg.ri (by rw [ek, if_neg (bq0 c)])
    · exact And.intro (by decide) (Seg.ri (by rw [ek, if_pos (bq1 c)]))
  refine And.intro (fun k5 => ?_) (fun k5 => ?_)
  · have k5 : tm h 64 3 p = 5 := k5
    have ek : owe1 (tm h 64) p is = if is then tm h 64 8 p else 0 := by unfold owe1; rw [k5]; rfl
    refine And.intro (fun c => ?_) (fun c => ?_)
    · exact Seg.ri (by rw [ek, if_neg (bq0 c)])
    · exact Seg.ri (by rw [ek, if_pos (bq1 c)])
  refine And.intro (fun k6 => ?_) (fun k6 => ?_)
  · have k6 : tm h 64 3 p = 6 := k6
    have ek : owe1 (tm h 64) p is = if is then 2 * tm h 64 8 p else 2 := by unfold owe1; rw [k6]; rfl
    refine And.intro (fun c => ?_) (fun c => ?_)
    · exact Seg.ri (by rw [ek, if_neg (bq0 c)])
    · exact Seg.ri (by rw [ek, if_pos (bq1 c)])
  have ek : owe1 (tm h 64) p is = if is then tm h 64 8 p else 0 := by
    unfold owe1
    rw [if_neg (show ¬ tm h 64 3 p = 3 from k3), if_neg (show ¬ tm h 64 3 p = 6 from k6), if_neg (show ¬ tm h 64 3 p = 4 from k4)]
  refine And.intro (fun c => ?_) (fun c => ?_)
  · exact Seg.ri (by rw [ek, if_neg (bq0 c)])
  · exact Seg.ri (by rw [ek, if_pos (bq1 c)])
set_option maxRecDepth 100000 in
set_option maxHeartbeats 2000000 in
theorem tX6_owesBy (h : aH) (g : aG) (ht : TOk (tm h 64)) (set kp : Int32) : MS mX6_owesBy 3 [.ref 63, .int set, .int kp] h g [.int (owed (tm h 64) set kp)] h g := by
  obtain ⟨hP, eP⟩ := ht.np
  rw [tm_0 (by decide)] at eP
  refine MS.of okX6_owesBy (by decide +kernel) (Nat.le_of_ble_eq_true rfl) (by decide) rfl (by decide) ?_
  refine Seg.run [5] 400 ?_
  refine Seg.tr (Seg.iter (fun i => (5, [some (.ref 63), some (.int set), some (.int kp), some (.int (oweU (tm h 64) set kp i)), some (.int (nI i))], [], nW, h, g, ρ)) (nP (tm h 64)) (fun i hi => ?_)) ?_
  · refine Seg.run [5] 400 ?_
    refine And.intro (in10 (p := 0) (by decide) (by decide)) ?_
    refine And.intro (fun c => ?_) (fun c => ?_)
    · exact absurd (show nI (nP (tm h 64)) ≤ nI i by rw [← eP]; exact c) (nI_ge hi (by omega))
    refine And.intro (fun d => ?_) (fun d => ?_)
    · exact Seg.of (by rw [oweU, if_neg (hs0 d), nI_succ, Int32.add_zero] <;> rfl)
    have fin : ∀ x : Int32, x = bI (hsB kp (nI i) = true) → Seg mX6_owesBy 3 (45, [some (.ref 63), some (.int set), some (.int kp), some (.int (oweU (tm h 64) set kp i)), some (.int (nI i))], [.int x, .int (nI i), .ref 63, .int (oweU (tm h 64) set kp i)], nW, h, g, ρ) (5, [some (.ref 63), some (.int set), some (.int kp), some (.int (oweU (tm h 64) set kp (i + 1))), some (.int (nI (i + 1)))], [], nW, h, g, ρ) := by
      intro x hx
      subst hx
      refine Seg.tr (Seg.cV (tX6_owesOf h g i (by omega) (hsB kp (nI i))) mlX6_177 iyX6_owesOf seX6_owesOf oyX6_owesOf rfl (by decide) rfl (by decide) (by decide) rfl rfl rfl rfl (Nat.le_of_ble_eq_true rfl) (Nat.le_of_ble_eq_true rfl)) ?_
      refine Seg.run [5] 400 ?_
      exact Seg.of (by rw [oweU, if_pos (hs1 d), nI_succ] <;> rfl)
    refine And.intro (fun f => ?_) (fun f => ?_)
    · exact fin _ (bI_0 (hs0 f))
    · exact fin _ (bI_1 (hs1 f))
  · refine Seg.run [] 400 ?_
    refine And.intro (in10 (p := 0) (by decide) (by decide)) ?_
    refine And.intro (fun c => ?_) (fun c => ?_)
    · exact Seg.rf
    · exact absurd (show h 64 0 ≤ nI (nP (tm h 64)) by rw [eP]; exact nI_le (Nat.le_refl _) (by omega)) c
set_option maxRecDepth 100000 in
set_option maxHeartbeats 2000000 in
theorem tX6_bringsBy (h : aH) (g : aG) (ht : TOk (tm h 64)) (set thing : Int32) : MS mX6_bringsBy 2 [.ref 63, .int set, .int thing] h g [.int (brg (tm h 64) set thing)] h g := by
  obtain ⟨hP, eP⟩ := ht.np
  rw [tm_0 (by decide)] at eP
  refine MS.of okX6_bringsBy (by decide +kernel) (Nat.le_of_ble_eq_true rfl) (by decide) rfl (by decide) ?_
  refine Seg.run [5] 400 ?_
  refine Seg.tr (Seg.iter (fun i => (5, [some (.ref 63), some (.int set), some (.int thing), some (.int (brgU (tm h 64) set thing i)), some (.int (nI i))], [], nW, h, g, ρ)) (nP (tm h 64)) (fun i hi => ?_)) ?_
  · have hp : i < 10 := by omega
    refine Seg.run [5] 400 ?_
    refine And.intro (in10 (p := 0) (by decide) (by decide)) ?_
    refine And.intro (fun c => ?_) (fun c => ?_)
    · exact absurd (show nI (nP (tm h 64)) ≤ nI i by rw [← eP]; exact c) (nI_ge hi (by omega))
    refine And.intro (fun d => ?_) (fun d => ?_)
    · exact Seg.of (by rw [brgU, if_neg (fun z => hs0 d z.1), nI_succ, Int32.add_zero] <;> rfl)
    refine Seg.tr (Seg.cV (show MS mX6_its 1 [.ref 63, .int (nI i), .int 3] h g [.int (tm h 64 6 i)] h g from tX6_its h g i 3 hp (by decide)) mlX6_164 iyX6_its seX6_its oyX6_its rfl (by decide) rfl (by decide) (by decide) rfl rfl rfl rfl (Nat.le_of_ble_eq_true rfl) (Nat.le_of_ble_eq_true rfl)) ?_
    refine Seg.run [5] 400 ?_
    refine And.intro (fun f => ?_) (fun f => ?_)
    · exact Seg.of (by rw [brgU, if_neg (fun z => f z.2), nI_succ, Int32.add_zero] <;> rfl)
    refine Seg.tr (Seg.cV (show MS mX6_its 1 [.ref 63, .int (nI i), .int 4] h g [.int (tm h 64 7 i)] h g from tX6_its h g i 4 hp (by decide)) mlX6_164 iyX6_its seX6_its oyX6_its rfl (by decide) rfl (by decide) (by decide) rfl rfl rfl rfl (Nat.le_of_ble_eq_true rfl) (Nat.le_of_ble_eq_true rfl)) ?_
    refine Seg.run [5] 400 ?_
    exact Seg.of (by rw [brgU, if_pos ⟨hs1 d, Decidable.not_not.mp f⟩, nI_succ] <;> rfl)
  · refine Seg.run [] 400 ?_
    refine And.intro (in10 (p := 0) (by decide) (by decide)) ?_
    refine And.intro (fun c => ?_) (fun c => ?_)
    · exact Seg.rf
    · exact absurd (show h 64 0 ≤ nI (nP (tm h 64)) by rw [eP]; exact nI_le (Nat.le_refl _) (by omega)) c
set_option maxRecDepth 100000 in
set_option maxHeartbeats 2000000 in
theorem tX6_isMet (h : aH) (g : aG) (ht : TOk (tm h 64)) (k : Nat) (hk : k < 6) (set : Int32) : MS mX6_isMet 3 [.ref 63, .int (nI k), .int set] h g [.int (bI (metB (tm h 64) k set = true))] h g := by
  refine MS.of okX6_isMet (by decide +kernel) (Nat.le_of_ble_eq_true rfl) (by decide) rfl (by decide) ?_
  refine Seg.run [] 400 ?_
  refine Seg.tr (Seg.cV (show MS mX6_needIts 1 [.ref 63, .int (nI k), .int 0] h g [.int (tm h 64 9 k)] h g from tX6_needIts h g k 0 hk (by decide)) mlX6_171 iyX6_needIts seX6_needIts oyX6_needIts rfl (by decide) rfl (by decide) (by decide) rfl rfl rfl rfl (Nat.le_of_ble_eq_true rfl) (Nat.le_of_ble_eq_true rfl)) ?_
  refine Seg.tr (Seg.cV (tX6_bringsBy h g ht set (tm h 64 9 k)) mlX6_181 iyX6_bringsBy seX6_bringsBy oyX6_bringsBy rfl (by decide) rfl (by decide) (by decide) rfl rfl rfl rfl (Nat.le_of_ble_eq_true rfl) (Nat.le_of_ble_eq_true rfl)) ?_
  refine Seg.run [] 400 ?_
  refine Seg.tr (Seg.cV (show MS mX6_needIts 1 [.ref 63, .int (nI k), .int 1] h g [.int (tm h 64 10 k)] h g from tX6_needIts h g k 1 hk (by decide)) mlX6_171 iyX6_needIts seX6_needIts oyX6_needIts rfl (by decide) rfl (by decide) (by decide) rfl rfl rfl rfl (Nat.le_of_ble_eq_true rfl) (Nat.le_of_ble_eq_true rfl)) ?_
  refine Seg.run [] 400 ?_
  refine And.intro (fun c => ?_) (fun c => ?_)
  · exact And.intro (Or.inl rfl) (Seg.ri (bI_0 (fun z => nlt c (of_decide_eq_true z))))
  · exact And.intro (Or.inr rfl) (Seg.ri (bI_1 (decide_eq_true (nle c))))
set_option maxRecDepth 100000 in
set_option maxHeartbeats 2000000 in
theorem tX6_metBy (h : aH) (g : aG) (ht : TOk (tm h 64)) (set : Int32) : MS mX6_metBy 4 [.ref 63, .int set] h g [.int (metI (tm h 64) set)] h g := by
  obtain ⟨hN, eN⟩ := ht.nn
  rw [tm_0 (by decide)] at eN
  refine MS.of okX6_metBy (by decide +kernel) (Nat.le_of_ble_eq_true rfl) (by decide) rfl (by decide) ?_
  refine Seg.run [4] 400 ?_
  refine Seg.tr (Seg.iter (fun i => (4, [some (.ref 63), some (.int set), some (.int (metU (tm h 64) set i)), some (.int (nI i))], [], nW, h, g, ρ)) (nN (tm h 64)) (fun i hi => ?_)) ?_
  · refine Seg.run [4] 400 ?_
    refine And.intro (in10 (p := 1) (by decide) (by decide)) ?_
    refine And.intro (fun c => ?_) (fun c => ?_)
    · exact absurd (show nI (nN (tm h 64)) ≤ nI i by rw [← eN]; exact c) (nI_ge hi (by omega))
    refine Seg.tr (Seg.cV (tX6_isMet h g ht i (by omega) set) mlX6_184 iyX6_isMet seX6_isMet oyX6_isMet rfl (by decide) rfl (by decide) (by decide) rfl rfl rfl rfl (Nat.le_of_ble_eq_true rfl) (Nat.le_of_ble_eq_true rfl)) ?_
    refine Seg.run [4] 400 ?_
    refine And.intro (fun d => ?_) (fun d => ?_)
    · exact Seg.of (by rw [metU, if_neg (bq0 d), nI_succ, Int32.or_zero] <;> rfl)
    · exact Seg.of (by rw [metU, if_pos (bq1 d), nI_succ] <;> rfl)
  · refine Seg.run [] 400 ?_
    refine And.intro (in10 (p := 1) (by decide) (by decide)) ?_
    refine And.intro (fun c => ?_) (fun c => ?_)
    · exact Seg.rf
    · exact absurd (show h 64 1 ≤ nI (nN (tm h 64)) by rw [eN]; exact nI_le (Nat.le_refl _) (by omega)) c
set_option maxRecDepth 100000 in
set_option maxHeartbeats 2000000 in
theorem tX6_draw (h : aH) (g : aG) : MS mX6_draw 1 [.ref 63] h g [.int (jush (dz (h 64 3)) 8)] (up2 h 64 3 (dz (h 64 3))) g := by
  refine MS.of okX6_draw (by decide +kernel) (Nat.le_of_ble_eq_true rfl) (by decide) rfl (by decide) ?_
  refine Seg.run [] 400 ?_
  refine And.intro (in10 (p := 3) (by decide) (by decide)) ?_
  refine And.intro (in10 (p := 3) (by decide) (by decide)) ?_
  refine And.intro (in10 (p := 3) (by decide) (by decide)) ?_
  exact Seg.rf
set_option maxRecDepth 100000 in
set_option maxHeartbeats 2000000 in
theorem tX6_thrown (h : aH) (g : aG) (ht : TOk (tm h 64)) : MS mX6_thrown 2 [.ref 63] h g [.int (tsU (tm h 64) (h 64 3) 8)] (up2 h 64 3 (dzU (h 64 3) 8)) g := by
  refine MS.of okX6_thrown (by decide +kernel) (Nat.le_of_ble_eq_true rfl) (by decide) rfl (by decide) ?_
  refine Seg.run [4] 400 ?_
  refine Seg.tr (b := (4, [some (.ref 63), some (.int (tsU (tm h 64) (h 64 3) 0)), some (.int (nI 0))], [], nW, up2 h 64 3 (dzU (h 64 3) 0), g, ρ)) (Seg.of (by rw [dzU, up2_same] <;> rfl)) ?_
  refine Seg.tr (Seg.iter (fun i => (4, [some (.ref 63), some (.int (tsU (tm h 64) (h 64 3) i)), some (.int (nI i))], [], nW, up2 h 64 3 (dzU (h 64 3) i), g, ρ)) 8 (fun i hi => ?_)) ?_
  · have e1 : tm h 64 1 i = up2 h 64 3 (dzU (h 64 3) (i + 1)) 64 (4 + i) := (tm_1 (h := h) hi).trans (up2_k (by omega)).symm
    have e2 : tm h 64 2 i = up2 h 64 3 (dzU (h 64 3) (i + 1)) 64 (12 + i) := (tm_2 (h := h) hi).trans (up2_k (by omega)).symm
    have ci := cl10 (p := i) (by omega)
    have hb := ht.b0 hi
    have hd := tX6_draw (up2 h 64 3 (dzU (h 64 3) i)) g
    rw [up2_s, up2_up2] at hd
    refine Seg.run [4] 400 ?_
    refine And.intro (fun c => ?_) (fun c => ?_)
    · exact (lim_ge (N := 8) hi (by decide) c).elim
    refine Seg.tr (Seg.cV hd mlX6_188 iyX6_draw seX6_draw oyX6_draw rfl (by decide) rfl (by decide) (by decide) rfl rfl rfl rfl (Nat.le_of_ble_eq_true rfl) (Nat.le_of_ble_eq_true rfl)) ?_
    refine Seg.run [4] 400 ?_
    refine And.intro (by rw [idx12]; exact in10 (by omega) (by decide)) ?_
    rw [idx12, cl10 (by omega), show dz (dzU (h 64 3) i) = dzU (h 64 3) (i + 1) from rfl, ← e2]
    refine And.intro hb.2 ?_
    refine And.intro (by rw [idx4]; exact in10 (by omega) (by decide)) ?_
    rw [idx4, cl10 (by omega), ← e1]
    refine And.intro (fun f => ?_) (fun f => ?_)
    · exact Seg.of (by rw [tsU, if_neg (fun z => nlt z f), nI_succ, Int32.or_zero] <;> rfl)
    · exact Seg.of (by rw [tsU, if_pos (Int32.not_le.mp f), nI_succ] <;> rfl)
  · refine Seg.run [] 400 ?_
    refine And.intro (fun c => ?_) (fun c => ?_)
    · exact Seg.rf
    · exact (lim_le (N := 8) (Nat.le_refl _) (by decide) c).elim
set_option maxRecDepth 100000 in
set_option maxHeartbeats 2000000 in
theorem tX6_weightOf (h : aH) (g : aG) (heads : Int32) : MS mX6_weightOf 2 [.ref 63, .int heads] h g [.int (wg (tm h 64) heads)] h g := by
  refine MS.of okX6_weightOf (by decide +kernel) (Nat.le_of_ble_eq_true rfl) (by decide) rfl (by decide) ?_
  refine Seg.run [4] 400 ?_
  refine Seg.tr (Seg.iter (fun i => (4, [some (.ref 63), some (.int heads), some (.int (wgU (tm h 64) heads i)), some (.int (nI i))], [], nW, h, g, ρ)) 8 (fun i hi => ?_)) ?_
  · have e1 := tm_1 (h := h) hi
    have e2 := tm_2 (h := h) hi
    refine Seg.run [4] 400 ?_
    refine And.intro (fun c => ?_) (fun c => ?_)
    · exact (lim_ge (N := 8) hi (by decide) c).elim
    refine Seg.tr (Seg.cS ((tX6_heads heads (nI i)).ms h g) mlX6_174 syX6_heads oyX6_heads rfl (by decide) rfl rfl rfl (Nat.le_of_ble_eq_true rfl) (Nat.le_of_ble_eq_true rfl)) ?_
    refine Seg.run [4] 400 ?_
    refine And.intro (fun d => ?_) (fun d => ?_)
    · refine And.intro (by rw [idx12]; exact in10 (by omega) (by decide)) ?_
      refine And.intro (by rw [idx4]; exact in10 (by omega) (by decide)) ?_
      rw [idx4, idx12, cl10 (by omega), cl10 (by omega), ← e1, ← e2]
      exact Seg.of (by rw [wgU, if_neg (bq0 d), nI_succ] <;> rfl)
    · refine And.intro (by rw [idx4]; exact in10 (by omega) (by decide)) ?_
      rw [idx4, cl10 (by omega), ← e1]
      exact Seg.of (by rw [wgU, if_pos (bq1 d), nI_succ] <;> rfl)
  · refine Seg.run [] 400 ?_
    refine And.intro (fun c => ?_) (fun c => ?_)
    · exact Seg.rf
    · exact (lim_le (N := 8) (Nat.le_refl _) (by decide) c).elim
