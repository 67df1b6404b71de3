/-! ===== the class's town: looks ===== -/
theorem bq0 {P : Prop} [Decidable P] (h : cmpP .eq (bI P) 0) : ¬ P := bI_eq0.mp h
theorem bq1 {P : Prop} [Decidable P] (h : ¬ cmpP .eq (bI P) 0) : P := Decidable.not_not.mp (fun z => h (bI_eq0.mpr z))
theorem bn1 {P : Prop} [Decidable P] (h : cmpP .ne (bI P) 0) : P := bI_ne0.mp h
theorem bn0 {P : Prop} [Decidable P] (h : ¬ cmpP .ne (bI P) 0) : ¬ P := fun z => h (bI_ne0.mpr z)
set_option maxRecDepth 100000 in
set_option maxHeartbeats 2000000 in
theorem tX4_isKept (h : aH) (g : aG) (p : Nat) (hp : p < 10) (heads set : Int32) : MS mX4_isKept 2 [.ref 1, .int (nI p), .int heads, .int set] h g [.int (bI (kpB (tw h 1) heads set p = true))] h g := by
  have e4 := tw_4 (h := h) hp
  have e5 := tw_5 (h := h) hp
  have e3 := tw_3 (h := h) hp
  have cp := cl10 (p := p) (by omega)
  refine MS.of okX4_isKept (by decide +kernel) (Nat.le_of_ble_eq_true rfl) (by decide) rfl (by decide) ?_
  refine Seg.run [] 400 ?_
  refine And.intro (in10 hp (by decide)) ?_
  rw [cp, ← e4]
  refine Seg.tr (Seg.cN ((tX5_has heads (tw h 1 4 p)).ms h g) (by decide +kernel) syX5_has oyX5_has rfl (by decide) rfl rfl rfl (Nat.le_of_ble_eq_true rfl) (Nat.le_of_ble_eq_true rfl)) ?_
  refine Seg.run [] 400 ?_
  refine And.intro (in10 hp (by decide)) ?_
  rw [cp, ← e5]
  refine Seg.tr (Seg.cN ((tX5_has heads (tw h 1 5 p)).ms h g) (by decide +kernel) syX5_has oyX5_has rfl (by decide) rfl rfl rfl (Nat.le_of_ble_eq_true rfl) (Nat.le_of_ble_eq_true rfl)) ?_
  refine Seg.run [] 400 ?_
  refine And.intro (in10 hp (by decide)) ?_
  rw [cp, ← e3]
  have and2 : ∀ {k : Int32}, tw h 1 3 p = k → (k = 1 ∨ k = 3) → kpB (tw h 1) heads set p = (hsB heads (tw h 1 4 p) && hsB heads (tw h 1 5 p)) := fun e z => by
    unfold kpB; rw [if_pos (by rw [e]; exact z)]
  refine And.intro (fun k1 => ?_) (fun k1 => ?_)
  · have k1 : tw h 1 3 p = 1 := k1
    have ek := and2 k1 (Or.inl rfl)
    refine And.intro (fun c => ?_) (fun c => ?_)
    · exact And.intro (Or.inl rfl) (Seg.ri (bI_0 (by rw [ek]; simp [bq0 c])))
    refine And.intro (fun d => ?_) (fun d => ?_)
    · exact And.intro (Or.inl rfl) (Seg.ri (bI_0 (by rw [ek]; simp [bq0 d])))
    · exact And.intro (Or.inr rfl) (Seg.ri (bI_1 (by rw [ek]; simp [bq1 c, bq1 d])))
  refine And.intro (fun k2 => ?_) (fun k2 => ?_)
  · have k2 : tw h 1 3 p = 2 := k2
    have ek : kpB (tw h 1) heads set p = (hsB heads (tw h 1 4 p) || hsB heads (tw h 1 5 p)) := by unfold kpB; rw [k2]; rfl
    refine And.intro (fun c => ?_) (fun c => ?_)
    · exact And.intro (Or.inr rfl) (Seg.ri (bI_1 (by rw [ek]; simp [bn1 c])))
    refine And.intro (fun d => ?_) (fun d => ?_)
    · exact And.intro (Or.inl rfl) (Seg.ri (bI_0 (by rw [ek]; simp [bn0 c, bq0 d])))
    · exact And.intro (Or.inr rfl) (Seg.ri (bI_1 (by rw [ek]; simp [bq1 d])))
  refine And.intro (fun k3 => ?_) (fun k3 => ?_)
  · have k3 : tw h 1 3 p = 3 := k3
    have ek := and2 k3 (Or.inr rfl)
    refine And.intro (fun c => ?_) (fun c => ?_)
    · exact And.intro (Or.inl rfl) (Seg.ri (bI_0 (by rw [ek]; simp [bq0 c])))
    refine And.intro (fun d => ?_) (fun d => ?_)
    · exact And.intro (Or.inl rfl) (Seg.ri (bI_0 (by rw [ek]; simp [bq0 d])))
    · exact And.intro (Or.inr rfl) (Seg.ri (bI_1 (by rw [ek]; simp [bq1 c, bq1 d])))
  refine And.intro (fun k4 => ?_) (fun k4 => ?_)
  · have k4 : tw h 1 3 p = 4 := k4
    have ek : kpB (tw h 1) heads set p = hsB heads (tw h 1 4 p) := by unfold kpB; rw [k4]; rfl
    exact And.intro (bI_01 _) (Seg.ri (by rw [ek]))
  refine And.intro (fun k5 => ?_) (fun k5 => ?_)
  · have k5 : tw h 1 3 p = 5 := k5
    have ek : kpB (tw h 1) heads set p = (!(hsB heads (tw h 1 4 p)) && !(hsB heads (tw h 1 5 p))) := by unfold kpB; rw [k5]; rfl
    refine And.intro (fun c => ?_) (fun c => ?_)
    · exact And.intro (Or.inl rfl) (Seg.ri (bI_0 (by rw [ek]; simp [bn1 c])))
    refine And.intro (fun d => ?_) (fun d => ?_)
    · exact And.intro (Or.inl rfl) (Seg.ri (bI_0 (by rw [ek]; simp [bn1 d])))
    · exact And.intro (Or.inr rfl) (Seg.ri (bI_1 (by rw [ek]; simp [bn0 c, bn0 d])))
  refine And.intro (fun k6 => ?_) (fun k6 => ?_)
  · have k6 : tw h 1 3 p = 6 := k6
    have ek : kpB (tw h 1) heads set p = (hsB heads (tw h 1 4 p) && hsB heads (tw h 1 5 p) && (decide (p = 0) || hsB set (nI p - 1))) := by unfold kpB; rw [k6]; rfl
    refine And.intro (fun c => ?_) (fun c => ?_)
    · exact And.intro (Or.inl rfl) (Seg.ri (bI_0 (by rw [ek]; simp [bq0 c])))
    refine And.intro (fun d => ?_) (fun d => ?_)
    · exact And.intro (Or.inl rfl) (Seg.ri (bI_0 (by rw [ek]; simp [bq0 d])))
    refine And.intro (fun z => ?_) (fun z => ?_)
    · have z : nI p = 0 := z
      have z0 : p = 0 := (nI_eq (by omega) (by omega)).mp (z.trans nI_0.symm)
      exact And.intro (Or.inr rfl) (Seg.ri (bI_1 (by rw [ek]; rw [bq1 c, bq1 d]; simp [z0])))
    have z0 : p ≠ 0 := fun y => z (by rw [y]; rfl)
    refine Seg.tr (Seg.cN ((tX5_has set (nI p - 1)).ms h g) (by decide +kernel) syX5_has oyX5_has rfl (by decide) rfl rfl rfl (Nat.le_of_ble_eq_true rfl) (Nat.le_of_ble_eq_true rfl)) ?_
    refine Seg.run [] 400 ?_
    refine And.intro (fun f => ?_) (fun f => ?_)
    · exact And.intro (Or.inl rfl) (Seg.ri (bI_0 (by rw [ek]; simp [bq0 f, z0])))
    · exact And.intro (Or.inr rfl) (Seg.ri (bI_1 (by rw [ek]; simp [bq1 c, bq1 d, bq1 f])))
  have ek : kpB (tw h 1) heads set p = hsB heads (tw h 1 4 p) := by
    unfold kpB
    rw [if_neg (fun z => z.elim k1 k3), if_neg (show ¬ tw h 1 3 p = 2 from k2), if_neg (show ¬ tw h 1 3 p = 5 from k5), if_neg (show ¬ tw h 1 3 p = 6 from k6)]
  exact And.intro (bI_01 _) (Seg.ri (by rw [ek]))
set_option maxRecDepth 100000 in
set_option maxHeartbeats 2000000 in
theorem tX4_keptIn (h : aH) (g : aG) (ht : TOk (tw h 1)) (heads : Int32) : MS mX4_keptIn 3 [.ref 1, .int heads] h g [.int (kept (tw h 1) heads)] h g := by
  obtain ⟨hP, eP⟩ := ht.np
  rw [tw_00] at eP
  refine MS.of okX4_keptIn (by decide +kernel) (Nat.le_of_ble_eq_true rfl) (by decide) rfl (by decide) ?_
  refine Seg.run [4] 400 ?_
  refine Seg.tr (Seg.iter (fun i => (4, [some (.ref 1), some (.int heads), some (.int (kpU (tw h 1) heads i)), some (.int (nI i))], [], nW, h, g, ρ)) (nP (tw h 1)) (fun i hi => ?_)) ?_
  · refine Seg.run [4] 400 ?_
    refine And.intro (fun c => ?_) (fun c => ?_)
    · rw [eP] at c
      exact absurd c (nI_ge hi (by omega))
    refine Seg.tr (Seg.cV (tX4_isKept h g i (by omega) heads (kpU (tw h 1) heads i)) mlX4_76 iyX4_isKept seX4_isKept oyX4_isKept rfl (by decide) rfl (by decide) (by decide) rfl rfl rfl rfl (Nat.le_of_ble_eq_true rfl) (Nat.le_of_ble_eq_true rfl)) ?_
    refine Seg.run [4] 400 ?_
    refine And.intro (fun d => ?_) (fun d => ?_)
    · exact Seg.of (by rw [kpU, if_neg (bq0 d), nI_succ] <;> rfl)
    · exact Seg.of (by rw [kpU, if_pos (bq1 d), nI_succ] <;> rfl)
  · refine Seg.run [] 400 ?_
    refine And.intro (fun c => ?_) (fun c => ?_)
    · exact Seg.rf
    · rw [eP] at c
      exact absurd (nI_le (Nat.le_refl _) (by omega)) c
