/-! ===== the reference: sums over all throws ===== -/
def mny (k one other : Int32) : Int32 := ((k >>> (one &&& 31)) &&& 1) + ((k >>> (other &&& 31)) &&& 1)
def jcB (k one other what : Int32) : Bool := if what = 0 then decide (mny k one other = 2) else if what = 1 then decide (0 < mny k one other) else decide (mny k one other = 1)
def jtN (T : aH) (one other what : Int32) : Nat → Nat := SN (fun t => if jcB (kept T (nI t)) one other what = true then wN T t else 0)
def suN (T : aH) (k : Nat) (set : Int32) : Nat → Nat := SN (fun t => if metB T k (set &&& kept T (nI t)) = true then wN T t else 0)
def meN (T : aH) (set : Int32) : Nat → Nat := SN (fun t => owN T set (kept T (nI t)) * wN T t)
def vN (T : aH) (k : Nat) : Nat := (T 11 k).toNatClampNeg
def woN (T : aH) (set : Int32) : Nat → Nat := SN (fun k => vN T k * suN T k set 256)
def haN (T : aH) (set much : Int32) : Nat → Nat := SN (fun t => if much < owed T set (kept T (nI t)) then wN T t else 0)
theorem TOk.v {T : aH} (h : TOk T) {k : Nat} (hk : k < nN T) : (1 ≤ vN T k ∧ vN T k ≤ 99) ∧ T 11 k = nI (vN T k) := by
  obtain ⟨x, h1, h2⟩ := (h.2.2.2.2.2.1 k hk).2.2
  have e1 : vN T k = x := by rw [vN, h2]; exact nI_clamp (by omega)
  rw [e1]; exact ⟨h1, h2⟩
theorem nI_lits : (0 : Int32) = nI 0 := rfl
set_option maxRecDepth 100000 in
set_option maxHeartbeats 2000000 in
theorem tX6_jointOf (h T : aH) (g : aG) (hf : FT h T) (one other what : Int32) : MS mX6_jointOf 1 [.ref 63, .int one, .int other, .int what] h g [.int (nI (jtN T one other what 256))] h g := by
  refine MS.of okX6_jointOf (by decide +kernel) (Nat.le_of_ble_eq_true rfl) (by decide) rfl (by decide) ?_
  refine Seg.run [6] 400 ?_
  refine Seg.tr (Seg.iter (fun i => (6, [some (.ref 63), some (.int one), some (.int other), some (.int what), some (.int (nI (jtN T one other what i))), some (.int (nI i)), none], [], nW, h, g, ρ)) 256 (fun i hi => ?_)) ?_
  · have e1 := hf.1 i hi
    have e2 := (hf.2.1 i hi).trans (wg8 hf.2.2.2.2 hi)
    have ci := cl10 hi
    have step : jtN T one other what (i + 1) = jtN T one other what i + (if jcB (kept T (nI i)) one other what = true then wN T i else 0) := rfl
    have fin : ∀ x : Int32, x = nI (if jcB (kept T (nI i)) one other what = true then wN T i else 0) → Seg mX6_jointOf 1 (84, [some (.ref 63), some (.int one), some (.int other), some (.int what), some (.int (nI (jtN T one other what i))), some (.int (nI i)), some (.int (mny (kept T (nI i)) one other))], [.int x, .int (nI (jtN T one other what i))], nW, h, g, ρ) (6, [some (.ref 63), some (.int one), some (.int other), some (.int what), some (.int (nI (jtN T one other what (i + 1)))), some (.int (nI (i + 1))), none], [], nW, h, g, ρ) := by
      intro x hx
      refine Seg.run [6] 400 ?_
      refine Seg.tr (Seg.fg 6) ?_
      exact Seg.of (by rw [hx, nI_ad, step, nI_succ] <;> rfl)
    have hin := in10 hi (by decide)
    refine Seg.run [6, 84] 400 ?_
    refine And.intro (fun c => ?_) (fun c => ?_)
    · exact (lim_ge (N := 256) hi (by decide) c).elim
    refine And.intro hin ?_
    refine And.intro hin ?_
    rw [ci, e1]
    refine And.intro (fun w0 => ?_) (fun w0 => ?_)
    · refine And.intro (fun w1 => ?_) (fun w1 => ?_)
      · have j : jcB (kept T (nI i)) one other what = decide (mny (kept T (nI i)) one other = 1) := by
          unfold jcB; rw [if_neg (show ¬ what = 0 from w0), if_neg (show ¬ what = 1 from w1)]
        refine And.intro (fun d => ?_) (fun d => ?_)
        · exact fin _ (by rw [j, if_neg (show ¬ decide (mny (kept T (nI i)) one other = 1) = true from fun z => d (of_decide_eq_true z))] <;> rfl)
        · refine And.intro hin ?_
          exact fin _ (by rw [j, if_pos (show decide (mny (kept T (nI i)) one other = 1) = true from decide_eq_true (Decidable.not_not.mp d)), ci, e2])
      · have j : jcB (kept T (nI i)) one other what = decide (0 < mny (kept T (nI i)) one other) := by
          unfold jcB; rw [if_neg (show ¬ what = 0 from w0), if_pos (Decidable.not_not.mp w1)]
        refine And.intro (fun d => ?_) (fun d => ?_)
        · exact fin _ (by rw [j, if_neg (show ¬ decide (0 < mny (kept T (nI i)) one other) = true from fun z => nlt (of_decide_eq_true z) d)] <;> rfl)
        · refine And.intro hin ?_
          exact fin _ (by rw [j, if_pos (show decide (0 < mny (kept T (nI i)) one other) = true from decide_eq_true (Int32.not_le.mp d)), ci, e2])
    · have j : jcB (kept T (nI i)) one other what = decide (mny (kept T (nI i)) one other = 2) := by
        unfold jcB; rw [if_pos (Decidable.not_not.mp w0)]
      refine And.intro (fun d => ?_) (fun d => ?_)
      · exact fin _ (by rw [j, if_neg (show ¬ decide (mny (kept T (nI i)) one other = 2) = true from fun z => d (of_decide_eq_true z))] <;> rfl)
      · refine And.intro hin ?_
        exact fin _ (by rw [j, if_pos (show decide (mny (kept T (nI i)) one other = 2) = true from decide_eq_true (Decidable.not_not.mp d)), ci, e2])
  · refine Seg.run [] 400 ?_
    refine And.intro (fun c => ?_) (fun c => ?_)
    · exact Seg.rf
    · exact (lim_le (N := 256) (Nat.le_refl _) (by decide) c).elim
set_option maxRecDepth 100000 in
set_option maxHeartbeats 2000000 in
theorem tX6_sureOf (h T : aH) (g : aG) (hf : FT h T) (k : Nat) (hk : k < 6) (set : Int32) : MS mX6_sureOf 4 [.ref 63, .int (nI k), .int set] h g [.int (nI (suN T k set 256))] h g := by
  have eT := hf.2.2.2.1
  refine MS.of okX6_sureOf (by decide +kernel) (Nat.le_of_ble_eq_true rfl) (by decide) rfl (by decide) ?_
  refine Seg.run [5] 400 ?_
  refine Seg.tr (Seg.iter (fun i => (5, [some (.ref 63), some (.int (nI k)), some (.int set), some (.int (nI (suN T k set i))), some (.int (nI i))], [], nW, h, g, ρ)) 256 (fun i hi => ?_)) ?_
  · have e1 := hf.1 i hi
    have e2 := (hf.2.1 i hi).trans (wg8 hf.2.2.2.2 hi)
    have ci := cl10 hi
    have step : suN T k set (i + 1) = suN T k set i + (if metB T k (set &&& kept T (nI i)) = true then wN T i else 0) := rfl
    have hm := tX6_isMet h g (by rw [eT]; exact hf.2.2.2.2) k hk (set &&& kept T (nI i))
    rw [eT] at hm
    have hin := in10 hi (by decide)
    refine Seg.run [5] 400 ?_
    refine And.intro (fun c => ?_) (fun c => ?_)
    · exact (lim_ge (N := 256) hi (by decide) c).elim
    refine And.intro hin ?_
    rw [ci, e1]
    refine Seg.tr (Seg.cV hm mlX6_184 iyX6_isMet seX6_isMet oyX6_isMet rfl (by decide) rfl (by decide) (by decide) rfl rfl rfl rfl (Nat.le_of_ble_eq_true rfl) (Nat.le_of_ble_eq_true rfl)) ?_
    refine Seg.run [5] 400 ?_
    refine And.intro (fun d => ?_) (fun d => ?_)
    · exact Seg.of (by rw [step, if_neg (bq0 d), nI_lits, nI_ad, nI_succ] <;> rfl)
    · refine And.intro hin ?_
      exact Seg.of (by rw [step, if_pos (bq1 d), ci, e2, nI_ad, nI_succ] <;> rfl)
  · refine Seg.run [] 400 ?_
    refine And.intro (fun c => ?_) (fun c => ?_)
    · exact Seg.rf
    · exact (lim_le (N := 256) (Nat.le_refl _) (by decide) c).elim
set_option maxRecDepth 100000 in
set_option maxHeartbeats 2000000 in
theorem tX6_meanOf (h T : aH) (g : aG) (hf : FT h T) (set : Int32) : MS mX6_meanOf 4 [.ref 63, .int set] h g [.int (nI (meN T set 256))] h g := by
  have eT := hf.2.2.2.1
  refine MS.of okX6_meanOf (by decide +kernel) (Nat.le_of_ble_eq_true rfl) (by decide) rfl (by decide) ?_
  refine Seg.run [4] 400 ?_
  refine Seg.tr (Seg.iter (fun i => (4, [some (.ref 63), some (.int set), some (.int (nI (meN T set i))), some (.int (nI i))], [], nW, h, g, ρ)) 256 (fun i hi => ?_)) ?_
  · have e1 := hf.1 i hi
    have e2 := (hf.2.1 i hi).trans (wg8 hf.2.2.2.2 hi)
    have ci := cl10 hi
    have step : meN T set (i + 1) = meN T set i + owN T set (kept T (nI i)) * wN T i := rfl
    have hm := tX6_owesBy h g (by rw [eT]; exact hf.2.2.2.2) set (kept T (nI i))
    rw [eT, (ow_nI hf.2.2.2.2 set _).1] at hm
    have hin := in10 hi (by decide)
    refine Seg.run [4] 400 ?_
    refine And.intro (fun c => ?_) (fun c => ?_)
    · exact (lim_ge (N := 256) hi (by decide) c).elim
    refine And.intro hin ?_
    rw [ci, e1]
    refine Seg.tr (Seg.cV hm mlX6_203 iyX6_owesBy seX6_owesBy oyX6_owesBy rfl (by decide) rfl (by decide) (by decide) rfl rfl rfl rfl (Nat.le_of_ble_eq_true rfl) (Nat.le_of_ble_eq_true rfl)) ?_
    refine Seg.run [4] 400 ?_
    refine And.intro hin ?_
    exact Seg.of (by rw [step, ci, e2, nI_ml, nI_ad, nI_succ] <;> rfl)
  · refine Seg.run [] 400 ?_
    refine And.intro (fun c => ?_) (fun c => ?_)
    · exact Seg.rf
    · exact (lim_le (N := 256) (Nat.le_refl _) (by decide) c).elim
set_option maxRecDepth 100000 in
set_option maxHeartbeats 2000000 in
theorem tX6_harmOf (h T : aH) (g : aG) (hf : FT h T) (set much : Int32) : MS mX6_harmOf 4 [.ref 63, .int set, .int much] h g [.int (nI (haN T set much 256))] h g := by
  have eT := hf.2.2.2.1
  refine MS.of okX6_harmOf (by decide +kernel) (Nat.le_of_ble_eq_true rfl) (by decide) rfl (by decide) ?_
  refine Seg.run [5] 400 ?_
  refine Seg.tr (Seg.iter (fun i => (5, [some (.ref 63), some (.int set), some (.int much), some (.int (nI (haN T set much i))), some (.int (nI i))], [], nW, h, g, ρ)) 256 (fun i hi => ?_)) ?_
  · have e1 := hf.1 i hi
    have e2 := (hf.2.1 i hi).trans (wg8 hf.2.2.2.2 hi)
    have ci := cl10 hi
    have step : haN T set much (i + 1) = haN T set much i + (if much < owed T set (kept T (nI i)) then wN T i else 0) := rfl
    have hm := tX6_owesBy h g (by rw [eT]; exact hf.2.2.2.2) set (kept T (nI i))
    rw [eT] at hm
    have hin := in10 hi (by decide)
    refine Seg.run [5] 400 ?_
    refine And.intro (fun c => ?_) (fun c => ?_)
    · exact (lim_ge (N := 256) hi (by decide) c).elim
    refine And.intro hin ?_
    rw [ci, e1]
    refine Seg.tr (Seg.cV hm mlX6_203 iyX6_owesBy seX6_owesBy oyX6_owesBy rfl (by decide) rfl (by decide) (by decide) rfl rfl rfl rfl (Nat.le_of_ble_eq_true rfl) (Nat.le_of_ble_eq_true rfl)) ?_
    refine Seg.run [5] 400 ?_
    refine And.intro (fun d => ?_) (fun d => ?_)
    · exact Seg.of (by rw [step, if_neg (fun z => nlt z d), nI_lits, nI_ad, nI_succ] <;> rfl)
    · refine And.intro hin ?_
      exact Seg.of (by rw [step, if_pos (Int32.not_le.mp d), ci, e2, nI_ad, nI_succ] <;> rfl)
  · refine Seg.run [] 400 ?_
    refine And.intro (fun c => ?_) (fun c => ?_)
    · exact Seg.rf
    · exact (lim_le (N := 256) (Nat.le_refl _) (by decide) c).elim
set_option maxRecDepth 100000 in
set_option maxHeartbeats 2000000 in
theorem tX6_worthOf (h T : aH) (g : aG) (hf : FT h T) (set : Int32) : MS mX6_worthOf 5 [.ref 63, .int set] h g [.int (nI (woN T set (nN T)))] h g := by
  have eT := hf.2.2.2.1
  obtain ⟨hN, eN⟩ := hf.2.2.2.2.nn
  have eN : h 64 1 = nI (nN T) := by rw [← eN, ← eT, tm_0 (by decide)]
  refine MS.of okX6_worthOf (by decide +kernel) (Nat.le_of_ble_eq_true rfl) (by decide) rfl (by decide) ?_
  refine Seg.run [4] 400 ?_
  refine Seg.tr (Seg.iter (fun i => (4, [some (.ref 63), some (.int set), some (.int (nI (woN T set i))), some (.int (nI i))], [], nW, h, g, ρ)) (nN T) (fun i hi => ?_)) ?_
  · have step : woN T set (i + 1) = woN T set i + vN T i * suN T i set 256 := rfl
    have hn : MS mX6_needIts 1 [.ref 63, .int (nI i), .int 2] h g [.int (tm h 64 11 i)] h g := tX6_needIts h g i 2 (by omega) (by decide)
    rw [eT, (hf.2.2.2.2.v hi).2] at hn
    refine Seg.run [4] 400 ?_
    refine And.intro (in10 (p := 1) (by decide) (by decide)) ?_
    refine And.intro (fun c => ?_) (fun c => ?_)
    · exact absurd (show nI (nN T) ≤ nI i by rw [← eN]; exact c) (nI_ge hi (by omega))
    refine Seg.tr (Seg.cV hn mlX6_171 iyX6_needIts seX6_needIts oyX6_needIts rfl (by decide) rfl (by decide) (by decide) rfl rfl rfl rfl (Nat.le_of_ble_eq_true rfl) (Nat.le_of_ble_eq_true rfl)) ?_
    refine Seg.run [4] 400 ?_
    refine Seg.tr (Seg.cV (tX6_sureOf h T g hf i (by omega) set) mlX6_228 iyX6_sureOf seX6_sureOf oyX6_sureOf rfl (by decide) rfl (by decide) (by decide) rfl rfl rfl rfl (Nat.le_of_ble_eq_true rfl) (Nat.le_of_ble_eq_true rfl)) ?_
    refine Seg.run [4] 400 ?_
    exact Seg.of (by rw [step, nI_ml, nI_ad, nI_succ] <;> rfl)
  · refine Seg.run [] 400 ?_
    refine And.intro (in10 (p := 1) (by decide) (by decide)) ?_
    refine And.intro (fun c => ?_) (fun c => ?_)
    · exact Seg.rf
    · exact absurd (show h 64 1 ≤ nI (nN T) by rw [eN]; exact nI_le (Nat.le_refl _) (by omega)) c
