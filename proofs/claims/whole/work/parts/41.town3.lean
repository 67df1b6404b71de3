/-! ===== the class's town: changes; printed by wip/whole/gen41.py ===== -/
theorem cpG {h : aH} {d s n : Nat} {Q : aH → Prop} (z : ∀ h1 : aH, (∀ a, a ≠ d → h1 a = h a) → (∀ k, k < n → h1 d k = h s k) → Q h1) : Q (upR h d (va_cpy (h s) (h d) 0 0 n)) := by
  refine z _ (fun a ha => ?_) (fun k hk => ?_)
  · simp only [upR, if_neg ha]
  · simp only [upR, if_true]
    exact sb_cpy0 hk
theorem upG {h : aH} {a k : Nat} {x : Int32} {Q : aH → Prop} (z : ∀ h1 : aH, (∀ b j, b ≠ a ∨ j ≠ k → h1 b j = h b j) → h1 a k = x → Q h1) : Q (up2 h a k x) := by
  refine z _ (fun b j hb => ?_) up2_s
  rcases hb with hb | hb
  · exact up2_o hb
  · exact up2_k hb
set_option maxRecDepth 100000 in
set_option maxHeartbeats 400000 in
theorem tX4_becomeAs_1_30 (h : aH) (g : aG) : MX mX4_becomeAs 1 [.ref 1, .ref 30] h g (fun r h' g' => r = [] ∧ g' = g ∧ tw h' 1 = tw h 30 ∧ (∀ a, a < 1 ∨ 13 < a → h' a = h a)) := by
  refine MX.of okX4_becomeAs (by decide +kernel) (Nat.le_of_ble_eq_true rfl) (by decide) rfl (by decide) ?_
  refine SegP.run [15] 400 ?_
  refine And.intro (by decide) ?_
  refine cpG (h := h) (d := 2) (s := 31) (n := 8) (Q := fun h1 => SegP mX4_becomeAs 1 (15, [some (.ref 1), some (.ref 30)], [], nW, h1, g, ρ) (enP _)) (fun h1 f_h1 v_h1 => ?_)
  refine SegP.run [30] 400 ?_
  refine And.intro (by decide) ?_
  refine cpG (h := h1) (d := 3) (s := 32) (n := 8) (Q := fun h1 => SegP mX4_becomeAs 1 (30, [some (.ref 1), some (.ref 30)], [], nW, h1, g, ρ) (enP _)) (fun h2 f_h2 v_h2 => ?_)
  refine SegP.run [45] 400 ?_
  refine And.intro (by decide) ?_
  refine cpG (h := h2) (d := 4) (s := 33) (n := 10) (Q := fun h1 => SegP mX4_becomeAs 1 (45, [some (.ref 1), some (.ref 30)], [], nW, h1, g, ρ) (enP _)) (fun h3 f_h3 v_h3 => ?_)
  refine SegP.run [60] 400 ?_
  refine And.intro (by decide) ?_
  refine cpG (h := h3) (d := 5) (s := 34) (n := 10) (Q := fun h1 => SegP mX4_becomeAs 1 (60, [some (.ref 1), some (.ref 30)], [], nW, h1, g, ρ) (enP _)) (fun h4 f_h4 v_h4 => ?_)
  refine SegP.run [75] 400 ?_
  refine And.intro (by decide) ?_
  refine cpG (h := h4) (d := 6) (s := 35) (n := 10) (Q := fun h1 => SegP mX4_becomeAs 1 (75, [some (.ref 1), some (.ref 30)], [], nW, h1, g, ρ) (enP _)) (fun h5 f_h5 v_h5 => ?_)
  refine SegP.run [90] 400 ?_
  refine And.intro (by decide) ?_
  refine cpG (h := h5) (d := 7) (s := 36) (n := 10) (Q := fun h1 => SegP mX4_becomeAs 1 (90, [some (.ref 1), some (.ref 30)], [], nW, h1, g, ρ) (enP _)) (fun h6 f_h6 v_h6 => ?_)
  refine SegP.run [105] 400 ?_
  refine And.intro (by decide) ?_
  refine cpG (h := h6) (d := 8) (s := 37) (n := 10) (Q := fun h1 => SegP mX4_becomeAs 1 (105, [some (.ref 1), some (.ref 30)], [], nW, h1, g, ρ) (enP _)) (fun h7 f_h7 v_h7 => ?_)
  refine SegP.run [120] 400 ?_
  refine And.intro (by decide) ?_
  refine cpG (h := h7) (d := 9) (s := 38) (n := 10) (Q := fun h1 => SegP mX4_becomeAs 1 (120, [some (.ref 1), some (.ref 30)], [], nW, h1, g, ρ) (enP _)) (fun h8 f_h8 v_h8 => ?_)
  refine SegP.run [128] 400 ?_
  refine And.intro (fun z => by cases z) ?_
  refine upG (h := h8) (a := 1) (k := 8) (x := h8 30 8) (Q := fun h1 => SegP mX4_becomeAs 1 (128, [some (.ref 1), some (.ref 30)], [], nW, h1, g, ρ) (enP _)) (fun k0 f_k0 v_k0 => ?_)
  refine SegP.run [143] 400 ?_
  refine And.intro (by decide) ?_
  refine cpG (h := k0) (d := 10) (s := 39) (n := 6) (Q := fun h1 => SegP mX4_becomeAs 1 (143, [some (.ref 1), some (.ref 30)], [], nW, h1, g, ρ) (enP _)) (fun h9 f_h9 v_h9 => ?_)
  refine SegP.run [158] 400 ?_
  refine And.intro (by decide) ?_
  refine cpG (h := h9) (d := 11) (s := 40) (n := 6) (Q := fun h1 => SegP mX4_becomeAs 1 (158, [some (.ref 1), some (.ref 30)], [], nW, h1, g, ρ) (enP _)) (fun h10 f_h10 v_h10 => ?_)
  refine SegP.run [173] 400 ?_
  refine And.intro (by decide) ?_
  refine cpG (h := h10) (d := 12) (s := 41) (n := 6) (Q := fun h1 => SegP mX4_becomeAs 1 (173, [some (.ref 1), some (.ref 30)], [], nW, h1, g, ρ) (enP _)) (fun h11 f_h11 v_h11 => ?_)
  refine SegP.run [181] 400 ?_
  refine And.intro (fun z => by cases z) ?_
  refine upG (h := h11) (a := 1) (k := 12) (x := h11 30 12) (Q := fun h1 => SegP mX4_becomeAs 1 (181, [some (.ref 1), some (.ref 30)], [], nW, h1, g, ρ) (enP _)) (fun n0 f_n0 v_n0 => ?_)
  refine SegP.run [189] 400 ?_
  refine And.intro (fun z => by cases z) ?_
  refine upG (h := n0) (a := 1) (k := 13) (x := n0 30 13) (Q := fun h1 => SegP mX4_becomeAs 1 (189, [some (.ref 1), some (.ref 30)], [], nW, h1, g, ρ) (enP _)) (fun n1 f_n1 v_n1 => ?_)
  refine SegP.run [197] 400 ?_
  refine And.intro (fun z => by cases z) ?_
  refine upG (h := n1) (a := 1) (k := 14) (x := n1 30 14) (Q := fun h1 => SegP mX4_becomeAs 1 (197, [some (.ref 1), some (.ref 30)], [], nW, h1, g, ρ) (enP _)) (fun n2 f_n2 v_n2 => ?_)
  refine SegP.run [212] 400 ?_
  refine And.intro (by decide) ?_
  refine cpG (h := n2) (d := 13) (s := 42) (n := 10) (Q := fun h1 => SegP mX4_becomeAs 1 (212, [some (.ref 1), some (.ref 30)], [], nW, h1, g, ρ) (enP _)) (fun h12 f_h12 v_h12 => ?_)
  refine SegP.run [] 400 ?_
  refine SegP.ret ⟨rfl, rfl, ?_, ?_⟩
  · funext j k
    match j with
    | 0 => match k with
      | 0 =>
        show h12 1 8 = h 30 8
        rw [show h12 1 = n2 1 from f_h12 1 (by decide), show n2 1 8 = n1 1 8 from f_n2 1 8 (by omega), show n1 1 8 = n0 1 8 from f_n1 1 8 (by omega), show n0 1 8 = h11 1 8 from f_n0 1 8 (by omega), show h11 1 = h10 1 from f_h11 1 (by decide), show h10 1 = h9 1 from f_h10 1 (by decide), show h9 1 = k0 1 from f_h9 1 (by decide), v_k0, show h8 30 = h7 30 from f_h8 30 (by decide), show h7 30 = h6 30 from f_h7 30 (by decide), show h6 30 = h5 30 from f_h6 30 (by decide), show h5 30 = h4 30 from f_h5 30 (by decide), show h4 30 = h3 30 from f_h4 30 (by decide), show h3 30 = h2 30 from f_h3 30 (by decide), show h2 30 = h1 30 from f_h2 30 (by decide), show h1 30 = h 30 from f_h1 30 (by decide)]
      | 1 =>
        show h12 1 12 = h 30 12
        rw [show h12 1 = n2 1 from f_h12 1 (by decide), show n2 1 12 = n1 1 12 from f_n2 1 12 (by omega), show n1 1 12 = n0 1 12 from f_n1 1 12 (by omega), v_n0, show h11 30 = h10 30 from f_h11 30 (by decide), show h10 30 = h9 30 from f_h10 30 (by decide), show h9 30 = k0 30 from f_h9 30 (by decide), show k0 30 12 = h8 30 12 from f_k0 30 12 (by omega), show h8 30 = h7 30 from f_h8 30 (by decide), show h7 30 = h6 30 from f_h7 30 (by decide), show h6 30 = h5 30 from f_h6 30 (by decide), show h5 30 = h4 30 from f_h5 30 (by decide), show h4 30 = h3 30 from f_h4 30 (by decide), show h3 30 = h2 30 from f_h3 30 (by decide), show h2 30 = h1 30 from f_h2 30 (by decide), show h1 30 = h 30 from f_h1 30 (by decide)]
      | 2 =>
        show h12 1 13 = h 30 13
        rw [show h12 1 = n2 1 from f_h12 1 (by decide), show n2 1 13 = n1 1 13 from f_n2 1 13 (by omega), v_n1, show n0 30 13 = h11 30 13 from f_n0 30 13 (by omega), show h11 30 = h10 30 from f_h11 30 (by decide), show h10 30 = h9 30 from f_h10 30 (by decide), show h9 30 = k0 30 from f_h9 30 (by decide), show k0 30 13 = h8 30 13 from f_k0 30 13 (by omega), show h8 30 = h7 30 from f_h8 30 (by decide), show h7 30 = h6 30 from f_h7 30 (by decide), show h6 30 = h5 30 from f_h6 30 (by decide), show h5 30 = h4 30 from f_h5 30 (by decide), show h4 30 = h3 30 from f_h4 30 (by decide), show h3 30 = h2 30 from f_h3 30 (by decide), show h2 30 = h1 30 from f_h2 30 (by decide), show h1 30 = h 30 from f_h1 30 (by decide)]
      | 3 =>
        show h12 1 14 = h 30 14
        rw [show h12 1 = n2 1 from f_h12 1 (by decide), v_n2, show n1 30 14 = n0 30 14 from f_n1 30 14 (by omega), show n0 30 14 = h11 30 14 from f_n0 30 14 (by omega), show h11 30 = h10 30 from f_h11 30 (by decide), show h10 30 = h9 30 from f_h10 30 (by decide), show h9 30 = k0 30 from f_h9 30 (by decide), show k0 30 14 = h8 30 14 from f_k0 30 14 (by omega), show h8 30 = h7 30 from f_h8 30 (by decide), show h7 30 = h6 30 from f_h7 30 (by decide), show h6 30 = h5 30 from f_h6 30 (by decide), show h5 30 = h4 30 from f_h5 30 (by decide), show h4 30 = h3 30 from f_h4 30 (by decide), show h3 30 = h2 30 from f_h3 30 (by decide), show h2 30 = h1 30 from f_h2 30 (by decide), show h1 30 = h 30 from f_h1 30 (by decide)]
      | k + 4 => simp [tw, lenT, show ¬ k + 4 < 4 by omega]
    | 1 =>
      by_cases hk : k < 8
      · simp only [tw, lenT, if_pos hk]
        show h12 2 k = h 31 k
        rw [show h12 2 = n2 2 from f_h12 2 (by decide), show n2 2 k = n1 2 k from f_n2 2 k (by omega), show n1 2 k = n0 2 k from f_n1 2 k (by omega), show n0 2 k = h11 2 k from f_n0 2 k (by omega), show h11 2 = h10 2 from f_h11 2 (by decide), show h10 2 = h9 2 from f_h10 2 (by decide), show h9 2 = k0 2 from f_h9 2 (by decide), show k0 2 k = h8 2 k from f_k0 2 k (by omega), show h8 2 = h7 2 from f_h8 2 (by decide), show h7 2 = h6 2 from f_h7 2 (by decide), show h6 2 = h5 2 from f_h6 2 (by decide), show h5 2 = h4 2 from f_h5 2 (by decide), show h4 2 = h3 2 from f_h4 2 (by decide), show h3 2 = h2 2 from f_h3 2 (by decide), show h2 2 = h1 2 from f_h2 2 (by decide), v_h1 k hk]
      · simp only [tw, lenT, if_neg hk]
    | 2 =>
      by_cases hk : k < 8
      · simp only [tw, lenT, if_pos hk]
        show h12 3 k = h 32 k
        rw [show h12 3 = n2 3 from f_h12 3 (by decide), show n2 3 k = n1 3 k from f_n2 3 k (by omega), show n1 3 k = n0 3 k from f_n1 3 k (by omega), show n0 3 k = h11 3 k from f_n0 3 k (by omega), show h11 3 = h10 3 from f_h11 3 (by decide), show h10 3 = h9 3 from f_h10 3 (by decide), show h9 3 = k0 3 from f_h9 3 (by decide), show k0 3 k = h8 3 k from f_k0 3 k (by omega), show h8 3 = h7 3 from f_h8 3 (by decide), show h7 3 = h6 3 from f_h7 3 (by decide), show h6 3 = h5 3 from f_h6 3 (by decide), show h5 3 = h4 3 from f_h5 3 (by decide), show h4 3 = h3 3 from f_h4 3 (by decide), show h3 3 = h2 3 from f_h3 3 (by decide), v_h2 k hk, show h1 32 = h 32 from f_h1 32 (by decide)]
      · simp only [tw, lenT, if_neg hk]
    | 3 =>
      by_cases hk : k < 10
      · simp only [tw, lenT, if_pos hk]
        show h12 4 k = h 33 k
        rw [show h12 4 = n2 4 from f_h12 4 (by decide), show n2 4 k = n1 4 k from f_n2 4 k (by omega), show n1 4 k = n0 4 k from f_n1 4 k (by omega), show n0 4 k = h11 4 k from f_n0 4 k (by omega), show h11 4 = h10 4 from f_h11 4 (by decide), show h10 4 = h9 4 from f_h10 4 (by decide), show h9 4 = k0 4 from f_h9 4 (by decide), show k0 4 k = h8 4 k from f_k0 4 k (by omega), show h8 4 = h7 4 from f_h8 4 (by decide), show h7 4 = h6 4 from f_h7 4 (by decide), show h6 4 = h5 4 from f_h6 4 (by decide), show h5 4 = h4 4 from f_h5 4 (by decide), show h4 4 = h3 4 from f_h4 4 (by decide), v_h3 k hk, show h2 33 = h1 33 from f_h2 33 (by decide), show h1 33 = h 33 from f_h1 33 (by decide)]
      · simp only [tw, lenT, if_neg hk]
    | 4 =>
      by_cases hk : k < 10
      · simp only [tw, lenT, if_pos hk]
        show h12 5 k = h 34 k
        rw [show h12 5 = n2 5 from f_h12 5 (by decide), show n2 5 k = n1 5 k from f_n2 5 k (by omega), show n1 5 k = n0 5 k from f_n1 5 k (by omega), show n0 5 k = h11 5 k from f_n0 5 k (by omega), show h11 5 = h10 5 from f_h11 5 (by decide), show h10 5 = h9 5 from f_h10 5 (by decide), show h9 5 = k0 5 from f_h9 5 (by decide), show k0 5 k = h8 5 k from f_k0 5 k (by omega), show h8 5 = h7 5 from f_h8 5 (by decide), show h7 5 = h6 5 from f_h7 5 (by decide), show h6 5 = h5 5 from f_h6 5 (by decide), show h5 5 = h4 5 from f_h5 5 (by decide), v_h4 k hk, show h3 34 = h2 34 from f_h3 34 (by decide), show h2 34 = h1 34 from f_h2 34 (by decide), show h1 34 = h 34 from f_h1 34 (by decide)]
      · simp only [tw, lenT, if_neg hk]
    | 5 =>
      by_cases hk : k < 10
      · simp only [tw, lenT, if_pos hk]
        show h12 6 k = h 35 k
        rw [show h12 6 = n2 6 from f_h12 6 (by decide), show n2 6 k = n1 6 k from f_n2 6 k (by omega), show n1 6 k = n0 6 k from f_n1 6 k (by omega), show n0 6 k = h11 6 k from f_n0 6 k (by omega), show h11 6 = h10 6 from f_h11 6 (by decide), show h10 6 = h9 6 from f_h10 6 (by decide), show h9 6 = k0 6 from f_h9 6 (by decide), show k0 6 k = h8 6 k from f_k0 6 k (by omega), show h8 6 = h7 6 from f_h8 6 (by decide), show h7 6 = h6 6 from f_h7 6 (by decide), show h6 6 = h5 6 from f_h6 6 (by decide), v_h5 k hk, show h4 35 = h3 35 from f_h4 35 (by decide), show h3 35 = h2 35 from f_h3 35 (by decide), show h2 35 = h1 35 from f_h2 35 (by decide), show h1 35 = h 35 from f_h1 35 (by decide)]
      · simp only [tw, lenT, if_neg hk]
    | 6 =>
      by_cases hk : k < 10
      · simp only [tw, lenT, if_pos hk]
        show h12 7 k = h 36 k
        rw [show h12 7 = n2 7 from f_h12 7 (by decide), show n2 7 k = n1 7 k from f_n2 7 k (by omega), show n1 7 k = n0 7 k from f_n1 7 k (by omega), show n0 7 k = h11 7 k from f_n0 7 k (by omega), show h11 7 = h10 7 from f_h11 7 (by decide), show h10 7 = h9 7 from f_h10 7 (by decide), show h9 7 = k0 7 from f_h9 7 (by decide), show k0 7 k = h8 7 k from f_k0 7 k (by omega), show h8 7 = h7 7 from f_h8 7 (by decide), show h7 7 = h6 7 from f_h7 7 (by decide), v_h6 k hk, show h5 36 = h4 36 from f_h5 36 (by decide), show h4 36 = h3 36 from f_h4 36 (by decide), show h3 36 = h2 36 from f_h3 36 (by decide), show h2 36 = h1 36 from f_h2 36 (by decide), show h1 36 = h 36 from f_h1 36 (by decide)]
      · simp only [tw, lenT, if_neg hk]
    | 7 =>
      by_cases hk : k < 10
      · simp only [tw, lenT, if_pos hk]
        show h12 8 k = h 37 k
        rw [show h12 8 = n2 8 from f_h12 8 (by decide), show n2 8 k = n1 8 k from f_n2 8 k (by omega), show n1 8 k = n0 8 k from f_n1 8 k (by omega), show n0 8 k = h11 8 k from f_n0 8 k (by omega), show h11 8 = h10 8 from f_h11 8 (by decide), show h10 8 = h9 8 from f_h10 8 (by decide), show h9 8 = k0 8 from f_h9 8 (by decide), show k0 8 k = h8 8 k from f_k0 8 k (by omega), show h8 8 = h7 8 from f_h8 8 (by decide), v_h7 k hk, show h6 37 = h5 37 from f_h6 37 (by decide), show h5 37 = h4 37 from f_h5 37 (by decide), show h4 37 = h3 37 from f_h4 37 (by decide), show h3 37 = h2 37 from f_h3 37 (by decide), show h2 37 = h1 37 from f_h2 37 (by decide), show h1 37 = h 37 from f_h1 37 (by decide)]
      · simp only [tw, lenT, if_neg hk]
    | 8 =>
      by_cases hk : k < 10
      · simp only [tw, lenT, if_pos hk]
        show h12 9 k = h 38 k
        rw [show h12 9 = n2 9 from f_h12 9 (by decide), show n2 9 k = n1 9 k from f_n2 9 k (by omega), show n1 9 k = n0 9 k from f_n1 9 k (by omega), show n0 9 k = h11 9 k from f_n0 9 k (by omega), show h11 9 = h10 9 from f_h11 9 (by decide), show h10 9 = h9 9 from f_h10 9 (by decide), show h9 9 = k0 9 from f_h9 9 (by decide), show k0 9 k = h8 9 k from f_k0 9 k (by omega), v_h8 k hk, show h7 38 = h6 38 from f_h7 38 (by decide), show h6 38 = h5 38 from f_h6 38 (by decide), show h5 38 = h4 38 from f_h5 38 (by decide), show h4 38 = h3 38 from f_h4 38 (by decide), show h3 38 = h2 38 from f_h3 38 (by decide), show h2 38 = h1 38 from f_h2 38 (by decide), show h1 38 = h 38 from f_h1 38 (by decide)]
      · simp only [tw, lenT, if_neg hk]
    | 9 =>
      by_cases hk : k < 6
      · simp only [tw, lenT, if_pos hk]
        show h12 10 k = h 39 k
        rw [show h12 10 = n2 10 from f_h12 10 (by decide), show n2 10 k = n1 10 k from f_n2 10 k (by omega), show n1 10 k = n0 10 k from f_n1 10 k (by omega), show n0 10 k = h11 10 k from f_n0 10 k (by omega), show h11 10 = h10 10 from f_h11 10 (by decide), show h10 10 = h9 10 from f_h10 10 (by decide), v_h9 k hk, show k0 39 k = h8 39 k from f_k0 39 k (by omega), show h8 39 = h7 39 from f_h8 39 (by decide), show h7 39 = h6 39 from f_h7 39 (by decide), show h6 39 = h5 39 from f_h6 39 (by decide), show h5 39 = h4 39 from f_h5 39 (by decide), show h4 39 = h3 39 from f_h4 39 (by decide), show h3 39 = h2 39 from f_h3 39 (by decide), show h2 39 = h1 39 from f_h2 39 (by decide), show h1 39 = h 39 from f_h1 39 (by decide)]
      · simp only [tw, lenT, if_neg hk]
    | 10 =>
      by_cases hk : k < 6
      · simp only [tw, lenT, if_pos hk]
        show h12 11 k = h 40 k
        rw [show h12 11 = n2 11 from f_h12 11 (by decide), show n2 11 k = n1 11 k from f_n2 11 k (by omega), show n1 11 k = n0 11 k from f_n1 11 k (by omega), show n0 11 k = h11 11 k from f_n0 11 k (by omega), show h11 11 = h10 11 from f_h11 11 (by decide), v_h10 k hk, show h9 40 = k0 40 from f_h9 40 (by decide), show k0 40 k = h8 40 k from f_k0 40 k (by omega), show h8 40 = h7 40 from f_h8 40 (by decide), show h7 40 = h6 40 from f_h7 40 (by decide), show h6 40 = h5 40 from f_h6 40 (by decide), show h5 40 = h4 40 from f_h5 40 (by decide), show h4 40 = h3 40 from f_h4 40 (by decide), show h3 40 = h2 40 from f_h3 40 (by decide), show h2 40 = h1 40 from f_h2 40 (by decide), show h1 40 = h 40 from f_h1 40 (by decide)]
      · simp only [tw, lenT, if_neg hk]
    | 11 =>
      by_cases hk : k < 6
      · simp only [tw, lenT, if_pos hk]
        show h12 12 k = h 41 k
        rw [show h12 12 = n2 12 from f_h12 12 (by decide), show n2 12 k = n1 12 k from f_n2 12 k (by omega), show n1 12 k = n0 12 k from f_n1 12 k (by omega), show n0 12 k = h11 12 k from f_n0 12 k (by omega), v_h11 k hk, show h10 41 = h9 41 from f_h10 41 (by decide), show h9 41 = k0 41 from f_h9 41 (by decide), show k0 41 k = h8 41 k from f_k0 41 k (by omega), show h8 41 = h7 41 from f_h8 41 (by decide), show h7 41 = h6 41 from f_h7 41 (by decide), show h6 41 = h5 41 from f_h6 41 (by decide), show h5 41 = h4 41 from f_h5 41 (by decide), show h4 41 = h3 41 from f_h4 41 (by decide), show h3 41 = h2 41 from f_h3 41 (by decide), show h2 41 = h1 41 from f_h2 41 (by decide), show h1 41 = h 41 from f_h1 41 (by decide)]
      · simp only [tw, lenT, if_neg hk]
    | 12 =>
      by_cases hk : k < 10
      · simp only [tw, lenT, if_pos hk]
        show h12 13 k = h 42 k
        rw [v_h12 k hk, show n2 42 k = n1 42 k from f_n2 42 k (by omega), show n1 42 k = n0 42 k from f_n1 42 k (by omega), show n0 42 k = h11 42 k from f_n0 42 k (by omega), show h11 42 = h10 42 from f_h11 42 (by decide), show h10 42 = h9 42 from f_h10 42 (by decide), show h9 42 = k0 42 from f_h9 42 (by decide), show k0 42 k = h8 42 k from f_k0 42 k (by omega), show h8 42 = h7 42 from f_h8 42 (by decide), show h7 42 = h6 42 from f_h7 42 (by decide), show h6 42 = h5 42 from f_h6 42 (by decide), show h5 42 = h4 42 from f_h5 42 (by decide), show h4 42 = h3 42 from f_h4 42 (by decide), show h3 42 = h2 42 from f_h3 42 (by decide), show h2 42 = h1 42 from f_h2 42 (by decide), show h1 42 = h 42 from f_h1 42 (by decide)]
      · simp only [tw, lenT, if_neg hk]
    | j + 13 => simp only [tw, lenT, if_neg (Nat.not_lt_zero _)]
  · intro a ha
    funext k
    rw [show h12 a = n2 a from f_h12 a (by omega), show n2 a k = n1 a k from f_n2 a k (Or.inl (by omega)), show n1 a k = n0 a k from f_n1 a k (Or.inl (by omega)), show n0 a k = h11 a k from f_n0 a k (Or.inl (by omega)), show h11 a = h10 a from f_h11 a (by omega), show h10 a = h9 a from f_h10 a (by omega), show h9 a = k0 a from f_h9 a (by omega), show k0 a k = h8 a k from f_k0 a k (Or.inl (by omega)), show h8 a = h7 a from f_h8 a (by omega), show h7 a = h6 a from f_h7 a (by omega), show h6 a = h5 a from f_h6 a (by omega), show h5 a = h4 a from f_h5 a (by omega), show h4 a = h3 a from f_h4 a (by omega), show h3 a = h2 a from f_h3 a (by omega), show h2 a = h1 a from f_h2 a (by omega), show h1 a = h a from f_h1 a (by omega)]
set_option maxRecDepth 100000 in
set_option maxHeartbeats 400000 in
theorem tX4_becomeAs_30_1 (h : aH) (g : aG) : MX mX4_becomeAs 1 [.ref 30, .ref 1] h g (fun r h' g' => r = [] ∧ g' = g ∧ tw h' 30 = tw h 1 ∧ (∀ a, a < 30 ∨ 42 < a → h' a = h a)) := by
  refine MX.of okX4_becomeAs (by decide +kernel) (Nat.le_of_ble_eq_true rfl) (by decide) rfl (by decide) ?_
  refine SegP.run [15] 400 ?_
  refine And.intro (by decide) ?_
  refine cpG (h := h) (d := 31) (s := 2) (n := 8) (Q := fun h1 => SegP mX4_becomeAs 1 (15, [some (.ref 30), some (.ref 1)], [], nW, h1, g, ρ) (enP _)) (fun h1 f_h1 v_h1 => ?_)
  refine SegP.run [30] 400 ?_
  refine And.intro (by decide) ?_
  refine cpG (h := h1) (d := 32) (s := 3) (n := 8) (Q := fun h1 => SegP mX4_becomeAs 1 (30, [some (.ref 30), some (.ref 1)], [], nW, h1, g, ρ) (enP _)) (fun h2 f_h2 v_h2 => ?_)
  refine SegP.run [45] 400 ?_
  refine And.intro (by decide) ?_
  refine cpG (h := h2) (d := 33) (s := 4) (n := 10) (Q := fun h1 => SegP mX4_becomeAs 1 (45, [some (.ref 30), some (.ref 1)], [], nW, h1, g, ρ) (enP _)) (fun h3 f_h3 v_h3 => ?_)
  refine SegP.run [60] 400 ?_
  refine And.intro (by decide) ?_
  refine cpG (h := h3) (d := 34) (s := 5) (n := 10) (Q := fun h1 => SegP mX4_becomeAs 1 (60, [some (.ref 30), some (.ref 1)], [], nW, h1, g, ρ) (enP _)) (fun h4 f_h4 v_h4 => ?_)
  refine SegP.run [75] 400 ?_
  refine And.intro (by decide) ?_
  refine cpG (h := h4) (d := 35) (s := 6) (n := 10) (Q := fun h1 => SegP mX4_becomeAs 1 (75, [some (.ref 30), some (.ref 1)], [], nW, h1, g, ρ) (enP _)) (fun h5 f_h5 v_h5 => ?_)
  refine SegP.run [90] 400 ?_
  refine And.intro (by decide) ?_
  refine cpG (h := h5) (d := 36) (s := 7) (n := 10) (Q := fun h1 => SegP mX4_becomeAs 1 (90, [some (.ref 30), some (.ref 1)], [], nW, h1, g, ρ) (enP _)) (fun h6 f_h6 v_h6 => ?_)
  refine SegP.run [105] 400 ?_
  refine And.intro (by decide) ?_
  refine cpG (h := h6) (d := 37) (s := 8) (n := 10) (Q := fun h1 => SegP mX4_becomeAs 1 (105, [some (.ref 30), some (.ref 1)], [], nW, h1, g, ρ) (enP _)) (fun h7 f_h7 v_h7 => ?_)
  refine SegP.run [120] 400 ?_
  refine And.intro (by decide) ?_
  refine cpG (h := h7) (d := 38) (s := 9) (n := 10) (Q := fun h1 => SegP mX4_becomeAs 1 (120, [some (.ref 30), some (.ref 1)], [], nW, h1, g, ρ) (enP _)) (fun h8 f_h8 v_h8 => ?_)
  refine SegP.run [128] 400 ?_
  refine And.intro (fun z => by cases z) ?_
  refine upG (h := h8) (a := 30) (k := 8) (x := h8 1 8) (Q := fun h1 => SegP mX4_becomeAs 1 (128, [some (.ref 30), some (.ref 1)], [], nW, h1, g, ρ) (enP _)) (fun k0 f_k0 v_k0 => ?_)
  refine SegP.run [143] 400 ?_
  refine And.intro (by decide) ?_
  refine cpG (h := k0) (d := 39) (s := 10) (n := 6) (Q := fun h1 => SegP mX4_becomeAs 1 (143, [some (.ref 30), some (.ref 1)], [], nW, h1, g, ρ) (enP _)) (fun h9 f_h9 v_h9 => ?_)
  refine SegP.run [158] 400 ?_
  refine And.intro (by decide) ?_
  refine cpG (h := h9) (d := 40) (s := 11) (n := 6) (Q := fun h1 => SegP mX4_becomeAs 1 (158, [some (.ref 30), some (.ref 1)], [], nW, h1, g, ρ) (enP _)) (fun h10 f_h10 v_h10 => ?_)
  refine SegP.run [173] 400 ?_
  refine And.intro (by decide) ?_
  refine cpG (h := h10) (d := 41) (s := 12) (n := 6) (Q := fun h1 => SegP mX4_becomeAs 1 (173, [some (.ref 30), some (.ref 1)], [], nW, h1, g, ρ) (enP _)) (fun h11 f_h11 v_h11 => ?_)
  refine SegP.run [181] 400 ?_
  refine And.intro (fun z => by cases z) ?_
  refine upG (h := h11) (a := 30) (k := 12) (x := h11 1 12) (Q := fun h1 => SegP mX4_becomeAs 1 (181, [some (.ref 30), some (.ref 1)], [], nW, h1, g, ρ) (enP _)) (fun n0 f_n0 v_n0 => ?_)
  refine SegP.run [189] 400 ?_
  refine And.intro (fun z => by cases z) ?_
  refine upG (h := n0) (a := 30) (k := 13) (x := n0 1 13) (Q := fun h1 => SegP mX4_becomeAs 1 (189, [some (.ref 30), some (.ref 1)], [], nW, h1, g, ρ) (enP _)) (fun n1 f_n1 v_n1 => ?_)
  refine SegP.run [197] 400 ?_
  refine And.intro (fun z => by cases z) ?_
  refine upG (h := n1) (a := 30) (k := 14) (x := n1 1 14) (Q := fun h1 => SegP mX4_becomeAs 1 (197, [some (.ref 30), some (.ref 1)], [], nW, h1, g, ρ) (enP _)) (fun n2 f_n2 v_n2 => ?_)
  refine SegP.run [212] 400 ?_
  refine And.intro (by decide) ?_
  refine cpG (h := n2) (d := 42) (s := 13) (n := 10) (Q := fun h1 => SegP mX4_becomeAs 1 (212, [some (.ref 30), some (.ref 1)], [], nW, h1, g, ρ) (enP _)) (fun h12 f_h12 v_h12 => ?_)
  refine SegP.run [] 400 ?_
  refine SegP.ret ⟨rfl, rfl, ?_, ?_⟩
  · funext j k
    match j with
    | 0 => match k with
      | 0 =>
        show h12 30 8 = h 1 8
        rw [show h12 30 = n2 30 from f_h12 30 (by decide), show n2 30 8 = n1 30 8 from f_n2 30 8 (by omega), show n1 30 8 = n0 30 8 from f_n1 30 8 (by omega), show n0 30 8 = h11 30 8 from f_n0 30 8 (by omega), show h11 30 = h10 30 from f_h11 30 (by decide), show h10 30 = h9 30 from f_h10 30 (by decide), show h9 30 = k0 30 from f_h9 30 (by decide), v_k0, show h8 1 = h7 1 from f_h8 1 (by decide), show h7 1 = h6 1 from f_h7 1 (by decide), show h6 1 = h5 1 from f_h6 1 (by decide), show h5 1 = h4 1 from f_h5 1 (by decide), show h4 1 = h3 1 from f_h4 1 (by decide), show h3 1 = h2 1 from f_h3 1 (by decide), show h2 1 = h1 1 from f_h2 1 (by decide), show h1 1 = h 1 from f_h1 1 (by decide)]
      | 1 =>
        show h12 30 12 = h 1 12
        rw [show h12 30 = n2 30 from f_h12 30 (by decide), show n2 30 12 = n1 30 12 from f_n2 30 12 (by omega), show n1 30 12 = n0 30 12 from f_n1 30 12 (by omega), v_n0, show h11 1 = h10 1 from f_h11 1 (by decide), show h10 1 = h9 1 from f_h10 1 (by decide), show h9 1 = k0 1 from f_h9 1 (by decide), show k0 1 12 = h8 1 12 from f_k0 1 12 (by omega), show h8 1 = h7 1 from f_h8 1 (by decide), show h7 1 = h6 1 from f_h7 1 (by decide), show h6 1 = h5 1 from f_h6 1 (by decide), show h5 1 = h4 1 from f_h5 1 (by decide), show h4 1 = h3 1 from f_h4 1 (by decide), show h3 1 = h2 1 from f_h3 1 (by decide), show h2 1 = h1 1 from f_h2 1 (by decide), show h1 1 = h 1 from f_h1 1 (by decide)]
      | 2 =>
        show h12 30 13 = h 1 13
        rw [show h12 30 = n2 30 from f_h12 30 (by decide), show n2 30 13 = n1 30 13 from f_n2 30 13 (by omega), v_n1, show n0 1 13 = h11 1 13 from f_n0 1 13 (by omega), show h11 1 = h10 1 from f_h11 1 (by decide), show h10 1 = h9 1 from f_h10 1 (by decide), show h9 1 = k0 1 from f_h9 1 (by decide), show k0 1 13 = h8 1 13 from f_k0 1 13 (by omega), show h8 1 = h7 1 from f_h8 1 (by decide), show h7 1 = h6 1 from f_h7 1 (by decide), show h6 1 = h5 1 from f_h6 1 (by decide), show h5 1 = h4 1 from f_h5 1 (by decide), show h4 1 = h3 1 from f_h4 1 (by decide), show h3 1 = h2 1 from f_h3 1 (by decide), show h2 1 = h1 1 from f_h2 1 (by decide), show h1 1 = h 1 from f_h1 1 (by decide)]
      | 3 =>
        show h12 30 14 = h 1 14
        rw [show h12 30 = n2 30 from f_h12 30 (by decide), v_n2, show n1 1 14 = n0 1 14 from f_n1 1 14 (by omega), show n0 1 14 = h11 1 14 from f_n0 1 14 (by omega), show h11 1 = h10 1 from f_h11 1 (by decide), show h10 1 = h9 1 from f_h10 1 (by decide), show h9 1 = k0 1 from f_h9 1 (by decide), show k0 1 14 = h8 1 14 from f_k0 1 14 (by omega), show h8 1 = h7 1 from f_h8 1 (by decide), show h7 1 = h6 1 from f_h7 1 (by decide), show h6 1 = h5 1 from f_h6 1 (by decide), show h5 1 = h4 1 from f_h5 1 (by decide), show h4 1 = h3 1 from f_h4 1 (by decide), show h3 1 = h2 1 from f_h3 1 (by decide), show h2 1 = h1 1 from f_h2 1 (by decide), show h1 1 = h 1 from f_h1 1 (by decide)]
      | k + 4 => simp [tw, lenT, show ¬ k + 4 < 4 by omega]
    | 1 =>
      by_cases hk : k < 8
      · simp only [tw, lenT, if_pos hk]
        show h12 31 k = h 2 k
        rw [show h12 31 = n2 31 from f_h12 31 (by decide), show n2 31 k = n1 31 k from f_n2 31 k (by omega), show n1 31 k = n0 31 k from f_n1 31 k (by omega), show n0 31 k = h11 31 k from f_n0 31 k (by omega), show h11 31 = h10 31 from f_h11 31 (by decide), show h10 31 = h9 31 from f_h10 31 (by decide), show h9 31 = k0 31 from f_h9 31 (by decide), show k0 31 k = h8 31 k from f_k0 31 k (by omega), show h8 31 = h7 31 from f_h8 31 (by decide), show h7 31 = h6 31 from f_h7 31 (by decide), show h6 31 = h5 31 from f_h6 31 (by decide), show h5 31 = h4 31 from f_h5 31 (by decide), show h4 31 = h3 31 from f_h4 31 (by decide), show h3 31 = h2 31 from f_h3 31 (by decide), show h2 31 = h1 31 from f_h2 31 (by decide), v_h1 k hk]
      · simp only [tw, lenT, if_neg hk]
    | 2 =>
      by_cases hk : k < 8
      · simp only [tw, lenT, if_pos hk]
        show h12 32 k = h 3 k
        rw [show h12 32 = n2 32 from f_h12 32 (by decide), show n2 32 k = n1 32 k from f_n2 32 k (by omega), show n1 32 k = n0 32 k from f_n1 32 k (by omega), show n0 32 k = h11 32 k from f_n0 32 k (by omega), show h11 32 = h10 32 from f_h11 32 (by decide), show h10 32 = h9 32 from f_h10 32 (by decide), show h9 32 = k0 32 from f_h9 32 (by decide), show k0 32 k = h8 32 k from f_k0 32 k (by omega), show h8 32 = h7 32 from f_h8 32 (by decide), show h7 32 = h6 32 from f_h7 32 (by decide), show h6 32 = h5 32 from f_h6 32 (by decide), show h5 32 = h4 32 from f_h5 32 (by decide), show h4 32 = h3 32 from f_h4 32 (by decide), show h3 32 = h2 32 from f_h3 32 (by decide), v_h2 k hk, show h1 3 = h 3 from f_h1 3 (by decide)]
      · simp only [tw, lenT, if_neg hk]
    | 3 =>
      by_cases hk : k < 10
      · simp only [tw, lenT, if_pos hk]
        show h12 33 k = h 4 k
        rw [show h12 33 = n2 33 from f_h12 33 (by decide), show n2 33 k = n1 33 k from f_n2 33 k (by omega), show n1 33 k = n0 33 k from f_n1 33 k (by omega), show n0 33 k = h11 33 k from f_n0 33 k (by omega), show h11 33 = h10 33 from f_h11 33 (by decide), show h10 33 = h9 33 from f_h10 33 (by decide), show h9 33 = k0 33 from f_h9 33 (by decide), show k0 33 k = h8 33 k from f_k0 33 k (by omega), show h8 33 = h7 33 from f_h8 33 (by decide), show h7 33 = h6 33 from f_h7 33 (by decide), show h6 33 = h5 33 from f_h6 33 (by decide), show h5 33 = h4 33 from f_h5 33 (by decide), show h4 33 = h3 33 from f_h4 33 (by decide), v_h3 k hk, show h2 4 = h1 4 from f_h2 4 (by decide), show h1 4 = h 4 from f_h1 4 (by decide)]
      · simp only [tw, lenT, if_neg hk]
    | 4 =>
      by_cases hk : k < 10
      · simp only [tw, lenT, if_pos hk]
        show h12 34 k = h 5 k
        rw [show h12 34 = n2 34 from f_h12 34 (by decide), show n2 34 k = n1 34 k from f_n2 34 k (by omega), show n1 34 k = n0 34 k from f_n1 34 k (by omega), show n0 34 k = h11 34 k from f_n0 34 k (by omega), show h11 34 = h10 34 from f_h11 34 (by decide), show h10 34 = h9 34 from f_h10 34 (by decide), show h9 34 = k0 34 from f_h9 34 (by decide), show k0 34 k = h8 34 k from f_k0 34 k (by omega), show h8 34 = h7 34 from f_h8 34 (by decide), show h7 34 = h6 34 from f_h7 34 (by decide), show h6 34 = h5 34 from f_h6 34 (by decide), show h5 34 = h4 34 from f_h5 34 (by decide), v_h4 k hk, show h3 5 = h2 5 from f_h3 5 (by decide), show h2 5 = h1 5 from f_h2 5 (by decide), show h1 5 = h 5 from f_h1 5 (by decide)]
      · simp only [tw, lenT, if_neg hk]
    | 5 =>
      by_cases hk : k < 10
      · simp only [tw, lenT, if_pos hk]
        show h12 35 k = h 6 k
        rw [show h12 35 = n2 35 from f_h12 35 (by decide), show n2 35 k = n1 35 k from f_n2 35 k (by omega), show n1 35 k = n0 35 k from f_n1 35 k (by omega), show n0 35 k = h11 35 k from f_n0 35 k (by omega), show h11 35 = h10 35 from f_h11 35 (by decide), show h10 35 = h9 35 from f_h10 35 (by decide), show h9 35 = k0 35 from f_h9 35 (by decide), show k0 35 k = h8 35 k from f_k0 35 k (by omega), show h8 35 = h7 35 from f_h8 35 (by decide), show h7 35 = h6 35 from f_h7 35 (by decide), show h6 35 = h5 35 from f_h6 35 (by decide), v_h5 k hk, show h4 6 = h3 6 from f_h4 6 (by decide), show h3 6 = h2 6 from f_h3 6 (by decide), show h2 6 = h1 6 from f_h2 6 (by decide), show h1 6 = h 6 from f_h1 6 (by decide)]
      · simp only [tw, lenT, if_neg hk]
    | 6 =>
      by_cases hk : k < 10
      · simp only [tw, lenT, if_pos hk]
        show h12 36 k = h 7 k
        rw [show h12 36 = n2 36 from f_h12 36 (by decide), show n2 36 k = n1 36 k from f_n2 36 k (by omega), show n1 36 k = n0 36 k from f_n1 36 k (by omega), show n0 36 k = h11 36 k from f_n0 36 k (by omega), show h11 36 = h10 36 from f_h11 36 (by decide), show h10 36 = h9 36 from f_h10 36 (by decide), show h9 36 = k0 36 from f_h9 36 (by decide), show k0 36 k = h8 36 k from f_k0 36 k (by omega), show h8 36 = h7 36 from f_h8 36 (by decide), show h7 36 = h6 36 from f_h7 36 (by decide), v_h6 k hk, show h5 7 = h4 7 from f_h5 7 (by decide), show h4 7 = h3 7 from f_h4 7 (by decide), show h3 7 = h2 7 from f_h3 7 (by decide), show h2 7 = h1 7 from f_h2 7 (by decide), show h1 7 = h 7 from f_h1 7 (by decide)]
      · simp only [tw, lenT, if_neg hk]
    | 7 =>
      by_cases hk : k < 10
      · simp only [tw, lenT, if_pos hk]
        show h12 37 k = h 8 k
        rw [show h12 37 = n2 37 from f_h12 37 (by decide), show n2 37 k = n1 37 k from f_n2 37 k (by omega), show n1 37 k = n0 37 k from f_n1 37 k (by omega), show n0 37 k = h11 37 k from f_n0 37 k (by omega), show h11 37 = h10 37 from f_h11 37 (by decide), show h10 37 = h9 37 from f_h10 37 (by decide), show h9 37 = k0 37 from f_h9 37 (by decide), show k0 37 k = h8 37 k from f_k0 37 k (by omega), show h8 37 = h7 37 from f_h8 37 (by decide), v_h7 k hk, show h6 8 = h5 8 from f_h6 8 (by decide), show h5 8 = h4 8 from f_h5 8 (by decide), show h4 8 = h3 8 from f_h4 8 (by decide), show h3 8 = h2 8 from f_h3 8 (by decide), show h2 8 = h1 8 from f_h2 8 (by decide), show h1 8 = h 8 from f_h1 8 (by decide)]
      · simp only [tw, lenT, if_neg hk]
    | 8 =>
      by_cases hk : k < 10
      · simp only [tw, lenT, if_pos hk]
        show h12 38 k = h 9 k
        rw [show h12 38 = n2 38 from f_h12 38 (by decide), show n2 38 k = n1 38 k from f_n2 38 k (by omega), show n1 38 k = n0 38 k from f_n1 38 k (by omega), show n0 38 k = h11 38 k from f_n0 38 k (by omega), show h11 38 = h10 38 from f_h11 38 (by decide), show h10 38 = h9 38 from f_h10 38 (by decide), show h9 38 = k0 38 from f_h9 38 (by decide), show k0 38 k = h8 38 k from f_k0 38 k (by omega), v_h8 k hk, show h7 9 = h6 9 from f_h7 9 (by decide), show h6 9 = h5 9 from f_h6 9 (by decide), show h5 9 = h4 9 from f_h5 9 (by decide), show h4 9 = h3 9 from f_h4 9 (by decide), show h3 9 = h2 9 from f_h3 9 (by decide), show h2 9 = h1 9 from f_h2 9 (by decide), show h1 9 = h 9 from f_h1 9 (by decide)]
      · simp only [tw, lenT, if_neg hk]
    | 9 =>
      by_cases hk : k < 6
      · simp only [tw, lenT, if_pos hk]
        show h12 39 k = h 10 k
        rw [show h12 39 = n2 39 from f_h12 39 (by decide), show n2 39 k = n1 39 k from f_n2 39 k (by omega), show n1 39 k = n0 39 k from f_n1 39 k (by omega), show n0 39 k = h11 39 k from f_n0 39 k (by omega), show h11 39 = h10 39 from f_h11 39 (by decide), show h10 39 = h9 39 from f_h10 39 (by decide), v_h9 k hk, show k0 10 k = h8 10 k from f_k0 10 k (by omega), show h8 10 = h7 10 from f_h8 10 (by decide), show h7 10 = h6 10 from f_h7 10 (by decide), show h6 10 = h5 10 from f_h6 10 (by decide), show h5 10 = h4 10 from f_h5 10 (by decide), show h4 10 = h3 10 from f_h4 10 (by decide), show h3 10 = h2 10 from f_h3 10 (by decide), show h2 10 = h1 10 from f_h2 10 (by decide), show h1 10 = h 10 from f_h1 10 (by decide)]
      · simp only [tw, lenT, if_neg hk]
    | 10 =>
      by_cases hk : k < 6
      · simp only [tw, lenT, if_pos hk]
        show h12 40 k = h 11 k
        rw [show h12 40 = n2 40 from f_h12 40 (by decide), show n2 40 k = n1 40 k from f_n2 40 k (by omega), show n1 40 k = n0 40 k from f_n1 40 k (by omega), show n0 40 k = h11 40 k from f_n0 40 k (by omega), show h11 40 = h10 40 from f_h11 40 (by decide), v_h10 k hk, show h9 11 = k0 11 from f_h9 11 (by decide), show k0 11 k = h8 11 k from f_k0 11 k (by omega), show h8 11 = h7 11 from f_h8 11 (by decide), show h7 11 = h6 11 from f_h7 11 (by decide), show h6 11 = h5 11 from f_h6 11 (by decide), show h5 11 = h4 11 from f_h5 11 (by decide), show h4 11 = h3 11 from f_h4 11 (by decide), show h3 11 = h2 11 from f_h3 11 (by decide), show h2 11 = h1 11 from f_h2 11 (by decide), show h1 11 = h 11 from f_h1 11 (by decide)]
      · simp only [tw, lenT, if_neg hk]
    | 11 =>
      by_cases hk : k < 6
      · simp only [tw, lenT, if_pos hk]
        show h12 41 k = h 12 k
        rw [show h12 41 = n2 41 from f_h12 41 (by decide), show n2 41 k = n1 41 k from f_n2 41 k (by omega), show n1 41 k = n0 41 k from f_n1 41 k (by omega), show n0 41 k = h11 41 k from f_n0 41 k (by omega), v_h11 k hk, show h10 12 = h9 12 from f_h10 12 (by decide), show h9 12 = k0 12 from f_h9 12 (by decide), show k0 12 k = h8 12 k from f_k0 12 k (by omega), show h8 12 = h7 12 from f_h8 12 (by decide), show h7 12 = h6 12 from f_h7 12 (by decide), show h6 12 = h5 12 from f_h6 12 (by decide), show h5 12 = h4 12 from f_h5 12 (by decide), show h4 12 = h3 12 from f_h4 12 (by decide), show h3 12 = h2 12 from f_h3 12 (by decide), show h2 12 = h1 12 from f_h2 12 (by decide), show h1 12 = h 12 from f_h1 12 (by decide)]
      · simp only [tw, lenT, if_neg hk]
    | 12 =>
      by_cases hk : k < 10
      · simp only [tw, lenT, if_pos hk]
        show h12 42 k = h 13 k
        rw [v_h12 k hk, show n2 13 k = n1 13 k from f_n2 13 k (by omega), show n1 13 k = n0 13 k from f_n1 13 k (by omega), show n0 13 k = h11 13 k from f_n0 13 k (by omega), show h11 13 = h10 13 from f_h11 13 (by decide), show h10 13 = h9 13 from f_h10 13 (by decide), show h9 13 = k0 13 from f_h9 13 (by decide), show k0 13 k = h8 13 k from f_k0 13 k (by omega), show h8 13 = h7 13 from f_h8 13 (by decide), show h7 13 = h6 13 from f_h7 13 (by decide), show h6 13 = h5 13 from f_h6 13 (by decide), show h5 13 = h4 13 from f_h5 13 (by decide), show h4 13 = h3 13 from f_h4 13 (by decide), show h3 13 = h2 13 from f_h3 13 (by decide), show h2 13 = h1 13 from f_h2 13 (by decide), show h1 13 = h 13 from f_h1 13 (by decide)]
      · simp only [tw, lenT, if_neg hk]
    | j + 13 => simp only [tw, lenT, if_neg (Nat.not_lt_zero _)]
  · intro a ha
    funext k
    rw [show h12 a = n2 a from f_h12 a (by omega), show n2 a k = n1 a k from f_n2 a k (Or.inl (by omega)), show n1 a k = n0 a k from f_n1 a k (Or.inl (by omega)), show n0 a k = h11 a k from f_n0 a k (Or.inl (by omega)), show h11 a = h10 a from f_h11 a (by omega), show h10 a = h9 a from f_h10 a (by omega), show h9 a = k0 a from f_h9 a (by omega), show k0 a k = h8 a k from f_k0 a k (Or.inl (by omega)), show h8 a = h7 a from f_h8 a (by omega), show h7 a = h6 a from f_h7 a (by omega), show h6 a = h5 a from f_h6 a (by omega), show h5 a = h4 a from f_h5 a (by omega), show h4 a = h3 a from f_h4 a (by omega), show h3 a = h2 a from f_h3 a (by omega), show h2 a = h1 a from f_h2 a (by omega), show h1 a = h a from f_h1 a (by omega)]
set_option maxRecDepth 100000 in
set_option maxHeartbeats 400000 in
theorem tX4_becomeAs_14_1 (h : aH) (g : aG) : MX mX4_becomeAs 1 [.ref 14, .ref 1] h g (fun r h' g' => r = [] ∧ g' = g ∧ tw h' 14 = tw h 1 ∧ (∀ a, a < 14 ∨ 26 < a → h' a = h a)) := by
  refine MX.of okX4_becomeAs (by decide +kernel) (Nat.le_of_ble_eq_true rfl) (by decide) rfl (by decide) ?_
  refine SegP.run [15] 400 ?_
  refine And.intro (by decide) ?_
  refine cpG (h := h) (d := 15) (s := 2) (n := 8) (Q := fun h1 => SegP mX4_becomeAs 1 (15, [some (.ref 14), some (.ref 1)], [], nW, h1, g, ρ) (enP _)) (fun h1 f_h1 v_h1 => ?_)
  refine SegP.run [30] 400 ?_
  refine And.intro (by decide) ?_
  refine cpG (h := h1) (d := 16) (s := 3) (n := 8) (Q := fun h1 => SegP mX4_becomeAs 1 (30, [some (.ref 14), some (.ref 1)], [], nW, h1, g, ρ) (enP _)) (fun h2 f_h2 v_h2 => ?_)
  refine SegP.run [45] 400 ?_
  refine And.intro (by decide) ?_
  refine cpG (h := h2) (d := 17) (s := 4) (n := 10) (Q := fun h1 => SegP mX4_becomeAs 1 (45, [some (.ref 14), some (.ref 1)], [], nW, h1, g, ρ) (enP _)) (fun h3 f_h3 v_h3 => ?_)
  refine SegP.run [60] 400 ?_
  refine And.intro (by decide) ?_
  refine cpG (h := h3) (d := 18) (s := 5) (n := 10) (Q := fun h1 => SegP mX4_becomeAs 1 (60, [some (.ref 14), some (.ref 1)], [], nW, h1, g, ρ) (enP _)) (fun h4 f_h4 v_h4 => ?_)
  refine SegP.run [75] 400 ?_
  refine And.intro (by decide) ?_
  refine cpG (h := h4) (d := 19) (s := 6) (n := 10) (Q := fun h1 => SegP mX4_becomeAs 1 (75, [some (.ref 14), some (.ref 1)], [], nW, h1, g, ρ) (enP _)) (fun h5 f_h5 v_h5 => ?_)
  refine SegP.run [90] 400 ?_
  refine And.intro (by decide) ?_
  refine cpG (h := h5) (d := 20) (s := 7) (n := 10) (Q := fun h1 => SegP mX4_becomeAs 1 (90, [some (.ref 14), some (.ref 1)], [], nW, h1, g, ρ) (enP _)) (fun h6 f_h6 v_h6 => ?_)
  refine SegP.run [105] 400 ?_
  refine And.intro (by decide) ?_
  refine cpG (h := h6) (d := 21) (s := 8) (n := 10) (Q := fun h1 => SegP mX4_becomeAs 1 (105, [some (.ref 14), some (.ref 1)], [], nW, h1, g, ρ) (enP _)) (fun h7 f_h7 v_h7 => ?_)
  refine SegP.run [120] 400 ?_
  refine And.intro (by decide) ?_
  refine cpG (h := h7) (d := 22) (s := 9) (n := 10) (Q := fun h1 => SegP mX4_becomeAs 1 (120, [some (.ref 14), some (.ref 1)], [], nW, h1, g, ρ) (enP _)) (fun h8 f_h8 v_h8 => ?_)
  refine SegP.run [128] 400 ?_
  refine And.intro (fun z => by cases z) ?_
  refine upG (h := h8) (a := 14) (k := 8) (x := h8 1 8) (Q := fun h1 => SegP mX4_becomeAs 1 (128, [some (.ref 14), some (.ref 1)], [], nW, h1, g, ρ) (enP _)) (fun k0 f_k0 v_k0 => ?_)
  refine SegP.run [143] 400 ?_
  refine And.intro (by decide) ?_
  refine cpG (h := k0) (d := 23) (s := 10) (n := 6) (Q := fun h1 => SegP mX4_becomeAs 1 (143, [some (.ref 14), some (.ref 1)], [], nW, h1, g, ρ) (enP _)) (fun h9 f_h9 v_h9 => ?_)
  refine SegP.run [158] 400 ?_
  refine And.intro (by decide) ?_
  refine cpG (h := h9) (d := 24) (s := 11) (n := 6) (Q := fun h1 => SegP mX4_becomeAs 1 (158, [some (.ref 14), some (.ref 1)], [], nW, h1, g, ρ) (enP _)) (fun h10 f_h10 v_h10 => ?_)
  refine SegP.run [173] 400 ?_
  refine And.intro (by decide) ?_
  refine cpG (h := h10) (d := 25) (s := 12) (n := 6) (Q := fun h1 => SegP mX4_becomeAs 1 (173, [some (.ref 14), some (.ref 1)], [], nW, h1, g, ρ) (enP _)) (fun h11 f_h11 v_h11 => ?_)
  refine SegP.run [181] 400 ?_
  refine And.intro (fun z => by cases z) ?_
  refine upG (h := h11) (a := 14) (k := 12) (x := h11 1 12) (Q := fun h1 => SegP mX4_becomeAs 1 (181, [some (.ref 14), some (.ref 1)], [], nW, h1, g, ρ) (enP _)) (fun n0 f_n0 v_n0 => ?_)
  refine SegP.run [189] 400 ?_
  refine And.intro (fun z => by cases z) ?_
  refine upG (h := n0) (a := 14) (k := 13) (x := n0 1 13) (Q := fun h1 => SegP mX4_becomeAs 1 (189, [some (.ref 14), some (.ref 1)], [], nW, h1, g, ρ) (enP _)) (fun n1 f_n1 v_n1 => ?_)
  refine SegP.run [197] 400 ?_
  refine And.intro (fun z => by cases z) ?_
  refine upG (h := n1) (a := 14) (k := 14) (x := n1 1 14) (Q := fun h1 => SegP mX4_becomeAs 1 (197, [some (.ref 14), some (.ref 1)], [], nW, h1, g, ρ) (enP _)) (fun n2 f_n2 v_n2 => ?_)
  refine SegP.run [212] 400 ?_
  refine And.intro (by decide) ?_
  refine cpG (h := n2) (d := 26) (s := 13) (n := 10) (Q := fun h1 => SegP mX4_becomeAs 1 (212, [some (.ref 14), some (.ref 1)], [], nW, h1, g, ρ) (enP _)) (fun h12 f_h12 v_h12 => ?_)
  refine SegP.run [] 400 ?_
  refine SegP.ret ⟨rfl, rfl, ?_, ?_⟩
  · funext j k
    match j with
    | 0 => match k with
      | 0 =>
        show h12 14 8 = h 1 8
        rw [show h12 14 = n2 14 from f_h12 14 (by decide), show n2 14 8 = n1 14 8 from f_n2 14 8 (by omega), show n1 14 8 = n0 14 8 from f_n1 14 8 (by omega), show n0 14 8 = h11 14 8 from f_n0 14 8 (by omega), show h11 14 = h10 14 from f_h11 14 (by decide), show h10 14 = h9 14 from f_h10 14 (by decide), show h9 14 = k0 14 from f_h9 14 (by decide), v_k0, show h8 1 = h7 1 from f_h8 1 (by decide), show h7 1 = h6 1 from f_h7 1 (by decide), show h6 1 = h5 1 from f_h6 1 (by decide), show h5 1 = h4 1 from f_h5 1 (by decide), show h4 1 = h3 1 from f_h4 1 (by decide), show h3 1 = h2 1 from f_h3 1 (by decide), show h2 1 = h1 1 from f_h2 1 (by decide), show h1 1 = h 1 from f_h1 1 (by decide)]
      | 1 =>
        show h12 14 12 = h 1 12
        rw [show h12 14 = n2 14 from f_h12 14 (by decide), show n2 14 12 = n1 14 12 from f_n2 14 12 (by omega), show n1 14 12 = n0 14 12 from f_n1 14 12 (by omega), v_n0, show h11 1 = h10 1 from f_h11 1 (by decide), show h10 1 = h9 1 from f_h10 1 (by decide), show h9 1 = k0 1 from f_h9 1 (by decide), show k0 1 12 = h8 1 12 from f_k0 1 12 (by omega), show h8 1 = h7 1 from f_h8 1 (by decide), show h7 1 = h6 1 from f_h7 1 (by decide), show h6 1 = h5 1 from f_h6 1 (by decide), show h5 1 = h4 1 from f_h5 1 (by decide), show h4 1 = h3 1 from f_h4 1 (by decide), show h3 1 = h2 1 from f_h3 1 (by decide), show h2 1 = h1 1 from f_h2 1 (by decide), show h1 1 = h 1 from f_h1 1 (by decide)]
      | 2 =>
        show h12 14 13 = h 1 13
        rw [show h12 14 = n2 14 from f_h12 14 (by decide), show n2 14 13 = n1 14 13 from f_n2 14 13 (by omega), v_n1, show n0 1 13 = h11 1 13 from f_n0 1 13 (by omega), show h11 1 = h10 1 from f_h11 1 (by decide), show h10 1 = h9 1 from f_h10 1 (by decide), show h9 1 = k0 1 from f_h9 1 (by decide), show k0 1 13 = h8 1 13 from f_k0 1 13 (by omega), show h8 1 = h7 1 from f_h8 1 (by decide), show h7 1 = h6 1 from f_h7 1 (by decide), show h6 1 = h5 1 from f_h6 1 (by decide), show h5 1 = h4 1 from f_h5 1 (by decide), show h4 1 = h3 1 from f_h4 1 (by decide), show h3 1 = h2 1 from f_h3 1 (by decide), show h2 1 = h1 1 from f_h2 1 (by decide), show h1 1 = h 1 from f_h1 1 (by decide)]
      | 3 =>
        show h12 14 14 = h 1 14
        rw [show h12 14 = n2 14 from f_h12 14 (by decide), v_n2, show n1 1 14 = n0 1 14 from f_n1 1 14 (by omega), show n0 1 14 = h11 1 14 from f_n0 1 14 (by omega), show h11 1 = h10 1 from f_h11 1 (by decide), show h10 1 = h9 1 from f_h10 1 (by decide), show h9 1 = k0 1 from f_h9 1 (by decide), show k0 1 14 = h8 1 14 from f_k0 1 14 (by omega), show h8 1 = h7 1 from f_h8 1 (by decide), show h7 1 = h6 1 from f_h7 1 (by decide), show h6 1 = h5 1 from f_h6 1 (by decide), show h5 1 = h4 1 from f_h5 1 (by decide), show h4 1 = h3 1 from f_h4 1 (by decide), show h3 1 = h2 1 from f_h3 1 (by decide), show h2 1 = h1 1 from f_h2 1 (by decide), show h1 1 = h 1 from f_h1 1 (by decide)]
      | k + 4 => simp [tw, lenT, show ¬ k + 4 < 4 by omega]
    | 1 =>
      by_cases hk : k < 8
      · simp only [tw, lenT, if_pos hk]
        show h12 15 k = h 2 k
        rw [show h12 15 = n2 15 from f_h12 15 (by decide), show n2 15 k = n1 15 k from f_n2 15 k (by omega), show n1 15 k = n0 15 k from f_n1 15 k (by omega), show n0 15 k = h11 15 k from f_n0 15 k (by omega), show h11 15 = h10 15 from f_h11 15 (by decide), show h10 15 = h9 15 from f_h10 15 (by decide), show h9 15 = k0 15 from f_h9 15 (by decide), show k0 15 k = h8 15 k from f_k0 15 k (by omega), show h8 15 = h7 15 from f_h8 15 (by decide), show h7 15 = h6 15 from f_h7 15 (by decide), show h6 15 = h5 15 from f_h6 15 (by decide), show h5 15 = h4 15 from f_h5 15 (by decide), show h4 15 = h3 15 from f_h4 15 (by decide), show h3 15 = h2 15 from f_h3 15 (by decide), show h2 15 = h1 15 from f_h2 15 (by decide), v_h1 k hk]
      · simp only [tw, lenT, if_neg hk]
    | 2 =>
      by_cases hk : k < 8
      · simp only [tw, lenT, if_pos hk]
        show h12 16 k = h 3 k
        rw [show h12 16 = n2 16 from f_h12 16 (by decide), show n2 16 k = n1 16 k from f_n2 16 k (by omega), show n1 16 k = n0 16 k from f_n1 16 k (by omega), show n0 16 k = h11 16 k from f_n0 16 k (by omega), show h11 16 = h10 16 from f_h11 16 (by decide), show h10 16 = h9 16 from f_h10 16 (by decide), show h9 16 = k0 16 from f_h9 16 (by decide), show k0 16 k = h8 16 k from f_k0 16 k (by omega), show h8 16 = h7 16 from f_h8 16 (by decide), show h7 16 = h6 16 from f_h7 16 (by decide), show h6 16 = h5 16 from f_h6 16 (by decide), show h5 16 = h4 16 from f_h5 16 (by decide), show h4 16 = h3 16 from f_h4 16 (by decide), show h3 16 = h2 16 from f_h3 16 (by decide), v_h2 k hk, show h1 3 = h 3 from f_h1 3 (by decide)]
      · simp only [tw, lenT, if_neg hk]
    | 3 =>
      by_cases hk : k < 10
      · simp only [tw, lenT, if_pos hk]
        show h12 17 k = h 4 k
        rw [show h12 17 = n2 17 from f_h12 17 (by decide), show n2 17 k = n1 17 k from f_n2 17 k (by omega), show n1 17 k = n0 17 k from f_n1 17 k (by omega), show n0 17 k = h11 17 k from f_n0 17 k (by omega), show h11 17 = h10 17 from f_h11 17 (by decide), show h10 17 = h9 17 from f_h10 17 (by decide), show h9 17 = k0 17 from f_h9 17 (by decide), show k0 17 k = h8 17 k from f_k0 17 k (by omega), show h8 17 = h7 17 from f_h8 17 (by decide), show h7 17 = h6 17 from f_h7 17 (by decide), show h6 17 = h5 17 from f_h6 17 (by decide), show h5 17 = h4 17 from f_h5 17 (by decide), show h4 17 = h3 17 from f_h4 17 (by decide), v_h3 k hk, show h2 4 = h1 4 from f_h2 4 (by decide), show h1 4 = h 4 from f_h1 4 (by decide)]
      · simp only [tw, lenT, if_neg hk]
    | 4 =>
      by_cases hk : k < 10
      · simp only [tw, lenT, if_pos hk]
        show h12 18 k = h 5 k
        rw [show h12 18 = n2 18 from f_h12 18 (by decide), show n2 18 k = n1 18 k from f_n2 18 k (by omega), show n1 18 k = n0 18 k from f_n1 18 k (by omega), show n0 18 k = h11 18 k from f_n0 18 k (by omega), show h11 18 = h10 18 from f_h11 18 (by decide), show h10 18 = h9 18 from f_h10 18 (by decide), show h9 18 = k0 18 from f_h9 18 (by decide), show k0 18 k = h8 18 k from f_k0 18 k (by omega), show h8 18 = h7 18 from f_h8 18 (by decide), show h7 18 = h6 18 from f_h7 18 (by decide), show h6 18 = h5 18 from f_h6 18 (by decide), show h5 18 = h4 18 from f_h5 18 (by decide), v_h4 k hk, show h3 5 = h2 5 from f_h3 5 (by decide), show h2 5 = h1 5 from f_h2 5 (by decide), show h1 5 = h 5 from f_h1 5 (by decide)]
      · simp only [tw, lenT, if_neg hk]
    | 5 =>
      by_cases hk : k < 10
      · simp only [tw, lenT, if_pos hk]
        show h12 19 k = h 6 k
        rw [show h12 19 = n2 19 from f_h12 19 (by decide), show n2 19 k = n1 19 k from f_n2 19 k (by omega), show n1 19 k = n0 19 k from f_n1 19 k (by omega), show n0 19 k = h11 19 k from f_n0 19 k (by omega), show h11 19 = h10 19 from f_h11 19 (by decide), show h10 19 = h9 19 from f_h10 19 (by decide), show h9 19 = k0 19 from f_h9 19 (by decide), show k0 19 k = h8 19 k from f_k0 19 k (by omega), show h8 19 = h7 19 from f_h8 19 (by decide), show h7 19 = h6 19 from f_h7 19 (by decide), show h6 19 = h5 19 from f_h6 19 (by decide), v_h5 k hk, show h4 6 = h3 6 from f_h4 6 (by decide), show h3 6 = h2 6 from f_h3 6 (by decide), show h2 6 = h1 6 from f_h2 6 (by decide), show h1 6 = h 6 from f_h1 6 (by decide)]
      · simp only [tw, lenT, if_neg hk]
    | 6 =>
      by_cases hk : k < 10
      · simp only [tw, lenT, if_pos hk]
        show h12 20 k = h 7 k
        rw [show h12 20 = n2 20 from f_h12 20 (by decide), show n2 20 k = n1 20 k from f_n2 20 k (by omega), show n1 20 k = n0 20 k from f_n1 20 k (by omega), show n0 20 k = h11 20 k from f_n0 20 k (by omega), show h11 20 = h10 20 from f_h11 20 (by decide), show h10 20 = h9 20 from f_h10 20 (by decide), show h9 20 = k0 20 from f_h9 20 (by decide), show k0 20 k = h8 20 k from f_k0 20 k (by omega), show h8 20 = h7 20 from f_h8 20 (by decide), show h7 20 = h6 20 from f_h7 20 (by decide), v_h6 k hk, show h5 7 = h4 7 from f_h5 7 (by decide), show h4 7 = h3 7 from f_h4 7 (by decide), show h3 7 = h2 7 from f_h3 7 (by decide), show h2 7 = h1 7 from f_h2 7 (by decide), show h1 7 = h 7 from f_h1 7 (by decide)]
      · simp only [tw, lenT, if_neg hk]
    | 7 =>
      by_cases hk : k < 10
      · simp only [tw, lenT, if_pos hk]
        show h12 21 k = h 8 k
        rw [show h12 21 = n2 21 from f_h12 21 (by decide), show n2 21 k = n1 21 k from f_n2 21 k (by omega), show n1 21 k = n0 21 k from f_n1 21 k (by omega), show n0 21 k = h11 21 k from f_n0 21 k (by omega), show h11 21 = h10 21 from f_h11 21 (by decide), show h10 21 = h9 21 from f_h10 21 (by decide), show h9 21 = k0 21 from f_h9 21 (by decide), show k0 21 k = h8 21 k from f_k0 21 k (by omega), show h8 21 = h7 21 from f_h8 21 (by decide), v_h7 k hk, show h6 8 = h5 8 from f_h6 8 (by decide), show h5 8 = h4 8 from f_h5 8 (by decide), show h4 8 = h3 8 from f_h4 8 (by decide), show h3 8 = h2 8 from f_h3 8 (by decide), show h2 8 = h1 8 from f_h2 8 (by decide), show h1 8 = h 8 from f_h1 8 (by decide)]
      · simp only [tw, lenT, if_neg hk]
    | 8 =>
      by_cases hk : k < 10
      · simp only [tw, lenT, if_pos hk]
        show h12 22 k = h 9 k
        rw [show h12 22 = n2 22 from f_h12 22 (by decide), show n2 22 k = n1 22 k from f_n2 22 k (by omega), show n1 22 k = n0 22 k from f_n1 22 k (by omega), show n0 22 k = h11 22 k from f_n0 22 k (by omega), show h11 22 = h10 22 from f_h11 22 (by decide), show h10 22 = h9 22 from f_h10 22 (by decide), show h9 22 = k0 22 from f_h9 22 (by decide), show k0 22 k = h8 22 k from f_k0 22 k (by omega), v_h8 k hk, show h7 9 = h6 9 from f_h7 9 (by decide), show h6 9 = h5 9 from f_h6 9 (by decide), show h5 9 = h4 9 from f_h5 9 (by decide), show h4 9 = h3 9 from f_h4 9 (by decide), show h3 9 = h2 9 from f_h3 9 (by decide), show h2 9 = h1 9 from f_h2 9 (by decide), show h1 9 = h 9 from f_h1 9 (by decide)]
      · simp only [tw, lenT, if_neg hk]
    | 9 =>
      by_cases hk : k < 6
      · simp only [tw, lenT, if_pos hk]
        show h12 23 k = h 10 k
        rw [show h12 23 = n2 23 from f_h12 23 (by decide), show n2 23 k = n1 23 k from f_n2 23 k (by omega), show n1 23 k = n0 23 k from f_n1 23 k (by omega), show n0 23 k = h11 23 k from f_n0 23 k (by omega), show h11 23 = h10 23 from f_h11 23 (by decide), show h10 23 = h9 23 from f_h10 23 (by decide), v_h9 k hk, show k0 10 k = h8 10 k from f_k0 10 k (by omega), show h8 10 = h7 10 from f_h8 10 (by decide), show h7 10 = h6 10 from f_h7 10 (by decide), show h6 10 = h5 10 from f_h6 10 (by decide), show h5 10 = h4 10 from f_h5 10 (by decide), show h4 10 = h3 10 from f_h4 10 (by decide), show h3 10 = h2 10 from f_h3 10 (by decide), show h2 10 = h1 10 from f_h2 10 (by decide), show h1 10 = h 10 from f_h1 10 (by decide)]
      · simp only [tw, lenT, if_neg hk]
    | 10 =>
      by_cases hk : k < 6
      · simp only [tw, lenT, if_pos hk]
        show h12 24 k = h 11 k
        rw [show h12 24 = n2 24 from f_h12 24 (by decide), show n2 24 k = n1 24 k from f_n2 24 k (by omega), show n1 24 k = n0 24 k from f_n1 24 k (by omega), show n0 24 k = h11 24 k from f_n0 24 k (by omega), show h11 24 = h10 24 from f_h11 24 (by decide), v_h10 k hk, show h9 11 = k0 11 from f_h9 11 (by decide), show k0 11 k = h8 11 k from f_k0 11 k (by omega), show h8 11 = h7 11 from f_h8 11 (by decide), show h7 11 = h6 11 from f_h7 11 (by decide), show h6 11 = h5 11 from f_h6 11 (by decide), show h5 11 = h4 11 from f_h5 11 (by decide), show h4 11 = h3 11 from f_h4 11 (by decide), show h3 11 = h2 11 from f_h3 11 (by decide), show h2 11 = h1 11 from f_h2 11 (by decide), show h1 11 = h 11 from f_h1 11 (by decide)]
      · simp only [tw, lenT, if_neg hk]
    | 11 =>
      by_cases hk : k < 6
      · simp only [tw, lenT, if_pos hk]
        show h12 25 k = h 12 k
        rw [show h12 25 = n2 25 from f_h12 25 (by decide), show n2 25 k = n1 25 k from f_n2 25 k (by omega), show n1 25 k = n0 25 k from f_n1 25 k (by omega), show n0 25 k = h11 25 k from f_n0 25 k (by omega), v_h11 k hk, show h10 12 = h9 12 from f_h10 12 (by decide), show h9 12 = k0 12 from f_h9 12 (by decide), show k0 12 k = h8 12 k from f_k0 12 k (by omega), show h8 12 = h7 12 from f_h8 12 (by decide), show h7 12 = h6 12 from f_h7 12 (by decide), show h6 12 = h5 12 from f_h6 12 (by decide), show h5 12 = h4 12 from f_h5 12 (by decide), show h4 12 = h3 12 from f_h4 12 (by decide), show h3 12 = h2 12 from f_h3 12 (by decide), show h2 12 = h1 12 from f_h2 12 (by decide), show h1 12 = h 12 from f_h1 12 (by decide)]
      · simp only [tw, lenT, if_neg hk]
    | 12 =>
      by_cases hk : k < 10
      · simp only [tw, lenT, if_pos hk]
        show h12 26 k = h 13 k
        rw [v_h12 k hk, show n2 13 k = n1 13 k from f_n2 13 k (by omega), show n1 13 k = n0 13 k from f_n1 13 k (by omega), show n0 13 k = h11 13 k from f_n0 13 k (by omega), show h11 13 = h10 13 from f_h11 13 (by decide), show h10 13 = h9 13 from f_h10 13 (by decide), show h9 13 = k0 13 from f_h9 13 (by decide), show k0 13 k = h8 13 k from f_k0 13 k (by omega), show h8 13 = h7 13 from f_h8 13 (by decide), show h7 13 = h6 13 from f_h7 13 (by decide), show h6 13 = h5 13 from f_h6 13 (by decide), show h5 13 = h4 13 from f_h5 13 (by decide), show h4 13 = h3 13 from f_h4 13 (by decide), show h3 13 = h2 13 from f_h3 13 (by decide), show h2 13 = h1 13 from f_h2 13 (by decide), show h1 13 = h 13 from f_h1 13 (by decide)]
      · simp only [tw, lenT, if_neg hk]
    | j + 13 => simp only [tw, lenT, if_neg (Nat.not_lt_zero _)]
  · intro a ha
    funext k
    rw [show h12 a = n2 a from f_h12 a (by omega), show n2 a k = n1 a k from f_n2 a k (Or.inl (by omega)), show n1 a k = n0 a k from f_n1 a k (Or.inl (by omega)), show n0 a k = h11 a k from f_n0 a k (Or.inl (by omega)), show h11 a = h10 a from f_h11 a (by omega), show h10 a = h9 a from f_h10 a (by omega), show h9 a = k0 a from f_h9 a (by omega), show k0 a k = h8 a k from f_k0 a k (Or.inl (by omega)), show h8 a = h7 a from f_h8 a (by omega), show h7 a = h6 a from f_h7 a (by omega), show h6 a = h5 a from f_h6 a (by omega), show h5 a = h4 a from f_h5 a (by omega), show h4 a = h3 a from f_h4 a (by omega), show h3 a = h2 a from f_h3 a (by omega), show h2 a = h1 a from f_h2 a (by omega), show h1 a = h a from f_h1 a (by omega)]
set_option maxRecDepth 100000 in
set_option maxHeartbeats 400000 in
theorem tX4_becomeAs_1_14 (h : aH) (g : aG) : MX mX4_becomeAs 1 [.ref 1, .ref 14] h g (fun r h' g' => r = [] ∧ g' = g ∧ tw h' 1 = tw h 14 ∧ (∀ a, a < 1 ∨ 13 < a → h' a = h a)) := by
  refine MX.of okX4_becomeAs (by decide +kernel) (Nat.le_of_ble_eq_true rfl) (by decide) rfl (by decide) ?_
  refine SegP.run [15] 400 ?_
  refine And.intro (by decide) ?_
  refine cpG (h := h) (d := 2) (s := 15) (n := 8) (Q := fun h1 => SegP mX4_becomeAs 1 (15, [some (.ref 1), some (.ref 14)], [], nW, h1, g, ρ) (enP _)) (fun h1 f_h1 v_h1 => ?_)
  refine SegP.run [30] 400 ?_
  refine And.intro (by decide) ?_
  refine cpG (h := h1) (d := 3) (s := 16) (n := 8) (Q := fun h1 => SegP mX4_becomeAs 1 (30, [some (.ref 1), some (.ref 14)], [], nW, h1, g, ρ) (enP _)) (fun h2 f_h2 v_h2 => ?_)
  refine SegP.run [45] 400 ?_
  refine And.intro (by decide) ?_
  refine cpG (h := h2) (d := 4) (s := 17) (n := 10) (Q := fun h1 => SegP mX4_becomeAs 1 (45, [some (.ref 1), some (.ref 14)], [], nW, h1, g, ρ) (enP _)) (fun h3 f_h3 v_h3 => ?_)
  refine SegP.run [60] 400 ?_
  refine And.intro (by decide) ?_
  refine cpG (h := h3) (d := 5) (s := 18) (n := 10) (Q := fun h1 => SegP mX4_becomeAs 1 (60, [some (.ref 1), some (.ref 14)], [], nW, h1, g, ρ) (enP _)) (fun h4 f_h4 v_h4 => ?_)
  refine SegP.run [75] 400 ?_
  refine And.intro (by decide) ?_
  refine cpG (h := h4) (d := 6) (s := 19) (n := 10) (Q := fun h1 => SegP mX4_becomeAs 1 (75, [some (.ref 1), some (.ref 14)], [], nW, h1, g, ρ) (enP _)) (fun h5 f_h5 v_h5 => ?_)
  refine SegP.run [90] 400 ?_
  refine And.intro (by decide) ?_
  refine cpG (h := h5) (d := 7) (s := 20) (n := 10) (Q := fun h1 => SegP mX4_becomeAs 1 (90, [some (.ref 1), some (.ref 14)], [], nW, h1, g, ρ) (enP _)) (fun h6 f_h6 v_h6 => ?_)
  refine SegP.run [105] 400 ?_
  refine And.intro (by decide) ?_
  refine cpG (h := h6) (d := 8) (s := 21) (n := 10) (Q := fun h1 => SegP mX4_becomeAs 1 (105, [some (.ref 1), some (.ref 14)], [], nW, h1, g, ρ) (enP _)) (fun h7 f_h7 v_h7 => ?_)
  refine SegP.run [120] 400 ?_
  refine And.intro (by decide) ?_
  refine cpG (h := h7) (d := 9) (s := 22) (n := 10) (Q := fun h1 => SegP mX4_becomeAs 1 (120, [some (.ref 1), some (.ref 14)], [], nW, h1, g, ρ) (enP _)) (fun h8 f_h8 v_h8 => ?_)
  refine SegP.run [128] 400 ?_
  refine And.intro (fun z => by cases z) ?_
  refine upG (h := h8) (a := 1) (k := 8) (x := h8 14 8) (Q := fun h1 => SegP mX4_becomeAs 1 (128, [some (.ref 1), some (.ref 14)], [], nW, h1, g, ρ) (enP _)) (fun k0 f_k0 v_k0 => ?_)
  refine SegP.run [143] 400 ?_
  refine And.intro (by decide) ?_
  refine cpG (h := k0) (d := 10) (s := 23) (n := 6) (Q := fun h1 => SegP mX4_becomeAs 1 (143, [some (.ref 1), some (.ref 14)], [], nW, h1, g, ρ) (enP _)) (fun h9 f_h9 v_h9 => ?_)
  refine SegP.run [158] 400 ?_
  refine And.intro (by decide) ?_
  refine cpG (h := h9) (d := 11) (s := 24) (n := 6) (Q := fun h1 => SegP mX4_becomeAs 1 (158, [some (.ref 1), some (.ref 14)], [], nW, h1, g, ρ) (enP _)) (fun h10 f_h10 v_h10 => ?_)
  refine SegP.run [173] 400 ?_
  refine And.intro (by decide) ?_
  refine cpG (h := h10) (d := 12) (s := 25) (n := 6) (Q := fun h1 => SegP mX4_becomeAs 1 (173, [some (.ref 1), some (.ref 14)], [], nW, h1, g, ρ) (enP _)) (fun h11 f_h11 v_h11 => ?_)
  refine SegP.run [181] 400 ?_
  refine And.intro (fun z => by cases z) ?_
  refine upG (h := h11) (a := 1) (k := 12) (x := h11 14 12) (Q := fun h1 => SegP mX4_becomeAs 1 (181, [some (.ref 1), some (.ref 14)], [], nW, h1, g, ρ) (enP _)) (fun n0 f_n0 v_n0 => ?_)
  refine SegP.run [189] 400 ?_
  refine And.intro (fun z => by cases z) ?_
  refine upG (h := n0) (a := 1) (k := 13) (x := n0 14 13) (Q := fun h1 => SegP mX4_becomeAs 1 (189, [some (.ref 1), some (.ref 14)], [], nW, h1, g, ρ) (enP _)) (fun n1 f_n1 v_n1 => ?_)
  refine SegP.run [197] 400 ?_
  refine And.intro (fun z => by cases z) ?_
  refine upG (h := n1) (a := 1) (k := 14) (x := n1 14 14) (Q := fun h1 => SegP mX4_becomeAs 1 (197, [some (.ref 1), some (.ref 14)], [], nW, h1, g, ρ) (enP _)) (fun n2 f_n2 v_n2 => ?_)
  refine SegP.run [212] 400 ?_
  refine And.intro (by decide) ?_
  refine cpG (h := n2) (d := 13) (s := 26) (n := 10) (Q := fun h1 => SegP mX4_becomeAs 1 (212, [some (.ref 1), some (.ref 14)], [], nW, h1, g, ρ) (enP _)) (fun h12 f_h12 v_h12 => ?_)
  refine SegP.run [] 400 ?_
  refine SegP.ret ⟨rfl, rfl, ?_, ?_⟩
  · funext j k
    match j with
    | 0 => match k with
      | 0 =>
        show h12 1 8 = h 14 8
        rw [show h12 1 = n2 1 from f_h12 1 (by decide), show n2 1 8 = n1 1 8 from f_n2 1 8 (by omega), show n1 1 8 = n0 1 8 from f_n1 1 8 (by omega), show n0 1 8 = h11 1 8 from f_n0 1 8 (by omega), show h11 1 = h10 1 from f_h11 1 (by decide), show h10 1 = h9 1 from f_h10 1 (by decide), show h9 1 = k0 1 from f_h9 1 (by decide), v_k0, show h8 14 = h7 14 from f_h8 14 (by decide), show h7 14 = h6 14 from f_h7 14 (by decide), show h6 14 = h5 14 from f_h6 14 (by decide), show h5 14 = h4 14 from f_h5 14 (by decide), show h4 14 = h3 14 from f_h4 14 (by decide), show h3 14 = h2 14 from f_h3 14 (by decide), show h2 14 = h1 14 from f_h2 14 (by decide), show h1 14 = h 14 from f_h1 14 (by decide)]
      | 1 =>
        show h12 1 12 = h 14 12
        rw [show h12 1 = n2 1 from f_h12 1 (by decide), show n2 1 12 = n1 1 12 from f_n2 1 12 (by omega), show n1 1 12 = n0 1 12 from f_n1 1 12 (by omega), v_n0, show h11 14 = h10 14 from f_h11 14 (by decide), show h10 14 = h9 14 from f_h10 14 (by decide), show h9 14 = k0 14 from f_h9 14 (by decide), show k0 14 12 = h8 14 12 from f_k0 14 12 (by omega), show h8 14 = h7 14 from f_h8 14 (by decide), show h7 14 = h6 14 from f_h7 14 (by decide), show h6 14 = h5 14 from f_h6 14 (by decide), show h5 14 = h4 14 from f_h5 14 (by decide), show h4 14 = h3 14 from f_h4 14 (by decide), show h3 14 = h2 14 from f_h3 14 (by decide), show h2 14 = h1 14 from f_h2 14 (by decide), show h1 14 = h 14 from f_h1 14 (by decide)]
      | 2 =>
        show h12 1 13 = h 14 13
        rw [show h12 1 = n2 1 from f_h12 1 (by decide), show n2 1 13 = n1 1 13 from f_n2 1 13 (by omega), v_n1, show n0 14 13 = h11 14 13 from f_n0 14 13 (by omega), show h11 14 = h10 14 from f_h11 14 (by decide), show h10 14 = h9 14 from f_h10 14 (by decide), show h9 14 = k0 14 from f_h9 14 (by decide), show k0 14 13 = h8 14 13 from f_k0 14 13 (by omega), show h8 14 = h7 14 from f_h8 14 (by decide), show h7 14 = h6 14 from f_h7 14 (by decide), show h6 14 = h5 14 from f_h6 14 (by decide), show h5 14 = h4 14 from f_h5 14 (by decide), show h4 14 = h3 14 from f_h4 14 (by decide), show h3 14 = h2 14 from f_h3 14 (by decide), show h2 14 = h1 14 from f_h2 14 (by decide), show h1 14 = h 14 from f_h1 14 (by decide)]
      | 3 =>
        show h12 1 14 = h 14 14
        rw [show h12 1 = n2 1 from f_h12 1 (by decide), v_n2, show n1 14 14 = n0 14 14 from f_n1 14 14 (by omega), show n0 14 14 = h11 14 14 from f_n0 14 14 (by omega), show h11 14 = h10 14 from f_h11 14 (by decide), show h10 14 = h9 14 from f_h10 14 (by decide), show h9 14 = k0 14 from f_h9 14 (by decide), show k0 14 14 = h8 14 14 from f_k0 14 14 (by omega), show h8 14 = h7 14 from f_h8 14 (by decide), show h7 14 = h6 14 from f_h7 14 (by decide), show h6 14 = h5 14 from f_h6 14 (by decide), show h5 14 = h4 14 from f_h5 14 (by decide), show h4 14 = h3 14 from f_h4 14 (by decide), show h3 14 = h2 14 from f_h3 14 (by decide), show h2 14 = h1 14 from f_h2 14 (by decide), show h1 14 = h 14 from f_h1 14 (by decide)]
      | k + 4 => simp [tw, lenT, show ¬ k + 4 < 4 by omega]
    | 1 =>
      by_cases hk : k < 8
      · simp only [tw, lenT, if_pos hk]
        show h12 2 k = h 15 k
        rw [show h12 2 = n2 2 from f_h12 2 (by decide), show n2 2 k = n1 2 k from f_n2 2 k (by omega), show n1 2 k = n0 2 k from f_n1 2 k (by omega), show n0 2 k = h11 2 k from f_n0 2 k (by omega), show h11 2 = h10 2 from f_h11 2 (by decide), show h10 2 = h9 2 from f_h10 2 (by decide), show h9 2 = k0 2 from f_h9 2 (by decide), show k0 2 k = h8 2 k from f_k0 2 k (by omega), show h8 2 = h7 2 from f_h8 2 (by decide), show h7 2 = h6 2 from f_h7 2 (by decide), show h6 2 = h5 2 from f_h6 2 (by decide), show h5 2 = h4 2 from f_h5 2 (by decide), show h4 2 = h3 2 from f_h4 2 (by decide), show h3 2 = h2 2 from f_h3 2 (by decide), show h2 2 = h1 2 from f_h2 2 (by decide), v_h1 k hk]
      · simp only [tw, lenT, if_neg hk]
    | 2 =>
      by_cases hk : k < 8
      · simp only [tw, lenT, if_pos hk]
        show h12 3 k = h 16 k
        rw [show h12 3 = n2 3 from f_h12 3 (by decide), show n2 3 k = n1 3 k from f_n2 3 k (by omega), show n1 3 k = n0 3 k from f_n1 3 k (by omega), show n0 3 k = h11 3 k from f_n0 3 k (by omega), show h11 3 = h10 3 from f_h11 3 (by decide), show h10 3 = h9 3 from f_h10 3 (by decide), show h9 3 = k0 3 from f_h9 3 (by decide), show k0 3 k = h8 3 k from f_k0 3 k (by omega), show h8 3 = h7 3 from f_h8 3 (by decide), show h7 3 = h6 3 from f_h7 3 (by decide), show h6 3 = h5 3 from f_h6 3 (by decide), show h5 3 = h4 3 from f_h5 3 (by decide), show h4 3 = h3 3 from f_h4 3 (by decide), show h3 3 = h2 3 from f_h3 3 (by decide), v_h2 k hk, show h1 16 = h 16 from f_h1 16 (by decide)]
      · simp only [tw, lenT, if_neg hk]
    | 3 =>
      by_cases hk : k < 10
      · simp only [tw, lenT, if_pos hk]
        show h12 4 k = h 17 k
        rw [show h12 4 = n2 4 from f_h12 4 (by decide), show n2 4 k = n1 4 k from f_n2 4 k (by omega), show n1 4 k = n0 4 k from f_n1 4 k (by omega), show n0 4 k = h11 4 k from f_n0 4 k (by omega), show h11 4 = h10 4 from f_h11 4 (by decide), show h10 4 = h9 4 from f_h10 4 (by decide), show h9 4 = k0 4 from f_h9 4 (by decide), show k0 4 k = h8 4 k from f_k0 4 k (by omega), show h8 4 = h7 4 from f_h8 4 (by decide), show h7 4 = h6 4 from f_h7 4 (by decide), show h6 4 = h5 4 from f_h6 4 (by decide), show h5 4 = h4 4 from f_h5 4 (by decide), show h4 4 = h3 4 from f_h4 4 (by decide), v_h3 k hk, show h2 17 = h1 17 from f_h2 17 (by decide), show h1 17 = h 17 from f_h1 17 (by decide)]
      · simp only [tw, lenT, if_neg hk]
    | 4 =>
      by_cases hk : k < 10
      · simp only [tw, lenT, if_pos hk]
        show h12 5 k = h 18 k
        rw [show h12 5 = n2 5 from f_h12 5 (by decide), show n2 5 k = n1 5 k from f_n2 5 k (by omega), show n1 5 k = n0 5 k from f_n1 5 k (by omega), show n0 5 k = h11 5 k from f_n0 5 k (by omega), show h11 5 = h10 5 from f_h11 5 (by decide), show h10 5 = h9 5 from f_h10 5 (by decide), show h9 5 = k0 5 from f_h9 5 (by decide), show k0 5 k = h8 5 k from f_k0 5 k (by omega), show h8 5 = h7 5 from f_h8 5 (by decide), show h7 5 = h6 5 from f_h7 5 (by decide), show h6 5 = h5 5 from f_h6 5 (by decide), show h5 5 = h4 5 from f_h5 5 (by decide), v_h4 k hk, show h3 18 = h2 18 from f_h3 18 (by decide), show h2 18 = h1 18 from f_h2 18 (by decide), show h1 18 = h 18 from f_h1 18 (by decide)]
      · simp only [tw, lenT, if_neg hk]
    | 5 =>
      by_cases hk : k < 10
      · simp only [tw, lenT, if_pos hk]
        show h12 6 k = h 19 k
        rw [show h12 6 = n2 6 from f_h12 6 (by decide), show n2 6 k = n1 6 k from f_n2 6 k (by omega), show n1 6 k = n0 6 k from f_n1 6 k (by omega), show n0 6 k = h11 6 k from f_n0 6 k (by omega), show h11 6 = h10 6 from f_h11 6 (by decide), show h10 6 = h9 6 from f_h10 6 (by decide), show h9 6 = k0 6 from f_h9 6 (by decide), show k0 6 k = h8 6 k from f_k0 6 k (by omega), show h8 6 = h7 6 from f_h8 6 (by decide), show h7 6 = h6 6 from f_h7 6 (by decide), show h6 6 = h5 6 from f_h6 6 (by decide), v_h5 k hk, show h4 19 = h3 19 from f_h4 19 (by decide), show h3 19 = h2 19 from f_h3 19 (by decide), show h2 19 = h1 19 from f_h2 19 (by decide), show h1 19 = h 19 from f_h1 19 (by decide)]
      · simp only [tw, lenT, if_neg hk]
    | 6 =>
      by_cases hk : k < 10
      · simp only [tw, lenT, if_pos hk]
        show h12 7 k = h 20 k
        rw [show h12 7 = n2 7 from f_h12 7 (by decide), show n2 7 k = n1 7 k from f_n2 7 k (by omega), show n1 7 k = n0 7 k from f_n1 7 k (by omega), show n0 7 k = h11 7 k from f_n0 7 k (by omega), show h11 7 = h10 7 from f_h11 7 (by decide), show h10 7 = h9 7 from f_h10 7 (by decide), show h9 7 = k0 7 from f_h9 7 (by decide), show k0 7 k = h8 7 k from f_k0 7 k (by omega), show h8 7 = h7 7 from f_h8 7 (by decide), show h7 7 = h6 7 from f_h7 7 (by decide), v_h6 k hk, show h5 20 = h4 20 from f_h5 20 (by decide), show h4 20 = h3 20 from f_h4 20 (by decide), show h3 20 = h2 20 from f_h3 20 (by decide), show h2 20 = h1 20 from f_h2 20 (by decide), show h1 20 = h 20 from f_h1 20 (by decide)]
      · simp only [tw, lenT, if_neg hk]
    | 7 =>
      by_cases hk : k < 10
      · simp only [tw, lenT, if_pos hk]
        show h12 8 k = h 21 k
        rw [show h12 8 = n2 8 from f_h12 8 (by decide), show n2 8 k = n1 8 k from f_n2 8 k (by omega), show n1 8 k = n0 8 k from f_n1 8 k (by omega), show n0 8 k = h11 8 k from f_n0 8 k (by omega), show h11 8 = h10 8 from f_h11 8 (by decide), show h10 8 = h9 8 from f_h10 8 (by decide), show h9 8 = k0 8 from f_h9 8 (by decide), show k0 8 k = h8 8 k from f_k0 8 k (by omega), show h8 8 = h7 8 from f_h8 8 (by decide), v_h7 k hk, show h6 21 = h5 21 from f_h6 21 (by decide), show h5 21 = h4 21 from f_h5 21 (by decide), show h4 21 = h3 21 from f_h4 21 (by decide), show h3 21 = h2 21 from f_h3 21 (by decide), show h2 21 = h1 21 from f_h2 21 (by decide), show h1 21 = h 21 from f_h1 21 (by decide)]
      · simp only [tw, lenT, if_neg hk]
    | 8 =>
      by_cases hk : k < 10
      · simp only [tw, lenT, if_pos hk]
        show h12 9 k = h 22 k
        rw [show h12 9 = n2 9 from f_h12 9 (by decide), show n2 9 k = n1 9 k from f_n2 9 k (by omega), show n1 9 k = n0 9 k from f_n1 9 k (by omega), show n0 9 k = h11 9 k from f_n0 9 k (by omega), show h11 9 = h10 9 from f_h11 9 (by decide), show h10 9 = h9 9 from f_h10 9 (by decide), show h9 9 = k0 9 from f_h9 9 (by decide), show k0 9 k = h8 9 k from f_k0 9 k (by omega), v_h8 k hk, show h7 22 = h6 22 from f_h7 22 (by decide), show h6 22 = h5 22 from f_h6 22 (by decide), show h5 22 = h4 22 from f_h5 22 (by decide), show h4 22 = h3 22 from f_h4 22 (by decide), show h3 22 = h2 22 from f_h3 22 (by decide), show h2 22 = h1 22 from f_h2 22 (by decide), show h1 22 = h 22 from f_h1 22 (by decide)]
      · simp only [tw, lenT, if_neg hk]
    | 9 =>
      by_cases hk : k < 6
      · simp only [tw, lenT, if_pos hk]
        show h12 10 k = h 23 k
        rw [show h12 10 = n2 10 from f_h12 10 (by decide), show n2 10 k = n1 10 k from f_n2 10 k (by omega), show n1 10 k = n0 10 k from f_n1 10 k (by omega), show n0 10 k = h11 10 k from f_n0 10 k (by omega), show h11 10 = h10 10 from f_h11 10 (by decide), show h10 10 = h9 10 from f_h10 10 (by decide), v_h9 k hk, show k0 23 k = h8 23 k from f_k0 23 k (by omega), show h8 23 = h7 23 from f_h8 23 (by decide), show h7 23 = h6 23 from f_h7 23 (by decide), show h6 23 = h5 23 from f_h6 23 (by decide), show h5 23 = h4 23 from f_h5 23 (by decide), show h4 23 = h3 23 from f_h4 23 (by decide), show h3 23 = h2 23 from f_h3 23 (by decide), show h2 23 = h1 23 from f_h2 23 (by decide), show h1 23 = h 23 from f_h1 23 (by decide)]
      · simp only [tw, lenT, if_neg hk]
    | 10 =>
      by_cases hk : k < 6
      · simp only [tw, lenT, if_pos hk]
        show h12 11 k = h 24 k
        rw [show h12 11 = n2 11 from f_h12 11 (by decide), show n2 11 k = n1 11 k from f_n2 11 k (by omega), show n1 11 k = n0 11 k from f_n1 11 k (by omega), show n0 11 k = h11 11 k from f_n0 11 k (by omega), show h11 11 = h10 11 from f_h11 11 (by decide), v_h10 k hk, show h9 24 = k0 24 from f_h9 24 (by decide), show k0 24 k = h8 24 k from f_k0 24 k (by omega), show h8 24 = h7 24 from f_h8 24 (by decide), show h7 24 = h6 24 from f_h7 24 (by decide), show h6 24 = h5 24 from f_h6 24 (by decide), show h5 24 = h4 24 from f_h5 24 (by decide), show h4 24 = h3 24 from f_h4 24 (by decide), show h3 24 = h2 24 from f_h3 24 (by decide), show h2 24 = h1 24 from f_h2 24 (by decide), show h1 24 = h 24 from f_h1 24 (by decide)]
      · simp only [tw, lenT, if_neg hk]
    | 11 =>
      by_cases hk : k < 6
      · simp only [tw, lenT, if_pos hk]
        show h12 12 k = h 25 k
        rw [show h12 12 = n2 12 from f_h12 12 (by decide), show n2 12 k = n1 12 k from f_n2 12 k (by omega), show n1 12 k = n0 12 k from f_n1 12 k (by omega), show n0 12 k = h11 12 k from f_n0 12 k (by omega), v_h11 k hk, show h10 25 = h9 25 from f_h10 25 (by decide), show h9 25 = k0 25 from f_h9 25 (by decide), show k0 25 k = h8 25 k from f_k0 25 k (by omega), show h8 25 = h7 25 from f_h8 25 (by decide), show h7 25 = h6 25 from f_h7 25 (by decide), show h6 25 = h5 25 from f_h6 25 (by decide), show h5 25 = h4 25 from f_h5 25 (by decide), show h4 25 = h3 25 from f_h4 25 (by decide), show h3 25 = h2 25 from f_h3 25 (by decide), show h2 25 = h1 25 from f_h2 25 (by decide), show h1 25 = h 25 from f_h1 25 (by decide)]
      · simp only [tw, lenT, if_neg hk]
    | 12 =>
      by_cases hk : k < 10
      · simp only [tw, lenT, if_pos hk]
        show h12 13 k = h 26 k
        rw [v_h12 k hk, show n2 26 k = n1 26 k from f_n2 26 k (by omega), show n1 26 k = n0 26 k from f_n1 26 k (by omega), show n0 26 k = h11 26 k from f_n0 26 k (by omega), show h11 26 = h10 26 from f_h11 26 (by decide), show h10 26 = h9 26 from f_h10 26 (by decide), show h9 26 = k0 26 from f_h9 26 (by decide), show k0 26 k = h8 26 k from f_k0 26 k (by omega), show h8 26 = h7 26 from f_h8 26 (by decide), show h7 26 = h6 26 from f_h7 26 (by decide), show h6 26 = h5 26 from f_h6 26 (by decide), show h5 26 = h4 26 from f_h5 26 (by decide), show h4 26 = h3 26 from f_h4 26 (by decide), show h3 26 = h2 26 from f_h3 26 (by decide), show h2 26 = h1 26 from f_h2 26 (by decide), show h1 26 = h 26 from f_h1 26 (by decide)]
      · simp only [tw, lenT, if_neg hk]
    | j + 13 => simp only [tw, lenT, if_neg (Nat.not_lt_zero _)]
  · intro a ha
    funext k
    rw [show h12 a = n2 a from f_h12 a (by omega), show n2 a k = n1 a k from f_n2 a k (Or.inl (by omega)), show n1 a k = n0 a k from f_n1 a k (Or.inl (by omega)), show n0 a k = h11 a k from f_n0 a k (Or.inl (by omega)), show h11 a = h10 a from f_h11 a (by omega), show h10 a = h9 a from f_h10 a (by omega), show h9 a = k0 a from f_h9 a (by omega), show k0 a k = h8 a k from f_k0 a k (Or.inl (by omega)), show h8 a = h7 a from f_h8 a (by omega), show h7 a = h6 a from f_h7 a (by omega), show h6 a = h5 a from f_h6 a (by omega), show h5 a = h4 a from f_h5 a (by omega), show h4 a = h3 a from f_h4 a (by omega), show h3 a = h2 a from f_h3 a (by omega), show h2 a = h1 a from f_h2 a (by omega), show h1 a = h a from f_h1 a (by omega)]
set_option maxRecDepth 100000 in
set_option maxHeartbeats 400000 in
theorem tX4_addPromise_1 (h : aH) (g : aG) (ht : TOk (tw h 1)) (hp : nP (tw h 1) < 10) (k c s t n co : Int32) : MX mX4_addPromise 1 [.ref 1, .int k, .int c, .int s, .int t, .int n, .int co] h g (fun r h' g' => r = [] ∧ g' = g ∧ tw h' 1 = adP (tw h 1) (nP (tw h 1)) k c s t n co ∧ (∀ a, a < 1 ∨ 13 < a → h' a = h a)) := by
  have eP : h 1 8 = nI (nP (tw h 1)) := ht.np.2
  generalize hPn : nP (tw h 1) = P at hp eP ⊢
  have fin : ∀ h' : aH, h' = up2 (up2 (up2 (up2 (up2 (up2 (up2 h (1 + 3) P k) (1 + 4) P c) (1 + 5) P s) (1 + 6) P t) (1 + 7) P n) (1 + 8) P co) 1 8 (nI (P + 1)) → tw h' 1 = adP (tw h 1) P k c s t n co ∧ (∀ a, a < 1 ∨ 1 + 12 < a → h' a = h a) := by
    rintro h' rfl
    refine ⟨?_, fun a ha => ?_⟩
    · rw [tw_c (k := 0) (Or.inl ⟨rfl, rfl⟩), tw_row (by decide) (by exact hp), tw_row (by decide) (by exact hp), tw_row (by decide) (by exact hp), tw_row (by decide) (by exact hp), tw_row (by decide) (by exact hp), tw_row (by decide) (by exact hp)]
      rfl
    · iterate 7 rw [up2_row (by omega)]
  · have cP : (h 1 8).toNatClampNeg = P := by rw [eP]; exact cl10 (by omega)
    have hin : vp_in (h 1 8) 10 := by rw [eP]; exact in10 hp (by decide)
    refine MX.of okX4_addPromise (by decide +kernel) (Nat.le_of_ble_eq_true rfl) (by decide) rfl (by decide) ?_
    refine SegP.run [] 400 ?_
    refine And.intro (fun z => ?_) (fun z => ?_)
    · exact absurd (show nI P < 0 by rw [← eP]; exact z) (nI_pos (by omega))
    refine And.intro (fun z => ?_) (fun z => ?_)
    · refine And.intro hin ?_
      refine And.intro hin ?_
      refine And.intro hin ?_
      refine And.intro hin ?_
      refine And.intro hin ?_
      refine And.intro hin ?_
      refine And.intro (fun z => by cases z) ?_
      refine SegP.ret ⟨rfl, rfl, fin _ ?_⟩
      simp only [cP, up2_o (show (1 : Nat) ≠ 1 + 3 by decide), up2_o (show (1 : Nat) ≠ 1 + 4 by decide), up2_o (show (1 : Nat) ≠ 1 + 5 by decide), up2_o (show (1 : Nat) ≠ 1 + 6 by decide), up2_o (show (1 : Nat) ≠ 1 + 7 by decide), up2_o (show (1 : Nat) ≠ 1 + 8 by decide), eP, nI_succ, cl10 (show P < 256 by omega)]
    · exact absurd (show nI P < nI 10 from nI_lt hp (by decide)) (by rw [← eP]; exact z)
set_option maxRecDepth 100000 in
set_option maxHeartbeats 400000 in
theorem tX4_addPromise_30 (h : aH) (g : aG) (ht : TOk (tw h 30)) (hp : nP (tw h 30) < 10) (k c s t n co : Int32) : MX mX4_addPromise 1 [.ref 30, .int k, .int c, .int s, .int t, .int n, .int co] h g (fun r h' g' => r = [] ∧ g' = g ∧ tw h' 30 = adP (tw h 30) (nP (tw h 30)) k c s t n co ∧ (∀ a, a < 30 ∨ 42 < a → h' a = h a)) := by
  have eP : h 30 8 = nI (nP (tw h 30)) := ht.np.2
  generalize hPn : nP (tw h 30) = P at hp eP ⊢
  have fin : ∀ h' : aH, h' = up2 (up2 (up2 (up2 (up2 (up2 (up2 h (30 + 3) P k) (30 + 4) P c) (30 + 5) P s) (30 + 6) P t) (30 + 7) P n) (30 + 8) P co) 30 8 (nI (P + 1)) → tw h' 30 = adP (tw h 30) P k c s t n co ∧ (∀ a, a < 30 ∨ 30 + 12 < a → h' a = h a) := by
    rintro h' rfl
    refine ⟨?_, fun a ha => ?_⟩
    · rw [tw_c (k := 0) (Or.inl ⟨rfl, rfl⟩), tw_row (by decide) (by exact hp), tw_row (by decide) (by exact hp), tw_row (by decide) (by exact hp), tw_row (by decide) (by exact hp), tw_row (by decide) (by exact hp), tw_row (by decide) (by exact hp)]
      rfl
    · iterate 7 rw [up2_row (by omega)]
  · have cP : (h 30 8).toNatClampNeg = P := by rw [eP]; exact cl10 (by omega)
    have hin : vp_in (h 30 8) 10 := by rw [eP]; exact in10 hp (by decide)
    refine MX.of okX4_addPromise (by decide +kernel) (Nat.le_of_ble_eq_true rfl) (by decide) rfl (by decide) ?_
    refine SegP.run [] 400 ?_
    refine And.intro (fun z => ?_) (fun z => ?_)
    · exact absurd (show nI P < 0 by rw [← eP]; exact z) (nI_pos (by omega))
    refine And.intro (fun z => ?_) (fun z => ?_)
    · refine And.intro hin ?_
      refine And.intro hin ?_
      refine And.intro hin ?_
      refine And.intro hin ?_
      refine And.intro hin ?_
      refine And.intro hin ?_
      refine And.intro (fun z => by cases z) ?_
      refine SegP.ret ⟨rfl, rfl, fin _ ?_⟩
      simp only [cP, up2_o (show (30 : Nat) ≠ 30 + 3 by decide), up2_o (show (30 : Nat) ≠ 30 + 4 by decide), up2_o (show (30 : Nat) ≠ 30 + 5 by decide), up2_o (show (30 : Nat) ≠ 30 + 6 by decide), up2_o (show (30 : Nat) ≠ 30 + 7 by decide), up2_o (show (30 : Nat) ≠ 30 + 8 by decide), eP, nI_succ, cl10 (show P < 256 by omega)]
    · exact absurd (show nI P < nI 10 from nI_lt hp (by decide)) (by rw [← eP]; exact z)
set_option maxRecDepth 100000 in
set_option maxHeartbeats 400000 in
theorem tX4_addNeed_1 (h : aH) (g : aG) (ht : TOk (tw h 1)) (hp : nN (tw h 1) < 6) (t n w : Int32) : MX mX4_addNeed 1 [.ref 1, .int t, .int n, .int w] h g (fun r h' g' => r = [] ∧ g' = g ∧ tw h' 1 = adN (tw h 1) (nN (tw h 1)) t n w ∧ (∀ a, a < 1 ∨ 13 < a → h' a = h a)) := by
  have eP : h 1 12 = nI (nN (tw h 1)) := ht.nn.2
  generalize hPn : nN (tw h 1) = P at hp eP ⊢
  have fin : ∀ h' : aH, h' = up2 (up2 (up2 (up2 h (1 + 9) P t) (1 + 10) P n) (1 + 11) P w) 1 12 (nI (P + 1)) → tw h' 1 = adN (tw h 1) P t n w ∧ (∀ a, a < 1 ∨ 1 + 12 < a → h' a = h a) := by
    rintro h' rfl
    refine ⟨?_, fun a ha => ?_⟩
    · rw [tw_c (k := 1) (Or.inr (Or.inl ⟨rfl, rfl⟩)), tw_row (by decide) (by exact hp), tw_row (by decide) (by exact hp), tw_row (by decide) (by exact hp)]
      rfl
    · iterate 4 rw [up2_row (by omega)]
  · have cP : (h 1 12).toNatClampNeg = P := by rw [eP]; exact cl10 (by omega)
    have hin : vp_in (h 1 12) 6 := by rw [eP]; exact in10 hp (by decide)
    refine MX.of okX4_addNeed (by decide +kernel) (Nat.le_of_ble_eq_true rfl) (by decide) rfl (by decide) ?_
    refine SegP.run [] 400 ?_
    refine And.intro (fun z => ?_) (fun z => ?_)
    · exact absurd (show nI P < 0 by rw [← eP]; exact z) (nI_pos (by omega))
    refine And.intro (fun z => ?_) (fun z => ?_)
    · refine And.intro hin ?_
      refine And.intro hin ?_
      refine And.intro hin ?_
      refine And.intro (fun z => by cases z) ?_
      refine SegP.ret ⟨rfl, rfl, fin _ ?_⟩
      simp only [cP, up2_o (show (1 : Nat) ≠ 1 + 9 by decide), up2_o (show (1 : Nat) ≠ 1 + 10 by decide), up2_o (show (1 : Nat) ≠ 1 + 11 by decide), eP, nI_succ, cl10 (show P < 256 by omega)]
    · exact absurd (show nI P < nI 6 from nI_lt hp (by decide)) (by rw [← eP]; exact z)
set_option maxRecDepth 100000 in
set_option maxHeartbeats 400000 in
theorem tX4_addNeed_30 (h : aH) (g : aG) (ht : TOk (tw h 30)) (hp : nN (tw h 30) < 6) (t n w : Int32) : MX mX4_addNeed 1 [.ref 30, .int t, .int n, .int w] h g (fun r h' g' => r = [] ∧ g' = g ∧ tw h' 30 = adN (tw h 30) (nN (tw h 30)) t n w ∧ (∀ a, a < 30 ∨ 42 < a → h' a = h a)) := by
  have eP : h 30 12 = nI (nN (tw h 30)) := ht.nn.2
  generalize hPn : nN (tw h 30) = P at hp eP ⊢
  have fin : ∀ h' : aH, h' = up2 (up2 (up2 (up2 h (30 + 9) P t) (30 + 10) P n) (30 + 11) P w) 30 12 (nI (P + 1)) → tw h' 30 = adN (tw h 30) P t n w ∧ (∀ a, a < 30 ∨ 30 + 12 < a → h' a = h a) := by
    rintro h' rfl
    refine ⟨?_, fun a ha => ?_⟩
    · rw [tw_c (k := 1) (Or.inr (Or.inl ⟨rfl, rfl⟩)), tw_row (by decide) (by exact hp), tw_row (by decide) (by exact hp), tw_row (by decide) (by exact hp)]
      rfl
    · iterate 4 rw [up2_row (by omega)]
  · have cP : (h 30 12).toNatClampNeg = P := by rw [eP]; exact cl10 (by omega)
    have hin : vp_in (h 30 12) 6 := by rw [eP]; exact in10 hp (by decide)
    refine MX.of okX4_addNeed (by decide +kernel) (Nat.le_of_ble_eq_true rfl) (by decide) rfl (by decide) ?_
    refine SegP.run [] 400 ?_
    refine And.intro (fun z => ?_) (fun z => ?_)
    · exact absurd (show nI P < 0 by rw [← eP]; exact z) (nI_pos (by omega))
    refine And.intro (fun z => ?_) (fun z => ?_)
    · refine And.intro hin ?_
      refine And.intro hin ?_
      refine And.intro hin ?_
      refine And.intro (fun z => by cases z) ?_
      refine SegP.ret ⟨rfl, rfl, fin _ ?_⟩
      simp only [cP, up2_o (show (30 : Nat) ≠ 30 + 9 by decide), up2_o (show (30 : Nat) ≠ 30 + 10 by decide), up2_o (show (30 : Nat) ≠ 30 + 11 by decide), eP, nI_succ, cl10 (show P < 256 by omega)]
    · exact absurd (show nI P < nI 6 from nI_lt hp (by decide)) (by rw [← eP]; exact z)
set_option maxRecDepth 100000 in
set_option maxHeartbeats 400000 in
theorem tX4_setPart (h : aH) (g : aG) (p w : Nat) (hp : p < 10) (hw : w < 6) (v : Int32) : MS mX4_setPart 1 [.ref 1, .int (nI p), .int (nI w), .int v] h g [] (up2 h (1 + (3 + w)) p v) g := by
  have cp := cl10 (p := p) (by omega)
  have hi := in10 hp (by decide)
  have ex : ∀ {a : Nat}, nI w = nI a → a < 6 → w = a := fun z ha => (nI_eq (by omega) (by omega)).mp z
  refine MS.of okX4_setPart (by decide +kernel) (Nat.le_of_ble_eq_true rfl) (by decide) rfl (by decide) ?_
  refine Seg.run [] 400 ?_
  refine And.intro (fun k0 => ?_) (fun k0 => ?_)
  · obtain rfl := ex (a := 0) k0 (by decide)
    exact And.intro hi (Seg.of (by rw [cp]))
  refine And.intro (fun k1 => ?_) (fun k1 => ?_)
  · obtain rfl := ex (a := 1) k1 (by decide)
    exact And.intro hi (Seg.of (by rw [cp]))
  refine And.intro (fun k2 => ?_) (fun k2 => ?_)
  · obtain rfl := ex (a := 2) k2 (by decide)
    exact And.intro hi (Seg.of (by rw [cp]))
  refine And.intro (fun k3 => ?_) (fun k3 => ?_)
  · obtain rfl := ex (a := 3) k3 (by decide)
    exact And.intro hi (Seg.of (by rw [cp]))
  refine And.intro (fun k4 => ?_) (fun k4 => ?_)
  · obtain rfl := ex (a := 4) k4 (by decide)
    exact And.intro hi (Seg.of (by rw [cp]))
  have : w = 5 := by
    rcases (show w = 0 ∨ w = 1 ∨ w = 2 ∨ w = 3 ∨ w = 4 ∨ w = 5 by omega) with rfl | rfl | rfl | rfl | rfl | rfl
    · exact absurd rfl k0
    · exact absurd rfl k1
    · exact absurd rfl k2
    · exact absurd rfl k3
    · exact absurd rfl k4
    · rfl
  subst this
  exact And.intro hi (Seg.of (by rw [cp]))
/-- the class's memory with the latest promise dropped, of the spots the first i looked at -/
def dlH (h : aH) (p i : Nat) : aH := fun a k => if a = 13 ∧ k < i then (if h 13 k = nI p then -1 else h 13 k) else up2 h 1 8 (nI p) a k
theorem dlH_0 {h : aH} {p : Nat} : dlH h p 0 = up2 h 1 8 (nI p) := by
  funext a k
  simp [dlH]
theorem dlH_s1 {h : aH} {p i : Nat} (e : h 13 i = nI p) : up2 (dlH h p i) 13 i (-1) = dlH h p (i + 1) := by
  funext a k
  simp only [up2, dlH]
  by_cases ha : a = 13
  · subst ha
    by_cases h1 : k = i
    · subst h1; simp [e]
    · by_cases h2 : k < i
      · simp [h1, h2, show k < i + 1 by omega]
      · simp [h1, h2, show ¬ k < i + 1 by omega]
  · simp [ha]
theorem dlH_s0 {h : aH} {p i : Nat} (e : ¬ h 13 i = nI p) : dlH h p i = dlH h p (i + 1) := by
  funext a k
  simp only [up2, dlH]
  by_cases ha : a = 13
  · subst ha
    by_cases h1 : k = i
    · subst h1; simp [e]
    · by_cases h2 : k < i
      · simp [h2, show k < i + 1 by omega]
      · simp [h2, show ¬ k < i + 1 by omega]
  · simp [ha]
theorem dlH_i {h : aH} {p i : Nat} : dlH h p i 13 i = h 13 i := by simp [dlH, up2]
theorem dlH_8 {h : aH} {p i : Nat} : dlH h p i 1 8 = nI p := by simp [dlH, up2]
theorem dlH_tw {h : aH} {p : Nat} : tw (dlH h p 10) 1 = drU (tw h 1) p 10 := by
  funext j k
  match j with
  | 0 => match k with
    | 0 => simp [tw, lenT, drU, dlH, up2]
    | 1 => simp [tw, lenT, drU, dlH, up2]
    | 2 => simp [tw, lenT, drU, dlH, up2]
    | 3 => simp [tw, lenT, drU, dlH, up2]
    | k + 4 => simp [tw, lenT, drU, dlH, up2]
  | 12 =>
    by_cases hk : k < 10
    · simp only [tw, lenT, drU, dlH, if_pos hk, hk, and_self, and_true, if_true, true_and, reduceIte, Nat.reduceAdd]
    · simp [tw, lenT, drU, dlH, hk, up2]
  | 1 => simp [tw, drU, dlH, up2]
  | 2 => simp [tw, drU, dlH, up2]
  | 3 => simp [tw, drU, dlH, up2]
  | 4 => simp [tw, drU, dlH, up2]
  | 5 => simp [tw, drU, dlH, up2]
  | 6 => simp [tw, drU, dlH, up2]
  | 7 => simp [tw, drU, dlH, up2]
  | 8 => simp [tw, drU, dlH, up2]
  | 9 => simp [tw, drU, dlH, up2]
  | 10 => simp [tw, drU, dlH, up2]
  | 11 => simp [tw, drU, dlH, up2]
  | j + 13 => simp [tw, lenT, drU, up2]
set_option maxRecDepth 100000 in
set_option maxHeartbeats 400000 in
theorem tX4_dropLatest (h : aH) (g : aG) (p : Nat) (hp : p < 10) (eP : h 1 8 = nI (p + 1)) : MS mX4_dropLatest 1 [.ref 1] h g [] (dlH h p 10) g := by
  refine MS.of okX4_dropLatest (by decide +kernel) (Nat.le_of_ble_eq_true rfl) (by decide) rfl (by decide) ?_
  refine Seg.run [20] 400 ?_
  refine And.intro (fun z => ?_) (fun z => ?_)
  · refine And.intro (fun z => by cases z) ?_
    refine Seg.tr (b := (20, [some (.ref 1), some (.int (nI 0))], [], nW, dlH h p 0, g, ρ)) (Seg.of (by rw [dlH_0, eP, nI_pred] <;> rfl)) ?_
    refine Seg.tr (Seg.iter (fun i => (20, [some (.ref 1), some (.int (nI i))], [], nW, dlH h p i, g, ρ)) 10 (fun i hi => ?_)) ?_
    · have ci := cl10 (p := i) (by omega)
      refine Seg.run [20] 400 ?_
      refine And.intro (fun c => ?_) (fun c => ?_)
      · exact (lim_ge (N := 10) hi (by decide) c).elim
      refine And.intro (in10 hi (by decide)) ?_
      rw [ci, dlH_i]
      refine And.intro (fun d => ?_) (fun d => ?_)
      · rw [dlH_8] at d
        exact Seg.of (by rw [dlH_s0 d, nI_succ] <;> rfl)
      · rw [dlH_8] at d
        refine And.intro (in10 hi (by decide)) ?_
        exact Seg.of (by rw [ci, dlH_s1 (Decidable.not_not.mp d), nI_succ] <;> rfl)
    · refine Seg.run [] 400 ?_
      refine And.intro (fun c => ?_) (fun c => ?_)
      · exact Seg.rf
      · exact (lim_le (N := 10) (Nat.le_refl _) (by decide) c).elim
  · exact absurd (show 0 < h 1 8 by rw [eP]; exact nI_lt (Nat.succ_pos p) (by omega)) z
