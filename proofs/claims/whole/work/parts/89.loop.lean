/-! ===== the law: its loop; printed by wip/whole/gen89.py ===== -/
theorem lw_go {i L : Nat} (hL : L ≤ 3072) (hi : i < 2 ^ 31) (z : ¬ nI L - 6 < nI i) : i + 6 ≤ L := by
  rcases Nat.lt_or_ge L 6 with y | y
  · exact absurd (Int32.lt_of_lt_of_le (show nI L - 6 < 0 by rcases (show L = 0 ∨ L = 1 ∨ L = 2 ∨ L = 3 ∨ L = 4 ∨ L = 5 by omega) with rfl | rfl | rfl | rfl | rfl | rfl <;> decide) (nI_pos' hi)) z
  · have e : nI L - 6 = nI (L - 6) := nI_sb (b := 6) y
    rcases Nat.lt_or_ge (L - 6) i with w | w
    · exact absurd (by rw [e]; exact nI_lt w hi) z
    · omega
set_option maxRecDepth 100000 in
set_option maxHeartbeats 4000000 in
theorem lw_loop {L : Nat} {xs : Nat → Int32} (hL : L ≤ 3072) : ∀ d i (V : aV) (h : aH) (g : aG), L ≤ i + d → i ≤ L → CV h V → MV h V → VOk V → SegP (mL_law L xs) 12 (18, [some (.ref 400), some (.ref 0), some (.ref 63), some (.int (nI i))], [], nW, h, g, ρ) (fun c => ∃ M : aMem, c = (aRET, [], [.int 1], nW, M)) := by
  intro d
  induction d with
  | zero =>
    intro i V h g hd hiL hC hM hV
    refine SegP.run [1653] 400 ?_
    refine And.intro (fun _ => ?_) (fun z => absurd (lw_go hL (by omega) z) (by omega))
    refine SegP.run [] 400 ?_
    exact And.intro (Or.inr rfl) (SegP.rf ⟨_, rfl⟩)
  | succ d ih =>
    intro i V h g hd hiL hC hM hV
    refine SegP.run [27, 1653] 400 ?_
    refine And.intro (fun _ => ?_) (fun z => ?_)
    case refine_1 =>
      refine SegP.run [] 400 ?_
      exact And.intro (Or.inr rfl) (SegP.rf ⟨_, rfl⟩)
    have hi : i + 6 ≤ L := lw_go hL (by omega) z
    have k : ∀ V' h' g', CV h' V' → MV h' V' → VOk V' → SegP (mL_law L xs) 12 (1647, [some (.ref 400), some (.ref 0), some (.ref 63), some (.int (nI i))], [], nW, h', g', ρ) (fun c => ∃ M : aMem, c = (aRET, [], [.int 1], nW, M)) := by
      intro V' h' g' hC' hM' hV'
      refine SegP.run [18] 400 ?_
      have e6 : nI i + 6 = nI (i + 6) := nI_ad i 6
      refine SegP.tr (Seg.of (b := (18, [some (.ref 400), some (.ref 0), some (.ref 63), some (.int (nI (i + 6)))], [], nW, h', g', ρ)) (by rw [← e6] <;> rfl)) ?_
      exact ih (i + 6) V' h' g' (by omega) hi hC' hM' hV'
    refine SegP.run [1647, 236, 269, 282, 295, 338, 391, 424, 467, 480, 523, 556, 569, 592, 605, 628, 661, 684, 707, 740, 793, 836, 869, 902, 935, 978, 1001, 1044, 1087, 1130, 1143, 1156, 1179, 1202, 1235, 1278, 1301, 1334, 1367, 1410, 1453, 1516, 1539, 1562, 1575, 1588, 1601, 1624] 400 ?_
    refine And.intro (show vp_in (nI i) L from vp_in_nI (by omega) (by omega)) ?_
    refine And.intro (fun _ => lw_feed hC hM hV hi hL k) (fun _ => ?_)
    refine And.intro (fun _ => lw_wipe hC hM hV hi hL k) (fun _ => ?_)
    refine And.intro (fun _ => lw_town hC hM hV hi hL k) (fun _ => ?_)
    refine And.intro (fun _ => lw_coin hC hM hV hi hL k) (fun _ => ?_)
    refine And.intro (fun _ => lw_promise hC hM hV hi hL k) (fun _ => ?_)
    refine And.intro (fun _ => lw_promiseOf hC hM hV hi hL k) (fun _ => ?_)
    refine And.intro (fun _ => lw_change hC hM hV hi hL k) (fun _ => ?_)
    refine And.intro (fun _ => lw_drop hC hM hV hi hL k) (fun _ => ?_)
    refine And.intro (fun _ => lw_need hC hM hV hi hL k) (fun _ => ?_)
    refine And.intro (fun _ => lw_needOf hC hM hV hi hL k) (fun _ => ?_)
    refine And.intro (fun _ => lw_cast hC hM hV hi hL k) (fun _ => ?_)
    refine And.intro (fun _ => lw_lay hC hM hV hi hL k) (fun _ => ?_)
    refine And.intro (fun _ => lw_kept hC hM hV hi hL k) (fun _ => ?_)
    refine And.intro (fun _ => lw_owes hC hM hV hi hL k) (fun _ => ?_)
    refine And.intro (fun _ => lw_brings hC hM hV hi hL k) (fun _ => ?_)
    refine And.intro (fun _ => lw_met hC hM hV hi hL k) (fun _ => ?_)
    refine And.intro (fun _ => lw_weight hC hM hV hi hL k) (fun _ => ?_)
    refine And.intro (fun _ => lw_chance hC hM hV hi hL k) (fun _ => ?_)
    refine And.intro (fun _ => lw_joint hC hM hV hi hL k) (fun _ => ?_)
    refine And.intro (fun _ => lw_sure hC hM hV hi hL k) (fun _ => ?_)
    refine And.intro (fun _ => lw_all hC hM hV hi hL k) (fun _ => ?_)
    refine And.intro (fun _ => lw_mean hC hM hV hi hL k) (fun _ => ?_)
    refine And.intro (fun _ => lw_worth hC hM hV hi hL k) (fun _ => ?_)
    refine And.intro (fun _ => lw_harm hC hM hV hi hL k) (fun _ => ?_)
    refine And.intro (fun _ => lw_likely hC hM hV hi hL k) (fun _ => ?_)
    refine And.intro (fun _ => lw_fewest hC hM hV hi hL k) (fun _ => ?_)
    refine And.intro (fun _ => lw_cheapest hC hM hV hi hL k) (fun _ => ?_)
    refine And.intro (fun _ => lw_most hC hM hV hi hL k) (fun _ => ?_)
    refine And.intro (fun _ => lw_best hC hM hV hi hL k) (fun _ => ?_)
    refine And.intro (fun _ => lw_helps hC hM hV hi hL k) (fun _ => ?_)
    refine And.intro (fun _ => lw_hangs hC hM hV hi hL k) (fun _ => ?_)
    refine And.intro (fun _ => lw_asks hC hM hV hi hL k) (fun _ => ?_)
    refine And.intro (fun _ => lw_apart hC hM hV hi hL k) (fun _ => ?_)
    refine And.intro (fun _ => lw_tries hC hM hV hi hL k) (fun _ => ?_)
    refine And.intro (fun _ => lw_seed hC hM hV hi hL k) (fun _ => ?_)
    refine And.intro (fun _ => lw_hold hC hM hV hi hL k) (fun _ => ?_)
    refine And.intro (fun _ => lw_as hC hM hV hi hL k) (fun _ => ?_)
    refine And.intro (fun _ => lw_sheet hC hM hV hi hL k) (fun _ => ?_)
    refine And.intro (fun _ => lw_write hC hM hV hi hL k) (fun _ => ?_)
    refine And.intro (fun _ => lw_copy hC hM hV hi hL k) (fun _ => ?_)
    refine And.intro (fun _ => lw_load hC hM hV hi hL k) (fun _ => ?_)
    refine And.intro (fun _ => lw_judge hC hM hV hi hL k) (fun _ => ?_)
    refine And.intro (fun _ => lw_image hC hM hV hi hL k) (fun _ => ?_)
    refine And.intro (fun _ => lw_undo hC hM hV hi hL k) (fun _ => ?_)
    refine And.intro (fun _ => lw_tear hC hM hV hi hL k) (fun _ => ?_)
    refine And.intro (fun _ => lw_count hC hM hV hi hL k) (fun _ => ?_)
    refine And.intro (fun _ => lw_status hC hM hV hi hL k) (fun _ => ?_)
    exact k V h g hC hM hV
