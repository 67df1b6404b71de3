/-! ===== what each public method leaves is as it must be; printed by wip/whole/gen87.py ===== -/
theorem oV_promiseOf {V : aV} (hV : VOk V) (p w : Int32) : VOk (sp_promiseOf V p w).2 := by
  unfold sp_promiseOf
  repeat' split
  all_goals exact hV
theorem oV_kept {V : aV} (hV : VOk V)  : VOk (sp_kept V ).2 := by
  unfold sp_kept
  repeat' split
  all_goals exact hV
theorem oV_owes {V : aV} (hV : VOk V) (p : Int32) : VOk (sp_owes V p).2 := by
  unfold sp_owes
  repeat' split
  all_goals exact hV
theorem oV_met {V : aV} (hV : VOk V) (p : Int32) : VOk (sp_met V p).2 := by
  unfold sp_met
  repeat' split
  all_goals exact hV
theorem oV_brings {V : aV} (hV : VOk V) (p t : Int32) : VOk (sp_brings V p t).2 := by
  unfold sp_brings
  repeat' split
  all_goals exact hV
theorem oV_weight {V : aV} (hV : VOk V) (c : Int32) : VOk (sp_weight V c).2 := by
  unfold sp_weight
  repeat' split
  all_goals exact hV
theorem oV_needOf {V : aV} (hV : VOk V) (p w : Int32) : VOk (sp_needOf V p w).2 := by
  unfold sp_needOf
  repeat' split
  all_goals exact hV
theorem oV_as {V : aV} (hV : VOk V) (s k : Int32) : VOk (sp_as V s k).2 := by
  unfold sp_as
  repeat' split
  all_goals exact hV
theorem oV_count {V : aV} (hV : VOk V) (w : Int32) : VOk (sp_count V w).2 := by
  unfold sp_count
  repeat' split
  all_goals exact hV
theorem oV_status {V : aV} (hV : VOk V) (w : Int32) : VOk (sp_status V w).2 := by
  unfold sp_status
  repeat' split
  all_goals exact hV
theorem oV_chance {V : aV} (hV : VOk V) (p part : Int32) : VOk (sp_chance V p part).2 := by
  unfold sp_chance
  repeat' split
  all_goals exact hV
theorem oV_joint {V : aV} (hV : VOk V) (a b w part : Int32) : VOk (sp_joint V a b w part).2 := by
  unfold sp_joint
  repeat' split
  all_goals exact hV
theorem oV_sure {V : aV} (hV : VOk V) (k p part : Int32) : VOk (sp_sure V k p part).2 := by
  unfold sp_sure
  repeat' split
  all_goals exact hV
theorem oV_all {V : aV} (hV : VOk V) (p part : Int32) : VOk (sp_all V p part).2 := by
  unfold sp_all
  repeat' split
  all_goals exact hV
theorem oV_mean {V : aV} (hV : VOk V) (p part : Int32) : VOk (sp_mean V p part).2 := by
  unfold sp_mean
  repeat' split
  all_goals exact hV
theorem oV_worth {V : aV} (hV : VOk V) (p part : Int32) : VOk (sp_worth V p part).2 := by
  unfold sp_worth
  repeat' split
  all_goals exact hV
theorem oV_harm {V : aV} (hV : VOk V) (p m part : Int32) : VOk (sp_harm V p m part).2 := by
  unfold sp_harm
  repeat' split
  all_goals exact hV
theorem oV_likely {V : aV} (hV : VOk V) (p : Int32) : VOk (sp_likely V p).2 := by
  unfold sp_likely
  repeat' split
  all_goals exact hV
theorem oV_fewest {V : aV} (hV : VOk V) (k a b : Int32) : VOk (sp_fewest V k a b).2 := by
  unfold sp_fewest
  repeat' split
  all_goals exact hV
theorem oV_cheapest {V : aV} (hV : VOk V) (k a b : Int32) : VOk (sp_cheapest V k a b).2 := by
  unfold sp_cheapest
  repeat' split
  all_goals exact hV
theorem oV_most {V : aV} (hV : VOk V) (m a b : Int32) : VOk (sp_most V m a b).2 := by
  unfold sp_most
  repeat' split
  all_goals exact hV
theorem oV_best {V : aV} (hV : VOk V)  : VOk (sp_best V ).2 := by
  unfold sp_best
  repeat' split
  all_goals exact hV
theorem oV_helps {V : aV} (hV : VOk V)  : VOk (sp_helps V ).2 := by
  unfold sp_helps
  repeat' split
  all_goals exact hV
theorem oV_hangs {V : aV} (hV : VOk V) (c : Int32) : VOk (sp_hangs V c).2 := by
  unfold sp_hangs
  repeat' split
  all_goals exact hV
theorem oV_asks {V : aV} (hV : VOk V) (p : Int32) : VOk (sp_asks V p).2 := by
  unfold sp_asks
  repeat' split
  all_goals exact hV
theorem oV_apart {V : aV} (hV : VOk V) (a b : Int32) : VOk (sp_apart V a b).2 := by
  unfold sp_apart
  repeat' split
  all_goals exact hV
theorem oV_judge {V : aV} (hV : VOk V) (s : Int32) : VOk (sp_judge V s).2 := by
  unfold sp_judge
  repeat' split
  all_goals exact hV
theorem oV_coin {V : aV} (hV : VOk V) (c a b : Int32) : VOk (sp_coin V c a b).2 := by
  unfold sp_coin
  split
  case isFalse => exact hV
  case isTrue w =>
    obtain ⟨b', hb, rfl⟩ := rng (a := 1) (b := 6) (by decide) (show nI 1 ≤ b ∧ b ≤ nI 6 from w.2.1) (by decide)
    obtain ⟨a', ha, rfl⟩ := rng (a := 0) (b := b') (by omega) (show nI 0 ≤ a ∧ a ≤ nI b' from w.2.2) (by omega)
    exact hV.tn (hV.1.coin ⟨ha.2, hb.1, hb.2⟩)
theorem oV_lay {V : aV} (hV : VOk V) (c : Int32) : VOk (sp_lay V c).2 := by
  unfold sp_lay
  split
  case isFalse => exact hV
  case isTrue w =>
    obtain ⟨c', hc, rfl⟩ := rng (a := 0) (b := 255) (by decide) (show nI 0 ≤ c ∧ c ≤ nI 255 from w) (by decide)
    exact hV.tn (hV.1.lat (Or.inr ⟨c', by omega, rfl⟩))
theorem oV_seed {V : aV} (hV : VOk V) (c : Int32) : VOk (sp_seed V c).2 := hV.tn hV.1.z
theorem oV_change {V : aV} (hV : VOk V) (p w v : Int32) : VOk (sp_change V p w v).2 := by
  unfold sp_change
  split
  case isFalse => exact hV
  case isTrue y =>
    obtain ⟨w', hw, rfl⟩ := rng (a := 0) (b := 5) (by decide) (show nI 0 ≤ w ∧ w ≤ nI 5 from y.2.1) (by decide)
    obtain ⟨x, hx, rfl⟩ := gdP_ok (by omega) y.2.2
    exact hV.tn (by rw [cl_nI (by omega)]; exact hV.1.set (by omega) hx)
theorem tsU_lt {T : aH} {z : Int32} : ∀ c, c ≤ 8 → ∃ t, t < 2 ^ c ∧ tsU T z c = nI t := by
  intro c
  induction c with
  | zero => intro _; exact ⟨0, by decide, rfl⟩
  | succ c ih =>
    intro hc
    obtain ⟨t, h1, h2⟩ := ih (by omega)
    simp only [tsU]
    have := Nat.pow_succ 2 c
    split
    · exact ⟨t ||| 2 ^ c, Nat.or_lt_two_pow (by omega) (by have := Nat.two_pow_pos c; omega), by rw [h2, bt1_nI (by omega), nI_or]⟩
    · exact ⟨t, by omega, h2⟩
theorem oV_cast {V : aV} (hV : VOk V) : VOk (sp_cast V).2 := by
  obtain ⟨t, h1, h2⟩ := tsU_lt (T := V.1) (z := V.1 0 3) 8 (by decide)
  exact hV.tn (hV.1.z.lat (Or.inr ⟨t, h1, h2⟩))
theorem oV_promise {V : aV} (hV : VOk V) (k c t n : Int32) : VOk (sp_promise V k c t n).2 := by
  unfold sp_promise
  split
  case isFalse => exact hV
  case isTrue w =>
    split
    case isFalse => exact hV
    case isTrue w2 =>
      obtain ⟨k', hk, rfl⟩ := gdP_ok (w := 0) (by decide) w.1
      obtain ⟨c', hc, rfl⟩ := gdP_ok (w := 1) (by decide) w.2.1
      obtain ⟨t', h3, rfl⟩ := gdP_ok (w := 3) (by decide) w.2.2.1
      obtain ⟨n', h4, rfl⟩ := gdP_ok (w := 4) (by decide) w.2.2.2
      have lt10 : nP V.1 < 10 := by have := mt (nP_10 hV.1).mpr w2; have := hV.1.np.1; omega
      exact hV.tn (hV.1.newP lt10 (co := 0) ⟨⟨hk, hc, hc⟩, h3, h4, by decide⟩).1
theorem oV_need {V : aV} (hV : VOk V) (t n w : Int32) : VOk (sp_need V t n w).2 := by
  unfold sp_need
  split
  case isFalse => exact hV
  case isTrue y =>
    split
    case isFalse => exact hV
    case isTrue y2 =>
      obtain ⟨t', h1, rfl⟩ := rng (a := 0) (b := 5) (by decide) (show nI 0 ≤ t ∧ t ≤ nI 5 from y.1) (by decide)
      obtain ⟨n', h2, rfl⟩ := rng (a := 1) (b := 40) (by decide) (show nI 1 ≤ n ∧ n ≤ nI 40 from y.2.1) (by decide)
      obtain ⟨w', h3, rfl⟩ := rng (a := 1) (b := 99) (by decide) (show nI 1 ≤ w ∧ w ≤ nI 99 from y.2.2) (by decide)
      have lt6 : nN V.1 < 6 := by have := mt (nN_6 hV.1).mpr y2; have := hV.1.nn.1; omega
      exact hV.tn (hV.1.newN lt6 ⟨h1.2, h2, h3⟩).1
theorem oV_drop {V : aV} (hV : VOk V) : VOk (sp_drop V).2 := by
  unfold sp_drop
  split
  case isFalse => exact hV
  case isTrue w =>
    have : nP V.1 ≠ 0 := fun y => w (by rw [hV.1.np.2, y]; rfl)
    exact hV.tn (hV.1.dr (p := nP V.1 - 1) (by omega)).1
theorem oV_hold {V : aV} (hV : VOk V) (s p : Int32) : VOk (sp_hold V s p).2 := by
  unfold sp_hold
  split
  case isFalse => exact hV
  case isTrue w => exact hV.tn (hV.1.spot (w.2.elim Or.inl (fun y => Or.inr (isP_N hV.1 y))))
theorem oV_image {V : aV} (hV : VOk V) : VOk (sp_image V).2 := ⟨hV.1, fun _ => hV.1, hV.2.2⟩
theorem oV_undo {V : aV} (hV : VOk V) : VOk (sp_undo V).2 := by
  unfold sp_undo
  split
  case isFalse => exact hV
  case isTrue w => exact hV.tn (hV.2.1 w)
theorem oV_tear {V : aV} (hV : VOk V) : VOk (sp_tear V).2 := ⟨hV.1, (fun z => Bool.noConfusion (show false = true from z)), hV.2.2⟩
theorem oV_tries {V : aV} (hV : VOk V) (k p n : Int32) : VOk (sp_tries V k p n).2 := by
  unfold sp_tries
  split
  case isFalse => exact hV
  case isTrue w => exact hV.tn hV.1.z
theorem oV_wipe {V : aV} (hV : VOk V) : VOk (sp_wipe V).2 := ⟨hV.1, hV.2.1, ⟨Nat.zero_le 120, fun k hk => absurd hk (Nat.not_lt_zero k)⟩, hV.2.2.2⟩
theorem oV_feed {V : aV} (hV : VOk V) (w n : Int32) : VOk (sp_feed V w n).2 := by
  unfold sp_feed
  split
  case isFalse => exact hV
  case isTrue y =>
    split
    case isFalse => exact hV
    case isTrue y2 => exact ⟨hV.1, hV.2.1, ⟨y2, fun k hk => fd_ok hV.2.2.1.2 _ k hk⟩, hV.2.2.2⟩
theorem oV_town {V : aV} (hV : VOk V) : VOk (sp_town V).2 := by
  unfold sp_town
  split
  · exact ⟨hV.1, hV.2.1, ⟨Nat.zero_le 120, fun k hk => absurd hk (Nat.not_lt_zero k)⟩, hV.2.2.2⟩
  · rename_i i T' e
    exact ⟨(pAll_ok _ _ _ _ _ _ (Nat.zero_le _) hV.1 e).1, hV.2.1, ⟨Nat.zero_le 120, fun k hk => absurd hk (Nat.not_lt_zero k)⟩, hV.2.2.2⟩
theorem oV_load {V : aV} (hV : VOk V) (s : Int32) : VOk (sp_load V s).2 := by
  unfold sp_load
  split
  case isFalse => exact hV
  case isTrue y =>
    split
    case isTrue => exact hV
    case isFalse => exact hV.tn (ldT_ok hV.1 _ (ldM_ok 41 0 (fun k hk => absurd hk (Nat.not_lt_zero k))))
theorem oV_write {V : aV} (hV : VOk V) (s i v : Int32) : VOk (sp_write V s i v).2 := by
  unfold sp_write
  split
  case isFalse => exact hV
  case isTrue y =>
    obtain ⟨s', hs, rfl⟩ := rng (a := 0) (b := 3) (by decide) (show nI 0 ≤ s ∧ s ≤ nI 3 from y) (by decide)
    split
    case isTrue => exact hV
    case isFalse =>
      split
      case isFalse => exact hV
      case isTrue => exact hV.sh (by rw [cl_nI (by omega)]; exact hV.2.2.2 s' (by omega))
theorem oV_copy {V : aV} (hV : VOk V) (s f t d n : Int32) : VOk (sp_copy V s f t d n).2 := by
  unfold sp_copy
  split
  case isFalse => exact hV
  case isTrue y =>
    obtain ⟨t', hs, rfl⟩ := rng (a := 0) (b := 3) (by decide) (show nI 0 ≤ t ∧ t ≤ nI 3 from y.2) (by decide)
    repeat' split
    all_goals first | exact hV | exact hV.sh (by rw [cl_nI (by omega)]; exact hV.2.2.2 t' (by omega))
theorem oV_sheet {V : aV} (hV : VOk V) (s w n : Int32) : VOk (sp_sheet V s w n).2 := by
  unfold sp_sheet
  split
  case isFalse => exact hV
  case isTrue y =>
    split
    case isTrue => exact hV
    case isFalse z1 =>
      split
      case isTrue => exact hV
      case isFalse z2 =>
        have n40 : cl n ≤ 40 := by
          obtain ⟨n', hn, rfl⟩ := rng (a := 0) (b := 40) (by decide) (show nI 0 ≤ n ∧ n ≤ nI 40 from ⟨Int32.not_lt.mp z1, Int32.not_lt.mp z2⟩) (by decide)
          rw [cl_nI (by omega)]
          exact hn.2
        refine hV.sh ?_
        rcases y.2 with rfl | rfl | rfl | rfl
        · exact ⟨Or.inl rfl, by rw [if_pos rfl]; exact Nat.zero_le _, fun _ => show (if (0 : Int32) = 0 then 0 else cl n) = 0 from if_pos rfl⟩
        · exact ⟨Or.inr (Or.inl rfl), by rw [if_neg (by decide)]; exact n40, fun z => by cases z⟩
        · exact ⟨Or.inr (Or.inr (Or.inl rfl)), by rw [if_neg (by decide)]; exact n40, fun z => by cases z⟩
        · exact ⟨Or.inr (Or.inr (Or.inr rfl)), by rw [if_neg (by decide)]; exact n40, fun z => by cases z⟩

