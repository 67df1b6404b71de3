/-! ===== public methods: sheets, the tape; printed by wip/whole/gen71.py ===== -/
def sp_wipe (V : aV)  : Int32 × aV := (nI V.2.2.1.1, (V.1, V.2.1, (0, V.2.2.1.2), V.2.2.2))
set_option maxRecDepth 100000 in
set_option maxHeartbeats 400000 in
theorem zC_wipe {V : aV} (hV : VOk V)  : CX mX5_wipe 11 [] V (sp_wipe V ) := by
  intro h g hv
  obtain ⟨v1, v2, v3, v4, v5, v6⟩ := id hv
  have ht := hV.1
  refine MX.of okX5_wipe (by decide +kernel) (Nat.le_of_ble_eq_true rfl) (by decide) rfl (by decide) ?_
  refine SegP.run [] 400 ?_
  refine And.intro (fun z => by cases z) ?_
  refine SegP.tr (Seg.ri v4.1) ?_
  refine SegP.ret ⟨rfl, ⟨?_, by rw [up2_row (by decide)]; exact v2, fun z => ?_, ⟨up2_s, fun k hk => absurd hk (Nat.not_lt_zero _)⟩, fun s hs => ?_, fun k hk => by rw [up2_row (by decide)]; exact v6 k hk⟩, fun a ha => up2_row (by omega)⟩
  · rw [tw_up (Or.inr (by decide))]; exact v1
  · rw [tw_up (Or.inr (by decide))]; exact v3 z
  · rw [up2_row (show 54 + 2 * s ≠ 27 by omega), up2_row (show 55 + 2 * s ≠ 27 by omega)]; exact v5 s hs
set_option maxRecDepth 100000 in
set_option maxHeartbeats 400000 in
theorem zM_wipe {V : aV} (hV : VOk V)  : DX mX6_wipe 11 [] V (sp_wipe V ) := by
  intro h g hv
  obtain ⟨v1, v2, v3, v4, v5, v6⟩ := id hv
  have ht := hV.1
  refine MX.of okX6_wipe (by decide +kernel) (Nat.le_of_ble_eq_true rfl) (by decide) rfl (by decide) ?_
  refine SegP.run [] 400 ?_
  refine And.intro (fun z => by cases z) ?_
  refine SegP.tr (Seg.ri v4.1) ?_
  refine SegP.ret ⟨rfl, ⟨?_, by rw [up2_k (by decide)]; exact v2, fun z => ?_, ⟨up2_s, fun k hk => absurd hk (Nat.not_lt_zero _)⟩, fun s hs => ?_, fun k hk => by rw [up2_row (by decide)]; exact v6 k hk⟩, fun a ha => up2_row (by omega)⟩
  · rw [tm_up (by decide)]; exact v1
  · rw [tm_up (by decide)]; exact v3 z
  · rw [up2_row (show (72 : Nat) ≠ 63 by decide), up2_row (show (73 : Nat) ≠ 63 by decide), up2_row (show (74 : Nat) ≠ 63 by decide)]; exact v5 s hs
/-- the tape with t of j bytes of a number behind n others -/
def fdU (w : Int32) (j n : Nat) (b : Nat → Int32) : Nat → Nat → Int32
  | 0 => b
  | t + 1 => fun k => if k = n + t then (w >>> ((8 * (nI (j - t) - 1)) &&& 31)) &&& 255 else fdU w j n b t k
theorem and255 (y : Int32) : ∃ x, x < 256 ∧ y &&& 255 = nI x := by
  refine ⟨y.toBitVec.toNat &&& 255, Nat.and_lt_two_pow (n := 8) _ (by decide), ?_⟩
  apply Int32.toBitVec_inj.mp
  apply BitVec.eq_of_toNat_eq
  show (y.toBitVec &&& 255#32).toNat = (BitVec.ofNat 32 (y.toBitVec.toNat &&& 255)).toNat
  have h : y.toBitVec.toNat &&& 255 < 2 ^ 8 := Nat.and_lt_two_pow (n := 8) _ (by decide)
  rw [BitVec.toNat_and, BitVec.toNat_ofNat, BitVec.toNat_ofNat, Nat.mod_eq_of_lt (show 255 < 2 ^ 32 by decide), Nat.mod_eq_of_lt (by omega)]
theorem fd_ok {w : Int32} {j n : Nat} {b : Nat → Int32} (hb : ∀ k, k < n → ∃ x, x < 256 ∧ b k = nI x) : ∀ t k, k < n + t → ∃ x, x < 256 ∧ fdU w j n b t k = nI x := by
  intro t
  induction t with
  | zero => intro k hk; exact hb k hk
  | succ t ih =>
    intro k hk
    simp only [fdU]
    split
    · exact and255 _
    · exact ih k (by omega)
set_option maxRecDepth 100000 in
set_option maxHeartbeats 400000 in
theorem tX3_append (h : aH) (g : aG) (w : Int32) (j n : Nat) (hj : 1 ≤ j ∧ j ≤ 4) (hn : n + j ≤ 120) (b : Nat → Int32) (e1 : h 27 1 = nI n) (e2 : ∀ k, k < n → h 28 k = b k) : MX mX3_append 1 [.ref 27, .int w, .int (nI j)] h g (fun r h' g' => r = [] ∧ h' 27 1 = nI (n + j) ∧ (∀ k, k < n + j → h' 28 k = fdU w j n b j k) ∧ ∀ a, a ≠ 27 → a ≠ 28 → h' a = h a) := by
  refine MX.of okX3_append (by decide +kernel) (Nat.le_of_ble_eq_true rfl) (by decide) rfl (by decide) ?_
  refine SegP.run [4] 400 ?_
  refine SegP.tp (SegP.iter (fun t d => ∃ h', d = (4, [some (.ref 27), some (.int w), some (.int (nI j)), some (.int (nI (j - t) - 1))], [], nW, h', g, ρ) ∧ h' 27 1 = nI (n + t) ∧ (∀ k, k < n + t → h' 28 k = fdU w j n b t k) ∧ ∀ a, a ≠ 27 → a ≠ 28 → h' a = h a) j (fun t ht d hd => ?_) _ ⟨h, rfl, e1, e2, fun a _ _ => rfl⟩) (fun d hd => ?_)
  · obtain ⟨h', rfl, q1, q2, q3⟩ := hd
    have ej : nI (j - t) - 1 = nI (j - t - 1) := nI_sb (b := 1) (by omega)
    have hin : vp_in (h' 27 1) 120 := by rw [q1]; exact in10 (by omega) (by decide)
    have cn : (h' 27 1).toNatClampNeg = n + t := by rw [q1]; exact cl10 (by omega)
    refine SegP.run [4] 400 ?_
    refine And.intro (fun z => ?_) (fun z => ?_)
    · exact absurd (show nI (j - t - 1) < 0 by rw [← ej]; exact z) (nI_pos (by omega))
    refine And.intro (fun z2 => ?_) (fun z2 => ?_)
    · exact absurd (show nI 120 ≤ nI (n + t) by rw [← q1]; exact z2) (nI_ge (by omega) (by decide))
    refine And.intro hin ?_
    refine And.intro (fun z => by cases z) ?_
    have ei : nI (j - t) - 1 + -1 = nI (j - (t + 1)) - 1 := by
      rw [show j - (t + 1) = j - t - 1 by omega, ← ej]
      exact (Int32.sub_eq_add_neg _ _).symm
    refine SegP.rf ⟨_, by rw [ei] <;> rfl, ?_, fun k hk => ?_, fun a h1 h2 => ?_⟩
    · rw [up2_s, up2_o (by decide), q1, ← nI_succ]; rfl
    · rw [up2_o (by decide), cn]
      show _ = if k = n + t then _ else fdU w j n b t k
      by_cases y : k = n + t
      · subst y; rw [up2_s, if_pos rfl]
      · rw [up2_k y, if_neg y]; exact q2 k (by omega)
    · rw [up2_row h1, up2_row h2]; exact q3 a h1 h2
  · obtain ⟨h', rfl, q1, q2, q3⟩ := hd
    rw [Nat.sub_self]
    refine SegP.run [] 400 ?_
    refine And.intro (fun z => ?_) (fun z => ?_)
    · exact SegP.ret ⟨rfl, q1, q2, q3⟩
    · exact absurd (show nI 0 - 1 < 0 by decide) z
def sp_feed (V : aV) (w n : Int32) : Int32 × aV := if (1 ≤ n ∧ n ≤ 4) then (if V.2.2.1.1 + cl n ≤ 120 then (nI (V.2.2.1.1 + cl n), (V.1, V.2.1, (V.2.2.1.1 + cl n, fdU w (cl n) V.2.2.1.1 V.2.2.1.2 (cl n)), V.2.2.2)) else fnd V 1 (-1000002)) else fnd V 0 (-1000001)
set_option maxRecDepth 100000 in
set_option maxHeartbeats 400000 in
theorem zC_feed {V : aV} (hV : VOk V) (w n : Int32) : CX mX5_feed 11 [.int w, .int n] V (sp_feed V w n) := by
  intro h g hv
  obtain ⟨v1, v2, v3, v4, v5, v6⟩ := id hv
  have ht := hV.1
  refine MX.of okX5_feed (by decide +kernel) (Nat.le_of_ble_eq_true rfl) (by decide) rfl (by decide) ?_
  refine SegP.run [] 400 ?_
  refine SegP.tr (Seg.cS ((tX5_isBetween n 1 4).ms h g) mlX5_59 syX5_isBetween oyX5_isBetween rfl (by decide) rfl rfl rfl (Nat.le_of_ble_eq_true rfl) (Nat.le_of_ble_eq_true rfl)) ?_
  refine SegP.run [] 400 ?_
  refine And.intro (fun z0 => ?_) (fun z0 => ?_)
  · have q0 := bn1 z0
    obtain ⟨j, hj, rfl⟩ := rng (a := 1) (b := 4) (by decide) (show nI 1 ≤ n ∧ n ≤ nI 4 from q0) (by decide)
    have hl := hV.2.2.1.1
    have es : h 27 1 + nI j = nI (V.2.2.1.1 + j) := by rw [v4.1, nI_ad]
    refine And.intro (fun zl => ?_) (fun zl => ?_)
    · have hj2 : V.2.2.1.1 + j ≤ 120 := (nI_leI (by omega) (b := 120) (by decide)).mp (by rw [← es]; exact zl)
      have e : sp_feed V w (nI j) = (nI (V.2.2.1.1 + j), (V.1, V.2.1, (V.2.2.1.1 + j, fdU w j V.2.2.1.1 V.2.2.1.2 j), V.2.2.2)) := by rw [sp_feed, if_pos q0, cl_nI (by omega), if_pos hj2]
      rw [e]
      refine SegP.cV (tX3_append h g w j V.2.2.1.1 hj hj2 V.2.2.1.2 v4.1 v4.2) mlX5_73 iyX3_append seX3_append oyX3_append rfl (by decide) rfl (by decide) (by decide) rfl rfl rfl rfl (Nat.le_of_ble_eq_true rfl) ?_
      rintro r h' g' ⟨rfl, w1, w2, w3⟩
      refine SegP.run [] 400 ?_
      refine SegP.tr (Seg.ri w1) ?_
      refine SegP.ret ⟨rfl, ⟨(tw_out fun j hj => w3 _ (by omega) (by omega)).trans v1, by rw [w3 0 (by decide) (by decide)]; exact v2, fun z => (tw_out fun j hj => w3 _ (by omega) (by omega)).trans (v3 z), ⟨w1, w2⟩, fun s hs => ?_, fun k hk => by rw [w3 62 (by decide) (by decide)]; exact v6 k hk⟩, fun a ha => w3 a (by omega) (by omega)⟩
      rw [w3 (54 + 2 * s) (by omega) (by omega), w3 (55 + 2 * s) (by omega) (by omega)]; exact v5 s hs
    · have nb : ¬ V.2.2.1.1 + j ≤ 120 := fun y => zl (by rw [es]; exact nI_le (b := 120) y (by decide))
      refine SegP.tr (Seg.cV (tX5_refuse h g 1 (by decide) (-1000002) (by decide)) mlX5_64 iyX5_refuse seX5_refuse oyX5_refuse rfl (by decide) rfl (by decide) (by decide) rfl rfl rfl rfl (Nat.le_of_ble_eq_true rfl) (Nat.le_of_ble_eq_true rfl)) ?_
      refine SegP.run [] 400 ?_
      exact cfn hv (k := 1) (by decide) (by rw [sp_feed, if_pos q0, cl_nI (by omega), if_neg nb])
  · refine SegP.tr (Seg.cV (tX5_refuse h g 0 (by decide) (-1000001) (by decide)) mlX5_64 iyX5_refuse seX5_refuse oyX5_refuse rfl (by decide) rfl (by decide) (by decide) rfl rfl rfl rfl (Nat.le_of_ble_eq_true rfl) (Nat.le_of_ble_eq_true rfl)) ?_
    refine SegP.run [] 400 ?_
    exact cfn hv (k := 0) (by decide) (by rw [sp_feed, if_neg (fun y => bn0 z0 y)])
set_option maxRecDepth 100000 in
set_option maxHeartbeats 400000 in
theorem zM_feed {V : aV} (hV : VOk V) (w n : Int32) : DX mX6_feed 11 [.int w, .int n] V (sp_feed V w n) := by
  intro h g hv
  obtain ⟨v1, v2, v3, v4, v5, v6⟩ := id hv
  have ht := hV.1
  refine MX.of okX6_feed (by decide +kernel) (Nat.le_of_ble_eq_true rfl) (by decide) rfl (by decide) ?_
  refine SegP.run [] 400 ?_
  refine SegP.tr (Seg.cS ((tX6_in n 1 4).ms h g) mlX6_47 syX6_in oyX6_in rfl (by decide) rfl rfl rfl (Nat.le_of_ble_eq_true rfl) (Nat.le_of_ble_eq_true rfl)) ?_
  refine SegP.run [36] 400 ?_
  refine And.intro (fun z0 => ?_) (fun z0 => ?_)
  · have q0 := bn1 z0
    obtain ⟨j, hj, rfl⟩ := rng (a := 1) (b := 4) (by decide) (show nI 1 ≤ n ∧ n ≤ nI 4 from q0) (by decide)
    have hl := hV.2.2.1.1
    have es : h 63 6 + nI j = nI (V.2.2.1.1 + j) := by rw [v4.1, nI_ad]
    refine And.intro (fun zl => ?_) (fun zl => ?_)
    · have hj2 : V.2.2.1.1 + j ≤ 120 := (nI_leI (by omega) (b := 120) (by decide)).mp (by rw [← es]; exact zl)
      have e : sp_feed V w (nI j) = (nI (V.2.2.1.1 + j), (V.1, V.2.1, (V.2.2.1.1 + j, fdU w j V.2.2.1.1 V.2.2.1.2 j), V.2.2.2)) := by rw [sp_feed, if_pos q0, cl_nI (by omega), if_pos hj2]
      rw [e]
      refine SegP.tp (SegP.iter (fun t d => ∃ h', d = (36, [some (.ref 63), some (.int w), some (.int (nI j)), some (.int (nI (j - t) - 1))], [], nW, h', g, ρ) ∧ h' 63 = up2 h 63 6 (nI (V.2.2.1.1 + t)) 63 ∧ (∀ k, k < V.2.2.1.1 + t → h' 68 k = fdU w j V.2.2.1.1 V.2.2.1.2 t k) ∧ ∀ a, a ≠ 63 → a ≠ 68 → h' a = h a) j (fun t ht d hd => ?_) _ ⟨h, rfl, by rw [show V.2.2.1.1 + 0 = V.2.2.1.1 from rfl, ← v4.1, up2_same], v4.2, fun a _ _ => rfl⟩) (fun d hd => ?_)
      · obtain ⟨h', rfl, q1, q2, q3⟩ := hd
        have ej : nI (j - t) - 1 = nI (j - t - 1) := nI_sb (b := 1) (by omega)
        have q6 : h' 63 6 = nI (V.2.2.1.1 + t) := by rw [q1, up2_s]
        have hin : vp_in (h' 63 6) 120 := by rw [q6]; exact in10 (by omega) (by decide)
        have cn : (h' 63 6).toNatClampNeg = V.2.2.1.1 + t := by rw [q6]; exact cl10 (by omega)
        refine SegP.run [36] 400 ?_
        refine And.intro (fun z => ?_) (fun z => ?_)
        · exact absurd (show nI (j - t - 1) < 0 by rw [← ej]; exact z) (nI_pos (by omega))
        refine And.intro hin ?_
        refine And.intro (fun z => by cases z) ?_
        have ei : nI (j - t) - 1 + -1 = nI (j - (t + 1)) - 1 := by
          rw [show j - (t + 1) = j - t - 1 by omega, ← ej]
          exact (Int32.sub_eq_add_neg _ _).symm
        refine SegP.rf ⟨_, by rw [ei] <;> rfl, ?_, fun k hk => ?_, fun a h1 h2 => ?_⟩
        · funext k
          by_cases y : k = 6
          · subst y; rw [up2_s, up2_s, up2_o (by decide), q6, ← nI_succ]; rfl
          · rw [up2_k y, up2_o (by decide), q1, up2_k y, up2_k y]
        · rw [up2_o (by decide), cn]
          show _ = if k = V.2.2.1.1 + t then _ else fdU w j V.2.2.1.1 V.2.2.1.2 t k
          by_cases y : k = V.2.2.1.1 + t
          · subst y; rw [up2_s, if_pos rfl]
          · rw [up2_k y, if_neg y]; exact q2 k (by omega)
        · rw [up2_row h1, up2_row h2]; exact q3 a h1 h2
      · obtain ⟨h', rfl, q1, q2, q3⟩ := hd
        rw [Nat.sub_self]
        have q6 : h' 63 6 = nI (V.2.2.1.1 + j) := by rw [q1, up2_s]
        refine SegP.run [] 400 ?_
        refine And.intro (fun z => ?_) (fun z => ?_)
        · refine SegP.tr (Seg.ri q6) ?_
          refine SegP.ret ⟨rfl, ⟨(tm_row' (q3 64 (by decide) (by decide))).trans v1, by rw [q1, up2_k (by decide)]; exact v2, fun z => (tm_row' (q3 65 (by decide) (by decide))).trans (v3 z), ⟨q6, q2⟩, fun s hs => ?_, fun k hk => by rw [q3 67 (by decide) (by decide)]; exact v6 k hk⟩, fun a ha => q3 a (by omega) (by omega)⟩
          rw [q3 72 (by decide) (by decide), q3 73 (by decide) (by decide), q3 74 (by decide) (by decide)]; exact v5 s hs
        · exact absurd (show nI 0 - 1 < 0 by decide) z
    · have nb : ¬ V.2.2.1.1 + j ≤ 120 := fun y => zl (by rw [es]; exact nI_le (b := 120) y (by decide))
      refine SegP.tr (Seg.cV (tX6_fd h g 1 (by decide) 1 (by decide) (-1000002) (by decide)) mlX6_51 iyX6_finding seX6_finding oyX6_finding rfl (by decide) rfl (by decide) (by decide) rfl rfl rfl rfl (Nat.le_of_ble_eq_true rfl) (Nat.le_of_ble_eq_true rfl)) ?_
      refine SegP.run [] 400 ?_
      exact mfn hv (k := 1) (by decide) (by rw [sp_feed, if_pos q0, cl_nI (by omega), if_neg nb])
  · refine SegP.tr (Seg.cV (tX6_fd h g 0 (by decide) 0 (by decide) (-1000001) (by decide)) mlX6_51 iyX6_finding seX6_finding oyX6_finding rfl (by decide) rfl (by decide) (by decide) rfl rfl rfl rfl (Nat.le_of_ble_eq_true rfl) (Nat.le_of_ble_eq_true rfl)) ?_
    refine SegP.run [] 400 ?_
    exact mfn hv (k := 0) (by decide) (by rw [sp_feed, if_neg (fun y => bn0 z0 y)])
def sp_sheet (V : aV) (s w n : Int32) : Int32 × aV := if (0 ≤ s ∧ s ≤ 3) ∧ (w = 0 ∨ w = 8 ∨ w = 16 ∨ w = 32) then (if n < 0 then fnd V 6 (-1000007) else if 40 < n then fnd V 0 (-1000001) else (if w = 0 then 0 else n, shV V (cl s) (cl w, if w = 0 then 0 else cl n, fun _ => 0))) else fnd V 0 (-1000001)
set_option maxRecDepth 100000 in
set_option maxHeartbeats 400000 in
theorem zC_sheet {V : aV} (hV : VOk V) (s w n : Int32) : CX mX5_sheet 11 [.int s, .int w, .int n] V (sp_sheet V s w n) := by
  intro h g hv
  obtain ⟨v1, v2, v3, v4, v5, v6⟩ := id hv
  have ht := hV.1
  refine MX.of okX5_sheet (by decide +kernel) (Nat.le_of_ble_eq_true rfl) (by decide) rfl (by decide) ?_
  refine SegP.run [] 400 ?_
  refine SegP.tr (Seg.cS ((tX5_isSheet s).ms h g) mlX5_265 syX5_isSheet oyX5_isSheet rfl (by decide) rfl rfl rfl (Nat.le_of_ble_eq_true rfl) (Nat.le_of_ble_eq_true rfl)) ?_
  refine SegP.run [36] 400 ?_
  refine And.intro (fun z0 => ?_) (fun z0 => ?_)
  · refine SegP.tr (Seg.cV (tX5_refuse h g 0 (by decide) (-1000001) (by decide)) mlX5_64 iyX5_refuse seX5_refuse oyX5_refuse rfl (by decide) rfl (by decide) (by decide) rfl rfl rfl rfl (Nat.le_of_ble_eq_true rfl) (Nat.le_of_ble_eq_true rfl)) ?_
    refine SegP.run [] 400 ?_
    exact cfn hv (k := 0) (by decide) (by rw [sp_sheet, if_neg (fun y => bq0 z0 y.1)])
  have q0 := bq1 z0
  obtain ⟨x, hx, rfl⟩ := rng (a := 0) (b := 3) (by decide) (show nI 0 ≤ s ∧ s ≤ nI 3 from q0) (by decide)
  have go : (w = 0 ∨ w = 8 ∨ w = 16 ∨ w = 32) → SegP mX5_sheet 11 (36, [some (.ref 0), some (.int (nI x)), some (.int w), some (.int n)], [], nW, h, g, ρ) (enP (enC h (sp_sheet V (nI x) w n))) := by
    intro qw
    refine SegP.run [] 400 ?_
    have qq : ((0 : Int32) ≤ nI x ∧ nI x ≤ 3) ∧ (w = 0 ∨ w = 8 ∨ w = 16 ∨ w = 32) := ⟨q0, qw⟩
    obtain ⟨w', hw', rfl⟩ : ∃ w', (w' = 0 ∨ w' = 8 ∨ w' = 16 ∨ w' = 32) ∧ w = nI w' := by
      rcases qw with rfl | rfl | rfl | rfl
      · exact ⟨0, Or.inl rfl, rfl⟩
      · exact ⟨8, Or.inr (Or.inl rfl), rfl⟩
      · exact ⟨16, Or.inr (Or.inr (Or.inl rfl)), rfl⟩
      · exact ⟨32, Or.inr (Or.inr (Or.inr rfl)), rfl⟩
    refine And.intro (fun zn => ?_) (fun zn => ?_)
    · refine And.intro (fun zm => ?_) (fun zm => ?_)
      · obtain ⟨n', hn, rfl⟩ := rng (a := 0) (b := 40) (v := n) (by decide) ⟨zn, zm⟩ (by decide)
        have w0 : nI w' = 0 ↔ w' = 0 := nI_eq (b := 0) (by omega) (by decide)
        have e : ∀ z : Nat, (z = if w' = 0 then 0 else n') → sp_sheet V (nI x) (nI w') (nI n') = (nI z, shV V x (w', z, fun _ => 0)) := fun z hz => by
          rw [sp_sheet, if_pos qq, if_neg (Int32.not_lt.mpr zn), if_neg (Int32.not_lt.mpr zm), cl_nI (by omega), cl_nI (by omega), cl_nI (by omega), hz]
          by_cases y : w' = 0
          · rw [if_pos (w0.mpr y), if_pos y, if_pos (w0.mpr y)]; rfl
          · rw [if_neg (fun k => y (w0.mp k)), if_neg y, if_neg (fun k => y (w0.mp k))]
        refine And.intro (in10 (p := x) (n := 4) (by omega) (by decide)) ?_
        rw [cl10 (p := x) (by omega)]
        rcases (show x = 0 ∨ x = 1 ∨ x = 2 ∨ x = 3 by omega) with rfl | rfl | rfl | rfl
        · have fin : ∀ (z : Nat) (y : Int32), y = nI z → (z = if w' = 0 then 0 else n') → SegP mX5_sheet 11 (77, [some (.ref 0), some (.int (nI 0)), some (.int (nI w')), some (.int (nI n'))], [.int y, .int (nI w'), .ref 54], nW, h, g, ρ) (enP (enC h (sp_sheet V (nI 0) (nI w') (nI n')))) := by
            rintro z y rfl hz
            have hz40 : z ≤ 40 := by rw [hz]; split <;> omega
            refine SegP.cV (tX2_begin_54 h g w' z hz40) mlX5_269 iyX2_begin seX2_begin oyX2_begin rfl (by decide) rfl (by decide) (by decide) rfl rfl rfl rfl (Nat.le_of_ble_eq_true rfl) ?_
            rintro r h' g' ⟨rfl, e1, e2, e3, e4⟩
            refine SegP.run [] 400 ?_
            refine And.intro (in10 (p := 0) (n := 4) (by decide) (by decide)) ?_
            rw [cl10 (p := 0) (by decide)]
            refine SegP.tr (Seg.ri (show h' 54 2 = nI z from e2)) ?_
            rw [e z hz]
            exact SegP.ret ⟨rfl, hv.sh (s := 0) (by decide) e1 e2 e3 (fun a h1 h2 => e4 a h1 h2), fun a ha => e4 a (by omega) (by omega)⟩
          refine And.intro (fun zw => ?_) (fun zw => ?_)
          · exact fin n' _ rfl (by rw [if_neg (fun k => zw (w0.mpr k))])
          · exact fin 0 _ rfl (by rw [if_pos (w0.mp (Decidable.not_not.mp zw))])
        · have fin : ∀ (z : Nat) (y : Int32), y = nI z → (z = if w' = 0 then 0 else n') → SegP mX5_sheet 11 (77, [some (.ref 0), some (.int (nI 1)), some (.int (nI w')), some (.int (nI n'))], [.int y, .int (nI w'), .ref 56], nW, h, g, ρ) (enP (enC h (sp_sheet V (nI 1) (nI w') (nI n')))) := by
            rintro z y rfl hz
            have hz40 : z ≤ 40 := by rw [hz]; split <;> omega
            refine SegP.cV (tX2_begin_56 h g w' z hz40) mlX5_269 iyX2_begin seX2_begin oyX2_begin rfl (by decide) rfl (by decide) (by decide) rfl rfl rfl rfl (Nat.le_of_ble_eq_true rfl) ?_
            rintro r h' g' ⟨rfl, e1, e2, e3, e4⟩
            refine SegP.run [] 400 ?_
            refine And.intro (in10 (p := 1) (n := 4) (by decide) (by decide)) ?_
            rw [cl10 (p := 1) (by decide)]
            refine SegP.tr (Seg.ri (show h' 56 2 = nI z from e2)) ?_
            rw [e z hz]
            exact SegP.ret ⟨rfl, hv.sh (s := 1) (by decide) e1 e2 e3 (fun a h1 h2 => e4 a h1 h2), fun a ha => e4 a (by omega) (by omega)⟩
          refine And.intro (fun zw => ?_) (fun zw => ?_)
          · exact fin n' _ rfl (by rw [if_neg (fun k => zw (w0.mpr k))])
          · exact fin 0 _ rfl (by rw [if_pos (w0.mp (Decidable.not_not.mp zw))])
        · have fin : ∀ (z : Nat) (y : Int32), y = nI z → (z = if w' = 0 then 0 else n') → SegP mX5_sheet 11 (77, [some (.ref 0), some (.int (nI 2)), some (.int (nI w')), some (.int (nI n'))], [.int y, .int (nI w'), .ref 58], nW, h, g, ρ) (enP (enC h (sp_sheet V (nI 2) (nI w') (nI n')))) := by
            rintro z y rfl hz
            have hz40 : z ≤ 40 := by rw [hz]; split <;> omega
            refine SegP.cV (tX2_begin_58 h g w' z hz40) mlX5_269 iyX2_begin seX2_begin oyX2_begin rfl (by decide) rfl (by decide) (by decide) rfl rfl rfl rfl (Nat.le_of_ble_eq_true rfl) ?_
            rintro r h' g' ⟨rfl, e1, e2, e3, e4⟩
            refine SegP.run [] 400 ?_
            refine And.intro (in10 (p := 2) (n := 4) (by decide) (by decide)) ?_
            rw [cl10 (p := 2) (by decide)]
            refine SegP.tr (Seg.ri (show h' 58 2 = nI z from e2)) ?_
            rw [e z hz]
            exact SegP.ret ⟨rfl, hv.sh (s := 2) (by decide) e1 e2 e3 (fun a h1 h2 => e4 a h1 h2), fun a ha => e4 a (by omega) (by omega)⟩
          refine And.intro (fun zw => ?_) (fun zw => ?_)
          · exact fin n' _ rfl (by rw [if_neg (fun k => zw (w0.mpr k))])
          · exact fin 0 _ rfl (by rw [if_pos (w0.mp (Decidable.not_not.mp zw))])
        · have fin : ∀ (z : Nat) (y : Int32), y = nI z → (z = if w' = 0 then 0 else n') → SegP mX5_sheet 11 (77, [some (.ref 0), some (.int (nI 3)), some (.int (nI w')), some (.int (nI n'))], [.int y, .int (nI w'), .ref 60], nW, h, g, ρ) (enP (enC h (sp_sheet V (nI 3) (nI w') (nI n')))) := by
            rintro z y rfl hz
            have hz40 : z ≤ 40 := by rw [hz]; split <;> omega
            refine SegP.cV (tX2_begin_60 h g w' z hz40) mlX5_269 iyX2_begin seX2_begin oyX2_begin rfl (by decide) rfl (by decide) (by decide) rfl rfl rfl rfl (Nat.le_of_ble_eq_true rfl) ?_
            rintro r h' g' ⟨rfl, e1, e2, e3, e4⟩
            refine SegP.run [] 400 ?_
            refine And.intro (in10 (p := 3) (n := 4) (by decide) (by decide)) ?_
            rw [cl10 (p := 3) (by decide)]
            refine SegP.tr (Seg.ri (show h' 60 2 = nI z from e2)) ?_
            rw [e z hz]
            exact SegP.ret ⟨rfl, hv.sh (s := 3) (by decide) e1 e2 e3 (fun a h1 h2 => e4 a h1 h2), fun a ha => e4 a (by omega) (by omega)⟩
          refine And.intro (fun zw => ?_) (fun zw => ?_)
          · exact fin n' _ rfl (by rw [if_neg (fun k => zw (w0.mpr k))])
          · exact fin 0 _ rfl (by rw [if_pos (w0.mp (Decidable.not_not.mp zw))])
      · refine SegP.tr (Seg.cV (tX5_refuse h g 0 (by decide) (-1000001) (by decide)) mlX5_64 iyX5_refuse seX5_refuse oyX5_refuse rfl (by decide) rfl (by decide) (by decide) rfl rfl rfl rfl (Nat.le_of_ble_eq_true rfl) (Nat.le_of_ble_eq_true rfl)) ?_
        refine SegP.run [] 400 ?_
        exact cfn hv (k := 0) (by decide) (by rw [sp_sheet, if_pos qq, if_neg (Int32.not_lt.mpr zn), if_pos (Int32.not_le.mp zm)])
    · refine SegP.tr (Seg.cV (tX5_refuse h g 6 (by decide) (-1000007) (by decide)) mlX5_64 iyX5_refuse seX5_refuse oyX5_refuse rfl (by decide) rfl (by decide) (by decide) rfl rfl rfl rfl (Nat.le_of_ble_eq_true rfl) (Nat.le_of_ble_eq_true rfl)) ?_
      refine SegP.run [] 400 ?_
      exact cfn hv (k := 6) (by decide) (by rw [sp_sheet, if_pos qq, if_pos (Int32.not_le.mp zn)])
  refine And.intro (fun y0 => ?_) (fun y0 => ?_)
  · exact go (Or.inl y0)
  refine And.intro (fun y1 => ?_) (fun y1 => ?_)
  · exact go (Or.inr (Or.inl y1))
  refine And.intro (fun y2 => ?_) (fun y2 => ?_)
  · exact go (Or.inr (Or.inr (Or.inl y2)))
  refine And.intro (fun y3 => ?_) (fun y3 => ?_)
  · exact go (Or.inr (Or.inr (Or.inr y3)))
  refine SegP.tr (Seg.cV (tX5_refuse h g 0 (by decide) (-1000001) (by decide)) mlX5_64 iyX5_refuse seX5_refuse oyX5_refuse rfl (by decide) rfl (by decide) (by decide) rfl rfl rfl rfl (Nat.le_of_ble_eq_true rfl) (Nat.le_of_ble_eq_true rfl)) ?_
  refine SegP.run [] 400 ?_
  exact cfn hv (k := 0) (by decide) (by rw [sp_sheet, if_neg (fun y => y.2.elim y0 (fun a => a.elim y1 (fun a => a.elim y2 y3)))])
set_option maxRecDepth 100000 in
set_option maxHeartbeats 400000 in
theorem zM_sheet {V : aV} (hV : VOk V) (s w n : Int32) : DX mX6_sheet 11 [.int s, .int w, .int n] V (sp_sheet V s w n) := by
  intro h g hv
  obtain ⟨v1, v2, v3, v4, v5, v6⟩ := id hv
  have ht := hV.1
  refine MX.of okX6_sheet (by decide +kernel) (Nat.le_of_ble_eq_true rfl) (by decide) rfl (by decide) ?_
  refine SegP.run [] 400 ?_
  refine SegP.tr (Seg.cS ((tX6_isSheet s).ms h g) mlX6_256 syX6_isSheet oyX6_isSheet rfl (by decide) rfl rfl rfl (Nat.le_of_ble_eq_true rfl) (Nat.le_of_ble_eq_true rfl)) ?_
  refine SegP.run [35] 400 ?_
  refine And.intro (fun z0 => ?_) (fun z0 => ?_)
  · refine SegP.tr (Seg.cV (tX6_fd h g 0 (by decide) 0 (by decide) (-1000001) (by decide)) mlX6_51 iyX6_finding seX6_finding oyX6_finding rfl (by decide) rfl (by decide) (by decide) rfl rfl rfl rfl (Nat.le_of_ble_eq_true rfl) (Nat.le_of_ble_eq_true rfl)) ?_
    refine SegP.run [] 400 ?_
    exact mfn hv (k := 0) (by decide) (by rw [sp_sheet, if_neg (fun y => bq0 z0 y.1)])
  have q0 := bq1 z0
  obtain ⟨x, hx, rfl⟩ := rng (a := 0) (b := 3) (by decide) (show nI 0 ≤ s ∧ s ≤ nI 3 from q0) (by decide)
  have go : (w = 0 ∨ w = 8 ∨ w = 16 ∨ w = 32) → SegP mX6_sheet 11 (35, [some (.ref 63), some (.int (nI x)), some (.int w), some (.int n), none], [], nW, h, g, ρ) (enP (enM h (sp_sheet V (nI x) w n))) := by
    intro qw
    refine SegP.run [79] 400 ?_
    have qq : ((0 : Int32) ≤ nI x ∧ nI x ≤ 3) ∧ (w = 0 ∨ w = 8 ∨ w = 16 ∨ w = 32) := ⟨q0, qw⟩
    obtain ⟨w', hw', rfl⟩ : ∃ w', (w' = 0 ∨ w' = 8 ∨ w' = 16 ∨ w' = 32) ∧ w = nI w' := by
      rcases qw with rfl | rfl | rfl | rfl
      · exact ⟨0, Or.inl rfl, rfl⟩
      · exact ⟨8, Or.inr (Or.inl rfl), rfl⟩
      · exact ⟨16, Or.inr (Or.inr (Or.inl rfl)), rfl⟩
      · exact ⟨32, Or.inr (Or.inr (Or.inr rfl)), rfl⟩
    refine And.intro (fun zn => ?_) (fun zn => ?_)
    · refine And.intro (fun zm => ?_) (fun zm => ?_)
      · obtain ⟨n', hn, rfl⟩ := rng (a := 0) (b := 40) (v := n) (by decide) ⟨zn, zm⟩ (by decide)
        have w0 : nI w' = 0 ↔ w' = 0 := nI_eq (b := 0) (by omega) (by decide)
        have e : ∀ z : Nat, (z = if w' = 0 then 0 else n') → sp_sheet V (nI x) (nI w') (nI n') = (nI z, shV V x (w', z, fun _ => 0)) := fun z hz => by
          rw [sp_sheet, if_pos qq, if_neg (Int32.not_lt.mpr zn), if_neg (Int32.not_lt.mpr zm), cl_nI (by omega), cl_nI (by omega), cl_nI (by omega), hz]
          by_cases y : w' = 0
          · rw [if_pos (w0.mpr y), if_pos y, if_pos (w0.mpr y)]; rfl
          · rw [if_neg (fun k => y (w0.mp k)), if_neg y, if_neg (fun k => y (w0.mp k))]
        have hin := in10 (p := x) (n := 4) (by omega) (by decide)
        have cx := cl10 (p := x) (by omega)
        have fin : ∀ (z : Nat) (y : Int32), y = nI z → (z = if w' = 0 then 0 else n') → SegP mX6_sheet 11 (79, [some (.ref 63), some (.int (nI x)), some (.int (nI w')), some (.int (nI n')), none], [.int y, .int (nI x), .ref 73], nW, up2 h 72 x (nI w'), g, ρ) (enP (enM h (sp_sheet V (nI x) (nI w') (nI n')))) := by
          rintro z y rfl hz
          refine SegP.run [83] 400 ?_
          refine And.intro hin ?_
          rw [cx]
          refine SegP.tp (SegP.iter (fun i d => ∃ h', d = (83, [some (.ref 63), some (.int (nI x)), some (.int (nI w')), some (.int (nI n')), some (.int (nI i))], [], nW, h', g, ρ) ∧ (∀ a, a ≠ 74 → h' a = up2 (up2 h 72 x (nI w')) 73 x (nI z) a) ∧ (∀ k, k < i → h' 74 (40 * x + k) = 0) ∧ ∀ k, k < 40 * x ∨ 40 * x + 40 ≤ k → h' 74 k = h 74 k) 40 (fun i hi d hd => ?_) _ ⟨_, rfl, fun a _ => rfl, fun k hk => absurd hk (Nat.not_lt_zero _), fun k _ => by rw [up2_o (by decide), up2_o (by decide)]⟩) (fun d hd => ?_)
          · obtain ⟨h', rfl, q1, q2, q3⟩ := hd
            have ei : (40 : Int32) * nI x + nI i = nI (40 * x + i) := by rw [show (40 : Int32) = nI 40 from rfl, nI_ml, nI_ad]
            refine SegP.run [83] 400 ?_
            refine And.intro (fun c => ?_) (fun c => ?_)
            · exact (lim_ge (N := 40) hi (by decide) c).elim
            refine And.intro (by rw [ei]; exact in10 (p := 40 * x + i) (n := 160) (by omega) (by decide)) ?_
            refine SegP.rf ⟨_, by rw [nI_succ] <;> rfl, fun a ha => by rw [up2_row ha]; exact q1 a ha, fun k hk => ?_, fun k hk => ?_⟩
            · rw [ei, cl10 (p := 40 * x + i) (by omega)]
              by_cases y : k = i
              · subst y; rw [up2_s]
              · rw [up2_k (by omega)]; exact q2 k (by omega)
            · rw [ei, cl10 (p := 40 * x + i) (by omega), up2_k (by omega)]; exact q3 k hk
          · obtain ⟨h', rfl, q1, q2, q3⟩ := hd
            refine SegP.run [] 400 ?_
            refine And.intro (fun c => ?_) (fun c => ?_)
            · refine And.intro hin ?_
              rw [cx]
              have e73 : h' 73 x = nI z := by rw [q1 73 (by decide), up2_s]
              refine SegP.tr (Seg.ri e73) ?_
              rw [e z hz]
              have hz40 : z ≤ 40 := by rw [hz]; split <;> omega
              have hv' : MV h' (shV V x (w', z, fun _ => 0)) := hv.sh (s := x) (q := (w', z, fun _ => 0)) (by omega) (by rw [q1 72 (by decide), up2_o (by decide), up2_s]) e73 (fun i hi => q2 i (Nat.lt_of_lt_of_le hi hz40)) (fun j hj => by rw [q1 72 (by decide), up2_o (by decide), up2_k hj]) (fun j hj => by rw [q1 73 (by decide), up2_k hj, up2_o (by decide)]) (fun j i hj hjx hi => q3 _ (by omega)) (fun a ha => by rw [q1 a (by omega), up2_row (by omega), up2_row (by omega)]) (fun j hj => (hV.2.2.2 j hj).2.1)
              exact SegP.ret ⟨rfl, hv', fun a ha => by rw [q1 a (by omega), up2_row (by omega), up2_row (by omega)]⟩
            · exact (lim_le (N := 40) (Nat.le_refl _) (by decide) c).elim
        refine And.intro hin ?_
        rw [cx]
        refine And.intro (fun zw => ?_) (fun zw => ?_)
        · exact fin n' _ rfl (by rw [if_neg (fun k => zw (w0.mpr k))])
        · exact fin 0 _ rfl (by rw [if_pos (w0.mp (Decidable.not_not.mp zw))])
      · refine SegP.tr (Seg.cV (tX6_fd h g 0 (by decide) 0 (by decide) (-1000001) (by decide)) mlX6_51 iyX6_finding seX6_finding oyX6_finding rfl (by decide) rfl (by decide) (by decide) rfl rfl rfl rfl (Nat.le_of_ble_eq_true rfl) (Nat.le_of_ble_eq_true rfl)) ?_
        refine SegP.run [] 400 ?_
        exact mfn hv (k := 0) (by decide) (by rw [sp_sheet, if_pos qq, if_neg (Int32.not_lt.mpr zn), if_pos (Int32.not_le.mp zm)])
    · refine SegP.tr (Seg.cV (tX6_fd h g 6 (by decide) 6 (by decide) (-1000007) (by decide)) mlX6_51 iyX6_finding seX6_finding oyX6_finding rfl (by decide) rfl (by decide) (by decide) rfl rfl rfl rfl (Nat.le_of_ble_eq_true rfl) (Nat.le_of_ble_eq_true rfl)) ?_
      refine SegP.run [] 400 ?_
      exact mfn hv (k := 6) (by decide) (by rw [sp_sheet, if_pos qq, if_pos (Int32.not_le.mp zn)])
  refine And.intro (fun y0 => ?_) (fun y0 => ?_)
  · exact go (Or.inl y0)
  refine And.intro (fun y1 => ?_) (fun y1 => ?_)
  · exact go (Or.inr (Or.inl y1))
  refine And.intro (fun y2 => ?_) (fun y2 => ?_)
  · exact go (Or.inr (Or.inr (Or.inl y2)))
  refine And.intro (fun y3 => ?_) (fun y3 => ?_)
  · exact go (Or.inr (Or.inr (Or.inr y3)))
  refine SegP.tr (Seg.cV (tX6_fd h g 0 (by decide) 0 (by decide) (-1000001) (by decide)) mlX6_51 iyX6_finding seX6_finding oyX6_finding rfl (by decide) rfl (by decide) (by decide) rfl rfl rfl rfl (Nat.le_of_ble_eq_true rfl) (Nat.le_of_ble_eq_true rfl)) ?_
  refine SegP.run [] 400 ?_
  exact mfn hv (k := 0) (by decide) (by rw [sp_sheet, if_neg (fun y => y.2.elim y0 (fun a => a.elim y1 (fun a => a.elim y2 y3)))])
