/-! ===== the law from its start ===== -/
def V0 : aV := (tw hI 1, (false, tw hI 1), (0, fun _ => 0), (fun _ => (0, 0, fun _ => 0)), fun _ => 0)
theorem T0_eq : ∀ j, j < 13 → ∀ k, k < 10 → tm hI 64 j k = tw hI 1 j k := by decide +kernel
theorem lenT_le : ∀ j, lenT j ≤ 10 ∧ (13 ≤ j → lenT j = 0) := by
  intro j
  unfold lenT
  split <;> exact ⟨by decide, fun h => by first | rfl | omega⟩
theorem T0_tm : tm hI 64 = tw hI 1 := by
  funext j k
  by_cases hk : k < lenT j
  · have l := lenT_le j
    rcases Nat.lt_or_ge j 13 with hj | hj
    · exact T0_eq j hj k (by omega)
    · have := l.2 hj; omega
  · simp [tm, tw, hk]
theorem C0_s : ∀ s, s < 4 → hI (54 + 2 * s) 1 = nI 0 ∧ hI (54 + 2 * s) 2 = nI 0 := by decide +kernel
theorem M0_s : ∀ s, s < 4 → hI 72 s = nI 0 ∧ hI 73 s = nI 0 := by decide +kernel
theorem C0_f : ∀ k, k < 7 → hI 62 k = 0 := by decide +kernel
theorem M0_f : ∀ k, k < 7 → hI 67 k = 0 := by decide +kernel
theorem c_0 : hI 0 2 = 0 ∧ hI 27 1 = nI 0 ∧ hI 63 3 = 0 ∧ hI 63 6 = nI 0 := by decide +kernel
theorem cv_0 : CV hI V0 := ⟨rfl, c_0.1, (fun z => Bool.noConfusion (show false = true from z)), ⟨c_0.2.1, fun k hk => absurd hk (Nat.not_lt_zero k)⟩, fun s hs => ⟨(C0_s s hs).1, (C0_s s hs).2, fun i hi => absurd hi (Nat.not_lt_zero i)⟩, C0_f⟩
theorem mv_0 : MV hI V0 := ⟨T0_tm, c_0.2.2.1, (fun z => Bool.noConfusion (show false = true from z)), ⟨c_0.2.2.2, fun k hk => absurd hk (Nat.not_lt_zero k)⟩, fun s hs => ⟨(M0_s s hs).1, (M0_s s hs).2, fun i hi => absurd hi (Nat.not_lt_zero i)⟩, M0_f⟩
theorem t_0 : (tw hI 1 0 0 = nI 0 ∧ tw hI 1 0 1 = nI 0 ∧ tw hI 1 0 2 = -1) ∧ (∀ c, c < 8 → tw hI 1 1 c = nI 1 ∧ tw hI 1 2 c = nI 2) ∧ ∀ k, k < 10 → tw hI 1 12 k = -1 := by decide +kernel
theorem tok_0 : TOk (tw hI 1) := by
  obtain ⟨⟨h1, h2, h3⟩, h4, h5⟩ := t_0
  have p0 : nP (tw hI 1) = 0 := by rw [nP, h1]; rfl
  have n0 : nN (tw hI 1) = 0 := by rw [nN, h2]; rfl
  exact ⟨⟨0, by decide, h1⟩, ⟨0, by decide, h2⟩, Or.inl h3, fun c hc => ⟨1, 2, by decide, by decide, by decide, (h4 c hc).1, (h4 c hc).2⟩, fun p hp => absurd hp (by rw [p0]; exact Nat.not_lt_zero p), fun p hp => absurd hp (by rw [n0]; exact Nat.not_lt_zero p), fun k hk => Or.inl (h5 k hk)⟩
theorem vok_0 : VOk V0 := ⟨tok_0, fun _ => tok_0, ⟨Nat.zero_le _, fun k hk => absurd hk (Nat.not_lt_zero k)⟩, fun s _ => ⟨Or.inl rfl, Nat.zero_le _, fun _ => rfl⟩⟩
theorem lt_b {c : Bool} {x y : Option Nat} (hx : ∀ q, x = some q → q < 76) (hy : ∀ q, y = some q → q < 76) : ∀ q, (bif c then x else y) = some q → q < 76 := by
  cases c
  · exact hy
  · exact hx
set_option maxRecDepth 100000 in
theorem ρ_lt {a k : Nat} : ∀ q, ρ a k = some q → q < 76 := by
  unfold ρ
  repeat' refine lt_b ?_ ?_
  all_goals
    intro q e
    cases e
  all_goals decide
theorem aRL_I {h : aH} {g : aG} {h' : aH} {g' : aG} {r : Nat → Nat → Option Nat} : aRL 76 (h, g, r) → aRL 76 (h', g', ρ) := fun _ a _ k x e => ρ_lt x e
set_option maxRecDepth 100000 in
set_option maxHeartbeats 4000000 in
theorem law_seg (L : Nat) (xs : Nat → Int32) (hL : L ≤ 3072) : SegP (mL_law L xs) 12 (0, [some (.ref 400), none, none, none], [], 0, h0, g0, r0) (fun c => ∃ M : aMem, c = (aRET, [], [.int 1], nW, M)) := by
  refine SegP.run [] 400 ?_
  refine SegP.tr (Seg.callI (tX5_init _ _ _) rfl rfl mlL_9 iyX5_init rfl (oyX5_init _) rfl (by decide) rfl rfl (Nat.le_of_ble_eq_true rfl) (by decide) (Or.inr (show 63 ≤ nW by decide))) ?_
  refine SegP.run [] 400 ?_
  refine SegP.tr (Seg.callI (tX6_init _ _ _) rfl rfl mlL_12 iyX6_init rfl (oyX6_init _) rfl (by decide) rfl rfl (Nat.le_of_ble_eq_true rfl) (by decide) (Or.inr (show 76 ≤ nW by decide))) ?_
  refine SegP.run [18] 400 ?_
  refine SegP.tr (Seg.world (n := 76) (M := (hI, gI, rI)) (M' := (hI, gI, ρ)) (by decide) (fun σ τ => wd_rI) aRL_I) ?_
  exact lw_loop hL L 0 V0 hI gI (by omega) (Nat.zero_le _) cv_0 mv_0 vok_0
set_option maxHeartbeats 2000000 in
theorem whole_segP {p : Program} {e : Env} {s : State} {m : MethodId} {below : List Frame} {meth : Method} {c : Code} (l : Launch) {b L : Nat} {xs : Nat → Int32} (hok : OkM (mL_law L xs)) (hseg : SegP (mL_law L xs) 12 (0, [some (.ref 400), none, none, none], [], 0, h0, g0, r0) (fun d => ∃ M : aMem, d = (aRET, [], [.int 1], nW, M))) (C0 : lw_At p s m meth c b L xs) : W p l e room_1 s m #[Value.ref b] below meth c s.heap [] 0 0 (lw_Z below #[Value.ref b] s) (entryFrame m ([Value.ref b] : List Value).toArray 4) := by
  obtain ⟨hx, hb, hr, hml, hown, hts, hX, hbl, hlocks, hgv, hnm⟩ := C0
  obtain ⟨σ0, hσ, hXX⟩ := aX_start hts hgv
  have hgw : ∀ w ∈ gw, w.before #[Value.ref b] s = true := fun w hw => hts w (List.mem_filter.mp hw).1
  have known : ∀ ci : Nat, ∃ q : ClassId × (Nat → Nat), ci < 7 → u_Kn s (nmC ci) (tbC ci) (nfC ci) q.1 q.2 := by
    intro ci
    by_cases hci : ci < 7
    · obtain ⟨c0, iS0, h⟩ := u_known (C := nmC ci) (T := tbC ci) (N := nfC ci) (n := nfC ci) hgw (us_in hci) (hgw _ (wl_cl2 ci hci).1)
      exact ⟨(c0, iS0), fun _ => h⟩
    · exact ⟨(0, fun _ => 0), fun h => absurd h hci⟩
  obtain ⟨kn, hkn⟩ := Classical.axiomOfChoice known
  have hK : va_K (fun k => (kn k).1, fun k => (kn k).2) vwCl [] s := by
    refine ⟨fun k q hq => ?_, fun k q hq => by simp at hq⟩
    have hk : k < 7 := by
      have := (List.getElem?_eq_some_iff.mp hq).1
      exact this
    rw [vw_at hk] at hq
    cases hq
    exact hkn k hk
  have C : aCx (mL_law L xs) 12 p l e room_1 s m #[Value.ref b] below meth c (fun q => s.heap.size ≤ q) (fun k => (kn k).1, fun k => (kn k).2) σ0 0 (lw_Z below #[Value.ref b] s) (fun st n M => st = [.int 1]) := by
    refine ⟨⟨hx, hb, hml, hnm, hown⟩, hgw, hK, hXX, fun q h => h, hok, ⟨by decide, by decide, by decide, show nW - 0 ≤ 600000 by decide, show szp nW - szp 0 ≤ 7302250 by rw [szp_nW]; exact Nat.le_of_ble_eq_true rfl, Nat.le_refl _⟩, Or.inr ⟨?_, ?_, ?_⟩, ?_⟩
    · rw [hσ]; exact hX
    · rw [hσ]; exact hbl
    · rw [hσ]; exact Nat.not_le.mpr hbl
    · intro pc i st n M σ τ H locs la hret hdec hfin hF
      subst hfin
      cases i <;> try exact hret.elim
      refine va_forget (fun q hq => hF.2.2.2.2.2.2.2 q hq) ?_
      have hn := hF.2.1.2.1.1
      have hz := szp_mono hn
      rw [szp_nW] at hz
      have hnw : nW = 76 := rfl
      refine W.widen (k := 600000) (n := 7302250) (by omega) (by omega) ?_
      exact lw_ret hx hb hr hlocks hdec
  have hl := lv_entry ([.ref b]) (n := 4) (Nat.le_of_ble_eq_true rfl)
  have hw := (hseg p l e room_1 s m #[Value.ref b] below meth c (fun q => s.heap.size ≤ q) (fun k => (kn k).1, fun k => (kn k).2) σ0 0 (lw_Z below #[Value.ref b] s) _ C (fun d hd => by
    obtain ⟨M, rfl⟩ := hd
    exact ⟨fun _ => rfl, fun z => absurd rfl z⟩)).2 (show (0 : Nat) ≠ aRET by decide) σ0 (fun _ => 0) s.heap [] _ ⟨fun _ _ => rfl, ⟨Nat.le_refl _, ⟨Nat.zero_le _, Or.inl rfl⟩, fun a ha => absurd ha (Nat.not_lt_zero _)⟩, fun a ha => absurd ha (Nat.not_lt_zero _), fun k q h => by simp [wd] at h, ⟨fun i j p q h => by simp [wd] at h, fun k q h => by simp [wd] at h⟩, va_S.rf⟩ rfl (show lv_has _ 4 (ascF σ0 0 [some (.ref 400), none, none, none]) by simp only [ascF, cv, hσ]; exact hl)
  rw [lg_entry_eq]
  exact hw
theorem whole_start {p : Program} {e : Env} {s : State} {m : MethodId} {below : List Frame} {meth : Method} {c : Code} (l : Launch) (hflags : l.flags = flags0) {b L : Nat} {xs : Nat → Int32} (hL : L ≤ 3072) (C0 : lw_At p s m meth c b L xs) : W p l e room_1 s m #[Value.ref b] below meth c s.heap [] 0 0 (lw_Z below #[Value.ref b] s) (entryFrame m ([Value.ref b] : List Value).toArray 4) := whole_segP l (okL_law L xs) (law_seg L xs hL) C0
