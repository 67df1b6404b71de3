/-! ===== the law's walk out of a segment ===== -/
theorem Seg.world {mt : aM} {lv pc n : Nat} {ls : List (Option Value)} {st : List Value} {M M' : aMem} (hpc : pc ≠ aRET) (hw : ∀ σ τ : Nat → Nat, wd σ τ n M = wd σ τ n M') (hr : aRL n M → aRL n M') : Seg mt lv (pc, ls, st, n, M) (pc, ls, st, n, M') := by
  intro p l e R s m args below meth c A D σ0 n0 Q Fz C h
  refine ⟨fun z => absurd z hpc, fun z σ τ H locs la hF hlen hl => h.2 z σ τ H locs la ?_ hlen hl⟩
  obtain ⟨f1, ⟨f2, f3, f4⟩, f5, f6, f7, f8⟩ := hF
  dsimp only at f6 f7 f4
  exact ⟨f1, ⟨f2, f3, hr f4⟩, f5, by dsimp only; rw [← hw σ τ]; exact f6, by dsimp only; rw [← hw σ τ]; exact f7, f8⟩
set_option maxHeartbeats 2000000 in
theorem whole_seg {p : Program} {e : Env} {s : State} {m : MethodId} {below : List Frame} {meth : Method} {c : Code} (l : Launch) {b L : Nat} {xs : Nat → Int32} (hok : OkM (mL_law L xs)) (hseg : ∃ M : aMem, Seg (mL_law L xs) 12 (0, [some (.ref 400), none, none, none], [], 0, h0, g0, r0) (aRET, [], [.int 1], nW, M)) (C0 : lw_At p s m meth c b L xs) : W p l e room_1 s m #[Value.ref b] below meth c s.heap [] 0 0 (lw_Z below #[Value.ref b] s) (entryFrame m ([Value.ref b] : List Value).toArray 4) := by
  obtain ⟨hx, hb, hr, hml, hown, hts, hX, hbl, hlocks, hgv, hnm⟩ := C0
  obtain ⟨σ0, hσ, hXX⟩ := aX_start hts hgv
  obtain ⟨M, hseg⟩ := hseg
  have hgw : ∀ w ∈ gw, w.before #[Value.ref b] s = true := fun w hw => hts w (List.mem_filter.mp hw).1
  have known : ∀ ci : Nat, ∃ q : ClassId × (Nat → Nat), ci < 7 → u_Kn s (nmC ci) (tbC ci) (nfC ci) q.1 q.2 := by
    intro ci
    by_cases hci : ci < 7
    · obtain ⟨c0, iS0, h⟩ := u_known (C := nmC ci) (T := tbC ci) (N := nfC ci) (n := nfC ci) hgw (us_in hci) (hgw _ (wl_cl2 ci hci).1)
      exact ⟨(c0, iS0), fun _ => h⟩
    · exact ⟨(0, fun _ => 0), fun h => absurd h hci⟩
  obtain ⟨kn, hkn⟩ := Classical.axiomOfChoice known
  have hK : va_K (fun k => (kn k).1, fun k => (kn k).2) vwCl [] s := by
    refine ⟨fun k q hq => ?_, fun k q hq => by simp at hq⟩
    have hk : k < 7 := by
      have := (List.getElem?_eq_some_iff.mp hq).1
      exact this
    rw [vw_at hk] at hq
    cases hq
    exact hkn k hk
  have C : aCx (mL_law L xs) 12 p l e room_1 s m #[Value.ref b] below meth c (fun q => s.heap.size ≤ q) (fun k => (kn k).1, fun k => (kn k).2) σ0 0 (lw_Z below #[Value.ref b] s) (fun st n M => st = [.int 1]) := by
    refine ⟨⟨hx, hb, hml, hnm, hown⟩, hgw, hK, hXX, fun q h => h, hok, ⟨by decide, by decide, by decide, show nW - 0 ≤ 600000 by decide, show szp nW - szp 0 ≤ 7302250 by rw [szp_nW]; exact Nat.le_of_ble_eq_true rfl, Nat.le_refl _⟩, Or.inr ⟨?_, ?_, ?_⟩, ?_⟩
    · rw [hσ]; exact hX
    · rw [hσ]; exact hbl
    · rw [hσ]; exact Nat.not_le.mpr hbl
    · intro pc i st n M σ τ H locs la hret hdec hfin hF
      subst hfin
      cases i <;> try exact hret.elim
      refine va_forget (fun q hq => hF.2.2.2.2.2.2.2 q hq) ?_
      have hn := hF.2.1.2.1.1
      have hz := szp_mono hn
      rw [szp_nW] at hz
      have hnw : nW = 76 := rfl
      refine W.widen (k := 600000) (n := 7302250) (by omega) (by omega) ?_
      exact lw_ret hx hb hr hlocks hdec
  have hl := lv_entry ([.ref b]) (n := 4) (Nat.le_of_ble_eq_true rfl)
  have hw := (hseg p l e room_1 s m #[Value.ref b] below meth c (fun q => s.heap.size ≤ q) (fun k => (kn k).1, fun k => (kn k).2) σ0 0 (lw_Z below #[Value.ref b] s) _ C ⟨fun _ => rfl, fun z => absurd rfl z⟩).2 (show (0 : Nat) ≠ aRET by decide) σ0 (fun _ => 0) s.heap [] _ ⟨fun _ _ => rfl, ⟨Nat.le_refl _, ⟨Nat.zero_le _, Or.inl rfl⟩, fun a ha => absurd ha (Nat.not_lt_zero _)⟩, fun a ha => absurd ha (Nat.not_lt_zero _), fun k q h => by simp [wd] at h, ⟨fun i j p q h => by simp [wd] at h, fun k q h => by simp [wd] at h⟩, va_S.rf⟩ rfl (show lv_has _ 4 (ascF σ0 0 [some (.ref 400), none, none, none]) by simp only [ascF, cv, hσ]; exact hl)
  rw [lg_entry_eq]
  exact hw
