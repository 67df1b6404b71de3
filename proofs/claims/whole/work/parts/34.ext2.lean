/-! ===== the start: addresses of what stands outside ===== -/
theorem eq_ref2 {args : Array Value} {s : State} {t u : Term} {a : Nat} (h : (Cond.eq u t).before args s = true) (ht : t.eval args s none [] s = some (.ref a)) : u.eval args s none [] s = some (.ref a) := by
  cases hv : u.eval args s none [] s with
  | none => simp [Cond.before, Cond.holds, Cond.value, hv, ht] at h
  | some w =>
    simp only [Cond.before, Cond.holds, Cond.value, hv, ht] at h
    cases w <;> simp_all
set_option maxHeartbeats 2000000 in
theorem aX_start {s : State} {b : Nat} (hts : ∀ w ∈ lw_tbl, w.before #[Value.ref b] s = true) (hgv : (Jvm.Cond.and given_1 narrow_1).before #[Value.ref b] s = true) : ∃ σ0 : Nat → Nat, σ0 400 = b ∧ aX σ0 (fun q => s.heap.size ≤ q) s s.heap := by
  have hs : ∀ c ∈ preL, c.before #[Value.ref b] s = true := flat_of_before _ hgv
  have hA : ∀ a : Nat, a < s.heap.size → ¬ (fun q : Nat => s.heap.size ≤ q) a := fun a ha => Nat.not_le.mpr ha
  obtain ⟨t1, t2, t3, t4, t5, t6, t7, t8, t9⟩ := tb_ext
  -- the constant rows
  have hsar : ∀ a : Nat, ∃ t : Nat, a < 5 → va_Z RX5 (sarN (300 + a)) "[I" (.ref t) (fun q => s.heap.size ≤ q) s s.heap ∧ va_T .int t (sarL (300 + a)).length (fun j => .int (sar (300 + a) j)) (fun q => s.heap.size ≤ q) s s.heap := by
    intro a
    by_cases ha : a < 5
    · obtain ⟨p1, p2, p3⟩ := pr_sar a ha
      have hN : (sarL (300 + a)).length < 2 ^ 31 := by
        rcases (show a = 0 ∨ a = 1 ∨ a = 2 ∨ a = 3 ∨ a = 4 by omega) with rfl | rfl | rfl | rfl | rfl <;> decide
      obtain ⟨t, ht, hT⟩ := va_Tof (A := fun q => s.heap.size ≤ q) (f := fun j => .int (sar (300 + a) j)) hN (hs _ p1) (va_eqt (hs _ p2)) (fun j hj => va_eqt (hs _ (p3 j hj))) hA
      exact ⟨t, fun _ => ⟨va_Zref (hts _ (t1 a ha)) (hts _ t2) ht hA, hT⟩⟩
    · exact ⟨0, fun h => absurd h ha⟩
  obtain ⟨ar, har⟩ := Classical.axiomOfChoice hsar
  -- the constant texts
  have hstr : ∀ i : Nat, ∃ q : Nat × Nat, i < 14 → (tmS i).eval #[Value.ref b] s none [] s = some (.ref q.1) ∧ va_O "java/lang/String" q.1 (fun q => s.heap.size ≤ q) s s.heap ∧ va_OF "java/lang/String" "coder" "B" (.int 0) q.1 (fun q => s.heap.size ≤ q) s s.heap ∧ va_OF "java/lang/String" "value" "[B" (.ref q.2) q.1 (fun q => s.heap.size ≤ q) s s.heap ∧ va_T .byte q.2 (strLen.getD i 0) (fun j => .int ((strByt.getD i []).getD j 0)) (fun q => s.heap.size ≤ q) s s.heap := by
    intro i
    by_cases hi : i < 14
    · obtain ⟨p1, p2, p3, p4, p5⟩ := pr_str i hi
      obtain ⟨a, c, cA, kA, q1, q2, q3, q4, q5, q6, -⟩ := Cond.exactly_spec (args := #[Value.ref b]) (first := s) (o := none) (s := s) (idx := []) (t := tmS i) (cls := "java/lang/String") (hs _ p1)
      have hsm := str_sm i hi
      obtain ⟨t, ht, hT⟩ := va_Tof (f := fun j => .int ((strByt.getD i []).getD j 0)) (A := fun q => s.heap.size ≤ q) (by omega) (hs _ p3) (va_eqt (hs _ p4)) (fun j hj => va_eqt (hs _ (p5 j hj))) hA
      exact ⟨(a, t), fun _ => ⟨q1, ⟨cA, q3, q5, by rw [q6]; exact q2, hA a (Array.getElem?_eq_some_iff.mp q3).1⟩, vk_OFof q1 (va_eqt (hs _ p2)) hA, vk_OFof q1 ht hA, hT⟩⟩
    · exact ⟨(0, 0), fun h => absurd h hi⟩
  obtain ⟨ad, had⟩ := Classical.axiomOfChoice hstr
  -- the formatter
  have hfm : ∃ f : Nat, va_Z "jdk/internal/util/Preconditions" "SIOOBE_FORMATTER" "Ljava/util/function/BiFunction;" .null (fun q => s.heap.size ≤ q) s s.heap ∨ va_Z "jdk/internal/util/Preconditions" "SIOOBE_FORMATTER" "Ljava/util/function/BiFunction;" (.ref f) (fun q => s.heap.size ≤ q) s s.heap := by
    rcases va_Zqof (A := fun q => s.heap.size ≤ q) (hts _ t8) (hts _ t9) (hs _ pr_misc.2) hA with h | ⟨t, h⟩
    · exact ⟨0, Or.inl h⟩
    · exact ⟨t, Or.inr h⟩
  obtain ⟨fm, hfm⟩ := hfm
  let σ0 : Nat → Nat := fun a => if a = 400 then b else if a = 500 then fm else if 300 ≤ a then ar (a - 300) else if 200 ≤ a then (ad (a - 200)).2 else (ad (a - 100)).1
  have e1 : ∀ i, i < 14 → σ0 (100 + i) = (ad i).1 := fun i hi => by
    show (if 100 + i = 400 then b else if 100 + i = 500 then fm else if 300 ≤ 100 + i then ar (100 + i - 300) else if 200 ≤ 100 + i then (ad (100 + i - 200)).2 else (ad (100 + i - 100)).1) = _
    rw [if_neg (by omega), if_neg (by omega), if_neg (by omega), if_neg (by omega), Nat.add_sub_cancel_left]
  have e2 : ∀ i, i < 14 → σ0 (200 + i) = (ad i).2 := fun i hi => by
    show (if 200 + i = 400 then b else if 200 + i = 500 then fm else if 300 ≤ 200 + i then ar (200 + i - 300) else if 200 ≤ 200 + i then (ad (200 + i - 200)).2 else (ad (200 + i - 100)).1) = _
    rw [if_neg (by omega), if_neg (by omega), if_neg (by omega), if_pos (by omega), Nat.add_sub_cancel_left]
  have e3 : ∀ a, 300 ≤ a → a ≤ 304 → σ0 a = ar (a - 300) := fun a h1 h2 => by
    show (if a = 400 then b else if a = 500 then fm else if 300 ≤ a then ar (a - 300) else if 200 ≤ a then (ad (a - 200)).2 else (ad (a - 100)).1) = _
    rw [if_neg (by omega), if_neg (by omega), if_pos h1]
  refine ⟨σ0, rfl, fun a h1 h2 => ?_, ⟨fun i hi => ?_, fun i j hi hj e => ?_⟩, fun q hq => ?_, fun w hw => ?_, va_Zof (hts _ t5) (hts _ t6) (va_eqt (hs _ pr_misc.1)) hA, hts _ t7, hfm⟩
  · have h3 := har (a - 300) (by omega)
    rw [show 300 + (a - 300) = a by omega] at h3
    rw [e3 a h1 h2]
    exact h3
  · dsimp only
    rw [e1 i hi, e2 i hi]
    exact (had i hi).2
  · dsimp only at e
    rw [e1 i hi, e1 j hj] at e
    obtain ⟨-, -, -, ⟨cf, k, fi, f, cell, g1, g2, g3, g4, g5, g6⟩, ⟨c2, k1, k2, k3, k4, k5, k6, k7⟩⟩ := had i hi
    obtain ⟨-, -, -, ⟨cf', k', fi', f', cell', g1', g2', g3', g4', g5', g6'⟩, ⟨c2', k1', k2', k3', k4', k5', k6', k7'⟩⟩ := had j hj
    rw [g1] at g1'
    cases g1'
    rw [e] at g3
    rw [g3] at g3'
    cases g3'
    rw [g5] at g5'
    have hv : (ad i).2 = (ad j).2 := by
      injection g5' with z
      injection z
    rw [hv] at k1
    rw [k1] at k1'
    cases k1'
    have hl : strLen.getD i 0 = strLen.getD j 0 := by
      have z := k5.symm.trans k5'
      have s1 := str_sm i hi
      have s2 := str_sm j hj
      exact (nI_eq (a := strLen.getD i 0) (b := strLen.getD j 0) (by omega) (by omega)).mp z
    refine str_inj i hi j hj hl (fun k hk => ?_)
    have z1 := k6 k hk
    have z2 := k6' k (by rw [← hl]; exact hk)
    rw [z1] at z2
    injection z2 with z3
    injection z3
  · obtain ⟨h1, h2⟩ := srefs_of q hq
    rw [e1 _ h1]
    have hev := (had _ h1).1
    refine vk_R.of (A := #[Value.ref b]) (hts _ (t3 q hq)) ?_
    rcases h2 with ⟨z1, z2⟩ | ⟨z1, z2⟩
    · rw [z1, z2]; exact hev
    · rw [z1, z2]
      rcases pr_one _ h1 with p | p
      · exact eq_ref (hs _ p) hev
      · exact eq_ref2 (hs _ p) hev
  · exact va_Nw.of (by
      simp only [nestw, List.mem_cons, List.not_mem_nil, or_false] at hw
      rcases hw with rfl | rfl | rfl | rfl | rfl | rfl | rfl <;> rfl) (hts _ (t4 w hw))
