/-! ===== the finished world: its references, contracts over it; printed by wip/whole/mk16.py ===== -/
def ρ (a k : Nat) : Option Nat := (bif Nat.blt a 44 then (bif Nat.blt a 27 then (bif Nat.blt a 2 then (bif Nat.blt a 1 then (bif Nat.blt k 4 then (bif Nat.blt k 2 then (bif Nat.blt k 1 then (some 1) else (some 14)) else (bif Nat.blt k 3 then none else (some 27))) else (bif Nat.blt k 6 then (bif Nat.blt k 5 then (some 29) else (some 43)) else (bif Nat.blt k 7 then (some 53) else (bif Nat.blt k 8 then (some 62) else none)))) else (bif Nat.blt k 8 then (bif Nat.blt k 4 then (bif Nat.blt k 2 then (bif Nat.blt k 1 then (some 2) else (some 3)) else (bif Nat.blt k 3 then (some 4) else (some 5))) else (bif Nat.blt k 6 then (bif Nat.blt k 5 then (some 6) else (some 7)) else (bif Nat.blt k 7 then (some 8) else (some 9)))) else (bif Nat.blt k 12 then (bif Nat.blt k 10 then (bif Nat.blt k 9 then none else (some 10)) else (bif Nat.blt k 11 then (some 11) else (some 12))) else (bif Nat.blt k 14 then (bif Nat.blt k 13 then none else none) else (bif Nat.blt k 15 then none else (bif Nat.blt k 16 then (some 13) else none)))))) else (bif Nat.blt a 14 then none else (bif Nat.blt a 15 then (bif Nat.blt k 8 then (bif Nat.blt k 4 then (bif Nat.blt k 2 then (bif Nat.blt k 1 then (some 15) else (some 16)) else (bif Nat.blt k 3 then (some 17) else (some 18))) else (bif Nat.blt k 6 then (bif Nat.blt k 5 then (some 19) else (some 20)) else (bif Nat.blt k 7 then (some 21) else (some 22)))) else (bif Nat.blt k 12 then (bif Nat.blt k 10 then (bif Nat.blt k 9 then none else (some 23)) else (bif Nat.blt k 11 then (some 24) else (some 25))) else (bif Nat.blt k 14 then (bif Nat.blt k 13 then none else none) else (bif Nat.blt k 15 then none else (bif Nat.blt k 16 then (some 26) else none))))) else none))) else (bif Nat.blt a 30 then (bif Nat.blt a 28 then (bif Nat.blt k 1 then (some 28) else none) else (bif Nat.blt a 29 then none else (bif Nat.blt k 1 then (some 27) else (bif Nat.blt k 2 then (some 30) else none)))) else (bif Nat.blt a 31 then (bif Nat.blt k 8 then (bif Nat.blt k 4 then (bif Nat.blt k 2 then (bif Nat.blt k 1 then (some 31) else (some 32)) else (bif Nat.blt k 3 then (some 33) else (some 34))) else (bif Nat.blt k 6 then (bif Nat.blt k 5 then (some 35) else (some 36)) else (bif Nat.blt k 7 then (some 37) else (some 38)))) else (bif Nat.blt k 12 then (bif Nat.blt k 10 then (bif Nat.blt k 9 then none else (some 39)) else (bif Nat.blt k 11 then (some 40) else (some 41))) else (bif Nat.blt k 14 then (bif Nat.blt k 13 then none else none) else (bif Nat.blt k 15 then none else (bif Nat.blt k 16 then (some 42) else none))))) else (bif Nat.blt a 43 then none else (bif Nat.blt k 6 then (bif Nat.blt k 3 then (bif Nat.blt k 1 then (some 1) else (bif Nat.blt k 2 then (some 44) else (some 45))) else (bif Nat.blt k 4 then (some 46) else (bif Nat.blt k 5 then (some 47) else none))) else (bif Nat.blt k 9 then (bif Nat.blt k 7 then (some 48) else (bif Nat.blt k 8 then (some 49) else (some 50))) else (bif Nat.blt k 10 then (some 51) else (bif Nat.blt k 11 then (some 52) else none)))))))) else (bif Nat.blt a 58 then (bif Nat.blt a 55 then (bif Nat.blt a 53 then none else (bif Nat.blt a 54 then (bif Nat.blt k 2 then (bif Nat.blt k 1 then (some 54) else (some 56)) else (bif Nat.blt k 3 then (some 58) else (bif Nat.blt k 4 then (some 60) else none))) else (bif Nat.blt k 1 then (some 55) else none))) else (bif Nat.blt a 56 then none else (bif Nat.blt a 57 then (bif Nat.blt k 1 then (some 57) else none) else none))) else (bif Nat.blt a 61 then (bif Nat.blt a 59 then (bif Nat.blt k 1 then (some 59) else none) else (bif Nat.blt a 60 then none else (bif Nat.blt k 1 then (some 61) else none))) else (bif Nat.blt a 63 then none else (bif Nat.blt a 64 then (bif Nat.blt k 11 then (bif Nat.blt k 5 then (bif Nat.blt k 2 then (bif Nat.blt k 1 then (some 64) else (some 65)) else (bif Nat.blt k 3 then (some 66) else (bif Nat.blt k 4 then none else (some 67)))) else (bif Nat.blt k 8 then (bif Nat.blt k 6 then (some 68) else (bif Nat.blt k 7 then none else none)) else (bif Nat.blt k 9 then none else (bif Nat.blt k 10 then none else none)))) else (bif Nat.blt k 16 then (bif Nat.blt k 13 then (bif Nat.blt k 12 then none else none) else (bif Nat.blt k 14 then (some 69) else (bif Nat.blt k 15 then (some 70) else none))) else (bif Nat.blt k 19 then (bif Nat.blt k 17 then (some 71) else (bif Nat.blt k 18 then (some 72) else (some 73))) else (bif Nat.blt k 20 then (some 74) else (bif Nat.blt k 21 then (some 75) else none))))) else none)))))
theorem Met.ofWF {l : Launch} {y : MethodName} {ws ws' : List Cond} {rm : Room} {Pc : Array Value → State → Prop} {Qc : Array Value → State → Outcome → State → Prop} {mc ms : Nat} {free : Addr → Prop} {cc : ByteArray} {maxL : Nat} {ret : Option FieldType}
    (hy : plainFor y = true) (hw : ws = Cond.code y cc maxL ret :: ws')
    (body : ∀ p e s m args below meth c s₁, BodyLoose p l y (headSpec ws rm) cc maxL ret e s m args below meth c s₁ → c.maxLocals = maxL → Pc args s →
      W p l e (headSpec ws rm).room s m args below meth c s.heap [] 0 0 (MQ below Qc args s mc ms free) (entryFrame m args maxL)) : Met l y ws rm Pc Qc mc ms free := by
  refine MetFree.of_bodySF (code := cc) (maxLocals := maxL) (ret := ret) hy ?_ ?_
  · intro args s m h hn
    obtain ⟨meth, c, h1, h2, h3, h4, h5, h6, -, -⟩ := Cond.code_spec hn (atoms_spec (ws := ws) h _ (by rw [hw]; exact List.mem_cons_self))
    exact ⟨meth, c, h1, h2, h3, h4, h5, h6⟩
  · intro p e s m args below meth c s₁ B hml hP _
    have hh0 : s₁.heap = s.heap := by rw [B.state]; rfl
    obtain ⟨t, a1, o, b1, b2, b3⟩ := body p e s m args below meth c s₁ B hml hP s₁ hh0 (Stand.of_body B)
    exact ⟨t, o, a1, b1, b2, ⟨b3.1, b3.2⟩⟩
set_option maxHeartbeats 1000000 in
/-- a contract out of a segment from entry to return -/
theorem MM.ofF {mt : aM} {lv : Nat} {av : List Value} {n0 n1 : Nat} {M0 M1 : aMem} {r : List Value} (hy : plainFor mt.1 = true) (hok : OkM mt) (hen : (enL av).length ≤ mt.2.2.1) (hlv : 1 ≤ lv) (hscr : mt.2.2.2.2.1.1 = 0) (hnx : mt.2.2.2.2.1.2.2 ≤ n1) (hn01 : n0 ≤ n1) (hn1 : n1 ≤ nW)
    (h : Seg mt lv (0, paL mt.2.2.1 (enL av), [], n0, M0) (aRET, [], r, n1, M1)) : MM mt lv av n0 M0 r n1 M1 := by
  intro l D σ0 τ0 sz
  refine Met.ofWF (cc := mt.2.1) (maxL := mt.2.2.1) (ret := mt.2.2.2.1) hy rfl ?_
  intro p e s m args below meth c s₁ B hml hv
  obtain ⟨rfl, hsz, hP, hD, hK, hT, hX, hnW, hRL⟩ := hv
  have hx := B.exec
  have hb := B.bytes
  have hr := B.returns
  have hts := atoms_spec (ws := Cond.code mt.1 mt.2.1 mt.2.2.1 mt.2.2.2.1 :: gw) B.pre
  have hown : s.vm.findClass mt.1.cls = some m.cls := findClass_of_methodNamed B.named
  have hlocks := B.notSynchronized
  have hnm : meth.name = mt.1.name := (name_of_methodNamed B.named B.method).1
  have hA : ∀ q, s.heap.size ≤ q → Aw σ0 n0 sz q := fun q hq => Or.inr (by rw [← hsz]; exact hq)
  have hDA : va_D (Aw σ0 n0 sz) (wd σ0 τ0 n0 M0) := ⟨hD.1, fun k q hk => by
    rcases Nat.lt_or_ge k n0 with hk2 | hk2
    · rw [wd_at hk2] at hk; cases hk; exact Or.inl ⟨k, hk2, rfl⟩
    · rw [wd_out hk2] at hk; cases hk⟩
  have C : aCx mt lv p l e (rmL lv n0 n1) s m (av.map (cv σ0)).toArray below meth c (Aw σ0 n0 sz) D σ0 n0 (MQ below (aEnd D (Aw σ0 n0 sz) σ0 n0 n1 r M1) (av.map (cv σ0)).toArray s (n1 - n0) (szp n1 - szp n0) (Aw σ0 n0 sz)) (fun st n M => st = r ∧ n = n1 ∧ M = M1) := by
    refine ⟨⟨hx, hb, hml, hnm, hown⟩, fun w hw => hts w (List.mem_cons_of_mem _ hw), hK, hX, hA, hok, ⟨hlv, Nat.le_refl _, Nat.le_refl _, ?_, ?_, Nat.le_trans hnx hn1⟩, Or.inl hscr, ?_⟩
    · show _ ≤ n1 - n0; omega
    · have := szp_mono hnx
      show _ ≤ szp n1 - szp n0; omega
    · intro pc i st n M σ τ H locs la hret hdec hfin hF
      obtain ⟨rfl, rfl, rfl⟩ := hfin
      have hq : ∀ (t : State) (v : Option Value), t.heap = H → s.WarmedH t.vm → v = (st.map (cv σ)).head? → aEnd D (Aw σ0 n0 sz) σ0 n0 n st M (av.map (cv σ0)).toArray s (.returned v) t := fun t v ht hw hv => ⟨σ, τ, hF.1, hF.2.2.1.moved hw.alike, ⟨hF.2.1.1, hF.2.1.2.1.1, hF.2.1.2.2⟩, by rw [hv], by rw [ht]; exact hF.2.2.2.1, hF.2.2.2.2.1, hF.2.2.2.2.2.F ht⟩
      have hf : ∀ q ∈ locs, Aw σ0 n0 sz q.base := hF.2.2.2.2.2.2.2
      cases i <;> try exact hret.elim
      case ireturn =>
        match st, hret with
        | [.int v], ⟨ty, h1, h2⟩ => exact W.zret hx hb (hr.trans h1) h2 (fun t ht hw => hq t _ ht hw rfl) hf hdec
      case lreturn =>
        match st, hret with
        | [.long v], h1 => exact W.lret hx hb (hr.trans h1) (fun t ht hw => hq t _ ht hw rfl) hf hdec
      case areturn =>
        match st, hret with
        | [.ref v], ⟨k, h1⟩ => exact W.aret hx hb (hr.trans h1) (Or.inl ⟨k, rfl⟩) (Or.inr ⟨_, rfl⟩) (fun t ht hw => hq t _ ht hw rfl) hf hdec
      case return_ =>
        match st, hret with
        | [], h1 => exact W.vret hx hb (hr.trans h1) (fun t ht hw => hq t _ ht hw rfl) hf hdec
  have hl := lv_entry (av.map (cv σ0)) (n := mt.2.2.1) (by rw [← en_len]; exact hen)
  have hw := (h p l e _ s m _ below meth c _ D σ0 n0 _ _ C ⟨fun _ => ⟨rfl, rfl, rfl⟩, fun z => absurd rfl z⟩).2 (show (0 : Nat) ≠ aRET by decide) σ0 τ0 s.heap [] _ ⟨fun _ _ => rfl, ⟨Nat.le_refl _, ⟨hnW, Or.inl rfl⟩, hRL⟩, hT, hP, hDA, va_S.rf⟩ (pa_len _ _) (by rw [pa_as _ _ _ hen, en_as]; exact hl)
  rw [lg_entry_eq]
  simp only [Nat.sub_self] at hw
  exact hw
abbrev aH : Type := Nat → Nat → Int32
abbrev aG : Type := Nat → Nat → Int64
/-- a contract in the finished world -/
def MS (mt : aM) (lv : Nat) (av : List Value) (h : aH) (g : aG) (r : List Value) (h' : aH) (g' : aG) : Prop := MM mt lv av nW (h, g, ρ) r nW (h', g', ρ)
theorem MS.of {mt : aM} {lv : Nat} {av : List Value} {h h' : aH} {g g' : aG} {r : List Value} (hok : OkM mt) (hy : plainFor mt.1 = true) (hen : (enL av).length ≤ mt.2.2.1) (hlv : 1 ≤ lv) (hscr : mt.2.2.2.2.1.1 = 0) (hnx : mt.2.2.2.2.1.2.2 ≤ nW)
    (z : Seg mt lv (0, paL mt.2.2.1 (enL av), [], nW, h, g, ρ) (aRET, [], r, nW, h', g', ρ)) : MS mt lv av h g r h' g' := MM.ofF hy hok hen hlv hscr hnx (Nat.le_refl _) (Nat.le_refl _) z
/-- a method that looks at no cell and makes none -/
def MP (mt : aM) (lv : Nat) (av : List Value) (r : List Value) : Prop := ∀ (n : Nat) (h : aH) (g : aG) (q : Nat → Nat → Option Nat), n ≤ nW → MM mt lv av n (h, g, q) r n (h, g, q)
theorem MP.of {mt : aM} {lv : Nat} {av : List Value} {r : List Value} (hok : OkM mt) (hy : plainFor mt.1 = true) (hen : (enL av).length ≤ mt.2.2.1) (hlv : 1 ≤ lv) (hscr : mt.2.2.2.2.1.1 = 0) (hnx : mt.2.2.2.2.1.2.2 = 0)
    (z : ∀ (n : Nat) (h : aH) (g : aG) (q : Nat → Nat → Option Nat), n ≤ nW → Seg mt lv (0, paL mt.2.2.1 (enL av), [], n, h, g, q) (aRET, [], r, n, h, g, q)) : MP mt lv av r := fun n h g q hn => MM.ofF hy hok hen hlv hscr (by omega) (Nat.le_refl _) hn (z n h g q hn)
theorem MP.ms {mt : aM} {lv : Nat} {av : List Value} {r : List Value} (z : MP mt lv av r) (h : aH) (g : aG) : MS mt lv av h g r h g := z nW h g ρ (Nat.le_refl _)
section CS
variable {mt ct : aM} {lv lw : Nat} {pc nx tg : Nat} {q : aQ} {ls : List (Option Value)} {st : List Value} {h h' : aH} {g g' : aG} {av r : List Value} {idx np : Nat}
theorem Seg.cV {b ci : Nat} {As : List Value} (hM : MS ct lw (.ref b :: As) h g r h' g') (hl : Cond.methodLink mt.1.cls idx ct.1 ∈ gw) (hin : Cond.instanceMethod ct.1 ∈ gw) (hse : Cond.selects ct.1.cls ct.1 ct.1 ∈ gw) (hy : OkY ct np) (hnp : As.length = np) (hlw : lw < lv) (hb : shp b = (0, ci)) (hbn : b < nW) (hci : ci < 7) (hnm : nmC ci = ct.1.cls)
    (hc : mt.2.2.2.2.2 pc = some (.invokevirtual idx, nx, tg, q)) (hrf : rfL nW ls = true) (hrs : rfS nW st = true) (hcat : (st.map fun v => v.category).sum ≤ 8) (hr1 : r.length ≤ 1) : Seg mt lv (pc, ls, As.reverse ++ (.ref b :: st), nW, h, g, ρ) (nx, ls, r ++ st, nW, h', g', ρ) :=
  Seg.callV hM hc hl hin hse hy ⟨hb, hbn, hci, hnm⟩ hnp hlw hrf hrs hcat hr1 (Nat.le_refl _) (Or.inl rfl)
theorem Seg.cT {j : Nat} {As : List Value} (hM : MS ct lw (.ref (100 + j) :: As) h g r h' g') (hl : Cond.methodLink mt.1.cls idx ct.1 ∈ gw) (hin : Cond.instanceMethod ct.1 ∈ gw) (hse : Cond.selects ct.1.cls ct.1 ct.1 ∈ gw) (hy : OkY ct np) (hnp : As.length = np) (hlw : lw < lv) (hj : j < strN) (hcs : ct.1.cls = "java/lang/String")
    (hc : mt.2.2.2.2.2 pc = some (.invokevirtual idx, nx, tg, q)) (hrf : rfL nW ls = true) (hrs : rfS nW st = true) (hcat : (st.map fun v => v.category).sum ≤ 8) (hr1 : r.length ≤ 1) : Seg mt lv (pc, ls, As.reverse ++ (.ref (100 + j) :: st), nW, h, g, ρ) (nx, ls, r ++ st, nW, h', g', ρ) :=
  Seg.callT hM hc hl hin hse hy ⟨hj, hcs⟩ hnp hlw hrf hrs hcat hr1 (Nat.le_refl _) (Or.inl rfl)
theorem Seg.cS (hM : MS ct lw av h g r h' g') (hl : Cond.methodLink mt.1.cls idx ct.1 ∈ gw) (hst : Cond.static ct.1 ∈ gw) (hy : OkY ct np) (hnp : av.length = np) (hlw : lw < lv)
    (hc : mt.2.2.2.2.2 pc = some (.invokestatic idx, nx, tg, q)) (hrf : rfL nW ls = true) (hrs : rfS nW st = true) (hcat : (st.map fun v => v.category).sum ≤ 8) (hr1 : r.length ≤ 1) : Seg mt lv (pc, ls, av.reverse ++ st, nW, h, g, ρ) (nx, ls, r ++ st, nW, h', g', ρ) :=
  Seg.callS hM hc hl hst hy hnp hlw hrf hrs hcat hr1 (Nat.le_refl _) (Or.inl rfl)
theorem Seg.cN (hM : MS ct lw av h g r h' g') (hl : Cond.methodLinkNest mt.1.cls idx ct.1 RX5 ∈ nestw) (hst : Cond.static ct.1 ∈ gw) (hy : OkY ct np) (hnp : av.length = np) (hlw : lw < lv)
    (hc : mt.2.2.2.2.2 pc = some (.invokestatic idx, nx, tg, q)) (hrf : rfL nW ls = true) (hrs : rfS nW st = true) (hcat : (st.map fun v => v.category).sum ≤ 8) (hr1 : r.length ≤ 1) : Seg mt lv (pc, ls, av.reverse ++ st, nW, h, g, ρ) (nx, ls, r ++ st, nW, h', g', ρ) :=
  Seg.callN hM hc hl hst hy hnp hlw hrf hrs hcat hr1 (Nat.le_refl _) (Or.inl rfl)
/-- the same for methods that look at no cell, at any time -/
theorem Seg.pS {n : Nat} {h : aH} {g : aG} {w : Nat → Nat → Option Nat} (hM : MP ct lw av r) (hl : Cond.methodLink mt.1.cls idx ct.1 ∈ gw) (hst : Cond.static ct.1 ∈ gw) (hy : OkY ct np) (hnp : av.length = np) (hlw : lw < lv) (hn : n ≤ nW)
    (hc : mt.2.2.2.2.2 pc = some (.invokestatic idx, nx, tg, q)) (hrf : rfL n ls = true) (hrs : rfS n st = true) (hcat : (st.map fun v => v.category).sum ≤ 8) (hr1 : r.length ≤ 1) : Seg mt lv (pc, ls, av.reverse ++ st, n, h, g, w) (nx, ls, r ++ st, n, h, g, w) :=
  Seg.callS (hM n h g w hn) hc hl hst hy hnp hlw hrf hrs hcat hr1 (Nat.le_refl _) (Or.inl rfl)
end CS
