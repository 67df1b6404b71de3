/-! ===== segments to one of several ends; contracts that say what holds at the end ===== -/
def SegP (mt : aM) (lv : Nat) (cf : aCfg) (P : aCfg → Prop) : Prop := ∀ (p : Program) (l : Launch) (e : Env) (R : Room) (s : State) (m : MethodId) (args : Array Value) (below : List Frame) (meth : Method) (c : Code) (A : Nat → Prop) (D : va_G) (σ0 : Nat → Nat) (n0 : Nat) (Q : State → Prop) (Fz : List Value → Nat → aMem → Prop),
  aCx mt lv p l e R s m args below meth c A D σ0 n0 Q Fz → (∀ d, P d → aWA mt p l e R s m args below meth c A D σ0 n0 Q Fz d) → aWA mt p l e R s m args below meth c A D σ0 n0 Q Fz cf
theorem SegP.rf {mt : aM} {lv : Nat} {a : aCfg} {P : aCfg → Prop} (h : P a) : SegP mt lv a P := fun _ _ _ _ _ _ _ _ _ _ _ _ _ _ _ _ _ k => k a h
theorem SegP.tr {mt : aM} {lv : Nat} {a b : aCfg} {P : aCfg → Prop} (h1 : Seg mt lv a b) (h2 : SegP mt lv b P) : SegP mt lv a P := fun p l e R s m args below meth c A D σ0 n0 Q Fz C k => h1 p l e R s m args below meth c A D σ0 n0 Q Fz C (h2 p l e R s m args below meth c A D σ0 n0 Q Fz C k)
theorem SegP.tp {mt : aM} {lv : Nat} {a : aCfg} {P Q : aCfg → Prop} (h1 : SegP mt lv a P) (h2 : ∀ d, P d → SegP mt lv d Q) : SegP mt lv a Q := fun p l e R s m args below meth c A D σ0 n0 Q' Fz C k => h1 p l e R s m args below meth c A D σ0 n0 Q' Fz C (fun d hd => h2 d hd p l e R s m args below meth c A D σ0 n0 Q' Fz C k)
theorem SegP.iter {mt : aM} {lv : Nat} (I : Nat → aCfg → Prop) (n : Nat) (h : ∀ i, i < n → ∀ d, I i d → SegP mt lv d (I (i + 1))) : ∀ d, I 0 d → SegP mt lv d (I n) := by
  induction n with
  | zero => intro d hd; exact SegP.rf hd
  | succ n ih => intro d hd; exact (ih (fun i hi => h i (Nat.lt_succ_of_lt hi)) d hd).tp (h n (Nat.lt_succ_self n))
/-- a walk up to the next stops -/
theorem SegP.run {mt : aM} {lv : Nat} {pc : Nat} {ls : List (Option Value)} {st : List Value} {n : Nat} {h : Nat → Nat → Int32} {g : Nat → Nat → Int64} {r : Nat → Nat → Option Nat} {P : aCfg → Prop} (cuts : List Nat) (k : Nat) (z : goJ mt cuts k pc ls st n h g r (fun pc ls st n h g r => SegP mt lv (pc, ls, st, n, h, g, r) P)) : SegP mt lv (pc, ls, st, n, h, g, r) P := fun p l e R s m args below meth c A D σ0 n0 Q Fz C hb =>
  go_sound C cuts k _ _ (goJ_eq k pc ls st n h g r _ z) (fun d hd => hd p l e R s m args below meth c A D σ0 n0 Q Fz C hb)
/-- the end of a method in the finished world -/
def enP (P : List Value → aH → aG → Prop) : aCfg → Prop := fun d => ∃ r h g, d = (aRET, [], r, nW, h, g, ρ) ∧ P r h g
theorem SegP.ret {mt : aM} {lv : Nat} {r : List Value} {h : aH} {g : aG} {P : List Value → aH → aG → Prop} (z : P r h g) : SegP mt lv (aRET, [], r, nW, h, g, ρ) (enP P) := SegP.rf ⟨r, h, g, rfl, z⟩
def aEndP (D : va_G) (A : Nat → Prop) (σ0 : Nat → Nat) (P : List Value → aH → aG → Prop) : Array Value → State → Outcome → State → Prop := fun a st o t => ∃ r h g, P r h g ∧ r.length ≤ 1 ∧ aEnd D A σ0 nW nW r (h, g, ρ) a st o t
/-- a contract that says what holds at the end -/
def MX (mt : aM) (lv : Nat) (av : List Value) (h : aH) (g : aG) (P : List Value → aH → aG → Prop) : Prop :=
  ∀ (l : Launch) (D : va_G) (σ0 τ0 : Nat → Nat) (sz : Nat), Met l mt.1 (Cond.code mt.1 mt.2.1 mt.2.2.1 mt.2.2.2.1 :: gw) (rmL lv nW nW) (aSta D σ0 τ0 nW (h, g, ρ) av sz) (aEndP D (Aw σ0 nW sz) σ0 P) (nW - nW) (szp nW - szp nW) (Aw σ0 nW sz)
set_option maxHeartbeats 1000000 in
theorem MX.of {mt : aM} {lv : Nat} {av : List Value} {h : aH} {g : aG} {P : List Value → aH → aG → Prop} (hok : OkM mt) (hy : plainFor mt.1 = true) (hen : (enL av).length ≤ mt.2.2.1) (hlv : 1 ≤ lv) (hscr : mt.2.2.2.2.1.1 = 0) (hnx : mt.2.2.2.2.1.2.2 ≤ nW)
    (z : SegP mt lv (0, paL mt.2.2.1 (enL av), [], nW, h, g, ρ) (enP P)) : MX mt lv av h g P := by
  intro l D σ0 τ0 sz
  refine Met.ofWF (cc := mt.2.1) (maxL := mt.2.2.1) (ret := mt.2.2.2.1) hy rfl ?_
  intro p e s m args below meth c s₁ B hml hv
  obtain ⟨rfl, hsz, hP, hD, hK, hT, hX, hnW, hRL⟩ := hv
  have hx := B.exec
  have hb := B.bytes
  have hr := B.returns
  have hts := atoms_spec (ws := Cond.code mt.1 mt.2.1 mt.2.2.1 mt.2.2.2.1 :: gw) B.pre
  have hown : s.vm.findClass mt.1.cls = some m.cls := findClass_of_methodNamed B.named
  have hlocks := B.notSynchronized
  have hnm : meth.name = mt.1.name := (name_of_methodNamed B.named B.method).1
  have hA : ∀ q, s.heap.size ≤ q → Aw σ0 nW sz q := fun q hq => Or.inr (by rw [← hsz]; exact hq)
  have hDA : va_D (Aw σ0 nW sz) (wd σ0 τ0 nW (h, g, ρ)) := ⟨hD.1, fun k q hk => by
    rcases Nat.lt_or_ge k nW with hk2 | hk2
    · rw [wd_at hk2] at hk; cases hk; exact Or.inl ⟨k, hk2, rfl⟩
    · rw [wd_out hk2] at hk; cases hk⟩
  have C : aCx mt lv p l e (rmL lv nW nW) s m (av.map (cv σ0)).toArray below meth c (Aw σ0 nW sz) D σ0 nW (MQ below (aEndP D (Aw σ0 nW sz) σ0 P) (av.map (cv σ0)).toArray s (nW - nW) (szp nW - szp nW) (Aw σ0 nW sz)) (fun st n M => n = nW ∧ ∃ h' g', M = (h', g', ρ) ∧ P st h' g') := by
    refine ⟨⟨hx, hb, hml, hnm, hown⟩, fun w hw => hts w (List.mem_cons_of_mem _ hw), hK, hX, hA, hok, ⟨hlv, Nat.le_refl _, Nat.le_refl _, ?_, ?_, hnx⟩, Or.inl hscr, ?_⟩
    · show _ ≤ nW - nW; omega
    · have := szp_mono hnx
      show _ ≤ szp nW - szp nW; omega
    · intro pc i st n M σ τ H locs la hret hdec hfin hF
      obtain ⟨rfl, h', g', rfl, hPz⟩ := hfin
      have hq : ∀ (t : State) (v : Option Value), st.length ≤ 1 → t.heap = H → s.WarmedH t.vm → v = (st.map (cv σ)).head? → aEndP D (Aw σ0 nW sz) σ0 P (av.map (cv σ0)).toArray s (.returned v) t := fun t v hl1 ht hw hv => ⟨st, h', g', hPz, hl1, σ, τ, hF.1, hF.2.2.1.moved hw.alike, ⟨hF.2.1.1, hF.2.1.2.1.1, hF.2.1.2.2⟩, by rw [hv], by rw [ht]; exact hF.2.2.2.1, hF.2.2.2.2.1, hF.2.2.2.2.2.F ht⟩
      have hf : ∀ q ∈ locs, Aw σ0 nW sz q.base := hF.2.2.2.2.2.2.2
      cases i <;> try exact hret.elim
      case ireturn =>
        match st, hret with
        | [.int v], ⟨ty, h1, h2⟩ => exact W.zret hx hb (hr.trans h1) h2 (fun t ht hw => hq t _ (Nat.le_refl _) ht hw rfl) hf hdec
      case lreturn =>
        match st, hret with
        | [.long v], h1 => exact W.lret hx hb (hr.trans h1) (fun t ht hw => hq t _ (Nat.le_refl _) ht hw rfl) hf hdec
      case areturn =>
        match st, hret with
        | [.ref v], ⟨k, h1⟩ => exact W.aret hx hb (hr.trans h1) (Or.inl ⟨k, rfl⟩) (Or.inr ⟨_, rfl⟩) (fun t ht hw => hq t _ (Nat.le_refl _) ht hw rfl) hf hdec
      case return_ =>
        match st, hret with
        | [], h1 => exact W.vret hx hb (hr.trans h1) (fun t ht hw => hq t _ (Nat.zero_le _) ht hw rfl) hf hdec
  have hl := lv_entry (av.map (cv σ0)) (n := mt.2.2.1) (by rw [← en_len]; exact hen)
  have hw := (z p l e _ s m _ below meth c _ D σ0 nW _ _ C (fun d hd => by
    obtain ⟨r, h', g', rfl, hPz⟩ := hd
    exact ⟨fun _ => ⟨rfl, h', g', rfl, hPz⟩, fun q => absurd rfl q⟩)).2 (show (0 : Nat) ≠ aRET by decide) σ0 τ0 s.heap [] _ ⟨fun _ _ => rfl, ⟨Nat.le_refl _, ⟨hnW, Or.inl rfl⟩, hRL⟩, hT, hP, hDA, va_S.rf⟩ (pa_len _ _) (by rw [pa_as _ _ _ hen, en_as]; exact hl)
  rw [lg_entry_eq]
  simp only [Nat.sub_self] at hw ⊢
  exact hw
section CALLX
variable {mt ct : aM} {lv lw : Nat} {pc nx tg : Nat} {q : aQ} {ls : List (Option Value)} {st : List Value} {h : aH} {g : aG} {av : List Value} {idx np : Nat} {P : List Value → aH → aG → Prop} {P' : aCfg → Prop} {i : Instr}
set_option maxHeartbeats 1000000 in
theorem SegP.core (hrf : rfL nW ls = true) (hrs : rfS nW st = true) (hpc : pc < aRET) (hnx : nx = pc + 3) (hnr : nx < aRET) (stk : List Value)
    (run : ∀ (p : Program) (l : Launch) (e : Env) (R : Room) (s : State) (m : MethodId) (args : Array Value) (below : List Frame) (meth : Method) (c : Code) (A : Nat → Prop) (D : va_G) (σ0 : Nat → Nat) (n0 : Nat) (Q : State → Prop) (Fz : List Value → Nat → aMem → Prop) (σ τ : Nat → Nat) (H : Heap) (locs : List Loc) (la : Array Slot), aCx mt lv p l e R s m args below meth c A D σ0 n0 Q Fz → aFa A D σ0 n0 mt.2.2.2.2.1.2.2 s σ τ nW (h, g, ρ) H locs → la.size = mt.2.2.1 →
      (∀ U : State, U.heap = H → s.WarmedH U.vm → aSta D σ τ nW (h, g, ρ) av H.size (av.map (cv σ)).toArray U) → ((nW - n0) + (nW - nW) ≤ R.cells ∧ (szp nW - szp n0) + (szp nW - szp nW) ≤ R.slots) →
      ∃ a, va_Run p l e R s m args below meth c H locs (nW - n0) (szp nW - szp n0) (nW - nW) (szp nW - szp nW) (F0 m pc la (stk.map (cv σ))) (st.map (cv σ)) (aEndP D (Aw σ nW H.size) σ P a) (Aw σ nW H.size))
    (k : ∀ r h' g', P r h' g' → SegP mt lv (nx, ls, r ++ st, nW, h', g', ρ) P') : SegP mt lv (pc, ls, stk, nW, h, g, ρ) P' := by
  intro p l e R s m args below meth c A D σ0 n0 Q Fz C hP'
  refine ⟨fun hr => absurd hr (Nat.ne_of_lt hpc), fun _ σ τ H locs la hF hlen hl => ?_⟩
  subst hnx
  dsimp only at hF hlen hl ⊢
  obtain ⟨hO, ⟨hn0, ⟨hnW, hnz⟩, hRL⟩, hT, hP, hD, hS⟩ := id hF
  have hAw : ∀ q, Aw σ nW H.size q → A q := fun q hq => by
    rcases hq with ⟨k, hk, rfl⟩ | hq
    · exact hD.2 k _ (wd_at hk)
    · exact C.2.2.2.2.1 q (Nat.le_trans hS.1 hq)
  have hpre : ∀ U : State, U.heap = H → s.WarmedH U.vm → aSta D σ τ nW (h, g, ρ) av H.size (av.map (cv σ)).toArray U := fun U hU hW => by
    refine ⟨rfl, by rw [hU], by rw [hU]; exact hP, hD.weaken (fun _ _ _ _ => trivial), va_K.moved hW.alike C.2.2.1, hT.moved hW.alike, ?_, hnW, hRL⟩
    rw [hU]
    exact (((C.2.2.2.1.swap (fun a ha => hO a (Or.inr ha))).kept hS.2.1).narrow hAw).warm hW
  have s0 := szp_mono hn0
  have hroom2 : (nW - n0) + (nW - nW) ≤ R.cells ∧ (szp nW - szp n0) + (szp nW - szp nW) ≤ R.slots := by
    obtain ⟨-, -, -, c1, c2, -⟩ := C.2.2.2.2.2.2.1
    rcases hnz with e2 | e2
    · subst e2; simp
    · have := szp_mono e2
      omega
  obtain ⟨av0, hrun⟩ := run p l e R s m args below meth c A D σ0 n0 Q Fz σ τ H locs la C hF hl.1 hpre hroom2
  intro T hTh X
  obtain ⟨v, st₀, t, T', L, h0, X', hL, e1, e2, ⟨r, h', g', hPr, hr1, σ1, τ1, k1, k2, k3, k4, k5, k6, k7⟩, stp⟩ := hrun T hTh X
  have hv : v.toList = r.map (cv σ1) := by
    have : v = (r.map (cv σ1)).head? := by injection k4
    rw [this]
    match r, hr1 with
    | [], _ => rfl
    | [x], _ => rfl
    | _ :: _ :: _, z => simp at z
  have hal : s.vm.Alike t.vm := by rw [← e2]; exact X'.warmed.alike
  have hbk : t.vm.Alike s.vm := hal.symm
  have hw := (k r h' g' hPr p l e R s m args below meth c A D σ0 n0 Q Fz C hP').2 (show pc + 3 ≠ aRET from ?_) σ1 τ1 t.heap (locs ++ L) la ⟨fun a ha => ?_, ⟨hn0, ⟨hnW, hnz⟩, k3.2.2⟩, k2.moved hbk, k5, k6.weaken (fun _ _ _ z => hAw _ z), ?_⟩ hlen (by dsimp only; rw [as_ok k1 _ _ hrf]; exact hl)
  · dsimp only at hw
    have hcell : nW - n0 = (nW - n0) + (nW - nW) := by omega
    have hslot : szp nW - szp n0 = (szp nW - szp n0) + (szp nW - szp nW) := by omega
    rw [hcell, hslot] at hw
    obtain ⟨t2, a1, b1⟩ := hw T' e1 X'
    refine ⟨t2, stp t2 ?_, b1⟩
    rw [List.map_append, st_ok k1 hrs, ← hv] at a1
    exact a1
  · exact Nat.ne_of_lt hnr
  · rcases ha with ha | ha
    · rw [k1 a (Or.inl (by omega))]; exact hO a (Or.inl ha)
    · rw [k1 a (Or.inr ha)]; exact hO a (Or.inr ha)
  · unfold va_F at k7
    rw [h0] at k7
    refine ⟨Nat.le_trans hS.1 k7.1, fun q h1 h2 => ?_, fun q hq => ?_⟩
    · rw [k7.2 q (Nat.lt_of_lt_of_le h1 hS.1) (fun z => h2 (hAw q z))]
      exact hS.2.1 q h1 h2
    · rcases List.mem_append.mp hq with z | z
      · exact hS.2.2 q z
      · exact hAw _ (hL q z)
theorem staX_blind {D : va_G} {σ0 τ0 : Nat → Nat} {n0 sz : Nat} {M0 : aMem} : FrameBlind (aSta D σ0 τ0 n0 M0 av sz) := sta_blind
set_option maxHeartbeats 1000000 in
/-- a call of an object's method that has such a contract -/
theorem SegP.cV {b ci : Nat} {As : List Value} (hM : MX ct lw (.ref b :: As) h g P) (hl : Cond.methodLink mt.1.cls idx ct.1 ∈ gw) (hin : Cond.instanceMethod ct.1 ∈ gw) (hse : Cond.selects ct.1.cls ct.1 ct.1 ∈ gw) (hy : OkY ct np) (hnp : As.length = np) (hlw : lw < lv) (hb : shp b = (0, ci)) (hbn : b < nW) (hci : ci < 7) (hnm : nmC ci = ct.1.cls)
    (hc : mt.2.2.2.2.2 pc = some (.invokevirtual idx, nx, tg, q)) (hrf : rfL nW ls = true) (hrs : rfS nW st = true) (hcat : (st.map fun v => v.category).sum ≤ 8) (k : ∀ r h' g', P r h' g' → SegP mt lv (nx, ls, r ++ st, nW, h', g', ρ) P') : SegP mt lv (pc, ls, As.reverse ++ (.ref b :: st), nW, h, g, ρ) P' := by
  intro p l e R s m args below meth c A D σ0 n0 Q Fz C hP'
  obtain ⟨hpc, hnx, hnr, hdg⟩ := ok_pc C.2.2.2.2.2.1 hc rfl
  refine SegP.core (av := .ref b :: As) hrf hrs hpc hnx hnr _ ?_ k p l e R s m args below meth c A D σ0 n0 Q Fz C hP'
  intro p l e R s m args below meth c A D σ0 n0 Q Fz σ τ H locs la C hF hla hpre hroom2
  refine ⟨_, va_runV (As := As.map (cv σ)) (b := σ b) (C := ct.1.cls) (n := np) ⟨C.1.1, C.1.2.1, C.1.2.2.1, C.1.2.2.2.2, C.2.1⟩ (hM l D σ τ H.size) ⟨call_b (lv := lv) C.2.1 hy hl hlw ⟨C.2.2.2.2.2.2.1.2.1, C.2.2.2.2.2.2.1.2.2.1⟩, C.2.1 _ hin, C.2.1 _ hse⟩ ⟨sta_blind, ?_, fun U hU hW => hpre U hU hW⟩ rfl (by simpa using hnp) hla (by simp [cv]) (lv_room (cat_cv hcat)) hdg hroom2⟩
  have he := wd_at (σ := σ) (τ := τ) (M := (h, g, ρ)) hbn
  rw [ce_obj hb] at he
  have := va_recv C.2.2.1 hF.2.2.2.1 (vw_at hci) he
  rw [hnm] at this
  exact this
end CALLX
theorem MS.x {mt : aM} {lv : Nat} {av : List Value} {h h' : aH} {g g' : aG} {r : List Value} {P : List Value → aH → aG → Prop} (hM : MS mt lv av h g r h' g') (hr : r.length ≤ 1) (hP : P r h' g') : MX mt lv av h g P := by
  intro l D σ0 τ0 sz p e ha hf hc s m args below hfr happ hPc hK
  obtain ⟨n, o, a1, a2, a3, hQ, hL⟩ := hM l D σ0 τ0 sz p e ha hf hc s m args below hfr happ hPc hK
  exact ⟨n, o, a1, a2, a3, ⟨r, h', g', hP, hr, hQ⟩, hL⟩
theorem MX.imp {mt : aM} {lv : Nat} {av : List Value} {h : aH} {g : aG} {P P' : List Value → aH → aG → Prop} (hM : MX mt lv av h g P) (hP : ∀ r h' g', P r h' g' → P' r h' g') : MX mt lv av h g P' := by
  intro l D σ0 τ0 sz p e ha hf hc s m args below hfr happ hPc hK
  obtain ⟨n, o, a1, a2, a3, ⟨r, h', g', q1, q2, q3⟩, hL⟩ := hM l D σ0 τ0 sz p e ha hf hc s m args below hfr happ hPc hK
  exact ⟨n, o, a1, a2, a3, ⟨r, h', g', hP _ _ _ q1, q2, q3⟩, hL⟩
