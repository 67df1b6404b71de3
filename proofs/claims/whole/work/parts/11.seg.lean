/-! ===== the step function is right; walks, segments, contracts, calls; printed by wip/whole/mk11.py ===== -/
theorem wl_cl : ∀ ci, ci < 7 → (Cond.instantiable (nmC ci) (nfC ci) ∈ lw_tbl ∧ goodWord (Cond.instantiable (nmC ci) (nfC ci)) = true) ∧ (Cond.initialized (nmC ci) ∈ lw_tbl ∧ goodWord (Cond.initialized (nmC ci)) = true) := by decide +kernel
theorem wl_cl2 : ∀ ci, ci < 7 → Cond.instantiable (nmC ci) (nfC ci) ∈ gw ∧ Cond.initialized (nmC ci) ∈ gw := fun ci h => ⟨gw_in (wl_cl ci h).1.1 (wl_cl ci h).1.2, gw_in (wl_cl ci h).2.1 (wl_cl ci h).2.2⟩
theorem wl_ai : Cond.arrayClass .int ∈ gw := gw_in (List.mem_of_getElem? (i := 143) (by decide +kernel)) rfl
theorem wl_al : Cond.arrayClass .long ∈ gw := gw_in (List.mem_of_getElem? (i := 232) (by decide +kernel)) rfl
theorem wl_n : Cond.native arraycopyName ∈ gw := gw_in (List.mem_of_getElem? (i := 313) (by decide +kernel)) rfl
theorem wl_ns : Cond.static arraycopyName ∈ gw := gw_in (List.mem_of_getElem? (i := 312) (by decide +kernel)) rfl
theorem wl_ni : Cond.initialized "java/lang/System" ∈ gw := gw_in (List.mem_of_getElem? (i := 48) (by decide +kernel)) rfl
theorem wl_oi : Cond.instanceMethod objectInit ∈ gw := gw_in (List.mem_of_getElem? (i := 61) (by decide +kernel)) rfl
theorem wl_oc : Cond.code objectInit ⟨#[0xb1]⟩ 1 none ∈ gw := gw_in (List.mem_of_getElem? (i := 62) (by decide +kernel)) rfl
section SO6
variable {mt : aM} {lv : Nat} {p : Program} {l : Launch} {e : Env} {R : Room} {s : State} {m : MethodId} {args : Array Value} {below : List Frame} {meth : Method} {c : Code} {A : Nat → Prop} {D : va_G} {σ0 : Nat → Nat} {n0 : Nat} {Q : State → Prop} {Fz : List Value → Nat → aMem → Prop}
set_option maxHeartbeats 4000000 in
theorem st1_sound (C : aCx mt lv p l e R s m args below meth c A D σ0 n0 Q Fz) {cf : aCfg} {K : aCfg → Prop} (h : st1 mt cf K) (hK : ∀ d, K d → aWA mt p l e R s m args below meth c A D σ0 n0 Q Fz d) : aWA mt p l e R s m args below meth c A D σ0 n0 Q Fz cf := by
  obtain ⟨pc, ls, st, n, M⟩ := cf
  unfold st1 at h
  dsimp only at h
  have hE := C.2.2.2.2.2.1 pc
  generalize mt.2.2.2.2.2 pc = eo at h hE
  cases eo with
  | none => exact h.elim
  | some en =>
  obtain ⟨i, nx, tg, q⟩ := en
  obtain ⟨hd, hln, ⟨hpc, hnx, htg⟩, hok⟩ := hE _ rfl
  dsimp only at hd hln hpc hnx htg hok
  have hpc : pc < aRET := hpc
  have hnx : nx < aRET := hnx
  have htg : tg < aRET := htg
  cases i
  case iadd => exact so_iadd C hd hln hpc hnx htg h hK
  case isub => exact so_isub C hd hln hpc hnx htg h hK
  case imul => exact so_imul C hd hln hpc hnx htg h hK
  case iand => exact so_iand C hd hln hpc hnx htg h hK
  case ior => exact so_ior C hd hln hpc hnx htg h hK
  case ixor => exact so_ixor C hd hln hpc hnx htg h hK
  case ishl => exact so_ishl C hd hln hpc hnx htg h hK
  case ishr => exact so_ishr C hd hln hpc hnx htg h hK
  case ladd => exact so_ladd C hd hln hpc hnx htg h hK
  case lsub => exact so_lsub C hd hln hpc hnx htg h hK
  case lmul => exact so_lmul C hd hln hpc hnx htg h hK
  case iushr => exact so_iushr C hd hln hpc hnx htg h hK
  case idiv => exact so_idiv C hd hln hpc hnx htg h hK
  case irem => exact so_irem C hd hln hpc hnx htg h hK
  case ldiv => exact so_ldiv C hd hln hpc hnx htg h hK
  case lrem => exact so_lrem C hd hln hpc hnx htg h hK
  case lcmp => exact so_lcmp C hd hln hpc hnx htg h hK
  case i2l => exact so_i2l C hd hln hpc hnx htg h hK
  case l2i => exact so_l2i C hd hln hpc hnx htg h hK
  case i2b => exact so_i2b C hd hln hpc hnx htg h hK
  case i2s => exact so_i2s C hd hln hpc hnx htg h hK
  case i2c => exact so_i2c C hd hln hpc hnx htg h hK
  case dup => exact so_dup C hd hln hpc hnx htg h hK
  case pop => exact so_pop C hd hln hpc hnx htg h hK
  case dup2 => exact so_dup2 C hd hln hpc hnx htg h hK
  case iaload => exact so_iaload C hd hln hpc hnx htg h hK
  case baload => exact so_baload C hd hln hpc hnx htg h hK
  case laload => exact so_laload C hd hln hpc hnx htg h hK
  case aaload => exact so_aaload C hd hln hpc hnx htg h hK
  case iastore => exact so_iastore C hd hln hpc hnx htg h hK
  case lastore => exact so_lastore C hd hln hpc hnx htg h hK
  case aastore => exact so_aastore C hd hln hpc hnx htg h hK
  case arraylength => exact so_arraylength C hd hln hpc hnx htg h hK
  case iconst v => exact so_iconst C hd hln hpc hnx htg hok h hK
  case bipush v => exact so_bipush C hd hln hpc hnx htg hok h hK
  case sipush v => exact so_sipush C hd hln hpc hnx htg hok h hK
  case lconst v => exact so_lconst C hd hln hpc hnx htg hok h hK
  case iload v => exact so_iload C hd hln hpc hnx htg hok h hK
  case aload v => exact so_aload C hd hln hpc hnx htg hok h hK
  case lload v => exact so_lload C hd hln hpc hnx htg hok h hK
  case iload_n v => exact so_iload_n C hd hln hpc hnx htg hok h hK
  case aload_n v => exact so_aload_n C hd hln hpc hnx htg hok h hK
  case lload_n v => exact so_lload_n C hd hln hpc hnx htg hok h hK
  case istore v => exact so_istore C hd hln hpc hnx htg hok h hK
  case astore v => exact so_astore C hd hln hpc hnx htg hok h hK
  case lstore v => exact so_lstore C hd hln hpc hnx htg hok h hK
  case istore_n v => exact so_istore_n C hd hln hpc hnx htg hok h hK
  case astore_n v => exact so_astore_n C hd hln hpc hnx htg hok h hK
  case lstore_n v => exact so_lstore_n C hd hln hpc hnx htg hok h hK
  case goto v => exact so_goto C hd hln hpc hnx htg hok h hK
  case ldc v => exact so_ldc C hd hln hpc hnx htg hok h hK
  case ldc_w v => exact so_ldc_w C hd hln hpc hnx htg hok h hK
  case ldc2_w v => exact so_ldc2_w C hd hln hpc hnx htg hok h hK
  case getstatic v => exact so_getstatic C hd hln hpc hnx htg hok h hK
  case getfield v => exact so_getfield C hd hln hpc hnx htg hok h hK
  case putfield v => exact so_putfield C hd hln hpc hnx htg hok h hK
  case iinc v w => exact so_iinc C hd hln hpc hnx htg hok h hK
  case tableswitch d lo hi offs => exact so_tsw C hd hln hpc hnx htg hok h hK
  case ifCond cd v =>
    cases cd
    · exact so_if_eq C hd hln hpc hnx htg hok h hK
    · exact so_if_ne C hd hln hpc hnx htg hok h hK
    · exact so_if_lt C hd hln hpc hnx htg hok h hK
    · exact so_if_ge C hd hln hpc hnx htg hok h hK
    · exact so_if_gt C hd hln hpc hnx htg hok h hK
    · exact so_if_le C hd hln hpc hnx htg hok h hK
  case if_icmp cd v =>
    cases cd
    · exact so_icmp_eq C hd hln hpc hnx htg hok h hK
    · exact so_icmp_ne C hd hln hpc hnx htg hok h hK
    · exact so_icmp_lt C hd hln hpc hnx htg hok h hK
    · exact so_icmp_ge C hd hln hpc hnx htg hok h hK
    · exact so_icmp_gt C hd hln hpc hnx htg hok h hK
    · exact so_icmp_le C hd hln hpc hnx htg hok h hK
  case ireturn => exact so_ireturn C hd hln hpc h hK
  case lreturn => exact so_lreturn C hd hln hpc h hK
  case areturn => exact so_areturn C hd hln hpc h hK
  case return_ => exact so_return_ C hd hln hpc h hK
  case new v => exact so_new C hd hln hpc hnx hok wl_cl2 h hK
  case newarray v => exact so_newarray C hd hln hpc hnx ⟨wl_ai, wl_al⟩ h hK
  case anewarray v => exact so_anewarray C hd hln hpc hnx hok h hK
  case invokestatic v => exact so_copy C hd hln hpc hnx hok ⟨wl_n, wl_ns, wl_ni⟩ h hK
  case invokespecial v => exact so_oinit C hd hln hpc hnx hok ⟨wl_oi, wl_oc⟩ h hK
  all_goals exact False.elim h
theorem go_sound (C : aCx mt lv p l e R s m args below meth c A D σ0 n0 Q Fz) (cuts : List Nat) : ∀ (k : Nat) (cf : aCfg) (K : aCfg → Prop), go mt cuts k cf K → (∀ d, K d → aWA mt p l e R s m args below meth c A D σ0 n0 Q Fz d) → aWA mt p l e R s m args below meth c A D σ0 n0 Q Fz cf := by
  intro k
  induction k with
  | zero => intro cf K h hK; exact hK cf h
  | succ k ih =>
    intro cf K h hK
    refine st1_sound C h (fun d hd => ?_)
    split at hd
    · exact hK d hd
    · exact ih d K hd hK
end SO6
/-- a segment of a walk: from one point to another, in every context -/
def Seg (mt : aM) (lv : Nat) (cf cf' : aCfg) : Prop := ∀ (p : Program) (l : Launch) (e : Env) (R : Room) (s : State) (m : MethodId) (args : Array Value) (below : List Frame) (meth : Method) (c : Code) (A : Nat → Prop) (D : va_G) (σ0 : Nat → Nat) (n0 : Nat) (Q : State → Prop) (Fz : List Value → Nat → aMem → Prop),
  aCx mt lv p l e R s m args below meth c A D σ0 n0 Q Fz → aWA mt p l e R s m args below meth c A D σ0 n0 Q Fz cf' → aWA mt p l e R s m args below meth c A D σ0 n0 Q Fz cf
theorem Seg.rf {mt : aM} {lv : Nat} {a : aCfg} : Seg mt lv a a := fun _ _ _ _ _ _ _ _ _ _ _ _ _ _ _ _ _ h => h
theorem Seg.of {mt : aM} {lv : Nat} {a b : aCfg} (h : a = b) : Seg mt lv a b := h ▸ Seg.rf
theorem Seg.tr {mt : aM} {lv : Nat} {a b d : aCfg} (h1 : Seg mt lv a b) (h2 : Seg mt lv b d) : Seg mt lv a d := fun p l e R s m args below meth c A D σ0 n0 Q Fz C h => h1 p l e R s m args below meth c A D σ0 n0 Q Fz C (h2 p l e R s m args below meth c A D σ0 n0 Q Fz C h)
/-- a walk up to the next stops -/
theorem Seg.go {mt : aM} {lv : Nat} {a b : aCfg} (cuts : List Nat) (k : Nat) (h : go mt cuts k a (fun d => Seg mt lv d b)) : Seg mt lv a b := fun p l e R s m args below meth c A D σ0 n0 Q Fz C hb =>
  go_sound C cuts k a _ h (fun d hd => hd p l e R s m args below meth c A D σ0 n0 Q Fz C hb)
/-- a counted loop -/
theorem Seg.iter {mt : aM} {lv : Nat} (f : Nat → aCfg) (n : Nat) (h : ∀ i, i < n → Seg mt lv (f i) (f (i + 1))) : Seg mt lv (f 0) (f n) := by
  induction n with
  | zero => exact Seg.rf
  | succ n ih => exact (ih (fun i hi => h i (Nat.lt_succ_of_lt hi))).tr (h n (Nat.lt_succ_self n))
/-- the addresses that a call may write -/
def Aw (σ : Nat → Nat) (n sz : Nat) : Nat → Prop := fun q => (∃ k, k < n ∧ q = σ k) ∨ sz ≤ q
/-- how a method ends -/
def aEnd (D : va_G) (A : Nat → Prop) (σ0 : Nat → Nat) (n0 n1 : Nat) (r : List Value) (M1 : aMem) : Array Value → State → Outcome → State → Prop := fun _ st o t =>
  ∃ σ τ : Nat → Nat, aOk σ0 n0 σ ∧ aTy τ n1 t ∧ (n0 ≤ n1 ∧ n1 ≤ nW ∧ aRL n1 M1) ∧ o = .returned ((r.map (cv σ)).head?) ∧ va_P D vwCl (wd σ τ n1 M1) t.heap ∧ va_D A (wd σ τ n1 M1) ∧ va_F A st t
def aSta (D : va_G) (σ0 τ0 : Nat → Nat) (n0 : Nat) (M0 : aMem) (av : List Value) (sz : Nat) : Array Value → State → Prop := fun v U =>
  v = (av.map (cv σ0)).toArray ∧ U.heap.size = sz ∧ va_P D vwCl (wd σ0 τ0 n0 M0) U.heap ∧ va_D (fun _ => True) (wd σ0 τ0 n0 M0) ∧ va_K D vwCl [] U ∧ aTy τ0 n0 U ∧ aX σ0 (Aw σ0 n0 sz) U U.heap ∧ n0 ≤ nW ∧ aRL n0 M0
/-- a method's contract: from its arguments and a memory it comes to an answer and a memory -/
def MM (mt : aM) (lv : Nat) (av : List Value) (n0 : Nat) (M0 : aMem) (r : List Value) (n1 : Nat) (M1 : aMem) : Prop :=
  ∀ (l : Launch) (D : va_G) (σ0 τ0 : Nat → Nat) (sz : Nat), Met l mt.1 (Cond.code mt.1 mt.2.1 mt.2.2.1 mt.2.2.2.1 :: gw) (rmL lv n0 n1) (aSta D σ0 τ0 n0 M0 av sz) (aEnd D (Aw σ0 n0 sz) σ0 n0 n1 r M1) (n1 - n0) (szp n1 - szp n0) (Aw σ0 n0 sz)
theorem szp_mono {a b : Nat} (hab : a ≤ b) : szp a ≤ szp b := by
  induction hab with
  | refl => exact Nat.le_refl _
  | step _ ih => exact Nat.le_trans ih (Nat.le_add_right _ _)
theorem en_as {σ : Nat → Nat} : ∀ (av : List Value) (i : Nat), ascF σ i (enL av) = lv_args i (av.map (cv σ)) := by
  intro av
  induction av with
  | nil => intro i; rfl
  | cons v t ih =>
    intro i
    cases v <;> simp [enL, ascF, lv_args, ih, cv, Value.category]
theorem en_len {σ : Nat → Nat} : ∀ (av : List Value), (enL av).length = (lg_sl (av.map (cv σ))).length := by
  intro av
  induction av with
  | nil => rfl
  | cons v t ih =>
    simp only [lg_sl] at ih
    cases v <;> simp [enL, lg_sl, ih, cv, Value.category] <;> omega
theorem pa_as {σ : Nat → Nat} : ∀ (n : Nat) (ls : List (Option Value)) (i : Nat), ls.length ≤ n → ascF σ i (paL n ls) = ascF σ i ls := by
  intro n
  induction n with
  | zero => intro ls i h; cases ls with
    | nil => rfl
    | cons a t => simp at h
  | succ n ih =>
    intro ls i h
    cases ls with
    | nil => simp only [paL, ascF]; exact ih [] (i + 1) (Nat.zero_le _)
    | cons a t =>
      simp only [List.length_cons] at h
      cases a with
      | none => simp only [paL, ascF]; exact ih t (i + 1) (by omega)
      | some v => simp only [paL, ascF]; rw [ih t (i + 1) (by omega)]
theorem pa_len : ∀ (n : Nat) (ls : List (Option Value)), (paL n ls).length = n := by
  intro n
  induction n with
  | zero => intro ls; cases ls <;> rfl
  | succ n ih => intro ls; cases ls <;> simp [paL, ih]
set_option maxHeartbeats 1000000 in
/-- a contract out of a segment from entry to return -/
theorem MM.of {mt : aM} {lv : Nat} {av : List Value} {n0 n1 : Nat} {M0 M1 : aMem} {r : List Value} (hy : plainName mt.1.cls = true) (hok : OkM mt) (hen : (enL av).length ≤ mt.2.2.1) (hlv : 1 ≤ lv) (hscr : mt.2.2.2.2.1.1 = 0) (hnx : mt.2.2.2.2.1.2.2 ≤ n1) (hn01 : n0 ≤ n1) (hn1 : n1 ≤ nW)
    (h : Seg mt lv (0, paL mt.2.2.1 (enL av), [], n0, M0) (aRET, [], r, n1, M1)) : MM mt lv av n0 M0 r n1 M1 := by
  intro l D σ0 τ0 sz
  refine Met.ofW (cc := mt.2.1) (maxL := mt.2.2.1) (ret := mt.2.2.2.1) hy rfl ?_
  intro p e s m args below meth c s₁ B hml hv
  obtain ⟨rfl, hsz, hP, hD, hK, hT, hX, hnW, hRL⟩ := hv
  have hx := B.exec
  have hb := B.bytes
  have hr := B.returns
  have hts := atoms_spec (ws := Cond.code mt.1 mt.2.1 mt.2.2.1 mt.2.2.2.1 :: gw) B.pre
  have hown : s.vm.findClass mt.1.cls = some m.cls := findClass_of_methodNamed B.named
  have hlocks := B.notSynchronized
  have hnm : meth.name = mt.1.name := (name_of_methodNamed B.named B.method).1
  have hA : ∀ q, s.heap.size ≤ q → Aw σ0 n0 sz q := fun q hq => Or.inr (by rw [← hsz]; exact hq)
  have hDA : va_D (Aw σ0 n0 sz) (wd σ0 τ0 n0 M0) := ⟨hD.1, fun k q hk => by
    rcases Nat.lt_or_ge k n0 with hk2 | hk2
    · rw [wd_at hk2] at hk; cases hk; exact Or.inl ⟨k, hk2, rfl⟩
    · rw [wd_out hk2] at hk; cases hk⟩
  have C : aCx mt lv p l e (rmL lv n0 n1) s m (av.map (cv σ0)).toArray below meth c (Aw σ0 n0 sz) D σ0 n0 (MQ below (aEnd D (Aw σ0 n0 sz) σ0 n0 n1 r M1) (av.map (cv σ0)).toArray s (n1 - n0) (szp n1 - szp n0) (Aw σ0 n0 sz)) (fun st n M => st = r ∧ n = n1 ∧ M = M1) := by
    refine ⟨⟨hx, hb, hml, hnm, hown⟩, fun w hw => hts w (List.mem_cons_of_mem _ hw), hK, hX, hA, hok, ⟨hlv, Nat.le_refl _, Nat.le_refl _, ?_, ?_, Nat.le_trans hnx hn1⟩, Or.inl hscr, ?_⟩
    · show _ ≤ n1 - n0; omega
    · have := szp_mono hnx
      show _ ≤ szp n1 - szp n0; omega
    · intro pc i st n M σ τ H locs la hret hdec hfin hF
      obtain ⟨rfl, rfl, rfl⟩ := hfin
      have hq : ∀ (t : State) (v : Option Value), t.heap = H → s.WarmedH t.vm → v = (st.map (cv σ)).head? → aEnd D (Aw σ0 n0 sz) σ0 n0 n st M (av.map (cv σ0)).toArray s (.returned v) t := fun t v ht hw hv => ⟨σ, τ, hF.1, hF.2.2.1.moved hw.alike, ⟨hF.2.1.1, hF.2.1.2.1.1, hF.2.1.2.2⟩, by rw [hv], by rw [ht]; exact hF.2.2.2.1, hF.2.2.2.2.1, hF.2.2.2.2.2.F ht⟩
      have hf : ∀ q ∈ locs, Aw σ0 n0 sz q.base := hF.2.2.2.2.2.2.2
      cases i <;> try exact hret.elim
      case ireturn =>
        match st, hret with
        | [.int v], ⟨ty, h1, h2⟩ => exact W.zret hx hb (hr.trans h1) h2 (fun t ht hw => hq t _ ht hw rfl) hf hdec
      case lreturn =>
        match st, hret with
        | [.long v], h1 => exact W.lret hx hb (hr.trans h1) (fun t ht hw => hq t _ ht hw rfl) hf hdec
      case areturn =>
        match st, hret with
        | [.ref v], ⟨k, h1⟩ => exact W.aret hx hb (hr.trans h1) (Or.inl ⟨k, rfl⟩) (Or.inr ⟨_, rfl⟩) (fun t ht hw => hq t _ ht hw rfl) hf hdec
      case return_ =>
        match st, hret with
        | [], h1 => exact W.vret hx hb (hr.trans h1) (fun t ht hw => hq t _ ht hw rfl) hf hdec
  have hl := lv_entry (av.map (cv σ0)) (n := mt.2.2.1) (by rw [← en_len]; exact hen)
  have hw := (h p l e _ s m _ below meth c _ D σ0 n0 _ _ C ⟨fun _ => ⟨rfl, rfl, rfl⟩, fun z => absurd rfl z⟩).2 (show (0 : Nat) ≠ aRET by decide) σ0 τ0 s.heap [] _ ⟨fun _ _ => rfl, ⟨Nat.le_refl _, ⟨hnW, Or.inl rfl⟩, hRL⟩, hT, hP, hDA, va_S.rf⟩ (pa_len _ _) (by rw [pa_as _ _ _ hen, en_as]; exact hl)
  rw [lg_entry_eq]
  simp only [Nat.sub_self] at hw
  exact hw
/-- references among the locals and on the stack that a call leaves as they are -/
def rfV (n : Nat) : Value → Bool
  | .ref x => Nat.blt x n || Nat.ble 100 x
  | _ => true
def rfL (n : Nat) : List (Option Value) → Bool
  | [] => true
  | none :: t => rfL n t
  | some v :: t => rfV n v && rfL n t
def rfS (n : Nat) : List Value → Bool
  | [] => true
  | v :: t => rfV n v && rfS n t
theorem cv_ok {σ σ1 : Nat → Nat} {n : Nat} (h : aOk σ n σ1) {v : Value} (hv : rfV n v = true) : cv σ1 v = cv σ v := by
  cases v with
  | ref x =>
    simp only [rfV, Bool.or_eq_true, Nat.blt_eq, Nat.ble_eq] at hv
    simp only [cv, h x hv]
  | _ => rfl
theorem st_ok {σ σ1 : Nat → Nat} {n : Nat} (h : aOk σ n σ1) : ∀ {st : List Value}, rfS n st = true → st.map (cv σ1) = st.map (cv σ) := by
  intro st
  induction st with
  | nil => intro _; rfl
  | cons v t ih =>
    intro hs
    simp only [rfS, Bool.and_eq_true] at hs
    simp only [List.map_cons, cv_ok h hs.1, ih hs.2]
theorem as_ok {σ σ1 : Nat → Nat} {n : Nat} (h : aOk σ n σ1) : ∀ (ls : List (Option Value)) (i : Nat), rfL n ls = true → ascF σ1 i ls = ascF σ i ls := by
  intro ls
  induction ls with
  | nil => intro i _; rfl
  | cons a t ih =>
    intro i hs
    cases a with
    | none => exact ih (i + 1) hs
    | some v =>
      simp only [rfL, Bool.and_eq_true] at hs
      simp only [ascF, cv_ok h hs.1, ih (i + 1) hs.2]
/-- what a method's own words say: they stand in the tables -/
def OkY (mt : aM) (np : Nat) : Prop := Cond.code mt.1 mt.2.1 mt.2.2.1 mt.2.2.2.1 ∈ gw ∧ Cond.initialized mt.1.cls ∈ gw ∧ (mt.1.cls ≠ "java/lang/invoke/MethodHandle" ∧ mt.1.cls ≠ "java/lang/invoke/VarHandle" ∧ (parseMethodDescriptor mt.1.desc).map (fun d => d.parameters.length) = some np) ∧ mt.2.2.1 ≤ 21
theorem cat_cv {σ : Nat → Nat} {st : List Value} (h : (st.map fun v => v.category).sum ≤ 8) : ((st.map (cv σ)).map fun v => v.category).sum ≤ 8 := by
  rw [List.map_map, show ((fun v : Value => v.category) ∘ cv σ) = (fun v => v.category) from funext fun v => cv_cat σ v]
  exact h
theorem gw_good {y : Cond} (h : y ∈ gw) : GoodIn gw (y :: gw) := fun w hw => by
  rcases List.mem_cons.mp hw with rfl | hw
  · exact ⟨h, gw_ok h⟩
  · exact ⟨hw, gw_ok hw⟩
section CALL
variable {mt ct : aM} {lv lw : Nat} {pc nx tg : Nat} {q : aQ} {ls : List (Option Value)} {st : List Value} {n n1 : Nat} {M M1 : aMem} {av r : List Value} {idx np : Nat} {i : Instr}
theorem sta_blind {D : va_G} {σ0 τ0 : Nat → Nat} {n0 sz : Nat} {M0 : aMem} : FrameBlind (aSta D σ0 τ0 n0 M0 av sz) := fun a U g mk h => by
  obtain ⟨h1, h2, h3, h4, h5, h6, h7, h8⟩ := h
  have hvm : (U.calling g mk a).vm = U.vm := rfl
  have hal : U.vm.Alike (U.calling g mk a).vm := by rw [hvm]; exact Vm.Alike.refl U.vm
  exact ⟨h1, h2, h3, h4, va_K.moved hal h5, h6.moved hal, h7.same hvm, h8⟩
theorem Seg.core (hrf : rfL n ls = true) (hrs : rfS n st = true) (hr1 : r.length ≤ 1) (hpc : pc < aRET) (hnx : nx = pc + 3) (hnr : nx < aRET) (hn : n ≤ n1) (stk : List Value)
    (run : ∀ (p : Program) (l : Launch) (e : Env) (R : Room) (s : State) (m : MethodId) (args : Array Value) (below : List Frame) (meth : Method) (c : Code) (A : Nat → Prop) (D : va_G) (σ0 : Nat → Nat) (n0 : Nat) (Q : State → Prop) (Fz : List Value → Nat → aMem → Prop) (σ τ : Nat → Nat) (H : Heap) (locs : List Loc) (la : Array Slot), aCx mt lv p l e R s m args below meth c A D σ0 n0 Q Fz → aFa A D σ0 n0 mt.2.2.2.2.1.2.2 s σ τ n M H locs → la.size = mt.2.2.1 →
      (∀ U : State, U.heap = H → s.WarmedH U.vm → aSta D σ τ n M av H.size (av.map (cv σ)).toArray U) → ((n - n0) + (n1 - n) ≤ R.cells ∧ (szp n - szp n0) + (szp n1 - szp n) ≤ R.slots) →
      ∃ a, va_Run p l e R s m args below meth c H locs (n - n0) (szp n - szp n0) (n1 - n) (szp n1 - szp n) (F0 m pc la (stk.map (cv σ))) (st.map (cv σ)) (aEnd D (Aw σ n H.size) σ n n1 r M1 a) (Aw σ n H.size))
    (hroom : n1 = n ∨ n1 ≤ mt.2.2.2.2.1.2.2) : Seg mt lv (pc, ls, stk, n, M) (nx, ls, r ++ st, n1, M1) := by
  intro p l e R s m args below meth c A D σ0 n0 Q Fz C h
  refine ⟨fun hr => absurd hr (Nat.ne_of_lt hpc), fun _ σ τ H locs la hF hlen hl => ?_⟩
  subst hnx
  dsimp only at hF hlen hl ⊢
  obtain ⟨hO, ⟨hn0, ⟨hnW, hnz⟩, hRL⟩, hT, hP, hD, hS⟩ := id hF
  have hAw : ∀ q, Aw σ n H.size q → A q := fun q hq => by
    rcases hq with ⟨k, hk, rfl⟩ | hq
    · exact hD.2 k _ (wd_at hk)
    · exact C.2.2.2.2.1 q (Nat.le_trans hS.1 hq)
  have hpre : ∀ U : State, U.heap = H → s.WarmedH U.vm → aSta D σ τ n M av H.size (av.map (cv σ)).toArray U := fun U hU hW => by
    refine ⟨rfl, by rw [hU], by rw [hU]; exact hP, hD.weaken (fun _ _ _ _ => trivial), va_K.moved hW.alike C.2.2.1, hT.moved hW.alike, ?_, hnW, hRL⟩
    rw [hU]
    exact (((C.2.2.2.1.swap (fun a ha => hO a (Or.inr ha))).kept hS.2.1).narrow hAw).warm hW
  have s0 := szp_mono hn0
  have s1 := szp_mono hn
  have hroom2 : (n - n0) + (n1 - n) ≤ R.cells ∧ (szp n - szp n0) + (szp n1 - szp n) ≤ R.slots := by
    obtain ⟨-, -, -, c1, c2, -⟩ := C.2.2.2.2.2.2.1
    rcases hroom with e1 | e1
    · rcases hnz with e2 | e2
      · subst e1; subst e2; simp
      · have := szp_mono e2
        subst e1
        omega
    · have := szp_mono e1
      omega
  obtain ⟨av0, hrun⟩ := run p l e R s m args below meth c A D σ0 n0 Q Fz σ τ H locs la C hF hl.1 hpre hroom2
  intro T hTh X
  obtain ⟨v, st₀, t, T', L, h0, X', hL, e1, e2, ⟨σ1, τ1, k1, k2, k3, k4, k5, k6, k7⟩, stp⟩ := hrun T hTh X
  have hv : v.toList = r.map (cv σ1) := by
    have : v = (r.map (cv σ1)).head? := by injection k4
    rw [this]
    match r, hr1 with
    | [], _ => rfl
    | [x], _ => rfl
    | _ :: _ :: _, z => simp at z
  have hal : s.vm.Alike t.vm := by rw [← e2]; exact X'.warmed.alike
  have hbk : t.vm.Alike s.vm := hal.symm
  have hw := (h.2 (show pc + 3 ≠ aRET from ?_)) σ1 τ1 t.heap (locs ++ L) la ⟨fun a ha => ?_, ⟨by dsimp only; omega, ⟨k3.2.1, ?_⟩, k3.2.2⟩, k2.moved hbk, k5, k6.weaken (fun _ _ _ z => hAw _ z), ?_⟩ hlen (by dsimp only; rw [as_ok k1 _ _ hrf]; exact hl)
  · dsimp only at hw
    have hcell : n1 - n0 = (n - n0) + (n1 - n) := by omega
    have hslot : szp n1 - szp n0 = (szp n - szp n0) + (szp n1 - szp n) := by omega
    rw [hcell, hslot] at hw
    obtain ⟨t2, a1, b1⟩ := hw T' e1 X'
    refine ⟨t2, stp t2 ?_, b1⟩
    rw [List.map_append, st_ok k1 hrs, ← hv] at a1
    exact a1
  · exact Nat.ne_of_lt hnr
  · rcases ha with ha | ha
    · rw [k1 a (Or.inl (by omega))]; exact hO a (Or.inl ha)
    · rw [k1 a (Or.inr ha)]; exact hO a (Or.inr ha)
  · dsimp only
    rcases hroom with z | z
    · rw [z]; exact hnz
    · exact Or.inr z
  · unfold va_F at k7
    rw [h0] at k7
    refine ⟨Nat.le_trans hS.1 k7.1, fun q h1 h2 => ?_, fun q hq => ?_⟩
    · rw [k7.2 q (Nat.lt_of_lt_of_le h1 hS.1) (fun z => h2 (hAw q z))]
      exact hS.2.1 q h1 h2
    · rcases List.mem_append.mp hq with z | z
      · exact hS.2.2 q z
      · exact hAw _ (hL q z)
theorem ok_pc (hok : OkM mt) (hc : mt.2.2.2.2.2 pc = some (i, nx, tg, q)) (hl : lenI i = 3) : pc < aRET ∧ nx = pc + 3 ∧ nx < aRET ∧ decode mt.2.1 pc = .ok (i, 3) := by
  obtain ⟨h1, h2, ⟨h3, h4, -⟩, -⟩ := hok pc _ hc
  dsimp only at h1 h2 h4
  obtain ⟨h5, h6⟩ := ln_1 h1 h2 hl (by decide)
  exact ⟨h3, h5, h4, h6⟩
theorem call_b {R : Room} {s : State} {args : Array Value} (hts : ∀ w ∈ gw, w.before args s = true) {own : String} (hy : OkY ct np) (hl : Cond.methodLink own idx ct.1 ∈ gw) (hlw : lw < lv) (hR : lv ≤ R.frames ∧ 40 * lv ≤ R.locals) : CallB R s args own idx ct.1 ct.2.1 ct.2.2.1 ct.2.2.2.1 (Cond.code ct.1 ct.2.1 ct.2.2.1 ct.2.2.2.1 :: gw) (rmL lw n n1) (n1 - n) (szp n1 - szp n) np :=
  callB_of np hts (gw_good hy.1) rfl rfl rfl (hts _ hy.2.1) (hts _ hl) hy.2.2.1 (by have := hy.2.2.2; simp only [rmL]; omega)
/-- a call of an object's method -/
theorem Seg.callV {b ci : Nat} {As : List Value} (hM : MM ct lw (.ref b :: As) n M r n1 M1) (hc : mt.2.2.2.2.2 pc = some (.invokevirtual idx, nx, tg, q)) (hl : Cond.methodLink mt.1.cls idx ct.1 ∈ gw) (hin : Cond.instanceMethod ct.1 ∈ gw) (hse : Cond.selects ct.1.cls ct.1 ct.1 ∈ gw) (hy : OkY ct np) (hb : shp b = (0, ci) ∧ b < n ∧ ci < 7 ∧ nmC ci = ct.1.cls) (hnp : As.length = np)
    (hlw : lw < lv) (hrf : rfL n ls = true) (hrs : rfS n st = true) (hcat : (st.map fun v => v.category).sum ≤ 8) (hr1 : r.length ≤ 1) (hn : n ≤ n1) (hroom : n1 = n ∨ n1 ≤ mt.2.2.2.2.1.2.2) : Seg mt lv (pc, ls, As.reverse ++ (.ref b :: st), n, M) (nx, ls, r ++ st, n1, M1) := by
  intro p l e R s m args below meth c A D σ0 n0 Q Fz C
  obtain ⟨hpc, hnx, hnr, hdg⟩ := ok_pc C.2.2.2.2.2.1 hc rfl
  refine Seg.core (av := .ref b :: As) hrf hrs hr1 hpc hnx hnr hn _ ?_ hroom p l e R s m args below meth c A D σ0 n0 Q Fz C
  intro p l e R s m args below meth c A D σ0 n0 Q Fz σ τ H locs la C hF hla hpre hroom2
  refine ⟨_, va_runV (As := As.map (cv σ)) (b := σ b) (C := ct.1.cls) (n := np) ⟨C.1.1, C.1.2.1, C.1.2.2.1, C.1.2.2.2.2, C.2.1⟩ (hM l D σ τ H.size) ⟨call_b (lv := lv) C.2.1 hy hl hlw ⟨C.2.2.2.2.2.2.1.2.1, C.2.2.2.2.2.2.1.2.2.1⟩, C.2.1 _ hin, C.2.1 _ hse⟩ ⟨sta_blind, ?_, fun U hU hW => hpre U hU hW⟩ rfl (by simpa using hnp) hla (by simp [cv]) (lv_room (cat_cv hcat)) hdg hroom2⟩
  have he := wd_at (σ := σ) (τ := τ) (M := M) hb.2.1
  rw [ce_obj hb.1] at he
  have := va_recv C.2.2.1 hF.2.2.2.1 (vw_at hb.2.2.1) he
  rw [hb.2.2.2] at this
  exact this
/-- a call of a constant text's method -/
theorem Seg.callT {j : Nat} {As : List Value} (hM : MM ct lw (.ref (100 + j) :: As) n M r n1 M1) (hc : mt.2.2.2.2.2 pc = some (.invokevirtual idx, nx, tg, q)) (hl : Cond.methodLink mt.1.cls idx ct.1 ∈ gw) (hin : Cond.instanceMethod ct.1 ∈ gw) (hse : Cond.selects ct.1.cls ct.1 ct.1 ∈ gw) (hy : OkY ct np) (hb : j < strN ∧ ct.1.cls = "java/lang/String") (hnp : As.length = np)
    (hlw : lw < lv) (hrf : rfL n ls = true) (hrs : rfS n st = true) (hcat : (st.map fun v => v.category).sum ≤ 8) (hr1 : r.length ≤ 1) (hn : n ≤ n1) (hroom : n1 = n ∨ n1 ≤ mt.2.2.2.2.1.2.2) : Seg mt lv (pc, ls, As.reverse ++ (.ref (100 + j) :: st), n, M) (nx, ls, r ++ st, n1, M1) := by
  intro p l e R s m args below meth c A D σ0 n0 Q Fz C
  obtain ⟨hpc, hnx, hnr, hdg⟩ := ok_pc C.2.2.2.2.2.1 hc rfl
  refine Seg.core (av := .ref (100 + j) :: As) hrf hrs hr1 hpc hnx hnr hn _ ?_ hroom p l e R s m args below meth c A D σ0 n0 Q Fz C
  intro p l e R s m args below meth c A D σ0 n0 Q Fz σ τ H locs la C hF hla hpre hroom2
  refine ⟨_, va_runV (As := As.map (cv σ)) (b := σ (100 + j)) (C := ct.1.cls) (n := np) ⟨C.1.1, C.1.2.1, C.1.2.2.1, C.1.2.2.2.2, C.2.1⟩ (hM l D σ τ H.size) ⟨call_b (lv := lv) C.2.1 hy hl hlw ⟨C.2.2.2.2.2.2.1.2.1, C.2.2.2.2.2.2.1.2.2.1⟩, C.2.1 _ hin, C.2.1 _ hse⟩ ⟨sta_blind, ?_, fun U hU hW => hpre U hU hW⟩ rfl (by simpa using hnp) hla (by simp [cv]) (lv_room (cat_cv hcat)) hdg hroom2⟩
  have := vk_recv C.2.2.2.1.2.1 hb.1 hF.2.2.2.2.2
  rw [hF.1 (100 + j) (Or.inr (by omega)), hb.2]
  exact this
/-- a call of a static method -/
theorem Seg.callS (hM : MM ct lw av n M r n1 M1) (hc : mt.2.2.2.2.2 pc = some (.invokestatic idx, nx, tg, q)) (hl : Cond.methodLink mt.1.cls idx ct.1 ∈ gw) (hst : Cond.static ct.1 ∈ gw) (hy : OkY ct np) (hnp : av.length = np)
    (hlw : lw < lv) (hrf : rfL n ls = true) (hrs : rfS n st = true) (hcat : (st.map fun v => v.category).sum ≤ 8) (hr1 : r.length ≤ 1) (hn : n ≤ n1) (hroom : n1 = n ∨ n1 ≤ mt.2.2.2.2.1.2.2) : Seg mt lv (pc, ls, av.reverse ++ st, n, M) (nx, ls, r ++ st, n1, M1) := by
  intro p l e R s m args below meth c A D σ0 n0 Q Fz C
  obtain ⟨hpc, hnx, hnr, hdg⟩ := ok_pc C.2.2.2.2.2.1 hc rfl
  refine Seg.core (av := av) hrf hrs hr1 hpc hnx hnr hn _ ?_ hroom p l e R s m args below meth c A D σ0 n0 Q Fz C
  intro p l e R s m args below meth c A D σ0 n0 Q Fz σ τ H locs la C hF hla hpre hroom2
  exact ⟨_, va_runS (As := av.map (cv σ)) (n := np) ⟨C.1.1, C.1.2.1, C.1.2.2.1, C.1.2.2.2.2, C.2.1⟩ (hM l D σ τ H.size) ⟨call_b (lv := lv) C.2.1 hy hl hlw ⟨C.2.2.2.2.2.2.1.2.1, C.2.2.2.2.2.2.1.2.2.1⟩, C.2.1 _ hst⟩ ⟨sta_blind, fun U hU hW => hpre U hU hW⟩ rfl (by simpa using hnp) hla (by simp) (lv_room (cat_cv hcat)) hdg hroom2⟩
/-- a call of a nest mate's private static method -/
theorem Seg.callN (hM : MM ct lw av n M r n1 M1) (hc : mt.2.2.2.2.2 pc = some (.invokestatic idx, nx, tg, q)) (hl : Cond.methodLinkNest mt.1.cls idx ct.1 RX5 ∈ nestw) (hst : Cond.static ct.1 ∈ gw) (hy : OkY ct np) (hnp : av.length = np)
    (hlw : lw < lv) (hrf : rfL n ls = true) (hrs : rfS n st = true) (hcat : (st.map fun v => v.category).sum ≤ 8) (hr1 : r.length ≤ 1) (hn : n ≤ n1) (hroom : n1 = n ∨ n1 ≤ mt.2.2.2.2.1.2.2) : Seg mt lv (pc, ls, av.reverse ++ st, n, M) (nx, ls, r ++ st, n1, M1) := by
  intro p l e R s m args below meth c A D σ0 n0 Q Fz C
  obtain ⟨hpc, hnx, hnr, hdg⟩ := ok_pc C.2.2.2.2.2.1 hc rfl
  refine Seg.core (av := av) hrf hrs hr1 hpc hnx hnr hn _ ?_ hroom p l e R s m args below meth c A D σ0 n0 Q Fz C
  intro p l e R s m args below meth c A D σ0 n0 Q Fz σ τ H locs la C hF hla hpre hroom2
  exact ⟨_, va_runSN (As := av.map (cv σ)) (n := np) ⟨C.1.1, C.1.2.1, C.1.2.2.1, C.1.2.2.2.2, C.2.1⟩ (hM l D σ τ H.size) ⟨va_cnB np C.2.1 (gw_good hy.1) rfl rfl rfl (C.2.2.2.1.2.2.2.1 _ hl) (C.2.1 _ hy.2.1) hy.2.2.1 (by have := hy.2.2.2; have h1 := C.2.2.2.2.2.2.1.2.1; have h2 := C.2.2.2.2.2.2.1.2.2.1; simp only [rmL]; omega), C.2.1 _ hst, trivial⟩ ⟨sta_blind, fun U hU hW => hpre U hU hW⟩ rfl (by simpa using hnp) hla (by simp) (lv_room (cat_cv hcat)) hdg hroom2⟩
/-- a call of a constructor -/
theorem Seg.callI {b : Nat} {As : List Value} (hM : MM ct lw (.ref b :: As) n M [] n1 M1) (hret : ct.2.2.2.1 = none) (hc : mt.2.2.2.2.2 pc = some (.invokespecial idx, nx, tg, q)) (hl : Cond.methodLink mt.1.cls idx ct.1 ∈ gw) (hin : Cond.instanceMethod ct.1 ∈ gw) (hini : ct.1.name = "<init>") (hy : OkY ct np) (hnp : As.length = np)
    (hlw : lw < lv) (hrf : rfL n ls = true) (hrs : rfS n st = true) (hcat : (st.map fun v => v.category).sum ≤ 8) (hn : n ≤ n1) (hroom : n1 = n ∨ n1 ≤ mt.2.2.2.2.1.2.2) : Seg mt lv (pc, ls, As.reverse ++ (.ref b :: st), n, M) (nx, ls, st, n1, M1) := by
  intro p l e R s m args below meth c A D σ0 n0 Q Fz C
  obtain ⟨hpc, hnx, hnr, hdg⟩ := ok_pc C.2.2.2.2.2.1 hc rfl
  refine Seg.core (r := []) (av := .ref b :: As) hrf hrs (Nat.zero_le _) hpc hnx hnr hn _ ?_ hroom p l e R s m args below meth c A D σ0 n0 Q Fz C
  intro p l e R s m args below meth c A D σ0 n0 Q Fz σ τ H locs la C hF hla hpre hroom2
  have cb := call_b (n := n) (n1 := n1) (R := R) (lv := lv) C.2.1 hy hl hlw ⟨C.2.2.2.2.2.2.1.2.1, C.2.2.2.2.2.2.1.2.2.1⟩
  have hMl := hM l D σ τ H.size
  rw [hret] at cb hMl
  exact ⟨_, va_runI (As := As.map (cv σ)) (b := σ b) (n := np) ⟨C.1.1, C.1.2.1, C.1.2.2.1, C.1.2.2.2.2, C.2.1⟩ hMl ⟨cb, hini, C.2.1 _ hin⟩ ⟨sta_blind, fun U hU hW => hpre U hU hW⟩ rfl (by simpa using hnp) hla (by simp [cv]) (lv_room (cat_cv hcat)) hdg hroom2⟩
end CALL
