/-! ===== links of the constant pools, by their places in the tables; printed by wip/whole/mk12.py ===== -/
def aC (N : Nat) (f : Nat → Option aI) : Nat → Option aI := fun pc => bif Nat.blt pc N then f pc else none
/-- an entry of a code table, checked by program -/
def chkI (lks : List (Nat × aQ)) (maxL pc : Nat) (e : aI) : Bool := match e with
  | (i, _, tg, q) => match i with
    | .iconst v => decide (Int32.ofInt v = q.2.2.2)
    | .bipush v => decide ((Int8.ofInt v).toInt32 = q.2.2.2)
    | .sipush v => decide ((Int16.ofInt v).toInt32 = q.2.2.2)
    | .lconst v => decide ((v : Nat) = q.2.1)
    | .iload k => decide (k = q.2.1)
    | .aload k => decide (k = q.2.1)
    | .lload k => decide (k = q.2.1)
    | .iload_n k => decide ((k : Nat) = q.2.1)
    | .aload_n k => decide ((k : Nat) = q.2.1)
    | .lload_n k => decide ((k : Nat) = q.2.1)
    | .istore k => decide (k = q.2.1 ∧ q.2.1 < maxL)
    | .astore k => decide (k = q.2.1 ∧ q.2.1 < maxL)
    | .lstore k => decide (k = q.2.1 ∧ q.2.1 + 1 < maxL)
    | .istore_n k => decide ((k : Nat) = q.2.1 ∧ q.2.1 < maxL)
    | .astore_n k => decide ((k : Nat) = q.2.1 ∧ q.2.1 < maxL)
    | .lstore_n k => decide ((k : Nat) = q.2.1 ∧ q.2.1 + 1 < maxL)
    | .iinc k v => decide (k = q.2.1 ∧ q.2.1 < maxL ∧ Int32.ofInt v = q.2.2.2)
    | .tableswitch d lo hi offs => decide ((lo = (Int32.ofInt lo).toInt ∧ hi = lo + offs.toList.length - 1 ∧ hi < 2147483647) ∧ ∀ o ∈ d :: offs.toList, 0 ≤ (pc : Int) + o ∧ (pc : Int) + o < 99999)
    | .goto off => decide ((pc : Int) + off = (tg : Int))
    | .ifCond _ off => decide ((pc : Int) + off = (tg : Int))
    | .if_icmp _ off => decide ((pc : Int) + off = (tg : Int))
    | .ldc idx => lks.elem (idx, q)
    | .ldc_w idx => lks.elem (idx, q)
    | .ldc2_w idx => lks.elem (idx, q)
    | .getfield idx => lks.elem (idx, q)
    | .putfield idx => lks.elem (idx, q)
    | .getstatic idx => lks.elem (idx, q)
    | .new idx => lks.elem (idx, q)
    | .anewarray idx => lks.elem (idx, q)
    | .invokestatic idx => Nat.beq q.1 20 || lks.elem (idx, q)
    | .invokespecial idx => Nat.beq q.1 20 || lks.elem (idx, q)
    | _ => true
theorem lk_20 {own : String} {idx : Nat} {q : aQ} (h : Nat.beq q.1 20 = true) : lkW own idx q := by
  obtain ⟨a, b, c, d⟩ := q
  have : a = 20 := Nat.eq_of_beq_eq_true h
  subst this
  trivial
theorem chkI_ok {y : MethodName} {lks : List (Nat × aQ)} {maxL pc : Nat} {e : aI} (hl : ∀ x ∈ lks, lkW y.cls x.1 x.2) (h : chkI lks maxL pc e = true) : okI y maxL pc e := by
  obtain ⟨i, nx, tg, q⟩ := e
  have hm : ∀ {idx : Nat}, lks.elem (idx, q) = true → lkW y.cls idx q := fun z => hl _ (List.mem_of_elem_eq_true z)
  have hm2 : ∀ {idx : Nat}, (Nat.beq q.1 20 || lks.elem (idx, q)) = true → lkW y.cls idx q := fun z => by
    rw [Bool.or_eq_true] at z
    exact z.elim lk_20 hm
  cases i
  all_goals first
    | exact trivial
    | (simp only [chkI, decide_eq_true_eq] at h; exact h)
    | exact hm h
    | exact hm2 h
def chkE (lks : List (Nat × aQ)) (cc : ByteArray) (maxL pc : Nat) (e : aI) : Bool := decide (decode cc pc = .ok (e.1, e.2.1 - pc)) && decide (lenI e.1 = 0 ∨ e.2.1 = pc + lenI e.1) && decide (pc < 99999 ∧ e.2.1 < 99999 ∧ e.2.2.1 < 99999) && chkI lks maxL pc e
def chkO (lks : List (Nat × aQ)) (cc : ByteArray) (maxL pc : Nat) (e : Option aI) : Bool := match e with
  | some e => chkE lks cc maxL pc e
  | none => true
theorem chkE_ok {y : MethodName} {lks : List (Nat × aQ)} {cc : ByteArray} {maxL pc : Nat} {e : aI} (hl : ∀ x ∈ lks, lkW y.cls x.1 x.2) (h : chkE lks cc maxL pc e = true) : okE y cc maxL pc e := by
  simp only [chkE, Bool.and_eq_true, decide_eq_true_eq] at h
  obtain ⟨⟨⟨h1, h2⟩, h3⟩, h4⟩ := h
  exact ⟨h1, h2, h3, chkI_ok hl h4⟩
theorem OkM.of {mt : aM} {lks : List (Nat × aQ)} {N : Nat} {f : Nat → Option aI} (hl : ∀ x ∈ lks, lkW mt.1.cls x.1 x.2) (hk : mt.2.2.2.2.2 = aC N f) (h : ∀ pc, pc < N → chkO lks mt.2.1 mt.2.2.1 pc (f pc) = true) : OkM mt := by
  intro pc en he
  rw [hk] at he
  unfold aC at he
  rcases Nat.lt_or_ge pc N with hp | hp
  · rw [show Nat.blt pc N = true by rw [Nat.blt_eq]; exact hp, cond_true] at he
    have h1 := h pc hp
    rw [he] at h1
    exact chkE_ok hl h1
  · rw [show Nat.blt pc N = false by rw [← Bool.not_eq_true, Nat.blt_eq]; omega, cond_false] at he
    cases he
def lks_RX0 : List (Nat × aQ) := [(3, (13, 0, 0, (0 : Int32))), (9, (1, 0, 1, (0 : Int32))), (15, (1, 0, 2, (0 : Int32))), (18, (1, 0, 3, (0 : Int32))), (21, (1, 0, 4, (0 : Int32))), (24, (1, 0, 6, (0 : Int32))), (28, (1, 0, 7, (0 : Int32))), (31, (1, 0, 8, (0 : Int32))), (34, (1, 0, 9, (0 : Int32))), (37, (1, 0, 10, (0 : Int32))), (40, (1, 0, 0, (0 : Int32))), (44, (1, 0, 5, (0 : Int32))), (48, (1, 4, 8, (0 : Int32))), (59, (1, 4, 1, (0 : Int32))), (62, (1, 4, 0, (0 : Int32))), (94, (1, 4, 12, (0 : Int32))), (130, (3, 0, 0, (-1 : Int32))), (139, (1, 4, 11, (0 : Int32))), (145, (1, 4, 5, (0 : Int32))), (148, (1, 4, 9, (0 : Int32))), (151, (1, 4, 6, (0 : Int32))), (154, (1, 4, 10, (0 : Int32)))]
theorem lkp_RX0_0 : lkW RX0 3 (13, 0, 0, (0 : Int32)) := gw_in (List.mem_of_getElem? (i := 197) (by decide +kernel)) rfl
theorem lkp_RX0_1 : lkW RX0 9 (1, 0, 1, (0 : Int32)) := ⟨by decide, by decide, gw_in (List.mem_of_getElem? (i := 199) (by decide +kernel)) rfl⟩
theorem lkp_RX0_2 : lkW RX0 15 (1, 0, 2, (0 : Int32)) := ⟨by decide, by decide, gw_in (List.mem_of_getElem? (i := 200) (by decide +kernel)) rfl⟩
theorem lkp_RX0_3 : lkW RX0 18 (1, 0, 3, (0 : Int32)) := ⟨by decide, by decide, gw_in (List.mem_of_getElem? (i := 201) (by decide +kernel)) rfl⟩
theorem lkp_RX0_4 : lkW RX0 21 (1, 0, 4, (0 : Int32)) := ⟨by decide, by decide, gw_in (List.mem_of_getElem? (i := 202) (by decide +kernel)) rfl⟩
theorem lkp_RX0_5 : lkW RX0 24 (1, 0, 6, (0 : Int32)) := ⟨by decide, by decide, gw_in (List.mem_of_getElem? (i := 204) (by decide +kernel)) rfl⟩
theorem lkp_RX0_6 : lkW RX0 28 (1, 0, 7, (0 : Int32)) := ⟨by decide, by decide, gw_in (List.mem_of_getElem? (i := 205) (by decide +kernel)) rfl⟩
theorem lkp_RX0_7 : lkW RX0 31 (1, 0, 8, (0 : Int32)) := ⟨by decide, by decide, gw_in (List.mem_of_getElem? (i := 206) (by decide +kernel)) rfl⟩
theorem lkp_RX0_8 : lkW RX0 34 (1, 0, 9, (0 : Int32)) := ⟨by decide, by decide, gw_in (List.mem_of_getElem? (i := 207) (by decide +kernel)) rfl⟩
theorem lkp_RX0_9 : lkW RX0 37 (1, 0, 10, (0 : Int32)) := ⟨by decide, by decide, gw_in (List.mem_of_getElem? (i := 208) (by decide +kernel)) rfl⟩
theorem lkp_RX0_10 : lkW RX0 40 (1, 0, 0, (0 : Int32)) := ⟨by decide, by decide, gw_in (List.mem_of_getElem? (i := 198) (by decide +kernel)) rfl⟩
theorem lkp_RX0_11 : lkW RX0 44 (1, 0, 5, (0 : Int32)) := ⟨by decide, by decide, gw_in (List.mem_of_getElem? (i := 203) (by decide +kernel)) rfl⟩
theorem lkp_RX0_12 : lkW RX0 48 (1, 4, 8, (0 : Int32)) := ⟨by decide, by decide, gw_in (List.mem_of_getElem? (i := 88) (by decide +kernel)) rfl⟩
theorem lkp_RX0_13 : lkW RX0 59 (1, 4, 1, (0 : Int32)) := ⟨by decide, by decide, gw_in (List.mem_of_getElem? (i := 74) (by decide +kernel)) rfl⟩
theorem lkp_RX0_14 : lkW RX0 62 (1, 4, 0, (0 : Int32)) := ⟨by decide, by decide, gw_in (List.mem_of_getElem? (i := 70) (by decide +kernel)) rfl⟩
theorem lkp_RX0_15 : lkW RX0 94 (1, 4, 12, (0 : Int32)) := ⟨by decide, by decide, gw_in (List.mem_of_getElem? (i := 102) (by decide +kernel)) rfl⟩
theorem lkp_RX0_16 : lkW RX0 130 (3, 0, 0, (-1 : Int32)) := gw_in (List.mem_of_getElem? (i := 788) (by decide +kernel)) rfl
theorem lkp_RX0_17 : lkW RX0 139 (1, 4, 11, (0 : Int32)) := ⟨by decide, by decide, gw_in (List.mem_of_getElem? (i := 99) (by decide +kernel)) rfl⟩
theorem lkp_RX0_18 : lkW RX0 145 (1, 4, 5, (0 : Int32)) := ⟨by decide, by decide, gw_in (List.mem_of_getElem? (i := 82) (by decide +kernel)) rfl⟩
theorem lkp_RX0_19 : lkW RX0 148 (1, 4, 9, (0 : Int32)) := ⟨by decide, by decide, gw_in (List.mem_of_getElem? (i := 93) (by decide +kernel)) rfl⟩
theorem lkp_RX0_20 : lkW RX0 151 (1, 4, 6, (0 : Int32)) := ⟨by decide, by decide, gw_in (List.mem_of_getElem? (i := 84) (by decide +kernel)) rfl⟩
theorem lkp_RX0_21 : lkW RX0 154 (1, 4, 10, (0 : Int32)) := ⟨by decide, by decide, gw_in (List.mem_of_getElem? (i := 96) (by decide +kernel)) rfl⟩
theorem lkp_RX0 : ∀ x ∈ lks_RX0, lkW RX0 x.1 x.2 := List.forall_mem_cons.mpr ⟨lkp_RX0_0, List.forall_mem_cons.mpr ⟨lkp_RX0_1, List.forall_mem_cons.mpr ⟨lkp_RX0_2, List.forall_mem_cons.mpr ⟨lkp_RX0_3, List.forall_mem_cons.mpr ⟨lkp_RX0_4, List.forall_mem_cons.mpr ⟨lkp_RX0_5, List.forall_mem_cons.mpr ⟨lkp_RX0_6, List.forall_mem_cons.mpr ⟨lkp_RX0_7, List.forall_mem_cons.mpr ⟨lkp_RX0_8, List.forall_mem_cons.mpr ⟨lkp_RX0_9, List.forall_mem_cons.mpr ⟨lkp_RX0_10, List.forall_mem_cons.mpr ⟨lkp_RX0_11, List.forall_mem_cons.mpr ⟨lkp_RX0_12, List.forall_mem_cons.mpr ⟨lkp_RX0_13, List.forall_mem_cons.mpr ⟨lkp_RX0_14, List.forall_mem_cons.mpr ⟨lkp_RX0_15, List.forall_mem_cons.mpr ⟨lkp_RX0_16, List.forall_mem_cons.mpr ⟨lkp_RX0_17, List.forall_mem_cons.mpr ⟨lkp_RX0_18, List.forall_mem_cons.mpr ⟨lkp_RX0_19, List.forall_mem_cons.mpr ⟨lkp_RX0_20, List.forall_mem_cons.mpr ⟨lkp_RX0_21, fun _ h => absurd h List.not_mem_nil⟩⟩⟩⟩⟩⟩⟩⟩⟩⟩⟩⟩⟩⟩⟩⟩⟩⟩⟩⟩⟩⟩
def lks_RX1 : List (Nat × aQ) := [(3, (13, 0, 0, (0 : Int32))), (9, (4, 4, 0, (0 : Int32))), (12, (1, 1, 1, (0 : Int32))), (18, (1, 1, 0, (0 : Int32))), (22, (1, 1, 2, (0 : Int32))), (26, (1, 1, 3, (0 : Int32))), (29, (1, 1, 4, (0 : Int32))), (32, (1, 1, 5, (0 : Int32))), (35, (1, 1, 6, (0 : Int32))), (49, (1, 3, 1, (0 : Int32))), (54, (1, 3, 0, (0 : Int32))), (85, (7, 0, 0, (0 : Int32))), (87, (7, 1, 0, (0 : Int32))), (89, (7, 2, 0, (0 : Int32))), (91, (7, 3, 0, (0 : Int32))), (93, (7, 4, 0, (0 : Int32))), (95, (7, 5, 0, (0 : Int32))), (97, (7, 6, 0, (0 : Int32))), (99, (7, 7, 0, (0 : Int32))), (104, (7, 8, 0, (0 : Int32))), (122, (7, 9, 0, (0 : Int32))), (130, (1, 4, 0, (0 : Int32))), (133, (1, 4, 1, (0 : Int32))), (136, (1, 4, 8, (0 : Int32))), (139, (7, 10, 0, (0 : Int32))), (141, (7, 11, 0, (0 : Int32))), (143, (6, 301, 0, (0 : Int32))), (146, (6, 302, 0, (0 : Int32))), (149, (7, 12, 0, (0 : Int32))), (155, (1, 4, 12, (0 : Int32))), (158, (6, 303, 0, (0 : Int32))), (161, (6, 304, 0, (0 : Int32))), (164, (7, 13, 0, (0 : Int32)))]
theorem lkp_RX1_0 : lkW RX1 3 (13, 0, 0, (0 : Int32)) := gw_in (List.mem_of_getElem? (i := 165) (by decide +kernel)) rfl
theorem lkp_RX1_1 : lkW RX1 9 (4, 4, 0, (0 : Int32)) := ⟨by decide, gw_in (List.mem_of_getElem? (i := 166) (by decide +kernel)) rfl⟩
theorem lkp_RX1_2 : lkW RX1 12 (1, 1, 1, (0 : Int32)) := ⟨by decide, by decide, gw_in (List.mem_of_getElem? (i := 169) (by decide +kernel)) rfl⟩
theorem lkp_RX1_3 : lkW RX1 18 (1, 1, 0, (0 : Int32)) := ⟨by decide, by decide, gw_in (List.mem_of_getElem? (i := 168) (by decide +kernel)) rfl⟩
theorem lkp_RX1_4 : lkW RX1 22 (1, 1, 2, (0 : Int32)) := ⟨by decide, by decide, gw_in (List.mem_of_getElem? (i := 171) (by decide +kernel)) rfl⟩
theorem lkp_RX1_5 : lkW RX1 26 (1, 1, 3, (0 : Int32)) := ⟨by decide, by decide, gw_in (List.mem_of_getElem? (i := 172) (by decide +kernel)) rfl⟩
theorem lkp_RX1_6 : lkW RX1 29 (1, 1, 4, (0 : Int32)) := ⟨by decide, by decide, gw_in (List.mem_of_getElem? (i := 173) (by decide +kernel)) rfl⟩
theorem lkp_RX1_7 : lkW RX1 32 (1, 1, 5, (0 : Int32)) := ⟨by decide, by decide, gw_in (List.mem_of_getElem? (i := 174) (by decide +kernel)) rfl⟩
theorem lkp_RX1_8 : lkW RX1 35 (1, 1, 6, (0 : Int32)) := ⟨by decide, by decide, gw_in (List.mem_of_getElem? (i := 175) (by decide +kernel)) rfl⟩
theorem lkp_RX1_9 : lkW RX1 49 (1, 3, 1, (0 : Int32)) := ⟨by decide, by decide, gw_in (List.mem_of_getElem? (i := 154) (by decide +kernel)) rfl⟩
theorem lkp_RX1_10 : lkW RX1 54 (1, 3, 0, (0 : Int32)) := ⟨by decide, by decide, gw_in (List.mem_of_getElem? (i := 151) (by decide +kernel)) rfl⟩
theorem lkp_RX1_11 : lkW RX1 85 (7, 0, 0, (0 : Int32)) := ⟨by decide, by decide +kernel⟩
theorem lkp_RX1_12 : lkW RX1 87 (7, 1, 0, (0 : Int32)) := ⟨by decide, by decide +kernel⟩
theorem lkp_RX1_13 : lkW RX1 89 (7, 2, 0, (0 : Int32)) := ⟨by decide, by decide +kernel⟩
theorem lkp_RX1_14 : lkW RX1 91 (7, 3, 0, (0 : Int32)) := ⟨by decide, by decide +kernel⟩
theorem lkp_RX1_15 : lkW RX1 93 (7, 4, 0, (0 : Int32)) := ⟨by decide, by decide +kernel⟩
theorem lkp_RX1_16 : lkW RX1 95 (7, 5, 0, (0 : Int32)) := ⟨by decide, by decide +kernel⟩
theorem lkp_RX1_17 : lkW RX1 97 (7, 6, 0, (0 : Int32)) := ⟨by decide, by decide +kernel⟩
theorem lkp_RX1_18 : lkW RX1 99 (7, 7, 0, (0 : Int32)) := ⟨by decide, by decide +kernel⟩
theorem lkp_RX1_19 : lkW RX1 104 (7, 8, 0, (0 : Int32)) := ⟨by decide, by decide +kernel⟩
theorem lkp_RX1_20 : lkW RX1 122 (7, 9, 0, (0 : Int32)) := ⟨by decide, by decide +kernel⟩
theorem lkp_RX1_21 : lkW RX1 130 (1, 4, 0, (0 : Int32)) := ⟨by decide, by decide, gw_in (List.mem_of_getElem? (i := 72) (by decide +kernel)) rfl⟩
theorem lkp_RX1_22 : lkW RX1 133 (1, 4, 1, (0 : Int32)) := ⟨by decide, by decide, gw_in (List.mem_of_getElem? (i := 76) (by decide +kernel)) rfl⟩
theorem lkp_RX1_23 : lkW RX1 136 (1, 4, 8, (0 : Int32)) := ⟨by decide, by decide, gw_in (List.mem_of_getElem? (i := 90) (by decide +kernel)) rfl⟩
theorem lkp_RX1_24 : lkW RX1 139 (7, 10, 0, (0 : Int32)) := ⟨by decide, by decide +kernel⟩
theorem lkp_RX1_25 : lkW RX1 141 (7, 11, 0, (0 : Int32)) := ⟨by decide, by decide +kernel⟩
theorem lkp_RX1_26 : lkW RX1 143 (6, 301, 0, (0 : Int32)) := ⟨by decide, by decide +kernel⟩
theorem lkp_RX1_27 : lkW RX1 146 (6, 302, 0, (0 : Int32)) := ⟨by decide, by decide +kernel⟩
theorem lkp_RX1_28 : lkW RX1 149 (7, 12, 0, (0 : Int32)) := ⟨by decide, by decide +kernel⟩
theorem lkp_RX1_29 : lkW RX1 155 (1, 4, 12, (0 : Int32)) := ⟨by decide, by decide, gw_in (List.mem_of_getElem? (i := 103) (by decide +kernel)) rfl⟩
theorem lkp_RX1_30 : lkW RX1 158 (6, 303, 0, (0 : Int32)) := ⟨by decide, by decide +kernel⟩
theorem lkp_RX1_31 : lkW RX1 161 (6, 304, 0, (0 : Int32)) := ⟨by decide, by decide +kernel⟩
theorem lkp_RX1_32 : lkW RX1 164 (7, 13, 0, (0 : Int32)) := ⟨by decide, by decide +kernel⟩
theorem lkp_RX1 : ∀ x ∈ lks_RX1, lkW RX1 x.1 x.2 := List.forall_mem_cons.mpr ⟨lkp_RX1_0, List.forall_mem_cons.mpr ⟨lkp_RX1_1, List.forall_mem_cons.mpr ⟨lkp_RX1_2, List.forall_mem_cons.mpr ⟨lkp_RX1_3, List.forall_mem_cons.mpr ⟨lkp_RX1_4, List.forall_mem_cons.mpr ⟨lkp_RX1_5, List.forall_mem_cons.mpr ⟨lkp_RX1_6, List.forall_mem_cons.mpr ⟨lkp_RX1_7, List.forall_mem_cons.mpr ⟨lkp_RX1_8, List.forall_mem_cons.mpr ⟨lkp_RX1_9, List.forall_mem_cons.mpr ⟨lkp_RX1_10, List.forall_mem_cons.mpr ⟨lkp_RX1_11, List.forall_mem_cons.mpr ⟨lkp_RX1_12, List.forall_mem_cons.mpr ⟨lkp_RX1_13, List.forall_mem_cons.mpr ⟨lkp_RX1_14, List.forall_mem_cons.mpr ⟨lkp_RX1_15, List.forall_mem_cons.mpr ⟨lkp_RX1_16, List.forall_mem_cons.mpr ⟨lkp_RX1_17, List.forall_mem_cons.mpr ⟨lkp_RX1_18, List.forall_mem_cons.mpr ⟨lkp_RX1_19, List.forall_mem_cons.mpr ⟨lkp_RX1_20, List.forall_mem_cons.mpr ⟨lkp_RX1_21, List.forall_mem_cons.mpr ⟨lkp_RX1_22, List.forall_mem_cons.mpr ⟨lkp_RX1_23, List.forall_mem_cons.mpr ⟨lkp_RX1_24, List.forall_mem_cons.mpr ⟨lkp_RX1_25, List.forall_mem_cons.mpr ⟨lkp_RX1_26, List.forall_mem_cons.mpr ⟨lkp_RX1_27, List.forall_mem_cons.mpr ⟨lkp_RX1_28, List.forall_mem_cons.mpr ⟨lkp_RX1_29, List.forall_mem_cons.mpr ⟨lkp_RX1_30, List.forall_mem_cons.mpr ⟨lkp_RX1_31, List.forall_mem_cons.mpr ⟨lkp_RX1_32, fun _ h => absurd h List.not_mem_nil⟩⟩⟩⟩⟩⟩⟩⟩⟩⟩⟩⟩⟩⟩⟩⟩⟩⟩⟩⟩⟩⟩⟩⟩⟩⟩⟩⟩⟩⟩⟩⟩⟩
def lks_RX2 : List (Nat × aQ) := [(3, (13, 0, 0, (0 : Int32))), (9, (1, 2, 0, (0 : Int32))), (15, (1, 2, 1, (0 : Int32))), (19, (1, 2, 2, (0 : Int32)))]
theorem lkp_RX2_0 : lkW RX2 3 (13, 0, 0, (0 : Int32)) := gw_in (List.mem_of_getElem? (i := 239) (by decide +kernel)) rfl
theorem lkp_RX2_1 : lkW RX2 9 (1, 2, 0, (0 : Int32)) := ⟨by decide, by decide, gw_in (List.mem_of_getElem? (i := 240) (by decide +kernel)) rfl⟩
theorem lkp_RX2_2 : lkW RX2 15 (1, 2, 1, (0 : Int32)) := ⟨by decide, by decide, gw_in (List.mem_of_getElem? (i := 242) (by decide +kernel)) rfl⟩
theorem lkp_RX2_3 : lkW RX2 19 (1, 2, 2, (0 : Int32)) := ⟨by decide, by decide, gw_in (List.mem_of_getElem? (i := 244) (by decide +kernel)) rfl⟩
theorem lkp_RX2 : ∀ x ∈ lks_RX2, lkW RX2 x.1 x.2 := List.forall_mem_cons.mpr ⟨lkp_RX2_0, List.forall_mem_cons.mpr ⟨lkp_RX2_1, List.forall_mem_cons.mpr ⟨lkp_RX2_2, List.forall_mem_cons.mpr ⟨lkp_RX2_3, fun _ h => absurd h List.not_mem_nil⟩⟩⟩⟩
def lks_RX3 : List (Nat × aQ) := [(3, (13, 0, 0, (0 : Int32))), (9, (1, 3, 0, (0 : Int32))), (15, (1, 3, 1, (0 : Int32)))]
theorem lkp_RX3_0 : lkW RX3 3 (13, 0, 0, (0 : Int32)) := gw_in (List.mem_of_getElem? (i := 149) (by decide +kernel)) rfl
theorem lkp_RX3_1 : lkW RX3 9 (1, 3, 0, (0 : Int32)) := ⟨by decide, by decide, gw_in (List.mem_of_getElem? (i := 150) (by decide +kernel)) rfl⟩
theorem lkp_RX3_2 : lkW RX3 15 (1, 3, 1, (0 : Int32)) := ⟨by decide, by decide, gw_in (List.mem_of_getElem? (i := 152) (by decide +kernel)) rfl⟩
theorem lkp_RX3 : ∀ x ∈ lks_RX3, lkW RX3 x.1 x.2 := List.forall_mem_cons.mpr ⟨lkp_RX3_0, List.forall_mem_cons.mpr ⟨lkp_RX3_1, List.forall_mem_cons.mpr ⟨lkp_RX3_2, fun _ h => absurd h List.not_mem_nil⟩⟩⟩
def lks_RX4 : List (Nat × aQ) := [(3, (13, 0, 0, (0 : Int32))), (9, (1, 4, 0, (0 : Int32))), (15, (1, 4, 1, (0 : Int32))), (18, (1, 4, 2, (0 : Int32))), (21, (1, 4, 3, (0 : Int32))), (24, (1, 4, 4, (0 : Int32))), (27, (1, 4, 5, (0 : Int32))), (30, (1, 4, 6, (0 : Int32))), (33, (1, 4, 7, (0 : Int32))), (36, (1, 4, 9, (0 : Int32))), (39, (1, 4, 10, (0 : Int32))), (42, (1, 4, 11, (0 : Int32))), (45, (1, 4, 15, (0 : Int32))), (48, (1, 4, 8, (0 : Int32))), (52, (1, 4, 12, (0 : Int32))), (55, (1, 4, 13, (0 : Int32))), (58, (1, 4, 14, (0 : Int32))), (61, (12, 0, 0, (0 : Int32))), (67, (2, 0, 0, (1103515245 : Int32)))]
theorem lkp_RX4_0 : lkW RX4 3 (13, 0, 0, (0 : Int32)) := gw_in (List.mem_of_getElem? (i := 68) (by decide +kernel)) rfl
theorem lkp_RX4_1 : lkW RX4 9 (1, 4, 0, (0 : Int32)) := ⟨by decide, by decide, gw_in (List.mem_of_getElem? (i := 69) (by decide +kernel)) rfl⟩
theorem lkp_RX4_2 : lkW RX4 15 (1, 4, 1, (0 : Int32)) := ⟨by decide, by decide, gw_in (List.mem_of_getElem? (i := 73) (by decide +kernel)) rfl⟩
theorem lkp_RX4_3 : lkW RX4 18 (1, 4, 2, (0 : Int32)) := ⟨by decide, by decide, gw_in (List.mem_of_getElem? (i := 77) (by decide +kernel)) rfl⟩
theorem lkp_RX4_4 : lkW RX4 21 (1, 4, 3, (0 : Int32)) := ⟨by decide, by decide, gw_in (List.mem_of_getElem? (i := 79) (by decide +kernel)) rfl⟩
theorem lkp_RX4_5 : lkW RX4 24 (1, 4, 4, (0 : Int32)) := ⟨by decide, by decide, gw_in (List.mem_of_getElem? (i := 80) (by decide +kernel)) rfl⟩
theorem lkp_RX4_6 : lkW RX4 27 (1, 4, 5, (0 : Int32)) := ⟨by decide, by decide, gw_in (List.mem_of_getElem? (i := 81) (by decide +kernel)) rfl⟩
theorem lkp_RX4_7 : lkW RX4 30 (1, 4, 6, (0 : Int32)) := ⟨by decide, by decide, gw_in (List.mem_of_getElem? (i := 83) (by decide +kernel)) rfl⟩
theorem lkp_RX4_8 : lkW RX4 33 (1, 4, 7, (0 : Int32)) := ⟨by decide, by decide, gw_in (List.mem_of_getElem? (i := 85) (by decide +kernel)) rfl⟩
theorem lkp_RX4_9 : lkW RX4 36 (1, 4, 9, (0 : Int32)) := ⟨by decide, by decide, gw_in (List.mem_of_getElem? (i := 91) (by decide +kernel)) rfl⟩
theorem lkp_RX4_10 : lkW RX4 39 (1, 4, 10, (0 : Int32)) := ⟨by decide, by decide, gw_in (List.mem_of_getElem? (i := 94) (by decide +kernel)) rfl⟩
theorem lkp_RX4_11 : lkW RX4 42 (1, 4, 11, (0 : Int32)) := ⟨by decide, by decide, gw_in (List.mem_of_getElem? (i := 97) (by decide +kernel)) rfl⟩
theorem lkp_RX4_12 : lkW RX4 45 (1, 4, 15, (0 : Int32)) := ⟨by decide, by decide, gw_in (List.mem_of_getElem? (i := 108) (by decide +kernel)) rfl⟩
theorem lkp_RX4_13 : lkW RX4 48 (1, 4, 8, (0 : Int32)) := ⟨by decide, by decide, gw_in (List.mem_of_getElem? (i := 87) (by decide +kernel)) rfl⟩
theorem lkp_RX4_14 : lkW RX4 52 (1, 4, 12, (0 : Int32)) := ⟨by decide, by decide, gw_in (List.mem_of_getElem? (i := 100) (by decide +kernel)) rfl⟩
theorem lkp_RX4_15 : lkW RX4 55 (1, 4, 13, (0 : Int32)) := ⟨by decide, by decide, gw_in (List.mem_of_getElem? (i := 104) (by decide +kernel)) rfl⟩
theorem lkp_RX4_16 : lkW RX4 58 (1, 4, 14, (0 : Int32)) := ⟨by decide, by decide, gw_in (List.mem_of_getElem? (i := 106) (by decide +kernel)) rfl⟩
theorem lkp_RX4_17 : lkW RX4 61 (12, 0, 0, (0 : Int32)) := gw_in (List.mem_of_getElem? (i := 311) (by decide +kernel)) rfl
theorem lkp_RX4_18 : lkW RX4 67 (2, 0, 0, (1103515245 : Int32)) := gw_in (List.mem_of_getElem? (i := 526) (by decide +kernel)) rfl
theorem lkp_RX4 : ∀ x ∈ lks_RX4, lkW RX4 x.1 x.2 := List.forall_mem_cons.mpr ⟨lkp_RX4_0, List.forall_mem_cons.mpr ⟨lkp_RX4_1, List.forall_mem_cons.mpr ⟨lkp_RX4_2, List.forall_mem_cons.mpr ⟨lkp_RX4_3, List.forall_mem_cons.mpr ⟨lkp_RX4_4, List.forall_mem_cons.mpr ⟨lkp_RX4_5, List.forall_mem_cons.mpr ⟨lkp_RX4_6, List.forall_mem_cons.mpr ⟨lkp_RX4_7, List.forall_mem_cons.mpr ⟨lkp_RX4_8, List.forall_mem_cons.mpr ⟨lkp_RX4_9, List.forall_mem_cons.mpr ⟨lkp_RX4_10, List.forall_mem_cons.mpr ⟨lkp_RX4_11, List.forall_mem_cons.mpr ⟨lkp_RX4_12, List.forall_mem_cons.mpr ⟨lkp_RX4_13, List.forall_mem_cons.mpr ⟨lkp_RX4_14, List.forall_mem_cons.mpr ⟨lkp_RX4_15, List.forall_mem_cons.mpr ⟨lkp_RX4_16, List.forall_mem_cons.mpr ⟨lkp_RX4_17, List.forall_mem_cons.mpr ⟨lkp_RX4_18, fun _ h => absurd h List.not_mem_nil⟩⟩⟩⟩⟩⟩⟩⟩⟩⟩⟩⟩⟩⟩⟩⟩⟩⟩⟩
def lks_RX5 : List (Nat × aQ) := [(1, (13, 0, 0, (0 : Int32))), (7, (4, 4, 0, (0 : Int32))), (10, (1, 5, 0, (0 : Int32))), (16, (1, 5, 1, (0 : Int32))), (19, (1, 5, 2, (0 : Int32))), (23, (4, 3, 0, (0 : Int32))), (26, (1, 5, 3, (0 : Int32))), (30, (4, 1, 0, (0 : Int32))), (35, (1, 5, 4, (0 : Int32))), (39, (4, 0, 0, (0 : Int32))), (44, (1, 5, 5, (0 : Int32))), (48, (11, 0, 0, (0 : Int32))), (48, (4, 2, 0, (0 : Int32))), (50, (1, 5, 6, (0 : Int32))), (55, (1, 5, 7, (0 : Int32))), (63, (2, 0, 0, (-1000001 : Int32))), (68, (1, 3, 1, (0 : Int32))), (72, (2, 0, 0, (-1000002 : Int32))), (81, (1, 1, 6, (0 : Int32))), (84, (1, 1, 1, (0 : Int32))), (94, (1, 4, 0, (0 : Int32))), (97, (1, 4, 1, (0 : Int32))), (107, (1, 4, 8, (0 : Int32))), (125, (2, 0, 0, (-1000004 : Int32))), (132, (1, 4, 12, (0 : Int32))), (141, (1, 4, 9, (0 : Int32))), (144, (1, 4, 10, (0 : Int32))), (147, (1, 4, 11, (0 : Int32))), (154, (1, 4, 13, (0 : Int32))), (248, (1, 4, 14, (0 : Int32))), (254, (1, 4, 15, (0 : Int32))), (257, (2, 0, 0, (-1000006 : Int32))), (258, (1, 4, 2, (0 : Int32))), (264, (2, 0, 0, (-1000003 : Int32))), (268, (2, 0, 0, (-1000007 : Int32))), (272, (1, 2, 2, (0 : Int32))), (282, (1, 2, 1, (0 : Int32))), (288, (1, 2, 0, (0 : Int32))), (291, (12, 0, 0, (0 : Int32))), (297, (1, 4, 7, (0 : Int32))), (306, (5, 301, 0, (0 : Int32))), (309, (5, 302, 0, (0 : Int32))), (312, (5, 303, 0, (0 : Int32))), (315, (5, 304, 0, (0 : Int32))), (318, (5, 300, 0, (0 : Int32)))]
theorem lkp_RX5_0 : lkW RX5 1 (13, 0, 0, (0 : Int32)) := gw_in (List.mem_of_getElem? (i := 60) (by decide +kernel)) rfl
theorem lkp_RX5_1 : lkW RX5 7 (4, 4, 0, (0 : Int32)) := ⟨by decide, gw_in (List.mem_of_getElem? (i := 63) (by decide +kernel)) rfl⟩
theorem lkp_RX5_2 : lkW RX5 10 (1, 5, 0, (0 : Int32)) := ⟨by decide, by decide, gw_in (List.mem_of_getElem? (i := 253) (by decide +kernel)) rfl⟩
theorem lkp_RX5_3 : lkW RX5 16 (1, 5, 1, (0 : Int32)) := ⟨by decide, by decide, gw_in (List.mem_of_getElem? (i := 254) (by decide +kernel)) rfl⟩
theorem lkp_RX5_4 : lkW RX5 19 (1, 5, 2, (0 : Int32)) := ⟨by decide, by decide, gw_in (List.mem_of_getElem? (i := 255) (by decide +kernel)) rfl⟩
theorem lkp_RX5_5 : lkW RX5 23 (4, 3, 0, (0 : Int32)) := ⟨by decide, gw_in (List.mem_of_getElem? (i := 144) (by decide +kernel)) rfl⟩
theorem lkp_RX5_6 : lkW RX5 26 (1, 5, 3, (0 : Int32)) := ⟨by decide, by decide, gw_in (List.mem_of_getElem? (i := 256) (by decide +kernel)) rfl⟩
theorem lkp_RX5_7 : lkW RX5 30 (4, 1, 0, (0 : Int32)) := ⟨by decide, gw_in (List.mem_of_getElem? (i := 160) (by decide +kernel)) rfl⟩
theorem lkp_RX5_8 : lkW RX5 35 (1, 5, 4, (0 : Int32)) := ⟨by decide, by decide, gw_in (List.mem_of_getElem? (i := 257) (by decide +kernel)) rfl⟩
theorem lkp_RX5_9 : lkW RX5 39 (4, 0, 0, (0 : Int32)) := ⟨by decide, gw_in (List.mem_of_getElem? (i := 192) (by decide +kernel)) rfl⟩
theorem lkp_RX5_10 : lkW RX5 44 (1, 5, 5, (0 : Int32)) := ⟨by decide, by decide, gw_in (List.mem_of_getElem? (i := 258) (by decide +kernel)) rfl⟩
theorem lkp_RX5_11 : lkW RX5 48 (11, 0, 0, (0 : Int32)) := gw_in (List.mem_of_getElem? (i := 233) (by decide +kernel)) rfl
theorem lkp_RX5_12 : lkW RX5 48 (4, 2, 0, (0 : Int32)) := ⟨by decide, gw_in (List.mem_of_getElem? (i := 233) (by decide +kernel)) rfl⟩
theorem lkp_RX5_13 : lkW RX5 50 (1, 5, 6, (0 : Int32)) := ⟨by decide, by decide, gw_in (List.mem_of_getElem? (i := 259) (by decide +kernel)) rfl⟩
theorem lkp_RX5_14 : lkW RX5 55 (1, 5, 7, (0 : Int32)) := ⟨by decide, by decide, gw_in (List.mem_of_getElem? (i := 260) (by decide +kernel)) rfl⟩
theorem lkp_RX5_15 : lkW RX5 63 (2, 0, 0, (-1000001 : Int32)) := gw_in (List.mem_of_getElem? (i := 285) (by decide +kernel)) rfl
theorem lkp_RX5_16 : lkW RX5 68 (1, 3, 1, (0 : Int32)) := ⟨by decide, by decide, gw_in (List.mem_of_getElem? (i := 153) (by decide +kernel)) rfl⟩
theorem lkp_RX5_17 : lkW RX5 72 (2, 0, 0, (-1000002 : Int32)) := gw_in (List.mem_of_getElem? (i := 290) (by decide +kernel)) rfl
theorem lkp_RX5_18 : lkW RX5 81 (1, 1, 6, (0 : Int32)) := ⟨by decide, by decide, gw_in (List.mem_of_getElem? (i := 176) (by decide +kernel)) rfl⟩
theorem lkp_RX5_19 : lkW RX5 84 (1, 1, 1, (0 : Int32)) := ⟨by decide, by decide, gw_in (List.mem_of_getElem? (i := 170) (by decide +kernel)) rfl⟩
theorem lkp_RX5_20 : lkW RX5 94 (1, 4, 0, (0 : Int32)) := ⟨by decide, by decide, gw_in (List.mem_of_getElem? (i := 71) (by decide +kernel)) rfl⟩
theorem lkp_RX5_21 : lkW RX5 97 (1, 4, 1, (0 : Int32)) := ⟨by decide, by decide, gw_in (List.mem_of_getElem? (i := 75) (by decide +kernel)) rfl⟩
theorem lkp_RX5_22 : lkW RX5 107 (1, 4, 8, (0 : Int32)) := ⟨by decide, by decide, gw_in (List.mem_of_getElem? (i := 89) (by decide +kernel)) rfl⟩
theorem lkp_RX5_23 : lkW RX5 125 (2, 0, 0, (-1000004 : Int32)) := gw_in (List.mem_of_getElem? (i := 491) (by decide +kernel)) rfl
theorem lkp_RX5_24 : lkW RX5 132 (1, 4, 12, (0 : Int32)) := ⟨by decide, by decide, gw_in (List.mem_of_getElem? (i := 101) (by decide +kernel)) rfl⟩
theorem lkp_RX5_25 : lkW RX5 141 (1, 4, 9, (0 : Int32)) := ⟨by decide, by decide, gw_in (List.mem_of_getElem? (i := 92) (by decide +kernel)) rfl⟩
theorem lkp_RX5_26 : lkW RX5 144 (1, 4, 10, (0 : Int32)) := ⟨by decide, by decide, gw_in (List.mem_of_getElem? (i := 95) (by decide +kernel)) rfl⟩
theorem lkp_RX5_27 : lkW RX5 147 (1, 4, 11, (0 : Int32)) := ⟨by decide, by decide, gw_in (List.mem_of_getElem? (i := 98) (by decide +kernel)) rfl⟩
theorem lkp_RX5_28 : lkW RX5 154 (1, 4, 13, (0 : Int32)) := ⟨by decide, by decide, gw_in (List.mem_of_getElem? (i := 105) (by decide +kernel)) rfl⟩
theorem lkp_RX5_29 : lkW RX5 248 (1, 4, 14, (0 : Int32)) := ⟨by decide, by decide, gw_in (List.mem_of_getElem? (i := 107) (by decide +kernel)) rfl⟩
theorem lkp_RX5_30 : lkW RX5 254 (1, 4, 15, (0 : Int32)) := ⟨by decide, by decide, gw_in (List.mem_of_getElem? (i := 109) (by decide +kernel)) rfl⟩
theorem lkp_RX5_31 : lkW RX5 257 (2, 0, 0, (-1000006 : Int32)) := gw_in (List.mem_of_getElem? (i := 828) (by decide +kernel)) rfl
theorem lkp_RX5_32 : lkW RX5 258 (1, 4, 2, (0 : Int32)) := ⟨by decide, by decide, gw_in (List.mem_of_getElem? (i := 78) (by decide +kernel)) rfl⟩
theorem lkp_RX5_33 : lkW RX5 264 (2, 0, 0, (-1000003 : Int32)) := gw_in (List.mem_of_getElem? (i := 834) (by decide +kernel)) rfl
theorem lkp_RX5_34 : lkW RX5 268 (2, 0, 0, (-1000007 : Int32)) := gw_in (List.mem_of_getElem? (i := 842) (by decide +kernel)) rfl
theorem lkp_RX5_35 : lkW RX5 272 (1, 2, 2, (0 : Int32)) := ⟨by decide, by decide, gw_in (List.mem_of_getElem? (i := 245) (by decide +kernel)) rfl⟩
theorem lkp_RX5_36 : lkW RX5 282 (1, 2, 1, (0 : Int32)) := ⟨by decide, by decide, gw_in (List.mem_of_getElem? (i := 243) (by decide +kernel)) rfl⟩
theorem lkp_RX5_37 : lkW RX5 288 (1, 2, 0, (0 : Int32)) := ⟨by decide, by decide, gw_in (List.mem_of_getElem? (i := 241) (by decide +kernel)) rfl⟩
theorem lkp_RX5_38 : lkW RX5 291 (12, 0, 0, (0 : Int32)) := gw_in (List.mem_of_getElem? (i := 870) (by decide +kernel)) rfl
theorem lkp_RX5_39 : lkW RX5 297 (1, 4, 7, (0 : Int32)) := ⟨by decide, by decide, gw_in (List.mem_of_getElem? (i := 86) (by decide +kernel)) rfl⟩
theorem lkp_RX5_40 : lkW RX5 306 (5, 301, 0, (0 : Int32)) := ⟨by decide, gw_in (List.mem_of_getElem? (i := 464) (by decide +kernel)) rfl⟩
theorem lkp_RX5_41 : lkW RX5 309 (5, 302, 0, (0 : Int32)) := ⟨by decide, gw_in (List.mem_of_getElem? (i := 465) (by decide +kernel)) rfl⟩
theorem lkp_RX5_42 : lkW RX5 312 (5, 303, 0, (0 : Int32)) := ⟨by decide, gw_in (List.mem_of_getElem? (i := 503) (by decide +kernel)) rfl⟩
theorem lkp_RX5_43 : lkW RX5 315 (5, 304, 0, (0 : Int32)) := ⟨by decide, gw_in (List.mem_of_getElem? (i := 504) (by decide +kernel)) rfl⟩
theorem lkp_RX5_44 : lkW RX5 318 (5, 300, 0, (0 : Int32)) := ⟨by decide, gw_in (List.mem_of_getElem? (i := 832) (by decide +kernel)) rfl⟩
theorem lkp_RX5 : ∀ x ∈ lks_RX5, lkW RX5 x.1 x.2 := List.forall_mem_cons.mpr ⟨lkp_RX5_0, List.forall_mem_cons.mpr ⟨lkp_RX5_1, List.forall_mem_cons.mpr ⟨lkp_RX5_2, List.forall_mem_cons.mpr ⟨lkp_RX5_3, List.forall_mem_cons.mpr ⟨lkp_RX5_4, List.forall_mem_cons.mpr ⟨lkp_RX5_5, List.forall_mem_cons.mpr ⟨lkp_RX5_6, List.forall_mem_cons.mpr ⟨lkp_RX5_7, List.forall_mem_cons.mpr ⟨lkp_RX5_8, List.forall_mem_cons.mpr ⟨lkp_RX5_9, List.forall_mem_cons.mpr ⟨lkp_RX5_10, List.forall_mem_cons.mpr ⟨lkp_RX5_11, List.forall_mem_cons.mpr ⟨lkp_RX5_12, List.forall_mem_cons.mpr ⟨lkp_RX5_13, List.forall_mem_cons.mpr ⟨lkp_RX5_14, List.forall_mem_cons.mpr ⟨lkp_RX5_15, List.forall_mem_cons.mpr ⟨lkp_RX5_16, List.forall_mem_cons.mpr ⟨lkp_RX5_17, List.forall_mem_cons.mpr ⟨lkp_RX5_18, List.forall_mem_cons.mpr ⟨lkp_RX5_19, List.forall_mem_cons.mpr ⟨lkp_RX5_20, List.forall_mem_cons.mpr ⟨lkp_RX5_21, List.forall_mem_cons.mpr ⟨lkp_RX5_22, List.forall_mem_cons.mpr ⟨lkp_RX5_23, List.forall_mem_cons.mpr ⟨lkp_RX5_24, List.forall_mem_cons.mpr ⟨lkp_RX5_25, List.forall_mem_cons.mpr ⟨lkp_RX5_26, List.forall_mem_cons.mpr ⟨lkp_RX5_27, List.forall_mem_cons.mpr ⟨lkp_RX5_28, List.forall_mem_cons.mpr ⟨lkp_RX5_29, List.forall_mem_cons.mpr ⟨lkp_RX5_30, List.forall_mem_cons.mpr ⟨lkp_RX5_31, List.forall_mem_cons.mpr ⟨lkp_RX5_32, List.forall_mem_cons.mpr ⟨lkp_RX5_33, List.forall_mem_cons.mpr ⟨lkp_RX5_34, List.forall_mem_cons.mpr ⟨lkp_RX5_35, List.forall_mem_cons.mpr ⟨lkp_RX5_36, List.forall_mem_cons.mpr ⟨lkp_RX5_37, List.forall_mem_cons.mpr ⟨lkp_RX5_38, List.forall_mem_cons.mpr ⟨lkp_RX5_39, List.forall_mem_cons.mpr ⟨lkp_RX5_40, List.forall_mem_cons.mpr ⟨lkp_RX5_41, List.forall_mem_cons.mpr ⟨lkp_RX5_42, List.forall_mem_cons.mpr ⟨lkp_RX5_43, List.forall_mem_cons.mpr ⟨lkp_RX5_44, fun _ h => absurd h List.not_mem_nil⟩⟩⟩⟩⟩⟩⟩⟩⟩⟩⟩⟩⟩⟩⟩⟩⟩⟩⟩⟩⟩⟩⟩⟩⟩⟩⟩⟩⟩⟩⟩⟩⟩⟩⟩⟩⟩⟩⟩⟩⟩⟩⟩⟩⟩
def lks_RX6 : List (Nat × aQ) := [(1, (13, 0, 0, (0 : Int32))), (7, (1, 6, 0, (0 : Int32))), (13, (1, 6, 1, (0 : Int32))), (16, (1, 6, 2, (0 : Int32))), (19, (1, 6, 4, (0 : Int32))), (22, (1, 6, 5, (0 : Int32))), (25, (1, 6, 13, (0 : Int32))), (28, (1, 6, 14, (0 : Int32))), (31, (1, 6, 16, (0 : Int32))), (34, (1, 6, 17, (0 : Int32))), (37, (1, 6, 18, (0 : Int32))), (40, (1, 6, 19, (0 : Int32))), (43, (1, 6, 20, (0 : Int32))), (46, (2, 0, 0, (-1000001 : Int32))), (55, (1, 6, 6, (0 : Int32))), (59, (1, 6, 7, (0 : Int32))), (65, (1, 6, 9, (0 : Int32))), (68, (1, 6, 8, (0 : Int32))), (71, (1, 6, 10, (0 : Int32))), (95, (1, 6, 11, (0 : Int32))), (101, (7, 9, 0, (0 : Int32))), (105, (7, 10, 0, (0 : Int32))), (107, (7, 11, 0, (0 : Int32))), (109, (7, 12, 0, (0 : Int32))), (111, (7, 13, 0, (0 : Int32))), (113, (7, 7, 0, (0 : Int32))), (119, (7, 8, 0, (0 : Int32))), (124, (7, 0, 0, (0 : Int32))), (126, (7, 1, 0, (0 : Int32))), (128, (7, 2, 0, (0 : Int32))), (130, (7, 3, 0, (0 : Int32))), (132, (7, 4, 0, (0 : Int32))), (134, (7, 5, 0, (0 : Int32))), (136, (7, 6, 0, (0 : Int32))), (142, (1, 6, 12, (0 : Int32))), (187, (2, 0, 0, (1103515245 : Int32))), (209, (1, 6, 15, (0 : Int32))), (262, (1, 6, 3, (0 : Int32)))]
theorem lkp_RX6_0 : lkW RX6 1 (13, 0, 0, (0 : Int32)) := gw_in (List.mem_of_getElem? (i := 914) (by decide +kernel)) rfl
theorem lkp_RX6_1 : lkW RX6 7 (1, 6, 0, (0 : Int32)) := ⟨by decide, by decide, gw_in (List.mem_of_getElem? (i := 915) (by decide +kernel)) rfl⟩
theorem lkp_RX6_2 : lkW RX6 13 (1, 6, 1, (0 : Int32)) := ⟨by decide, by decide, gw_in (List.mem_of_getElem? (i := 916) (by decide +kernel)) rfl⟩
theorem lkp_RX6_3 : lkW RX6 16 (1, 6, 2, (0 : Int32)) := ⟨by decide, by decide, gw_in (List.mem_of_getElem? (i := 917) (by decide +kernel)) rfl⟩
theorem lkp_RX6_4 : lkW RX6 19 (1, 6, 4, (0 : Int32)) := ⟨by decide, by decide, gw_in (List.mem_of_getElem? (i := 919) (by decide +kernel)) rfl⟩
theorem lkp_RX6_5 : lkW RX6 22 (1, 6, 5, (0 : Int32)) := ⟨by decide, by decide, gw_in (List.mem_of_getElem? (i := 920) (by decide +kernel)) rfl⟩
theorem lkp_RX6_6 : lkW RX6 25 (1, 6, 13, (0 : Int32)) := ⟨by decide, by decide, gw_in (List.mem_of_getElem? (i := 928) (by decide +kernel)) rfl⟩
theorem lkp_RX6_7 : lkW RX6 28 (1, 6, 14, (0 : Int32)) := ⟨by decide, by decide, gw_in (List.mem_of_getElem? (i := 929) (by decide +kernel)) rfl⟩
theorem lkp_RX6_8 : lkW RX6 31 (1, 6, 16, (0 : Int32)) := ⟨by decide, by decide, gw_in (List.mem_of_getElem? (i := 931) (by decide +kernel)) rfl⟩
theorem lkp_RX6_9 : lkW RX6 34 (1, 6, 17, (0 : Int32)) := ⟨by decide, by decide, gw_in (List.mem_of_getElem? (i := 932) (by decide +kernel)) rfl⟩
theorem lkp_RX6_10 : lkW RX6 37 (1, 6, 18, (0 : Int32)) := ⟨by decide, by decide, gw_in (List.mem_of_getElem? (i := 933) (by decide +kernel)) rfl⟩
theorem lkp_RX6_11 : lkW RX6 40 (1, 6, 19, (0 : Int32)) := ⟨by decide, by decide, gw_in (List.mem_of_getElem? (i := 934) (by decide +kernel)) rfl⟩
theorem lkp_RX6_12 : lkW RX6 43 (1, 6, 20, (0 : Int32)) := ⟨by decide, by decide, gw_in (List.mem_of_getElem? (i := 935) (by decide +kernel)) rfl⟩
theorem lkp_RX6_13 : lkW RX6 46 (2, 0, 0, (-1000001 : Int32)) := gw_in (List.mem_of_getElem? (i := 990) (by decide +kernel)) rfl
theorem lkp_RX6_14 : lkW RX6 55 (1, 6, 6, (0 : Int32)) := ⟨by decide, by decide, gw_in (List.mem_of_getElem? (i := 921) (by decide +kernel)) rfl⟩
theorem lkp_RX6_15 : lkW RX6 59 (1, 6, 7, (0 : Int32)) := ⟨by decide, by decide, gw_in (List.mem_of_getElem? (i := 922) (by decide +kernel)) rfl⟩
theorem lkp_RX6_16 : lkW RX6 65 (1, 6, 9, (0 : Int32)) := ⟨by decide, by decide, gw_in (List.mem_of_getElem? (i := 924) (by decide +kernel)) rfl⟩
theorem lkp_RX6_17 : lkW RX6 68 (1, 6, 8, (0 : Int32)) := ⟨by decide, by decide, gw_in (List.mem_of_getElem? (i := 923) (by decide +kernel)) rfl⟩
theorem lkp_RX6_18 : lkW RX6 71 (1, 6, 10, (0 : Int32)) := ⟨by decide, by decide, gw_in (List.mem_of_getElem? (i := 925) (by decide +kernel)) rfl⟩
theorem lkp_RX6_19 : lkW RX6 95 (1, 6, 11, (0 : Int32)) := ⟨by decide, by decide, gw_in (List.mem_of_getElem? (i := 926) (by decide +kernel)) rfl⟩
theorem lkp_RX6_20 : lkW RX6 101 (7, 9, 0, (0 : Int32)) := ⟨by decide, by decide +kernel⟩
theorem lkp_RX6_21 : lkW RX6 105 (7, 10, 0, (0 : Int32)) := ⟨by decide, by decide +kernel⟩
theorem lkp_RX6_22 : lkW RX6 107 (7, 11, 0, (0 : Int32)) := ⟨by decide, by decide +kernel⟩
theorem lkp_RX6_23 : lkW RX6 109 (7, 12, 0, (0 : Int32)) := ⟨by decide, by decide +kernel⟩
theorem lkp_RX6_24 : lkW RX6 111 (7, 13, 0, (0 : Int32)) := ⟨by decide, by decide +kernel⟩
theorem lkp_RX6_25 : lkW RX6 113 (7, 7, 0, (0 : Int32)) := ⟨by decide, by decide +kernel⟩
theorem lkp_RX6_26 : lkW RX6 119 (7, 8, 0, (0 : Int32)) := ⟨by decide, by decide +kernel⟩
theorem lkp_RX6_27 : lkW RX6 124 (7, 0, 0, (0 : Int32)) := ⟨by decide, by decide +kernel⟩
theorem lkp_RX6_28 : lkW RX6 126 (7, 1, 0, (0 : Int32)) := ⟨by decide, by decide +kernel⟩
theorem lkp_RX6_29 : lkW RX6 128 (7, 2, 0, (0 : Int32)) := ⟨by decide, by decide +kernel⟩
theorem lkp_RX6_30 : lkW RX6 130 (7, 3, 0, (0 : Int32)) := ⟨by decide, by decide +kernel⟩
theorem lkp_RX6_31 : lkW RX6 132 (7, 4, 0, (0 : Int32)) := ⟨by decide, by decide +kernel⟩
theorem lkp_RX6_32 : lkW RX6 134 (7, 5, 0, (0 : Int32)) := ⟨by decide, by decide +kernel⟩
theorem lkp_RX6_33 : lkW RX6 136 (7, 6, 0, (0 : Int32)) := ⟨by decide, by decide +kernel⟩
theorem lkp_RX6_34 : lkW RX6 142 (1, 6, 12, (0 : Int32)) := ⟨by decide, by decide, gw_in (List.mem_of_getElem? (i := 927) (by decide +kernel)) rfl⟩
theorem lkp_RX6_35 : lkW RX6 187 (2, 0, 0, (1103515245 : Int32)) := gw_in (List.mem_of_getElem? (i := 1124) (by decide +kernel)) rfl
theorem lkp_RX6_36 : lkW RX6 209 (1, 6, 15, (0 : Int32)) := ⟨by decide, by decide, gw_in (List.mem_of_getElem? (i := 930) (by decide +kernel)) rfl⟩
theorem lkp_RX6_37 : lkW RX6 262 (1, 6, 3, (0 : Int32)) := ⟨by decide, by decide, gw_in (List.mem_of_getElem? (i := 918) (by decide +kernel)) rfl⟩
theorem lkp_RX6 : ∀ x ∈ lks_RX6, lkW RX6 x.1 x.2 := List.forall_mem_cons.mpr ⟨lkp_RX6_0, List.forall_mem_cons.mpr ⟨lkp_RX6_1, List.forall_mem_cons.mpr ⟨lkp_RX6_2, List.forall_mem_cons.mpr ⟨lkp_RX6_3, List.forall_mem_cons.mpr ⟨lkp_RX6_4, List.forall_mem_cons.mpr ⟨lkp_RX6_5, List.forall_mem_cons.mpr ⟨lkp_RX6_6, List.forall_mem_cons.mpr ⟨lkp_RX6_7, List.forall_mem_cons.mpr ⟨lkp_RX6_8, List.forall_mem_cons.mpr ⟨lkp_RX6_9, List.forall_mem_cons.mpr ⟨lkp_RX6_10, List.forall_mem_cons.mpr ⟨lkp_RX6_11, List.forall_mem_cons.mpr ⟨lkp_RX6_12, List.forall_mem_cons.mpr ⟨lkp_RX6_13, List.forall_mem_cons.mpr ⟨lkp_RX6_14, List.forall_mem_cons.mpr ⟨lkp_RX6_15, List.forall_mem_cons.mpr ⟨lkp_RX6_16, List.forall_mem_cons.mpr ⟨lkp_RX6_17, List.forall_mem_cons.mpr ⟨lkp_RX6_18, List.forall_mem_cons.mpr ⟨lkp_RX6_19, List.forall_mem_cons.mpr ⟨lkp_RX6_20, List.forall_mem_cons.mpr ⟨lkp_RX6_21, List.forall_mem_cons.mpr ⟨lkp_RX6_22, List.forall_mem_cons.mpr ⟨lkp_RX6_23, List.forall_mem_cons.mpr ⟨lkp_RX6_24, List.forall_mem_cons.mpr ⟨lkp_RX6_25, List.forall_mem_cons.mpr ⟨lkp_RX6_26, List.forall_mem_cons.mpr ⟨lkp_RX6_27, List.forall_mem_cons.mpr ⟨lkp_RX6_28, List.forall_mem_cons.mpr ⟨lkp_RX6_29, List.forall_mem_cons.mpr ⟨lkp_RX6_30, List.forall_mem_cons.mpr ⟨lkp_RX6_31, List.forall_mem_cons.mpr ⟨lkp_RX6_32, List.forall_mem_cons.mpr ⟨lkp_RX6_33, List.forall_mem_cons.mpr ⟨lkp_RX6_34, List.forall_mem_cons.mpr ⟨lkp_RX6_35, List.forall_mem_cons.mpr ⟨lkp_RX6_36, List.forall_mem_cons.mpr ⟨lkp_RX6_37, fun _ h => absurd h List.not_mem_nil⟩⟩⟩⟩⟩⟩⟩⟩⟩⟩⟩⟩⟩⟩⟩⟩⟩⟩⟩⟩⟩⟩⟩⟩⟩⟩⟩⟩⟩⟩⟩⟩⟩⟩⟩⟩⟩⟩
def lks_RJ6 : List (Nat × aQ) := [(264, (2, 0, 0, (65536 : Int32))), (265, (2, 0, 0, (1431655765 : Int32))), (266, (2, 0, 0, (858993459 : Int32))), (267, (2, 0, 0, (252645135 : Int32)))]
theorem lkp_RJ6_0 : lkW RJ6 264 (2, 0, 0, (65536 : Int32)) := gw_in (List.mem_of_getElem? (i := 733) (by decide +kernel)) rfl
theorem lkp_RJ6_1 : lkW RJ6 265 (2, 0, 0, (1431655765 : Int32)) := gw_in (List.mem_of_getElem? (i := 704) (by decide +kernel)) rfl
theorem lkp_RJ6_2 : lkW RJ6 266 (2, 0, 0, (858993459 : Int32)) := gw_in (List.mem_of_getElem? (i := 705) (by decide +kernel)) rfl
theorem lkp_RJ6_3 : lkW RJ6 267 (2, 0, 0, (252645135 : Int32)) := gw_in (List.mem_of_getElem? (i := 706) (by decide +kernel)) rfl
theorem lkp_RJ6 : ∀ x ∈ lks_RJ6, lkW RJ6 x.1 x.2 := List.forall_mem_cons.mpr ⟨lkp_RJ6_0, List.forall_mem_cons.mpr ⟨lkp_RJ6_1, List.forall_mem_cons.mpr ⟨lkp_RJ6_2, List.forall_mem_cons.mpr ⟨lkp_RJ6_3, fun _ h => absurd h List.not_mem_nil⟩⟩⟩⟩
def lks_RJ0 : List (Nat × aQ) := [(9, (8, 0, 0, (0 : Int32))), (15, (9, 0, 0, (0 : Int32))), (38, (10, 0, 0, (0 : Int32))), (1053, (14, 0, 0, (0 : Int32)))]
theorem lkp_RJ0_0 : lkW RJ0 9 (8, 0, 0, (0 : Int32)) := gw_in (List.mem_of_getElem? (i := 1362) (by decide +kernel)) rfl
theorem lkp_RJ0_1 : lkW RJ0 15 (9, 0, 0, (0 : Int32)) := gw_in (List.mem_of_getElem? (i := 1363) (by decide +kernel)) rfl
theorem lkp_RJ0_2 : lkW RJ0 38 (10, 0, 0, (0 : Int32)) := gw_in (List.mem_of_getElem? (i := 342) (by decide +kernel)) rfl
theorem lkp_RJ0_3 : lkW RJ0 1053 (14, 0, 0, (0 : Int32)) := gw_in (List.mem_of_getElem? (i := 358) (by decide +kernel)) rfl
theorem lkp_RJ0 : ∀ x ∈ lks_RJ0, lkW RJ0 x.1 x.2 := List.forall_mem_cons.mpr ⟨lkp_RJ0_0, List.forall_mem_cons.mpr ⟨lkp_RJ0_1, List.forall_mem_cons.mpr ⟨lkp_RJ0_2, List.forall_mem_cons.mpr ⟨lkp_RJ0_3, fun _ h => absurd h List.not_mem_nil⟩⟩⟩⟩
def lks_RL : List (Nat × aQ) := [(7, (4, 5, 0, (0 : Int32))), (10, (4, 6, 0, (0 : Int32)))]
theorem lkp_RL_0 : lkW RL 7 (4, 5, 0, (0 : Int32)) := ⟨by decide, gw_in (List.mem_of_getElem? (i := 55) (by decide +kernel)) rfl⟩
theorem lkp_RL_1 : lkW RL 10 (4, 6, 0, (0 : Int32)) := ⟨by decide, gw_in (List.mem_of_getElem? (i := 909) (by decide +kernel)) rfl⟩
theorem lkp_RL : ∀ x ∈ lks_RL, lkW RL x.1 x.2 := List.forall_mem_cons.mpr ⟨lkp_RL_0, List.forall_mem_cons.mpr ⟨lkp_RL_1, fun _ h => absurd h List.not_mem_nil⟩⟩
def lks_RJ1 : List (Nat × aQ) := []
theorem lkp_RJ1 : ∀ x ∈ lks_RJ1, lkW RJ1 x.1 x.2 := fun _ h => absurd h List.not_mem_nil
def lks_RJ3 : List (Nat × aQ) := []
theorem lkp_RJ3 : ∀ x ∈ lks_RJ3, lkW RJ3 x.1 x.2 := fun _ h => absurd h List.not_mem_nil
def lks_RJ9 : List (Nat × aQ) := []
theorem lkp_RJ9 : ∀ x ∈ lks_RJ9, lkW RJ9 x.1 x.2 := fun _ h => absurd h List.not_mem_nil
