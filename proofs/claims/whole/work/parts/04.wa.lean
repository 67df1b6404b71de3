/-! ===== the world of cells, what the machine holds beside it, the judgement ===== -/
/-- one cell as the kit says it -/
def ce (σ τ : Nat → Nat) (M : aMem) (a : Nat) : va_E :=
  match shp a with
  | (0, ci) => .inr (ci, (List.range (nfC ci)).map fun k => if isRf ci k = true then va_rf ((M.2.2 a k).map σ) else .int (M.1 a k))
  | (1, n) => .inl (τ a, n, .inl (M.1 a))
  | (2, n) => .inl (τ a, n, .inr (.inl (M.2.1 a)))
  | (_, n) => .inl (τ a, n, .inr (.inr (.inr (.inr fun j => (M.2.2 a j).map σ))))
def wd (σ τ : Nat → Nat) (n : Nat) (M : aMem) : va_W := (List.range n).map fun a => (σ a, ce σ τ M a)
theorem wd_at {σ τ : Nat → Nat} {n : Nat} {M : aMem} {a : Nat} (h : a < n) : (wd σ τ n M)[a]? = some (σ a, ce σ τ M a) := by
  simp [wd, h]
theorem wd_out {σ τ : Nat → Nat} {n : Nat} {M : aMem} {a : Nat} (h : n ≤ a) : (wd σ τ n M)[a]? = none := by
  simp [wd, h]
theorem wd_set {σ τ : Nat → Nat} {n : Nat} {M M' : aMem} {a : Nat} {e : va_E} (h : a < n) (he : ce σ τ M' a = e) (ho : ∀ b, b ≠ a → ce σ τ M' b = ce σ τ M b) : (wd σ τ n M).set a (σ a, e) = wd σ τ n M' := by
  apply List.ext_getElem?
  intro b
  rw [List.getElem?_set]
  by_cases hb : b < n
  · rw [wd_at hb]
    by_cases hab : a = b
    · subst hab
      simp [wd, h, he]
    · rw [if_neg hab, wd_at hb, ho b (fun q => hab q.symm)]
  · rw [wd_out (Nat.le_of_not_lt hb)]
    by_cases hab : a = b
    · exact absurd (hab ▸ h) hb
    · rw [if_neg hab, wd_out (Nat.le_of_not_lt hb)]
theorem wd_congr {σ τ σ' τ' : Nat → Nat} {n : Nat} {M M' : aMem} (h : ∀ a, a < n → σ a = σ' a ∧ ce σ τ M a = ce σ' τ' M' a) : wd σ τ n M = wd σ' τ' n M' := by
  apply List.ext_getElem?
  intro b
  by_cases hb : b < n
  · rw [wd_at hb, wd_at hb, (h b hb).1, (h b hb).2]
  · rw [wd_out (Nat.le_of_not_lt hb), wd_out (Nat.le_of_not_lt hb)]
theorem wd_succ {σ τ : Nat → Nat} {n : Nat} {M : aMem} : wd σ τ (n + 1) M = wd σ τ n M ++ [(σ n, ce σ τ M n)] := by
  simp [wd, List.range_succ]
/-- links to private members of a nest mate, links to constant texts -/
def nestw : List Cond := [.fieldLinkNest RX1 158 RX5 "NEED_LEAST" "[I" RX5, .fieldLinkNest RX1 161 RX5 "NEED_MOST" "[I" RX5, .fieldLinkNest RX1 143 RX5 "PART_LEAST" "[I" RX5, .fieldLinkNest RX1 146 RX5 "PART_MOST" "[I" RX5, .methodLinkNest RX4 72 yX5_has RX5, .methodLinkNest RX2 31 yX5_isBetween RX5, .methodLinkNest RX2 35 yX5_isThrow RX5]
def srefs : List (String × Nat × Nat) := [(RX1, 85, 0), (RX1, 87, 1), (RX1, 89, 2), (RX1, 91, 3), (RX1, 93, 4), (RX1, 95, 5), (RX1, 97, 6), (RX1, 99, 7), (RX1, 104, 8), (RX1, 122, 9), (RX1, 139, 10), (RX1, 141, 11), (RX1, 149, 12), (RX1, 164, 13),
  (RX6, 124, 0), (RX6, 126, 1), (RX6, 128, 2), (RX6, 130, 3), (RX6, 132, 4), (RX6, 134, 5), (RX6, 136, 6), (RX6, 113, 7), (RX6, 119, 8), (RX6, 101, 9), (RX6, 105, 10), (RX6, 107, 11), (RX6, 109, 12), (RX6, 111, 13)]
/-- what stands outside of the world: constant rows, constant texts, their links -/
def aX (σ : Nat → Nat) (A : Nat → Prop) (U : State) (H : Heap) : Prop :=
  (∀ a, 300 ≤ a → a ≤ 304 → va_Z RX5 (sarN a) "[I" (.ref (σ a)) A U H ∧ va_T .int (σ a) (sarL a).length (fun j => .int (sar a j)) A U H) ∧
  vk_S strN strLen strByt (fun i => σ (100 + i)) (fun i => σ (200 + i)) A U H ∧
  (∀ q ∈ srefs, vk_R q.1 q.2.1 (strT.getD q.2.2 "") (σ (100 + q.2.2)) U) ∧
  (∀ w ∈ nestw, va_Nw w U) ∧ va_Z "java/lang/String" "COMPACT_STRINGS" "Z" (.int 1) A U H ∧ va_AO RX2 U ∧
  (va_Z "jdk/internal/util/Preconditions" "SIOOBE_FORMATTER" "Ljava/util/function/BiFunction;" .null A U H ∨ va_Z "jdk/internal/util/Preconditions" "SIOOBE_FORMATTER" "Ljava/util/function/BiFunction;" (.ref (σ 500)) A U H)
theorem aX.warm {σ : Nat → Nat} {A : Nat → Prop} {s U : State} {H : Heap} (hW : s.WarmedH U.vm) (h : aX σ A s H) : aX σ A U H := by
  obtain ⟨h1, h2, h3, h4, h5, h6, h7⟩ := h
  refine ⟨fun a g1 g2 => ⟨(h1 a g1 g2).1.moved hW.alike, (h1 a g1 g2).2.moved hW.alike⟩, h2.moved hW.alike, fun q hq => (h3 q hq).warm hW, fun w hw => ?_, h5.moved hW.alike, h6.moved hW.alike, h7.imp (fun z => z.moved hW.alike) (fun z => z.moved hW.alike)⟩
  have g := h4 w hw
  simp only [nestw, List.mem_cons, List.not_mem_nil, or_false] at hw
  rcases hw with rfl | rfl | rfl | rfl | rfl | rfl | rfl
  all_goals first | exact va_Nw.warmF hW g | exact va_Nw.warmM hW g
theorem aX.same {σ : Nat → Nat} {A : Nat → Prop} {s U : State} {H : Heap} (hv : U.vm = s.vm) (h : aX σ A s H) : aX σ A U H := by
  obtain ⟨h1, h2, h3, h4, h5, h6, h7⟩ := h
  have ha : s.vm.Alike U.vm := by rw [hv]; exact Vm.Alike.refl s.vm
  refine ⟨fun a g1 g2 => ⟨(h1 a g1 g2).1.moved ha, (h1 a g1 g2).2.moved ha⟩, h2.moved ha, fun q hq => (h3 q hq).same hv, fun w hw => ?_, h5.moved ha, h6.moved ha, h7.imp (fun z => z.moved ha) (fun z => z.moved ha)⟩
  have g := h4 w hw
  simp only [nestw, List.mem_cons, List.not_mem_nil, or_false] at hw
  rcases hw with rfl | rfl | rfl | rfl | rfl | rfl | rfl
  all_goals exact va_Nw.same rfl hv.symm g
theorem aX.kept {σ : Nat → Nat} {A : Nat → Prop} {U : State} {H H1 : Heap} (h : aX σ A U H) (hq : ∀ a : Nat, a < H.size → ¬ A a → H1[a]? = H[a]?) : aX σ A U H1 := by
  obtain ⟨h1, h2, h3, h4, h5, h6, h7⟩ := h
  exact ⟨fun a g1 g2 => ⟨(h1 a g1 g2).1.kept hq, (h1 a g1 g2).2.kept hq⟩, h2.kept hq, h3, h4, h5.kept hq, h6, h7.imp (fun z => z.kept hq) (fun z => z.kept hq)⟩
theorem aX.narrow {σ : Nat → Nat} {A B : Nat → Prop} {U : State} {H : Heap} (h : aX σ A U H) (hAB : ∀ q, B q → A q) : aX σ B U H := by
  obtain ⟨h1, h2, h3, h4, h5, h6, h7⟩ := h
  exact ⟨fun a g1 g2 => ⟨(h1 a g1 g2).1.narrow hAB, (h1 a g1 g2).2.narrow hAB⟩, h2.narrow hAB, h3, h4, h5.narrow hAB, h6, h7.imp (fun z => z.narrow hAB) (fun z => z.narrow hAB)⟩
theorem aX.swap {σ σ' : Nat → Nat} {A : Nat → Prop} {U : State} {H : Heap} (h : aX σ A U H) (he : ∀ a, 100 ≤ a → σ' a = σ a) : aX σ' A U H := by
  obtain ⟨h1, h2, h3, h4, h5, h6, h7⟩ := h
  refine ⟨fun a g1 g2 => ?_, ?_, fun q hq => ?_, h4, h5, h6, by rw [he 500 (by omega)]; exact h7⟩
  · rw [he a (by omega)]; exact h1 a g1 g2
  · have e1 : (fun i => σ' (100 + i)) = fun i => σ (100 + i) := funext fun i => he _ (by omega)
    have e2 : (fun i => σ' (200 + i)) = fun i => σ (200 + i) := funext fun i => he _ (by omega)
    rw [e1, e2]; exact h2
  · rw [he _ (by omega)]; exact h3 q hq
/-- the addresses: those of the start stay -/
def aOk (σ0 : Nat → Nat) (n0 : Nat) (σ : Nat → Nat) : Prop := ∀ a, a < n0 ∨ 100 ≤ a → σ a = σ0 a
def aTy (τ : Nat → Nat) (n : Nat) (U : State) : Prop := ∀ a, a < n → ∀ ty, tyA (shp a) = some ty → ArrOfT U (τ a) ty ∧ va_RA U (τ a) ty
theorem aTy.moved {τ : Nat → Nat} {n : Nat} {u U : State} (hvm : u.vm.Alike U.vm) (h : aTy τ n u) : aTy τ n U := fun a ha ty ht => ⟨arrOfT_moved hvm (h a ha ty ht).1, (h a ha ty ht).2.moved hvm⟩
/-- references of the world's cells stay within it -/
def aRL (n : Nat) (M : aMem) : Prop := ∀ a, a < n → ∀ k x, M.2.2 a k = some x → x < n
/-- the facts at a point of a walk -/
def aFa (A : Nat → Prop) (D : va_G) (σ0 : Nat → Nat) (n0 nz : Nat) (s : State) (σ τ : Nat → Nat) (n : Nat) (M : aMem) (H : Heap) (locs : List Loc) : Prop :=
  aOk σ0 n0 σ ∧ (n0 ≤ n ∧ (n ≤ nW ∧ (n = n0 ∨ n ≤ nz)) ∧ aRL n M) ∧ aTy τ n s ∧ va_P D vwCl (wd σ τ n M) H ∧ va_D A (wd σ τ n M) ∧ va_S A s.heap H locs
/-- the room of a method: its depth, what it makes -/
def rmL (lv n0 n1 : Nat) : Room := { frames := lv, cells := n1 - n0, slots := szp n1 - szp n0, locals := 40 * lv }
/-- links of a constant pool's entry -/
def lkW (own : String) (idx : Nat) : aQ → Prop
  | (1, ci, k, _) => ci < 7 ∧ k < nfC ci ∧ Cond.fieldLink own idx (tbC ci k).1 (tbC ci k).2.1 (tbC ci k).2.2.1 ∈ gw
  | (2, _, _, v) => Cond.constant own idx v ∈ gw
  | (3, _, _, v) => Cond.constantLong own idx v.toInt64 ∈ gw
  | (4, ci, _, _) => ci < 7 ∧ Cond.classLink own idx (nmC ci) ∈ gw
  | (5, a, _, _) => (300 ≤ a ∧ a ≤ 304) ∧ Cond.fieldLink own idx RX5 (sarN a) "[I" ∈ gw
  | (6, a, _, _) => (300 ≤ a ∧ a ≤ 304) ∧ Cond.fieldLinkNest own idx RX5 (sarN a) "[I" RX5 ∈ nestw
  | (7, i, _, _) => i < strN ∧ (own, idx, i) ∈ srefs
  | (8, _, _, _) => Cond.fieldLink own idx "java/lang/String" "value" "[B" ∈ gw
  | (9, _, _, _) => Cond.fieldLink own idx "java/lang/String" "coder" "B" ∈ gw
  | (10, _, _, _) => Cond.fieldLink own idx "java/lang/String" "COMPACT_STRINGS" "Z" ∈ gw
  | (11, _, _, _) => Cond.classLink own idx RX2 ∈ gw
  | (12, _, _, _) => Cond.methodLink own idx arraycopyName ∈ gw
  | (13, _, _, _) => Cond.methodLink own idx objectInit ∈ gw
  | (14, _, _, _) => Cond.fieldLink own idx "jdk/internal/util/Preconditions" "SIOOBE_FORMATTER" "Ljava/util/function/BiFunction;" ∈ gw
  | _ => True
/-- an instruction's entry in a code table is right -/
def okI (y : MethodName) (maxL pc : Nat) (e : aI) : Prop := match e with
  | (i, nx, tg, q) => match i with
    | .iconst v => Int32.ofInt v = q.2.2.2
    | .bipush v => (Int8.ofInt v).toInt32 = q.2.2.2
    | .sipush v => (Int16.ofInt v).toInt32 = q.2.2.2
    | .lconst v => (v : Nat) = q.2.1
    | .iload k => k = q.2.1
    | .aload k => k = q.2.1
    | .lload k => k = q.2.1
    | .iload_n k => (k : Nat) = q.2.1
    | .aload_n k => (k : Nat) = q.2.1
    | .lload_n k => (k : Nat) = q.2.1
    | .istore k => k = q.2.1 ∧ q.2.1 < maxL
    | .astore k => k = q.2.1 ∧ q.2.1 < maxL
    | .lstore k => k = q.2.1 ∧ q.2.1 + 1 < maxL
    | .istore_n k => (k : Nat) = q.2.1 ∧ q.2.1 < maxL
    | .astore_n k => (k : Nat) = q.2.1 ∧ q.2.1 < maxL
    | .lstore_n k => (k : Nat) = q.2.1 ∧ q.2.1 + 1 < maxL
    | .iinc k v => k = q.2.1 ∧ q.2.1 < maxL ∧ Int32.ofInt v = q.2.2.2
    | .tableswitch d lo hi offs => (lo = (Int32.ofInt lo).toInt ∧ hi = lo + offs.toList.length - 1 ∧ hi < 2147483647) ∧ ∀ o ∈ d :: offs.toList, 0 ≤ (pc : Int) + o ∧ (pc : Int) + o < 99999
    | .goto off => (pc : Int) + off = (tg : Int)
    | .ifCond _ off => (pc : Int) + off = (tg : Int)
    | .if_icmp _ off => (pc : Int) + off = (tg : Int)
    | .ldc idx => lkW y.cls idx q
    | .ldc_w idx => lkW y.cls idx q
    | .ldc2_w idx => lkW y.cls idx q
    | .getfield idx => lkW y.cls idx q
    | .putfield idx => lkW y.cls idx q
    | .getstatic idx => lkW y.cls idx q
    | .new idx => lkW y.cls idx q
    | .anewarray idx => lkW y.cls idx q
    | .invokestatic idx => lkW y.cls idx q
    | .invokespecial idx => lkW y.cls idx q
    | _ => True
/-- how long an instruction is (0: not said) -/
def lenI : Instr → Nat
  | .bipush _ | .iload _ | .aload _ | .lload _ | .istore _ | .astore _ | .lstore _ | .ldc _ | .newarray _ => 2
  | .sipush _ | .iinc _ _ | .goto _ | .ifCond _ _ | .if_icmp _ _ | .ldc_w _ | .ldc2_w _ | .getfield _ | .putfield _ | .getstatic _ | .new _ | .anewarray _ | .invokestatic _ | .invokespecial _ | .invokevirtual _ => 3
  | .tableswitch _ _ _ _ => 0
  | _ => 1
/-- a method's code table is right: its entries are what its bytes decode to -/
def okE (y : MethodName) (cc : ByteArray) (maxL pc : Nat) (e : aI) : Prop := decode cc pc = .ok (e.1, e.2.1 - pc) ∧ (lenI e.1 = 0 ∨ e.2.1 = pc + lenI e.1) ∧ (pc < 99999 ∧ e.2.1 < 99999 ∧ e.2.2.1 < 99999) ∧ okI y maxL pc e
def OkM (mt : aM) : Prop := ∀ pc en, mt.2.2.2.2.2 pc = some en → okE mt.1 mt.2.1 mt.2.2.1 pc en
