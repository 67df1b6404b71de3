/-! ===== the abstract machine is right: contexts, points ===== -/
/-- an instruction that returns, and what stands on the stack then -/
def retI (mt : aM) (i : Instr) (st : List Value) : Prop := match i, st with
  | .ireturn, [.int v] => ∃ ty, mt.2.2.2.1 = some ty ∧ narrow ty (.int v) = .int v
  | .lreturn, [.long _] => mt.2.2.2.1 = some .long
  | .areturn, [.ref _] => ∃ k, mt.2.2.2.1 = some (.object k)
  | .return_, [] => mt.2.2.2.1 = none
  | _, _ => False
/-- a walk's fixed things -/
def aCx (mt : aM) (lv : Nat) (p : Program) (l : Launch) (e : Env) (R : Room) (s : State) (m : MethodId) (args : Array Value) (below : List Frame) (meth : Method) (c : Code) (A : Nat → Prop) (D : va_G) (σ0 : Nat → Nat) (n0 : Nat) (Q : State → Prop) (Fz : List Value → Nat → aMem → Prop) : Prop :=
  (p.tables.exec = Jvm.exec ∧ c.code = mt.2.1 ∧ c.maxLocals = mt.2.2.1 ∧ meth.name = mt.1.name ∧ s.vm.findClass mt.1.cls = some m.cls) ∧
  (∀ w ∈ gw, w.before args s = true) ∧ va_K D vwCl [] s ∧ aX σ0 A s s.heap ∧ (∀ q, s.heap.size ≤ q → A q) ∧ OkM mt ∧
  (1 ≤ lv ∧ lv ≤ R.frames ∧ 40 * lv ≤ R.locals ∧ mt.2.2.2.2.1.2.2 - n0 ≤ R.cells ∧ szp mt.2.2.2.2.1.2.2 - szp n0 ≤ R.slots ∧ mt.2.2.2.2.1.2.2 ≤ nW) ∧
  (mt.2.2.2.2.1.1 = 0 ∨ (va_X (σ0 400) (mt.2.2.2.2.1.1 - 1) mt.2.2.2.2.1.2.1 s s.heap ∧ σ0 400 < s.heap.size ∧ ¬ A (σ0 400))) ∧
  (∀ (pc : Nat) (i : Instr) (st : List Value) (n : Nat) (M : aMem) (σ τ : Nat → Nat) (H : Heap) (locs : List Loc) (ls : Array Slot), retI mt i st → decode mt.2.1 pc = .ok (i, 1) → Fz st n M → aFa A D σ0 n0 mt.2.2.2.2.1.2.2 s σ τ n M H locs →
    W p l e R s m args below meth c H locs (n - n0) (szp n - szp n0) Q (F0 m pc ls (st.map (cv σ))))
/-- the machine, at a point of the walk, comes to its end -/
def aWA (mt : aM) (p : Program) (l : Launch) (e : Env) (R : Room) (s : State) (m : MethodId) (args : Array Value) (below : List Frame) (meth : Method) (c : Code) (A : Nat → Prop) (D : va_G) (σ0 : Nat → Nat) (n0 : Nat) (Q : State → Prop) (Fz : List Value → Nat → aMem → Prop) (cf : aCfg) : Prop :=
  (cf.1 = aRET → Fz cf.2.2.1 cf.2.2.2.1 cf.2.2.2.2) ∧
  (cf.1 ≠ aRET → ∀ (σ τ : Nat → Nat) (H : Heap) (locs : List Loc) (ls : Array Slot), aFa A D σ0 n0 mt.2.2.2.2.1.2.2 s σ τ cf.2.2.2.1 cf.2.2.2.2 H locs → cf.2.1.length = mt.2.2.1 → lv_has ls mt.2.2.1 (ascF σ 0 cf.2.1) →
    W p l e R s m args below meth c H locs (cf.2.2.2.1 - n0) (szp cf.2.2.2.1 - szp n0) Q (F0 m cf.1 ls (cf.2.2.1.map (cv σ))))
/-- locals -/
theorem ascF_get {σ : Nat → Nat} {ls : List (Option Value)} {k : Nat} {v : Value} (h : geL ls k = some v) : ∀ i, (i + k, cv σ v) ∈ ascF σ i ls := by
  induction ls generalizing k with
  | nil => simp [geL] at h
  | cons a t ih =>
    intro i
    cases k with
    | zero =>
      simp only [geL] at h
      subst h
      simp [ascF]
    | succ k =>
      simp only [geL] at h
      have := ih h (i + 1)
      rw [show i + 1 + k = i + (k + 1) by omega] at this
      cases a with
      | none => simpa [ascF] using this
      | some w => simp only [ascF]; exact List.mem_cons_of_mem _ this
theorem ascF_ge {σ : Nat → Nat} {ls : List (Option Value)} : ∀ {i : Nat} {q : Nat × Value}, q ∈ ascF σ i ls → i ≤ q.1 := by
  induction ls with
  | nil => intro i q h; simp [ascF] at h
  | cons a t ih =>
    intro i q h
    cases a with
    | none => have := ih (i := i + 1) (by simpa [ascF] using h); omega
    | some w =>
      simp only [ascF, List.mem_cons] at h
      rcases h with rfl | h
      · exact Nat.le_refl _
      · have := ih (i := i + 1) h; omega
theorem ascF_pu {σ : Nat → Nat} {v : Value} : ∀ (ls : List (Option Value)) (k i : Nat) (q : Nat × Value), k < ls.length → q ∈ ascF σ i (puL ls k v) → q = (i + k, cv σ v) ∨ (q ∈ ascF σ i ls ∧ q.1 ≠ i + k ∧ ¬ (q.1 + 1 = i + k ∧ q.2.category = 2)) := by
  intro ls
  induction ls with
  | nil => intro k i q hk h; simp at hk
  | cons a t ih =>
    intro k i q hk h
    match k with
    | 0 =>
      simp only [puL, ascF, List.mem_cons] at h
      rcases h with rfl | h
      · left; rfl
      · right
        have h1 := ascF_ge h
        refine ⟨?_, by omega, fun z => by omega⟩
        cases a with
        | none => simpa [ascF] using h
        | some w => simp only [ascF]; exact List.mem_cons_of_mem _ h
    | 1 =>
      simp only [puL] at h
      have hrec : q ∈ ascF σ (i + 1) (puL t 0 v) → q = (i + 1, cv σ v) ∨ (q ∈ ascF σ i (a :: t) ∧ q.1 ≠ i + 1 ∧ ¬ (q.1 + 1 = i + 1 ∧ q.2.category = 2)) := by
        intro h
        have hh := ih 0 (i + 1) q (by simp at hk ⊢; omega) h
        have hge := ascF_ge h
        rcases hh with hh | ⟨h1, h2, h3⟩
        · left; simpa using hh
        · right
          refine ⟨?_, by simpa using h2, fun z => by omega⟩
          cases a with
          | none => simpa [ascF] using h1
          | some w => simp only [ascF]; exact List.mem_cons_of_mem _ h1
      cases a with
      | none =>
        simp only [kpL, ascF] at h
        exact hrec h
      | some w =>
        by_cases hc : w.category = 2
        · simp only [kpL, hc, if_true, ascF] at h
          exact hrec h
        · simp only [kpL, hc, if_false, ascF, List.mem_cons] at h
          rcases h with rfl | h
          · right
            refine ⟨by simp [ascF], by simp, fun z => hc ?_⟩
            rw [← cv_cat σ w]; exact z.2
          · exact hrec h
    | k + 2 =>
      simp only [puL] at h
      have hrec : q ∈ ascF σ (i + 1) (puL t (k + 1) v) → q = (i + (k + 2), cv σ v) ∨ (q ∈ ascF σ i (a :: t) ∧ q.1 ≠ i + (k + 2) ∧ ¬ (q.1 + 1 = i + (k + 2) ∧ q.2.category = 2)) := by
        intro h
        have hh := ih (k + 1) (i + 1) q (by simp at hk ⊢; omega) h
        rw [show i + 1 + (k + 1) = i + (k + 2) by omega] at hh
        rcases hh with hh | ⟨h1, h2, h3⟩
        · left; exact hh
        · right
          refine ⟨?_, h2, h3⟩
          cases a with
          | none => simpa [ascF] using h1
          | some w => simp only [ascF]; exact List.mem_cons_of_mem _ h1
      cases a with
      | none => simp only [ascF] at h; exact hrec h
      | some w =>
        simp only [ascF, List.mem_cons] at h
        rcases h with rfl | h
        · right
          exact ⟨by simp [ascF], by simp, fun z => by have := z.1; simp at this⟩
        · exact hrec h
theorem puL_len {v : Value} : ∀ (ls : List (Option Value)) (k : Nat), (puL ls k v).length = ls.length := by
  intro ls
  induction ls with
  | nil => intro k; simp [puL]
  | cons a t ih =>
    intro k
    match k with
    | 0 => simp [puL]
    | 1 => simp [puL, ih]
    | k + 2 => simp [puL, ih]
theorem puL2_eq {v : Value} : ∀ (ls : List (Option Value)) (k : Nat), k + 1 < ls.length → puL2 ls k v = (puL ls k v).set (k + 1) none := by
  intro ls
  induction ls with
  | nil => intro k hk; simp at hk
  | cons a t ih =>
    intro k hk
    cases t with
    | nil => simp at hk
    | cons b t =>
      match k with
      | 0 => simp [puL2, puL]
      | 1 =>
        simp only [puL2, puL]
        rw [ih 0 (by simp at hk ⊢; omega)]
        simp [puL]
      | k + 2 =>
        simp only [puL2, puL]
        rw [ih (k + 1) (by simp at hk ⊢; omega)]
        simp
theorem ascF_none {σ : Nat → Nat} : ∀ (ls : List (Option Value)) (k i : Nat) (q : Nat × Value), q ∈ ascF σ i (ls.set k none) → q ∈ ascF σ i ls ∧ q.1 ≠ i + k := by
  intro ls
  induction ls with
  | nil => intro k i q h; simp [ascF] at h
  | cons a t ih =>
    intro k i q h
    match k with
    | 0 =>
      simp only [List.set_cons_zero, ascF] at h
      have := ascF_ge h
      refine ⟨?_, by omega⟩
      cases a with
      | none => simpa [ascF] using h
      | some w => simp only [ascF]; exact List.mem_cons_of_mem _ h
    | k + 1 =>
      simp only [List.set_cons_succ] at h
      cases a with
      | none =>
        simp only [ascF] at h ⊢
        have hh := ih k (i + 1) q h
        exact ⟨hh.1, by omega⟩
      | some w =>
        simp only [ascF, List.mem_cons] at h ⊢
        rcases h with rfl | h
        · exact ⟨Or.inl rfl, by simp⟩
        · have hh := ih k (i + 1) q h
          exact ⟨Or.inr hh.1, by omega⟩
theorem puL2_len {v : Value} (ls : List (Option Value)) (k : Nat) (h : k + 1 < ls.length) : (puL2 ls k v).length = ls.length := by
  rw [puL2_eq ls k h, List.length_set, puL_len]
theorem lv_get {σ : Nat → Nat} {ls : List (Option Value)} {la : Array Slot} {nL k : Nat} {v : Value} (h : lv_has la nL (ascF σ 0 ls)) (hk : geL ls k = some v) : la[k]? = some (.val (cv σ v)) := by
  have := h.2.2 _ (ascF_get hk 0)
  simpa using this
theorem lv_pu {σ : Nat → Nat} {ls : List (Option Value)} {la : Array Slot} {nL k : Nat} {v : Value} (hk : k < ls.length) (h : lv_has la nL ((k, cv σ v) :: (ascF σ 0 ls).filter (fun q => !(q.1 == k) && !(q.1 + 1 == k && q.2.category == 2)))) : lv_has la nL (ascF σ 0 (puL ls k v)) := by
  refine ⟨h.1, h.2.1, fun q hq => h.2.2 q ?_⟩
  rcases ascF_pu ls k 0 q hk hq with rfl | ⟨h1, h2, h3⟩
  · simp
  · refine List.mem_cons_of_mem _ (List.mem_filter.mpr ⟨h1, ?_⟩)
    simp only [Nat.zero_add] at h2 h3
    simp only [Bool.and_eq_true, Bool.not_eq_true', beq_eq_false_iff_ne, ne_eq, Bool.and_eq_false_iff]
    refine ⟨h2, ?_⟩
    by_cases hz : q.1 + 1 = k
    · right; simpa using fun z => h3 ⟨hz, z⟩
    · left; simpa using hz
theorem lv_pu2 {σ : Nat → Nat} {ls : List (Option Value)} {la : Array Slot} {nL k : Nat} {v : Value} (hk : k + 1 < ls.length) (h : lv_has la nL ((k, cv σ v) :: (ascF σ 0 ls).filter (fun q => !(q.1 == k) && (!(q.1 == k + 1) && !(q.1 + 1 == k && q.2.category == 2))))) : lv_has la nL (ascF σ 0 (puL2 ls k v)) := by
  refine ⟨h.1, h.2.1, fun q hq => h.2.2 q ?_⟩
  rw [puL2_eq ls k hk] at hq
  obtain ⟨hq, hne⟩ := ascF_none _ _ _ _ hq
  rcases ascF_pu ls k 0 q (by omega) hq with rfl | ⟨h1, h2, h3⟩
  · simp
  · refine List.mem_cons_of_mem _ (List.mem_filter.mpr ⟨h1, ?_⟩)
    simp only [Nat.zero_add] at h2 h3 hne
    simp only [Bool.and_eq_true, Bool.not_eq_true', beq_eq_false_iff_ne, ne_eq, Bool.and_eq_false_iff]
    refine ⟨h2, hne, ?_⟩
    by_cases hz : q.1 + 1 = k
    · right; simpa using fun z => h3 ⟨hz, z⟩
    · left; simpa using hz
