/-! ===== the step function is right: new cells, copies, Object's constructor ===== -/
section SO5
variable {mt : aM} {lv : Nat} {p : Program} {l : Launch} {e : Env} {R : Room} {s : State} {m : MethodId} {args : Array Value} {below : List Frame} {meth : Method} {c : Code} {A : Nat → Prop} {D : va_G} {σ0 : Nat → Nat} {n0 : Nat} {Q : State → Prop} {Fz : List Value → Nat → aMem → Prop} {pc nx tg : Nat} {q : aQ} {ls : List (Option Value)} {st : List Value} {n : Nat} {M : aMem} {K : aCfg → Prop}
def upA (σ : Nat → Nat) (n q : Nat) : Nat → Nat := fun a => if a = n then q else σ a
theorem upA_ne {σ : Nat → Nat} {n q a : Nat} (h : a ≠ n) : upA σ n q a = σ a := by simp [upA, h]
theorem upA_self {σ : Nat → Nat} {n q : Nat} : upA σ n q n = q := by simp [upA]
theorem cv_upA {σ : Nat → Nat} {n q : Nat} {v : Value} (h : nrV n v = true) : cv (upA σ n q) v = cv σ v := by
  cases v with
  | ref x =>
    simp only [nrV, Bool.not_eq_true'] at h
    have : x ≠ n := fun z => by rw [z, Nat.beq_refl] at h; cases h
    simp [cv, upA_ne this]
  | _ => rfl
theorem st_upA {σ : Nat → Nat} {n q : Nat} {st : List Value} (h : st.all (nrV n) = true) : st.map (cv (upA σ n q)) = st.map (cv σ) :=
  List.map_congr_left fun v hv => cv_upA (List.all_eq_true.mp h v hv)
theorem as_upA {σ : Nat → Nat} {n q : Nat} : ∀ (ls : List (Option Value)) (i : Nat), nrL n ls = true → ascF (upA σ n q) i ls = ascF σ i ls := by
  intro ls
  induction ls with
  | nil => intro i _; rfl
  | cons a t ih =>
    intro i h
    cases a with
    | none => exact ih (i + 1) h
    | some v =>
      simp only [nrL, Bool.and_eq_true] at h
      simp only [ascF, cv_upA h.1, ih (i + 1) h.2]
/-- a new cell n: its facts -/
theorem fa_new {σ τ : Nat → Nat} {H H1 : Heap} {locs : List Loc} {M' : aMem} {q cA : Nat} (hlt : n < mt.2.2.2.2.1.2.2) (hn : n < nW) (hF : aFa A D σ0 n0 mt.2.2.2.2.1.2.2 s σ τ n M H locs)
    (hrow : ∀ a, a ≠ n → M'.1 a = M.1 a ∧ M'.2.1 a = M.2.1 a ∧ M'.2.2 a = M.2.2 a) (hrn : ∀ k x, M'.2.2 n k = some x → x < n + 1)
    {ec : va_E} (hec : ce (upA σ n q) (upA τ n cA) M' n = ec) (hty : ∀ ty, tyA (shp n) = some ty → ArrOfT s cA ty ∧ va_RA s cA ty)
    (gP : va_P D vwCl (wd σ τ n M ++ [(q, ec)]) H1) (gD : va_D A (wd σ τ n M ++ [(q, ec)])) (gS : va_S A s.heap H1 locs) :
    aFa A D σ0 n0 mt.2.2.2.2.1.2.2 s (upA σ n q) (upA τ n cA) (n + 1) M' H1 locs := by
  obtain ⟨h1, ⟨h2, h3, h4⟩, h5, h6, h7, h8⟩ := hF
  have hnW : nW = 76 := rfl
  have ew : wd (upA σ n q) (upA τ n cA) (n + 1) M' = wd σ τ n M ++ [(q, ec)] := by
    rw [wd_succ, hec, upA_self]
    congr 1
    refine wd_congr fun a ha => ?_
    have hne : a ≠ n := Nat.ne_of_lt ha
    refine ⟨upA_ne hne, ?_⟩
    obtain ⟨r1, r2, r3⟩ := hrow a hne
    rw [ce_ext r1 r2 r3]
    refine ce_addr (upA_ne hne) fun k b hb => ?_
    exact upA_ne (Nat.ne_of_lt (h4 a ha k b hb))
  refine ⟨fun a ha => ?_, ⟨by omega, ⟨by omega, Or.inr (by omega)⟩, fun a ha k x hx => ?_⟩, fun a ha ty ht => ?_, by rw [ew]; exact gP, by rw [ew]; exact gD, gS⟩
  · rw [upA_ne (by omega)]; exact h1 a ha
  · by_cases hne : a = n
    · subst hne; exact hrn k x hx
    · rw [(hrow a hne).2.2] at hx
      exact Nat.lt_succ_of_lt (h4 a (by omega) k x hx)
  · by_cases hne : a = n
    · subst hne; rw [upA_self]; exact hty ty ht
    · rw [upA_ne hne]; exact h5 a (by omega) ty ht
theorem cx_room (C : aCx mt lv p l e R s m args below meth c A D σ0 n0 Q Fz) (h0 : n0 ≤ n) (h : n < mt.2.2.2.2.1.2.2) : (n - n0) + 1 ≤ R.cells ∧ (szp n - szp n0) + ssz (shp n) ≤ R.slots ∧ n + 1 - n0 = (n - n0) + 1 ∧ szp (n + 1) - szp n0 = (szp n - szp n0) + ssz (shp n) := by
  obtain ⟨-, -, -, h3, h4, -⟩ := C.2.2.2.2.2.2.1
  have mono : ∀ a b : Nat, a ≤ b → szp a ≤ szp b := by
    intro a b hab
    induction hab with
    | refl => exact Nat.le_refl _
    | step _ ih => exact Nat.le_trans ih (Nat.le_add_right _ _)
  have g1 := mono n0 n h0
  have g2 := mono (n + 1) _ h
  have g3 : szp (n + 1) = szp n + ssz (shp n) := rfl
  omega
theorem shp_ob {a k z : Nat} (h : shp a = (k, z)) (ha : a < nW) (hk : k = 0) : z < 7 := by
  have := (shp_obj a ha).2
  rw [h] at this
  exact this hk
theorem dv_all : ∀ ci, ci < 7 → ∀ k, k < nfC ci → defaultValue (tyC ci k) = (if isRf ci k = true then .null else .int 0) := by decide +kernel
theorem so_new {v : Nat} (C : aCx mt lv p l e R s m args below meth c A D σ0 n0 Q Fz) (hd : decode mt.2.1 pc = .ok (.new v, nx - pc)) (hln : lenI (.new v) = 0 ∨ nx = pc + lenI (.new v)) (hpc : pc < aRET) (hnx : nx < aRET) (hv : lkW mt.1.cls v q) (hcl : ∀ ci, ci < 7 → Cond.instantiable (nmC ci) (nfC ci) ∈ gw ∧ Cond.initialized (nmC ci) ∈ gw) (h : sI mt (.new v, nx, tg, q) pc ls st n M K) (hK : ∀ d, K d → aWA mt p l e R s m args below meth c A D σ0 n0 Q Fz d) : aWA mt p l e R s m args below meth c A D σ0 n0 Q Fz (pc, ls, st, n, M) := by
  obtain ⟨rfl, hdg⟩ := ln_1 (k := 3) hd hln rfl (by decide)
  simp only [sI] at h
  obtain ⟨q1, q2, q3, q4⟩ := q
  dsimp only at h hv
  split at h
  · split at h
    · next ci hsh =>
      split at h
      · next hc =>
        simp only [Bool.and_eq_true, Nat.blt_eq] at hc
        obtain ⟨⟨hbe, hlt⟩, hnr⟩ := hc
        obtain rfl := Nat.eq_of_beq_eq_true hbe
        simp only [nrS, Bool.and_eq_true] at hnr
        have hnW : n < nW := Nat.lt_of_lt_of_le hlt C.2.2.2.2.2.2.1.2.2.2.2.2
        refine ⟨fun hr => absurd hr (Nat.ne_of_lt hpc), fun _ σ τ H locs la hF hlen hl => ?_⟩
        have hW := (hK _ h).2 (Nat.ne_of_lt hnx)
        obtain ⟨r1, r2, r3, r4⟩ := cx_room C hF.2.1.1 hlt
        rw [hsh] at r2 r4
        dsimp only at hW ⊢
        refine va_new (ci := ci) (fs := (List.range (nfC ci)).map fun k => if isRf ci k = true then .null else .int 0) (C := nmC ci) (T := tbC ci) (N := nfC ci) (cx_x C) (cx_b C) C.2.1 (us_in hv.1) (tyC ci) (tyC_ok hv.1) (cx_own C) (cx_ts C hv.2) (cx_ts C (hcl ci hv.1).1) (cx_ts C (hcl ci hv.1).2) C.2.2.1 hF.2.2.2.1 hF.2.2.2.2.1 hF.2.2.2.2.2 C.2.2.2.2.1 (vw_at hv.1) (fun j hj => ?_) r1 r2 hdg (fun q H1 g1 g2 g3 => ?_)
        · rw [dv_all ci hv.1 j hj]
          simp [vp_V, hj]
        · have hF' := fa_new (M' := (rowZ M.1 n 0, M.2.1, rowZ M.2.2 n none)) (q := q) (cA := 0) hlt hnW hF (fun a ha => ⟨upR_row ha, rfl, upR_row ha⟩) (fun k x hx => by simp [rowZ, upR] at hx) (by
              rw [ce_obj hsh]
              simp only [rowZ, upR_self, Option.map_none, va_rf]) (fun ty ht => by rw [hsh] at ht; cases ht) g1 g2 g3
          have hw := hW (upA σ n q) (upA τ n 0) H1 locs la hF' hlen (by rw [as_upA _ _ hnr.1]; exact hl)
          rw [List.map_cons, st_upA hnr.2, show cv (upA σ n q) (.ref n) = .ref q by simp [cv, upA_self], r3, r4] at hw
          exact hw
      · exact h.elim
    · exact h.elim
  · exact h.elim
theorem so_newarray {ty : ArrayType} (C : aCx mt lv p l e R s m args below meth c A D σ0 n0 Q Fz) (hd : decode mt.2.1 pc = .ok (.newarray ty, nx - pc)) (hln : lenI (.newarray ty) = 0 ∨ nx = pc + lenI (.newarray ty)) (hpc : pc < aRET) (hnx : nx < aRET) (har : Cond.arrayClass .int ∈ gw ∧ Cond.arrayClass .long ∈ gw) (h : sI mt (.newarray ty, nx, tg, q) pc ls st n M K) (hK : ∀ d, K d → aWA mt p l e R s m args below meth c A D σ0 n0 Q Fz d) : aWA mt p l e R s m args below meth c A D σ0 n0 Q Fz (pc, ls, st, n, M) := by
  obtain ⟨rfl, hdg⟩ := ln_1 (k := 2) hd hln rfl (by decide)
  simp only [sI] at h
  have hsm : ∀ a, a < nW → (shp a).2 < 2000 := by decide +kernel
  split at h
  · next x st =>
    split at h
    · next z hsh =>
      split at h
      · next hlt =>
        simp only [Bool.and_eq_true, Nat.blt_eq] at hlt
        obtain ⟨hlt, hnr⟩ := hlt
        simp only [nrS, Bool.and_eq_true] at hnr
        obtain ⟨rfl, h⟩ := h
        have hnW : n < nW := Nat.lt_of_lt_of_le hlt C.2.2.2.2.2.2.1.2.2.2.2.2
        have hz := hsm n hnW
        rw [hsh] at hz
        dsimp only at hz
        refine ⟨fun hr => absurd hr (Nat.ne_of_lt hpc), fun _ σ τ H locs la hF hlen hl => ?_⟩
        have hW := (hK _ h).2 (Nat.ne_of_lt hnx)
        obtain ⟨r1, r2, r3, r4⟩ := cx_room C hF.2.1.1 hlt
        rw [hsh] at r2 r4
        dsimp only at hW ⊢
        refine va_newa (atype := .int) (cx_x C) (cx_b C) (cx_ts C har.1) (ty := .int) rfl C.2.2.1 hF.2.2.2.1 hF.2.2.2.2.1 hF.2.2.2.2.2 C.2.2.2.2.1 (N' := z) (a0 := (z, .inl fun _ => 0)) (fun cA => rfl) (nI_pos (by omega)) (nI_clamp (by omega)) (by simp only [componentBytes]; omega) r1 r2 hdg (fun q cA H1 g0 g1 g2 g3 => ?_)
        have hF' := fa_new (M' := (rowZ M.1 n 0, M.2.1, rowZ M.2.2 n none)) (q := q) (cA := cA) hlt hnW hF (fun a ha => ⟨upR_row ha, rfl, upR_row ha⟩) (fun k x hx => by simp [rowZ, upR] at hx) (by
            rw [ce_int hsh, upA_self]
            simp only [rowZ, upR_self]) (fun ty ht => by rw [hsh] at ht; cases ht; exact g0.2 0 (cA, .int) rfl) g1 g2 g3
        have hw := hW (upA σ n q) (upA τ n cA) H1 locs la hF' hlen (by rw [as_upA _ _ hnr.1]; exact hl)
        rw [List.map_cons, st_upA hnr.2, show cv (upA σ n q) (.ref n) = .ref q by simp [cv, upA_self], r3, r4] at hw
        exact hw
      · exact h.elim
    · next z hsh =>
      split at h
      · next hlt =>
        simp only [Bool.and_eq_true, Nat.blt_eq] at hlt
        obtain ⟨hlt, hnr⟩ := hlt
        simp only [nrS, Bool.and_eq_true] at hnr
        obtain ⟨rfl, h⟩ := h
        have hnW : n < nW := Nat.lt_of_lt_of_le hlt C.2.2.2.2.2.2.1.2.2.2.2.2
        have hz := hsm n hnW
        rw [hsh] at hz
        dsimp only at hz
        refine ⟨fun hr => absurd hr (Nat.ne_of_lt hpc), fun _ σ τ H locs la hF hlen hl => ?_⟩
        have hW := (hK _ h).2 (Nat.ne_of_lt hnx)
        obtain ⟨r1, r2, r3, r4⟩ := cx_room C hF.2.1.1 hlt
        rw [hsh] at r2 r4
        dsimp only at hW ⊢
        refine va_newa (atype := .long) (cx_x C) (cx_b C) (cx_ts C har.2) (ty := .long) rfl C.2.2.1 hF.2.2.2.1 hF.2.2.2.2.1 hF.2.2.2.2.2 C.2.2.2.2.1 (N' := z) (a0 := (z, .inr (.inl fun _ => 0))) (fun cA => rfl) (nI_pos (by omega)) (nI_clamp (by omega)) (by simp only [componentBytes]; omega) r1 r2 hdg (fun q cA H1 g0 g1 g2 g3 => ?_)
        have hF' := fa_new (M' := (M.1, rowZ M.2.1 n 0, rowZ M.2.2 n none)) (q := q) (cA := cA) hlt hnW hF (fun a ha => ⟨rfl, upR_row ha, upR_row ha⟩) (fun k x hx => by simp [rowZ, upR] at hx) (by
            rw [ce_long hsh, upA_self]
            simp only [rowZ, upR_self]) (fun ty ht => by rw [hsh] at ht; cases ht; exact g0.2 0 (cA, .long) rfl) g1 g2 g3
        have hw := hW (upA σ n q) (upA τ n cA) H1 locs la hF' hlen (by rw [as_upA _ _ hnr.1]; exact hl)
        rw [List.map_cons, st_upA hnr.2, show cv (upA σ n q) (.ref n) = .ref q by simp [cv, upA_self], r3, r4] at hw
        exact hw
      · exact h.elim
    · exact h.elim
  · exact h.elim
theorem so_anewarray {v : Nat} (C : aCx mt lv p l e R s m args below meth c A D σ0 n0 Q Fz) (hd : decode mt.2.1 pc = .ok (.anewarray v, nx - pc)) (hln : lenI (.anewarray v) = 0 ∨ nx = pc + lenI (.anewarray v)) (hpc : pc < aRET) (hnx : nx < aRET) (hv : lkW mt.1.cls v q) (h : sI mt (.anewarray v, nx, tg, q) pc ls st n M K) (hK : ∀ d, K d → aWA mt p l e R s m args below meth c A D σ0 n0 Q Fz d) : aWA mt p l e R s m args below meth c A D σ0 n0 Q Fz (pc, ls, st, n, M) := by
  obtain ⟨rfl, hdg⟩ := ln_1 (k := 3) hd hln rfl (by decide)
  simp only [sI] at h
  obtain ⟨q1, q2, q3, q4⟩ := q
  dsimp only at h hv
  have hsm : ∀ a, a < nW → (shp a).2 < 2000 := by decide +kernel
  split at h
  · next x st =>
    split at h
    · split at h
      · next z hsh =>
        split at h
        · next hlt =>
          simp only [Bool.and_eq_true, Nat.blt_eq] at hlt
          obtain ⟨hlt, hnr⟩ := hlt
          simp only [nrS, Bool.and_eq_true] at hnr
          obtain ⟨rfl, h⟩ := h
          have hnW : n < nW := Nat.lt_of_lt_of_le hlt C.2.2.2.2.2.2.1.2.2.2.2.2
          have hz := hsm n hnW
          rw [hsh] at hz
          dsimp only at hz
          refine ⟨fun hr => absurd hr (Nat.ne_of_lt hpc), fun _ σ τ H locs la hF hlen hl => ?_⟩
          have hW := (hK _ h).2 (Nat.ne_of_lt hnx)
          obtain ⟨r1, r2, r3, r4⟩ := cx_room C hF.2.1.1 hlt
          rw [hsh] at r2 r4
          dsimp only at hW ⊢
          refine va_newq (cx_x C) (cx_b C) (cx_own C) (cx_ts C hv) C.2.2.2.1.2.2.2.2.2.1 C.2.2.1 hF.2.2.2.1 hF.2.2.2.2.1 hF.2.2.2.2.2 C.2.2.2.2.1 (N' := z) (nI_pos (by omega)) (nI_clamp (by omega)) (by omega) r1 r2 hdg (fun q cA H1 g0 g1 g2 g3 => ?_)
          have hF' := fa_new (M' := (M.1, M.2.1, rowZ M.2.2 n none)) (q := q) (cA := cA) hlt hnW hF (fun a ha => ⟨rfl, rfl, upR_row ha⟩) (fun k x hx => by simp [rowZ, upR] at hx) (by
              rw [ce_ref hsh, upA_self]
              simp only [rowZ, upR_self, Option.map_none]) (fun ty ht => by rw [hsh] at ht; cases ht; exact g0.2 0 (cA, .object RX2) rfl) g1 g2 g3
          have hw := hW (upA σ n q) (upA τ n cA) H1 locs la hF' hlen (by rw [as_upA _ _ hnr.1]; exact hl)
          rw [List.map_cons, st_upA hnr.2, show cv (upA σ n q) (.ref n) = .ref q by simp [cv, upA_self], r3, r4] at hw
          exact hw
        · exact h.elim
      · exact h.elim
    · exact h.elim
  · exact h.elim
theorem so_copy {v : Nat} (C : aCx mt lv p l e R s m args below meth c A D σ0 n0 Q Fz) (hd : decode mt.2.1 pc = .ok (.invokestatic v, nx - pc)) (hln : lenI (.invokestatic v) = 0 ∨ nx = pc + lenI (.invokestatic v)) (hpc : pc < aRET) (hnx : nx < aRET) (hv : lkW mt.1.cls v q) (hcp : Cond.native arraycopyName ∈ gw ∧ Cond.static arraycopyName ∈ gw ∧ Cond.initialized "java/lang/System" ∈ gw) (h : sI mt (.invokestatic v, nx, tg, q) pc ls st n M K) (hK : ∀ d, K d → aWA mt p l e R s m args below meth c A D σ0 n0 Q Fz d) : aWA mt p l e R s m args below meth c A D σ0 n0 Q Fz (pc, ls, st, n, M) := by
  obtain ⟨rfl, hdg⟩ := ln_1 (k := 3) hd hln rfl (by decide)
  simp only [sI] at h
  obtain ⟨q1, q2, q3, q4⟩ := q
  dsimp only at h hv
  split at h
  · split at h
    · next w dp b sp a st =>
      split at h
      · next za zb hsa hsb =>
        split at h
        · next hc =>
          simp only [Bool.and_eq_true, Nat.blt_eq] at hc
          obtain ⟨⟨hla, hlb⟩, hst⟩ := hc
          have hst : st = [] := List.eq_nil_of_length_eq_zero (Nat.eq_of_beq_eq_true hst)
          subst hst
          obtain ⟨⟨c1, c2, c3, c4, c5⟩, h⟩ := h
          refine so_mem hpc hnx rl_id (hK _ h) (fun σ τ la H locs cells slots hl hF k => ?_)
          have hea := wd_at (σ := σ) (τ := τ) (M := M) hla
          rw [ce_int hsa] at hea
          have heb := wd_at (σ := σ) (τ := τ) (M := M) hlb
          rw [ce_int hsb] at heb
          have hK2 : va_K D vwCl [(τ a, .int), (τ b, .int)] s := ⟨C.2.2.1.1, fun k q hk => by
            match k, hk with
            | 0, hk => cases hk; exact hF.2.2.1 a hla .int (by rw [hsa]; rfl)
            | 1, hk => cases hk; exact hF.2.2.1 b hlb .int (by rw [hsb]; rfl)
            | k + 2, hk => simp at hk⟩
          obtain ⟨f1, f2, f3, -⟩ := C.2.2.2.2.2.2.1
          refine va_copyi (cx_x C) (cx_b C) (by rw [C.1.2.2.1]; exact hl.1.symm) (cx_own C) (cx_ts C hv) (cx_ts C hcp.1) (cx_ts C hcp.2.1) (cx_ts C hcp.2.2) hK2 hF.2.2.2.1 hF.2.2.2.2.1 hF.2.2.2.2.2 a b 0 1 hea heb rfl rfl rfl c1 c2 c3 c4 c5 (fun _ _ => rfl) (by omega) (by simp [nativeFrameWords]; omega) hdg (fun H1 locs1 g1 g2 g3 => ?_)
          have e1 := wd_set (σ := σ) (τ := τ) (M := M) (M' := (upR M.1 b (va_cpy (M.1 a) (M.1 b) sp.toNatClampNeg dp.toNatClampNeg w.toNatClampNeg), M.2)) hlb ((ce_int hsb).trans (congrArg (fun f => Sum.inl (τ b, zb, Sum.inl f)) upR_self)) (fun d hd => ce_ext (upR_row hd) rfl rfl)
          exact k H1 locs1 (by rw [← e1]; exact g1) (by rw [← e1]; exact g2) g3
        · exact h.elim
      · exact h.elim
    · exact h.elim
  · exact h.elim
theorem so_oinit {v : Nat} (C : aCx mt lv p l e R s m args below meth c A D σ0 n0 Q Fz) (hd : decode mt.2.1 pc = .ok (.invokespecial v, nx - pc)) (hln : lenI (.invokespecial v) = 0 ∨ nx = pc + lenI (.invokespecial v)) (hpc : pc < aRET) (hnx : nx < aRET) (hv : lkW mt.1.cls v q) (hoi : Cond.instanceMethod objectInit ∈ gw ∧ Cond.code objectInit ⟨#[0xb1]⟩ 1 none ∈ gw) (h : sI mt (.invokespecial v, nx, tg, q) pc ls st n M K) (hK : ∀ d, K d → aWA mt p l e R s m args below meth c A D σ0 n0 Q Fz d) : aWA mt p l e R s m args below meth c A D σ0 n0 Q Fz (pc, ls, st, n, M) := by
  obtain ⟨rfl, hdg⟩ := ln_1 (k := 3) hd hln rfl (by decide)
  simp only [sI] at h
  obtain ⟨q1, q2, q3, q4⟩ := q
  dsimp only at h hv
  split at h
  · split at h
    · next x st =>
      split at h
      · next hst =>
        have hst : st = [] := List.eq_nil_of_length_eq_zero (Nat.eq_of_beq_eq_true hst)
        subst hst
        obtain ⟨f1, f2, f3, -⟩ := C.2.2.2.2.2.2.1
        exact so_pure hpc hnx (hK _ h) (fun σ la H locs cells slots hl hS hO k => W.objInit (cx_x C) (cx_b C) (cx_own C) (cx_ts C hv) (cx_ts C hoi.1) (cx_ts C hoi.2) rfl (hl.1.trans C.1.2.2.1.symm) rfl hdg (by omega) (by simp [JFrame.monitorRoom]; omega) k)
      · exact h.elim
    · exact h.elim
  · exact h.elim
end SO5
