/-! ===== the step function is right: cells; printed by wip/whole/mk09.py ===== -/
theorem vw_at {ci : Nat} (h : ci < 7) : vwCl[ci]? = some (nmC ci, tbC ci, nfC ci) := by
  rcases (show ci = 0 ∨ ci = 1 ∨ ci = 2 ∨ ci = 3 ∨ ci = 4 ∨ ci = 5 ∨ ci = 6 by omega) with rfl | rfl | rfl | rfl | rfl | rfl | rfl <;> rfl
theorem tyC_ok {ci : Nat} (h : ci < 7) : ∀ k, k < nfC ci → parseFieldDescriptor (tbC ci k).2.2.1 = some (tyC ci k) := by
  rcases (show ci = 0 ∨ ci = 1 ∨ ci = 2 ∨ ci = 3 ∨ ci = 4 ∨ ci = 5 ∨ ci = 6 by omega) with rfl | rfl | rfl | rfl | rfl | rfl | rfl
  · exact tyX0_ok
  · exact tyX1_ok
  · exact tyX2_ok
  · exact tyX3_ok
  · exact tyX4_ok
  · exact tyX5_ok
  · exact tyX6_ok
theorem nmC_ok {ci : Nat} (h : ci < 7) : ∀ a, a < nfC ci → ∀ b, b < nfC ci → a ≠ b → (tbC ci a).2.1 ≠ (tbC ci b).2.1 := by
  rcases (show ci = 0 ∨ ci = 1 ∨ ci = 2 ∨ ci = 3 ∨ ci = 4 ∨ ci = 5 ∨ ci = 6 by omega) with rfl | rfl | rfl | rfl | rfl | rfl | rfl
  · exact nmX0
  · exact nmX1
  · exact nmX2
  · exact nmX3
  · exact nmX4
  · exact nmX5
  · exact nmX6
theorem us_0 : ∀ ci, ci < 7 → ∀ w ∈ u_ws (nmC ci) (tbC ci) (nfC ci), w ∈ lw_tbl ∧ goodWord w = true := by decide +kernel
theorem us_in {ci : Nat} (h : ci < 7) : ∀ w ∈ u_ws (nmC ci) (tbC ci) (nfC ci), w ∈ gw := fun w hw => gw_in (us_0 ci h w hw).1 (us_0 ci h w hw).2
theorem ce_obj {σ τ : Nat → Nat} {M : aMem} {a ci : Nat} (h : shp a = (0, ci)) : ce σ τ M a = .inr (ci, (List.range (nfC ci)).map fun k => if isRf ci k = true then va_rf ((M.2.2 a k).map σ) else .int (M.1 a k)) := by
  simp only [ce, h]
theorem ce_int {σ τ : Nat → Nat} {M : aMem} {a z : Nat} (h : shp a = (1, z)) : ce σ τ M a = .inl (τ a, z, .inl (M.1 a)) := by
  simp only [ce, h]
theorem ce_long {σ τ : Nat → Nat} {M : aMem} {a z : Nat} (h : shp a = (2, z)) : ce σ τ M a = .inl (τ a, z, .inr (.inl (M.2.1 a))) := by
  simp only [ce, h]
theorem ce_ref {σ τ : Nat → Nat} {M : aMem} {a z : Nat} (h : shp a = (3, z)) : ce σ τ M a = .inl (τ a, z, .inr (.inr (.inr (.inr fun j => (M.2.2 a j).map σ)))) := by
  simp only [ce, h]
theorem ce_ext {σ τ : Nat → Nat} {M M' : aMem} {a : Nat} (h1 : M'.1 a = M.1 a) (h2 : M'.2.1 a = M.2.1 a) (h3 : M'.2.2 a = M.2.2 a) : ce σ τ M' a = ce σ τ M a := by
  simp only [ce, h1, h2, h3]
theorem ce_addr {σ σ' τ τ' : Nat → Nat} {M : aMem} {a : Nat} (ht : τ' a = τ a) (h : ∀ k b, M.2.2 a k = some b → σ' b = σ b) : ce σ' τ' M a = ce σ τ M a := by
  have e : ∀ k, (M.2.2 a k).map σ' = (M.2.2 a k).map σ := by
    intro k
    cases hk : M.2.2 a k with
    | none => rfl
    | some b => simp [h k b hk]
  simp only [ce, e, ht]
theorem rl_id {n : Nat} {h h' : Nat → Nat → Int32} {g g' : Nat → Nat → Int64} {r : Nat → Nat → Option Nat} (z : aRL n (h, g, r)) : aRL n (h', g', r) := z
theorem rl_up {n o k x : Nat} {M : aMem} (hx : x < n) (h : aRL n M) : aRL n (M.1, M.2.1, up2 M.2.2 o k (some x)) := by
  intro a ha j y hy
  simp only [up2] at hy
  split at hy
  · split at hy
    · cases hy; exact hx
    · exact h a ha j y hy
  · exact h a ha j y hy
theorem up2_row {α : Type} {h : Nat → Nat → α} {a k : Nat} {x : α} {b : Nat} (hb : b ≠ a) : up2 h a k x b = h b := by
  funext j
  simp [up2, hb]
theorem up2_self {h : Nat → Nat → Int32} {a k : Nat} {x : Int32} : up2 h a k x a = upd (h a) k x := by
  funext j
  simp [up2, upd]
theorem up2_selfL {h : Nat → Nat → Int64} {a k : Nat} {x : Int64} : up2 h a k x a = vp_updL (h a) k x := by
  funext j
  simp [up2, vp_updL]
theorem upR_row {α : Type} {h : Nat → Nat → α} {a : Nat} {f : Nat → α} {b : Nat} (hb : b ≠ a) : upR h a f b = h b := by
  simp [upR, hb]
theorem upR_self {α : Type} {h : Nat → Nat → α} {a : Nat} {f : Nat → α} : upR h a f a = f := by
  simp [upR]
section SO4
variable {mt : aM} {lv : Nat} {p : Program} {l : Launch} {e : Env} {R : Room} {s : State} {m : MethodId} {args : Array Value} {below : List Frame} {meth : Method} {c : Code} {A : Nat → Prop} {D : va_G} {σ0 : Nat → Nat} {n0 : Nat} {Q : State → Prop} {Fz : List Value → Nat → aMem → Prop} {pc nx tg : Nat} {q : aQ} {ls : List (Option Value)} {st : List Value} {n : Nat} {M : aMem} {K : aCfg → Prop}
theorem cx_K1 (C : aCx mt lv p l e R s m args below meth c A D σ0 n0 Q Fz) {σ τ : Nat → Nat} {H : Heap} {locs : List Loc} (hF : aFa A D σ0 n0 mt.2.2.2.2.1.2.2 s σ τ n M H locs) {a : Nat} (ha : a < n) {ty : FieldType} (ht : tyA (shp a) = some ty) : va_K D vwCl [(τ a, ty)] s :=
  ⟨C.2.2.1.1, fun k q hk => by
    match k, hk with
    | 0, hk => cases hk; exact hF.2.2.1 a ha ty ht
    | k + 1, hk => simp at hk⟩
theorem w_tld {cc : ByteArray} (hx : p.tables.exec = Jvm.exec) (hb : c.code = cc) {H : Heap} {locs : List Loc} {cells slots : Nat} {t N : Nat} {f : Nat → Int32} (hT : va_T .int t N (fun j => .int (f j)) A s s.heap) (hS : va_S A s.heap H locs) {i : Int32} (hin : vp_in i N) {la : Array Slot} {rest : List Value} (hdg : decode cc pc = .ok (.iaload, 1))
    (kk : W p l e R s m args below meth c H locs cells slots Q (F0 m (pc + 1) la (.int (f i.toNatClampNeg) :: rest))) : W p l e R s m args below meth c H locs cells slots Q (F0 m pc la (.int i :: .ref t :: rest)) := by
  obtain ⟨cell, h1, h2, h3, h4, h5, h6, h7⟩ := hT
  have hlt : t < s.heap.size := (Array.getElem?_eq_some_iff.mp h1).1
  have hc : H[t]? = some cell := (hS.2.1 t hlt h7).trans h1
  have hi : ¬ i < 0 ∧ i.toNatClampNeg < N := ⟨fun z => hin (Or.inl z), Nat.lt_of_not_le fun z => hin (Or.inr z)⟩
  exact W.iald hx hb hc h2 h3 (fun z => by rcases z with z | z; exact hi.1 z; exact absurd (Nat.lt_of_lt_of_le hi.2 h4) (Nat.not_lt.mpr z)) (h6 _ hi.2) rfl rfl hdg kk
theorem w_tlb {cc : ByteArray} (hx : p.tables.exec = Jvm.exec) (hb : c.code = cc) {H : Heap} {locs : List Loc} {cells slots : Nat} {t N : Nat} {f : Nat → Int32} (hT : va_T .byte t N (fun j => .int (f j)) A s s.heap) (hS : va_S A s.heap H locs) {i : Int32} (hin : vp_in i N) {la : Array Slot} {rest : List Value} (hdg : decode cc pc = .ok (.baload, 1))
    (kk : W p l e R s m args below meth c H locs cells slots Q (F0 m (pc + 1) la (.int (f i.toNatClampNeg) :: rest))) : W p l e R s m args below meth c H locs cells slots Q (F0 m pc la (.int i :: .ref t :: rest)) := by
  obtain ⟨cell, h1, h2, h3, h4, h5, h6, h7⟩ := hT
  have hlt : t < s.heap.size := (Array.getElem?_eq_some_iff.mp h1).1
  have hc : H[t]? = some cell := (hS.2.1 t hlt h7).trans h1
  have hi : ¬ i < 0 ∧ i.toNatClampNeg < N := ⟨fun z => hin (Or.inl z), Nat.lt_of_not_le fun z => hin (Or.inr z)⟩
  exact W.bald hx hb hc h2 h3 (fun z => by rcases z with z | z; exact hi.1 z; exact absurd (Nat.lt_of_lt_of_le hi.2 h4) (Nat.not_lt.mpr z)) (h6 _ hi.2) rfl rfl hdg kk
theorem w_tlen {cc : ByteArray} (hx : p.tables.exec = Jvm.exec) (hb : c.code = cc) {H : Heap} {locs : List Loc} {cells slots : Nat} {ty : FieldType} {t N : Nat} {f : Nat → Value} (hT : va_T ty t N f A s s.heap) (hS : va_S A s.heap H locs) {la : Array Slot} {rest : List Value} (hdg : decode cc pc = .ok (.arraylength, 1))
    (kk : W p l e R s m args below meth c H locs cells slots Q (F0 m (pc + 1) la (.int (Int32.ofNat N) :: rest))) : W p l e R s m args below meth c H locs cells slots Q (F0 m pc la (.ref t :: rest)) := by
  obtain ⟨cell, h1, h2, h3, h4, h5, h6, h7⟩ := hT
  have hlt : t < s.heap.size := (Array.getElem?_eq_some_iff.mp h1).1
  have hc : H[t]? = some cell := (hS.2.1 t hlt h7).trans h1
  exact W.alen hx hb hc h2 h5 rfl rfl hdg kk
theorem fs_at {σ : Nat → Nat} {M : aMem} {o ci k : Nat} (hk : k < nfC ci) : ((List.range (nfC ci)).map fun k => if isRf ci k = true then va_rf ((M.2.2 o k).map σ) else Value.int (M.1 o k))[k]? = some (if isRf ci k = true then va_rf ((M.2.2 o k).map σ) else Value.int (M.1 o k)) := by
  simp [hk]
theorem shp_all : ∀ a, a < 402 → (((shp a).1 = 4 → 100 ≤ a ∧ a < 114) ∧ ((shp a).1 = 5 → 200 ≤ a ∧ a < 214 ∧ (shp a).2 = strLen.getD (a - 200) 0) ∧ ((shp a).1 = 6 → 300 ≤ a ∧ a ≤ 304 ∧ (shp a).2 = (sarL a).length) ∧ ((shp a).1 = 7 → a = 400)) := by decide +kernel
theorem shp_lt {a : Nat} {k z : Nat} (h : shp a = (k, z)) (hk : k ≠ 9) : a < 402 := by
  rcases Nat.lt_or_ge a 402 with q | q
  · exact q
  · rw [shp_big (by omega)] at h
    exact absurd (congrArg Prod.fst h).symm hk
theorem str_o {a z : Nat} (h : shp a = (4, z)) : ∃ i, a = 100 + i ∧ i < strN := by
  have h1 := (shp_all a (shp_lt h (by decide))).1 (by rw [h])
  exact ⟨a - 100, by omega, by show _ < 14; omega⟩
theorem str_b {a z : Nat} (h : shp a = (5, z)) : ∃ i, a = 200 + i ∧ i < strN ∧ z = strLen.getD i 0 := by
  have h1 := (shp_all a (shp_lt h (by decide))).2.1 (by rw [h])
  rw [h] at h1
  exact ⟨a - 200, by omega, by show _ < 14; omega, h1.2.2⟩
theorem sar_o {a z : Nat} (h : shp a = (6, z)) : 300 ≤ a ∧ a ≤ 304 ∧ z = (sarL a).length := by
  have h1 := (shp_all a (shp_lt h (by decide))).2.2.1 (by rw [h])
  rw [h] at h1
  exact h1
theorem scr_o {a z : Nat} (h : shp a = (7, z)) : a = 400 := (shp_all a (shp_lt h (by decide))).2.2.2 (by rw [h])
theorem so_getfield {v : Nat} (C : aCx mt lv p l e R s m args below meth c A D σ0 n0 Q Fz) (hd : decode mt.2.1 pc = .ok (.getfield v, nx - pc)) (hln : lenI (.getfield v) = 0 ∨ nx = pc + lenI (.getfield v)) (hpc : pc < aRET) (hnx : nx < aRET) (htg : tg < aRET) (hv : lkW mt.1.cls v q) (h : sI mt (.getfield v, nx, tg, q) pc ls st n M K) (hK : ∀ d, K d → aWA mt p l e R s m args below meth c A D σ0 n0 Q Fz d) : aWA mt p l e R s m args below meth c A D σ0 n0 Q Fz (pc, ls, st, n, M) := by
  obtain ⟨rfl, hdg⟩ := ln_1 (k := 3) hd hln rfl (by decide)
  simp only [sI] at h
  obtain ⟨q1, q2, q3, q4⟩ := q
  dsimp only at h hv
  split at h
  · next o st =>
    split at h
    · split at h
      · next ci hsh =>
        split at h
        · next hc =>
          simp only [Bool.and_eq_true, Nat.blt_eq] at hc
          obtain ⟨hbe, hlt⟩ := hc
          obtain rfl := Nat.eq_of_beq_eq_true hbe
          split at h
          · next hr =>
            refine so_look hpc hnx (hK _ h) (fun σ τ la H locs cells slots hl hF k => ?_)
            have he := wd_at (σ := σ) (τ := τ) (M := M) hlt
            rw [ce_obj hsh] at he
            refine va_get (cx_x C) (cx_b C) (ref := (tbC ci q3).1) C.2.1 (us_in hv.1) (cx_own C) C.2.2.1 hF.2.2.2.1 o he (vw_at hv.1) q3 hv.2.1 (cx_ts C hv.2.2) (fun _ z => z) (fs_at hv.2.1) hdg ?_
            rw [if_pos hr]
            simp only [List.map_cons, cv_rf] at k
            exact k
          · next hr =>
            refine so_look hpc hnx (hK _ h) (fun σ τ la H locs cells slots hl hF k => ?_)
            have he := wd_at (σ := σ) (τ := τ) (M := M) hlt
            rw [ce_obj hsh] at he
            refine va_get (cx_x C) (cx_b C) (ref := (tbC ci q3).1) C.2.1 (us_in hv.1) (cx_own C) C.2.2.1 hF.2.2.2.1 o he (vw_at hv.1) q3 hv.2.1 (cx_ts C hv.2.2) (fun _ z => z) (fs_at hv.2.1) hdg ?_
            rw [if_neg (by rw [hr]; exact Bool.false_ne_true)]
            exact k
        · exact h.elim
      · exact h.elim
    · split at h
      · next hsh =>
        obtain ⟨i, rfl, hi⟩ := str_o hsh
        refine so_look hpc hnx (hK _ h) (fun σ τ la H locs cells slots hl hF k => ?_)
        have h1 := (C.2.2.2.1.2.1.1 i hi).2.2.1
        dsimp only at h1
        rw [← hF.1 (100 + i) (Or.inr (by omega)), ← hF.1 (200 + i) (Or.inr (by omega))] at h1
        rw [show 100 + i + 100 = 200 + i by omega] at k
        exact vk_getf (cx_x C) (cx_b C) h1 hF.2.2.2.2.2 (cx_own C) (cx_ts C hv) (fun _ z => z) hdg k
      · exact h.elim
    · split at h
      · next hsh =>
        obtain ⟨i, rfl, hi⟩ := str_o hsh
        refine so_look hpc hnx (hK _ h) (fun σ τ la H locs cells slots hl hF k => ?_)
        have h1 := (C.2.2.2.1.2.1.1 i hi).2.1
        dsimp only at h1
        rw [← hF.1 (100 + i) (Or.inr (by omega))] at h1
        exact vk_getf (cx_x C) (cx_b C) h1 hF.2.2.2.2.2 (cx_own C) (cx_ts C hv) (fun _ z => z) hdg k
      · exact h.elim
    · exact h.elim
  · exact h.elim
theorem rf_all : ∀ ci, ci < 7 → ∀ k, k < nfC ci → isRf ci k = true → (tyC ci k = .int → False) ∧ (match tyC ci k with | .object _ => true | .array _ => true | _ => false) = true := by decide +kernel
theorem rf_fit {ci k : Nat} (h : ci < 7) (hk : k < nfC ci) (hr : isRf ci k = true) {a : Nat} : narrow (tyC ci k) (.ref a) = .ref a ∧ fits (tyC ci k) (.ref a) = true := by
  have h1 := (rf_all ci h k hk hr).2
  split at h1
  · next z => rw [z]; exact ⟨rfl, rfl⟩
  · next z => rw [z]; exact ⟨rfl, rfl⟩
  · cases h1
theorem so_putfield {v : Nat} (C : aCx mt lv p l e R s m args below meth c A D σ0 n0 Q Fz) (hd : decode mt.2.1 pc = .ok (.putfield v, nx - pc)) (hln : lenI (.putfield v) = 0 ∨ nx = pc + lenI (.putfield v)) (hpc : pc < aRET) (hnx : nx < aRET) (htg : tg < aRET) (hv : lkW mt.1.cls v q) (h : sI mt (.putfield v, nx, tg, q) pc ls st n M K) (hK : ∀ d, K d → aWA mt p l e R s m args below meth c A D σ0 n0 Q Fz d) : aWA mt p l e R s m args below meth c A D σ0 n0 Q Fz (pc, ls, st, n, M) := by
  obtain ⟨rfl, hdg⟩ := ln_1 (k := 3) hd hln rfl (by decide)
  simp only [sI] at h
  obtain ⟨q1, q2, q3, q4⟩ := q
  dsimp only at h hv
  split at h
  · next x o st =>
    split at h
    · split at h
      · next ci hsh =>
        split at h
        · next hc =>
          simp only [Bool.and_eq_true, Nat.blt_eq, Bool.not_eq_true'] at hc
          obtain ⟨⟨⟨hbe, hlt⟩, hr⟩, hfin⟩ := hc
          obtain rfl := Nat.eq_of_beq_eq_true hbe
          refine so_mem hpc hnx rl_id (hK _ h.2) (fun σ τ la H locs cells slots hl hF k => ?_)
          have he := wd_at (σ := σ) (τ := τ) (M := M) hlt
          rw [ce_obj hsh] at he
          have hty : tyC ci q3 = .int ∨ tyC ci q3 = .boolean := by
            simp only [isRf] at hr
            split at hr
            · next z => exact Or.inl z
            · next z => exact Or.inr z
            · cases hr
          have hnar : narrow (tyC ci q3) (.int x) = .int x ∧ fits (tyC ci q3) (.int x) = true := by
            rcases hty with z | z
            · rw [z]; exact ⟨rfl, rfl⟩
            · rw [z]
              rcases h.1 (by simp only [isBl, z]) with y | y
              · rw [y]; exact ⟨rfl, rfl⟩
              · rw [y]; exact ⟨rfl, rfl⟩
          refine va_put (cx_x C) (cx_b C) (ref := (tbC ci q3).1) C.2.1 (us_in hv.1) (tyC ci) (tyC_ok hv.1) (nmC_ok hv.1) (cx_own C) C.2.2.1 hF.2.2.2.1 hF.2.2.2.2.1 hF.2.2.2.2.2 o he (vw_at hv.1) q3 hv.2.1 (cx_ts C hv.2.2) (fun _ z => z) hfin (tyC_ok hv.1 q3 hv.2.1) hnar.1 hnar.2 (by simpa using hv.2.1) hdg (fun H1 locs1 g1 g2 g3 => ?_)
          have e1 : (wd σ τ n M).set o (σ o, .inr (ci, ((List.range (nfC ci)).map fun k => if isRf ci k = true then va_rf ((M.2.2 o k).map σ) else Value.int (M.1 o k)).set q3 (.int x))) = wd σ τ n (up2 M.1 o q3 x, M.2) := by
            refine wd_set hlt ?_ (fun b hb => ce_ext (up2_row hb) rfl rfl)
            rw [ce_obj hsh]
            congr 2
            apply List.ext_getElem?
            intro j
            rw [List.getElem?_set]
            by_cases hj : j < nfC ci
            · by_cases hj2 : q3 = j
              · subst hj2
                simp [hj, hr, up2]
              · simp [hj, hj2, up2, Ne.symm hj2]
            · have : ¬ q3 = j := fun z => hj (z ▸ hv.2.1)
              simp [hj, this]
          exact k H1 locs1 (by rw [← e1]; exact g1) (by rw [← e1]; exact g2) g3
        · exact h.elim
      · exact h.elim
    · exact h.elim
  · next x o st =>
    split at h
    · split at h
      · next ci hsh =>
        split at h
        · next hc =>
          simp only [Bool.and_eq_true, Nat.blt_eq] at hc
          obtain ⟨⟨⟨⟨hbe, hlt⟩, hr⟩, hfin⟩, hlx⟩ := hc
          obtain rfl := Nat.eq_of_beq_eq_true hbe
          refine so_mem hpc hnx (rl_up hlx) (hK _ h.2) (fun σ τ la H locs cells slots hl hF k => ?_)
          have he := wd_at (σ := σ) (τ := τ) (M := M) hlt
          rw [ce_obj hsh] at he
          have hnar : narrow (tyC ci q3) (.ref (σ x)) = .ref (σ x) ∧ fits (tyC ci q3) (.ref (σ x)) = true := rf_fit hv.1 hv.2.1 hr
          refine va_putF (cx_x C) (cx_b C) (ref := (tbC ci q3).1) C.2.1 (us_in hv.1) (tyC ci) (tyC_ok hv.1) (nmC_ok hv.1) (cx_own C) C.2.2.1 hF.2.2.2.1 hF.2.2.2.2.1 hF.2.2.2.2.2 o he (vw_at hv.1) q3 hv.2.1 (cx_ts C hv.2.2) (fun _ z => z) hfin (C.1.2.2.2.1.trans h.1.1) h.1.2 (tyC_ok hv.1 q3 hv.2.1) hnar.1 hnar.2 (by simpa using hv.2.1) hdg (fun H1 locs1 g1 g2 g3 => ?_)
          have e1 : (wd σ τ n M).set o (σ o, .inr (ci, ((List.range (nfC ci)).map fun k => if isRf ci k = true then va_rf ((M.2.2 o k).map σ) else Value.int (M.1 o k)).set q3 (.ref (σ x)))) = wd σ τ n (M.1, M.2.1, up2 M.2.2 o q3 (some x)) := by
            refine wd_set hlt ?_ (fun b hb => ce_ext rfl rfl (up2_row hb))
            rw [ce_obj hsh]
            congr 2
            apply List.ext_getElem?
            intro j
            rw [List.getElem?_set]
            by_cases hj : j < nfC ci
            · by_cases hj2 : q3 = j
              · subst hj2
                simp [hj, hr, up2, va_rf]
              · simp [hj, hj2, up2, Ne.symm hj2]
            · have : ¬ q3 = j := fun z => hj (z ▸ hv.2.1)
              simp [hj, this]
          exact k H1 locs1 (by rw [← e1]; exact g1) (by rw [← e1]; exact g2) g3
        · exact h.elim
      · exact h.elim
    · exact h.elim
  · exact h.elim
theorem so_iaload (C : aCx mt lv p l e R s m args below meth c A D σ0 n0 Q Fz) (hd : decode mt.2.1 pc = .ok (.iaload, nx - pc)) (hln : lenI (.iaload) = 0 ∨ nx = pc + lenI (.iaload)) (hpc : pc < aRET) (hnx : nx < aRET) (htg : tg < aRET) (h : sI mt (.iaload, nx, tg, q) pc ls st n M K) (hK : ∀ d, K d → aWA mt p l e R s m args below meth c A D σ0 n0 Q Fz d) : aWA mt p l e R s m args below meth c A D σ0 n0 Q Fz (pc, ls, st, n, M) := by
  obtain ⟨rfl, hdg⟩ := ln_1 (k := 1) hd hln rfl (by decide)
  simp only [sI] at h
  split at h
  · next i o st =>
    split at h
    · next z hsh =>
      split at h
      · next hlt =>
        rw [Nat.blt_eq] at hlt
        refine so_look hpc hnx (hK _ h.2) (fun σ τ la H locs cells slots hl hF k => ?_)
        have he := wd_at (σ := σ) (τ := τ) (M := M) hlt
        rw [ce_int hsh] at he
        exact va_iald (cx_x C) (cx_b C) (cx_K1 C hF hlt (by rw [hsh]; rfl)) hF.2.2.2.1 o 0 he rfl h.1 hdg k
      · exact h.elim
    · next z hsh =>
      obtain ⟨h1, h2, rfl⟩ := sar_o hsh
      refine so_look hpc hnx (hK _ h.2) (fun σ τ la H locs cells slots hl hF k => ?_)
      have hT := (C.2.2.2.1.1 o h1 h2).2
      rw [← hF.1 o (Or.inr (by omega))] at hT
      exact w_tld (cx_x C) (cx_b C) hT hF.2.2.2.2.2 h.1 hdg k
    · next z hsh =>
      obtain rfl := scr_o hsh
      refine so_look hpc hnx (hK _ h.2) (fun σ τ la H locs cells slots hl hF k => ?_)
      rcases C.2.2.2.2.2.2.2.1 with z | ⟨z1, z2, z3⟩
      · exact absurd h.1 (by rw [z]; exact fun y => y (Or.inr (Nat.zero_le _)))
      · rw [← hF.1 400 (Or.inr (by omega))] at z1 z2 z3
        exact va_sld (cx_x C) (cx_b C) z1 z2 z3 hF.2.2.2.2.2 h.1 hdg k
    · exact h.elim
  · exact h.elim
theorem so_baload (C : aCx mt lv p l e R s m args below meth c A D σ0 n0 Q Fz) (hd : decode mt.2.1 pc = .ok (.baload, nx - pc)) (hln : lenI (.baload) = 0 ∨ nx = pc + lenI (.baload)) (hpc : pc < aRET) (hnx : nx < aRET) (htg : tg < aRET) (h : sI mt (.baload, nx, tg, q) pc ls st n M K) (hK : ∀ d, K d → aWA mt p l e R s m args below meth c A D σ0 n0 Q Fz d) : aWA mt p l e R s m args below meth c A D σ0 n0 Q Fz (pc, ls, st, n, M) := by
  obtain ⟨rfl, hdg⟩ := ln_1 (k := 1) hd hln rfl (by decide)
  simp only [sI] at h
  split at h
  · next i o st =>
    split at h
    · next z hsh =>
      obtain ⟨j, rfl, hj, rfl⟩ := str_b hsh
      refine so_look hpc hnx (hK _ h.2) (fun σ τ la H locs cells slots hl hF k => ?_)
      have hT := (C.2.2.2.1.2.1.1 j hj).2.2.2
      dsimp only at hT
      rw [← hF.1 (200 + j) (Or.inr (by omega))] at hT
      rw [show 200 + j - 200 = j by omega] at k
      exact w_tlb (cx_x C) (cx_b C) hT hF.2.2.2.2.2 h.1 hdg k
    · exact h.elim
  · exact h.elim
theorem so_laload (C : aCx mt lv p l e R s m args below meth c A D σ0 n0 Q Fz) (hd : decode mt.2.1 pc = .ok (.laload, nx - pc)) (hln : lenI (.laload) = 0 ∨ nx = pc + lenI (.laload)) (hpc : pc < aRET) (hnx : nx < aRET) (htg : tg < aRET) (h : sI mt (.laload, nx, tg, q) pc ls st n M K) (hK : ∀ d, K d → aWA mt p l e R s m args below meth c A D σ0 n0 Q Fz d) : aWA mt p l e R s m args below meth c A D σ0 n0 Q Fz (pc, ls, st, n, M) := by
  obtain ⟨rfl, hdg⟩ := ln_1 (k := 1) hd hln rfl (by decide)
  simp only [sI] at h
  split at h
  · next i o st =>
    split at h
    · next z hsh =>
      split at h
      · next hlt =>
        rw [Nat.blt_eq] at hlt
        refine so_look hpc hnx (hK _ h.2) (fun σ τ la H locs cells slots hl hF k => ?_)
        have he := wd_at (σ := σ) (τ := τ) (M := M) hlt
        rw [ce_long hsh] at he
        exact va_lald (cx_x C) (cx_b C) (cx_K1 C hF hlt (by rw [hsh]; rfl)) hF.2.2.2.1 o 0 he rfl h.1 hdg k
      · exact h.elim
    · exact h.elim
  · exact h.elim
theorem so_aaload (C : aCx mt lv p l e R s m args below meth c A D σ0 n0 Q Fz) (hd : decode mt.2.1 pc = .ok (.aaload, nx - pc)) (hln : lenI (.aaload) = 0 ∨ nx = pc + lenI (.aaload)) (hpc : pc < aRET) (hnx : nx < aRET) (htg : tg < aRET) (h : sI mt (.aaload, nx, tg, q) pc ls st n M K) (hK : ∀ d, K d → aWA mt p l e R s m args below meth c A D σ0 n0 Q Fz d) : aWA mt p l e R s m args below meth c A D σ0 n0 Q Fz (pc, ls, st, n, M) := by
  obtain ⟨rfl, hdg⟩ := ln_1 (k := 1) hd hln rfl (by decide)
  simp only [sI] at h
  split at h
  · next i o st =>
    split at h
    · next z hsh =>
      split at h
      · next hlt =>
        rw [Nat.blt_eq] at hlt
        refine so_look hpc hnx (hK _ h.2) (fun σ τ la H locs cells slots hl hF k => ?_)
        have he := wd_at (σ := σ) (τ := τ) (M := M) hlt
        rw [ce_ref hsh] at he
        simp only [List.map_cons, cv_rf] at k
        exact va_aldq (cx_x C) (cx_b C) (cx_K1 C hF hlt (by rw [hsh]; rfl)) hF.2.2.2.1 o 0 he rfl h.1 hdg k
      · exact h.elim
    · exact h.elim
  · exact h.elim
theorem so_iastore (C : aCx mt lv p l e R s m args below meth c A D σ0 n0 Q Fz) (hd : decode mt.2.1 pc = .ok (.iastore, nx - pc)) (hln : lenI (.iastore) = 0 ∨ nx = pc + lenI (.iastore)) (hpc : pc < aRET) (hnx : nx < aRET) (htg : tg < aRET) (h : sI mt (.iastore, nx, tg, q) pc ls st n M K) (hK : ∀ d, K d → aWA mt p l e R s m args below meth c A D σ0 n0 Q Fz d) : aWA mt p l e R s m args below meth c A D σ0 n0 Q Fz (pc, ls, st, n, M) := by
  obtain ⟨rfl, hdg⟩ := ln_1 (k := 1) hd hln rfl (by decide)
  simp only [sI] at h
  split at h
  · next x i o st =>
    split at h
    · next z hsh =>
      split at h
      · next hlt =>
        rw [Nat.blt_eq] at hlt
        refine so_mem hpc hnx rl_id (hK _ h.2) (fun σ τ la H locs cells slots hl hF k => ?_)
        have he := wd_at (σ := σ) (τ := τ) (M := M) hlt
        rw [ce_int hsh] at he
        refine va_iast (cx_x C) (cx_b C) (cx_K1 C hF hlt (by rw [hsh]; rfl)) hF.2.2.2.1 hF.2.2.2.2.1 hF.2.2.2.2.2 o 0 he rfl h.1 hdg (fun H1 locs1 g1 g2 g3 => ?_)
        have e1 := wd_set (σ := σ) (τ := τ) (M := M) (M' := (up2 M.1 o i.toNatClampNeg x, M.2)) hlt ((ce_int hsh).trans (congrArg (fun f => Sum.inl (τ o, z, Sum.inl f)) up2_self)) (fun b hb => ce_ext (up2_row hb) rfl rfl)
        exact k H1 locs1 (by rw [← e1]; exact g1) (by rw [← e1]; exact g2) g3
      · exact h.elim
    · exact h.elim
  · exact h.elim
theorem so_lastore (C : aCx mt lv p l e R s m args below meth c A D σ0 n0 Q Fz) (hd : decode mt.2.1 pc = .ok (.lastore, nx - pc)) (hln : lenI (.lastore) = 0 ∨ nx = pc + lenI (.lastore)) (hpc : pc < aRET) (hnx : nx < aRET) (htg : tg < aRET) (h : sI mt (.lastore, nx, tg, q) pc ls st n M K) (hK : ∀ d, K d → aWA mt p l e R s m args below meth c A D σ0 n0 Q Fz d) : aWA mt p l e R s m args below meth c A D σ0 n0 Q Fz (pc, ls, st, n, M) := by
  obtain ⟨rfl, hdg⟩ := ln_1 (k := 1) hd hln rfl (by decide)
  simp only [sI] at h
  split at h
  · next x i o st =>
    split at h
    · next z hsh =>
      split at h
      · next hlt =>
        rw [Nat.blt_eq] at hlt
        refine so_mem hpc hnx rl_id (hK _ h.2) (fun σ τ la H locs cells slots hl hF k => ?_)
        have he := wd_at (σ := σ) (τ := τ) (M := M) hlt
        rw [ce_long hsh] at he
        refine va_last (cx_x C) (cx_b C) (cx_K1 C hF hlt (by rw [hsh]; rfl)) hF.2.2.2.1 hF.2.2.2.2.1 hF.2.2.2.2.2 o 0 he rfl h.1 hdg (fun H1 locs1 g1 g2 g3 => ?_)
        have e1 := wd_set (σ := σ) (τ := τ) (M := M) (M' := (M.1, up2 M.2.1 o i.toNatClampNeg x, M.2.2)) hlt ((ce_long hsh).trans (congrArg (fun f => Sum.inl (τ o, z, Sum.inr (Sum.inl f))) up2_selfL)) (fun b hb => ce_ext rfl (up2_row hb) rfl)
        exact k H1 locs1 (by rw [← e1]; exact g1) (by rw [← e1]; exact g2) g3
      · exact h.elim
    · exact h.elim
  · exact h.elim
theorem so_aastore (C : aCx mt lv p l e R s m args below meth c A D σ0 n0 Q Fz) (hd : decode mt.2.1 pc = .ok (.aastore, nx - pc)) (hln : lenI (.aastore) = 0 ∨ nx = pc + lenI (.aastore)) (hpc : pc < aRET) (hnx : nx < aRET) (htg : tg < aRET) (h : sI mt (.aastore, nx, tg, q) pc ls st n M K) (hK : ∀ d, K d → aWA mt p l e R s m args below meth c A D σ0 n0 Q Fz d) : aWA mt p l e R s m args below meth c A D σ0 n0 Q Fz (pc, ls, st, n, M) := by
  obtain ⟨rfl, hdg⟩ := ln_1 (k := 1) hd hln rfl (by decide)
  simp only [sI] at h
  split at h
  · next x i o st =>
    split at h
    · next z hsh =>
      split at h
      · next hlt =>
        simp only [Bool.and_eq_true, Nat.blt_eq] at hlt
        obtain ⟨⟨hlt, hlx⟩, hxs⟩ := hlt
        have hx2 : shp x = (0, 2) := by
          split at hxs
          · next y => exact y
          · cases hxs
        refine so_mem hpc hnx (rl_up hlx) (hK _ h.2) (fun σ τ la H locs cells slots hl hF k => ?_)
        have he := wd_at (σ := σ) (τ := τ) (M := M) hlt
        rw [ce_ref hsh] at he
        have hex := wd_at (σ := σ) (τ := τ) (M := M) hlx
        rw [ce_obj hx2] at hex
        refine va_astq (cx_x C) (cx_b C) (cx_K1 C hF hlt (by rw [hsh]; rfl)) hF.2.2.2.1 hF.2.2.2.2.1 hF.2.2.2.2.2 o 0 x 2 he rfl hex (vw_at (by decide)) h.1 hdg (fun H1 locs1 g1 g2 g3 => ?_)
        have e0 : (fun j => (up2 M.2.2 o i.toNatClampNeg (some x) o j).map σ) = va_up (fun j => (M.2.2 o j).map σ) i.toNatClampNeg (some (σ x)) := by
          funext j
          by_cases hj : j = i.toNatClampNeg
          · subst hj; simp [up2, va_up]
          · simp [up2, va_up, hj]
        have e1 := wd_set (σ := σ) (τ := τ) (M := M) (M' := (M.1, M.2.1, up2 M.2.2 o i.toNatClampNeg (some x))) hlt ((ce_ref hsh).trans (by rw [e0])) (fun b hb => ce_ext rfl rfl (up2_row hb))
        exact k H1 locs1 (by rw [← e1]; exact g1) (by rw [← e1]; exact g2) g3
      · exact h.elim
    · exact h.elim
  · exact h.elim
theorem so_arraylength (C : aCx mt lv p l e R s m args below meth c A D σ0 n0 Q Fz) (hd : decode mt.2.1 pc = .ok (.arraylength, nx - pc)) (hln : lenI (.arraylength) = 0 ∨ nx = pc + lenI (.arraylength)) (hpc : pc < aRET) (hnx : nx < aRET) (htg : tg < aRET) (h : sI mt (.arraylength, nx, tg, q) pc ls st n M K) (hK : ∀ d, K d → aWA mt p l e R s m args below meth c A D σ0 n0 Q Fz d) : aWA mt p l e R s m args below meth c A D σ0 n0 Q Fz (pc, ls, st, n, M) := by
  obtain ⟨rfl, hdg⟩ := ln_1 (k := 1) hd hln rfl (by decide)
  simp only [sI] at h
  split at h
  · next o st =>
    split at h
    · next z hsh =>
      split at h
      · next hlt =>
        rw [Nat.blt_eq] at hlt
        refine so_look hpc hnx (hK _ h) (fun σ τ la H locs cells slots hl hF k => ?_)
        have he := wd_at (σ := σ) (τ := τ) (M := M) hlt
        rw [ce_int hsh] at he
        exact va_alen (cx_x C) (cx_b C) (cx_K1 C hF hlt (by rw [hsh]; rfl)) hF.2.2.2.1 o 0 he rfl rfl hdg k
      · exact h.elim
    · next z hsh =>
      obtain ⟨j, rfl, hj, rfl⟩ := str_b hsh
      refine so_look hpc hnx (hK _ h) (fun σ τ la H locs cells slots hl hF k => ?_)
      have hT := (C.2.2.2.1.2.1.1 j hj).2.2.2
      dsimp only at hT
      rw [← hF.1 (200 + j) (Or.inr (by omega))] at hT
      exact w_tlen (cx_x C) (cx_b C) hT hF.2.2.2.2.2 hdg k
    · next z hsh =>
      obtain rfl := scr_o hsh
      split at h
      · next L hL =>
        refine so_look hpc hnx (hK _ h) (fun σ τ la H locs cells slots hl hF k => ?_)
        rcases C.2.2.2.2.2.2.2.1 with z | ⟨z1, z2, z3⟩
        · rw [hL] at z; cases z
        · rw [← hF.1 400 (Or.inr (by omega))] at z1 z2 z3
          rw [hL] at z1
          exact va_slen (cx_x C) (cx_b C) z1 z2 z3 hF.2.2.2.2.2 hdg k
      · exact h.elim
    · exact h.elim
  · exact h.elim
end SO4
