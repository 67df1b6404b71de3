/-! ===== the abstract machine is right: instructions without memory ===== -/
section SO
variable {mt : aM} {lv : Nat} {p : Program} {l : Launch} {e : Env} {R : Room} {s : State} {m : MethodId} {args : Array Value} {below : List Frame} {meth : Method} {c : Code} {A : Nat → Prop} {D : va_G} {σ0 : Nat → Nat} {n0 : Nat} {Q : State → Prop} {Fz : List Value → Nat → aMem → Prop}
theorem so_pure {pc nx : Nat} {ls : List (Option Value)} {st st' : List Value} {n : Nat} {M : aMem} (hpc : pc < aRET) (hnx : nx < aRET)
    (h : aWA mt p l e R s m args below meth c A D σ0 n0 Q Fz (nx, ls, st', n, M))
    (step : ∀ (σ : Nat → Nat) (la : Array Slot) (H : Heap) (locs : List Loc) (cells slots : Nat), lv_has la mt.2.2.1 (ascF σ 0 ls) → va_S A s.heap H locs → aOk σ0 n0 σ → W p l e R s m args below meth c H locs cells slots Q (F0 m nx la (st'.map (cv σ))) → W p l e R s m args below meth c H locs cells slots Q (F0 m pc la (st.map (cv σ)))) : aWA mt p l e R s m args below meth c A D σ0 n0 Q Fz (pc, ls, st, n, M) :=
  ⟨fun hr => absurd hr (Nat.ne_of_lt hpc), fun _ σ τ H locs la hF hlen hl => step σ la H locs _ _ hl hF.2.2.2.2.2 hF.1 (h.2 (Nat.ne_of_lt hnx) σ τ H locs la hF hlen hl)⟩
theorem so_br {P : Prop} {pc nx tg : Nat} {ls : List (Option Value)} {st st' : List Value} {n : Nat} {M : aMem} (hpc : pc < aRET) (hnx : nx < aRET) (htg : tg < aRET)
    (h1 : P → aWA mt p l e R s m args below meth c A D σ0 n0 Q Fz (tg, ls, st', n, M)) (h2 : ¬ P → aWA mt p l e R s m args below meth c A D σ0 n0 Q Fz (nx, ls, st', n, M))
    (step : ∀ (σ : Nat → Nat) (la : Array Slot) (H : Heap) (locs : List Loc) (cells slots : Nat), (P → W p l e R s m args below meth c H locs cells slots Q (F0 m tg la (st'.map (cv σ)))) → (¬ P → W p l e R s m args below meth c H locs cells slots Q (F0 m nx la (st'.map (cv σ)))) → W p l e R s m args below meth c H locs cells slots Q (F0 m pc la (st.map (cv σ)))) : aWA mt p l e R s m args below meth c A D σ0 n0 Q Fz (pc, ls, st, n, M) :=
  ⟨fun hr => absurd hr (Nat.ne_of_lt hpc), fun _ σ τ H locs la hF hlen hl => step σ la H locs _ _ (fun q => (h1 q).2 (Nat.ne_of_lt htg) σ τ H locs la hF hlen hl) (fun q => (h2 q).2 (Nat.ne_of_lt hnx) σ τ H locs la hF hlen hl)⟩
theorem so_loc {pc nx : Nat} {ls ls' : List (Option Value)} {st st' : List Value} {n : Nat} {M : aMem} (hpc : pc < aRET) (hnx : nx < aRET) (hlen' : ls.length = mt.2.2.1 → ls'.length = mt.2.2.1)
    (h : aWA mt p l e R s m args below meth c A D σ0 n0 Q Fz (nx, ls', st', n, M))
    (step : ∀ (σ : Nat → Nat) (la : Array Slot) (H : Heap) (locs : List Loc) (cells slots : Nat), ls.length = mt.2.2.1 → lv_has la mt.2.2.1 (ascF σ 0 ls) → (∀ lb : Array Slot, lv_has lb mt.2.2.1 (ascF σ 0 ls') → W p l e R s m args below meth c H locs cells slots Q (F0 m nx lb (st'.map (cv σ)))) → W p l e R s m args below meth c H locs cells slots Q (F0 m pc la (st.map (cv σ)))) : aWA mt p l e R s m args below meth c A D σ0 n0 Q Fz (pc, ls, st, n, M) :=
  ⟨fun hr => absurd hr (Nat.ne_of_lt hpc), fun _ σ τ H locs la hF hlen hl => step σ la H locs _ _ hlen hl (fun lb hb => h.2 (Nat.ne_of_lt hnx) σ τ H locs lb hF (hlen' hlen) hb)⟩
/-- a change of memory -/
theorem so_mem {pc nx : Nat} {ls : List (Option Value)} {st st' : List Value} {n : Nat} {M M' : aMem} (hpc : pc < aRET) (hnx : nx < aRET) (hrl : aRL n M → aRL n M')
    (h : aWA mt p l e R s m args below meth c A D σ0 n0 Q Fz (nx, ls, st', n, M'))
    (step : ∀ (σ τ : Nat → Nat) (la : Array Slot) (H : Heap) (locs : List Loc) (cells slots : Nat), lv_has la mt.2.2.1 (ascF σ 0 ls) → aFa A D σ0 n0 mt.2.2.2.2.1.2.2 s σ τ n M H locs → (∀ (H1 : Heap) (locs1 : List Loc), va_P D vwCl (wd σ τ n M') H1 → va_D A (wd σ τ n M') → va_S A s.heap H1 locs1 → W p l e R s m args below meth c H1 locs1 cells slots Q (F0 m nx la (st'.map (cv σ)))) → W p l e R s m args below meth c H locs cells slots Q (F0 m pc la (st.map (cv σ)))) : aWA mt p l e R s m args below meth c A D σ0 n0 Q Fz (pc, ls, st, n, M) :=
  ⟨fun hr => absurd hr (Nat.ne_of_lt hpc), fun _ σ τ H locs la hF hlen hl => step σ τ la H locs _ _ hl hF (fun H1 locs1 g1 g2 g3 => h.2 (Nat.ne_of_lt hnx) σ τ H1 locs1 la ⟨hF.1, ⟨hF.2.1.1, hF.2.1.2.1, hrl hF.2.1.2.2⟩, hF.2.2.1, g1, g2, g3⟩ hlen hl)⟩
/-- a look at memory -/
theorem so_look {pc nx : Nat} {ls : List (Option Value)} {st st' : List Value} {n : Nat} {M : aMem} (hpc : pc < aRET) (hnx : nx < aRET)
    (h : aWA mt p l e R s m args below meth c A D σ0 n0 Q Fz (nx, ls, st', n, M))
    (step : ∀ (σ τ : Nat → Nat) (la : Array Slot) (H : Heap) (locs : List Loc) (cells slots : Nat), lv_has la mt.2.2.1 (ascF σ 0 ls) → aFa A D σ0 n0 mt.2.2.2.2.1.2.2 s σ τ n M H locs → W p l e R s m args below meth c H locs cells slots Q (F0 m nx la (st'.map (cv σ))) → W p l e R s m args below meth c H locs cells slots Q (F0 m pc la (st.map (cv σ)))) : aWA mt p l e R s m args below meth c A D σ0 n0 Q Fz (pc, ls, st, n, M) :=
  ⟨fun hr => absurd hr (Nat.ne_of_lt hpc), fun _ σ τ H locs la hF hlen hl => step σ τ la H locs _ _ hl hF (h.2 (Nat.ne_of_lt hnx) σ τ H locs la hF hlen hl)⟩
theorem sw_sound {x : Int32} {pc : Nat} {kd : Prop} {K : Nat → Prop} : ∀ (t : List Int) (v : Int32), swK x pc kd K t v → (v.toInt + t.length ≤ 2147483647) →
    (∃ (j : Nat) (o : Int), t[j]? = some o ∧ x.toInt = v.toInt + j ∧ K ((pc : Int) + o).toNat) ∨ (¬ (v.toInt ≤ x.toInt ∧ x.toInt < v.toInt + t.length) ∧ kd) := by
  intro t
  induction t with
  | nil => intro v h _; right; exact ⟨fun z => by simp at z; omega, h⟩
  | cons o t ih =>
    intro v h hb
    simp only [List.length_cons] at hb
    have hv1 : (v + 1).toInt = v.toInt + 1 := by
      rw [Int32.toInt_add]
      have h1 : (1 : Int32).toInt = 1 := by decide
      rw [h1]
      have := Int32.le_toInt v
      rw [Int.bmod_def]
      have hlo := Int32.le_toInt v
      omega
    by_cases hx : x = v
    · left
      exact ⟨0, o, rfl, by rw [hx]; simp, h.1 hx⟩
    · rcases ih (v + 1) (h.2 hx) (by rw [hv1]; push_cast at hb ⊢; omega) with ⟨j, o', h1, h2, h3⟩ | ⟨h1, h2⟩
      · left
        exact ⟨j + 1, o', by simpa using h1, by rw [h2, hv1]; push_cast; omega, h3⟩
      · right
        refine ⟨fun z => h1 ⟨?_, ?_⟩, h2⟩
        · rw [hv1]
          have hne : x.toInt ≠ v.toInt := fun q => hx (Int32.toInt_inj.mp q)
          omega
        · rw [hv1]
          have := z.2
          simp only [List.length_cons] at this
          push_cast at this
          omega
end SO
