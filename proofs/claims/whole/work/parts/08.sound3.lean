/-! ===== the step function is right: instructions that look at no cell; printed by wip/whole/mk08.py ===== -/
section SO3
variable {mt : aM} {lv : Nat} {p : Program} {l : Launch} {e : Env} {R : Room} {s : State} {m : MethodId} {args : Array Value} {below : List Frame} {meth : Method} {c : Code} {A : Nat → Prop} {D : va_G} {σ0 : Nat → Nat} {n0 : Nat} {Q : State → Prop} {Fz : List Value → Nat → aMem → Prop} {pc nx tg : Nat} {q : aQ} {ls : List (Option Value)} {st : List Value} {n : Nat} {M : aMem} {K : aCfg → Prop}
theorem cx_x (C : aCx mt lv p l e R s m args below meth c A D σ0 n0 Q Fz) : p.tables.exec = Jvm.exec := C.1.1
theorem cx_b (C : aCx mt lv p l e R s m args below meth c A D σ0 n0 Q Fz) : c.code = mt.2.1 := C.1.2.1
theorem cx_own (C : aCx mt lv p l e R s m args below meth c A D σ0 n0 Q Fz) : s.vm.findClass mt.1.cls = some m.cls := C.1.2.2.2.2
theorem cx_ts (C : aCx mt lv p l e R s m args below meth c A D σ0 n0 Q Fz) {w : Cond} (h : w ∈ gw) : w.before args s = true := C.2.1 w h
theorem ln_1 {cc : ByteArray} {i : Instr} {k : Nat} (hd : decode cc pc = .ok (i, nx - pc)) (hl : lenI i = 0 ∨ nx = pc + lenI i) (hk : lenI i = k) (h0 : k ≠ 0) : nx = pc + k ∧ decode cc pc = .ok (i, k) := by
  rcases hl with h | h
  · exact absurd (hk.symm.trans h) h0
  · rw [hk] at h
    rw [h, Nat.add_sub_cancel_left] at hd
    exact ⟨h, hd⟩
theorem so_iconst {v : Int} (C : aCx mt lv p l e R s m args below meth c A D σ0 n0 Q Fz) (hd : decode mt.2.1 pc = .ok (.iconst v, nx - pc)) (hln : lenI (.iconst v) = 0 ∨ nx = pc + lenI (.iconst v)) (hpc : pc < aRET) (hnx : nx < aRET) (htg : tg < aRET) (hv : Int32.ofInt v = q.2.2.2) (h : sI mt (.iconst v, nx, tg, q) pc ls st n M K) (hK : ∀ d, K d → aWA mt p l e R s m args below meth c A D σ0 n0 Q Fz d) : aWA mt p l e R s m args below meth c A D σ0 n0 Q Fz (pc, ls, st, n, M) := by
  obtain ⟨rfl, hdg⟩ := ln_1 (k := 1) hd hln rfl (by decide)
  simp only [sI] at h
  exact so_pure hpc hnx (hK _ h) (fun σ la H locs cells slots hl hS hO k => lv_iconst (cx_x C) (cx_b C) hdg hv k)
theorem so_bipush {v : Int} (C : aCx mt lv p l e R s m args below meth c A D σ0 n0 Q Fz) (hd : decode mt.2.1 pc = .ok (.bipush v, nx - pc)) (hln : lenI (.bipush v) = 0 ∨ nx = pc + lenI (.bipush v)) (hpc : pc < aRET) (hnx : nx < aRET) (htg : tg < aRET) (hv : (Int8.ofInt v).toInt32 = q.2.2.2) (h : sI mt (.bipush v, nx, tg, q) pc ls st n M K) (hK : ∀ d, K d → aWA mt p l e R s m args below meth c A D σ0 n0 Q Fz d) : aWA mt p l e R s m args below meth c A D σ0 n0 Q Fz (pc, ls, st, n, M) := by
  obtain ⟨rfl, hdg⟩ := ln_1 (k := 2) hd hln rfl (by decide)
  simp only [sI] at h
  exact so_pure hpc hnx (hK _ h) (fun σ la H locs cells slots hl hS hO k => lv_bipush (cx_x C) (cx_b C) hdg hv k)
theorem so_sipush {v : Int} (C : aCx mt lv p l e R s m args below meth c A D σ0 n0 Q Fz) (hd : decode mt.2.1 pc = .ok (.sipush v, nx - pc)) (hln : lenI (.sipush v) = 0 ∨ nx = pc + lenI (.sipush v)) (hpc : pc < aRET) (hnx : nx < aRET) (htg : tg < aRET) (hv : (Int16.ofInt v).toInt32 = q.2.2.2) (h : sI mt (.sipush v, nx, tg, q) pc ls st n M K) (hK : ∀ d, K d → aWA mt p l e R s m args below meth c A D σ0 n0 Q Fz d) : aWA mt p l e R s m args below meth c A D σ0 n0 Q Fz (pc, ls, st, n, M) := by
  obtain ⟨rfl, hdg⟩ := ln_1 (k := 3) hd hln rfl (by decide)
  simp only [sI] at h
  exact so_pure hpc hnx (hK _ h) (fun σ la H locs cells slots hl hS hO k => lv_sipush (cx_x C) (cx_b C) hdg hv k)
theorem so_lconst {v : Fin 2} (C : aCx mt lv p l e R s m args below meth c A D σ0 n0 Q Fz) (hd : decode mt.2.1 pc = .ok (.lconst v, nx - pc)) (hln : lenI (.lconst v) = 0 ∨ nx = pc + lenI (.lconst v)) (hpc : pc < aRET) (hnx : nx < aRET) (htg : tg < aRET) (hv : (v : Nat) = q.2.1) (h : sI mt (.lconst v, nx, tg, q) pc ls st n M K) (hK : ∀ d, K d → aWA mt p l e R s m args below meth c A D σ0 n0 Q Fz d) : aWA mt p l e R s m args below meth c A D σ0 n0 Q Fz (pc, ls, st, n, M) := by
  obtain ⟨rfl, hdg⟩ := ln_1 (k := 1) hd hln rfl (by decide)
  simp only [sI] at h
  generalize q.2.1 = z at h hv
  match z, h, hv with
  | 0, h, hv => exact so_pure hpc hnx (hK _ h) (fun σ la H locs cells slots hl hS hO k => lv_lconst (cx_x C) (cx_b C) hdg (by rw [hv]; rfl) k)
  | z + 1, h, hv => exact so_pure hpc hnx (hK _ h) (fun σ la H locs cells slots hl hS hO k => lv_lconst (cx_x C) (cx_b C) hdg (by have hlt := v.isLt; rw [show (v : Nat) = 1 by omega]; rfl) k)
theorem so_iadd (C : aCx mt lv p l e R s m args below meth c A D σ0 n0 Q Fz) (hd : decode mt.2.1 pc = .ok (.iadd, nx - pc)) (hln : lenI (.iadd) = 0 ∨ nx = pc + lenI (.iadd)) (hpc : pc < aRET) (hnx : nx < aRET) (htg : tg < aRET) (h : sI mt (.iadd, nx, tg, q) pc ls st n M K) (hK : ∀ d, K d → aWA mt p l e R s m args below meth c A D σ0 n0 Q Fz d) : aWA mt p l e R s m args below meth c A D σ0 n0 Q Fz (pc, ls, st, n, M) := by
  obtain ⟨rfl, hdg⟩ := ln_1 (k := 1) hd hln rfl (by decide)
  simp only [sI] at h
  split at h
  · exact so_pure hpc hnx (hK _ h) (fun σ la H locs cells slots hl hS hO k => lv_iadd (cx_x C) (cx_b C) hdg k)
  · exact h.elim
theorem so_isub (C : aCx mt lv p l e R s m args below meth c A D σ0 n0 Q Fz) (hd : decode mt.2.1 pc = .ok (.isub, nx - pc)) (hln : lenI (.isub) = 0 ∨ nx = pc + lenI (.isub)) (hpc : pc < aRET) (hnx : nx < aRET) (htg : tg < aRET) (h : sI mt (.isub, nx, tg, q) pc ls st n M K) (hK : ∀ d, K d → aWA mt p l e R s m args below meth c A D σ0 n0 Q Fz d) : aWA mt p l e R s m args below meth c A D σ0 n0 Q Fz (pc, ls, st, n, M) := by
  obtain ⟨rfl, hdg⟩ := ln_1 (k := 1) hd hln rfl (by decide)
  simp only [sI] at h
  split at h
  · exact so_pure hpc hnx (hK _ h) (fun σ la H locs cells slots hl hS hO k => lv_isub (cx_x C) (cx_b C) hdg k)
  · exact h.elim
theorem so_imul (C : aCx mt lv p l e R s m args below meth c A D σ0 n0 Q Fz) (hd : decode mt.2.1 pc = .ok (.imul, nx - pc)) (hln : lenI (.imul) = 0 ∨ nx = pc + lenI (.imul)) (hpc : pc < aRET) (hnx : nx < aRET) (htg : tg < aRET) (h : sI mt (.imul, nx, tg, q) pc ls st n M K) (hK : ∀ d, K d → aWA mt p l e R s m args below meth c A D σ0 n0 Q Fz d) : aWA mt p l e R s m args below meth c A D σ0 n0 Q Fz (pc, ls, st, n, M) := by
  obtain ⟨rfl, hdg⟩ := ln_1 (k := 1) hd hln rfl (by decide)
  simp only [sI] at h
  split at h
  · exact so_pure hpc hnx (hK _ h) (fun σ la H locs cells slots hl hS hO k => lv_imul (cx_x C) (cx_b C) hdg k)
  · exact h.elim
theorem so_iand (C : aCx mt lv p l e R s m args below meth c A D σ0 n0 Q Fz) (hd : decode mt.2.1 pc = .ok (.iand, nx - pc)) (hln : lenI (.iand) = 0 ∨ nx = pc + lenI (.iand)) (hpc : pc < aRET) (hnx : nx < aRET) (htg : tg < aRET) (h : sI mt (.iand, nx, tg, q) pc ls st n M K) (hK : ∀ d, K d → aWA mt p l e R s m args below meth c A D σ0 n0 Q Fz d) : aWA mt p l e R s m args below meth c A D σ0 n0 Q Fz (pc, ls, st, n, M) := by
  obtain ⟨rfl, hdg⟩ := ln_1 (k := 1) hd hln rfl (by decide)
  simp only [sI] at h
  split at h
  · exact so_pure hpc hnx (hK _ h) (fun σ la H locs cells slots hl hS hO k => lv_iand (cx_x C) (cx_b C) hdg k)
  · exact h.elim
theorem so_ior (C : aCx mt lv p l e R s m args below meth c A D σ0 n0 Q Fz) (hd : decode mt.2.1 pc = .ok (.ior, nx - pc)) (hln : lenI (.ior) = 0 ∨ nx = pc + lenI (.ior)) (hpc : pc < aRET) (hnx : nx < aRET) (htg : tg < aRET) (h : sI mt (.ior, nx, tg, q) pc ls st n M K) (hK : ∀ d, K d → aWA mt p l e R s m args below meth c A D σ0 n0 Q Fz d) : aWA mt p l e R s m args below meth c A D σ0 n0 Q Fz (pc, ls, st, n, M) := by
  obtain ⟨rfl, hdg⟩ := ln_1 (k := 1) hd hln rfl (by decide)
  simp only [sI] at h
  split at h
  · exact so_pure hpc hnx (hK _ h) (fun σ la H locs cells slots hl hS hO k => lv_ior (cx_x C) (cx_b C) hdg k)
  · exact h.elim
theorem so_ixor (C : aCx mt lv p l e R s m args below meth c A D σ0 n0 Q Fz) (hd : decode mt.2.1 pc = .ok (.ixor, nx - pc)) (hln : lenI (.ixor) = 0 ∨ nx = pc + lenI (.ixor)) (hpc : pc < aRET) (hnx : nx < aRET) (htg : tg < aRET) (h : sI mt (.ixor, nx, tg, q) pc ls st n M K) (hK : ∀ d, K d → aWA mt p l e R s m args below meth c A D σ0 n0 Q Fz d) : aWA mt p l e R s m args below meth c A D σ0 n0 Q Fz (pc, ls, st, n, M) := by
  obtain ⟨rfl, hdg⟩ := ln_1 (k := 1) hd hln rfl (by decide)
  simp only [sI] at h
  split at h
  · exact so_pure hpc hnx (hK _ h) (fun σ la H locs cells slots hl hS hO k => lv_ixor (cx_x C) (cx_b C) hdg k)
  · exact h.elim
theorem so_ishl (C : aCx mt lv p l e R s m args below meth c A D σ0 n0 Q Fz) (hd : decode mt.2.1 pc = .ok (.ishl, nx - pc)) (hln : lenI (.ishl) = 0 ∨ nx = pc + lenI (.ishl)) (hpc : pc < aRET) (hnx : nx < aRET) (htg : tg < aRET) (h : sI mt (.ishl, nx, tg, q) pc ls st n M K) (hK : ∀ d, K d → aWA mt p l e R s m args below meth c A D σ0 n0 Q Fz d) : aWA mt p l e R s m args below meth c A D σ0 n0 Q Fz (pc, ls, st, n, M) := by
  obtain ⟨rfl, hdg⟩ := ln_1 (k := 1) hd hln rfl (by decide)
  simp only [sI] at h
  split at h
  · exact so_pure hpc hnx (hK _ h) (fun σ la H locs cells slots hl hS hO k => lv_ishl (cx_x C) (cx_b C) hdg k)
  · exact h.elim
theorem so_ishr (C : aCx mt lv p l e R s m args below meth c A D σ0 n0 Q Fz) (hd : decode mt.2.1 pc = .ok (.ishr, nx - pc)) (hln : lenI (.ishr) = 0 ∨ nx = pc + lenI (.ishr)) (hpc : pc < aRET) (hnx : nx < aRET) (htg : tg < aRET) (h : sI mt (.ishr, nx, tg, q) pc ls st n M K) (hK : ∀ d, K d → aWA mt p l e R s m args below meth c A D σ0 n0 Q Fz d) : aWA mt p l e R s m args below meth c A D σ0 n0 Q Fz (pc, ls, st, n, M) := by
  obtain ⟨rfl, hdg⟩ := ln_1 (k := 1) hd hln rfl (by decide)
  simp only [sI] at h
  split at h
  · exact so_pure hpc hnx (hK _ h) (fun σ la H locs cells slots hl hS hO k => lv_ishr (cx_x C) (cx_b C) hdg k)
  · exact h.elim
theorem so_ladd (C : aCx mt lv p l e R s m args below meth c A D σ0 n0 Q Fz) (hd : decode mt.2.1 pc = .ok (.ladd, nx - pc)) (hln : lenI (.ladd) = 0 ∨ nx = pc + lenI (.ladd)) (hpc : pc < aRET) (hnx : nx < aRET) (htg : tg < aRET) (h : sI mt (.ladd, nx, tg, q) pc ls st n M K) (hK : ∀ d, K d → aWA mt p l e R s m args below meth c A D σ0 n0 Q Fz d) : aWA mt p l e R s m args below meth c A D σ0 n0 Q Fz (pc, ls, st, n, M) := by
  obtain ⟨rfl, hdg⟩ := ln_1 (k := 1) hd hln rfl (by decide)
  simp only [sI] at h
  split at h
  · exact so_pure hpc hnx (hK _ h) (fun σ la H locs cells slots hl hS hO k => lv_ladd (cx_x C) (cx_b C) hdg k)
  · exact h.elim
theorem so_lsub (C : aCx mt lv p l e R s m args below meth c A D σ0 n0 Q Fz) (hd : decode mt.2.1 pc = .ok (.lsub, nx - pc)) (hln : lenI (.lsub) = 0 ∨ nx = pc + lenI (.lsub)) (hpc : pc < aRET) (hnx : nx < aRET) (htg : tg < aRET) (h : sI mt (.lsub, nx, tg, q) pc ls st n M K) (hK : ∀ d, K d → aWA mt p l e R s m args below meth c A D σ0 n0 Q Fz d) : aWA mt p l e R s m args below meth c A D σ0 n0 Q Fz (pc, ls, st, n, M) := by
  obtain ⟨rfl, hdg⟩ := ln_1 (k := 1) hd hln rfl (by decide)
  simp only [sI] at h
  split at h
  · exact so_pure hpc hnx (hK _ h) (fun σ la H locs cells slots hl hS hO k => lv_lsub (cx_x C) (cx_b C) hdg k)
  · exact h.elim
theorem so_lmul (C : aCx mt lv p l e R s m args below meth c A D σ0 n0 Q Fz) (hd : decode mt.2.1 pc = .ok (.lmul, nx - pc)) (hln : lenI (.lmul) = 0 ∨ nx = pc + lenI (.lmul)) (hpc : pc < aRET) (hnx : nx < aRET) (htg : tg < aRET) (h : sI mt (.lmul, nx, tg, q) pc ls st n M K) (hK : ∀ d, K d → aWA mt p l e R s m args below meth c A D σ0 n0 Q Fz d) : aWA mt p l e R s m args below meth c A D σ0 n0 Q Fz (pc, ls, st, n, M) := by
  obtain ⟨rfl, hdg⟩ := ln_1 (k := 1) hd hln rfl (by decide)
  simp only [sI] at h
  split at h
  · exact so_pure hpc hnx (hK _ h) (fun σ la H locs cells slots hl hS hO k => lv_lmul (cx_x C) (cx_b C) hdg k)
  · exact h.elim
theorem so_iushr (C : aCx mt lv p l e R s m args below meth c A D σ0 n0 Q Fz) (hd : decode mt.2.1 pc = .ok (.iushr, nx - pc)) (hln : lenI (.iushr) = 0 ∨ nx = pc + lenI (.iushr)) (hpc : pc < aRET) (hnx : nx < aRET) (htg : tg < aRET) (h : sI mt (.iushr, nx, tg, q) pc ls st n M K) (hK : ∀ d, K d → aWA mt p l e R s m args below meth c A D σ0 n0 Q Fz d) : aWA mt p l e R s m args below meth c A D σ0 n0 Q Fz (pc, ls, st, n, M) := by
  obtain ⟨rfl, hdg⟩ := ln_1 (k := 1) hd hln rfl (by decide)
  simp only [sI] at h
  split at h
  · exact so_pure hpc hnx (hK _ h) (fun σ la H locs cells slots hl hS hO k => lv_iushr (cx_x C) (cx_b C) hdg rfl k)
  · exact h.elim
theorem so_idiv (C : aCx mt lv p l e R s m args below meth c A D σ0 n0 Q Fz) (hd : decode mt.2.1 pc = .ok (.idiv, nx - pc)) (hln : lenI (.idiv) = 0 ∨ nx = pc + lenI (.idiv)) (hpc : pc < aRET) (hnx : nx < aRET) (htg : tg < aRET) (h : sI mt (.idiv, nx, tg, q) pc ls st n M K) (hK : ∀ d, K d → aWA mt p l e R s m args below meth c A D σ0 n0 Q Fz d) : aWA mt p l e R s m args below meth c A D σ0 n0 Q Fz (pc, ls, st, n, M) := by
  obtain ⟨rfl, hdg⟩ := ln_1 (k := 1) hd hln rfl (by decide)
  simp only [sI] at h
  split at h
  · exact so_pure hpc hnx (hK _ h.2) (fun σ la H locs cells slots hl hS hO k => lv_idiv (cx_x C) (cx_b C) hdg h.1 k)
  · exact h.elim
theorem so_irem (C : aCx mt lv p l e R s m args below meth c A D σ0 n0 Q Fz) (hd : decode mt.2.1 pc = .ok (.irem, nx - pc)) (hln : lenI (.irem) = 0 ∨ nx = pc + lenI (.irem)) (hpc : pc < aRET) (hnx : nx < aRET) (htg : tg < aRET) (h : sI mt (.irem, nx, tg, q) pc ls st n M K) (hK : ∀ d, K d → aWA mt p l e R s m args below meth c A D σ0 n0 Q Fz d) : aWA mt p l e R s m args below meth c A D σ0 n0 Q Fz (pc, ls, st, n, M) := by
  obtain ⟨rfl, hdg⟩ := ln_1 (k := 1) hd hln rfl (by decide)
  simp only [sI] at h
  split at h
  · exact so_pure hpc hnx (hK _ h.2) (fun σ la H locs cells slots hl hS hO k => lv_irem (cx_x C) (cx_b C) hdg h.1 k)
  · exact h.elim
theorem so_ldiv (C : aCx mt lv p l e R s m args below meth c A D σ0 n0 Q Fz) (hd : decode mt.2.1 pc = .ok (.ldiv, nx - pc)) (hln : lenI (.ldiv) = 0 ∨ nx = pc + lenI (.ldiv)) (hpc : pc < aRET) (hnx : nx < aRET) (htg : tg < aRET) (h : sI mt (.ldiv, nx, tg, q) pc ls st n M K) (hK : ∀ d, K d → aWA mt p l e R s m args below meth c A D σ0 n0 Q Fz d) : aWA mt p l e R s m args below meth c A D σ0 n0 Q Fz (pc, ls, st, n, M) := by
  obtain ⟨rfl, hdg⟩ := ln_1 (k := 1) hd hln rfl (by decide)
  simp only [sI] at h
  split at h
  · exact so_pure hpc hnx (hK _ h.2) (fun σ la H locs cells slots hl hS hO k => lv_ldiv (cx_x C) (cx_b C) hdg h.1 k)
  · exact h.elim
theorem so_lrem (C : aCx mt lv p l e R s m args below meth c A D σ0 n0 Q Fz) (hd : decode mt.2.1 pc = .ok (.lrem, nx - pc)) (hln : lenI (.lrem) = 0 ∨ nx = pc + lenI (.lrem)) (hpc : pc < aRET) (hnx : nx < aRET) (htg : tg < aRET) (h : sI mt (.lrem, nx, tg, q) pc ls st n M K) (hK : ∀ d, K d → aWA mt p l e R s m args below meth c A D σ0 n0 Q Fz d) : aWA mt p l e R s m args below meth c A D σ0 n0 Q Fz (pc, ls, st, n, M) := by
  obtain ⟨rfl, hdg⟩ := ln_1 (k := 1) hd hln rfl (by decide)
  simp only [sI] at h
  split at h
  · exact so_pure hpc hnx (hK _ h.2) (fun σ la H locs cells slots hl hS hO k => lv_lrem (cx_x C) (cx_b C) hdg h.1 k)
  · exact h.elim
theorem so_lcmp (C : aCx mt lv p l e R s m args below meth c A D σ0 n0 Q Fz) (hd : decode mt.2.1 pc = .ok (.lcmp, nx - pc)) (hln : lenI (.lcmp) = 0 ∨ nx = pc + lenI (.lcmp)) (hpc : pc < aRET) (hnx : nx < aRET) (htg : tg < aRET) (h : sI mt (.lcmp, nx, tg, q) pc ls st n M K) (hK : ∀ d, K d → aWA mt p l e R s m args below meth c A D σ0 n0 Q Fz d) : aWA mt p l e R s m args below meth c A D σ0 n0 Q Fz (pc, ls, st, n, M) := by
  obtain ⟨rfl, hdg⟩ := ln_1 (k := 1) hd hln rfl (by decide)
  simp only [sI] at h
  split at h
  · exact so_pure hpc hnx (hK _ h) (fun σ la H locs cells slots hl hS hO k => W.lcmp (cx_x C) (cx_b C) hdg k)
  · exact h.elim
theorem so_i2l (C : aCx mt lv p l e R s m args below meth c A D σ0 n0 Q Fz) (hd : decode mt.2.1 pc = .ok (.i2l, nx - pc)) (hln : lenI (.i2l) = 0 ∨ nx = pc + lenI (.i2l)) (hpc : pc < aRET) (hnx : nx < aRET) (htg : tg < aRET) (h : sI mt (.i2l, nx, tg, q) pc ls st n M K) (hK : ∀ d, K d → aWA mt p l e R s m args below meth c A D σ0 n0 Q Fz d) : aWA mt p l e R s m args below meth c A D σ0 n0 Q Fz (pc, ls, st, n, M) := by
  obtain ⟨rfl, hdg⟩ := ln_1 (k := 1) hd hln rfl (by decide)
  simp only [sI] at h
  split at h
  · exact so_pure hpc hnx (hK _ h) (fun σ la H locs cells slots hl hS hO k => lv_i2l (cx_x C) (cx_b C) hdg rfl k)
  · exact h.elim
theorem so_l2i (C : aCx mt lv p l e R s m args below meth c A D σ0 n0 Q Fz) (hd : decode mt.2.1 pc = .ok (.l2i, nx - pc)) (hln : lenI (.l2i) = 0 ∨ nx = pc + lenI (.l2i)) (hpc : pc < aRET) (hnx : nx < aRET) (htg : tg < aRET) (h : sI mt (.l2i, nx, tg, q) pc ls st n M K) (hK : ∀ d, K d → aWA mt p l e R s m args below meth c A D σ0 n0 Q Fz d) : aWA mt p l e R s m args below meth c A D σ0 n0 Q Fz (pc, ls, st, n, M) := by
  obtain ⟨rfl, hdg⟩ := ln_1 (k := 1) hd hln rfl (by decide)
  simp only [sI] at h
  split at h
  · exact so_pure hpc hnx (hK _ h) (fun σ la H locs cells slots hl hS hO k => lv_l2i (cx_x C) (cx_b C) hdg rfl k)
  · exact h.elim
theorem so_i2b (C : aCx mt lv p l e R s m args below meth c A D σ0 n0 Q Fz) (hd : decode mt.2.1 pc = .ok (.i2b, nx - pc)) (hln : lenI (.i2b) = 0 ∨ nx = pc + lenI (.i2b)) (hpc : pc < aRET) (hnx : nx < aRET) (htg : tg < aRET) (h : sI mt (.i2b, nx, tg, q) pc ls st n M K) (hK : ∀ d, K d → aWA mt p l e R s m args below meth c A D σ0 n0 Q Fz d) : aWA mt p l e R s m args below meth c A D σ0 n0 Q Fz (pc, ls, st, n, M) := by
  obtain ⟨rfl, hdg⟩ := ln_1 (k := 1) hd hln rfl (by decide)
  simp only [sI] at h
  split at h
  · exact so_pure hpc hnx (hK _ h) (fun σ la H locs cells slots hl hS hO k => lv_i2b (cx_x C) (cx_b C) hdg rfl k)
  · exact h.elim
theorem so_i2s (C : aCx mt lv p l e R s m args below meth c A D σ0 n0 Q Fz) (hd : decode mt.2.1 pc = .ok (.i2s, nx - pc)) (hln : lenI (.i2s) = 0 ∨ nx = pc + lenI (.i2s)) (hpc : pc < aRET) (hnx : nx < aRET) (htg : tg < aRET) (h : sI mt (.i2s, nx, tg, q) pc ls st n M K) (hK : ∀ d, K d → aWA mt p l e R s m args below meth c A D σ0 n0 Q Fz d) : aWA mt p l e R s m args below meth c A D σ0 n0 Q Fz (pc, ls, st, n, M) := by
  obtain ⟨rfl, hdg⟩ := ln_1 (k := 1) hd hln rfl (by decide)
  simp only [sI] at h
  split at h
  · exact so_pure hpc hnx (hK _ h) (fun σ la H locs cells slots hl hS hO k => lv_i2s (cx_x C) (cx_b C) hdg rfl k)
  · exact h.elim
theorem so_i2c (C : aCx mt lv p l e R s m args below meth c A D σ0 n0 Q Fz) (hd : decode mt.2.1 pc = .ok (.i2c, nx - pc)) (hln : lenI (.i2c) = 0 ∨ nx = pc + lenI (.i2c)) (hpc : pc < aRET) (hnx : nx < aRET) (htg : tg < aRET) (h : sI mt (.i2c, nx, tg, q) pc ls st n M K) (hK : ∀ d, K d → aWA mt p l e R s m args below meth c A D σ0 n0 Q Fz d) : aWA mt p l e R s m args below meth c A D σ0 n0 Q Fz (pc, ls, st, n, M) := by
  obtain ⟨rfl, hdg⟩ := ln_1 (k := 1) hd hln rfl (by decide)
  simp only [sI] at h
  split at h
  · exact so_pure hpc hnx (hK _ h) (fun σ la H locs cells slots hl hS hO k => lv_i2c (cx_x C) (cx_b C) hdg rfl k)
  · exact h.elim
theorem so_dup (C : aCx mt lv p l e R s m args below meth c A D σ0 n0 Q Fz) (hd : decode mt.2.1 pc = .ok (.dup, nx - pc)) (hln : lenI (.dup) = 0 ∨ nx = pc + lenI (.dup)) (hpc : pc < aRET) (hnx : nx < aRET) (htg : tg < aRET) (h : sI mt (.dup, nx, tg, q) pc ls st n M K) (hK : ∀ d, K d → aWA mt p l e R s m args below meth c A D σ0 n0 Q Fz d) : aWA mt p l e R s m args below meth c A D σ0 n0 Q Fz (pc, ls, st, n, M) := by
  obtain ⟨rfl, hdg⟩ := ln_1 (k := 1) hd hln rfl (by decide)
  simp only [sI] at h
  split at h
  · exact so_pure hpc hnx (hK _ h) (fun σ la H locs cells slots hl hS hO k => lv_dup (cx_x C) (cx_b C) hdg rfl k)
  · exact so_pure hpc hnx (hK _ h) (fun σ la H locs cells slots hl hS hO k => lv_dup (cx_x C) (cx_b C) hdg rfl k)
  · exact h.elim
theorem so_pop (C : aCx mt lv p l e R s m args below meth c A D σ0 n0 Q Fz) (hd : decode mt.2.1 pc = .ok (.pop, nx - pc)) (hln : lenI (.pop) = 0 ∨ nx = pc + lenI (.pop)) (hpc : pc < aRET) (hnx : nx < aRET) (htg : tg < aRET) (h : sI mt (.pop, nx, tg, q) pc ls st n M K) (hK : ∀ d, K d → aWA mt p l e R s m args below meth c A D σ0 n0 Q Fz d) : aWA mt p l e R s m args below meth c A D σ0 n0 Q Fz (pc, ls, st, n, M) := by
  obtain ⟨rfl, hdg⟩ := ln_1 (k := 1) hd hln rfl (by decide)
  simp only [sI] at h
  split at h
  · exact so_pure hpc hnx (hK _ h) (fun σ la H locs cells slots hl hS hO k => lv_pop (cx_x C) (cx_b C) hdg rfl k)
  · exact so_pure hpc hnx (hK _ h) (fun σ la H locs cells slots hl hS hO k => lv_pop (cx_x C) (cx_b C) hdg rfl k)
  · exact h.elim
theorem so_dup2 (C : aCx mt lv p l e R s m args below meth c A D σ0 n0 Q Fz) (hd : decode mt.2.1 pc = .ok (.dup2, nx - pc)) (hln : lenI (.dup2) = 0 ∨ nx = pc + lenI (.dup2)) (hpc : pc < aRET) (hnx : nx < aRET) (htg : tg < aRET) (h : sI mt (.dup2, nx, tg, q) pc ls st n M K) (hK : ∀ d, K d → aWA mt p l e R s m args below meth c A D σ0 n0 Q Fz d) : aWA mt p l e R s m args below meth c A D σ0 n0 Q Fz (pc, ls, st, n, M) := by
  obtain ⟨rfl, hdg⟩ := ln_1 (k := 1) hd hln rfl (by decide)
  simp only [sI] at h
  split at h
  · exact so_pure hpc hnx (hK _ h) (fun σ la H locs cells slots hl hS hO k => lv_dup2_11 (cx_x C) (cx_b C) hdg rfl rfl k)
  · exact so_pure hpc hnx (hK _ h) (fun σ la H locs cells slots hl hS hO k => lv_dup2_11 (cx_x C) (cx_b C) hdg rfl rfl k)
  · exact h.elim
theorem so_iload {v : Nat} (C : aCx mt lv p l e R s m args below meth c A D σ0 n0 Q Fz) (hd : decode mt.2.1 pc = .ok (.iload v, nx - pc)) (hln : lenI (.iload v) = 0 ∨ nx = pc + lenI (.iload v)) (hpc : pc < aRET) (hnx : nx < aRET) (htg : tg < aRET) (hv : v = q.2.1) (h : sI mt (.iload v, nx, tg, q) pc ls st n M K) (hK : ∀ d, K d → aWA mt p l e R s m args below meth c A D σ0 n0 Q Fz d) : aWA mt p l e R s m args below meth c A D σ0 n0 Q Fz (pc, ls, st, n, M) := by
  obtain ⟨rfl, hdg⟩ := ln_1 (k := 2) hd hln rfl (by decide)
  simp only [sI] at h
  split at h
  · next hg => subst hv; exact so_pure hpc hnx (hK _ h) (fun σ la H locs cells slots hl hS hO k => lv_iload (cx_x C) (cx_b C) hdg (lv_get hl hg) k)
  · exact h.elim
theorem so_aload {v : Nat} (C : aCx mt lv p l e R s m args below meth c A D σ0 n0 Q Fz) (hd : decode mt.2.1 pc = .ok (.aload v, nx - pc)) (hln : lenI (.aload v) = 0 ∨ nx = pc + lenI (.aload v)) (hpc : pc < aRET) (hnx : nx < aRET) (htg : tg < aRET) (hv : v = q.2.1) (h : sI mt (.aload v, nx, tg, q) pc ls st n M K) (hK : ∀ d, K d → aWA mt p l e R s m args below meth c A D σ0 n0 Q Fz d) : aWA mt p l e R s m args below meth c A D σ0 n0 Q Fz (pc, ls, st, n, M) := by
  obtain ⟨rfl, hdg⟩ := ln_1 (k := 2) hd hln rfl (by decide)
  simp only [sI] at h
  split at h
  · next hg => subst hv; exact so_pure hpc hnx (hK _ h) (fun σ la H locs cells slots hl hS hO k => lv_aload (cx_x C) (cx_b C) hdg (lv_get hl hg) k)
  · exact h.elim
theorem so_lload {v : Nat} (C : aCx mt lv p l e R s m args below meth c A D σ0 n0 Q Fz) (hd : decode mt.2.1 pc = .ok (.lload v, nx - pc)) (hln : lenI (.lload v) = 0 ∨ nx = pc + lenI (.lload v)) (hpc : pc < aRET) (hnx : nx < aRET) (htg : tg < aRET) (hv : v = q.2.1) (h : sI mt (.lload v, nx, tg, q) pc ls st n M K) (hK : ∀ d, K d → aWA mt p l e R s m args below meth c A D σ0 n0 Q Fz d) : aWA mt p l e R s m args below meth c A D σ0 n0 Q Fz (pc, ls, st, n, M) := by
  obtain ⟨rfl, hdg⟩ := ln_1 (k := 2) hd hln rfl (by decide)
  simp only [sI] at h
  split at h
  · next hg => subst hv; exact so_pure hpc hnx (hK _ h) (fun σ la H locs cells slots hl hS hO k => lv_lload (cx_x C) (cx_b C) hdg (lv_get hl hg) k)
  · exact h.elim
theorem so_iload_n {v : Fin 4} (C : aCx mt lv p l e R s m args below meth c A D σ0 n0 Q Fz) (hd : decode mt.2.1 pc = .ok (.iload_n v, nx - pc)) (hln : lenI (.iload_n v) = 0 ∨ nx = pc + lenI (.iload_n v)) (hpc : pc < aRET) (hnx : nx < aRET) (htg : tg < aRET) (hv : (v : Nat) = q.2.1) (h : sI mt (.iload_n v, nx, tg, q) pc ls st n M K) (hK : ∀ d, K d → aWA mt p l e R s m args below meth c A D σ0 n0 Q Fz d) : aWA mt p l e R s m args below meth c A D σ0 n0 Q Fz (pc, ls, st, n, M) := by
  obtain ⟨rfl, hdg⟩ := ln_1 (k := 1) hd hln rfl (by decide)
  simp only [sI] at h
  split at h
  · next hg => exact so_pure hpc hnx (hK _ h) (fun σ la H locs cells slots hl hS hO k => lv_iload_n (cx_x C) (cx_b C) hdg hv (lv_get hl hg) k)
  · exact h.elim
theorem so_aload_n {v : Fin 4} (C : aCx mt lv p l e R s m args below meth c A D σ0 n0 Q Fz) (hd : decode mt.2.1 pc = .ok (.aload_n v, nx - pc)) (hln : lenI (.aload_n v) = 0 ∨ nx = pc + lenI (.aload_n v)) (hpc : pc < aRET) (hnx : nx < aRET) (htg : tg < aRET) (hv : (v : Nat) = q.2.1) (h : sI mt (.aload_n v, nx, tg, q) pc ls st n M K) (hK : ∀ d, K d → aWA mt p l e R s m args below meth c A D σ0 n0 Q Fz d) : aWA mt p l e R s m args below meth c A D σ0 n0 Q Fz (pc, ls, st, n, M) := by
  obtain ⟨rfl, hdg⟩ := ln_1 (k := 1) hd hln rfl (by decide)
  simp only [sI] at h
  split at h
  · next hg => exact so_pure hpc hnx (hK _ h) (fun σ la H locs cells slots hl hS hO k => lv_aload_n (cx_x C) (cx_b C) hdg hv (lv_get hl hg) k)
  · exact h.elim
theorem so_lload_n {v : Fin 4} (C : aCx mt lv p l e R s m args below meth c A D σ0 n0 Q Fz) (hd : decode mt.2.1 pc = .ok (.lload_n v, nx - pc)) (hln : lenI (.lload_n v) = 0 ∨ nx = pc + lenI (.lload_n v)) (hpc : pc < aRET) (hnx : nx < aRET) (htg : tg < aRET) (hv : (v : Nat) = q.2.1) (h : sI mt (.lload_n v, nx, tg, q) pc ls st n M K) (hK : ∀ d, K d → aWA mt p l e R s m args below meth c A D σ0 n0 Q Fz d) : aWA mt p l e R s m args below meth c A D σ0 n0 Q Fz (pc, ls, st, n, M) := by
  obtain ⟨rfl, hdg⟩ := ln_1 (k := 1) hd hln rfl (by decide)
  simp only [sI] at h
  split at h
  · next hg => exact so_pure hpc hnx (hK _ h) (fun σ la H locs cells slots hl hS hO k => lv_lload_n (cx_x C) (cx_b C) hdg hv (lv_get hl hg) k)
  · exact h.elim
theorem so_istore {v : Nat} (C : aCx mt lv p l e R s m args below meth c A D σ0 n0 Q Fz) (hd : decode mt.2.1 pc = .ok (.istore v, nx - pc)) (hln : lenI (.istore v) = 0 ∨ nx = pc + lenI (.istore v)) (hpc : pc < aRET) (hnx : nx < aRET) (htg : tg < aRET) (hv : v = q.2.1 ∧ q.2.1 < mt.2.2.1) (h : sI mt (.istore v, nx, tg, q) pc ls st n M K) (hK : ∀ d, K d → aWA mt p l e R s m args below meth c A D σ0 n0 Q Fz d) : aWA mt p l e R s m args below meth c A D σ0 n0 Q Fz (pc, ls, st, n, M) := by
  obtain ⟨rfl, hdg⟩ := ln_1 (k := 2) hd hln rfl (by decide)
  simp only [sI] at h
  obtain ⟨hv, hlt⟩ := hv
  split at h
  · subst hv; exact so_loc hpc hnx (fun hlen => (puL_len _ _).trans hlen) (hK _ h) (fun σ la H locs cells slots hlen hl k => lv_istore (cx_x C) (cx_b C) hdg hl hlt rfl (fun lb hb => k lb (lv_pu (by rw [hlen]; exact hlt) hb)))
  · exact h.elim
theorem so_astore {v : Nat} (C : aCx mt lv p l e R s m args below meth c A D σ0 n0 Q Fz) (hd : decode mt.2.1 pc = .ok (.astore v, nx - pc)) (hln : lenI (.astore v) = 0 ∨ nx = pc + lenI (.astore v)) (hpc : pc < aRET) (hnx : nx < aRET) (htg : tg < aRET) (hv : v = q.2.1 ∧ q.2.1 < mt.2.2.1) (h : sI mt (.astore v, nx, tg, q) pc ls st n M K) (hK : ∀ d, K d → aWA mt p l e R s m args below meth c A D σ0 n0 Q Fz d) : aWA mt p l e R s m args below meth c A D σ0 n0 Q Fz (pc, ls, st, n, M) := by
  obtain ⟨rfl, hdg⟩ := ln_1 (k := 2) hd hln rfl (by decide)
  simp only [sI] at h
  obtain ⟨hv, hlt⟩ := hv
  split at h
  · subst hv; exact so_loc hpc hnx (fun hlen => (puL_len _ _).trans hlen) (hK _ h) (fun σ la H locs cells slots hlen hl k => lv_astore (cx_x C) (cx_b C) hdg hl hlt rfl (fun lb hb => k lb (lv_pu (by rw [hlen]; exact hlt) hb)))
  · exact h.elim
theorem so_lstore {v : Nat} (C : aCx mt lv p l e R s m args below meth c A D σ0 n0 Q Fz) (hd : decode mt.2.1 pc = .ok (.lstore v, nx - pc)) (hln : lenI (.lstore v) = 0 ∨ nx = pc + lenI (.lstore v)) (hpc : pc < aRET) (hnx : nx < aRET) (htg : tg < aRET) (hv : v = q.2.1 ∧ q.2.1 + 1 < mt.2.2.1) (h : sI mt (.lstore v, nx, tg, q) pc ls st n M K) (hK : ∀ d, K d → aWA mt p l e R s m args below meth c A D σ0 n0 Q Fz d) : aWA mt p l e R s m args below meth c A D σ0 n0 Q Fz (pc, ls, st, n, M) := by
  obtain ⟨rfl, hdg⟩ := ln_1 (k := 2) hd hln rfl (by decide)
  simp only [sI] at h
  obtain ⟨hv, hlt⟩ := hv
  split at h
  · subst hv; exact so_loc hpc hnx (fun hlen => (puL2_len _ _ (by rw [hlen]; exact hlt)).trans hlen) (hK _ h) (fun σ la H locs cells slots hlen hl k => lv_lstore (cx_x C) (cx_b C) hdg hl hlt rfl (fun lb hb => k lb (lv_pu2 (by rw [hlen]; exact hlt) hb)))
  · exact h.elim
theorem so_istore_n {v : Fin 4} (C : aCx mt lv p l e R s m args below meth c A D σ0 n0 Q Fz) (hd : decode mt.2.1 pc = .ok (.istore_n v, nx - pc)) (hln : lenI (.istore_n v) = 0 ∨ nx = pc + lenI (.istore_n v)) (hpc : pc < aRET) (hnx : nx < aRET) (htg : tg < aRET) (hv : (v : Nat) = q.2.1 ∧ q.2.1 < mt.2.2.1) (h : sI mt (.istore_n v, nx, tg, q) pc ls st n M K) (hK : ∀ d, K d → aWA mt p l e R s m args below meth c A D σ0 n0 Q Fz d) : aWA mt p l e R s m args below meth c A D σ0 n0 Q Fz (pc, ls, st, n, M) := by
  obtain ⟨rfl, hdg⟩ := ln_1 (k := 1) hd hln rfl (by decide)
  simp only [sI] at h
  obtain ⟨hv, hlt⟩ := hv
  split at h
  · exact so_loc hpc hnx (fun hlen => (puL_len _ _).trans hlen) (hK _ h) (fun σ la H locs cells slots hlen hl k => lv_istore_n (cx_x C) (cx_b C) hdg hv hl hlt rfl (fun lb hb => k lb (lv_pu (by rw [hlen]; exact hlt) hb)))
  · exact h.elim
theorem so_astore_n {v : Fin 4} (C : aCx mt lv p l e R s m args below meth c A D σ0 n0 Q Fz) (hd : decode mt.2.1 pc = .ok (.astore_n v, nx - pc)) (hln : lenI (.astore_n v) = 0 ∨ nx = pc + lenI (.astore_n v)) (hpc : pc < aRET) (hnx : nx < aRET) (htg : tg < aRET) (hv : (v : Nat) = q.2.1 ∧ q.2.1 < mt.2.2.1) (h : sI mt (.astore_n v, nx, tg, q) pc ls st n M K) (hK : ∀ d, K d → aWA mt p l e R s m args below meth c A D σ0 n0 Q Fz d) : aWA mt p l e R s m args below meth c A D σ0 n0 Q Fz (pc, ls, st, n, M) := by
  obtain ⟨rfl, hdg⟩ := ln_1 (k := 1) hd hln rfl (by decide)
  simp only [sI] at h
  obtain ⟨hv, hlt⟩ := hv
  split at h
  · exact so_loc hpc hnx (fun hlen => (puL_len _ _).trans hlen) (hK _ h) (fun σ la H locs cells slots hlen hl k => lv_astore_n (cx_x C) (cx_b C) hdg hv hl hlt rfl (fun lb hb => k lb (lv_pu (by rw [hlen]; exact hlt) hb)))
  · exact h.elim
theorem so_lstore_n {v : Fin 4} (C : aCx mt lv p l e R s m args below meth c A D σ0 n0 Q Fz) (hd : decode mt.2.1 pc = .ok (.lstore_n v, nx - pc)) (hln : lenI (.lstore_n v) = 0 ∨ nx = pc + lenI (.lstore_n v)) (hpc : pc < aRET) (hnx : nx < aRET) (htg : tg < aRET) (hv : (v : Nat) = q.2.1 ∧ q.2.1 + 1 < mt.2.2.1) (h : sI mt (.lstore_n v, nx, tg, q) pc ls st n M K) (hK : ∀ d, K d → aWA mt p l e R s m args below meth c A D σ0 n0 Q Fz d) : aWA mt p l e R s m args below meth c A D σ0 n0 Q Fz (pc, ls, st, n, M) := by
  obtain ⟨rfl, hdg⟩ := ln_1 (k := 1) hd hln rfl (by decide)
  simp only [sI] at h
  obtain ⟨hv, hlt⟩ := hv
  split at h
  · exact so_loc hpc hnx (fun hlen => (puL2_len _ _ (by rw [hlen]; exact hlt)).trans hlen) (hK _ h) (fun σ la H locs cells slots hlen hl k => lv_lstore_n (cx_x C) (cx_b C) hdg hv hl hlt rfl (fun lb hb => k lb (lv_pu2 (by rw [hlen]; exact hlt) hb)))
  · exact h.elim
theorem so_iinc {v : Nat} {w : Int} (C : aCx mt lv p l e R s m args below meth c A D σ0 n0 Q Fz) (hd : decode mt.2.1 pc = .ok (.iinc v w, nx - pc)) (hln : lenI (.iinc v w) = 0 ∨ nx = pc + lenI (.iinc v w)) (hpc : pc < aRET) (hnx : nx < aRET) (htg : tg < aRET) (hv : v = q.2.1 ∧ q.2.1 < mt.2.2.1 ∧ Int32.ofInt w = q.2.2.2) (h : sI mt (.iinc v w, nx, tg, q) pc ls st n M K) (hK : ∀ d, K d → aWA mt p l e R s m args below meth c A D σ0 n0 Q Fz d) : aWA mt p l e R s m args below meth c A D σ0 n0 Q Fz (pc, ls, st, n, M) := by
  obtain ⟨rfl, hdg⟩ := ln_1 (k := 3) hd hln rfl (by decide)
  simp only [sI] at h
  obtain ⟨rfl, hlt, hw⟩ := hv
  split at h
  · next x hg =>
    refine so_loc hpc hnx (fun hlen => (puL_len _ _).trans hlen) (hK _ h) (fun σ la H locs cells slots hlen hl k => ?_)
    obtain ⟨j, hj⟩ := List.getElem?_of_mem (ascF_get (σ := σ) hg 0)
    rw [Nat.zero_add] at hj
    exact lv_iinc (cx_x C) (cx_b C) hdg hl hj (by rw [hw]) hlt rfl (fun lb hb => k lb (lv_pu (by rw [hlen]; exact hlt) hb))
  · exact h.elim
theorem so_goto {v : Int} (C : aCx mt lv p l e R s m args below meth c A D σ0 n0 Q Fz) (hd : decode mt.2.1 pc = .ok (.goto v, nx - pc)) (hln : lenI (.goto v) = 0 ∨ nx = pc + lenI (.goto v)) (hpc : pc < aRET) (hnx : nx < aRET) (htg : tg < aRET) (hv : (pc : Int) + v = (tg : Int)) (h : sI mt (.goto v, nx, tg, q) pc ls st n M K) (hK : ∀ d, K d → aWA mt p l e R s m args below meth c A D σ0 n0 Q Fz d) : aWA mt p l e R s m args below meth c A D σ0 n0 Q Fz (pc, ls, st, n, M) := by
  obtain ⟨rfl, hdg⟩ := ln_1 (k := 3) hd hln rfl (by decide)
  simp only [sI] at h
  exact so_pure hpc htg (hK _ h) (fun σ la H locs cells slots hl hS hO k => lv_goto (cx_x C) (cx_b C) hdg hv k)
theorem so_if_eq {v : Int} (C : aCx mt lv p l e R s m args below meth c A D σ0 n0 Q Fz) (hd : decode mt.2.1 pc = .ok (.ifCond .eq v, nx - pc)) (hln : lenI (.ifCond .eq v) = 0 ∨ nx = pc + lenI (.ifCond .eq v)) (hpc : pc < aRET) (hnx : nx < aRET) (htg : tg < aRET) (hv : (pc : Int) + v = (tg : Int)) (h : sI mt (.ifCond .eq v, nx, tg, q) pc ls st n M K) (hK : ∀ d, K d → aWA mt p l e R s m args below meth c A D σ0 n0 Q Fz d) : aWA mt p l e R s m args below meth c A D σ0 n0 Q Fz (pc, ls, st, n, M) := by
  obtain ⟨rfl, hdg⟩ := ln_1 (k := 3) hd hln rfl (by decide)
  simp only [sI] at h
  split at h
  · exact so_br hpc hnx htg (fun z => hK _ (h.1 z)) (fun z => hK _ (h.2 z)) (fun σ la H locs cells slots kt kf => lv_if_eq (cx_x C) (cx_b C) hdg hv kt kf)
  · exact h.elim
theorem so_if_ne {v : Int} (C : aCx mt lv p l e R s m args below meth c A D σ0 n0 Q Fz) (hd : decode mt.2.1 pc = .ok (.ifCond .ne v, nx - pc)) (hln : lenI (.ifCond .ne v) = 0 ∨ nx = pc + lenI (.ifCond .ne v)) (hpc : pc < aRET) (hnx : nx < aRET) (htg : tg < aRET) (hv : (pc : Int) + v = (tg : Int)) (h : sI mt (.ifCond .ne v, nx, tg, q) pc ls st n M K) (hK : ∀ d, K d → aWA mt p l e R s m args below meth c A D σ0 n0 Q Fz d) : aWA mt p l e R s m args below meth c A D σ0 n0 Q Fz (pc, ls, st, n, M) := by
  obtain ⟨rfl, hdg⟩ := ln_1 (k := 3) hd hln rfl (by decide)
  simp only [sI] at h
  split at h
  · exact so_br hpc hnx htg (fun z => hK _ (h.1 z)) (fun z => hK _ (h.2 z)) (fun σ la H locs cells slots kt kf => lv_if_ne (cx_x C) (cx_b C) hdg hv kt (fun z => kf (fun q => q z)))
  · exact h.elim
theorem so_if_lt {v : Int} (C : aCx mt lv p l e R s m args below meth c A D σ0 n0 Q Fz) (hd : decode mt.2.1 pc = .ok (.ifCond .lt v, nx - pc)) (hln : lenI (.ifCond .lt v) = 0 ∨ nx = pc + lenI (.ifCond .lt v)) (hpc : pc < aRET) (hnx : nx < aRET) (htg : tg < aRET) (hv : (pc : Int) + v = (tg : Int)) (h : sI mt (.ifCond .lt v, nx, tg, q) pc ls st n M K) (hK : ∀ d, K d → aWA mt p l e R s m args below meth c A D σ0 n0 Q Fz d) : aWA mt p l e R s m args below meth c A D σ0 n0 Q Fz (pc, ls, st, n, M) := by
  obtain ⟨rfl, hdg⟩ := ln_1 (k := 3) hd hln rfl (by decide)
  simp only [sI] at h
  split at h
  · exact so_br hpc hnx htg (fun z => hK _ (h.1 z)) (fun z => hK _ (h.2 z)) (fun σ la H locs cells slots kt kf => lv_if_lt (cx_x C) (cx_b C) hdg hv kt kf)
  · exact h.elim
theorem so_if_ge {v : Int} (C : aCx mt lv p l e R s m args below meth c A D σ0 n0 Q Fz) (hd : decode mt.2.1 pc = .ok (.ifCond .ge v, nx - pc)) (hln : lenI (.ifCond .ge v) = 0 ∨ nx = pc + lenI (.ifCond .ge v)) (hpc : pc < aRET) (hnx : nx < aRET) (htg : tg < aRET) (hv : (pc : Int) + v = (tg : Int)) (h : sI mt (.ifCond .ge v, nx, tg, q) pc ls st n M K) (hK : ∀ d, K d → aWA mt p l e R s m args below meth c A D σ0 n0 Q Fz d) : aWA mt p l e R s m args below meth c A D σ0 n0 Q Fz (pc, ls, st, n, M) := by
  obtain ⟨rfl, hdg⟩ := ln_1 (k := 3) hd hln rfl (by decide)
  simp only [sI] at h
  split at h
  · exact so_br hpc hnx htg (fun z => hK _ (h.1 z)) (fun z => hK _ (h.2 z)) (fun σ la H locs cells slots kt kf => lv_if_ge (cx_x C) (cx_b C) hdg hv kt kf)
  · exact h.elim
theorem so_if_gt {v : Int} (C : aCx mt lv p l e R s m args below meth c A D σ0 n0 Q Fz) (hd : decode mt.2.1 pc = .ok (.ifCond .gt v, nx - pc)) (hln : lenI (.ifCond .gt v) = 0 ∨ nx = pc + lenI (.ifCond .gt v)) (hpc : pc < aRET) (hnx : nx < aRET) (htg : tg < aRET) (hv : (pc : Int) + v = (tg : Int)) (h : sI mt (.ifCond .gt v, nx, tg, q) pc ls st n M K) (hK : ∀ d, K d → aWA mt p l e R s m args below meth c A D σ0 n0 Q Fz d) : aWA mt p l e R s m args below meth c A D σ0 n0 Q Fz (pc, ls, st, n, M) := by
  obtain ⟨rfl, hdg⟩ := ln_1 (k := 3) hd hln rfl (by decide)
  simp only [sI] at h
  split at h
  · exact so_br hpc hnx htg (fun z => hK _ (h.1 z)) (fun z => hK _ (h.2 z)) (fun σ la H locs cells slots kt kf => lv_if_gt (cx_x C) (cx_b C) hdg hv kt kf)
  · exact h.elim
theorem so_if_le {v : Int} (C : aCx mt lv p l e R s m args below meth c A D σ0 n0 Q Fz) (hd : decode mt.2.1 pc = .ok (.ifCond .le v, nx - pc)) (hln : lenI (.ifCond .le v) = 0 ∨ nx = pc + lenI (.ifCond .le v)) (hpc : pc < aRET) (hnx : nx < aRET) (htg : tg < aRET) (hv : (pc : Int) + v = (tg : Int)) (h : sI mt (.ifCond .le v, nx, tg, q) pc ls st n M K) (hK : ∀ d, K d → aWA mt p l e R s m args below meth c A D σ0 n0 Q Fz d) : aWA mt p l e R s m args below meth c A D σ0 n0 Q Fz (pc, ls, st, n, M) := by
  obtain ⟨rfl, hdg⟩ := ln_1 (k := 3) hd hln rfl (by decide)
  simp only [sI] at h
  split at h
  · exact so_br hpc hnx htg (fun z => hK _ (h.1 z)) (fun z => hK _ (h.2 z)) (fun σ la H locs cells slots kt kf => lv_if_le (cx_x C) (cx_b C) hdg hv kt kf)
  · exact h.elim
theorem so_icmp_eq {v : Int} (C : aCx mt lv p l e R s m args below meth c A D σ0 n0 Q Fz) (hd : decode mt.2.1 pc = .ok (.if_icmp .eq v, nx - pc)) (hln : lenI (.if_icmp .eq v) = 0 ∨ nx = pc + lenI (.if_icmp .eq v)) (hpc : pc < aRET) (hnx : nx < aRET) (htg : tg < aRET) (hv : (pc : Int) + v = (tg : Int)) (h : sI mt (.if_icmp .eq v, nx, tg, q) pc ls st n M K) (hK : ∀ d, K d → aWA mt p l e R s m args below meth c A D σ0 n0 Q Fz d) : aWA mt p l e R s m args below meth c A D σ0 n0 Q Fz (pc, ls, st, n, M) := by
  obtain ⟨rfl, hdg⟩ := ln_1 (k := 3) hd hln rfl (by decide)
  simp only [sI] at h
  split at h
  · exact so_br hpc hnx htg (fun z => hK _ (h.1 z)) (fun z => hK _ (h.2 z)) (fun σ la H locs cells slots kt kf => lv_icmp_eq (cx_x C) (cx_b C) hdg hv kt kf)
  · exact h.elim
theorem so_icmp_ne {v : Int} (C : aCx mt lv p l e R s m args below meth c A D σ0 n0 Q Fz) (hd : decode mt.2.1 pc = .ok (.if_icmp .ne v, nx - pc)) (hln : lenI (.if_icmp .ne v) = 0 ∨ nx = pc + lenI (.if_icmp .ne v)) (hpc : pc < aRET) (hnx : nx < aRET) (htg : tg < aRET) (hv : (pc : Int) + v = (tg : Int)) (h : sI mt (.if_icmp .ne v, nx, tg, q) pc ls st n M K) (hK : ∀ d, K d → aWA mt p l e R s m args below meth c A D σ0 n0 Q Fz d) : aWA mt p l e R s m args below meth c A D σ0 n0 Q Fz (pc, ls, st, n, M) := by
  obtain ⟨rfl, hdg⟩ := ln_1 (k := 3) hd hln rfl (by decide)
  simp only [sI] at h
  split at h
  · exact so_br hpc hnx htg (fun z => hK _ (h.1 z)) (fun z => hK _ (h.2 z)) (fun σ la H locs cells slots kt kf => lv_icmp_ne (cx_x C) (cx_b C) hdg hv kt (fun z => kf (fun q => q z)))
  · exact h.elim
theorem so_icmp_lt {v : Int} (C : aCx mt lv p l e R s m args below meth c A D σ0 n0 Q Fz) (hd : decode mt.2.1 pc = .ok (.if_icmp .lt v, nx - pc)) (hln : lenI (.if_icmp .lt v) = 0 ∨ nx = pc + lenI (.if_icmp .lt v)) (hpc : pc < aRET) (hnx : nx < aRET) (htg : tg < aRET) (hv : (pc : Int) + v = (tg : Int)) (h : sI mt (.if_icmp .lt v, nx, tg, q) pc ls st n M K) (hK : ∀ d, K d → aWA mt p l e R s m args below meth c A D σ0 n0 Q Fz d) : aWA mt p l e R s m args below meth c A D σ0 n0 Q Fz (pc, ls, st, n, M) := by
  obtain ⟨rfl, hdg⟩ := ln_1 (k := 3) hd hln rfl (by decide)
  simp only [sI] at h
  split at h
  · exact so_br hpc hnx htg (fun z => hK _ (h.1 z)) (fun z => hK _ (h.2 z)) (fun σ la H locs cells slots kt kf => lv_icmp_lt (cx_x C) (cx_b C) hdg hv kt kf)
  · exact h.elim
theorem so_icmp_ge {v : Int} (C : aCx mt lv p l e R s m args below meth c A D σ0 n0 Q Fz) (hd : decode mt.2.1 pc = .ok (.if_icmp .ge v, nx - pc)) (hln : lenI (.if_icmp .ge v) = 0 ∨ nx = pc + lenI (.if_icmp .ge v)) (hpc : pc < aRET) (hnx : nx < aRET) (htg : tg < aRET) (hv : (pc : Int) + v = (tg : Int)) (h : sI mt (.if_icmp .ge v, nx, tg, q) pc ls st n M K) (hK : ∀ d, K d → aWA mt p l e R s m args below meth c A D σ0 n0 Q Fz d) : aWA mt p l e R s m args below meth c A D σ0 n0 Q Fz (pc, ls, st, n, M) := by
  obtain ⟨rfl, hdg⟩ := ln_1 (k := 3) hd hln rfl (by decide)
  simp only [sI] at h
  split at h
  · exact so_br hpc hnx htg (fun z => hK _ (h.1 z)) (fun z => hK _ (h.2 z)) (fun σ la H locs cells slots kt kf => lv_icmp_ge (cx_x C) (cx_b C) hdg hv kt kf)
  · exact h.elim
theorem so_icmp_gt {v : Int} (C : aCx mt lv p l e R s m args below meth c A D σ0 n0 Q Fz) (hd : decode mt.2.1 pc = .ok (.if_icmp .gt v, nx - pc)) (hln : lenI (.if_icmp .gt v) = 0 ∨ nx = pc + lenI (.if_icmp .gt v)) (hpc : pc < aRET) (hnx : nx < aRET) (htg : tg < aRET) (hv : (pc : Int) + v = (tg : Int)) (h : sI mt (.if_icmp .gt v, nx, tg, q) pc ls st n M K) (hK : ∀ d, K d → aWA mt p l e R s m args below meth c A D σ0 n0 Q Fz d) : aWA mt p l e R s m args below meth c A D σ0 n0 Q Fz (pc, ls, st, n, M) := by
  obtain ⟨rfl, hdg⟩ := ln_1 (k := 3) hd hln rfl (by decide)
  simp only [sI] at h
  split at h
  · exact so_br hpc hnx htg (fun z => hK _ (h.1 z)) (fun z => hK _ (h.2 z)) (fun σ la H locs cells slots kt kf => lv_icmp_gt (cx_x C) (cx_b C) hdg hv kt kf)
  · exact h.elim
theorem so_icmp_le {v : Int} (C : aCx mt lv p l e R s m args below meth c A D σ0 n0 Q Fz) (hd : decode mt.2.1 pc = .ok (.if_icmp .le v, nx - pc)) (hln : lenI (.if_icmp .le v) = 0 ∨ nx = pc + lenI (.if_icmp .le v)) (hpc : pc < aRET) (hnx : nx < aRET) (htg : tg < aRET) (hv : (pc : Int) + v = (tg : Int)) (h : sI mt (.if_icmp .le v, nx, tg, q) pc ls st n M K) (hK : ∀ d, K d → aWA mt p l e R s m args below meth c A D σ0 n0 Q Fz d) : aWA mt p l e R s m args below meth c A D σ0 n0 Q Fz (pc, ls, st, n, M) := by
  obtain ⟨rfl, hdg⟩ := ln_1 (k := 3) hd hln rfl (by decide)
  simp only [sI] at h
  split at h
  · exact so_br hpc hnx htg (fun z => hK _ (h.1 z)) (fun z => hK _ (h.2 z)) (fun σ la H locs cells slots kt kf => lv_icmp_le (cx_x C) (cx_b C) hdg hv kt kf)
  · exact h.elim
theorem so_ldc {v : Nat} (C : aCx mt lv p l e R s m args below meth c A D σ0 n0 Q Fz) (hd : decode mt.2.1 pc = .ok (.ldc v, nx - pc)) (hln : lenI (.ldc v) = 0 ∨ nx = pc + lenI (.ldc v)) (hpc : pc < aRET) (hnx : nx < aRET) (htg : tg < aRET) (hv : lkW mt.1.cls v q) (h : sI mt (.ldc v, nx, tg, q) pc ls st n M K) (hK : ∀ d, K d → aWA mt p l e R s m args below meth c A D σ0 n0 Q Fz d) : aWA mt p l e R s m args below meth c A D σ0 n0 Q Fz (pc, ls, st, n, M) := by
  obtain ⟨rfl, hdg⟩ := ln_1 (k := 2) hd hln rfl (by decide)
  simp only [sI] at h
  obtain ⟨q1, q2, q3, q4⟩ := q
  dsimp only at h hv
  split at h
  · exact so_pure hpc hnx (hK _ h) (fun σ la H locs cells slots hl hS hO k => lv_ldc (cx_x C) (cx_b C) (cx_own C) (cx_ts C hv) hdg k)
  · refine so_pure hpc hnx (hK _ h) (fun σ la H locs cells slots hl hS hO k => ?_)
    have h1 := C.2.2.2.1.2.2.1 _ hv.2
    dsimp only at h1
    rw [← hO (100 + q2) (Or.inr (by omega))] at h1
    exact va_ldcS (cx_x C) (cx_b C) (cx_own C) h1 hdg k
  · exact h.elim
theorem so_ldc_w {v : Nat} (C : aCx mt lv p l e R s m args below meth c A D σ0 n0 Q Fz) (hd : decode mt.2.1 pc = .ok (.ldc_w v, nx - pc)) (hln : lenI (.ldc_w v) = 0 ∨ nx = pc + lenI (.ldc_w v)) (hpc : pc < aRET) (hnx : nx < aRET) (htg : tg < aRET) (hv : lkW mt.1.cls v q) (h : sI mt (.ldc_w v, nx, tg, q) pc ls st n M K) (hK : ∀ d, K d → aWA mt p l e R s m args below meth c A D σ0 n0 Q Fz d) : aWA mt p l e R s m args below meth c A D σ0 n0 Q Fz (pc, ls, st, n, M) := by
  obtain ⟨rfl, hdg⟩ := ln_1 (k := 3) hd hln rfl (by decide)
  simp only [sI] at h
  obtain ⟨q1, q2, q3, q4⟩ := q
  dsimp only at h hv
  split at h
  · exact so_pure hpc hnx (hK _ h) (fun σ la H locs cells slots hl hS hO k => lv_ldcw (cx_x C) (cx_b C) (cx_own C) (cx_ts C hv) hdg k)
  · exact h.elim
theorem so_ldc2_w {v : Nat} (C : aCx mt lv p l e R s m args below meth c A D σ0 n0 Q Fz) (hd : decode mt.2.1 pc = .ok (.ldc2_w v, nx - pc)) (hln : lenI (.ldc2_w v) = 0 ∨ nx = pc + lenI (.ldc2_w v)) (hpc : pc < aRET) (hnx : nx < aRET) (htg : tg < aRET) (hv : lkW mt.1.cls v q) (h : sI mt (.ldc2_w v, nx, tg, q) pc ls st n M K) (hK : ∀ d, K d → aWA mt p l e R s m args below meth c A D σ0 n0 Q Fz d) : aWA mt p l e R s m args below meth c A D σ0 n0 Q Fz (pc, ls, st, n, M) := by
  obtain ⟨rfl, hdg⟩ := ln_1 (k := 3) hd hln rfl (by decide)
  simp only [sI] at h
  obtain ⟨q1, q2, q3, q4⟩ := q
  dsimp only at h hv
  split at h
  · exact so_pure hpc hnx (hK _ h) (fun σ la H locs cells slots hl hS hO k => lv_ldc2 (cx_x C) (cx_b C) (cx_own C) (cx_ts C hv) hdg k)
  · exact h.elim
theorem so_getstatic {v : Nat} (C : aCx mt lv p l e R s m args below meth c A D σ0 n0 Q Fz) (hd : decode mt.2.1 pc = .ok (.getstatic v, nx - pc)) (hln : lenI (.getstatic v) = 0 ∨ nx = pc + lenI (.getstatic v)) (hpc : pc < aRET) (hnx : nx < aRET) (htg : tg < aRET) (hv : lkW mt.1.cls v q) (h : sI mt (.getstatic v, nx, tg, q) pc ls st n M K) (hK : ∀ d, K d → aWA mt p l e R s m args below meth c A D σ0 n0 Q Fz d) : aWA mt p l e R s m args below meth c A D σ0 n0 Q Fz (pc, ls, st, n, M) := by
  obtain ⟨rfl, hdg⟩ := ln_1 (k := 3) hd hln rfl (by decide)
  simp only [sI] at h
  obtain ⟨q1, q2, q3, q4⟩ := q
  dsimp only at h hv
  split at h
  · refine so_pure hpc hnx (hK _ h) (fun σ la H locs cells slots hl hS hO k => ?_)
    have h1 := (C.2.2.2.1.1 q2 hv.1.1 hv.1.2).1
    rw [← hO q2 (Or.inr (Nat.le_trans (by omega) hv.1.1))] at h1
    exact va_gets (cx_x C) (cx_b C) h1 hS (cx_own C) (cx_ts C hv.2) (fun _ z => z) hdg k
  · refine so_pure hpc hnx (hK _ h) (fun σ la H locs cells slots hl hS hO k => ?_)
    have h1 := (C.2.2.2.1.1 q2 hv.1.1 hv.1.2).1
    rw [← hO q2 (Or.inr (Nat.le_trans (by omega) hv.1.1))] at h1
    exact va_getsN (cx_x C) (cx_b C) h1 hS (cx_own C) (va_Nw.use rfl (C.2.2.2.1.2.2.2.1 _ hv.2)) (fun _ z => z) hdg k
  · exact so_pure hpc hnx (hK _ h) (fun σ la H locs cells slots hl hS hO k => va_gets (cx_x C) (cx_b C) C.2.2.2.1.2.2.2.2.1 hS (cx_own C) (cx_ts C hv) (fun _ z => z) hdg k)
  · rcases C.2.2.2.1.2.2.2.2.2.2 with z | z
    · exact so_pure hpc hnx (hK _ h.1) (fun σ la H locs cells slots hl hS hO k => va_gets (cx_x C) (cx_b C) z hS (cx_own C) (cx_ts C hv) (fun _ z => z) hdg k)
    · refine so_pure hpc hnx (hK _ h.2) (fun σ la H locs cells slots hl hS hO k => ?_)
      rw [← hO 500 (Or.inr (by omega))] at z
      exact va_gets (cx_x C) (cx_b C) z hS (cx_own C) (cx_ts C hv) (fun _ z => z) hdg k
  · exact h.elim
theorem so_tsw {d lo hi : Int} {offs : Array Int} (C : aCx mt lv p l e R s m args below meth c A D σ0 n0 Q Fz) (hd : decode mt.2.1 pc = .ok (.tableswitch d lo hi offs, nx - pc)) (hln : lenI (.tableswitch d lo hi offs) = 0 ∨ nx = pc + lenI (.tableswitch d lo hi offs)) (hpc : pc < aRET) (hnx : nx < aRET) (htg : tg < aRET) (hv : (lo = (Int32.ofInt lo).toInt ∧ hi = lo + offs.toList.length - 1 ∧ hi < 2147483647) ∧ ∀ o ∈ d :: offs.toList, 0 ≤ (pc : Int) + o ∧ (pc : Int) + o < 99999) (h : sI mt (.tableswitch d lo hi offs, nx, tg, q) pc ls st n M K) (hK : ∀ d, K d → aWA mt p l e R s m args below meth c A D σ0 n0 Q Fz d) : aWA mt p l e R s m args below meth c A D σ0 n0 Q Fz (pc, ls, st, n, M) := by
  simp only [sI] at h
  obtain ⟨⟨hlo, hhi, hmx⟩, hoff⟩ := hv
  split at h
  · next x st =>
    have hS := sw_sound _ _ h (by rw [← hlo]; omega)
    rw [← hlo] at hS
    rcases hS with ⟨j, o, h1, h2, h3⟩ | ⟨h1, h2⟩
    · have hj : j < offs.toList.length := (List.getElem?_eq_some_iff.mp h1).1
      have ho := hoff o (List.mem_cons_of_mem _ (List.mem_of_getElem? h1))
      have e1 : ((((pc : Int) + o).toNat : Nat) : Int) = (pc : Int) + o := Int.toNat_of_nonneg ho.1
      refine so_pure hpc (nx := ((pc : Int) + o).toNat) (by show _ < 99999; omega) (hK _ h3) (fun σ la H locs cells slots hl hS hO k => lv_tableIn (cx_x C) (cx_b C) hd (by omega) (by omega) (off := o) ?_ e1.symm k)
      rw [h2, show (lo + (j : Int) - lo).toNat = j by omega, ← Array.getElem?_toList]
      exact h1
    · have ho := hoff d List.mem_cons_self
      have e1 : ((((pc : Int) + d).toNat : Nat) : Int) = (pc : Int) + d := Int.toNat_of_nonneg ho.1
      exact so_pure hpc (nx := ((pc : Int) + d).toNat) (by show _ < 99999; omega) (hK _ h2) (fun σ la H locs cells slots hl hS hO k => lv_tableOut (cx_x C) (cx_b C) hd (by omega) e1.symm k)
  · exact h.elim
theorem so_ireturn (C : aCx mt lv p l e R s m args below meth c A D σ0 n0 Q Fz) (hd : decode mt.2.1 pc = .ok (.ireturn, nx - pc)) (hln : lenI (.ireturn) = 0 ∨ nx = pc + lenI (.ireturn)) (hpc : pc < aRET) (h : sI mt (.ireturn, nx, tg, q) pc ls st n M K) (hK : ∀ d, K d → aWA mt p l e R s m args below meth c A D σ0 n0 Q Fz d) : aWA mt p l e R s m args below meth c A D σ0 n0 Q Fz (pc, ls, st, n, M) := by
  obtain ⟨rfl, hdg⟩ := ln_1 (k := 1) hd hln rfl (by decide)
  simp only [sI] at h
  have fin : ∀ {st : List Value}, retI mt (.ireturn) st → K (aRET, [], st, n, M) → aWA mt p l e R s m args below meth c A D σ0 n0 Q Fz (pc, ls, st, n, M) := fun hr hk => ⟨fun z => absurd z (Nat.ne_of_lt hpc), fun _ σ τ H locs la hF _ _ => C.2.2.2.2.2.2.2.2 pc _ _ n M σ τ H locs la hr hdg ((hK _ hk).1 rfl) hF⟩
  split at h
  · split at h
    · next hr => exact fin ⟨_, hr, rfl⟩ h
    · next hr => exact fin ⟨_, hr, by rcases h.1 with z | z <;> rw [z] <;> rfl⟩ h.2
    · next hr => exact fin ⟨_, hr, h.1⟩ h.2
    · next hr => exact fin ⟨_, hr, h.1⟩ h.2
    · exact h.elim
  · exact h.elim
theorem so_lreturn (C : aCx mt lv p l e R s m args below meth c A D σ0 n0 Q Fz) (hd : decode mt.2.1 pc = .ok (.lreturn, nx - pc)) (hln : lenI (.lreturn) = 0 ∨ nx = pc + lenI (.lreturn)) (hpc : pc < aRET) (h : sI mt (.lreturn, nx, tg, q) pc ls st n M K) (hK : ∀ d, K d → aWA mt p l e R s m args below meth c A D σ0 n0 Q Fz d) : aWA mt p l e R s m args below meth c A D σ0 n0 Q Fz (pc, ls, st, n, M) := by
  obtain ⟨rfl, hdg⟩ := ln_1 (k := 1) hd hln rfl (by decide)
  simp only [sI] at h
  have fin : ∀ {st : List Value}, retI mt (.lreturn) st → K (aRET, [], st, n, M) → aWA mt p l e R s m args below meth c A D σ0 n0 Q Fz (pc, ls, st, n, M) := fun hr hk => ⟨fun z => absurd z (Nat.ne_of_lt hpc), fun _ σ τ H locs la hF _ _ => C.2.2.2.2.2.2.2.2 pc _ _ n M σ τ H locs la hr hdg ((hK _ hk).1 rfl) hF⟩
  split at h
  · split at h
    · next hr => exact fin hr h
    · exact h.elim
  · exact h.elim
theorem so_areturn (C : aCx mt lv p l e R s m args below meth c A D σ0 n0 Q Fz) (hd : decode mt.2.1 pc = .ok (.areturn, nx - pc)) (hln : lenI (.areturn) = 0 ∨ nx = pc + lenI (.areturn)) (hpc : pc < aRET) (h : sI mt (.areturn, nx, tg, q) pc ls st n M K) (hK : ∀ d, K d → aWA mt p l e R s m args below meth c A D σ0 n0 Q Fz d) : aWA mt p l e R s m args below meth c A D σ0 n0 Q Fz (pc, ls, st, n, M) := by
  obtain ⟨rfl, hdg⟩ := ln_1 (k := 1) hd hln rfl (by decide)
  simp only [sI] at h
  have fin : ∀ {st : List Value}, retI mt (.areturn) st → K (aRET, [], st, n, M) → aWA mt p l e R s m args below meth c A D σ0 n0 Q Fz (pc, ls, st, n, M) := fun hr hk => ⟨fun z => absurd z (Nat.ne_of_lt hpc), fun _ σ τ H locs la hF _ _ => C.2.2.2.2.2.2.2.2 pc _ _ n M σ τ H locs la hr hdg ((hK _ hk).1 rfl) hF⟩
  split at h
  · split at h
    · next hr => exact fin ⟨_, hr⟩ h
    · exact h.elim
  · exact h.elim
theorem so_return_ (C : aCx mt lv p l e R s m args below meth c A D σ0 n0 Q Fz) (hd : decode mt.2.1 pc = .ok (.return_, nx - pc)) (hln : lenI (.return_) = 0 ∨ nx = pc + lenI (.return_)) (hpc : pc < aRET) (h : sI mt (.return_, nx, tg, q) pc ls st n M K) (hK : ∀ d, K d → aWA mt p l e R s m args below meth c A D σ0 n0 Q Fz d) : aWA mt p l e R s m args below meth c A D σ0 n0 Q Fz (pc, ls, st, n, M) := by
  obtain ⟨rfl, hdg⟩ := ln_1 (k := 1) hd hln rfl (by decide)
  simp only [sI] at h
  have fin : ∀ {st : List Value}, retI mt (.return_) st → K (aRET, [], st, n, M) → aWA mt p l e R s m args below meth c A D σ0 n0 Q Fz (pc, ls, st, n, M) := fun hr hk => ⟨fun z => absurd z (Nat.ne_of_lt hpc), fun _ σ τ H locs la hF _ _ => C.2.2.2.2.2.2.2.2 pc _ _ n M σ τ H locs la hr hdg ((hK _ hk).1 rfl) hF⟩
  split at h
  · split at h
    · next hr => exact fin hr h
    · exact h.elim
  · exact h.elim
end SO3
