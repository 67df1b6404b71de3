/-! ===== what stands outside of the world, out of the Statement's premises ===== -/
theorem eq_ref {args : Array Value} {s : State} {t u : Term} {a : Nat} (h : (Cond.eq t u).before args s = true) (ht : t.eval args s none [] s = some (.ref a)) : u.eval args s none [] s = some (.ref a) := by
  cases hv : u.eval args s none [] s with
  | none => simp [Cond.before, Cond.holds, Cond.value, hv, ht] at h
  | some w =>
    simp only [Cond.before, Cond.holds, Cond.value, hv, ht] at h
    cases w <;> simp_all
/-- the premises, one by one -/
def preL : List Cond := flatC (Jvm.Cond.and given_1 narrow_1)
def strR : List Nat := [85, 87, 89, 91, 93, 95, 97, 99, 104, 122, 139, 141, 149, 164]
def strM : List Nat := [124, 126, 128, 130, 132, 134, 136, 113, 119, 101, 105, 107, 109, 111]
def tmS (i : Nat) : Term := .string RX1 (strR.getD i 0)
set_option maxRecDepth 100000 in
theorem pr_sar : ∀ a, a < 5 → Cond.arrayOf (.static RX5 (sarN (300 + a)) "[I") .int ∈ preL ∧ Cond.eq (.length (.static RX5 (sarN (300 + a)) "[I")) (.int (Int32.ofNat (sarL (300 + a)).length)) ∈ preL ∧ ∀ j, j < (sarL (300 + a)).length → Cond.eq (.elem (.static RX5 (sarN (300 + a)) "[I") (.int (Int32.ofNat j))) (.int (sar (300 + a) j)) ∈ preL := by decide +kernel
set_option maxRecDepth 100000 in
theorem pr_str : ∀ i, i < 14 → Cond.exactly (tmS i) "java/lang/String" ∈ preL ∧ Cond.eq (.field (tmS i) "java/lang/String" "coder" "B") (.int 0) ∈ preL ∧ Cond.arrayOf (.field (tmS i) "java/lang/String" "value" "[B") .byte ∈ preL ∧ Cond.eq (.length (.field (tmS i) "java/lang/String" "value" "[B")) (.int (Int32.ofNat (strLen.getD i 0))) ∈ preL ∧ (∀ j, j < strLen.getD i 0 → Cond.eq (.elem (.field (tmS i) "java/lang/String" "value" "[B") (.int (Int32.ofNat j))) (.int ((strByt.getD i []).getD j 0)) ∈ preL) := by decide +kernel
set_option maxRecDepth 100000 in
theorem pr_one : ∀ i, i < 14 → Cond.eq (tmS i) (.string RX6 (strM.getD i 0)) ∈ preL ∨ Cond.eq (.string RX6 (strM.getD i 0)) (tmS i) ∈ preL := by decide +kernel
set_option maxRecDepth 100000 in
theorem pr_misc : Cond.eq (.static "java/lang/String" "COMPACT_STRINGS" "Z") (.int 1) ∈ preL ∧ Cond.isRef (.static "jdk/internal/util/Preconditions" "SIOOBE_FORMATTER" "Ljava/util/function/BiFunction;") ∈ preL := by decide +kernel
set_option maxRecDepth 100000 in
theorem tb_ext : (∀ a, a < 5 → Cond.laysStatic RX5 (sarN (300 + a)) "[I" ∈ lw_tbl) ∧ Cond.initialized RX5 ∈ lw_tbl ∧ (∀ q ∈ srefs, Cond.stringRef q.1 q.2.1 (strT.getD q.2.2 "") ∈ lw_tbl) ∧ (∀ w ∈ nestw, w ∈ lw_tbl) ∧ Cond.laysStatic "java/lang/String" "COMPACT_STRINGS" "Z" ∈ lw_tbl ∧ Cond.initialized "java/lang/String" ∈ lw_tbl ∧ Cond.arrayOver (.object RX2) ∈ lw_tbl ∧ Cond.laysStatic "jdk/internal/util/Preconditions" "SIOOBE_FORMATTER" "Ljava/util/function/BiFunction;" ∈ lw_tbl ∧ Cond.initialized "jdk/internal/util/Preconditions" ∈ lw_tbl := by decide +kernel
theorem srefs_of : ∀ q ∈ srefs, q.2.2 < 14 ∧ ((q.1 = RX1 ∧ q.2.1 = strR.getD q.2.2 0) ∨ (q.1 = RX6 ∧ q.2.1 = strM.getD q.2.2 0)) := by decide +kernel
theorem str_inj : ∀ i, i < 14 → ∀ j, j < 14 → strLen.getD i 0 = strLen.getD j 0 → (∀ k, k < strLen.getD i 0 → (strByt.getD i []).getD k 0 = (strByt.getD j []).getD k 0) → i = j := by decide +kernel
theorem str_sm : ∀ i, i < 14 → strLen.getD i 0 < 100 := by decide +kernel
