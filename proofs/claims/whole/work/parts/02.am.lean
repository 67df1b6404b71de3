/-! ===== an abstract machine over the kit's rows: the world's cells have fixed numbers (in the order in which they are made), a method's run is said of numbers alone ===== -/
abbrev aMem : Type := (Nat → Nat → Int32) × (Nat → Nat → Int64) × (Nat → Nat → Option Nat)
abbrev aCfg : Type := Nat × List (Option Value) × List Value × Nat × aMem
abbrev aQ : Type := Nat × Nat × Nat × Int32
abbrev aI : Type := Instr × Nat × Nat × aQ
/-- a method: its name, bytes, number of locals, what it returns, a script (the law's alone) and up to which cell it makes new ones, its code -/
abbrev aM : Type := MethodName × ByteArray × Nat × Option FieldType × (Nat × (Nat → Int32) × Nat) × (Nat → Option aI)
def aRET : Nat := 99999
def gw : List Cond := lw_tbl.filter goodWord
theorem gw_in {w : Cond} (h : w ∈ lw_tbl) (g : goodWord w = true) : w ∈ gw := List.mem_filter.mpr ⟨h, g⟩
theorem gw_ok {w : Cond} (h : w ∈ gw) : (w.onTables && w.keeps) = true ∨ ∃ ty, w = .arrayClass ty := good_of_word (List.mem_filter.mp h).2
/-- classes: fields, types -/
def tbC (ci : Nat) : u_T := match ci with
  | 0 => TX0
  | 1 => TX1
  | 2 => TX2
  | 3 => TX3
  | 4 => TX4
  | 5 => TX5
  | _ => TX6
def tyC (ci : Nat) : Nat → FieldType := match ci with
  | 0 => tyX0
  | 1 => tyX1
  | 2 => tyX2
  | 3 => tyX3
  | 4 => tyX4
  | 5 => tyX5
  | _ => tyX6
def nfC (ci : Nat) : Nat := match ci with
  | 0 => 11
  | 1 => 7
  | 2 => 3
  | 3 => 2
  | 4 => 16
  | 5 => 8
  | _ => 21
def nmC (ci : Nat) : String := match ci with
  | 0 => RX0
  | 1 => RX1
  | 2 => RX2
  | 3 => RX3
  | 4 => RX4
  | 5 => RX5
  | _ => RX6
def isRf (ci k : Nat) : Bool := match tyC ci k with
  | .int => false
  | .boolean => false
  | _ => true
def isBl (ci k : Nat) : Bool := match tyC ci k with
  | .boolean => true
  | _ => false
/-- a kind of cell and its size: 0 an object of a class, 1 ints, 2 longs, 3 references -/
def ssz (q : Nat × Nat) : Nat := match q with
  | (0, ci) => nfC ci
  | (_, n) => n
def tyA (q : Nat × Nat) : Option FieldType := match q with
  | (1, _) => some .int
  | (2, _) => some .long
  | (3, _) => some (.object RX2)
  | _ => none
def cv (σ : Nat → Nat) : Value → Value
  | .ref a => .ref (σ a)
  | v => v
theorem cv_cat (σ : Nat → Nat) (v : Value) : (cv σ v).category = v.category := by cases v <;> rfl
theorem cv_rf (σ : Nat → Nat) (r : Option Nat) : cv σ (va_rf r) = va_rf (r.map σ) := by cases r <;> rfl
/-- locals -/
def kpL : Option Value → Option Value
  | some v => if v.category = 2 then none else some v
  | none => none
def puL : List (Option Value) → Nat → Value → List (Option Value)
  | [], _, _ => []
  | _ :: t, 0, v => some v :: t
  | a :: t, 1, v => kpL a :: puL t 0 v
  | a :: t, n + 2, v => a :: puL t (n + 1) v
def puL2 : List (Option Value) → Nat → Value → List (Option Value)
  | [], _, _ => []
  | [_], _, _ => []
  | _ :: _ :: t, 0, v => some v :: none :: t
  | a :: b :: t, 1, v => kpL a :: puL2 (b :: t) 0 v
  | a :: b :: t, n + 2, v => a :: puL2 (b :: t) (n + 1) v
def geL : List (Option Value) → Nat → Option Value
  | [], _ => none
  | a :: _, 0 => a
  | _ :: t, n + 1 => geL t n
def ascF (σ : Nat → Nat) : Nat → List (Option Value) → List (Nat × Value)
  | _, [] => []
  | i, none :: t => ascF σ (i + 1) t
  | i, some v :: t => (i, cv σ v) :: ascF σ (i + 1) t
def enL : List Value → List (Option Value)
  | [] => []
  | v :: t => match v with
    | .long x => some (.long x) :: none :: enL t
    | .double x => some (.double x) :: none :: enL t
    | w => some w :: enL t
def paL : Nat → List (Option Value) → List (Option Value)
  | 0, _ => []
  | n + 1, [] => none :: paL n []
  | n + 1, a :: t => a :: paL n t
/-- memory -/
def up2 {α : Type} (h : Nat → Nat → α) (a k : Nat) (x : α) : Nat → Nat → α := fun b j => if b = a then (if j = k then x else h b j) else h b j
def upR {α : Type} (h : Nat → Nat → α) (a : Nat) (f : Nat → α) : Nat → Nat → α := fun b => if b = a then f else h b
/-- int remainder as the machine reckons it -/
def jrem (x y : Int32) : Int32 := x - x / y * y
def jremL (x y : Int64) : Int64 := x - x / y * y
def jush (x y : Int32) : Int32 := (x.toUInt32 >>> (y.toUInt32 &&& Int32.toUInt32 31)).toInt32
def jchr (x : Int32) : Int32 := (x.toUInt32 % 65536).toInt32
