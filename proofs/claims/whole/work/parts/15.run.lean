/-! ===== the step function with its parts apart, for walking; printed by wip/whole/mk15.py ===== -/
abbrev aK : Type := Nat → List (Option Value) → List Value → Nat → (Nat → Nat → Int32) → (Nat → Nat → Int64) → (Nat → Nat → Option Nat) → Prop
/-- lists of locals laid out -/
def kpK : Option Value → (Option Value → Prop) → Prop
  | some (.long _), k => k none
  | some (.double _), k => k none
  | some v, k => k (some v)
  | none, k => k none
def puK : List (Option Value) → Nat → Value → (List (Option Value) → Prop) → Prop
  | [], _, _, k => k []
  | _ :: t, 0, v, k => k (some v :: t)
  | a :: t, 1, v, k => kpK a (fun a => puK t 0 v (fun t => k (a :: t)))
  | a :: t, n + 2, v, k => puK t (n + 1) v (fun t => k (a :: t))
def puK2 : List (Option Value) → Nat → Value → (List (Option Value) → Prop) → Prop
  | [], _, _, k => k []
  | [_], _, _, k => k []
  | _ :: _ :: t, 0, v, k => k (some v :: none :: t)
  | a :: b :: t, 1, v, k => kpK a (fun a => puK2 (b :: t) 0 v (fun t => k (a :: t)))
  | a :: b :: t, n + 2, v, k => puK2 (b :: t) (n + 1) v (fun t => k (a :: t))
def rfK (x : Option Nat) (k1 : Nat → Prop) (k2 : Prop) : Prop := match x with
  | some a => k1 a
  | none => k2
theorem kpK_eq {a : Option Value} {k : Option Value → Prop} : kpK a k = k (kpL a) := by
  cases a with
  | none => rfl
  | some v => cases v <;> rfl
theorem puK_eq {v : Value} : ∀ (ls : List (Option Value)) (i : Nat) (k : List (Option Value) → Prop), puK ls i v k = k (puL ls i v) := by
  intro ls
  induction ls with
  | nil => intro i k; simp [puK, puL]
  | cons a t ih =>
    intro i k
    match i with
    | 0 => simp [puK, puL]
    | 1 => simp only [puK, puL, kpK_eq, ih]
    | i + 2 => simp only [puK, puL, ih]
theorem puK2_eq {v : Value} : ∀ (ls : List (Option Value)) (i : Nat) (k : List (Option Value) → Prop), puK2 ls i v k = k (puL2 ls i v) := by
  intro ls
  induction ls with
  | nil => intro i k; simp [puK2, puL2]
  | cons a t ih =>
    intro i k
    cases t with
    | nil => simp [puK2, puL2]
    | cons b t =>
      match i with
      | 0 => simp [puK2, puL2]
      | 1 => simp only [puK2, puL2, kpK_eq, ih]
      | i + 2 => simp only [puK2, puL2, ih]
theorem rfK_eq {x : Option Nat} {f : Value → Prop} : rfK x (fun a => f (.ref a)) (f .null) = f (va_rf x) := by
  cases x <;> rfl
def sJ (mt : aM) (e : aI) (pc : Nat) (ls : List (Option Value)) (st : List Value) (n : Nat) (h : Nat → Nat → Int32) (g : Nat → Nat → Int64) (r : Nat → Nat → Option Nat) (K : aK) : Prop :=
  match e with
  | (i, nx, tg, (q1, q2, q3, q4)) => match i with
    | .iconst _ => K nx ls (.int q4 :: st) n h g r
    | .bipush _ => K nx ls (.int q4 :: st) n h g r
    | .sipush _ => K nx ls (.int q4 :: st) n h g r
    | .lconst _ => match q2 with
      | 0 => K nx ls (.long 0 :: st) n h g r
      | _ => K nx ls (.long 1 :: st) n h g r
    | .ldc _ => match q1 with
      | 2 => K nx ls (.int q4 :: st) n h g r
      | 7 => K nx ls (.ref (100 + q2) :: st) n h g r
      | _ => False
    | .ldc_w _ => match q1 with
      | 2 => K nx ls (.int q4 :: st) n h g r
      | _ => False
    | .ldc2_w _ => match q1 with
      | 3 => K nx ls (.long q4.toInt64 :: st) n h g r
      | _ => False
    | .iload _ => match geL ls q2 with
      | some (.int x) => K nx ls (.int x :: st) n h g r
      | _ => False
    | .iload_n _ => match geL ls q2 with
      | some (.int x) => K nx ls (.int x :: st) n h g r
      | _ => False
    | .aload _ => match geL ls q2 with
      | some (.ref x) => K nx ls (.ref x :: st) n h g r
      | _ => False
    | .aload_n _ => match geL ls q2 with
      | some (.ref x) => K nx ls (.ref x :: st) n h g r
      | _ => False
    | .lload _ => match geL ls q2 with
      | some (.long x) => K nx ls (.long x :: st) n h g r
      | _ => False
    | .lload_n _ => match geL ls q2 with
      | some (.long x) => K nx ls (.long x :: st) n h g r
      | _ => False
    | .istore _ => match st with
      | .int x :: st => puK ls q2 (.int x) (fun ls => K nx ls st n h g r)
      | _ => False
    | .istore_n _ => match st with
      | .int x :: st => puK ls q2 (.int x) (fun ls => K nx ls st n h g r)
      | _ => False
    | .astore _ => match st with
      | .ref x :: st => puK ls q2 (.ref x) (fun ls => K nx ls st n h g r)
      | _ => False
    | .astore_n _ => match st with
      | .ref x :: st => puK ls q2 (.ref x) (fun ls => K nx ls st n h g r)
      | _ => False
    | .lstore _ => match st with
      | .long x :: st => puK2 ls q2 (.long x) (fun ls => K nx ls st n h g r)
      | _ => False
    | .lstore_n _ => match st with
      | .long x :: st => puK2 ls q2 (.long x) (fun ls => K nx ls st n h g r)
      | _ => False
    | .iinc _ _ => match geL ls q2 with
      | some (.int x) => puK ls q2 (.int (x + q4)) (fun ls => K nx ls st n h g r)
      | _ => False
    | .iadd => match st with
      | .int y :: .int x :: st => K nx ls (.int (x + y) :: st) n h g r
      | _ => False
    | .isub => match st with
      | .int y :: .int x :: st => K nx ls (.int (x - y) :: st) n h g r
      | _ => False
    | .imul => match st with
      | .int y :: .int x :: st => K nx ls (.int (x * y) :: st) n h g r
      | _ => False
    | .iand => match st with
      | .int y :: .int x :: st => K nx ls (.int (x &&& y) :: st) n h g r
      | _ => False
    | .ior => match st with
      | .int y :: .int x :: st => K nx ls (.int (x ||| y) :: st) n h g r
      | _ => False
    | .ixor => match st with
      | .int y :: .int x :: st => K nx ls (.int (x ^^^ y) :: st) n h g r
      | _ => False
    | .ishl => match st with
      | .int y :: .int x :: st => K nx ls (.int (x <<< (y &&& 31)) :: st) n h g r
      | _ => False
    | .ishr => match st with
      | .int y :: .int x :: st => K nx ls (.int (x >>> (y &&& 31)) :: st) n h g r
      | _ => False
    | .iushr => match st with
      | .int y :: .int x :: st => K nx ls (.int (jush x y) :: st) n h g r
      | _ => False
    | .idiv => match st with
      | .int y :: .int x :: st => y ≠ 0 ∧ K nx ls (.int (x / y) :: st) n h g r
      | _ => False
    | .irem => match st with
      | .int y :: .int x :: st => y ≠ 0 ∧ K nx ls (.int (jrem x y) :: st) n h g r
      | _ => False
    | .ladd => match st with
      | .long y :: .long x :: st => K nx ls (.long (x + y) :: st) n h g r
      | _ => False
    | .lsub => match st with
      | .long y :: .long x :: st => K nx ls (.long (x - y) :: st) n h g r
      | _ => False
    | .lmul => match st with
      | .long y :: .long x :: st => K nx ls (.long (x * y) :: st) n h g r
      | _ => False
    | .ldiv => match st with
      | .long y :: .long x :: st => y ≠ 0 ∧ K nx ls (.long (x / y) :: st) n h g r
      | _ => False
    | .lrem => match st with
      | .long y :: .long x :: st => y ≠ 0 ∧ K nx ls (.long (jremL x y) :: st) n h g r
      | _ => False
    | .lcmp => match st with
      | .long y :: .long x :: st => K nx ls (.int (lg_cmp x y) :: st) n h g r
      | _ => False
    | .i2l => match st with
      | .int x :: st => K nx ls (.long x.toInt64 :: st) n h g r
      | _ => False
    | .l2i => match st with
      | .long x :: st => K nx ls (.int x.toInt32 :: st) n h g r
      | _ => False
    | .i2b => match st with
      | .int x :: st => K nx ls (.int x.toInt8.toInt32 :: st) n h g r
      | _ => False
    | .i2s => match st with
      | .int x :: st => K nx ls (.int x.toInt16.toInt32 :: st) n h g r
      | _ => False
    | .i2c => match st with
      | .int x :: st => K nx ls (.int (jchr x) :: st) n h g r
      | _ => False
    | .dup => match st with
      | .int x :: st => K nx ls (.int x :: .int x :: st) n h g r
      | .ref x :: st => K nx ls (.ref x :: .ref x :: st) n h g r
      | _ => False
    | .dup2 => match st with
      | .int y :: .ref x :: st => K nx ls (.int y :: .ref x :: .int y :: .ref x :: st) n h g r
      | .int y :: .int x :: st => K nx ls (.int y :: .int x :: .int y :: .int x :: st) n h g r
      | _ => False
    | .pop => match st with
      | .int _ :: st => K nx ls st n h g r
      | .ref _ :: st => K nx ls st n h g r
      | _ => False
    | .goto _ => K tg ls st n h g r
    | .ifCond c _ => match st with
      | .int x :: st => br2 (cmpP c x 0) (K tg ls st n h g r) (K nx ls st n h g r)
      | _ => False
    | .if_icmp c _ => match st with
      | .int y :: .int x :: st => br2 (cmpP c x y) (K tg ls st n h g r) (K nx ls st n h g r)
      | _ => False
    | .tableswitch d lo _ offs => match st with
      | .int x :: st => swK x pc (K (((pc : Int) + d).toNat) ls st n h g r) (fun t => K t ls st n h g r) offs.toList (Int32.ofInt lo)
      | _ => False
    | .getfield _ => match st with
      | .ref o :: st => match q1 with
        | 1 => match shp o with
          | (0, ci) => match Nat.beq ci q2 && Nat.blt o n with
            | true => match isRf ci q3 with
              | true => rfK (r o q3) (fun x => K nx ls (.ref x :: st) n h g r) (K nx ls (.null :: st) n h g r)
              | false => K nx ls (.int (h o q3) :: st) n h g r
            | false => False
          | _ => False
        | 8 => match shp o with
          | (4, _) => K nx ls (.ref (o + 100) :: st) n h g r
          | _ => False
        | 9 => match shp o with
          | (4, _) => K nx ls (.int 0 :: st) n h g r
          | _ => False
        | _ => False
      | _ => False
    | .putfield _ => match st with
      | .int x :: .ref o :: st => match q1 with
        | 1 => match shp o with
          | (0, ci) => match Nat.beq ci q2 && Nat.blt o n && !(isRf ci q3) && !(tbC ci q3).2.2.2 with
            | true => (isBl ci q3 = true → x = 0 ∨ x = 1) ∧ K nx ls st n (up2 h o q3 x) g r
            | false => False
          | _ => False
        | _ => False
      | .ref x :: .ref o :: st => match q1 with
        | 1 => match shp o with
          | (0, ci) => match Nat.beq ci q2 && Nat.blt o n && isRf ci q3 && (tbC ci q3).2.2.2 && Nat.blt x n with
            | true => (mt.1.name = "<init>" ∧ (tbC ci q3).1 = mt.1.cls) ∧ K nx ls st n h g (up2 r o q3 (some x))
            | false => False
          | _ => False
        | _ => False
      | _ => False
    | .getstatic _ => match q1 with
      | 5 => K nx ls (.ref q2 :: st) n h g r
      | 6 => K nx ls (.ref q2 :: st) n h g r
      | 10 => K nx ls (.int 1 :: st) n h g r
      | 14 => K nx ls (.null :: st) n h g r ∧ K nx ls (.ref 500 :: st) n h g r
      | _ => False
    | .iaload => match st with
      | .int i :: .ref o :: st => match shp o with
        | (1, z) => match Nat.blt o n with
          | true => vp_in i z ∧ K nx ls (.int (h o i.toNatClampNeg) :: st) n h g r
          | false => False
        | (6, z) => vp_in i z ∧ K nx ls (.int (sar o i.toNatClampNeg) :: st) n h g r
        | (7, _) => vp_in i (mt.2.2.2.2.1.1 - 1) ∧ K nx ls (.int (mt.2.2.2.2.1.2.1 i.toNatClampNeg) :: st) n h g r
        | _ => False
      | _ => False
    | .baload => match st with
      | .int i :: .ref o :: st => match shp o with
        | (5, z) => vp_in i z ∧ K nx ls (.int ((strByt.getD (o - 200) []).getD i.toNatClampNeg 0) :: st) n h g r
        | _ => False
      | _ => False
    | .laload => match st with
      | .int i :: .ref o :: st => match shp o with
        | (2, z) => match Nat.blt o n with
          | true => vp_in i z ∧ K nx ls (.long (g o i.toNatClampNeg) :: st) n h g r
          | false => False
        | _ => False
      | _ => False
    | .aaload => match st with
      | .int i :: .ref o :: st => match shp o with
        | (3, z) => match Nat.blt o n with
          | true => vp_in i z ∧ rfK (r o i.toNatClampNeg) (fun x => K nx ls (.ref x :: st) n h g r) (K nx ls (.null :: st) n h g r)
          | false => False
        | _ => False
      | _ => False
    | .iastore => match st with
      | .int x :: .int i :: .ref o :: st => match shp o with
        | (1, z) => match Nat.blt o n with
          | true => vp_in i z ∧ K nx ls st n (up2 h o i.toNatClampNeg x) g r
          | false => False
        | _ => False
      | _ => False
    | .lastore => match st with
      | .long x :: .int i :: .ref o :: st => match shp o with
        | (2, z) => match Nat.blt o n with
          | true => vp_in i z ∧ K nx ls st n h (up2 g o i.toNatClampNeg x) r
          | false => False
        | _ => False
      | _ => False
    | .aastore => match st with
      | .ref x :: .int i :: .ref o :: st => match shp o with
        | (3, z) => match Nat.blt o n && Nat.blt x n && (match shp x with | (0, 2) => true | _ => false) with
          | true => vp_in i z ∧ K nx ls st n h g (up2 r o i.toNatClampNeg (some x))
          | false => False
        | _ => False
      | _ => False
    | .arraylength => match st with
      | .ref o :: st => match shp o with
        | (1, z) => match Nat.blt o n with
          | true => K nx ls (.int (Int32.ofNat z) :: st) n h g r
          | false => False
        | (5, z) => K nx ls (.int (Int32.ofNat z) :: st) n h g r
        | (7, _) => match mt.2.2.2.2.1.1 with
          | L + 1 => K nx ls (.int (Int32.ofNat L) :: st) n h g r
          | 0 => False
        | _ => False
      | _ => False
    | .new _ => match q1 with
      | 4 => match shp n with
        | (0, ci) => match Nat.beq ci q2 && Nat.blt n mt.2.2.2.2.1.2.2 && nrS n ls st with
          | true => K nx ls (.ref n :: st) (n + 1) (rowZ h n 0) g (rowZ r n none)
          | false => False
        | _ => False
      | _ => False
    | .newarray ty => match st with
      | .int x :: st => match ty, shp n with
        | .int, (1, z) => match Nat.blt n mt.2.2.2.2.1.2.2 && nrS n ls st with
          | true => x = Int32.ofNat z ∧ K nx ls (.ref n :: st) (n + 1) (rowZ h n 0) g (rowZ r n none)
          | false => False
        | .long, (2, z) => match Nat.blt n mt.2.2.2.2.1.2.2 && nrS n ls st with
          | true => x = Int32.ofNat z ∧ K nx ls (.ref n :: st) (n + 1) h (rowZ g n 0) (rowZ r n none)
          | false => False
        | _, _ => False
      | _ => False
    | .anewarray _ => match st with
      | .int x :: st => match q1 with
        | 11 => match shp n with
          | (3, z) => match Nat.blt n mt.2.2.2.2.1.2.2 && nrS n ls st with
            | true => x = Int32.ofNat z ∧ K nx ls (.ref n :: st) (n + 1) h g (rowZ r n none)
            | false => False
          | _ => False
        | _ => False
      | _ => False
    | .invokestatic _ => match q1 with
      | 12 => match st with
        | .int w :: .int dp :: .ref b :: .int sp :: .ref a :: st => match shp a, shp b with
          | (1, za), (1, zb) => match Nat.blt a n && Nat.blt b n && Nat.beq st.length 0 with
            | true => (¬ sp < 0 ∧ ¬ dp < 0 ∧ ¬ w < 0 ∧ sp.toNatClampNeg + w.toNatClampNeg ≤ za ∧ dp.toNatClampNeg + w.toNatClampNeg ≤ zb) ∧ K nx ls st n (upR h b (va_cpy (h a) (h b) sp.toNatClampNeg dp.toNatClampNeg w.toNatClampNeg)) g r
            | false => False
          | _, _ => False
        | _ => False
      | _ => False
    | .invokespecial _ => match q1 with
      | 13 => match st with
        | .ref _ :: st => match Nat.beq st.length 0 with
          | true => K nx ls st n h g r
          | false => False
        | _ => False
      | _ => False
    | .ireturn => match st with
      | [.int x] => match mt.2.2.2.1 with
        | some .int => K aRET [] ([.int x]) n h g r
        | some .boolean => (x = 0 ∨ x = 1) ∧ K aRET [] ([.int x]) n h g r
        | some .char => narrow .char (.int x) = .int x ∧ K aRET [] ([.int x]) n h g r
        | some .byte => narrow .byte (.int x) = .int x ∧ K aRET [] ([.int x]) n h g r
        | _ => False
      | _ => False
    | .lreturn => match st with
      | [.long x] => match mt.2.2.2.1 with
        | some .long => K aRET [] ([.long x]) n h g r
        | _ => False
      | _ => False
    | .areturn => match st with
      | [.ref x] => match mt.2.2.2.1 with
        | some (.object _) => K aRET [] ([.ref x]) n h g r
        | _ => False
      | _ => False
    | .return_ => match st with
      | [] => match mt.2.2.2.1 with
        | none => K aRET [] [] n h g r
        | _ => False
      | _ => False
    | _ => False
theorem swK_mono {x : Int32} {pc : Nat} {kd kd' : Prop} {K K' : Nat → Prop} (h0 : kd → kd') (h1 : ∀ t, K t → K' t) : ∀ (l : List Int) (v : Int32), swK x pc kd K l v → swK x pc kd' K' l v := by
  intro l
  induction l with
  | nil => intro v h; exact h0 h
  | cons o t ih => intro v h; exact ⟨fun z => h1 _ (h.1 z), fun z => ih _ (h.2 z)⟩
set_option maxHeartbeats 4000000 in
theorem st1_mono {mt : aM} {cf : aCfg} {K K' : aCfg → Prop} (h : st1 mt cf K) (hK : ∀ d, K d → K' d) : st1 mt cf K' := by
  obtain ⟨pc, ls, st, n, M⟩ := cf
  unfold st1 at h ⊢
  dsimp only at h ⊢
  generalize mt.2.2.2.2.2 pc = eo at h ⊢
  cases eo with
  | none => exact h.elim
  | some en =>
  dsimp only at h ⊢
  obtain ⟨i, nx, tg, q1, q2, q3, q4⟩ := en
  cases i
  case tableswitch d lo hi offs =>
    simp only [sI] at h ⊢
    split at h
    · exact swK_mono (hK _) (fun t => hK _) _ _ h
    · exact h.elim
  all_goals first
    | exact h.elim
    | (simp only [sI] at h ⊢; first
        | exact hK _ h
        | (repeat' split at h)
          all_goals first
            | exact h.elim
            | exact hK _ h
            | exact ⟨h.1, hK _ h.2⟩
            | exact ⟨fun z => hK _ (h.1 z), fun z => hK _ (h.2 z)⟩
            | exact ⟨hK _ h.1, hK _ h.2⟩
            | (simp_all only []; done)
            | (simp_all; done))
def goJ (mt : aM) (cuts : List Nat) : Nat → Nat → List (Option Value) → List Value → Nat → (Nat → Nat → Int32) → (Nat → Nat → Int64) → (Nat → Nat → Option Nat) → aK → Prop
  | 0, pc, ls, st, n, h, g, r, K => K pc ls st n h g r
  | k + 1, pc, ls, st, n, h, g, r, K => match mt.2.2.2.2.2 pc with
    | some en => sJ mt en pc ls st n h g r (fun pc ls st n h g r => match stopB mt cuts pc with
      | true => K pc ls st n h g r
      | false => goJ mt cuts k pc ls st n h g r K)
    | none => False
def aU (K : aK) : aCfg → Prop := fun d => K d.1 d.2.1 d.2.2.1 d.2.2.2.1 d.2.2.2.2.1 d.2.2.2.2.2.1 d.2.2.2.2.2.2
set_option maxHeartbeats 2000000 in
theorem sJ_eq {mt : aM} {e : aI} {pc : Nat} {ls : List (Option Value)} {st : List Value} {n : Nat} {h : Nat → Nat → Int32} {g : Nat → Nat → Int64} {r : Nat → Nat → Option Nat} {K : aK} (z : sJ mt e pc ls st n h g r K) : sI mt e pc ls st n (h, g, r) (aU K) := by
  obtain ⟨i, nx, tg, q1, q2, q3, q4⟩ := e
  cases i
  case istore k => simp only [sJ, puK_eq] at z; exact z
  case istore_n k => simp only [sJ, puK_eq] at z; exact z
  case astore k => simp only [sJ, puK_eq] at z; exact z
  case astore_n k => simp only [sJ, puK_eq] at z; exact z
  case lstore k => simp only [sJ, puK2_eq] at z; exact z
  case lstore_n k => simp only [sJ, puK2_eq] at z; exact z
  case iinc k v => simp only [sJ, puK_eq] at z; exact z
  case getfield k =>
    have e1 : ∀ (x : Option Nat) (st : List Value), rfK x (fun x => K nx ls (.ref x :: st) n h g r) (K nx ls (.null :: st) n h g r) = K nx ls (va_rf x :: st) n h g r := fun x st => rfK_eq (f := fun v => K nx ls (v :: st) n h g r)
    simp only [sJ, e1] at z
    exact z
  case aaload =>
    have e1 : ∀ (x : Option Nat) (st : List Value), rfK x (fun x => K nx ls (.ref x :: st) n h g r) (K nx ls (.null :: st) n h g r) = K nx ls (va_rf x :: st) n h g r := fun x st => rfK_eq (f := fun v => K nx ls (v :: st) n h g r)
    simp only [sJ, e1] at z
    exact z
  all_goals exact z
theorem goJ_eq {mt : aM} {cuts : List Nat} : ∀ (k pc : Nat) (ls : List (Option Value)) (st : List Value) (n : Nat) (h : Nat → Nat → Int32) (g : Nat → Nat → Int64) (r : Nat → Nat → Option Nat) (K : aK), goJ mt cuts k pc ls st n h g r K → go mt cuts k (pc, ls, st, n, h, g, r) (aU K) := by
  intro k
  induction k with
  | zero => intro pc ls st n h g r K z; exact z
  | succ k ih =>
    intro pc ls st n h g r K z
    have z1 : st1 mt (pc, ls, st, n, h, g, r) (aU fun pc ls st n h g r => match stopB mt cuts pc with
      | true => K pc ls st n h g r
      | false => goJ mt cuts k pc ls st n h g r K) := by
      unfold st1
      dsimp only [goJ] at z ⊢
      split at z
      · next hc => rw [hc]; exact sJ_eq z
      · exact z.elim
    refine st1_mono z1 (fun d hd => ?_)
    obtain ⟨pc', ls', st', n', h', g', r'⟩ := d
    simp only [aU] at hd
    dsimp only
    split at hd
    · next hs => rw [hs]; exact hd
    · next hs => rw [hs]; exact ih _ _ _ _ _ _ _ _ hd
/-- a walk up to the next stops -/
theorem Seg.run {mt : aM} {lv : Nat} {pc : Nat} {ls : List (Option Value)} {st : List Value} {n : Nat} {h : Nat → Nat → Int32} {g : Nat → Nat → Int64} {r : Nat → Nat → Option Nat} {b : aCfg} (cuts : List Nat) (k : Nat) (z : goJ mt cuts k pc ls st n h g r (fun pc ls st n h g r => Seg mt lv (pc, ls, st, n, h, g, r) b)) : Seg mt lv (pc, ls, st, n, h, g, r) b := Seg.go cuts k (goJ_eq k pc ls st n h g r _ z)
