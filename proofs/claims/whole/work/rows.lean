section
/-! ===== THE ABSTRACT MACHINE: the bytecode over a heap of numbered cells; a reference is a cell's number; the script is retAddr 0, the texts are retAddr 1 and on ===== -/
abbrev av_O : Type := Instr × Nat × Nat
abbrev av_L : Type := List (Option Value)
abbrev av_H : Type := List va_E
abbrev av_F : Type := Nat × av_L × List Value × av_H × Nat × Nat
abbrev av_S : Type := av_F ⊕ (Option Value ⊕ ((Nat × List Value × List Value) ⊕ String))
abbrev av_R : Type := (Option Value ⊕ String) × av_H × Nat × Nat
/-- a method: its name, its bytes, its locals, what it answers, how many values it takes off the stack, its handlers (from, to, at, the entry of the class), their classes, its class's number, whether it may throw -/
abbrev av_M : Type := MethodName × ByteArray × Nat × Option FieldType × Nat × List (Nat × Nat × Nat × Nat) × List String × Nat × Bool
/-- a program: its instructions, its methods, the types of each class's fields, the throws (class), the texts, the script's length and ints -/
abbrev av_P : Type := (Nat → Nat → Option av_O) × (Nat → av_M) × (Nat → List FieldType) × (Nat → String) × (Nat → List Int32) × Nat × (Nat → Int32)
def av_op (P : av_P) : Nat → Nat → Option av_O := P.1
def av_me (P : av_P) : Nat → av_M := P.2.1
def av_ty (P : av_P) : Nat → List FieldType := P.2.2.1
def av_th (P : av_P) : Nat → String := P.2.2.2.1
def av_tx (P : av_P) : Nat → List Int32 := P.2.2.2.2.1
def av_nx (P : av_P) : Nat := P.2.2.2.2.2.1
def av_xs (P : av_P) : Nat → Int32 := P.2.2.2.2.2.2
def av_cmp (k : Jvm.ClassFile.Cond) (x y : Int32) : Bool := match k with
  | .eq => decide (x = y)
  | .ne => decide (x ≠ y)
  | .lt => decide (x < y)
  | .ge => decide (y ≤ x)
  | .gt => decide (y < x)
  | .le => decide (x ≤ y)
def av_goto (t : Int) (L : av_L) (st : List Value) (h : av_H) (c s : Nat) : Option av_S := some (.inl (t.toNat, L, st, h, c, s))
def av_def (t : FieldType) : Value := defaultValue t
/-- may the value be put into a field of that type -/
def av_fit (t : FieldType) (v : Value) : Bool := match t, v with
  | .int, .int _ => true
  | .boolean, .int x => decide (x = 0) || decide (x = 1)
  | .object _, .ref _ => true
  | .object _, .null => true
  | .array _, .ref _ => true
  | .array _, .null => true
  | _, _ => false
def av_in (i : Int32) (n : Nat) : Bool := decide (¬ i < 0) && decide (i.toNatClampNeg < n)
def av_bin (pc len : Nat) (L : av_L) (st : List Value) (h : av_H) (c s : Nat) (f : Int32 → Int32 → Option Int32) : Option av_S := match st with
  | .int y :: .int x :: r => match f x y with
    | some z => some (.inl (pc + len, L, .int z :: r, h, c, s))
    | none => none
  | _ => none
def av_iaload (P : av_P) (pc len : Nat) (L : av_L) (st : List Value) (h : av_H) (c s : Nat) : Option av_S := match st with
  | .int i :: .ref a :: r => match h[a]? with
    | some (.inl (0, n, .inl f)) => if av_in i n then some (.inl (pc + len, L, .int (f i.toNatClampNeg) :: r, h, c, s)) else none
    | _ => none
  | .int i :: .retAddr 0 :: r => if av_in i (av_nx P) then some (.inl (pc + len, L, .int (av_xs P i.toNatClampNeg) :: r, h, c, s)) else none
  | _ => none
def av_alen (P : av_P) (pc len : Nat) (L : av_L) (st : List Value) (h : av_H) (c s : Nat) : Option av_S := match st with
  | .ref a :: r => match h[a]? with
    | some (.inl (t, n, _)) => if t < 4 then some (.inl (pc + len, L, .int (Int32.ofNat n) :: r, h, c, s)) else none
    | _ => none
  | .retAddr 0 :: r => some (.inl (pc + len, L, .int (Int32.ofNat (av_nx P)) :: r, h, c, s))
  | _ => none
def av_copy (pc len : Nat) (L : av_L) (st : List Value) (h : av_H) (c s : Nat) : Option av_S := match st with
  | .int n :: .int dp :: .ref b :: .int sp :: .ref a :: r => match h[a]?, h[b]? with
    | some (.inl (0, n0, .inl f)), some (.inl (0, n1, .inl g)) =>
      if ¬ sp < 0 ∧ ¬ dp < 0 ∧ ¬ n < 0 ∧ sp.toNatClampNeg + n.toNatClampNeg ≤ n0 ∧ dp.toNatClampNeg + n.toNatClampNeg ≤ n1 ∧ (r.map fun v => v.category).sum ≤ 8
      then some (.inl (pc + len, L, r, h.set b (.inl (0, n1, .inl (va_cpy f g sp.toNatClampNeg dp.toNatClampNeg n.toNatClampNeg))), c, s)) else none
    | _, _ => none
  | _ => none
/-- the arrays that are made: ints, bytes, longs -/
def av_newa (k : ArrayType) (n : Nat) : Option va_E := match k with
  | .int => some (.inl (0, n, .inl (fun _ => 0)))
  | .byte => some (.inl (1, n, .inl (fun _ => 0)))
  | .long => some (.inl (2, n, .inr (.inl (fun _ => 0))))
  | _ => none
/-- the receiver is an object of that class -/
def av_rcv (h : av_H) (ci : Nat) (as : List Value) : Bool := match as with
  | .ref b :: _ => match h[b]? with
    | some (.inr (k, _)) => decide (k = ci)
    | _ => false
  | _ => false
def av_isr (as : List Value) : Bool := match as with
  | .ref _ :: _ => true
  | _ => false
/-- one instruction -/
def av_one (P : av_P) (mi pc : Nat) (ins : Instr) (len : Nat) (L : av_L) (st : List Value) (h : av_H) (c s : Nat) : Option av_S := match ins with
  | .sipush v => some (.inl (pc + len, L, .int (Int32.ofInt v) :: st, h, c, s))
  | .lconst n => some (.inl (pc + len, L, .long (Int64.ofNat (n : Nat)) :: st, h, c, s))
  | .ldc i => some (.inl (pc + len, L, .retAddr (i + 1) :: st, h, c, s))
  | .iload i => match L[i]? with
    | some (some (.int x)) => some (.inl (pc + len, L, .int x :: st, h, c, s))
    | _ => none
  | .aload i => match L[i]? with
    | some (some (.ref x)) => some (.inl (pc + len, L, .ref x :: st, h, c, s))
    | some (some (.retAddr x)) => some (.inl (pc + len, L, .retAddr x :: st, h, c, s))
    | _ => none
  | .istore i => match st with
    | .int x :: r => if i < L.length then some (.inl (pc + len, L.set i (some (.int x)), r, h, c, s)) else none
    | _ => none
  | .astore i => match st with
    | .ref x :: r => if i < L.length then some (.inl (pc + len, L.set i (some (.ref x)), r, h, c, s)) else none
    | .retAddr x :: r => if i < L.length then some (.inl (pc + len, L.set i (some (.retAddr x)), r, h, c, s)) else none
    | _ => none
  | .iinc i n => match L[i]? with
    | some (some (.int x)) => some (.inl (pc + len, L.set i (some (.int (x + Int32.ofInt n))), st, h, c, s))
    | _ => none
  | .dup => match st with
    | v :: r => if v.category = 1 then some (.inl (pc + len, L, v :: v :: r, h, c, s)) else none
    | _ => none
  | .dup2 => match st with
    | v :: w :: r => if v.category = 1 ∧ w.category = 1 then some (.inl (pc + len, L, v :: w :: v :: w :: r, h, c, s)) else none
    | _ => none
  | .pop => match st with
    | v :: r => if v.category = 1 then some (.inl (pc + len, L, r, h, c, s)) else none
    | _ => none
  | .iadd => av_bin pc len L st h c s fun x y => some (x + y)
  | .isub => av_bin pc len L st h c s fun x y => some (x - y)
  | .imul => av_bin pc len L st h c s fun x y => some (x * y)
  | .idiv => av_bin pc len L st h c s fun x y => if y = 0 then none else some (x / y)
  | .irem => av_bin pc len L st h c s fun x y => if y = 0 then none else some (x - x / y * y)
  | .iand => av_bin pc len L st h c s fun x y => some (x &&& y)
  | .ior => av_bin pc len L st h c s fun x y => some (x ||| y)
  | .ixor => av_bin pc len L st h c s fun x y => some (x ^^^ y)
  | .ishl => av_bin pc len L st h c s fun x y => some (x <<< (y &&& 31))
  | .ishr => av_bin pc len L st h c s fun x y => some (x >>> (y &&& 31))
  | .iushr => av_bin pc len L st h c s fun x y => some ((x.toUInt32 >>> (y.toUInt32 &&& Int32.toUInt32 31)).toInt32)
  | .i2l => match st with
    | .int x :: r => some (.inl (pc + len, L, .long x.toInt64 :: r, h, c, s))
    | _ => none
  | .i2b => match st with
    | .int x :: r => some (.inl (pc + len, L, .int x.toInt8.toInt32 :: r, h, c, s))
    | _ => none
  | .lcmp => match st with
    | .long y :: .long x :: r => some (.inl (pc + len, L, .int (lg_cmp x y) :: r, h, c, s))
    | _ => none
  | .if_icmp k t => match st with
    | .int y :: .int x :: r => if av_cmp k x y then av_goto t L r h c s else some (.inl (pc + len, L, r, h, c, s))
    | _ => none
  | .ifCond k t => match st with
    | .int x :: r => if av_cmp k x 0 then av_goto t L r h c s else some (.inl (pc + len, L, r, h, c, s))
    | _ => none
  | .ifnonnull t => match st with
    | .ref _ :: r => av_goto t L r h c s
    | .null :: r => some (.inl (pc + len, L, r, h, c, s))
    | _ => none
  | .goto t => av_goto t L st h c s
  | .tableswitch d lo hi ts => match st with
    | .int x :: r => if x.toInt < lo ∨ hi < x.toInt then av_goto d L r h c s else match ts[(x.toInt - lo).toNat]? with
      | some t => av_goto t L r h c s
      | none => none
    | _ => none
  | .getfield q => match st with
    | .ref a :: r => match h[a]? with
      | some (.inr (ci, fs)) => if ci = q / 64 then match fs[q % 64]? with
        | some v => some (.inl (pc + len, L, v :: r, h, c, s))
        | none => none
        else none
      | _ => none
    | _ => none
  | .putfield q => match st with
    | v :: .ref a :: r => match h[a]? with
      | some (.inr (ci, fs)) => if ci = q / 64 ∧ q % 64 < fs.length ∧ av_fit ((av_ty P ci).getD (q % 64) .float) v = true then some (.inl (pc + len, L, r, h.set a (.inr (ci, fs.set (q % 64) v)), c, s)) else none
      | _ => none
    | _ => none
  | .iaload => av_iaload P pc len L st h c s
  | .baload => match st with
    | .int i :: .ref a :: r => match h[a]? with
      | some (.inl (1, n, .inl f)) => if av_in i n then some (.inl (pc + len, L, .int (f i.toNatClampNeg) :: r, h, c, s)) else none
      | _ => none
    | _ => none
  | .laload => match st with
    | .int i :: .ref a :: r => match h[a]? with
      | some (.inl (2, n, .inr (.inl f))) => if av_in i n then some (.inl (pc + len, L, .long (f i.toNatClampNeg) :: r, h, c, s)) else none
      | _ => none
    | _ => none
  | .aaload => match st with
    | .int i :: .ref a :: r => match h[a]? with
      | some (.inl (3, n, .inr (.inr (.inr (.inr f))))) => if av_in i n then some (.inl (pc + len, L, va_rf (f i.toNatClampNeg) :: r, h, c, s)) else none
      | _ => none
    | _ => none
  | .iastore => match st with
    | .int x :: .int i :: .ref a :: r => match h[a]? with
      | some (.inl (0, n, .inl f)) => if av_in i n then some (.inl (pc + len, L, r, h.set a (.inl (0, n, .inl (upd f i.toNatClampNeg x))), c, s)) else none
      | _ => none
    | _ => none
  | .bastore => match st with
    | .int x :: .int i :: .ref a :: r => match h[a]? with
      | some (.inl (1, n, .inl f)) => if av_in i n then some (.inl (pc + len, L, r, h.set a (.inl (1, n, .inl (upd f i.toNatClampNeg (vp_nar .byte x)))), c, s)) else none
      | _ => none
    | _ => none
  | .lastore => match st with
    | .long x :: .int i :: .ref a :: r => match h[a]? with
      | some (.inl (2, n, .inr (.inl f))) => if av_in i n then some (.inl (pc + len, L, r, h.set a (.inl (2, n, .inr (.inl (vp_updL f i.toNatClampNeg x)))), c, s)) else none
      | _ => none
    | _ => none
  | .aastore => match st with
    | .ref b :: .int i :: .ref a :: r => match h[a]?, h[b]? with
      | some (.inl (3, n, .inr (.inr (.inr (.inr f))))), some (.inr (6, _)) => if av_in i n then some (.inl (pc + len, L, r, h.set a (.inl (3, n, .inr (.inr (.inr (.inr (va_up f i.toNatClampNeg (some b))))))), c, s)) else none
      | _, _ => none
    | _ => none
  | .arraylength => av_alen P pc len L st h c s
  | .newarray k => match st with
    | .int n :: r => if ¬ n < 0 ∧ n.toNatClampNeg ≤ 60000 then match av_newa k n.toNatClampNeg with
      | some e => some (.inl (pc + len, L, .ref h.length :: r, h ++ [e], c + 1, s + n.toNatClampNeg))
      | none => none
      else none
    | _ => none
  | .anewarray _ => match st with
    | .int n :: r => if ¬ n < 0 ∧ n.toNatClampNeg ≤ 60000 then some (.inl (pc + len, L, .ref h.length :: r, h ++ [.inl (3, n.toNatClampNeg, .inr (.inr (.inr (.inr (fun _ => none)))))], c + 1, s + n.toNatClampNeg)) else none
    | _ => none
  | .new ci => some (.inl (pc + len, L, .ref h.length :: st, h ++ [.inr (ci, (av_ty P ci).map av_def)], c + 1, s + (av_ty P ci).length))
  | .monitorenter => match st with
    | .ref _ :: r => if (r.map fun v => v.category).sum ≤ 8 then some (.inl (pc + len, L, r, h, c, s)) else none
    | _ => none
  | .invokedynamic 0 => av_copy pc len L st h c s
  | .invokedynamic 1 => match st with
    | .retAddr (a + 1) :: r => if (r.map fun v => v.category).sum ≤ 8 ∧ 0 < (av_tx P a).length then some (.inl (pc + len, L, .int (Int32.ofNat (av_tx P a).length) :: r, h, c, s)) else none
    | _ => none
  | .invokedynamic 2 => match st with
    | .int i :: .retAddr (a + 1) :: r => if (r.map fun v => v.category).sum ≤ 8 ∧ av_in i (av_tx P a).length = true then some (.inl (pc + len, L, .int ((av_tx P a).getD i.toNatClampNeg 0) :: r, h, c, s)) else none
    | _ => none
  | .invokedynamic 3 => match st with
    | .ref a :: r => match h[a]? with
      | some (.inl (0, n, .inl f)) => if (r.map fun v => v.category).sum ≤ 8 ∧ n ≤ 60000 then some (.inl (pc + len, L, .ref h.length :: r, h ++ [.inl (0, n, .inl f)], c + 1, s + n)) else none
      | _ => none
    | _ => none
  | .invokedynamic 4 => match st with
    | .int y :: .int x :: r => if (r.map fun v => v.category).sum ≤ 8 then some (.inl (pc + len, L, .int (if x < y then y else x) :: r, h, c, s)) else none
    | _ => none
  | .invokedynamic 5 => match st with
    | .int y :: .int x :: r => if (r.map fun v => v.category).sum ≤ 8 then some (.inl (pc + len, L, .int (if y < x then y else x) :: r, h, c, s)) else none
    | _ => none
  | .checkcast _ => match st with
    | .ref a :: r => match h[a]? with
      | some (.inl (0, n, .inl _)) => some (.inl (pc + len, L, .ref a :: r, h, c, s))
      | _ => none
    | _ => none
  | .instanceof k => if (st.map fun v => v.category).sum ≤ 8 then some (.inr (.inr (.inr (av_th P k)))) else none
  | .ireturn => match st with
    | [.int x] => match (av_me P mi).2.2.2.1 with
      | some .int => some (.inr (.inl (some (.int x))))
      | some .boolean => if x = 0 ∨ x = 1 then some (.inr (.inl (some (.int x)))) else none
      | _ => none
    | _ => none
  | .areturn => match st with
    | [.ref x] => match (av_me P mi).2.2.2.1 with
      | some (.object _) => some (.inr (.inl (some (.ref x))))
      | some (.array _) => some (.inr (.inl (some (.ref x))))
      | _ => none
    | _ => none
  | .return_ => match st, (av_me P mi).2.2.2.1 with
    | [], none => some (.inr (.inl none))
    | _, _ => none
  | .invokestatic mj => let a := (av_me P mj).2.2.2.2.1
    if a ≤ st.length ∧ ((st.drop a).map fun v => v.category).sum ≤ 8 ∧ ((st.take a).all fun v => v.category == 1) = true then some (.inr (.inr (.inl (mj, (st.take a).reverse, st.drop a)))) else none
  | .invokevirtual mj => let a := (av_me P mj).2.2.2.2.1
    if a ≤ st.length ∧ ((st.drop a).map fun v => v.category).sum ≤ 8 ∧ ((st.take a).all fun v => v.category == 1) = true ∧ av_rcv h (av_me P mj).2.2.2.2.2.2.2.1 (st.take a).reverse = true then some (.inr (.inr (.inl (mj, (st.take a).reverse, st.drop a)))) else none
  | .invokespecial mj => let a := (av_me P mj).2.2.2.2.1
    if a ≤ st.length ∧ ((st.drop a).map fun v => v.category).sum ≤ 8 ∧ ((st.take a).all fun v => v.category == 1) = true ∧ av_isr (st.take a).reverse = true then some (.inr (.inr (.inl (mj, (st.take a).reverse, st.drop a)))) else none
  | _ => none
def av_stp (P : av_P) (mi pc : Nat) (L : av_L) (st : List Value) (h : av_H) (c s : Nat) : Option av_S := match av_op P mi pc with
  | some (ins, len, _) => av_one P mi pc ins len L st h c s
  | none => none
/-- the locals with which a method begins -/
def av_ent (P : av_P) (mj : Nat) (as : List Value) : av_L := as.map some ++ List.replicate ((av_me P mj).2.2.1 - as.length) none
/-- the classes that are thrown and caught -/
def av_es : List String := ["java/lang/IllegalArgumentException", "java/lang/IllegalStateException", "java/lang/IndexOutOfBoundsException", "java/lang/UnsupportedOperationException", "java/util/NoSuchElementException"]
/-- where a thrown E is caught: the first row over pc that names E -/
def av_hnd (pc : Nat) (E : String) : List (Nat × Nat × Nat × Nat) → List String → Option Nat
  | (a, b, t, _) :: hh, nm :: nms => if a ≤ pc ∧ pc < b ∧ nm = E then some t else av_hnd pc E hh nms
  | _, _ => none
/-- the machine: n steps at most, d calls deep at most -/
def av_rn (P : av_P) : Nat → Nat → Nat → Nat → av_L → List Value → av_H → Nat → Nat → Option av_R
  | 0, _, _, _, _, _, _, _, _ => none
  | n + 1, d, mi, pc, L, st, h, c, s => match av_stp P mi pc L st h c s with
    | none => none
    | some (.inl (pc', L', st', h', c', s')) => av_rn P n d mi pc' L' st' h' c' s'
    | some (.inr (.inl v)) => some (.inl v, h, c, s)
    | some (.inr (.inr (.inr E))) => some (.inr E, h, c + 1, s + 6)
    | some (.inr (.inr (.inl (mj, as, r)))) => match d with
      | 0 => none
      | d' + 1 => match av_rn P n d' mj 0 (av_ent P mj as) [] h 0 0 with
        | none => none
        | some (.inl v, h', c', s') => av_rn P n (d' + 1) mi (pc + 3) L (v.toList ++ r) h' (c + c') (s + s')
        | some (.inr E, h', c', s') => if (av_me P mj).2.2.2.2.2.2.2.2 = false then none else if (av_me P mi).2.2.2.2.2.1 = [] then some (.inr E, h', c + c', s + s') else if E ∉ av_es then none else match av_hnd pc E (av_me P mi).2.2.2.2.2.1 (av_me P mi).2.2.2.2.2.2.1 with
          | none => none
          | some t => match av_op P mi t with
            | some (.astore i, len, _) => if i < L.length then av_rn P n (d' + 1) mi (t + len) (L.set i none) [] h' (c + c') (s + s') else none
            | _ => none
end
section
/-! ===== THE TABLES: the methods (by wip/whole/gen2.py) ===== -/
def tTy : List (List FieldType) := [[.int, (.array .int), (.array .int), (.array .int), (.array .int), (.array .int), (.array .int)],
  [.int, .int, (.array .int), (.array .int), (.array .int), (.array .int)],
  [.int, (.array .int)],
  [.int, .int, (.array (.object "SinglesPast$State"))],
  [(.array .int), .int, (.array .int)],
  [(.array .int), .int, (.array .int), (.array .int)],
  [(.object "SinglesPast$Things"), .int, (.array .int), (.array .int), .int, (.array .int), (.array .int), (.array .int), (.array .int), (.array .int), .int, (.array .int), (.array .int), .int, (.object "SinglesPast$Law"), .int, .int, (.object "SinglesPast$Log")],
  [(.array .int), .int, .int, .int, .int, .int],
  [.int, .int, (.array .int), (.array .int), (.array .int), (.array .int)],
  [(.array .int), (.array .int), .int, .int, (.array .int), (.array .int), (.array .int), (.array .int)],
  [(.object "SinglesPast$Tape"), .int, (.object "SinglesPast$State"), (.object "SinglesPast$State"), .boolean, (.object "SinglesPast$State"), (.object "SinglesPast$Memory"), (.object "SinglesPast$LawText"), (.object "SinglesPast$Worlds"), .boolean, (.object "SinglesPast$Worlds"), (.object "SinglesPast$Seating"), (.object "SinglesPast$Pairing"), .int, .int],
  [.int, (.array .int), (.array .int), (.array .int), (.array .int), (.array .int), .boolean, .int, (.array .byte), .int, .int, .int, .int, .int, .int, (.array .int), .int, (.array .int), .int, (.array .int), (.array .int), (.array .int), (.array .int), (.array .int)]]
def tTh : List String := ["java/lang/UnsupportedOperationException", "java/lang/IllegalArgumentException", "java/util/NoSuchElementException", "java/util/NoSuchElementException", "java/util/NoSuchElementException", "java/lang/IllegalArgumentException", "java/lang/IllegalStateException", "java/lang/IllegalArgumentException", "java/lang/IllegalArgumentException", "java/lang/IllegalArgumentException", "java/lang/IllegalStateException", "java/lang/IllegalArgumentException", "java/lang/IllegalArgumentException", "java/lang/IllegalArgumentException", "java/util/NoSuchElementException", "java/lang/IndexOutOfBoundsException", "java/lang/IndexOutOfBoundsException", "java/lang/IndexOutOfBoundsException", "java/lang/IllegalArgumentException", "java/lang/IndexOutOfBoundsException", "java/lang/IllegalStateException", "java/lang/IllegalArgumentException"]
def tTx : List (List Int32) := [[116, 104, 105, 110, 103, 32, 109, 97, 107, 101, 115, 32, 104, 105, 110, 100, 101, 114, 115, 32, 103, 111, 101, 114, 32, 115, 104, 117, 110, 115, 32, 116, 114, 97, 105, 110, 32, 100, 97, 121],
  [97, 116],
  [115, 111],
  [119, 111, 114, 116, 104],
  [116, 111],
  [109, 111, 110, 101, 121],
  [110, 101, 114, 118, 101],
  [100, 111, 101, 115],
  [117, 110, 100, 111, 101, 115],
  [98, 111, 114, 110],
  [115, 101, 97, 116, 115],
  [115, 116, 111, 112, 115],
  [116, 104, 101, 32, 116, 101, 120, 116, 32, 105, 115, 32, 119, 114, 111, 110, 103],
  [116, 104, 101, 114, 101, 32, 97, 114, 101, 32, 49, 50, 32, 116, 101, 120, 116, 115],
  [99, 111, 115, 116, 32, 102, 101, 97, 114, 32, 98, 97, 114],
  [105, 102],
  [110, 111, 116],
  [98, 111, 114, 110, 32, 100, 111, 101, 115, 32, 102, 117, 108, 108],
  [103, 111, 101, 114, 32, 119, 105, 115, 104, 32, 109, 111, 110, 101, 121, 32, 110, 101, 114, 118, 101, 32, 116, 114, 97, 105, 110, 32, 103, 111, 110, 101, 32, 100, 97, 121],
  [97, 110, 100],
  [111, 114],
  [116, 104, 101, 114, 101, 32, 105, 115, 32, 110, 111, 32, 115, 117, 99, 104, 32, 84, 72, 73, 78, 71],
  [97, 32, 84, 72, 73, 78, 71, 32, 104, 97, 115, 32, 110, 111, 32, 115, 117, 99, 104, 32, 119, 104, 97, 116],
  [116, 104, 101, 114, 101, 32, 105, 115, 32, 110, 111, 32, 115, 117, 99, 104, 32, 71, 79, 69, 82],
  [97, 32, 71, 79, 69, 82, 32, 104, 97, 115, 32, 110, 111, 32, 115, 117, 99, 104, 32, 119, 104, 97, 116],
  [116, 104, 101, 114, 101, 32, 105, 115, 32, 110, 111, 32, 115, 117, 99, 104, 32, 84, 82, 65, 73, 78],
  [97, 32, 84, 82, 65, 73, 78, 32, 104, 97, 115, 32, 110, 111, 32, 115, 117, 99, 104, 32, 119, 104, 97, 116],
  [68, 65, 89, 83, 32, 97, 114, 101, 32, 49, 32, 116, 111, 32, 54, 48],
  [104, 101, 32, 67, 65, 78, 32, 110, 111, 116, 32, 103, 111, 32, 98, 121, 32, 105, 116],
  [77, 79, 78, 69, 89, 32, 116, 104, 97, 116, 32, 105, 115, 32, 103, 105, 118, 101, 110, 32, 105, 115, 32, 49, 32, 116, 111, 32, 57, 57, 57],
  [78, 69, 82, 86, 69, 32, 105, 115, 32, 48, 32, 116, 111, 32, 49, 48, 48],
  [116, 104, 101, 114, 101, 32, 105, 115, 32, 110, 111, 32, 115, 117, 99, 104, 32, 83, 84, 79, 80],
  [104, 101, 32, 105, 115, 32, 71, 79, 78, 69],
  [98, 111, 116, 104, 32, 97, 114, 101, 32, 111, 110, 101],
  [97, 32, 84, 82, 65, 73, 78, 32, 104, 97, 115, 32, 97, 32, 83, 84, 79, 80],
  [104, 101, 32, 105, 115, 32, 110, 111, 116, 32, 71, 79, 78, 69],
  [116, 104, 101, 32, 84, 65, 80, 69, 32, 104, 97, 115, 32, 110, 111, 32, 115, 117, 99, 104, 32, 114, 111, 119, 115],
  [121, 101, 97, 114, 115, 32, 116, 111, 32, 112, 105, 99, 107, 32, 102, 114, 111, 109, 32, 97, 114, 101, 32, 49, 32, 116, 111, 32, 49, 48],
  [68, 65, 89, 83, 32, 111, 102, 32, 111, 100, 100, 115, 32, 97, 114, 101, 32, 48, 32, 116, 111, 32, 52],
  [68, 65, 89, 83, 32, 97, 104, 101, 97, 100, 32, 97, 114, 101, 32, 48, 32, 116, 111, 32, 54, 48],
  [97, 32, 114, 111, 119, 32, 104, 97, 115, 32, 110, 111, 32, 115, 117, 99, 104, 32, 119, 104, 97, 116],
  [116, 104, 105, 110, 103],
  [97, 116],
  [115, 111],
  [119, 111, 114, 116, 104],
  [109, 97, 107, 101, 115],
  [104, 105, 110, 100, 101, 114, 115],
  [103, 111, 101, 114],
  [116, 111],
  [109, 111, 110, 101, 121],
  [110, 101, 114, 118, 101],
  [100, 111, 101, 115],
  [117, 110, 100, 111, 101, 115],
  [98, 111, 114, 110],
  [115, 104, 117, 110, 115],
  [116, 114, 97, 105, 110],
  [115, 101, 97, 116, 115],
  [115, 116, 111, 112, 115],
  [100, 97, 121],
  [99, 111, 115, 116],
  [102, 101, 97, 114],
  [98, 97, 114],
  [105, 102],
  [110, 111, 116],
  [102, 117, 108, 108],
  [119, 105, 115, 104],
  [103, 111, 110, 101],
  [97, 110, 100],
  [111, 114]]
def tM0 : av_M := (⟨"", "", ""⟩, ⟨#[]⟩, 0, none, 0, [], [], 0, false)
/-- SinglesPast$Law.<init> -/
def tM_0 : av_M := (⟨"SinglesPast$Law", "<init>", "(I[I[I[I[I)V"⟩, prog_2_method_1_code, 6, none, 6, [], [], 0, false)
/-- SinglesPast$Law.lookAt -/
def tM_1 : av_M := (⟨"SinglesPast$Law", "lookAt", "(LSinglesPast$State;II)V"⟩, prog_2_method_2_code, 5, none, 4, [], [], 0, false)
/-- SinglesPast$Law.sumOf -/
def tM_2 : av_M := (⟨"SinglesPast$Law", "sumOf", "(I)I"⟩, prog_2_method_3_code, 5, (some .int), 2, [], [], 0, false)
/-- SinglesPast$Law.holds -/
def tM_3 : av_M := (⟨"SinglesPast$Law", "holds", "(II)Z"⟩, prog_2_method_4_code, 8, (some .boolean), 3, [], [], 0, false)
/-- SinglesPast$LawText.<init> -/
def tM_4 : av_M := (⟨"SinglesPast$LawText", "<init>", "()V"⟩, prog_3_method_1_code, 1, none, 1, [], [], 1, false)
/-- SinglesPast$LawText.toLaw -/
def tM_5 : av_M := (⟨"SinglesPast$LawText", "toLaw", "()LSinglesPast$Law;"⟩, prog_3_method_2_code, 1, (some (.object "SinglesPast$Law")), 1, [], [], 1, false)
/-- SinglesPast$LawText.read -/
def tM_6 : av_M := (⟨"SinglesPast$LawText", "read", "(LSinglesPast$Tape;)Z"⟩, prog_3_method_3_code, 3, (some .boolean), 2, [], [], 1, false)
/-- SinglesPast$LawText.readLine -/
def tM_7 : av_M := (⟨"SinglesPast$LawText", "readLine", "(LSinglesPast$Tape;I)Z"⟩, prog_3_method_4_code, 4, (some .boolean), 3, [], [], 1, false)
/-- SinglesPast$LawText.put -/
def tM_8 : av_M := (⟨"SinglesPast$LawText", "put", "(I)V"⟩, prog_3_method_5_code, 2, none, 2, [], [], 1, false)
/-- SinglesPast$LawText.readCondition -/
def tM_9 : av_M := (⟨"SinglesPast$LawText", "readCondition", "(LSinglesPast$Tape;I)Z"⟩, prog_3_method_6_code, 6, (some .boolean), 3, [], [], 1, false)
/-- SinglesPast$LawText.readAtom -/
def tM_10 : av_M := (⟨"SinglesPast$LawText", "readAtom", "(LSinglesPast$Tape;I)Z"⟩, prog_3_method_7_code, 5, (some .boolean), 3, [], [], 1, false)
/-- SinglesPast$LawText.readSum -/
def tM_11 : av_M := (⟨"SinglesPast$LawText", "readSum", "(LSinglesPast$Tape;)Z"⟩, prog_3_method_8_code, 4, (some .boolean), 2, [], [], 1, false)
/-- SinglesPast$Log.<init> -/
def tM_12 : av_M := (⟨"SinglesPast$Log", "<init>", "()V"⟩, prog_4_method_1_code, 1, none, 1, [], [], 2, false)
/-- SinglesPast$Log.copyFrom -/
def tM_13 : av_M := (⟨"SinglesPast$Log", "copyFrom", "(LSinglesPast$Log;)V"⟩, prog_4_method_2_code, 2, none, 2, [], [], 2, false)
/-- SinglesPast$Log.add -/
def tM_14 : av_M := (⟨"SinglesPast$Log", "add", "(IIII)V"⟩, prog_4_method_3_code, 6, none, 5, [], [], 2, false)
/-- SinglesPast$Log.entryOf -/
def tM_15 : av_M := (⟨"SinglesPast$Log", "entryOf", "(II)I"⟩, prog_4_method_4_code, 3, (some .int), 3, [], [], 2, false)
/-- SinglesPast$Log.countOf -/
def tM_16 : av_M := (⟨"SinglesPast$Log", "countOf", "(I)I"⟩, prog_4_method_5_code, 4, (some .int), 2, [], [], 2, false)
/-- SinglesPast$Log.latestDayOf -/
def tM_17 : av_M := (⟨"SinglesPast$Log", "latestDayOf", "(I)I"⟩, prog_4_method_6_code, 3, (some .int), 2, [], [], 2, false)
/-- SinglesPast$Memory.<init> -/
def tM_18 : av_M := (⟨"SinglesPast$Memory", "<init>", "()V"⟩, prog_5_method_1_code, 2, none, 1, [], [], 3, false)
/-- SinglesPast$Memory.keep -/
def tM_19 : av_M := (⟨"SinglesPast$Memory", "keep", "(LSinglesPast$State;)V"⟩, prog_5_method_2_code, 2, none, 2, [], [], 3, false)
/-- SinglesPast$Memory.bringBack -/
def tM_20 : av_M := (⟨"SinglesPast$Memory", "bringBack", "(LSinglesPast$State;)Z"⟩, prog_5_method_3_code, 2, (some .boolean), 2, [], [], 3, false)
/-- SinglesPast$Memory.forget -/
def tM_21 : av_M := (⟨"SinglesPast$Memory", "forget", "()V"⟩, prog_5_method_4_code, 1, none, 1, [], [], 3, false)
/-- SinglesPast$Pairing.<init> -/
def tM_22 : av_M := (⟨"SinglesPast$Pairing", "<init>", "()V"⟩, prog_6_method_1_code, 1, none, 1, [], [], 4, false)
/-- SinglesPast$Pairing.pairMost -/
def tM_23 : av_M := (⟨"SinglesPast$Pairing", "pairMost", "(LSinglesPast$State;I)I"⟩, prog_6_method_2_code, 3, (some .int), 3, [], [], 4, false)
/-- SinglesPast$Pairing.pairFrom -/
def tM_24 : av_M := (⟨"SinglesPast$Pairing", "pairFrom", "(LSinglesPast$State;III)V"⟩, prog_6_method_3_code, 8, none, 5, [], [], 4, false)
/-- SinglesPast$Seating.<init> -/
def tM_25 : av_M := (⟨"SinglesPast$Seating", "<init>", "()V"⟩, prog_7_method_1_code, 1, none, 1, [], [], 5, false)
/-- SinglesPast$Seating.seatMost -/
def tM_26 : av_M := (⟨"SinglesPast$Seating", "seatMost", "(LSinglesPast$State;I)I"⟩, prog_7_method_2_code, 3, (some .int), 3, [], [], 5, false)
/-- SinglesPast$Seating.canSeatAll -/
def tM_27 : av_M := (⟨"SinglesPast$Seating", "canSeatAll", "(LSinglesPast$State;I)Z"⟩, prog_7_method_3_code, 4, (some .boolean), 3, [], [], 5, false)
/-- SinglesPast$Seating.seatFrom -/
def tM_28 : av_M := (⟨"SinglesPast$Seating", "seatFrom", "(LSinglesPast$State;III)V"⟩, prog_7_method_4_code, 6, none, 5, [], [], 5, false)
/-- SinglesPast$Seating.hasRoom -/
def tM_29 : av_M := (⟨"SinglesPast$Seating", "hasRoom", "(LSinglesPast$State;II)Z"⟩, prog_7_method_5_code, 5, (some .boolean), 4, [], [], 5, false)
/-- SinglesPast$State.<init> -/
def tM_30 : av_M := (⟨"SinglesPast$State", "<init>", "()V"⟩, prog_8_method_1_code, 1, none, 1, [], [], 6, false)
/-- SinglesPast$State.copyFrom -/
def tM_31 : av_M := (⟨"SinglesPast$State", "copyFrom", "(LSinglesPast$State;)V"⟩, prog_8_method_2_code, 2, none, 2, [], [], 6, false)
/-- SinglesPast$State.addGoer -/
def tM_32 : av_M := (⟨"SinglesPast$State", "addGoer", "(II)I"⟩, prog_8_method_3_code, 4, (some .int), 3, [], [], 6, false)
/-- SinglesPast$State.addTrain -/
def tM_33 : av_M := (⟨"SinglesPast$State", "addTrain", "(II)V"⟩, prog_8_method_4_code, 3, none, 3, [], [], 6, false)
/-- SinglesPast$State.tellDeed -/
def tM_34 : av_M := (⟨"SinglesPast$State", "tellDeed", "(IIZ)V"⟩, prog_8_method_5_code, 5, none, 4, [], [], 6, false)
/-- SinglesPast$State.tellShunning -/
def tM_35 : av_M := (⟨"SinglesPast$State", "tellShunning", "(IIZ)V"⟩, prog_8_method_6_code, 4, none, 4, [], [], 6, false)
/-- SinglesPast$State.everyone -/
def tM_36 : av_M := (⟨"SinglesPast$State", "everyone", "()I"⟩, prog_8_method_7_code, 1, (some .int), 1, [], [], 6, false)
/-- SinglesPast$State.goneSet -/
def tM_37 : av_M := (⟨"SinglesPast$State", "goneSet", "()I"⟩, prog_8_method_8_code, 3, (some .int), 1, [], [], 6, false)
/-- SinglesPast$State.stayingSet -/
def tM_38 : av_M := (⟨"SinglesPast$State", "stayingSet", "()I"⟩, prog_8_method_9_code, 1, (some .int), 1, [], [], 6, false)
/-- SinglesPast$State.ridersOf -/
def tM_39 : av_M := (⟨"SinglesPast$State", "ridersOf", "(I)I"⟩, prog_8_method_10_code, 4, (some .int), 2, [], [], 6, false)
/-- SinglesPast$State.everyHalt -/
def tM_40 : av_M := (⟨"SinglesPast$State", "everyHalt", "()I"⟩, prog_8_method_11_code, 3, (some .int), 1, [], [], 6, false)
/-- SinglesPast$State.allMoney -/
def tM_41 : av_M := (⟨"SinglesPast$State", "allMoney", "()I"⟩, prog_8_method_12_code, 3, (some .int), 1, [], [], 6, false)
/-- SinglesPast$State.stopsForHim -/
def tM_42 : av_M := (⟨"SinglesPast$State", "stopsForHim", "(II)Z"⟩, prog_8_method_13_code, 3, (some .boolean), 3, [], [], 6, false)
/-- SinglesPast$State.aliveIn -/
def tM_43 : av_M := (⟨"SinglesPast$State", "aliveIn", "(I)I"⟩, prog_8_method_14_code, 4, (some .int), 2, [], [], 6, false)
/-- SinglesPast$State.costOf -/
def tM_44 : av_M := (⟨"SinglesPast$State", "costOf", "(II)I"⟩, prog_8_method_15_code, 3, (some .int), 3, [], [], 6, false)
/-- SinglesPast$State.fearOf -/
def tM_45 : av_M := (⟨"SinglesPast$State", "fearOf", "(II)I"⟩, prog_8_method_16_code, 3, (some .int), 3, [], [], 6, false)
/-- SinglesPast$State.canGo -/
def tM_46 : av_M := (⟨"SinglesPast$State", "canGo", "(II)Z"⟩, prog_8_method_17_code, 4, (some .boolean), 3, [], [], 6, false)
/-- SinglesPast$State.trainOf -/
def tM_47 : av_M := (⟨"SinglesPast$State", "trainOf", "(I)I"⟩, prog_8_method_18_code, 3, (some .int), 2, [], [], 6, false)
/-- SinglesPast$State.board -/
def tM_48 : av_M := (⟨"SinglesPast$State", "board", "(II)I"⟩, prog_8_method_19_code, 4, (some .int), 3, [], [], 6, false)
/-- SinglesPast$State.callBack -/
def tM_49 : av_M := (⟨"SinglesPast$State", "callBack", "(I)I"⟩, prog_8_method_20_code, 3, (some .int), 2, [], [], 6, false)
/-- SinglesPast$State.passDays -/
def tM_50 : av_M := (⟨"SinglesPast$State", "passDays", "(IZ)I"⟩, prog_8_method_21_code, 7, (some .int), 3, [], [], 6, false)
/-- SinglesPast$State.drawnTrainOf -/
def tM_51 : av_M := (⟨"SinglesPast$State", "drawnTrainOf", "(I)I"⟩, prog_8_method_22_code, 4, (some .int), 2, [], [], 6, false)
/-- SinglesPast$State.draw -/
def tM_52 : av_M := (⟨"SinglesPast$State", "draw", "()I"⟩, prog_8_method_23_code, 1, (some .int), 1, [], [], 6, false)
/-- SinglesPast$StationText.read -/
def tM_53 : av_M := (⟨"SinglesPast$StationText", "read", "(LSinglesPast$Tape;LSinglesPast$State;)Z"⟩, prog_9_method_2_code, 3, (some .boolean), 2, [], [], 99, false)
/-- SinglesPast$StationText.readLine -/
def tM_54 : av_M := (⟨"SinglesPast$StationText", "readLine", "(LSinglesPast$Tape;LSinglesPast$State;)Z"⟩, prog_9_method_3_code, 2, (some .boolean), 2, [], [], 99, false)
/-- SinglesPast$StationText.readThing -/
def tM_55 : av_M := (⟨"SinglesPast$StationText", "readThing", "(LSinglesPast$Tape;LSinglesPast$Things;)Z"⟩, prog_9_method_4_code, 5, (some .boolean), 2, [], [], 99, false)
/-- SinglesPast$StationText.readTie -/
def tM_56 : av_M := (⟨"SinglesPast$StationText", "readTie", "(LSinglesPast$Tape;LSinglesPast$Things;Z)Z"⟩, prog_9_method_5_code, 5, (some .boolean), 3, [], [], 99, false)
/-- SinglesPast$StationText.readGoer -/
def tM_57 : av_M := (⟨"SinglesPast$StationText", "readGoer", "(LSinglesPast$Tape;LSinglesPast$State;)Z"⟩, prog_9_method_6_code, 4, (some .boolean), 2, [], [], 99, false)
/-- SinglesPast$StationText.readDeed -/
def tM_58 : av_M := (⟨"SinglesPast$StationText", "readDeed", "(LSinglesPast$Tape;LSinglesPast$State;I)Z"⟩, prog_9_method_7_code, 4, (some .boolean), 3, [], [], 99, false)
/-- SinglesPast$StationText.readBirth -/
def tM_59 : av_M := (⟨"SinglesPast$StationText", "readBirth", "(LSinglesPast$Tape;LSinglesPast$State;I)Z"⟩, prog_9_method_8_code, 3, (some .boolean), 3, [], [], 99, false)
/-- SinglesPast$StationText.readShunning -/
def tM_60 : av_M := (⟨"SinglesPast$StationText", "readShunning", "(LSinglesPast$Tape;LSinglesPast$State;)Z"⟩, prog_9_method_9_code, 3, (some .boolean), 2, [], [], 99, false)
/-- SinglesPast$StationText.readTrain -/
def tM_61 : av_M := (⟨"SinglesPast$StationText", "readTrain", "(LSinglesPast$Tape;LSinglesPast$State;)Z"⟩, prog_9_method_10_code, 4, (some .boolean), 2, [], [], 99, false)
/-- SinglesPast$StationText.readDay -/
def tM_62 : av_M := (⟨"SinglesPast$StationText", "readDay", "(LSinglesPast$Tape;LSinglesPast$State;)Z"⟩, prog_9_method_11_code, 2, (some .boolean), 2, [], [], 99, false)
/-- SinglesPast$Tape.<init> -/
def tM_63 : av_M := (⟨"SinglesPast$Tape", "<init>", "()V"⟩, prog_10_method_1_code, 1, none, 1, [], [], 7, false)
/-- SinglesPast$Tape.append -/
def tM_64 : av_M := (⟨"SinglesPast$Tape", "append", "(I)V"⟩, prog_10_method_2_code, 3, none, 2, [], [], 7, false)
/-- SinglesPast$Tape.open -/
def tM_65 : av_M := (⟨"SinglesPast$Tape", "open", "()V"⟩, prog_10_method_3_code, 1, none, 1, [], [], 7, false)
/-- SinglesPast$Tape.isOver -/
def tM_66 : av_M := (⟨"SinglesPast$Tape", "isOver", "()Z"⟩, prog_10_method_4_code, 1, (some .boolean), 1, [], [], 7, false)
/-- SinglesPast$Tape.moveTo -/
def tM_67 : av_M := (⟨"SinglesPast$Tape", "moveTo", "(I)V"⟩, prog_10_method_5_code, 2, none, 2, [], [], 7, false)
/-- SinglesPast$Tape.refuse -/
def tM_68 : av_M := (⟨"SinglesPast$Tape", "refuse", "()Z"⟩, prog_10_method_6_code, 1, (some .boolean), 1, [], [], 7, false)
/-- SinglesPast$Tape.takeSign -/
def tM_69 : av_M := (⟨"SinglesPast$Tape", "takeSign", "(C)Z"⟩, prog_10_method_7_code, 2, (some .boolean), 2, [], [], 7, false)
/-- SinglesPast$Tape.takeWord -/
def tM_70 : av_M := (⟨"SinglesPast$Tape", "takeWord", "(Ljava/lang/String;)Z"⟩, prog_10_method_8_code, 2, (some .boolean), 2, [], [], 7, false)
/-- SinglesPast$Tape.takeOneOf -/
def tM_71 : av_M := (⟨"SinglesPast$Tape", "takeOneOf", "(Ljava/lang/String;)I"⟩, prog_10_method_9_code, 5, (some .int), 2, [], [], 7, false)
/-- SinglesPast$Tape.isNext -/
def tM_72 : av_M := (⟨"SinglesPast$Tape", "isNext", "(Ljava/lang/String;II)Z"⟩, prog_10_method_10_code, 6, (some .boolean), 4, [], [], 7, false)
/-- SinglesPast$Tape.takeNumber -/
def tM_73 : av_M := (⟨"SinglesPast$Tape", "takeNumber", "(II)Z"⟩, prog_10_method_11_code, 6, (some .boolean), 3, [], [], 7, false)
/-- SinglesPast$Tape.takeStopLetters -/
def tM_74 : av_M := (⟨"SinglesPast$Tape", "takeStopLetters", "()I"⟩, prog_10_method_12_code, 4, (some .int), 1, [], [], 7, false)
/-- SinglesPast$Things.<init> -/
def tM_75 : av_M := (⟨"SinglesPast$Things", "<init>", "()V"⟩, prog_11_method_1_code, 1, none, 1, [], [], 8, false)
/-- SinglesPast$Things.copyFrom -/
def tM_76 : av_M := (⟨"SinglesPast$Things", "copyFrom", "(LSinglesPast$Things;)V"⟩, prog_11_method_2_code, 2, none, 2, [], [], 8, false)
/-- SinglesPast$Things.add -/
def tM_77 : av_M := (⟨"SinglesPast$Things", "add", "(IZI)V"⟩, prog_11_method_3_code, 5, none, 4, [], [], 8, false)
/-- SinglesPast$Things.tie -/
def tM_78 : av_M := (⟨"SinglesPast$Things", "tie", "(IIZ)V"⟩, prog_11_method_4_code, 5, none, 4, [], [], 8, false)
/-- SinglesPast$Things.worthOf -/
def tM_79 : av_M := (⟨"SinglesPast$Things", "worthOf", "(I)I"⟩, prog_11_method_5_code, 4, (some .int), 2, [], [], 8, false)
/-- SinglesPast$Things.looseSet -/
def tM_80 : av_M := (⟨"SinglesPast$Things", "looseSet", "()I"⟩, prog_11_method_6_code, 4, (some .int), 1, [], [], 8, false)
/-- SinglesPast$Things.lineOf -/
def tM_81 : av_M := (⟨"SinglesPast$Things", "lineOf", "(I)I"⟩, prog_11_method_7_code, 5, (some .int), 2, [], [], 8, false)
/-- SinglesPast$Things.longestAhead -/
def tM_82 : av_M := (⟨"SinglesPast$Things", "longestAhead", "(I[I)I"⟩, prog_11_method_8_code, 5, (some .int), 3, [], [], 8, false)
/-- SinglesPast$Worlds.<init> -/
def tM_83 : av_M := (⟨"SinglesPast$Worlds", "<init>", "()V"⟩, prog_12_method_1_code, 1, none, 1, [], [], 9, false)
/-- SinglesPast$Worlds.fill -/
def tM_84 : av_M := (⟨"SinglesPast$Worlds", "fill", "(LSinglesPast$State;II)V"⟩, prog_12_method_2_code, 5, none, 4, [], [], 9, false)
/-- SinglesPast$Worlds.orderByStops -/
def tM_85 : av_M := (⟨"SinglesPast$Worlds", "orderByStops", "(LSinglesPast$Things;)V"⟩, prog_12_method_3_code, 5, none, 2, [], [], 9, false)
/-- SinglesPast$Worlds.turnTies -/
def tM_86 : av_M := (⟨"SinglesPast$Worlds", "turnTies", "(LSinglesPast$Things;)V"⟩, prog_12_method_4_code, 4, none, 2, [], [], 9, false)
/-- SinglesPast$Worlds.findDoers -/
def tM_87 : av_M := (⟨"SinglesPast$Worlds", "findDoers", "(LSinglesPast$State;)V"⟩, prog_12_method_5_code, 4, none, 2, [], [], 9, false)
/-- SinglesPast$Worlds.build -/
def tM_88 : av_M := (⟨"SinglesPast$Worlds", "build", "(II)I"⟩, prog_12_method_6_code, 9, (some .int), 3, [], [], 9, false)
/-- SinglesPast$Worlds.lastMakes -/
def tM_89 : av_M := (⟨"SinglesPast$Worlds", "lastMakes", "(I)Z"⟩, prog_12_method_7_code, 3, (some .boolean), 2, [], [], 9, false)
/-- SinglesPast$Worlds.isAgreeing -/
def tM_90 : av_M := (⟨"SinglesPast$Worlds", "isAgreeing", "(II)Z"⟩, prog_12_method_8_code, 3, (some .boolean), 3, [], [], 9, false)
/-- SinglesPast$Worlds.countAgreeing -/
def tM_91 : av_M := (⟨"SinglesPast$Worlds", "countAgreeing", "(I)I"⟩, prog_12_method_9_code, 4, (some .int), 2, [], [], 9, false)
/-- SinglesPast$Worlds.pastOf -/
def tM_92 : av_M := (⟨"SinglesPast$Worlds", "pastOf", "(I)I"⟩, prog_12_method_10_code, 4, (some .int), 2, [], [], 9, false)
/-- SinglesPast$Worlds.nowOf -/
def tM_93 : av_M := (⟨"SinglesPast$Worlds", "nowOf", "(I)I"⟩, prog_12_method_11_code, 3, (some .int), 2, [], [], 9, false)
/-- SinglesPast.<init> -/
def tM_94 : av_M := (⟨"SinglesPast", "<init>", "()V"⟩, prog_1_method_1_code, 1, none, 1, [], [], 10, false)
/-- SinglesPast.feed -/
def tM_95 : av_M := (⟨"SinglesPast", "feed", "(IIIII)I"⟩, prog_1_method_2_code, 6, (some .int), 6, [], [], 10, false)
/-- SinglesPast.end -/
def tM_96 : av_M := (⟨"SinglesPast", "end", "(I)Z"⟩, prog_1_method_3_code, 2, (some .boolean), 2, [], [], 10, false)
/-- SinglesPast.station -/
def tM_97 : av_M := (⟨"SinglesPast", "station", "()I"⟩, prog_1_method_4_code, 1, (some .int), 1, [], [], 10, true)
/-- SinglesPast.law -/
def tM_98 : av_M := (⟨"SinglesPast", "law", "()I"⟩, prog_1_method_5_code, 1, (some .int), 1, [], [], 10, true)
/-- SinglesPast.closeText -/
def tM_99 : av_M := (⟨"SinglesPast", "closeText", "(Z)V"⟩, prog_1_method_6_code, 2, none, 2, [], [], 10, true)
/-- SinglesPast.forgetActs -/
def tM_100 : av_M := (⟨"SinglesPast", "forgetActs", "()V"⟩, prog_1_method_7_code, 1, none, 1, [], [], 10, false)
/-- SinglesPast.fault -/
def tM_101 : av_M := (⟨"SinglesPast", "fault", "()I"⟩, prog_1_method_8_code, 1, (some .int), 1, [], [], 10, false)
/-- SinglesPast.thing -/
def tM_102 : av_M := (⟨"SinglesPast", "thing", "(II)I"⟩, prog_1_method_9_code, 3, (some .int), 3, [], [], 10, true)
/-- SinglesPast.goer -/
def tM_103 : av_M := (⟨"SinglesPast", "goer", "(II)I"⟩, prog_1_method_10_code, 3, (some .int), 3, [], [], 10, true)
/-- SinglesPast.train -/
def tM_104 : av_M := (⟨"SinglesPast", "train", "(II)I"⟩, prog_1_method_11_code, 3, (some .int), 3, [], [], 10, true)
/-- SinglesPast.latestStop -/
def tM_105 : av_M := (⟨"SinglesPast", "latestStop", "(I)I"⟩, prog_1_method_12_code, 4, (some .int), 2, [], [], 10, false)
/-- SinglesPast.shareOf -/
def tM_106 : av_M := (⟨"SinglesPast", "shareOf", "(I)I"⟩, prog_1_method_13_code, 3, (some .int), 2, [], [], 10, false)
/-- SinglesPast.cost -/
def tM_107 : av_M := (⟨"SinglesPast", "cost", "(II)I"⟩, prog_1_method_14_code, 3, (some .int), 3, [], [], 10, true)
/-- SinglesPast.fear -/
def tM_108 : av_M := (⟨"SinglesPast", "fear", "(II)I"⟩, prog_1_method_15_code, 3, (some .int), 3, [], [], 10, true)
/-- SinglesPast.may -/
def tM_109 : av_M := (⟨"SinglesPast", "may", "(II)Z"⟩, prog_1_method_16_code, 3, (some .boolean), 3, [], [], 10, true)
/-- SinglesPast.days -/
def tM_110 : av_M := (⟨"SinglesPast", "days", "(I)I"⟩, prog_1_method_17_code, 2, (some .int), 2, [], [], 10, true)
/-- SinglesPast.sell -/
def tM_111 : av_M := (⟨"SinglesPast", "sell", "(II)I"⟩, prog_1_method_18_code, 3, (some .int), 3, [], [], 10, true)
/-- SinglesPast.pay -/
def tM_112 : av_M := (⟨"SinglesPast", "pay", "(II)I"⟩, prog_1_method_19_code, 3, (some .int), 3, [], [], 10, true)
/-- SinglesPast.nerve -/
def tM_113 : av_M := (⟨"SinglesPast", "nerve", "(II)I"⟩, prog_1_method_20_code, 4, (some .int), 3, [], [], 10, true)
/-- SinglesPast.wish -/
def tM_114 : av_M := (⟨"SinglesPast", "wish", "(II)I"⟩, prog_1_method_21_code, 4, (some .int), 3, [], [], 10, true)
/-- SinglesPast.deed -/
def tM_115 : av_M := (⟨"SinglesPast", "deed", "(IIZ)I"⟩, prog_1_method_22_code, 5, (some .int), 4, [], [], 10, true)
/-- SinglesPast.quarrel -/
def tM_116 : av_M := (⟨"SinglesPast", "quarrel", "(IIZ)Z"⟩, prog_1_method_23_code, 5, (some .boolean), 4, [], [], 10, true)
/-- SinglesPast.stops -/
def tM_117 : av_M := (⟨"SinglesPast", "stops", "(II)I"⟩, prog_1_method_24_code, 4, (some .int), 3, [], [], 10, true)
/-- SinglesPast.recall -/
def tM_118 : av_M := (⟨"SinglesPast", "recall", "(I)I"⟩, prog_1_method_25_code, 2, (some .int), 2, [], [], 10, true)
/-- SinglesPast.beginAct -/
def tM_119 : av_M := (⟨"SinglesPast", "beginAct", "()V"⟩, prog_1_method_26_code, 1, none, 1, [], [], 10, false)
/-- SinglesPast.world -/
def tM_120 : av_M := (⟨"SinglesPast", "world", "(I)I"⟩, prog_1_method_27_code, 2, (some .int), 2, [], [], 10, false)
/-- SinglesPast.agrees -/
def tM_121 : av_M := (⟨"SinglesPast", "agrees", "(I)Z"⟩, prog_1_method_28_code, 2, (some .boolean), 2, [], [], 10, false)
/-- SinglesPast.agree -/
def tM_122 : av_M := (⟨"SinglesPast", "agree", "()I"⟩, prog_1_method_29_code, 1, (some .int), 1, [], [], 10, false)
/-- SinglesPast.past -/
def tM_123 : av_M := (⟨"SinglesPast", "past", "()I"⟩, prog_1_method_30_code, 1, (some .int), 1, [], [], 10, false)
/-- SinglesPast.now -/
def tM_124 : av_M := (⟨"SinglesPast", "now", "()I"⟩, prog_1_method_31_code, 1, (some .int), 1, [], [], 10, false)
/-- SinglesPast.ring -/
def tM_125 : av_M := (⟨"SinglesPast", "ring", "()I"⟩, prog_1_method_32_code, 6, (some .int), 1, [], [], 10, false)
/-- SinglesPast.otherwise -/
def tM_126 : av_M := (⟨"SinglesPast", "otherwise", "(I)I"⟩, prog_1_method_33_code, 2, (some .int), 2, [], [], 10, true)
/-- SinglesPast.heavy -/
def tM_127 : av_M := (⟨"SinglesPast", "heavy", "()I"⟩, prog_1_method_34_code, 5, (some .int), 1, [], [], 10, false)
/-- SinglesPast.freshWorlds -/
def tM_128 : av_M := (⟨"SinglesPast", "freshWorlds", "()LSinglesPast$Worlds;"⟩, prog_1_method_35_code, 1, (some (.object "SinglesPast$Worlds")), 1, [], [], 10, false)
/-- SinglesPast.soNow -/
def tM_129 : av_M := (⟨"SinglesPast", "soNow", "()I"⟩, prog_1_method_36_code, 1, (some .int), 1, [], [], 10, false)
/-- SinglesPast.changesBy -/
def tM_130 : av_M := (⟨"SinglesPast", "changesBy", "(I)I"⟩, prog_1_method_37_code, 2, (some .int), 2, [], [], 10, false)
/-- SinglesPast.isFewer -/
def tM_131 : av_M := (⟨"SinglesPast", "isFewer", "(II)Z"⟩, prog_1_method_38_code, 2, (some .boolean), 2, [], [], 10, false)
/-- SinglesPast.send -/
def tM_132 : av_M := (⟨"SinglesPast", "send", "()I"⟩, prog_1_method_39_code, 6, (some .int), 1, [], [], 10, true)
/-- SinglesPast.who -/
def tM_133 : av_M := (⟨"SinglesPast", "who", "(Z)I"⟩, prog_1_method_40_code, 5, (some .int), 2, [], [], 10, true)
/-- SinglesPast.look -/
def tM_134 : av_M := (⟨"SinglesPast", "look", "()I"⟩, prog_1_method_41_code, 8, (some .int), 1, [], [], 10, true)
/-- SinglesPast.readTold -/
def tM_135 : av_M := (⟨"SinglesPast", "readTold", "()V"⟩, prog_1_method_42_code, 6, none, 1, [], [], 10, true)
/-- SinglesPast.isTold -/
def tM_136 : av_M := (⟨"SinglesPast", "isTold", "(I)Z"⟩, prog_1_method_43_code, 2, (some .boolean), 2, [], [], 10, false)
/-- SinglesPast.comesAbout -/
def tM_137 : av_M := (⟨"SinglesPast", "comesAbout", "(LSinglesPast$Worlds;I)Z"⟩, prog_1_method_44_code, 4, (some .boolean), 3, [], [], 10, false)
/-- SinglesPast.fits -/
def tM_138 : av_M := (⟨"SinglesPast", "fits", "(LSinglesPast$Worlds;I)Z"⟩, prog_1_method_45_code, 3, (some .boolean), 3, [], [], 10, false)
/-- SinglesPast.countFitting -/
def tM_139 : av_M := (⟨"SinglesPast", "countFitting", "(LSinglesPast$Worlds;I)I"⟩, prog_1_method_46_code, 6, (some .int), 3, [], [], 10, false)
/-- SinglesPast.hangs -/
def tM_140 : av_M := (⟨"SinglesPast", "hangs", "(I)I"⟩, prog_1_method_47_code, 2, (some .int), 2, [], [], 10, true)
/-- SinglesPast.key -/
def tM_141 : av_M := (⟨"SinglesPast", "key", "()I"⟩, prog_1_method_48_code, 5, (some .int), 1, [], [], 10, false)
/-- SinglesPast.hangingOn -/
def tM_142 : av_M := (⟨"SinglesPast", "hangingOn", "(I)I"⟩, prog_1_method_49_code, 3, (some .int), 2, [], [], 10, false)
/-- SinglesPast.loose -/
def tM_143 : av_M := (⟨"SinglesPast", "loose", "()I"⟩, prog_1_method_50_code, 1, (some .int), 1, [], [], 10, false)
/-- SinglesPast.kills -/
def tM_144 : av_M := (⟨"SinglesPast", "kills", "(II)Z"⟩, prog_1_method_51_code, 3, (some .boolean), 3, [], [], 10, true)
/-- SinglesPast.colours -/
def tM_145 : av_M := (⟨"SinglesPast", "colours", "(I)I"⟩, prog_1_method_52_code, 3, (some .int), 2, [], [], 10, true)
/-- SinglesPast.clash -/
def tM_146 : av_M := (⟨"SinglesPast", "clash", "()I"⟩, prog_1_method_53_code, 5, (some .int), 1, [], [], 10, false)
/-- SinglesPast.price -/
def tM_147 : av_M := (⟨"SinglesPast", "price", "(IZ)I"⟩, prog_1_method_54_code, 4, (some .int), 3, [], [], 10, true)
/-- SinglesPast.dearest -/
def tM_148 : av_M := (⟨"SinglesPast", "dearest", "()I"⟩, prog_1_method_55_code, 5, (some .int), 1, [], [], 10, false)
/-- SinglesPast.bestPrice -/
def tM_149 : av_M := (⟨"SinglesPast", "bestPrice", "(I)I"⟩, prog_1_method_56_code, 7, (some .int), 2, [], [], 10, false)
/-- SinglesPast.earningsAt -/
def tM_150 : av_M := (⟨"SinglesPast", "earningsAt", "(II)I"⟩, prog_1_method_57_code, 6, (some .int), 3, [], [], 10, false)
/-- SinglesPast.crowd -/
def tM_151 : av_M := (⟨"SinglesPast", "crowd", "(I)I"⟩, prog_1_method_58_code, 4, (some .int), 2, [], [], 10, true)
/-- SinglesPast.asks -/
def tM_152 : av_M := (⟨"SinglesPast", "asks", "(IZ)I"⟩, prog_1_method_59_code, 5, (some .int), 3, [], [], 10, false)
/-- SinglesPast.questionsFor -/
def tM_153 : av_M := (⟨"SinglesPast", "questionsFor", "(I)I"⟩, prog_1_method_60_code, 3, (some .int), 1, [], [], 10, false)
/-- SinglesPast.openingOf -/
def tM_154 : av_M := (⟨"SinglesPast", "openingOf", "(II)I"⟩, prog_1_method_61_code, 5, (some .int), 2, [], [], 10, false)
/-- SinglesPast.pick -/
def tM_155 : av_M := (⟨"SinglesPast", "pick", "(IZ)I"⟩, prog_1_method_62_code, 7, (some .int), 3, [], [], 10, true)
/-- SinglesPast.ordersThatPickBest -/
def tM_156 : av_M := (⟨"SinglesPast", "ordersThatPickBest", "(II)I"⟩, prog_1_method_63_code, 5, (some .int), 2, [], [], 10, false)
/-- SinglesPast.pairs -/
def tM_157 : av_M := (⟨"SinglesPast", "pairs", "(I)I"⟩, prog_1_method_64_code, 3, (some .int), 2, [], [], 10, true)
/-- SinglesPast.rests -/
def tM_158 : av_M := (⟨"SinglesPast", "rests", "(I)I"⟩, prog_1_method_65_code, 8, (some .int), 2, [], [], 10, true)
/-- SinglesPast.manHas -/
def tM_159 : av_M := (⟨"SinglesPast", "manHas", "(III)I"⟩, prog_1_method_66_code, 3, (some .int), 3, [], [], 10, false)
/-- SinglesPast.clerkHas -/
def tM_160 : av_M := (⟨"SinglesPast", "clerkHas", "(II)I"⟩, prog_1_method_67_code, 2, (some .int), 2, [], [], 10, false)
/-- SinglesPast.odds -/
def tM_161 : av_M := (⟨"SinglesPast", "odds", "(II)I"⟩, prog_1_method_68_code, 7, (some .int), 3, [], [], 10, true)
/-- SinglesPast.brave -/
def tM_162 : av_M := (⟨"SinglesPast", "brave", "()I"⟩, prog_1_method_69_code, 4, (some .int), 1, [], [], 10, false)
/-- SinglesPast.gone -/
def tM_163 : av_M := (⟨"SinglesPast", "gone", "()I"⟩, prog_1_method_70_code, 1, (some .int), 1, [], [], 10, false)
/-- SinglesPast.unborn -/
def tM_164 : av_M := (⟨"SinglesPast", "unborn", "()I"⟩, prog_1_method_71_code, 1, (some .int), 1, [], [], 10, false)
/-- SinglesPast.twins -/
def tM_165 : av_M := (⟨"SinglesPast", "twins", "()I"⟩, prog_1_method_72_code, 4, (some .int), 1, [], [], 10, false)
/-- SinglesPast.worth -/
def tM_166 : av_M := (⟨"SinglesPast", "worth", "()I"⟩, prog_1_method_73_code, 1, (some .int), 1, [], [], 10, false)
/-- SinglesPast.empty -/
def tM_167 : av_M := (⟨"SinglesPast", "empty", "()I"⟩, prog_1_method_74_code, 3, (some .int), 1, [], [], 10, false)
/-- SinglesPast.never -/
def tM_168 : av_M := (⟨"SinglesPast", "never", "()I"⟩, prog_1_method_75_code, 1, (some .int), 1, [], [], 10, false)
/-- SinglesPast.ahead -/
def tM_169 : av_M := (⟨"SinglesPast", "ahead", "(II)I"⟩, prog_1_method_76_code, 3, (some .int), 3, [], [], 10, true)
/-- SinglesPast.trial -/
def tM_170 : av_M := (⟨"SinglesPast", "trial", "(IZ)I"⟩, prog_1_method_77_code, 4, (some .int), 3, [], [], 10, true)
/-- SinglesPast.span -/
def tM_171 : av_M := (⟨"SinglesPast", "span", "(IZ)I"⟩, prog_1_method_78_code, 7, (some .int), 3, [], [], 10, true)
/-- SinglesPast.led -/
def tM_172 : av_M := (⟨"SinglesPast", "led", "(IZ)I"⟩, prog_1_method_79_code, 3, (some .int), 3, [], [], 10, true)
/-- SinglesPast.log -/
def tM_173 : av_M := (⟨"SinglesPast", "log", "(II)I"⟩, prog_1_method_80_code, 3, (some .int), 3, [], [], 10, true)
/-- SinglesPast.seed -/
def tM_174 : av_M := (⟨"SinglesPast", "seed", "(I)I"⟩, prog_1_method_81_code, 3, (some .int), 2, [], [], 10, false)
/-- SinglesPast.undo -/
def tM_175 : av_M := (⟨"SinglesPast", "undo", "()Z"⟩, prog_1_method_82_code, 2, (some .boolean), 1, [], [], 10, false)
/-- SinglesPast.image -/
def tM_176 : av_M := (⟨"SinglesPast", "image", "()V"⟩, prog_1_method_83_code, 1, none, 1, [], [], 10, false)
/-- SinglesPast.back -/
def tM_177 : av_M := (⟨"SinglesPast", "back", "()Z"⟩, prog_1_method_84_code, 1, (some .boolean), 1, [], [], 10, false)
/-- SinglesPast.count -/
def tM_178 : av_M := (⟨"SinglesPast", "count", "(I)I"⟩, prog_1_method_85_code, 2, (some .int), 2, [], [], 10, false)
/-- SinglesPast.needStop -/
def tM_179 : av_M := (⟨"SinglesPast", "needStop", "(I)V"⟩, prog_1_method_86_code, 1, none, 1, [], [], 10, true)
/-- SinglesPast.needThing -/
def tM_180 : av_M := (⟨"SinglesPast", "needThing", "(I)V"⟩, prog_1_method_87_code, 2, none, 2, [], [], 10, true)
/-- SinglesPast.needGoer -/
def tM_181 : av_M := (⟨"SinglesPast", "needGoer", "(I)V"⟩, prog_1_method_88_code, 2, none, 2, [], [], 10, true)
/-- SinglesPast.needTwoGoers -/
def tM_182 : av_M := (⟨"SinglesPast", "needTwoGoers", "(II)V"⟩, prog_1_method_89_code, 3, none, 3, [], [], 10, true)
/-- SinglesPast.needTrain -/
def tM_183 : av_M := (⟨"SinglesPast", "needTrain", "(I)V"⟩, prog_1_method_90_code, 2, none, 2, [], [], 10, true)
/-- SinglesPast.needNotGone -/
def tM_184 : av_M := (⟨"SinglesPast", "needNotGone", "(I)V"⟩, prog_1_method_91_code, 2, none, 2, [], [], 10, true)
/-- SinglesPast.needTrialDays -/
def tM_185 : av_M := (⟨"SinglesPast", "needTrialDays", "(I)V"⟩, prog_1_method_92_code, 1, none, 1, [], [], 10, true)
/-- SinglesPastModel.thrown -/
def tM_186 : av_M := (⟨"SinglesPastModel", "thrown", "()I"⟩, prog_14_method_1_code, 1, (some .int), 1, [], [], 11, false)
/-- SinglesPastModel.throwsIf -/
def tM_187 : av_M := (⟨"SinglesPastModel", "throwsIf", "(ZI)Z"⟩, prog_14_method_2_code, 3, (some .boolean), 3, [], [], 11, false)
/-- SinglesPastModel.in -/
def tM_188 : av_M := (⟨"SinglesPastModel", "in", "(III)Z"⟩, prog_14_method_3_code, 3, (some .boolean), 3, [], [], 11, false)
/-- SinglesPastModel.has -/
def tM_189 : av_M := (⟨"SinglesPastModel", "has", "(II)Z"⟩, prog_14_method_4_code, 2, (some .boolean), 2, [], [], 11, false)
/-- SinglesPastModel.<init> -/
def tM_190 : av_M := (⟨"SinglesPastModel", "<init>", "()V"⟩, prog_14_method_5_code, 1, none, 1, [], [], 11, false)
/-- SinglesPastModel.image -/
def tM_191 : av_M := (⟨"SinglesPastModel", "image", "()V"⟩, prog_14_method_6_code, 2, none, 1, [], [], 11, false)
/-- SinglesPastModel.back -/
def tM_192 : av_M := (⟨"SinglesPastModel", "back", "()Z"⟩, prog_14_method_7_code, 2, (some .boolean), 1, [], [], 11, false)
/-- SinglesPastModel.remembers -/
def tM_193 : av_M := (⟨"SinglesPastModel", "remembers", "()V"⟩, prog_14_method_8_code, 2, none, 1, [], [], 11, false)
/-- SinglesPastModel.undo -/
def tM_194 : av_M := (⟨"SinglesPastModel", "undo", "()Z"⟩, prog_14_method_9_code, 2, (some .boolean), 1, [], [], 11, false)
/-- SinglesPastModel.keepsAll -/
def tM_195 : av_M := (⟨"SinglesPastModel", "keepsAll", "()V"⟩, prog_14_method_10_code, 2, none, 1, [], [], 11, false)
/-- SinglesPastModel.bringsBack -/
def tM_196 : av_M := (⟨"SinglesPastModel", "bringsBack", "()V"⟩, prog_14_method_11_code, 2, none, 1, [], [], 11, false)
/-- SinglesPastModel.things -/
def tM_197 : av_M := (⟨"SinglesPastModel", "things", "()I"⟩, prog_14_method_12_code, 1, (some .int), 1, [], [], 11, false)
/-- SinglesPastModel.goers -/
def tM_198 : av_M := (⟨"SinglesPastModel", "goers", "()I"⟩, prog_14_method_13_code, 1, (some .int), 1, [], [], 11, false)
/-- SinglesPastModel.trains -/
def tM_199 : av_M := (⟨"SinglesPastModel", "trains", "()I"⟩, prog_14_method_14_code, 1, (some .int), 1, [], [], 11, false)
/-- SinglesPastModel.thingAt -/
def tM_200 : av_M := (⟨"SinglesPastModel", "thingAt", "(II)I"⟩, prog_14_method_15_code, 2, (some .int), 2, [], [], 11, false)
/-- SinglesPastModel.ofThing -/
def tM_201 : av_M := (⟨"SinglesPastModel", "ofThing", "(II)I"⟩, prog_14_method_16_code, 3, (some .int), 3, [], [], 11, false)
/-- SinglesPastModel.at -/
def tM_202 : av_M := (⟨"SinglesPastModel", "at", "(II)I"⟩, prog_14_method_17_code, 2, (some .int), 2, [], [], 11, false)
/-- SinglesPastModel.of -/
def tM_203 : av_M := (⟨"SinglesPastModel", "of", "(II)I"⟩, prog_14_method_18_code, 3, (some .int), 3, [], [], 11, false)
/-- SinglesPastModel.trainAt -/
def tM_204 : av_M := (⟨"SinglesPastModel", "trainAt", "(II)I"⟩, prog_14_method_19_code, 2, (some .int), 2, [], [], 11, false)
/-- SinglesPastModel.ofTrain -/
def tM_205 : av_M := (⟨"SinglesPastModel", "ofTrain", "(II)I"⟩, prog_14_method_20_code, 3, (some .int), 3, [], [], 11, false)
/-- SinglesPastModel.everybody -/
def tM_206 : av_M := (⟨"SinglesPastModel", "everybody", "()I"⟩, prog_14_method_21_code, 1, (some .int), 1, [], [], 11, false)
/-- SinglesPastModel.isGone -/
def tM_207 : av_M := (⟨"SinglesPastModel", "isGone", "(I)Z"⟩, prog_14_method_22_code, 2, (some .boolean), 2, [], [], 11, false)
/-- SinglesPastModel.goneOnes -/
def tM_208 : av_M := (⟨"SinglesPastModel", "goneOnes", "()I"⟩, prog_14_method_23_code, 3, (some .int), 1, [], [], 11, false)
/-- SinglesPastModel.goneBy -/
def tM_209 : av_M := (⟨"SinglesPastModel", "goneBy", "(I)I"⟩, prog_14_method_24_code, 4, (some .int), 2, [], [], 11, false)
/-- SinglesPastModel.noThing -/
def tM_210 : av_M := (⟨"SinglesPastModel", "noThing", "(I)Z"⟩, prog_14_method_25_code, 2, (some .boolean), 2, [], [], 11, false)
/-- SinglesPastModel.noGoer -/
def tM_211 : av_M := (⟨"SinglesPastModel", "noGoer", "(I)Z"⟩, prog_14_method_26_code, 2, (some .boolean), 2, [], [], 11, false)
/-- SinglesPastModel.noTrain -/
def tM_212 : av_M := (⟨"SinglesPastModel", "noTrain", "(I)Z"⟩, prog_14_method_27_code, 2, (some .boolean), 2, [], [], 11, false)
/-- SinglesPastModel.noStop -/
def tM_213 : av_M := (⟨"SinglesPastModel", "noStop", "(I)Z"⟩, prog_14_method_28_code, 1, (some .boolean), 1, [], [], 11, false)
/-- SinglesPastModel.drawn -/
def tM_214 : av_M := (⟨"SinglesPastModel", "drawn", "(I)I"⟩, prog_14_method_29_code, 2, (some .int), 2, [], [], 11, false)
/-- SinglesPastModel.feed -/
def tM_215 : av_M := (⟨"SinglesPastModel", "feed", "(IIIII)I"⟩, prog_14_method_30_code, 7, (some .int), 6, [], [], 11, false)
/-- SinglesPastModel.end -/
def tM_216 : av_M := (⟨"SinglesPastModel", "end", "(I)Z"⟩, prog_14_method_31_code, 2, (some .boolean), 2, [], [], 11, false)
/-- SinglesPastModel.isAt -/
def tM_217 : av_M := (⟨"SinglesPastModel", "isAt", "(II)Z"⟩, prog_14_method_32_code, 3, (some .boolean), 3, [], [], 11, false)
/-- SinglesPastModel.blanks -/
def tM_218 : av_M := (⟨"SinglesPastModel", "blanks", "()V"⟩, prog_14_method_33_code, 1, none, 1, [], [], 11, false)
/-- SinglesPastModel.letters -/
def tM_219 : av_M := (⟨"SinglesPastModel", "letters", "()V"⟩, prog_14_method_34_code, 1, none, 1, [], [], 11, false)
/-- SinglesPastModel.isWord -/
def tM_220 : av_M := (⟨"SinglesPastModel", "isWord", "(Ljava/lang/String;)Z"⟩, prog_14_method_35_code, 4, (some .boolean), 2, [], [], 11, false)
/-- SinglesPastModel.passes -/
def tM_221 : av_M := (⟨"SinglesPastModel", "passes", "(Ljava/lang/String;)Z"⟩, prog_14_method_36_code, 2, (some .boolean), 2, [], [], 11, false)
/-- SinglesPastModel.sign -/
def tM_222 : av_M := (⟨"SinglesPastModel", "sign", "(I)Z"⟩, prog_14_method_37_code, 2, (some .boolean), 2, [], [], 11, false)
/-- SinglesPastModel.number -/
def tM_223 : av_M := (⟨"SinglesPastModel", "number", "(II)I"⟩, prog_14_method_38_code, 4, (some .int), 3, [], [], 11, false)
/-- SinglesPastModel.behind -/
def tM_224 : av_M := (⟨"SinglesPastModel", "behind", "(Ljava/lang/String;II)I"⟩, prog_14_method_39_code, 4, (some .int), 4, [], [], 11, false)
/-- SinglesPastModel.told -/
def tM_225 : av_M := (⟨"SinglesPastModel", "told", "(Ljava/lang/String;II)I"⟩, prog_14_method_40_code, 5, (some .int), 4, [], [], 11, false)
/-- SinglesPastModel.fault -/
def tM_226 : av_M := (⟨"SinglesPastModel", "fault", "()I"⟩, prog_14_method_41_code, 1, (some .int), 1, [], [], 11, false)
/-- SinglesPastModel.uses -/
def tM_227 : av_M := (⟨"SinglesPastModel", "uses", "()V"⟩, prog_14_method_42_code, 1, none, 1, [], [], 11, false)
/-- SinglesPastModel.readNumber -/
def tM_228 : av_M := (⟨"SinglesPastModel", "readNumber", "(III)Z"⟩, prog_14_method_43_code, 5, (some .boolean), 4, [], [], 11, false)
/-- SinglesPastModel.readThing -/
def tM_229 : av_M := (⟨"SinglesPastModel", "readThing", "()Z"⟩, prog_14_method_44_code, 5, (some .boolean), 1, [], [], 11, false)
/-- SinglesPastModel.readLink -/
def tM_230 : av_M := (⟨"SinglesPastModel", "readLink", "(II)Z"⟩, prog_14_method_45_code, 5, (some .boolean), 3, [], [], 11, false)
/-- SinglesPastModel.readGoer -/
def tM_231 : av_M := (⟨"SinglesPastModel", "readGoer", "()Z"⟩, prog_14_method_46_code, 8, (some .boolean), 1, [], [], 11, false)
/-- SinglesPastModel.readShuns -/
def tM_232 : av_M := (⟨"SinglesPastModel", "readShuns", "()Z"⟩, prog_14_method_47_code, 3, (some .boolean), 1, [], [], 11, false)
/-- SinglesPastModel.stopsTold -/
def tM_233 : av_M := (⟨"SinglesPastModel", "stopsTold", "()I"⟩, prog_14_method_48_code, 5, (some .int), 1, [], [], 11, false)
/-- SinglesPastModel.readTrain -/
def tM_234 : av_M := (⟨"SinglesPastModel", "readTrain", "()Z"⟩, prog_14_method_49_code, 4, (some .boolean), 1, [], [], 11, false)
/-- SinglesPastModel.readStationLine -/
def tM_235 : av_M := (⟨"SinglesPastModel", "readStationLine", "()Z"⟩, prog_14_method_50_code, 1, (some .boolean), 1, [], [], 11, false)
/-- SinglesPastModel.emits -/
def tM_236 : av_M := (⟨"SinglesPastModel", "emits", "(II)V"⟩, prog_14_method_51_code, 3, none, 3, [], [], 11, false)
/-- SinglesPastModel.wordOfPart -/
def tM_237 : av_M := (⟨"SinglesPastModel", "wordOfPart", "()I"⟩, prog_14_method_52_code, 1, (some .int), 1, [], [], 11, false)
/-- SinglesPastModel.readPart -/
def tM_238 : av_M := (⟨"SinglesPastModel", "readPart", "()Z"⟩, prog_14_method_53_code, 3, (some .boolean), 1, [], [], 11, false)
/-- SinglesPastModel.readSum -/
def tM_239 : av_M := (⟨"SinglesPastModel", "readSum", "()Z"⟩, prog_14_method_54_code, 1, (some .boolean), 1, [], [], 11, false)
/-- SinglesPastModel.readTag -/
def tM_240 : av_M := (⟨"SinglesPastModel", "readTag", "()Z"⟩, prog_14_method_55_code, 2, (some .boolean), 1, [], [], 11, false)
/-- SinglesPastModel.readAtom -/
def tM_241 : av_M := (⟨"SinglesPastModel", "readAtom", "()Z"⟩, prog_14_method_56_code, 2, (some .boolean), 1, [], [], 11, false)
/-- SinglesPastModel.readAllOf -/
def tM_242 : av_M := (⟨"SinglesPastModel", "readAllOf", "()Z"⟩, prog_14_method_57_code, 1, (some .boolean), 1, [], [], 11, false)
/-- SinglesPastModel.readCond -/
def tM_243 : av_M := (⟨"SinglesPastModel", "readCond", "()Z"⟩, prog_14_method_58_code, 1, (some .boolean), 1, [], [], 11, false)
/-- SinglesPastModel.readLawLine -/
def tM_244 : av_M := (⟨"SinglesPastModel", "readLawLine", "(I)Z"⟩, prog_14_method_59_code, 3, (some .boolean), 2, [], [], 11, false)
/-- SinglesPastModel.readLine -/
def tM_245 : av_M := (⟨"SinglesPastModel", "readLine", "(ZI)Z"⟩, prog_14_method_60_code, 3, (some .boolean), 3, [], [], 11, false)
/-- SinglesPastModel.readAll -/
def tM_246 : av_M := (⟨"SinglesPastModel", "readAll", "(Z)I"⟩, prog_14_method_61_code, 3, (some .int), 2, [], [], 11, false)
/-- SinglesPastModel.station -/
def tM_247 : av_M := (⟨"SinglesPastModel", "station", "()I"⟩, prog_14_method_62_code, 3, (some .int), 1, [], [], 11, false)
/-- SinglesPastModel.law -/
def tM_248 : av_M := (⟨"SinglesPastModel", "law", "()I"⟩, prog_14_method_63_code, 3, (some .int), 1, [], [], 11, false)
/-- SinglesPastModel.factOf -/
def tM_249 : av_M := (⟨"SinglesPastModel", "factOf", "(IIII)I"⟩, prog_14_method_64_code, 5, (some .int), 5, [], [], 11, false)
/-- SinglesPastModel.holdsLine -/
def tM_250 : av_M := (⟨"SinglesPastModel", "holdsLine", "(III)Z"⟩, prog_14_method_65_code, 11, (some .boolean), 4, [], [], 11, false)
/-- SinglesPastModel.sumOf -/
def tM_251 : av_M := (⟨"SinglesPastModel", "sumOf", "(III)I"⟩, prog_14_method_66_code, 6, (some .int), 4, [], [], 11, false)
/-- SinglesPastModel.isBarred -/
def tM_252 : av_M := (⟨"SinglesPastModel", "isBarred", "(II)Z"⟩, prog_14_method_67_code, 5, (some .boolean), 3, [], [], 11, false)
/-- SinglesPastModel.costOf -/
def tM_253 : av_M := (⟨"SinglesPastModel", "costOf", "(II)I"⟩, prog_14_method_68_code, 3, (some .int), 3, [], [], 11, false)
/-- SinglesPastModel.fearOf -/
def tM_254 : av_M := (⟨"SinglesPastModel", "fearOf", "(II)I"⟩, prog_14_method_69_code, 3, (some .int), 3, [], [], 11, false)
/-- SinglesPastModel.stopsFor -/
def tM_255 : av_M := (⟨"SinglesPastModel", "stopsFor", "(II)Z"⟩, prog_14_method_70_code, 3, (some .boolean), 3, [], [], 11, false)
/-- SinglesPastModel.meetsNone -/
def tM_256 : av_M := (⟨"SinglesPastModel", "meetsNone", "(II)Z"⟩, prog_14_method_71_code, 5, (some .boolean), 3, [], [], 11, false)
/-- SinglesPastModel.canGo -/
def tM_257 : av_M := (⟨"SinglesPastModel", "canGo", "(II)Z"⟩, prog_14_method_72_code, 3, (some .boolean), 3, [], [], 11, false)
/-- SinglesPastModel.trainOf -/
def tM_258 : av_M := (⟨"SinglesPastModel", "trainOf", "(I)I"⟩, prog_14_method_73_code, 4, (some .int), 2, [], [], 11, false)
/-- SinglesPastModel.isTold -/
def tM_259 : av_M := (⟨"SinglesPastModel", "isTold", "(III)V"⟩, prog_14_method_74_code, 5, none, 4, [], [], 11, false)
/-- SinglesPastModel.isSold -/
def tM_260 : av_M := (⟨"SinglesPastModel", "isSold", "(II)I"⟩, prog_14_method_75_code, 4, (some .int), 3, [], [], 11, false)
/-- SinglesPastModel.decides -/
def tM_261 : av_M := (⟨"SinglesPastModel", "decides", "(IZ)Z"⟩, prog_14_method_76_code, 5, (some .boolean), 3, [], [], 11, false)
/-- SinglesPastModel.oneDay -/
def tM_262 : av_M := (⟨"SinglesPastModel", "oneDay", "(Z)I"⟩, prog_14_method_77_code, 4, (some .int), 2, [], [], 11, false)
/-- SinglesPastModel.goesOn -/
def tM_263 : av_M := (⟨"SinglesPastModel", "goesOn", "(IZ)I"⟩, prog_14_method_78_code, 5, (some .int), 3, [], [], 11, false)
/-- SinglesPastModel.isSo -/
def tM_264 : av_M := (⟨"SinglesPastModel", "isSo", "(II)Z"⟩, prog_14_method_79_code, 6, (some .boolean), 3, [], [], 11, false)
/-- SinglesPastModel.worldOf -/
def tM_265 : av_M := (⟨"SinglesPastModel", "worldOf", "(I)I"⟩, prog_14_method_80_code, 4, (some .int), 2, [], [], 11, false)
/-- SinglesPastModel.bornIn -/
def tM_266 : av_M := (⟨"SinglesPastModel", "bornIn", "(II)I"⟩, prog_14_method_81_code, 5, (some .int), 3, [], [], 11, false)
/-- SinglesPastModel.agreesBy -/
def tM_267 : av_M := (⟨"SinglesPastModel", "agreesBy", "(II)Z"⟩, prog_14_method_82_code, 3, (some .boolean), 3, [], [], 11, false)
/-- SinglesPastModel.pastBy -/
def tM_268 : av_M := (⟨"SinglesPastModel", "pastBy", "(I)I"⟩, prog_14_method_83_code, 4, (some .int), 2, [], [], 11, false)
/-- SinglesPastModel.nowBy -/
def tM_269 : av_M := (⟨"SinglesPastModel", "nowBy", "(I)I"⟩, prog_14_method_84_code, 3, (some .int), 2, [], [], 11, false)
/-- SinglesPastModel.manyAgree -/
def tM_270 : av_M := (⟨"SinglesPastModel", "manyAgree", "()I"⟩, prog_14_method_85_code, 3, (some .int), 1, [], [], 11, false)
/-- SinglesPastModel.world -/
def tM_271 : av_M := (⟨"SinglesPastModel", "world", "(I)I"⟩, prog_14_method_86_code, 2, (some .int), 2, [], [], 11, false)
/-- SinglesPastModel.agrees -/
def tM_272 : av_M := (⟨"SinglesPastModel", "agrees", "(I)Z"⟩, prog_14_method_87_code, 2, (some .boolean), 2, [], [], 11, false)
/-- SinglesPastModel.agree -/
def tM_273 : av_M := (⟨"SinglesPastModel", "agree", "()I"⟩, prog_14_method_88_code, 1, (some .int), 1, [], [], 11, false)
/-- SinglesPastModel.past -/
def tM_274 : av_M := (⟨"SinglesPastModel", "past", "()I"⟩, prog_14_method_89_code, 1, (some .int), 1, [], [], 11, false)
/-- SinglesPastModel.now -/
def tM_275 : av_M := (⟨"SinglesPastModel", "now", "()I"⟩, prog_14_method_90_code, 1, (some .int), 1, [], [], 11, false)
/-- SinglesPastModel.ring -/
def tM_276 : av_M := (⟨"SinglesPastModel", "ring", "()I"⟩, prog_14_method_91_code, 4, (some .int), 1, [], [], 11, false)
/-- SinglesPastModel.ifOtherwise -/
def tM_277 : av_M := (⟨"SinglesPastModel", "ifOtherwise", "(I)I"⟩, prog_14_method_92_code, 2, (some .int), 2, [], [], 11, false)
/-- SinglesPastModel.otherwise -/
def tM_278 : av_M := (⟨"SinglesPastModel", "otherwise", "(I)I"⟩, prog_14_method_93_code, 2, (some .int), 2, [], [], 11, false)
/-- SinglesPastModel.worthOf -/
def tM_279 : av_M := (⟨"SinglesPastModel", "worthOf", "(I)I"⟩, prog_14_method_94_code, 4, (some .int), 2, [], [], 11, false)
/-- SinglesPastModel.changesOf -/
def tM_280 : av_M := (⟨"SinglesPastModel", "changesOf", "(I)I"⟩, prog_14_method_95_code, 2, (some .int), 2, [], [], 11, false)
/-- SinglesPastModel.heavy -/
def tM_281 : av_M := (⟨"SinglesPastModel", "heavy", "()I"⟩, prog_14_method_96_code, 5, (some .int), 1, [], [], 11, false)
/-- SinglesPastModel.lineOf -/
def tM_282 : av_M := (⟨"SinglesPastModel", "lineOf", "(I)I"⟩, prog_14_method_97_code, 5, (some .int), 2, [], [], 11, false)
/-- SinglesPastModel.allStops -/
def tM_283 : av_M := (⟨"SinglesPastModel", "allStops", "()I"⟩, prog_14_method_98_code, 3, (some .int), 1, [], [], 11, false)
/-- SinglesPastModel.latestOf -/
def tM_284 : av_M := (⟨"SinglesPastModel", "latestOf", "(I)I"⟩, prog_14_method_99_code, 4, (some .int), 2, [], [], 11, false)
/-- SinglesPastModel.thing -/
def tM_285 : av_M := (⟨"SinglesPastModel", "thing", "(II)I"⟩, prog_14_method_100_code, 3, (some .int), 3, [], [], 11, false)
/-- SinglesPastModel.goer -/
def tM_286 : av_M := (⟨"SinglesPastModel", "goer", "(II)I"⟩, prog_14_method_101_code, 3, (some .int), 3, [], [], 11, false)
/-- SinglesPastModel.train -/
def tM_287 : av_M := (⟨"SinglesPastModel", "train", "(II)I"⟩, prog_14_method_102_code, 4, (some .int), 3, [], [], 11, false)
/-- SinglesPastModel.noSuch -/
def tM_288 : av_M := (⟨"SinglesPastModel", "noSuch", "(II)Z"⟩, prog_14_method_103_code, 3, (some .boolean), 3, [], [], 11, false)
/-- SinglesPastModel.cost -/
def tM_289 : av_M := (⟨"SinglesPastModel", "cost", "(II)I"⟩, prog_14_method_104_code, 3, (some .int), 3, [], [], 11, false)
/-- SinglesPastModel.fear -/
def tM_290 : av_M := (⟨"SinglesPastModel", "fear", "(II)I"⟩, prog_14_method_105_code, 3, (some .int), 3, [], [], 11, false)
/-- SinglesPastModel.may -/
def tM_291 : av_M := (⟨"SinglesPastModel", "may", "(II)Z"⟩, prog_14_method_106_code, 3, (some .boolean), 3, [], [], 11, false)
/-- SinglesPastModel.days -/
def tM_292 : av_M := (⟨"SinglesPastModel", "days", "(I)I"⟩, prog_14_method_107_code, 2, (some .int), 2, [], [], 11, false)
/-- SinglesPastModel.sell -/
def tM_293 : av_M := (⟨"SinglesPastModel", "sell", "(II)I"⟩, prog_14_method_108_code, 3, (some .int), 3, [], [], 11, false)
/-- SinglesPastModel.isNow -/
def tM_294 : av_M := (⟨"SinglesPastModel", "isNow", "(II)I"⟩, prog_14_method_109_code, 4, (some .int), 3, [], [], 11, false)
/-- SinglesPastModel.pay -/
def tM_295 : av_M := (⟨"SinglesPastModel", "pay", "(II)I"⟩, prog_14_method_110_code, 3, (some .int), 3, [], [], 11, false)
/-- SinglesPastModel.nerve -/
def tM_296 : av_M := (⟨"SinglesPastModel", "nerve", "(II)I"⟩, prog_14_method_111_code, 3, (some .int), 3, [], [], 11, false)
/-- SinglesPastModel.wish -/
def tM_297 : av_M := (⟨"SinglesPastModel", "wish", "(II)I"⟩, prog_14_method_112_code, 3, (some .int), 3, [], [], 11, false)
/-- SinglesPastModel.deed -/
def tM_298 : av_M := (⟨"SinglesPastModel", "deed", "(IIZ)I"⟩, prog_14_method_113_code, 5, (some .int), 4, [], [], 11, false)
/-- SinglesPastModel.noTwo -/
def tM_299 : av_M := (⟨"SinglesPastModel", "noTwo", "(II)Z"⟩, prog_14_method_114_code, 3, (some .boolean), 3, [], [], 11, false)
/-- SinglesPastModel.quarrel -/
def tM_300 : av_M := (⟨"SinglesPastModel", "quarrel", "(IIZ)Z"⟩, prog_14_method_115_code, 6, (some .boolean), 4, [], [], 11, false)
/-- SinglesPastModel.stops -/
def tM_301 : av_M := (⟨"SinglesPastModel", "stops", "(II)I"⟩, prog_14_method_116_code, 3, (some .int), 3, [], [], 11, false)
/-- SinglesPastModel.recall -/
def tM_302 : av_M := (⟨"SinglesPastModel", "recall", "(I)I"⟩, prog_14_method_117_code, 3, (some .int), 2, [], [], 11, false)
/-- SinglesPastModel.isRows -/
def tM_303 : av_M := (⟨"SinglesPastModel", "isRows", "()Z"⟩, prog_14_method_118_code, 3, (some .boolean), 1, [], [], 11, false)
/-- SinglesPastModel.areSo -/
def tM_304 : av_M := (⟨"SinglesPastModel", "areSo", "(I)Z"⟩, prog_14_method_119_code, 4, (some .boolean), 2, [], [], 11, false)
/-- SinglesPastModel.send -/
def tM_305 : av_M := (⟨"SinglesPastModel", "send", "()I"⟩, prog_14_method_120_code, 4, (some .int), 1, [], [], 11, false)
/-- SinglesPastModel.fitsWho -/
def tM_306 : av_M := (⟨"SinglesPastModel", "fitsWho", "(I)Z"⟩, prog_14_method_121_code, 3, (some .boolean), 2, [], [], 11, false)
/-- SinglesPastModel.who -/
def tM_307 : av_M := (⟨"SinglesPastModel", "who", "(Z)I"⟩, prog_14_method_122_code, 5, (some .int), 2, [], [], 11, false)
/-- SinglesPastModel.look -/
def tM_308 : av_M := (⟨"SinglesPastModel", "look", "()I"⟩, prog_14_method_123_code, 8, (some .int), 1, [], [], 11, false)
/-- SinglesPastModel.hangsOn -/
def tM_309 : av_M := (⟨"SinglesPastModel", "hangsOn", "(I)I"⟩, prog_14_method_124_code, 4, (some .int), 2, [], [], 11, false)
/-- SinglesPastModel.hangs -/
def tM_310 : av_M := (⟨"SinglesPastModel", "hangs", "(I)I"⟩, prog_14_method_125_code, 2, (some .int), 2, [], [], 11, false)
/-- SinglesPastModel.key -/
def tM_311 : av_M := (⟨"SinglesPastModel", "key", "()I"⟩, prog_14_method_126_code, 5, (some .int), 1, [], [], 11, false)
/-- SinglesPastModel.loose -/
def tM_312 : av_M := (⟨"SinglesPastModel", "loose", "()I"⟩, prog_14_method_127_code, 4, (some .int), 1, [], [], 11, false)
/-- SinglesPastModel.kills -/
def tM_313 : av_M := (⟨"SinglesPastModel", "kills", "(II)Z"⟩, prog_14_method_128_code, 3, (some .boolean), 3, [], [], 11, false)
/-- SinglesPastModel.mayGo -/
def tM_314 : av_M := (⟨"SinglesPastModel", "mayGo", "(II)Z"⟩, prog_14_method_129_code, 6, (some .boolean), 3, [], [], 11, false)
/-- SinglesPastModel.laysWay -/
def tM_315 : av_M := (⟨"SinglesPastModel", "laysWay", "(II)I"⟩, prog_14_method_130_code, 6, (some .int), 3, [], [], 11, false)
/-- SinglesPastModel.mostOf -/
def tM_316 : av_M := (⟨"SinglesPastModel", "mostOf", "(I)I"⟩, prog_14_method_131_code, 7, (some .int), 2, [], [], 11, false)
/-- SinglesPastModel.colours -/
def tM_317 : av_M := (⟨"SinglesPastModel", "colours", "(I)I"⟩, prog_14_method_132_code, 3, (some .int), 2, [], [], 11, false)
/-- SinglesPastModel.laysMembers -/
def tM_318 : av_M := (⟨"SinglesPastModel", "laysMembers", "(I)I"⟩, prog_14_method_133_code, 4, (some .int), 2, [], [], 11, false)
/-- SinglesPastModel.canAll -/
def tM_319 : av_M := (⟨"SinglesPastModel", "canAll", "(I)Z"⟩, prog_14_method_134_code, 6, (some .boolean), 2, [], [], 11, false)
/-- SinglesPastModel.clash -/
def tM_320 : av_M := (⟨"SinglesPastModel", "clash", "()I"⟩, prog_14_method_135_code, 4, (some .int), 1, [], [], 11, false)
/-- SinglesPastModel.payersOf -/
def tM_321 : av_M := (⟨"SinglesPastModel", "payersOf", "(II)I"⟩, prog_14_method_136_code, 5, (some .int), 3, [], [], 11, false)
/-- SinglesPastModel.priceOf -/
def tM_322 : av_M := (⟨"SinglesPastModel", "priceOf", "(I)I"⟩, prog_14_method_137_code, 4, (some .int), 2, [], [], 11, false)
/-- SinglesPastModel.earnsOf -/
def tM_323 : av_M := (⟨"SinglesPastModel", "earnsOf", "(I)I"⟩, prog_14_method_138_code, 3, (some .int), 2, [], [], 11, false)
/-- SinglesPastModel.price -/
def tM_324 : av_M := (⟨"SinglesPastModel", "price", "(IZ)I"⟩, prog_14_method_139_code, 3, (some .int), 3, [], [], 11, false)
/-- SinglesPastModel.dearest -/
def tM_325 : av_M := (⟨"SinglesPastModel", "dearest", "()I"⟩, prog_14_method_140_code, 3, (some .int), 1, [], [], 11, false)
/-- SinglesPastModel.crowd -/
def tM_326 : av_M := (⟨"SinglesPastModel", "crowd", "(I)I"⟩, prog_14_method_141_code, 4, (some .int), 2, [], [], 11, false)
/-- SinglesPastModel.asksFor -/
def tM_327 : av_M := (⟨"SinglesPastModel", "asksFor", "(I)I"⟩, prog_14_method_142_code, 2, (some .int), 1, [], [], 11, false)
/-- SinglesPastModel.asks -/
def tM_328 : av_M := (⟨"SinglesPastModel", "asks", "(IZ)I"⟩, prog_14_method_143_code, 9, (some .int), 3, [], [], 11, false)
/-- SinglesPastModel.pickedBy -/
def tM_329 : av_M := (⟨"SinglesPastModel", "pickedBy", "(II)I"⟩, prog_14_method_144_code, 5, (some .int), 2, [], [], 11, false)
/-- SinglesPastModel.pick -/
def tM_330 : av_M := (⟨"SinglesPastModel", "pick", "(IZ)I"⟩, prog_14_method_145_code, 5, (some .int), 3, [], [], 11, false)
/-- SinglesPastModel.firstOf -/
def tM_331 : av_M := (⟨"SinglesPastModel", "firstOf", "(I)I"⟩, prog_14_method_146_code, 1, (some .int), 1, [], [], 11, false)
/-- SinglesPastModel.canPair -/
def tM_332 : av_M := (⟨"SinglesPastModel", "canPair", "(II)Z"⟩, prog_14_method_147_code, 3, (some .boolean), 3, [], [], 11, false)
/-- SinglesPastModel.pairedBy -/
def tM_333 : av_M := (⟨"SinglesPastModel", "pairedBy", "(II)I"⟩, prog_14_method_148_code, 5, (some .int), 3, [], [], 11, false)
/-- SinglesPastModel.laysPairs -/
def tM_334 : av_M := (⟨"SinglesPastModel", "laysPairs", "()V"⟩, prog_14_method_149_code, 4, none, 1, [], [], 11, false)
/-- SinglesPastModel.pairs -/
def tM_335 : av_M := (⟨"SinglesPastModel", "pairs", "(I)I"⟩, prog_14_method_150_code, 7, (some .int), 2, [], [], 11, false)
/-- SinglesPastModel.goerHas -/
def tM_336 : av_M := (⟨"SinglesPastModel", "goerHas", "(III)I"⟩, prog_14_method_151_code, 4, (some .int), 4, [], [], 11, false)
/-- SinglesPastModel.clerkHas -/
def tM_337 : av_M := (⟨"SinglesPastModel", "clerkHas", "(II)I"⟩, prog_14_method_152_code, 2, (some .int), 2, [], [], 11, false)
/-- SinglesPastModel.rests -/
def tM_338 : av_M := (⟨"SinglesPastModel", "rests", "(I)I"⟩, prog_14_method_153_code, 5, (some .int), 2, [], [], 11, false)
/-- SinglesPastModel.odds -/
def tM_339 : av_M := (⟨"SinglesPastModel", "odds", "(II)I"⟩, prog_14_method_154_code, 7, (some .int), 3, [], [], 11, false)
/-- SinglesPastModel.brave -/
def tM_340 : av_M := (⟨"SinglesPastModel", "brave", "()I"⟩, prog_14_method_155_code, 3, (some .int), 1, [], [], 11, false)
/-- SinglesPastModel.gone -/
def tM_341 : av_M := (⟨"SinglesPastModel", "gone", "()I"⟩, prog_14_method_156_code, 1, (some .int), 1, [], [], 11, false)
/-- SinglesPastModel.unborn -/
def tM_342 : av_M := (⟨"SinglesPastModel", "unborn", "()I"⟩, prog_14_method_157_code, 1, (some .int), 1, [], [], 11, false)
/-- SinglesPastModel.twins -/
def tM_343 : av_M := (⟨"SinglesPastModel", "twins", "()I"⟩, prog_14_method_158_code, 4, (some .int), 1, [], [], 11, false)
/-- SinglesPastModel.worth -/
def tM_344 : av_M := (⟨"SinglesPastModel", "worth", "()I"⟩, prog_14_method_159_code, 1, (some .int), 1, [], [], 11, false)
/-- SinglesPastModel.empty -/
def tM_345 : av_M := (⟨"SinglesPastModel", "empty", "()I"⟩, prog_14_method_160_code, 3, (some .int), 1, [], [], 11, false)
/-- SinglesPastModel.never -/
def tM_346 : av_M := (⟨"SinglesPastModel", "never", "()I"⟩, prog_14_method_161_code, 1, (some .int), 1, [], [], 11, false)
/-- SinglesPastModel.noAhead -/
def tM_347 : av_M := (⟨"SinglesPastModel", "noAhead", "(I)Z"⟩, prog_14_method_162_code, 1, (some .boolean), 1, [], [], 11, false)
/-- SinglesPastModel.ahead -/
def tM_348 : av_M := (⟨"SinglesPastModel", "ahead", "(II)I"⟩, prog_14_method_163_code, 4, (some .int), 3, [], [], 11, false)
/-- SinglesPastModel.trial -/
def tM_349 : av_M := (⟨"SinglesPastModel", "trial", "(IZ)I"⟩, prog_14_method_164_code, 4, (some .int), 3, [], [], 11, false)
/-- SinglesPastModel.span -/
def tM_350 : av_M := (⟨"SinglesPastModel", "span", "(IZ)I"⟩, prog_14_method_165_code, 6, (some .int), 3, [], [], 11, false)
/-- SinglesPastModel.ofLog -/
def tM_351 : av_M := (⟨"SinglesPastModel", "ofLog", "(II)I"⟩, prog_14_method_166_code, 3, (some .int), 3, [], [], 11, false)
/-- SinglesPastModel.led -/
def tM_352 : av_M := (⟨"SinglesPastModel", "led", "(IZ)I"⟩, prog_14_method_167_code, 6, (some .int), 3, [], [], 11, false)
/-- SinglesPastModel.log -/
def tM_353 : av_M := (⟨"SinglesPastModel", "log", "(II)I"⟩, prog_14_method_168_code, 3, (some .int), 3, [], [], 11, false)
/-- SinglesPastModel.seed -/
def tM_354 : av_M := (⟨"SinglesPastModel", "seed", "(I)I"⟩, prog_14_method_169_code, 3, (some .int), 2, [], [], 11, false)
/-- SinglesPastModel.count -/
def tM_355 : av_M := (⟨"SinglesPastModel", "count", "(I)I"⟩, prog_14_method_170_code, 4, (some .int), 2, [], [], 11, false)
/-- java/lang/Integer.numberOfTrailingZeros -/
def tM_356 : av_M := (⟨"java/lang/Integer", "numberOfTrailingZeros", "(I)I"⟩, prog_23_method_48_code, 2, (some .int), 1, [], [], 99, false)
/-- java/lang/Integer.bitCount -/
def tM_357 : av_M := (⟨"java/lang/Integer", "bitCount", "(I)I"⟩, prog_23_method_49_code, 1, (some .int), 1, [], [], 99, false)
/-- java/util/Arrays.fill -/
def tM_358 : av_M := (⟨"java/util/Arrays", "fill", "([II)V"⟩, prog_34_method_103_code, 4, none, 2, [], [], 99, false)
/-- java/util/Arrays.copyOf -/
def tM_359 : av_M := (⟨"java/util/Arrays", "copyOf", "([II)[I"⟩, prog_34_method_123_code, 3, (some (.array .int)), 2, [], [], 99, false)
/-- SinglesPastLaw.station -/
def tM_360 : av_M := (⟨"SinglesPastLaw", "station", "(LSinglesPast;[J)I"⟩, method_3_code, 3, (some .int), 2, [(0, 8, 11, 13), (0, 8, 14, 15)], ["java/lang/IllegalArgumentException", "java/lang/UnsupportedOperationException"], 99, false)
/-- SinglesPastLaw.law -/
def tM_361 : av_M := (⟨"SinglesPastLaw", "law", "(LSinglesPast;[J)I"⟩, method_4_code, 3, (some .int), 2, [(0, 8, 11, 13)], ["java/lang/IllegalArgumentException"], 99, false)
/-- SinglesPastLaw.thing -/
def tM_362 : av_M := (⟨"SinglesPastLaw", "thing", "(LSinglesPast;II[J)I"⟩, method_5_code, 5, (some .int), 4, [(0, 10, 13, 24), (0, 10, 17, 26)], ["java/lang/IndexOutOfBoundsException", "java/util/NoSuchElementException"], 99, false)
/-- SinglesPastLaw.goer -/
def tM_363 : av_M := (⟨"SinglesPastLaw", "goer", "(LSinglesPast;II[J)I"⟩, method_6_code, 5, (some .int), 4, [(0, 10, 13, 24), (0, 10, 17, 26)], ["java/lang/IndexOutOfBoundsException", "java/util/NoSuchElementException"], 99, false)
/-- SinglesPastLaw.train -/
def tM_364 : av_M := (⟨"SinglesPastLaw", "train", "(LSinglesPast;II[J)I"⟩, method_7_code, 5, (some .int), 4, [(0, 10, 13, 24), (0, 10, 17, 26)], ["java/lang/IndexOutOfBoundsException", "java/util/NoSuchElementException"], 99, false)
/-- SinglesPastLaw.cost -/
def tM_365 : av_M := (⟨"SinglesPastLaw", "cost", "(LSinglesPast;II[J)I"⟩, method_8_code, 5, (some .int), 4, [(0, 10, 13, 24)], ["java/lang/IndexOutOfBoundsException"], 99, false)
/-- SinglesPastLaw.fear -/
def tM_366 : av_M := (⟨"SinglesPastLaw", "fear", "(LSinglesPast;II[J)I"⟩, method_9_code, 5, (some .int), 4, [(0, 10, 13, 24)], ["java/lang/IndexOutOfBoundsException"], 99, false)
/-- SinglesPastLaw.may -/
def tM_367 : av_M := (⟨"SinglesPastLaw", "may", "(LSinglesPast;II[J)I"⟩, method_10_code, 5, (some .int), 4, [(0, 17, 20, 24)], ["java/lang/IndexOutOfBoundsException"], 99, false)
/-- SinglesPastLaw.days -/
def tM_368 : av_M := (⟨"SinglesPastLaw", "days", "(LSinglesPast;I[J)I"⟩, method_11_code, 4, (some .int), 3, [(0, 9, 12, 13)], ["java/lang/IllegalArgumentException"], 99, false)
/-- SinglesPastLaw.sell -/
def tM_369 : av_M := (⟨"SinglesPastLaw", "sell", "(LSinglesPast;II[J)I"⟩, method_12_code, 5, (some .int), 4, [(0, 10, 13, 24), (0, 10, 17, 51)], ["java/lang/IndexOutOfBoundsException", "java/lang/IllegalStateException"], 99, false)
/-- SinglesPastLaw.pay -/
def tM_370 : av_M := (⟨"SinglesPastLaw", "pay", "(LSinglesPast;II[J)I"⟩, method_13_code, 5, (some .int), 4, [(0, 10, 13, 24), (0, 10, 17, 13)], ["java/lang/IndexOutOfBoundsException", "java/lang/IllegalArgumentException"], 99, false)
/-- SinglesPastLaw.nerve -/
def tM_371 : av_M := (⟨"SinglesPastLaw", "nerve", "(LSinglesPast;II[J)I"⟩, method_14_code, 5, (some .int), 4, [(0, 10, 13, 24), (0, 10, 17, 13)], ["java/lang/IndexOutOfBoundsException", "java/lang/IllegalArgumentException"], 99, false)
/-- SinglesPastLaw.wish -/
def tM_372 : av_M := (⟨"SinglesPastLaw", "wish", "(LSinglesPast;II[J)I"⟩, method_15_code, 5, (some .int), 4, [(0, 10, 13, 24), (0, 10, 17, 51)], ["java/lang/IndexOutOfBoundsException", "java/lang/IllegalStateException"], 99, false)
/-- SinglesPastLaw.deed -/
def tM_373 : av_M := (⟨"SinglesPastLaw", "deed", "(LSinglesPast;IIZ[J)I"⟩, method_16_code, 6, (some .int), 5, [(0, 12, 15, 24), (0, 12, 19, 51)], ["java/lang/IndexOutOfBoundsException", "java/lang/IllegalStateException"], 99, false)
/-- SinglesPastLaw.quarrel -/
def tM_374 : av_M := (⟨"SinglesPastLaw", "quarrel", "(LSinglesPast;IIZ[J)I"⟩, method_17_code, 6, (some .int), 5, [(0, 19, 22, 24), (0, 19, 26, 13)], ["java/lang/IndexOutOfBoundsException", "java/lang/IllegalArgumentException"], 99, false)
/-- SinglesPastLaw.stops -/
def tM_375 : av_M := (⟨"SinglesPastLaw", "stops", "(LSinglesPast;II[J)I"⟩, method_18_code, 5, (some .int), 4, [(0, 10, 13, 24), (0, 10, 17, 13)], ["java/lang/IndexOutOfBoundsException", "java/lang/IllegalArgumentException"], 99, false)
/-- SinglesPastLaw.recall -/
def tM_376 : av_M := (⟨"SinglesPastLaw", "recall", "(LSinglesPast;I[J)I"⟩, method_19_code, 4, (some .int), 3, [(0, 9, 12, 24), (0, 9, 15, 51)], ["java/lang/IndexOutOfBoundsException", "java/lang/IllegalStateException"], 99, false)
/-- SinglesPastLaw.otherwise -/
def tM_377 : av_M := (⟨"SinglesPastLaw", "otherwise", "(LSinglesPast;I[J)I"⟩, method_20_code, 4, (some .int), 3, [(0, 9, 12, 24)], ["java/lang/IndexOutOfBoundsException"], 99, false)
/-- SinglesPastLaw.send -/
def tM_378 : av_M := (⟨"SinglesPastLaw", "send", "(LSinglesPast;[J)I"⟩, method_21_code, 3, (some .int), 2, [(0, 8, 11, 13)], ["java/lang/IllegalArgumentException"], 99, false)
/-- SinglesPastLaw.who -/
def tM_379 : av_M := (⟨"SinglesPastLaw", "who", "(LSinglesPast;Z[J)I"⟩, method_22_code, 4, (some .int), 3, [(0, 9, 12, 13)], ["java/lang/IllegalArgumentException"], 99, false)
/-- SinglesPastLaw.look -/
def tM_380 : av_M := (⟨"SinglesPastLaw", "look", "(LSinglesPast;[J)I"⟩, method_23_code, 3, (some .int), 2, [(0, 8, 11, 13)], ["java/lang/IllegalArgumentException"], 99, false)
/-- SinglesPastLaw.hangs -/
def tM_381 : av_M := (⟨"SinglesPastLaw", "hangs", "(LSinglesPast;I[J)I"⟩, method_24_code, 4, (some .int), 3, [(0, 9, 12, 24)], ["java/lang/IndexOutOfBoundsException"], 99, false)
/-- SinglesPastLaw.kills -/
def tM_382 : av_M := (⟨"SinglesPastLaw", "kills", "(LSinglesPast;II[J)I"⟩, method_25_code, 5, (some .int), 4, [(0, 17, 20, 24), (0, 17, 24, 13)], ["java/lang/IndexOutOfBoundsException", "java/lang/IllegalArgumentException"], 99, false)
/-- SinglesPastLaw.colours -/
def tM_383 : av_M := (⟨"SinglesPastLaw", "colours", "(LSinglesPast;I[J)I"⟩, method_26_code, 4, (some .int), 3, [(0, 9, 12, 24)], ["java/lang/IndexOutOfBoundsException"], 99, false)
/-- SinglesPastLaw.price -/
def tM_384 : av_M := (⟨"SinglesPastLaw", "price", "(LSinglesPast;IZ[J)I"⟩, method_27_code, 5, (some .int), 4, [(0, 10, 13, 24)], ["java/lang/IndexOutOfBoundsException"], 99, false)
/-- SinglesPastLaw.crowd -/
def tM_385 : av_M := (⟨"SinglesPastLaw", "crowd", "(LSinglesPast;I[J)I"⟩, method_28_code, 4, (some .int), 3, [(0, 9, 12, 24)], ["java/lang/IndexOutOfBoundsException"], 99, false)
/-- SinglesPastLaw.pick -/
def tM_386 : av_M := (⟨"SinglesPastLaw", "pick", "(LSinglesPast;IZ[J)I"⟩, method_29_code, 5, (some .int), 4, [(0, 10, 13, 13)], ["java/lang/IllegalArgumentException"], 99, false)
/-- SinglesPastLaw.pairs -/
def tM_387 : av_M := (⟨"SinglesPastLaw", "pairs", "(LSinglesPast;I[J)I"⟩, method_30_code, 4, (some .int), 3, [(0, 9, 12, 24)], ["java/lang/IndexOutOfBoundsException"], 99, false)
/-- SinglesPastLaw.rests -/
def tM_388 : av_M := (⟨"SinglesPastLaw", "rests", "(LSinglesPast;I[J)I"⟩, method_31_code, 4, (some .int), 3, [(0, 9, 12, 24)], ["java/lang/IndexOutOfBoundsException"], 99, false)
/-- SinglesPastLaw.odds -/
def tM_389 : av_M := (⟨"SinglesPastLaw", "odds", "(LSinglesPast;II[J)I"⟩, method_32_code, 5, (some .int), 4, [(0, 10, 13, 24), (0, 10, 17, 13)], ["java/lang/IndexOutOfBoundsException", "java/lang/IllegalArgumentException"], 99, false)
/-- SinglesPastLaw.ahead -/
def tM_390 : av_M := (⟨"SinglesPastLaw", "ahead", "(LSinglesPast;II[J)I"⟩, method_33_code, 5, (some .int), 4, [(0, 10, 13, 24), (0, 10, 17, 13)], ["java/lang/IndexOutOfBoundsException", "java/lang/IllegalArgumentException"], 99, false)
/-- SinglesPastLaw.trial -/
def tM_391 : av_M := (⟨"SinglesPastLaw", "trial", "(LSinglesPast;IZ[J)I"⟩, method_34_code, 5, (some .int), 4, [(0, 10, 13, 13)], ["java/lang/IllegalArgumentException"], 99, false)
/-- SinglesPastLaw.span -/
def tM_392 : av_M := (⟨"SinglesPastLaw", "span", "(LSinglesPast;IZ[J)I"⟩, method_35_code, 5, (some .int), 4, [(0, 10, 13, 13)], ["java/lang/IllegalArgumentException"], 99, false)
/-- SinglesPastLaw.led -/
def tM_393 : av_M := (⟨"SinglesPastLaw", "led", "(LSinglesPast;IZ[J)I"⟩, method_36_code, 5, (some .int), 4, [(0, 10, 13, 24)], ["java/lang/IndexOutOfBoundsException"], 99, false)
/-- SinglesPastLaw.log -/
def tM_394 : av_M := (⟨"SinglesPastLaw", "log", "(LSinglesPast;II[J)I"⟩, method_37_code, 5, (some .int), 4, [(0, 10, 13, 26)], ["java/util/NoSuchElementException"], 99, false)
/-- SinglesPastLaw.law -/
def tM_395 : av_M := (⟨"SinglesPastLaw", "law", "([I)Z"⟩, code, 7, (some .boolean), 1, [], [], 99, false)
def tA_0 : List (Nat × Nat × av_M) := [(0, 2, tM_0), (0, 1, tM_1), (0, 1, tM_2), (0, 1, tM_3), (1, 2, tM_4), (1, 1, tM_5), (1, 1, tM_6), (1, 1, tM_7), (1, 1, tM_8), (1, 1, tM_9), (1, 1, tM_10), (1, 1, tM_11), (2, 2, tM_12), (2, 1, tM_13), (2, 1, tM_14), (2, 1, tM_15), (2, 1, tM_16), (2, 1, tM_17), (3, 2, tM_18), (3, 1, tM_19), (3, 1, tM_20), (3, 1, tM_21), (4, 2, tM_22), (4, 1, tM_23), (4, 1, tM_24), (5, 2, tM_25), (5, 1, tM_26), (5, 1, tM_27), (5, 1, tM_28), (5, 1, tM_29), (6, 2, tM_30), (6, 1, tM_31), (6, 1, tM_32), (6, 1, tM_33), (6, 1, tM_34), (6, 1, tM_35), (6, 1, tM_36), (6, 1, tM_37), (6, 1, tM_38), (6, 1, tM_39)]
def tA_1 : List (Nat × Nat × av_M) := [(6, 1, tM_40), (6, 1, tM_41), (6, 1, tM_42), (6, 1, tM_43), (6, 1, tM_44), (6, 1, tM_45), (6, 1, tM_46), (6, 1, tM_47), (6, 1, tM_48), (6, 1, tM_49), (6, 1, tM_50), (6, 1, tM_51), (6, 1, tM_52), (7, 0, tM_53), (7, 0, tM_54), (7, 0, tM_55), (7, 0, tM_56), (7, 0, tM_57), (7, 0, tM_58), (7, 0, tM_59), (7, 0, tM_60), (7, 0, tM_61), (7, 0, tM_62), (8, 2, tM_63), (8, 1, tM_64), (8, 1, tM_65), (8, 1, tM_66), (8, 1, tM_67), (8, 1, tM_68), (8, 1, tM_69), (8, 1, tM_70), (8, 1, tM_71), (8, 1, tM_72), (8, 1, tM_73), (8, 1, tM_74), (9, 2, tM_75), (9, 1, tM_76), (9, 1, tM_77), (9, 1, tM_78), (9, 1, tM_79)]
def tA_2 : List (Nat × Nat × av_M) := [(9, 1, tM_80), (9, 1, tM_81), (9, 1, tM_82), (10, 2, tM_83), (10, 1, tM_84), (10, 1, tM_85), (10, 1, tM_86), (10, 1, tM_87), (10, 1, tM_88), (10, 1, tM_89), (10, 1, tM_90), (10, 1, tM_91), (10, 1, tM_92), (10, 1, tM_93), (11, 2, tM_94), (11, 1, tM_95), (11, 1, tM_96), (11, 1, tM_97), (11, 1, tM_98), (11, 1, tM_99), (11, 1, tM_100), (11, 1, tM_101), (11, 1, tM_102), (11, 1, tM_103), (11, 1, tM_104), (11, 1, tM_105), (11, 1, tM_106), (11, 1, tM_107), (11, 1, tM_108), (11, 1, tM_109), (11, 1, tM_110), (11, 1, tM_111), (11, 1, tM_112), (11, 1, tM_113), (11, 1, tM_114), (11, 1, tM_115), (11, 1, tM_116), (11, 1, tM_117), (11, 1, tM_118), (11, 1, tM_119)]
def tA_3 : List (Nat × Nat × av_M) := [(11, 1, tM_120), (11, 1, tM_121), (11, 1, tM_122), (11, 1, tM_123), (11, 1, tM_124), (11, 1, tM_125), (11, 1, tM_126), (11, 1, tM_127), (11, 1, tM_128), (11, 1, tM_129), (11, 1, tM_130), (11, 0, tM_131), (11, 1, tM_132), (11, 1, tM_133), (11, 1, tM_134), (11, 1, tM_135), (11, 1, tM_136), (11, 1, tM_137), (11, 1, tM_138), (11, 1, tM_139), (11, 1, tM_140), (11, 1, tM_141), (11, 1, tM_142), (11, 1, tM_143), (11, 1, tM_144), (11, 1, tM_145), (11, 1, tM_146), (11, 1, tM_147), (11, 1, tM_148), (11, 1, tM_149), (11, 1, tM_150), (11, 1, tM_151), (11, 1, tM_152), (11, 0, tM_153), (11, 0, tM_154), (11, 1, tM_155), (11, 0, tM_156), (11, 1, tM_157), (11, 1, tM_158), (11, 0, tM_159)]
def tA_4 : List (Nat × Nat × av_M) := [(11, 0, tM_160), (11, 1, tM_161), (11, 1, tM_162), (11, 1, tM_163), (11, 1, tM_164), (11, 1, tM_165), (11, 1, tM_166), (11, 1, tM_167), (11, 1, tM_168), (11, 1, tM_169), (11, 1, tM_170), (11, 1, tM_171), (11, 1, tM_172), (11, 1, tM_173), (11, 1, tM_174), (11, 1, tM_175), (11, 1, tM_176), (11, 1, tM_177), (11, 1, tM_178), (11, 0, tM_179), (11, 1, tM_180), (11, 1, tM_181), (11, 1, tM_182), (11, 1, tM_183), (11, 1, tM_184), (11, 0, tM_185), (12, 1, tM_186), (12, 1, tM_187), (12, 0, tM_188), (12, 0, tM_189), (12, 2, tM_190), (12, 1, tM_191), (12, 1, tM_192), (12, 1, tM_193), (12, 1, tM_194), (12, 1, tM_195), (12, 1, tM_196), (12, 1, tM_197), (12, 1, tM_198), (12, 1, tM_199)]
def tA_5 : List (Nat × Nat × av_M) := [(12, 0, tM_200), (12, 1, tM_201), (12, 0, tM_202), (12, 1, tM_203), (12, 0, tM_204), (12, 1, tM_205), (12, 1, tM_206), (12, 1, tM_207), (12, 1, tM_208), (12, 1, tM_209), (12, 1, tM_210), (12, 1, tM_211), (12, 1, tM_212), (12, 0, tM_213), (12, 1, tM_214), (12, 1, tM_215), (12, 1, tM_216), (12, 1, tM_217), (12, 1, tM_218), (12, 1, tM_219), (12, 1, tM_220), (12, 1, tM_221), (12, 1, tM_222), (12, 1, tM_223), (12, 1, tM_224), (12, 1, tM_225), (12, 1, tM_226), (12, 1, tM_227), (12, 1, tM_228), (12, 1, tM_229), (12, 1, tM_230), (12, 1, tM_231), (12, 1, tM_232), (12, 1, tM_233), (12, 1, tM_234), (12, 1, tM_235), (12, 1, tM_236), (12, 1, tM_237), (12, 1, tM_238), (12, 1, tM_239)]
def tA_6 : List (Nat × Nat × av_M) := [(12, 1, tM_240), (12, 1, tM_241), (12, 1, tM_242), (12, 1, tM_243), (12, 1, tM_244), (12, 1, tM_245), (12, 1, tM_246), (12, 1, tM_247), (12, 1, tM_248), (12, 1, tM_249), (12, 1, tM_250), (12, 1, tM_251), (12, 1, tM_252), (12, 1, tM_253), (12, 1, tM_254), (12, 1, tM_255), (12, 1, tM_256), (12, 1, tM_257), (12, 1, tM_258), (12, 1, tM_259), (12, 1, tM_260), (12, 1, tM_261), (12, 1, tM_262), (12, 1, tM_263), (12, 1, tM_264), (12, 1, tM_265), (12, 1, tM_266), (12, 1, tM_267), (12, 1, tM_268), (12, 1, tM_269), (12, 1, tM_270), (12, 1, tM_271), (12, 1, tM_272), (12, 1, tM_273), (12, 1, tM_274), (12, 1, tM_275), (12, 1, tM_276), (12, 1, tM_277), (12, 1, tM_278), (12, 1, tM_279)]
def tA_7 : List (Nat × Nat × av_M) := [(12, 1, tM_280), (12, 1, tM_281), (12, 1, tM_282), (12, 1, tM_283), (12, 1, tM_284), (12, 1, tM_285), (12, 1, tM_286), (12, 1, tM_287), (12, 1, tM_288), (12, 1, tM_289), (12, 1, tM_290), (12, 1, tM_291), (12, 1, tM_292), (12, 1, tM_293), (12, 1, tM_294), (12, 1, tM_295), (12, 1, tM_296), (12, 1, tM_297), (12, 1, tM_298), (12, 1, tM_299), (12, 1, tM_300), (12, 1, tM_301), (12, 1, tM_302), (12, 1, tM_303), (12, 1, tM_304), (12, 1, tM_305), (12, 1, tM_306), (12, 1, tM_307), (12, 1, tM_308), (12, 1, tM_309), (12, 1, tM_310), (12, 1, tM_311), (12, 1, tM_312), (12, 1, tM_313), (12, 1, tM_314), (12, 1, tM_315), (12, 1, tM_316), (12, 1, tM_317), (12, 1, tM_318), (12, 1, tM_319)]
def tA_8 : List (Nat × Nat × av_M) := [(12, 1, tM_320), (12, 1, tM_321), (12, 1, tM_322), (12, 1, tM_323), (12, 1, tM_324), (12, 1, tM_325), (12, 1, tM_326), (12, 0, tM_327), (12, 1, tM_328), (12, 0, tM_329), (12, 1, tM_330), (12, 0, tM_331), (12, 1, tM_332), (12, 1, tM_333), (12, 1, tM_334), (12, 1, tM_335), (12, 1, tM_336), (12, 0, tM_337), (12, 1, tM_338), (12, 1, tM_339), (12, 1, tM_340), (12, 1, tM_341), (12, 1, tM_342), (12, 1, tM_343), (12, 1, tM_344), (12, 1, tM_345), (12, 1, tM_346), (12, 0, tM_347), (12, 1, tM_348), (12, 1, tM_349), (12, 1, tM_350), (12, 1, tM_351), (12, 1, tM_352), (12, 1, tM_353), (12, 1, tM_354), (12, 1, tM_355), (13, 0, tM_356), (13, 0, tM_357), (14, 0, tM_358), (14, 0, tM_359)]
def tA_9 : List (Nat × Nat × av_M) := [(15, 0, tM_360), (15, 0, tM_361), (15, 0, tM_362), (15, 0, tM_363), (15, 0, tM_364), (15, 0, tM_365), (15, 0, tM_366), (15, 0, tM_367), (15, 0, tM_368), (15, 0, tM_369), (15, 0, tM_370), (15, 0, tM_371), (15, 0, tM_372), (15, 0, tM_373), (15, 0, tM_374), (15, 0, tM_375), (15, 0, tM_376), (15, 0, tM_377), (15, 0, tM_378), (15, 0, tM_379), (15, 0, tM_380), (15, 0, tM_381), (15, 0, tM_382), (15, 0, tM_383), (15, 0, tM_384), (15, 0, tM_385), (15, 0, tM_386), (15, 0, tM_387), (15, 0, tM_388), (15, 0, tM_389), (15, 0, tM_390), (15, 0, tM_391), (15, 0, tM_392), (15, 0, tM_393), (15, 0, tM_394), (15, 3, tM_395)]
/-- all methods: the code class, the kind, the method -/
def tAll : List (Nat × Nat × av_M) := tA_0 ++ (tA_1 ++ (tA_2 ++ (tA_3 ++ (tA_4 ++ (tA_5 ++ (tA_6 ++ (tA_7 ++ (tA_8 ++ (tA_9)))))))))
def tmo (i : Nat) : Nat := (tAll.getD i (99, 9, tM0)).1
def tmk (i : Nat) : Nat := (tAll.getD i (99, 9, tM0)).2.1
end
section
/-- SinglesPast$Law.<init>(I[I[I[I[I)V -/
def tO_0 : List (Nat × av_O) := [(0, .aload 0, 1, 0), (1, .monitorenter, 3, 3), (4, .aload 0, 1, 0), (5, .sipush 10, 2, 0), (7, .newarray .int, 2, 0), (9, .putfield 5, 3, 11), (12, .aload 0, 1, 0), (13, .sipush 32, 2, 0), (15, .newarray .int, 2, 0), (17, .putfield 6, 3, 15), (20, .aload 0, 1, 0), (21, .iload 1, 1, 0), (22, .putfield 0, 3, 18), (25, .aload 0, 1, 0), (26, .aload 2, 1, 0), (27, .putfield 1, 3, 22), (30, .aload 0, 1, 0), (31, .aload 3, 1, 0), (32, .putfield 2, 3, 25), (35, .aload 0, 1, 0), (36, .aload 4, 2, 0), (38, .putfield 3, 3, 28), (41, .aload 0, 1, 0), (42, .aload 5, 2, 0), (44, .putfield 4, 3, 31), (47, .return_, 1, 0)]
/-- SinglesPast$Law.lookAt(LSinglesPast$State;II)V -/
def tO_1 : List (Nat × av_O) := [(0, .aload 1, 1, 0), (1, .iload 3, 1, 0), (2, .invokevirtual 39, 3, 34), (5, .invokestatic 357, 3, 40), (8, .istore 4, 2, 0), (10, .aload 0, 1, 0), (11, .getfield 5, 3, 11), (14, .sipush 0, 1, 0), (15, .iload 2, 1, 0), (16, .iastore, 1, 0), (17, .aload 0, 1, 0), (18, .getfield 5, 3, 11), (21, .sipush 1, 1, 0), (22, .aload 1, 1, 0), (23, .getfield 386, 3, 45), (26, .iload 2, 1, 0), (27, .iaload, 1, 0), (28, .iastore, 1, 0), (29, .aload 0, 1, 0), (30, .getfield 5, 3, 11), (33, .sipush 2, 1, 0), (34, .aload 1, 1, 0), (35, .getfield 390, 3, 48), (38, .iload 2, 1, 0), (39, .iaload, 1, 0), (40, .iastore, 1, 0), (41, .aload 0, 1, 0), (42, .getfield 5, 3, 11), (45, .sipush 3, 1, 0), (46, .aload 1, 1, 0), (47, .getfield 391, 3, 51), (50, .iload 2, 1, 0), (51, .iaload, 1, 0), (52, .iastore, 1, 0), (53, .aload 0, 1, 0), (54, .getfield 5, 3, 11), (57, .sipush 4, 1, 0), (58, .iload 3, 1, 0), (59, .iastore, 1, 0), (60, .aload 0, 1, 0), (61, .getfield 5, 3, 11), (64, .sipush 5, 1, 0), (65, .iload 4, 2, 0), (67, .iastore, 1, 0), (68, .aload 0, 1, 0), (69, .getfield 5, 3, 11), (72, .sipush 6, 2, 0), (74, .aload 1, 1, 0), (75, .getfield 399, 3, 54), (78, .sipush 100, 2, 0), (80, .irem, 1, 0), (81, .iastore, 1, 0), (82, .aload 0, 1, 0), (83, .getfield 5, 3, 11), (86, .sipush 7, 2, 0), (88, .aload 1, 1, 0), (89, .getfield 389, 3, 57), (92, .iload 2, 1, 0), (93, .iaload, 1, 0), (94, .sipush (-1), 1, 0), (95, .if_icmp .eq 102, 3, 0), (98, .sipush 1, 1, 0), (99, .goto 103, 3, 0), (102, .sipush 0, 1, 0), (103, .iastore, 1, 0), (104, .aload 0, 1, 0), (105, .getfield 5, 3, 11), (108, .sipush 8, 2, 0), (110, .aload 1, 1, 0), (111, .getfield 387, 3, 60), (114, .iload 2, 1, 0), (115, .iaload, 1, 0), (116, .sipush (-1), 1, 0), (117, .if_icmp .eq 124, 3, 0), (120, .sipush 1, 1, 0), (121, .goto 125, 3, 0), (124, .sipush 0, 1, 0), (125, .iastore, 1, 0), (126, .aload 0, 1, 0), (127, .getfield 5, 3, 11), (130, .sipush 9, 2, 0), (132, .iload 4, 2, 0), (134, .aload 1, 1, 0), (135, .getfield 396, 3, 63), (138, .iload 3, 1, 0), (139, .iaload, 1, 0), (140, .if_icmp .lt 147, 3, 0), (143, .sipush 1, 1, 0), (144, .goto 148, 3, 0), (147, .sipush 0, 1, 0), (148, .iastore, 1, 0), (149, .return_, 1, 0)]
/-- SinglesPast$Law.sumOf(I)I -/
def tO_2 : List (Nat × av_O) := [(0, .sipush 0, 1, 0), (1, .istore 2, 1, 0), (2, .sipush 0, 1, 0), (3, .istore 3, 1, 0), (4, .sipush 0, 1, 0), (5, .istore 4, 2, 0), (7, .iload 4, 2, 0), (9, .aload 0, 1, 0), (10, .getfield 0, 3, 18), (13, .if_icmp .ge 66, 3, 0), (16, .aload 0, 1, 0), (17, .getfield 1, 3, 22), (20, .iload 4, 2, 0), (22, .iaload, 1, 0), (23, .iload 1, 1, 0), (24, .if_icmp .ne 52, 3, 0), (27, .aload 0, 1, 0), (28, .iload 3, 1, 0), (29, .aload 0, 1, 0), (30, .getfield 3, 3, 28), (33, .iload 4, 2, 0), (35, .iaload, 1, 0), (36, .invokevirtual 3, 3, 66), (39, .ifCond .eq 52, 3, 0), (42, .iload 2, 1, 0), (43, .aload 0, 1, 0), (44, .getfield 2, 3, 25), (47, .iload 4, 2, 0), (49, .iaload, 1, 0), (50, .iadd, 1, 0), (51, .istore 2, 1, 0), (52, .aload 0, 1, 0), (53, .getfield 3, 3, 28), (56, .iload 4, 2, 0), (58, .iaload, 1, 0), (59, .istore 3, 1, 0), (60, .iinc 4 1, 3, 0), (63, .goto 7, 3, 0), (66, .iload 2, 1, 0), (67, .ireturn, 1, 0)]
/-- SinglesPast$Law.holds(II)Z -/
def tO_3 : List (Nat × av_O) := [(0, .sipush (-1), 1, 0), (1, .istore 3, 1, 0), (2, .iload 1, 1, 0), (3, .istore 4, 2, 0), (5, .iload 4, 2, 0), (7, .iload 2, 1, 0), (8, .if_icmp .ge 247, 3, 0), (11, .aload 0, 1, 0), (12, .getfield 4, 3, 31), (15, .iload 4, 2, 0), (17, .iaload, 1, 0), (18, .istore 5, 2, 0), (20, .iload 5, 2, 0), (22, .sipush 1010, 3, 0), (25, .if_icmp .ge 72, 3, 0), (28, .iload 3, 1, 0), (29, .sipush 1, 1, 0), (30, .iadd, 1, 0), (31, .sipush 32, 2, 0), (33, .if_icmp .ge 241, 3, 0), (36, .iinc 3 1, 3, 0), (39, .aload 0, 1, 0), (40, .getfield 6, 3, 15), (43, .iload 3, 1, 0), (44, .iload 5, 2, 0), (46, .sipush 1000, 3, 0), (49, .if_icmp .ge 57, 3, 0), (52, .iload 5, 2, 0), (54, .goto 68, 3, 0), (57, .aload 0, 1, 0), (58, .getfield 5, 3, 11), (61, .iload 5, 2, 0), (63, .sipush 1000, 3, 0), (66, .isub, 1, 0), (67, .iaload, 1, 0), (68, .iastore, 1, 0), (69, .goto 241, 3, 0), (72, .iload 5, 2, 0), (74, .sipush 1013, 3, 0), (77, .if_icmp .ne 101, 3, 0), (80, .iload 3, 1, 0), (81, .ifCond .lt 241, 3, 0), (84, .aload 0, 1, 0), (85, .getfield 6, 3, 15), (88, .iload 3, 1, 0), (89, .sipush 1, 1, 0), (90, .aload 0, 1, 0), (91, .getfield 6, 3, 15), (94, .iload 3, 1, 0), (95, .iaload, 1, 0), (96, .isub, 1, 0), (97, .iastore, 1, 0), (98, .goto 241, 3, 0), (101, .iload 3, 1, 0), (102, .sipush 1, 1, 0), (103, .if_icmp .lt 241, 3, 0), (106, .aload 0, 1, 0), (107, .getfield 6, 3, 15), (110, .iload 3, 1, 0), (111, .iaload, 1, 0), (112, .istore 6, 2, 0), (114, .iinc 3 (-1), 3, 0), (117, .aload 0, 1, 0), (118, .getfield 6, 3, 15), (121, .iload 3, 1, 0), (122, .iaload, 1, 0), (123, .istore 7, 2, 0), (125, .iload 5, 2, 0), (127, .tableswitch 230 1010 1014 #[160, 174, 195, 230, 216], 33, 0), (160, .aload 0, 1, 0), (161, .getfield 6, 3, 15), (164, .iload 3, 1, 0), (165, .iload 7, 2, 0), (167, .iload 6, 2, 0), (169, .iadd, 1, 0), (170, .iastore, 1, 0), (171, .goto 241, 3, 0), (174, .aload 0, 1, 0), (175, .getfield 6, 3, 15), (178, .iload 3, 1, 0), (179, .iload 7, 2, 0), (181, .iload 6, 2, 0), (183, .if_icmp .ge 190, 3, 0), (186, .sipush 1, 1, 0), (187, .goto 191, 3, 0), (190, .sipush 0, 1, 0), (191, .iastore, 1, 0), (192, .goto 241, 3, 0), (195, .aload 0, 1, 0), (196, .getfield 6, 3, 15), (199, .iload 3, 1, 0), (200, .iload 7, 2, 0), (202, .iload 6, 2, 0), (204, .if_icmp .le 211, 3, 0), (207, .sipush 1, 1, 0), (208, .goto 212, 3, 0), (211, .sipush 0, 1, 0), (212, .iastore, 1, 0), (213, .goto 241, 3, 0), (216, .aload 0, 1, 0), (217, .getfield 6, 3, 15), (220, .iload 3, 1, 0), (221, .iload 7, 2, 0), (223, .iload 6, 2, 0), (225, .iand, 1, 0), (226, .iastore, 1, 0), (227, .goto 241, 3, 0), (230, .aload 0, 1, 0), (231, .getfield 6, 3, 15), (234, .iload 3, 1, 0), (235, .iload 7, 2, 0), (237, .iload 6, 2, 0), (239, .ior, 1, 0), (240, .iastore, 1, 0), (241, .iinc 4 1, 3, 0), (244, .goto 5, 3, 0), (247, .iload 3, 1, 0), (248, .ifCond .lt 260, 3, 0), (251, .aload 0, 1, 0), (252, .getfield 6, 3, 15), (255, .iload 3, 1, 0), (256, .iaload, 1, 0), (257, .ifCond .eq 264, 3, 0), (260, .sipush 1, 1, 0), (261, .goto 265, 3, 0), (264, .sipush 0, 1, 0), (265, .ireturn, 1, 0)]
/-- SinglesPast$LawText.<init>()V -/
def tO_4 : List (Nat × av_O) := [(0, .aload 0, 1, 0), (1, .monitorenter, 3, 3), (4, .aload 0, 1, 0), (5, .sipush 12, 2, 0), (7, .newarray .int, 2, 0), (9, .putfield 66, 3, 11), (12, .aload 0, 1, 0), (13, .sipush 12, 2, 0), (15, .newarray .int, 2, 0), (17, .putfield 67, 3, 15), (20, .aload 0, 1, 0), (21, .sipush 12, 2, 0), (23, .newarray .int, 2, 0), (25, .putfield 68, 3, 18), (28, .aload 0, 1, 0), (29, .sipush 400, 3, 0), (32, .newarray .int, 2, 0), (34, .putfield 69, 3, 21), (37, .return_, 1, 0)]
/-- SinglesPast$LawText.toLaw()LSinglesPast$Law; -/
def tO_5 : List (Nat × av_O) := [(0, .new 0, 3, 24), (3, .dup, 1, 0), (4, .aload 0, 1, 0), (5, .getfield 64, 3, 26), (8, .aload 0, 1, 0), (9, .getfield 66, 3, 11), (12, .aload 0, 1, 0), (13, .getfield 64, 3, 26), (16, .invokestatic 359, 3, 30), (19, .aload 0, 1, 0), (20, .getfield 67, 3, 15), (23, .aload 0, 1, 0), (24, .getfield 64, 3, 26), (27, .invokestatic 359, 3, 30), (30, .aload 0, 1, 0), (31, .getfield 68, 3, 18), (34, .aload 0, 1, 0), (35, .getfield 64, 3, 26), (38, .invokestatic 359, 3, 30), (41, .aload 0, 1, 0), (42, .getfield 69, 3, 21), (45, .aload 0, 1, 0), (46, .getfield 65, 3, 36), (49, .invokestatic 359, 3, 30), (52, .invokespecial 0, 3, 39), (55, .areturn, 1, 0)]
/-- SinglesPast$LawText.read(LSinglesPast$Tape;)Z -/
def tO_6 : List (Nat × av_O) := [(0, .aload 0, 1, 0), (1, .sipush 0, 1, 0), (2, .putfield 64, 3, 26), (5, .aload 0, 1, 0), (6, .sipush 0, 1, 0), (7, .putfield 65, 3, 36), (10, .aload 1, 1, 0), (11, .invokevirtual 66, 3, 42), (14, .ifCond .eq 19, 3, 0), (17, .sipush 1, 1, 0), (18, .ireturn, 1, 0), (19, .sipush 0, 1, 0), (20, .istore 2, 1, 0), (21, .iload 2, 1, 0), (22, .sipush 12, 2, 0), (24, .if_icmp .ge 65, 3, 0), (27, .aload 0, 1, 0), (28, .aload 1, 1, 0), (29, .iload 2, 1, 0), (30, .invokevirtual 7, 3, 48), (33, .ifCond .ne 38, 3, 0), (36, .sipush 0, 1, 0), (37, .ireturn, 1, 0), (38, .aload 0, 1, 0), (39, .iload 2, 1, 0), (40, .sipush 1, 1, 0), (41, .iadd, 1, 0), (42, .putfield 64, 3, 26), (45, .aload 1, 1, 0), (46, .sipush 59, 2, 0), (48, .invokevirtual 69, 3, 52), (51, .ifCond .ne 59, 3, 0), (54, .aload 1, 1, 0), (55, .invokevirtual 66, 3, 42), (58, .ireturn, 1, 0), (59, .iinc 2 1, 3, 0), (62, .goto 21, 3, 0), (65, .sipush 0, 1, 0), (66, .ireturn, 1, 0)]
/-- SinglesPast$LawText.readLine(LSinglesPast$Tape;I)Z -/
def tO_7 : List (Nat × av_O) := [(0, .aload 1, 1, 0), (1, .ldc 14, 2, 56), (3, .invokevirtual 71, 3, 58), (6, .istore 3, 1, 0), (7, .iload 3, 1, 0), (8, .sipush (-1), 1, 0), (9, .if_icmp .ne 14, 3, 0), (12, .sipush 0, 1, 0), (13, .ireturn, 1, 0), (14, .aload 0, 1, 0), (15, .getfield 66, 3, 11), (18, .iload 2, 1, 0), (19, .iload 3, 1, 0), (20, .iastore, 1, 0), (21, .aload 0, 1, 0), (22, .getfield 67, 3, 15), (25, .iload 2, 1, 0), (26, .sipush 1, 1, 0), (27, .iastore, 1, 0), (28, .iload 3, 1, 0), (29, .sipush 2, 1, 0), (30, .if_icmp .eq 56, 3, 0), (33, .aload 1, 1, 0), (34, .sipush 0, 1, 0), (35, .sipush 200, 3, 0), (38, .invokevirtual 73, 3, 62), (41, .ifCond .ne 46, 3, 0), (44, .sipush 0, 1, 0), (45, .ireturn, 1, 0), (46, .aload 0, 1, 0), (47, .getfield 67, 3, 15), (50, .iload 2, 1, 0), (51, .aload 1, 1, 0), (52, .getfield 451, 3, 66), (55, .iastore, 1, 0), (56, .aload 1, 1, 0), (57, .ldc 15, 2, 69), (59, .invokevirtual 70, 3, 71), (62, .ifCond .eq 76, 3, 0), (65, .aload 0, 1, 0), (66, .aload 1, 1, 0), (67, .sipush 0, 1, 0), (68, .invokevirtual 9, 3, 75), (71, .ifCond .ne 76, 3, 0), (74, .sipush 0, 1, 0), (75, .ireturn, 1, 0), (76, .aload 0, 1, 0), (77, .getfield 68, 3, 18), (80, .iload 2, 1, 0), (81, .aload 0, 1, 0), (82, .getfield 65, 3, 36), (85, .iastore, 1, 0), (86, .sipush 1, 1, 0), (87, .ireturn, 1, 0)]
/-- SinglesPast$LawText.put(I)V -/
def tO_8 : List (Nat × av_O) := [(0, .aload 0, 1, 0), (1, .getfield 65, 3, 36), (4, .aload 0, 1, 0), (5, .getfield 69, 3, 21), (8, .arraylength, 1, 0), (9, .if_icmp .ge 32, 3, 0), (12, .aload 0, 1, 0), (13, .getfield 69, 3, 21), (16, .aload 0, 1, 0), (17, .getfield 65, 3, 36), (20, .iload 1, 1, 0), (21, .iastore, 1, 0), (22, .aload 0, 1, 0), (23, .dup, 1, 0), (24, .getfield 65, 3, 36), (27, .sipush 1, 1, 0), (28, .iadd, 1, 0), (29, .putfield 65, 3, 36), (32, .return_, 1, 0)]
/-- SinglesPast$LawText.readCondition(LSinglesPast$Tape;I)Z -/
def tO_9 : List (Nat × av_O) := [(0, .sipush 0, 1, 0), (1, .istore 3, 1, 0), (2, .sipush 0, 1, 0), (3, .istore 4, 2, 0), (5, .sipush 0, 1, 0), (6, .istore 5, 2, 0), (8, .iload 5, 2, 0), (10, .sipush 400, 3, 0), (13, .if_icmp .ge 82, 3, 0), (16, .aload 0, 1, 0), (17, .aload 1, 1, 0), (18, .iload 2, 1, 0), (19, .invokevirtual 10, 3, 78), (22, .ifCond .ne 27, 3, 0), (25, .sipush 0, 1, 0), (26, .ireturn, 1, 0), (27, .iload 3, 1, 0), (28, .ifCond .eq 38, 3, 0), (31, .aload 0, 1, 0), (32, .sipush 1014, 3, 0), (35, .invokevirtual 8, 3, 81), (38, .aload 1, 1, 0), (39, .ldc 19, 2, 85), (41, .invokevirtual 70, 3, 71), (44, .istore 3, 1, 0), (45, .iload 3, 1, 0), (46, .ifCond .ne 76, 3, 0), (49, .iload 4, 2, 0), (51, .ifCond .eq 61, 3, 0), (54, .aload 0, 1, 0), (55, .sipush 1015, 3, 0), (58, .invokevirtual 8, 3, 81), (61, .aload 1, 1, 0), (62, .ldc 20, 2, 87), (64, .invokevirtual 70, 3, 71), (67, .istore 4, 2, 0), (69, .iload 4, 2, 0), (71, .ifCond .ne 76, 3, 0), (74, .sipush 1, 1, 0), (75, .ireturn, 1, 0), (76, .iinc 5 1, 3, 0), (79, .goto 8, 3, 0), (82, .sipush 0, 1, 0), (83, .ireturn, 1, 0)]
/-- SinglesPast$LawText.readAtom(LSinglesPast$Tape;I)Z -/
def tO_10 : List (Nat × av_O) := [(0, .aload 1, 1, 0), (1, .ldc 16, 2, 89), (3, .invokevirtual 70, 3, 71), (6, .ifCond .eq 42, 3, 0), (9, .iload 2, 1, 0), (10, .sipush 6, 2, 0), (12, .if_icmp .lt 20, 3, 0), (15, .aload 1, 1, 0), (16, .invokevirtual 68, 3, 91), (19, .ireturn, 1, 0), (20, .aload 0, 1, 0), (21, .aload 1, 1, 0), (22, .iload 2, 1, 0), (23, .sipush 1, 1, 0), (24, .iadd, 1, 0), (25, .invokevirtual 10, 3, 78), (28, .ifCond .ne 33, 3, 0), (31, .sipush 0, 1, 0), (32, .ireturn, 1, 0), (33, .aload 0, 1, 0), (34, .sipush 1013, 3, 0), (37, .invokevirtual 8, 3, 81), (40, .sipush 1, 1, 0), (41, .ireturn, 1, 0), (42, .aload 1, 1, 0), (43, .sipush 40, 2, 0), (45, .invokevirtual 69, 3, 52), (48, .ifCond .eq 88, 3, 0), (51, .iload 2, 1, 0), (52, .sipush 6, 2, 0), (54, .if_icmp .lt 62, 3, 0), (57, .aload 1, 1, 0), (58, .invokevirtual 68, 3, 91), (61, .ireturn, 1, 0), (62, .aload 0, 1, 0), (63, .aload 1, 1, 0), (64, .iload 2, 1, 0), (65, .sipush 1, 1, 0), (66, .iadd, 1, 0), (67, .invokevirtual 9, 3, 75), (70, .ifCond .eq 86, 3, 0), (73, .aload 1, 1, 0), (74, .sipush 41, 2, 0), (76, .invokevirtual 69, 3, 52), (79, .ifCond .eq 86, 3, 0), (82, .sipush 1, 1, 0), (83, .goto 87, 3, 0), (86, .sipush 0, 1, 0), (87, .ireturn, 1, 0), (88, .aload 1, 1, 0), (89, .ldc 17, 2, 94), (91, .invokevirtual 71, 3, 58), (94, .istore 3, 1, 0), (95, .iload 3, 1, 0), (96, .sipush (-1), 1, 0), (97, .if_icmp .eq 111, 3, 0), (100, .aload 0, 1, 0), (101, .sipush 1007, 3, 0), (104, .iload 3, 1, 0), (105, .iadd, 1, 0), (106, .invokevirtual 8, 3, 81), (109, .sipush 1, 1, 0), (110, .ireturn, 1, 0), (111, .aload 0, 1, 0), (112, .aload 1, 1, 0), (113, .invokevirtual 11, 3, 96), (116, .ifCond .ne 121, 3, 0), (119, .sipush 0, 1, 0), (120, .ireturn, 1, 0), (121, .aload 1, 1, 0), (122, .sipush 60, 2, 0), (124, .invokevirtual 69, 3, 52), (127, .ifCond .eq 136, 3, 0), (130, .sipush 1011, 3, 0), (133, .goto 152, 3, 0), (136, .aload 1, 1, 0), (137, .sipush 62, 2, 0), (139, .invokevirtual 69, 3, 52), (142, .ifCond .eq 151, 3, 0), (145, .sipush 1012, 3, 0), (148, .goto 152, 3, 0), (151, .sipush (-1), 1, 0), (152, .istore 4, 2, 0), (154, .iload 4, 2, 0), (156, .sipush (-1), 1, 0), (157, .if_icmp .eq 168, 3, 0), (160, .aload 0, 1, 0), (161, .aload 1, 1, 0), (162, .invokevirtual 11, 3, 96), (165, .ifCond .ne 170, 3, 0), (168, .sipush 0, 1, 0), (169, .ireturn, 1, 0), (170, .aload 0, 1, 0), (171, .iload 4, 2, 0), (173, .invokevirtual 8, 3, 81), (176, .sipush 1, 1, 0), (177, .ireturn, 1, 0)]
/-- SinglesPast$LawText.readSum(LSinglesPast$Tape;)Z -/
def tO_11 : List (Nat × av_O) := [(0, .sipush 0, 1, 0), (1, .istore 2, 1, 0), (2, .iload 2, 1, 0), (3, .sipush 400, 3, 0), (6, .if_icmp .ge 82, 3, 0), (9, .aload 1, 1, 0), (10, .sipush 0, 1, 0), (11, .sipush 999, 3, 0), (14, .invokevirtual 73, 3, 62), (17, .ifCond .eq 31, 3, 0), (20, .aload 0, 1, 0), (21, .aload 1, 1, 0), (22, .getfield 451, 3, 66), (25, .invokevirtual 8, 3, 81), (28, .goto 54, 3, 0), (31, .aload 1, 1, 0), (32, .ldc 18, 2, 100), (34, .invokevirtual 71, 3, 58), (37, .istore 3, 1, 0), (38, .iload 3, 1, 0), (39, .sipush (-1), 1, 0), (40, .if_icmp .ne 45, 3, 0), (43, .sipush 0, 1, 0), (44, .ireturn, 1, 0), (45, .aload 0, 1, 0), (46, .sipush 1000, 3, 0), (49, .iload 3, 1, 0), (50, .iadd, 1, 0), (51, .invokevirtual 8, 3, 81), (54, .iload 2, 1, 0), (55, .ifCond .le 65, 3, 0), (58, .aload 0, 1, 0), (59, .sipush 1010, 3, 0), (62, .invokevirtual 8, 3, 81), (65, .aload 1, 1, 0), (66, .sipush 43, 2, 0), (68, .invokevirtual 69, 3, 52), (71, .ifCond .ne 76, 3, 0), (74, .sipush 1, 1, 0), (75, .ireturn, 1, 0), (76, .iinc 2 1, 3, 0), (79, .goto 2, 3, 0), (82, .sipush 0, 1, 0), (83, .ireturn, 1, 0)]
/-- SinglesPast$Log.<init>()V -/
def tO_12 : List (Nat × av_O) := [(0, .aload 0, 1, 0), (1, .monitorenter, 3, 3), (4, .aload 0, 1, 0), (5, .sipush 240, 3, 0), (8, .newarray .int, 2, 0), (10, .putfield 129, 3, 11), (13, .return_, 1, 0)]
/-- SinglesPast$Log.copyFrom(LSinglesPast$Log;)V -/
def tO_13 : List (Nat × av_O) := [(0, .aload 0, 1, 0), (1, .aload 1, 1, 0), (2, .getfield 128, 3, 15), (5, .putfield 128, 3, 15), (8, .aload 1, 1, 0), (9, .getfield 129, 3, 11), (12, .sipush 0, 1, 0), (13, .aload 0, 1, 0), (14, .getfield 129, 3, 11), (17, .sipush 0, 1, 0), (18, .aload 0, 1, 0), (19, .getfield 129, 3, 11), (22, .arraylength, 1, 0), (23, .invokedynamic 0, 3, 19), (26, .return_, 1, 0)]
/-- SinglesPast$Log.add(IIII)V -/
def tO_14 : List (Nat × av_O) := [(0, .aload 0, 1, 0), (1, .getfield 128, 3, 15), (4, .sipush 60, 2, 0), (6, .if_icmp .lt 35, 3, 0), (9, .aload 0, 1, 0), (10, .getfield 129, 3, 11), (13, .sipush 4, 1, 0), (14, .aload 0, 1, 0), (15, .getfield 129, 3, 11), (18, .sipush 0, 1, 0), (19, .aload 0, 1, 0), (20, .getfield 129, 3, 11), (23, .arraylength, 1, 0), (24, .sipush 4, 1, 0), (25, .isub, 1, 0), (26, .invokedynamic 0, 3, 19), (29, .aload 0, 1, 0), (30, .sipush 59, 2, 0), (32, .putfield 128, 3, 15), (35, .aload 0, 1, 0), (36, .getfield 128, 3, 15), (39, .sipush 4, 1, 0), (40, .imul, 1, 0), (41, .istore 5, 2, 0), (43, .aload 0, 1, 0), (44, .getfield 129, 3, 11), (47, .iload 5, 2, 0), (49, .iload 1, 1, 0), (50, .iastore, 1, 0), (51, .aload 0, 1, 0), (52, .getfield 129, 3, 11), (55, .iload 5, 2, 0), (57, .sipush 1, 1, 0), (58, .iadd, 1, 0), (59, .iload 2, 1, 0), (60, .iastore, 1, 0), (61, .aload 0, 1, 0), (62, .getfield 129, 3, 11), (65, .iload 5, 2, 0), (67, .sipush 2, 1, 0), (68, .iadd, 1, 0), (69, .iload 3, 1, 0), (70, .iastore, 1, 0), (71, .aload 0, 1, 0), (72, .getfield 129, 3, 11), (75, .iload 5, 2, 0), (77, .sipush 3, 1, 0), (78, .iadd, 1, 0), (79, .iload 4, 2, 0), (81, .iastore, 1, 0), (82, .aload 0, 1, 0), (83, .dup, 1, 0), (84, .getfield 128, 3, 15), (87, .sipush 1, 1, 0), (88, .iadd, 1, 0), (89, .putfield 128, 3, 15), (92, .return_, 1, 0)]
/-- SinglesPast$Log.entryOf(II)I -/
def tO_15 : List (Nat × av_O) := [(0, .iload 1, 1, 0), (1, .ifCond .lt 12, 3, 0), (4, .iload 1, 1, 0), (5, .aload 0, 1, 0), (6, .getfield 128, 3, 15), (9, .if_icmp .lt 15, 3, 0), (12, .sipush (-2), 2, 0), (14, .ireturn, 1, 0), (15, .aload 0, 1, 0), (16, .getfield 129, 3, 11), (19, .aload 0, 1, 0), (20, .getfield 128, 3, 15), (23, .sipush 1, 1, 0), (24, .isub, 1, 0), (25, .iload 1, 1, 0), (26, .isub, 1, 0), (27, .sipush 4, 1, 0), (28, .imul, 1, 0), (29, .iload 2, 1, 0), (30, .iadd, 1, 0), (31, .iaload, 1, 0), (32, .ireturn, 1, 0)]
/-- SinglesPast$Log.countOf(I)I -/
def tO_16 : List (Nat × av_O) := [(0, .sipush 0, 1, 0), (1, .istore 2, 1, 0), (2, .sipush 0, 1, 0), (3, .istore 3, 1, 0), (4, .iload 3, 1, 0), (5, .aload 0, 1, 0), (6, .getfield 128, 3, 15), (9, .if_icmp .ge 35, 3, 0), (12, .aload 0, 1, 0), (13, .getfield 129, 3, 11), (16, .iload 3, 1, 0), (17, .sipush 4, 1, 0), (18, .imul, 1, 0), (19, .sipush 1, 1, 0), (20, .iadd, 1, 0), (21, .iaload, 1, 0), (22, .iload 1, 1, 0), (23, .if_icmp .ne 29, 3, 0), (26, .iinc 2 1, 3, 0), (29, .iinc 3 1, 3, 0), (32, .goto 4, 3, 0), (35, .iload 2, 1, 0), (36, .ireturn, 1, 0)]
/-- SinglesPast$Log.latestDayOf(I)I -/
def tO_17 : List (Nat × av_O) := [(0, .aload 0, 1, 0), (1, .getfield 128, 3, 15), (4, .sipush 1, 1, 0), (5, .isub, 1, 0), (6, .istore 2, 1, 0), (7, .iload 2, 1, 0), (8, .ifCond .lt 40, 3, 0), (11, .aload 0, 1, 0), (12, .getfield 129, 3, 11), (15, .iload 2, 1, 0), (16, .sipush 4, 1, 0), (17, .imul, 1, 0), (18, .sipush 1, 1, 0), (19, .iadd, 1, 0), (20, .iaload, 1, 0), (21, .iload 1, 1, 0), (22, .if_icmp .ne 34, 3, 0), (25, .aload 0, 1, 0), (26, .getfield 129, 3, 11), (29, .iload 2, 1, 0), (30, .sipush 4, 1, 0), (31, .imul, 1, 0), (32, .iaload, 1, 0), (33, .ireturn, 1, 0), (34, .iinc 2 (-1), 3, 0), (37, .goto 7, 3, 0), (40, .sipush (-1), 1, 0), (41, .ireturn, 1, 0)]
/-- SinglesPast$Memory.<init>()V -/
def tO_18 : List (Nat × av_O) := [(0, .aload 0, 1, 0), (1, .monitorenter, 3, 1), (4, .aload 0, 1, 0), (5, .sipush 12, 2, 0), (7, .anewarray 0, 3, 9), (10, .putfield 194, 3, 11), (13, .sipush 0, 1, 0), (14, .istore 1, 1, 0), (15, .iload 1, 1, 0), (16, .sipush 12, 2, 0), (18, .if_icmp .ge 40, 3, 0), (21, .aload 0, 1, 0), (22, .getfield 194, 3, 11), (25, .iload 1, 1, 0), (26, .new 6, 3, 9), (29, .dup, 1, 0), (30, .invokespecial 30, 3, 15), (33, .aastore, 1, 0), (34, .iinc 1 1, 3, 0), (37, .goto 15, 3, 0), (40, .return_, 1, 0)]
/-- SinglesPast$Memory.keep(LSinglesPast$State;)V -/
def tO_19 : List (Nat × av_O) := [(0, .aload 0, 1, 0), (1, .getfield 194, 3, 11), (4, .aload 0, 1, 0), (5, .getfield 193, 3, 16), (8, .aaload, 1, 0), (9, .aload 1, 1, 0), (10, .invokevirtual 31, 3, 20), (13, .aload 0, 1, 0), (14, .aload 0, 1, 0), (15, .getfield 193, 3, 16), (18, .sipush 1, 1, 0), (19, .iadd, 1, 0), (20, .sipush 12, 2, 0), (22, .irem, 1, 0), (23, .putfield 193, 3, 16), (26, .aload 0, 1, 0), (27, .sipush 12, 2, 0), (29, .aload 0, 1, 0), (30, .getfield 192, 3, 24), (33, .sipush 1, 1, 0), (34, .iadd, 1, 0), (35, .invokedynamic 5, 3, 27), (38, .putfield 192, 3, 24), (41, .return_, 1, 0)]
/-- SinglesPast$Memory.bringBack(LSinglesPast$State;)Z -/
def tO_20 : List (Nat × av_O) := [(0, .aload 0, 1, 0), (1, .getfield 192, 3, 24), (4, .ifCond .ne 9, 3, 0), (7, .sipush 0, 1, 0), (8, .ireturn, 1, 0), (9, .aload 0, 1, 0), (10, .dup, 1, 0), (11, .getfield 192, 3, 24), (14, .sipush 1, 1, 0), (15, .isub, 1, 0), (16, .putfield 192, 3, 24), (19, .aload 0, 1, 0), (20, .aload 0, 1, 0), (21, .getfield 193, 3, 16), (24, .sipush 12, 2, 0), (26, .iadd, 1, 0), (27, .sipush 1, 1, 0), (28, .isub, 1, 0), (29, .sipush 12, 2, 0), (31, .irem, 1, 0), (32, .putfield 193, 3, 16), (35, .aload 1, 1, 0), (36, .aload 0, 1, 0), (37, .getfield 194, 3, 11), (40, .aload 0, 1, 0), (41, .getfield 193, 3, 16), (44, .aaload, 1, 0), (45, .invokevirtual 31, 3, 20), (48, .sipush 1, 1, 0), (49, .ireturn, 1, 0)]
/-- SinglesPast$Memory.forget()V -/
def tO_21 : List (Nat × av_O) := [(0, .aload 0, 1, 0), (1, .sipush 0, 1, 0), (2, .putfield 192, 3, 24), (5, .return_, 1, 0)]
/-- SinglesPast$Pairing.<init>()V -/
def tO_22 : List (Nat × av_O) := [(0, .aload 0, 1, 0), (1, .monitorenter, 3, 3), (4, .aload 0, 1, 0), (5, .sipush 6, 2, 0), (7, .newarray .int, 2, 0), (9, .putfield 256, 3, 9), (12, .aload 0, 1, 0), (13, .sipush 6, 2, 0), (15, .newarray .int, 2, 0), (17, .putfield 258, 3, 15), (20, .return_, 1, 0)]
/-- SinglesPast$Pairing.pairMost(LSinglesPast$State;I)I -/
def tO_23 : List (Nat × av_O) := [(0, .aload 0, 1, 0), (1, .sipush (-1), 1, 0), (2, .putfield 257, 3, 18), (5, .aload 0, 1, 0), (6, .getfield 258, 3, 15), (9, .sipush (-1), 1, 0), (10, .invokestatic 358, 3, 22), (13, .aload 0, 1, 0), (14, .aload 1, 1, 0), (15, .sipush 0, 1, 0), (16, .iload 2, 1, 0), (17, .sipush 0, 1, 0), (18, .invokevirtual 24, 3, 28), (21, .aload 0, 1, 0), (22, .getfield 257, 3, 18), (25, .ireturn, 1, 0)]
/-- SinglesPast$Pairing.pairFrom(LSinglesPast$State;III)V -/
def tO_24 : List (Nat × av_O) := [(0, .iload 4, 2, 0), (2, .iload 3, 1, 0), (3, .iload 2, 1, 0), (4, .ishr, 1, 0), (5, .invokestatic 357, 3, 32), (8, .sipush 2, 1, 0), (9, .idiv, 1, 0), (10, .iadd, 1, 0), (11, .aload 0, 1, 0), (12, .getfield 257, 3, 18), (15, .if_icmp .gt 19, 3, 0), (18, .return_, 1, 0), (19, .iload 2, 1, 0), (20, .aload 1, 1, 0), (21, .getfield 385, 3, 38), (24, .if_icmp .ge 33, 3, 0), (27, .iload 2, 1, 0), (28, .sipush 6, 2, 0), (30, .if_icmp .lt 55, 3, 0), (33, .aload 0, 1, 0), (34, .iload 4, 2, 0), (36, .putfield 257, 3, 18), (39, .aload 0, 1, 0), (40, .getfield 258, 3, 15), (43, .sipush 0, 1, 0), (44, .aload 0, 1, 0), (45, .getfield 256, 3, 9), (48, .sipush 0, 1, 0), (49, .sipush 6, 2, 0), (51, .invokedynamic 0, 3, 43), (54, .return_, 1, 0), (55, .aload 0, 1, 0), (56, .aload 1, 1, 0), (57, .iload 2, 1, 0), (58, .sipush 1, 1, 0), (59, .iadd, 1, 0), (60, .iload 3, 1, 0), (61, .iload 4, 2, 0), (63, .invokevirtual 24, 3, 28), (66, .iload 3, 1, 0), (67, .iload 2, 1, 0), (68, .ishr, 1, 0), (69, .sipush 1, 1, 0), (70, .iand, 1, 0), (71, .ifCond .ne 75, 3, 0), (74, .return_, 1, 0), (75, .iload 2, 1, 0), (76, .sipush 1, 1, 0), (77, .iadd, 1, 0), (78, .istore 5, 2, 0), (80, .iload 5, 2, 0), (82, .aload 1, 1, 0), (83, .getfield 385, 3, 38), (86, .if_icmp .ge 209, 3, 0), (89, .iload 3, 1, 0), (90, .iload 5, 2, 0), (92, .ishr, 1, 0), (93, .sipush 1, 1, 0), (94, .iand, 1, 0), (95, .ifCond .eq 102, 3, 0), (98, .sipush 1, 1, 0), (99, .goto 103, 3, 0), (102, .sipush 0, 1, 0), (103, .istore 6, 2, 0), (105, .aload 1, 1, 0), (106, .getfield 392, 3, 49), (109, .iload 2, 1, 0), (110, .iaload, 1, 0), (111, .iload 5, 2, 0), (113, .ishr, 1, 0), (114, .sipush 1, 1, 0), (115, .iand, 1, 0), (116, .ifCond .eq 123, 3, 0), (119, .sipush 1, 1, 0), (120, .goto 124, 3, 0), (123, .sipush 0, 1, 0), (124, .istore 7, 2, 0), (126, .iload 6, 2, 0), (128, .ifCond .eq 203, 3, 0), (131, .iload 7, 2, 0), (133, .ifCond .ne 203, 3, 0), (136, .aload 1, 1, 0), (137, .getfield 386, 3, 52), (140, .iload 2, 1, 0), (141, .iaload, 1, 0), (142, .aload 1, 1, 0), (143, .getfield 386, 3, 52), (146, .iload 5, 2, 0), (148, .iaload, 1, 0), (149, .if_icmp .ne 203, 3, 0), (152, .aload 0, 1, 0), (153, .getfield 258, 3, 15), (156, .iload 2, 1, 0), (157, .iload 5, 2, 0), (159, .iastore, 1, 0), (160, .aload 0, 1, 0), (161, .getfield 258, 3, 15), (164, .iload 5, 2, 0), (166, .iload 2, 1, 0), (167, .iastore, 1, 0), (168, .aload 0, 1, 0), (169, .aload 1, 1, 0), (170, .iload 2, 1, 0), (171, .sipush 1, 1, 0), (172, .iadd, 1, 0), (173, .iload 3, 1, 0), (174, .sipush 1, 1, 0), (175, .iload 5, 2, 0), (177, .ishl, 1, 0), (178, .sipush (-1), 1, 0), (179, .ixor, 1, 0), (180, .iand, 1, 0), (181, .iload 4, 2, 0), (183, .sipush 1, 1, 0), (184, .iadd, 1, 0), (185, .invokevirtual 24, 3, 28), (188, .aload 0, 1, 0), (189, .getfield 258, 3, 15), (192, .iload 2, 1, 0), (193, .sipush (-1), 1, 0), (194, .iastore, 1, 0), (195, .aload 0, 1, 0), (196, .getfield 258, 3, 15), (199, .iload 5, 2, 0), (201, .sipush (-1), 1, 0), (202, .iastore, 1, 0), (203, .iinc 5 1, 3, 0), (206, .goto 80, 3, 0), (209, .return_, 1, 0)]
/-- SinglesPast$Seating.<init>()V -/
def tO_25 : List (Nat × av_O) := [(0, .aload 0, 1, 0), (1, .monitorenter, 3, 3), (4, .aload 0, 1, 0), (5, .sipush 6, 2, 0), (7, .newarray .int, 2, 0), (9, .putfield 320, 3, 9), (12, .aload 0, 1, 0), (13, .sipush 6, 2, 0), (15, .newarray .int, 2, 0), (17, .putfield 322, 3, 15), (20, .aload 0, 1, 0), (21, .sipush 5, 1, 0), (22, .newarray .int, 2, 0), (24, .putfield 323, 3, 18), (27, .return_, 1, 0)]
/-- SinglesPast$Seating.seatMost(LSinglesPast$State;I)I -/
def tO_26 : List (Nat × av_O) := [(0, .aload 0, 1, 0), (1, .sipush (-1), 1, 0), (2, .putfield 321, 3, 21), (5, .aload 0, 1, 0), (6, .aload 1, 1, 0), (7, .sipush 0, 1, 0), (8, .iload 2, 1, 0), (9, .sipush 0, 1, 0), (10, .invokevirtual 28, 3, 25), (13, .aload 0, 1, 0), (14, .getfield 321, 3, 21), (17, .ireturn, 1, 0)]
/-- SinglesPast$Seating.canSeatAll(LSinglesPast$State;I)Z -/
def tO_27 : List (Nat × av_O) := [(0, .iload 2, 1, 0), (1, .invokestatic 357, 3, 29), (4, .istore 3, 1, 0), (5, .aload 0, 1, 0), (6, .iload 3, 1, 0), (7, .sipush 1, 1, 0), (8, .isub, 1, 0), (9, .putfield 321, 3, 21), (12, .aload 0, 1, 0), (13, .aload 1, 1, 0), (14, .sipush 0, 1, 0), (15, .iload 2, 1, 0), (16, .sipush 0, 1, 0), (17, .invokevirtual 28, 3, 25), (20, .aload 0, 1, 0), (21, .getfield 321, 3, 21), (24, .iload 3, 1, 0), (25, .if_icmp .ne 32, 3, 0), (28, .sipush 1, 1, 0), (29, .goto 33, 3, 0), (32, .sipush 0, 1, 0), (33, .ireturn, 1, 0)]
/-- SinglesPast$Seating.seatFrom(LSinglesPast$State;III)V -/
def tO_28 : List (Nat × av_O) := [(0, .iload 4, 2, 0), (2, .iload 3, 1, 0), (3, .iload 2, 1, 0), (4, .ishr, 1, 0), (5, .invokestatic 357, 3, 29), (8, .iadd, 1, 0), (9, .aload 0, 1, 0), (10, .getfield 321, 3, 21), (13, .if_icmp .gt 17, 3, 0), (16, .return_, 1, 0), (17, .iload 2, 1, 0), (18, .aload 1, 1, 0), (19, .getfield 385, 3, 35), (22, .if_icmp .ge 31, 3, 0), (25, .iload 2, 1, 0), (26, .sipush 6, 2, 0), (28, .if_icmp .lt 53, 3, 0), (31, .aload 0, 1, 0), (32, .iload 4, 2, 0), (34, .putfield 321, 3, 21), (37, .aload 0, 1, 0), (38, .getfield 322, 3, 15), (41, .sipush 0, 1, 0), (42, .aload 0, 1, 0), (43, .getfield 320, 3, 9), (46, .sipush 0, 1, 0), (47, .sipush 6, 2, 0), (49, .invokedynamic 0, 3, 40), (52, .return_, 1, 0), (53, .iload 3, 1, 0), (54, .iload 2, 1, 0), (55, .ishr, 1, 0), (56, .sipush 1, 1, 0), (57, .iand, 1, 0), (58, .ifCond .eq 139, 3, 0), (61, .sipush 0, 1, 0), (62, .istore 5, 2, 0), (64, .iload 5, 2, 0), (66, .aload 1, 1, 0), (67, .getfield 394, 3, 46), (70, .if_icmp .ge 139, 3, 0), (73, .aload 0, 1, 0), (74, .aload 1, 1, 0), (75, .iload 2, 1, 0), (76, .iload 5, 2, 0), (78, .invokevirtual 29, 3, 49), (81, .ifCond .eq 133, 3, 0), (84, .aload 0, 1, 0), (85, .getfield 322, 3, 15), (88, .iload 2, 1, 0), (89, .iload 5, 2, 0), (91, .iastore, 1, 0), (92, .aload 0, 1, 0), (93, .getfield 323, 3, 18), (96, .iload 5, 2, 0), (98, .dup2, 1, 0), (99, .iaload, 1, 0), (100, .sipush 1, 1, 0), (101, .iload 2, 1, 0), (102, .ishl, 1, 0), (103, .ior, 1, 0), (104, .iastore, 1, 0), (105, .aload 0, 1, 0), (106, .aload 1, 1, 0), (107, .iload 2, 1, 0), (108, .sipush 1, 1, 0), (109, .iadd, 1, 0), (110, .iload 3, 1, 0), (111, .iload 4, 2, 0), (113, .sipush 1, 1, 0), (114, .iadd, 1, 0), (115, .invokevirtual 28, 3, 25), (118, .aload 0, 1, 0), (119, .getfield 323, 3, 18), (122, .iload 5, 2, 0), (124, .dup2, 1, 0), (125, .iaload, 1, 0), (126, .sipush 1, 1, 0), (127, .iload 2, 1, 0), (128, .ishl, 1, 0), (129, .sipush (-1), 1, 0), (130, .ixor, 1, 0), (131, .iand, 1, 0), (132, .iastore, 1, 0), (133, .iinc 5 1, 3, 0), (136, .goto 64, 3, 0), (139, .aload 0, 1, 0), (140, .getfield 322, 3, 15), (143, .iload 2, 1, 0), (144, .sipush (-1), 1, 0), (145, .iastore, 1, 0), (146, .aload 0, 1, 0), (147, .aload 1, 1, 0), (148, .iload 2, 1, 0), (149, .sipush 1, 1, 0), (150, .iadd, 1, 0), (151, .iload 3, 1, 0), (152, .iload 4, 2, 0), (154, .invokevirtual 28, 3, 25), (157, .return_, 1, 0)]
/-- SinglesPast$Seating.hasRoom(LSinglesPast$State;II)Z -/
def tO_29 : List (Nat × av_O) := [(0, .aload 0, 1, 0), (1, .getfield 323, 3, 18), (4, .iload 3, 1, 0), (5, .iaload, 1, 0), (6, .istore 4, 2, 0), (8, .aload 1, 1, 0), (9, .iload 2, 1, 0), (10, .iload 3, 1, 0), (11, .invokevirtual 42, 3, 53), (14, .ifCond .eq 47, 3, 0), (17, .iload 4, 2, 0), (19, .aload 1, 1, 0), (20, .getfield 392, 3, 57), (23, .iload 2, 1, 0), (24, .iaload, 1, 0), (25, .iand, 1, 0), (26, .ifCond .ne 47, 3, 0), (29, .iload 4, 2, 0), (31, .invokestatic 357, 3, 29), (34, .aload 1, 1, 0), (35, .getfield 396, 3, 60), (38, .iload 3, 1, 0), (39, .iaload, 1, 0), (40, .if_icmp .ge 47, 3, 0), (43, .sipush 1, 1, 0), (44, .goto 48, 3, 0), (47, .sipush 0, 1, 0), (48, .ireturn, 1, 0)]
/-- SinglesPast$State.<init>()V -/
def tO_30 : List (Nat × av_O) := [(0, .aload 0, 1, 0), (1, .monitorenter, 3, 3), (4, .aload 0, 1, 0), (5, .new 8, 3, 9), (8, .dup, 1, 0), (9, .invokespecial 75, 3, 11), (12, .putfield 384, 3, 12), (15, .aload 0, 1, 0), (16, .sipush 6, 2, 0), (18, .newarray .int, 2, 0), (20, .putfield 386, 3, 18), (23, .aload 0, 1, 0), (24, .sipush 6, 2, 0), (26, .newarray .int, 2, 0), (28, .putfield 387, 3, 22), (31, .aload 0, 1, 0), (32, .sipush 6, 2, 0), (34, .newarray .int, 2, 0), (36, .putfield 389, 3, 25), (39, .aload 0, 1, 0), (40, .sipush 6, 2, 0), (42, .newarray .int, 2, 0), (44, .putfield 390, 3, 28), (47, .aload 0, 1, 0), (48, .sipush 6, 2, 0), (50, .newarray .int, 2, 0), (52, .putfield 391, 3, 31), (55, .aload 0, 1, 0), (56, .sipush 6, 2, 0), (58, .newarray .int, 2, 0), (60, .putfield 392, 3, 34), (63, .aload 0, 1, 0), (64, .sipush 6, 2, 0), (66, .newarray .int, 2, 0), (68, .putfield 393, 3, 37), (71, .aload 0, 1, 0), (72, .sipush 5, 1, 0), (73, .newarray .int, 2, 0), (75, .putfield 395, 3, 40), (78, .aload 0, 1, 0), (79, .sipush 5, 1, 0), (80, .newarray .int, 2, 0), (82, .putfield 396, 3, 43), (85, .aload 0, 1, 0), (86, .sipush 1, 1, 0), (87, .putfield 400, 3, 46), (90, .aload 0, 1, 0), (91, .new 2, 3, 50), (94, .dup, 1, 0), (95, .invokespecial 12, 3, 52), (98, .putfield 401, 3, 53), (101, .return_, 1, 0)]
/-- SinglesPast$State.copyFrom(LSinglesPast$State;)V -/
def tO_31 : List (Nat × av_O) := [(0, .aload 0, 1, 0), (1, .getfield 384, 3, 12), (4, .aload 1, 1, 0), (5, .getfield 384, 3, 12), (8, .invokevirtual 76, 3, 57), (11, .aload 0, 1, 0), (12, .aload 1, 1, 0), (13, .getfield 385, 3, 61), (16, .putfield 385, 3, 61), (19, .aload 1, 1, 0), (20, .getfield 386, 3, 18), (23, .sipush 0, 1, 0), (24, .aload 0, 1, 0), (25, .getfield 386, 3, 18), (28, .sipush 0, 1, 0), (29, .sipush 6, 2, 0), (31, .invokedynamic 0, 3, 64), (34, .aload 1, 1, 0), (35, .getfield 387, 3, 22), (38, .sipush 0, 1, 0), (39, .aload 0, 1, 0), (40, .getfield 387, 3, 22), (43, .sipush 0, 1, 0), (44, .sipush 6, 2, 0), (46, .invokedynamic 0, 3, 64), (49, .aload 0, 1, 0), (50, .aload 1, 1, 0), (51, .getfield 388, 3, 70), (54, .putfield 388, 3, 70), (57, .aload 1, 1, 0), (58, .getfield 389, 3, 25), (61, .sipush 0, 1, 0), (62, .aload 0, 1, 0), (63, .getfield 389, 3, 25), (66, .sipush 0, 1, 0), (67, .sipush 6, 2, 0), (69, .invokedynamic 0, 3, 64), (72, .aload 1, 1, 0), (73, .getfield 390, 3, 28), (76, .sipush 0, 1, 0), (77, .aload 0, 1, 0), (78, .getfield 390, 3, 28), (81, .sipush 0, 1, 0), (82, .sipush 6, 2, 0), (84, .invokedynamic 0, 3, 64), (87, .aload 1, 1, 0), (88, .getfield 391, 3, 31), (91, .sipush 0, 1, 0), (92, .aload 0, 1, 0), (93, .getfield 391, 3, 31), (96, .sipush 0, 1, 0), (97, .sipush 6, 2, 0), (99, .invokedynamic 0, 3, 64), (102, .aload 1, 1, 0), (103, .getfield 392, 3, 34), (106, .sipush 0, 1, 0), (107, .aload 0, 1, 0), (108, .getfield 392, 3, 34), (111, .sipush 0, 1, 0), (112, .sipush 6, 2, 0), (114, .invokedynamic 0, 3, 64), (117, .aload 1, 1, 0), (118, .getfield 393, 3, 37), (121, .sipush 0, 1, 0), (122, .aload 0, 1, 0), (123, .getfield 393, 3, 37), (126, .sipush 0, 1, 0), (127, .sipush 6, 2, 0), (129, .invokedynamic 0, 3, 64), (132, .aload 0, 1, 0), (133, .aload 1, 1, 0), (134, .getfield 394, 3, 73), (137, .putfield 394, 3, 73), (140, .aload 1, 1, 0), (141, .getfield 395, 3, 40), (144, .sipush 0, 1, 0), (145, .aload 0, 1, 0), (146, .getfield 395, 3, 40), (149, .sipush 0, 1, 0), (150, .sipush 5, 1, 0), (151, .invokedynamic 0, 3, 64), (154, .aload 1, 1, 0), (155, .getfield 396, 3, 43), (158, .sipush 0, 1, 0), (159, .aload 0, 1, 0), (160, .getfield 396, 3, 43), (163, .sipush 0, 1, 0), (164, .sipush 5, 1, 0), (165, .invokedynamic 0, 3, 64), (168, .aload 0, 1, 0), (169, .aload 1, 1, 0), (170, .getfield 397, 3, 76), (173, .putfield 397, 3, 76), (176, .aload 0, 1, 0), (177, .aload 1, 1, 0), (178, .getfield 398, 3, 79), (181, .putfield 398, 3, 79), (184, .aload 0, 1, 0), (185, .aload 1, 1, 0), (186, .getfield 399, 3, 83), (189, .putfield 399, 3, 83), (192, .aload 0, 1, 0), (193, .aload 1, 1, 0), (194, .getfield 400, 3, 46), (197, .putfield 400, 3, 46), (200, .aload 0, 1, 0), (201, .getfield 401, 3, 53), (204, .aload 1, 1, 0), (205, .getfield 401, 3, 53), (208, .invokevirtual 13, 3, 86), (211, .return_, 1, 0)]
/-- SinglesPast$State.addGoer(II)I -/
def tO_32 : List (Nat × av_O) := [(0, .aload 0, 1, 0), (1, .getfield 385, 3, 61), (4, .sipush 6, 2, 0), (6, .if_icmp .lt 11, 3, 0), (9, .sipush 5, 1, 0), (10, .ireturn, 1, 0), (11, .aload 0, 1, 0), (12, .getfield 385, 3, 61), (15, .istore 3, 1, 0), (16, .aload 0, 1, 0), (17, .dup, 1, 0), (18, .getfield 385, 3, 61), (21, .sipush 1, 1, 0), (22, .iadd, 1, 0), (23, .putfield 385, 3, 61), (26, .aload 0, 1, 0), (27, .getfield 386, 3, 18), (30, .iload 3, 1, 0), (31, .iload 1, 1, 0), (32, .iastore, 1, 0), (33, .aload 0, 1, 0), (34, .getfield 390, 3, 28), (37, .iload 3, 1, 0), (38, .iload 2, 1, 0), (39, .iastore, 1, 0), (40, .aload 0, 1, 0), (41, .getfield 391, 3, 31), (44, .iload 3, 1, 0), (45, .sipush 50, 2, 0), (47, .iastore, 1, 0), (48, .aload 0, 1, 0), (49, .getfield 389, 3, 25), (52, .iload 3, 1, 0), (53, .sipush (-1), 1, 0), (54, .iastore, 1, 0), (55, .aload 0, 1, 0), (56, .getfield 392, 3, 34), (59, .iload 3, 1, 0), (60, .sipush 0, 1, 0), (61, .iastore, 1, 0), (62, .aload 0, 1, 0), (63, .getfield 393, 3, 37), (66, .iload 3, 1, 0), (67, .sipush (-1), 1, 0), (68, .iastore, 1, 0), (69, .aload 0, 1, 0), (70, .iload 3, 1, 0), (71, .sipush (-1), 1, 0), (72, .sipush 0, 1, 0), (73, .invokevirtual 34, 3, 89), (76, .iload 3, 1, 0), (77, .ireturn, 1, 0)]
/-- SinglesPast$State.addTrain(II)V -/
def tO_33 : List (Nat × av_O) := [(0, .aload 0, 1, 0), (1, .getfield 394, 3, 73), (4, .sipush 5, 1, 0), (5, .if_icmp .ge 38, 3, 0), (8, .aload 0, 1, 0), (9, .getfield 396, 3, 43), (12, .aload 0, 1, 0), (13, .getfield 394, 3, 73), (16, .iload 1, 1, 0), (17, .iastore, 1, 0), (18, .aload 0, 1, 0), (19, .getfield 395, 3, 40), (22, .aload 0, 1, 0), (23, .getfield 394, 3, 73), (26, .iload 2, 1, 0), (27, .iastore, 1, 0), (28, .aload 0, 1, 0), (29, .dup, 1, 0), (30, .getfield 394, 3, 73), (33, .sipush 1, 1, 0), (34, .iadd, 1, 0), (35, .putfield 394, 3, 73), (38, .return_, 1, 0)]
/-- SinglesPast$State.tellDeed(IIZ)V -/
def tO_34 : List (Nat × av_O) := [(0, .sipush 1, 1, 0), (1, .iload 1, 1, 0), (2, .ishl, 1, 0), (3, .istore 4, 2, 0), (5, .aload 0, 1, 0), (6, .getfield 387, 3, 22), (9, .iload 1, 1, 0), (10, .iload 2, 1, 0), (11, .iastore, 1, 0), (12, .aload 0, 1, 0), (13, .iload 2, 1, 0), (14, .sipush (-1), 1, 0), (15, .if_icmp .eq 32, 3, 0), (18, .iload 3, 1, 0), (19, .ifCond .eq 32, 3, 0), (22, .aload 0, 1, 0), (23, .getfield 388, 3, 70), (26, .iload 4, 2, 0), (28, .ior, 1, 0), (29, .goto 41, 3, 0), (32, .aload 0, 1, 0), (33, .getfield 388, 3, 70), (36, .iload 4, 2, 0), (38, .sipush (-1), 1, 0), (39, .ixor, 1, 0), (40, .iand, 1, 0), (41, .putfield 388, 3, 70), (44, .return_, 1, 0)]
/-- SinglesPast$State.tellShunning(IIZ)V -/
def tO_35 : List (Nat × av_O) := [(0, .aload 0, 1, 0), (1, .getfield 392, 3, 34), (4, .iload 1, 1, 0), (5, .iload 3, 1, 0), (6, .ifCond .eq 22, 3, 0), (9, .aload 0, 1, 0), (10, .getfield 392, 3, 34), (13, .iload 1, 1, 0), (14, .iaload, 1, 0), (15, .sipush 1, 1, 0), (16, .iload 2, 1, 0), (17, .ishl, 1, 0), (18, .ior, 1, 0), (19, .goto 34, 3, 0), (22, .aload 0, 1, 0), (23, .getfield 392, 3, 34), (26, .iload 1, 1, 0), (27, .iaload, 1, 0), (28, .sipush 1, 1, 0), (29, .iload 2, 1, 0), (30, .ishl, 1, 0), (31, .sipush (-1), 1, 0), (32, .ixor, 1, 0), (33, .iand, 1, 0), (34, .iastore, 1, 0), (35, .aload 0, 1, 0), (36, .getfield 392, 3, 34), (39, .iload 2, 1, 0), (40, .iload 3, 1, 0), (41, .ifCond .eq 57, 3, 0), (44, .aload 0, 1, 0), (45, .getfield 392, 3, 34), (48, .iload 2, 1, 0), (49, .iaload, 1, 0), (50, .sipush 1, 1, 0), (51, .iload 1, 1, 0), (52, .ishl, 1, 0), (53, .ior, 1, 0), (54, .goto 69, 3, 0), (57, .aload 0, 1, 0), (58, .getfield 392, 3, 34), (61, .iload 2, 1, 0), (62, .iaload, 1, 0), (63, .sipush 1, 1, 0), (64, .iload 1, 1, 0), (65, .ishl, 1, 0), (66, .sipush (-1), 1, 0), (67, .ixor, 1, 0), (68, .iand, 1, 0), (69, .iastore, 1, 0), (70, .return_, 1, 0)]
/-- SinglesPast$State.everyone()I -/
def tO_36 : List (Nat × av_O) := [(0, .sipush 1, 1, 0), (1, .aload 0, 1, 0), (2, .getfield 385, 3, 61), (5, .ishl, 1, 0), (6, .sipush 1, 1, 0), (7, .isub, 1, 0), (8, .ireturn, 1, 0)]
/-- SinglesPast$State.goneSet()I -/
def tO_37 : List (Nat × av_O) := [(0, .sipush 0, 1, 0), (1, .istore 1, 1, 0), (2, .sipush 0, 1, 0), (3, .istore 2, 1, 0), (4, .iload 2, 1, 0), (5, .aload 0, 1, 0), (6, .getfield 385, 3, 61), (9, .if_icmp .ge 34, 3, 0), (12, .aload 0, 1, 0), (13, .getfield 393, 3, 37), (16, .iload 2, 1, 0), (17, .iaload, 1, 0), (18, .sipush (-1), 1, 0), (19, .if_icmp .eq 28, 3, 0), (22, .iload 1, 1, 0), (23, .sipush 1, 1, 0), (24, .iload 2, 1, 0), (25, .ishl, 1, 0), (26, .ior, 1, 0), (27, .istore 1, 1, 0), (28, .iinc 2 1, 3, 0), (31, .goto 4, 3, 0), (34, .iload 1, 1, 0), (35, .ireturn, 1, 0)]
/-- SinglesPast$State.stayingSet()I -/
def tO_38 : List (Nat × av_O) := [(0, .aload 0, 1, 0), (1, .invokevirtual 36, 3, 93), (4, .aload 0, 1, 0), (5, .invokevirtual 37, 3, 97), (8, .sipush (-1), 1, 0), (9, .ixor, 1, 0), (10, .iand, 1, 0), (11, .ireturn, 1, 0)]
/-- SinglesPast$State.ridersOf(I)I -/
def tO_39 : List (Nat × av_O) := [(0, .sipush 0, 1, 0), (1, .istore 2, 1, 0), (2, .sipush 0, 1, 0), (3, .istore 3, 1, 0), (4, .iload 3, 1, 0), (5, .aload 0, 1, 0), (6, .getfield 385, 3, 61), (9, .if_icmp .ge 34, 3, 0), (12, .aload 0, 1, 0), (13, .getfield 393, 3, 37), (16, .iload 3, 1, 0), (17, .iaload, 1, 0), (18, .iload 1, 1, 0), (19, .if_icmp .ne 28, 3, 0), (22, .iload 2, 1, 0), (23, .sipush 1, 1, 0), (24, .iload 3, 1, 0), (25, .ishl, 1, 0), (26, .ior, 1, 0), (27, .istore 2, 1, 0), (28, .iinc 3 1, 3, 0), (31, .goto 4, 3, 0), (34, .iload 2, 1, 0), (35, .ireturn, 1, 0)]
/-- SinglesPast$State.everyHalt()I -/
def tO_40 : List (Nat × av_O) := [(0, .sipush 0, 1, 0), (1, .istore 1, 1, 0), (2, .sipush 0, 1, 0), (3, .istore 2, 1, 0), (4, .iload 2, 1, 0), (5, .aload 0, 1, 0), (6, .getfield 394, 3, 73), (9, .if_icmp .ge 27, 3, 0), (12, .iload 1, 1, 0), (13, .aload 0, 1, 0), (14, .getfield 395, 3, 40), (17, .iload 2, 1, 0), (18, .iaload, 1, 0), (19, .ior, 1, 0), (20, .istore 1, 1, 0), (21, .iinc 2 1, 3, 0), (24, .goto 4, 3, 0), (27, .iload 1, 1, 0), (28, .ireturn, 1, 0)]
/-- SinglesPast$State.allMoney()I -/
def tO_41 : List (Nat × av_O) := [(0, .sipush 0, 1, 0), (1, .istore 1, 1, 0), (2, .sipush 0, 1, 0), (3, .istore 2, 1, 0), (4, .iload 2, 1, 0), (5, .aload 0, 1, 0), (6, .getfield 385, 3, 61), (9, .if_icmp .ge 27, 3, 0), (12, .iload 1, 1, 0), (13, .aload 0, 1, 0), (14, .getfield 390, 3, 28), (17, .iload 2, 1, 0), (18, .iaload, 1, 0), (19, .iadd, 1, 0), (20, .istore 1, 1, 0), (21, .iinc 2 1, 3, 0), (24, .goto 4, 3, 0), (27, .iload 1, 1, 0), (28, .ireturn, 1, 0)]
/-- SinglesPast$State.stopsForHim(II)Z -/
def tO_42 : List (Nat × av_O) := [(0, .aload 0, 1, 0), (1, .getfield 395, 3, 40), (4, .iload 2, 1, 0), (5, .iaload, 1, 0), (6, .aload 0, 1, 0), (7, .getfield 386, 3, 18), (10, .iload 1, 1, 0), (11, .iaload, 1, 0), (12, .ishr, 1, 0), (13, .sipush 1, 1, 0), (14, .iand, 1, 0), (15, .ifCond .eq 22, 3, 0), (18, .sipush 1, 1, 0), (19, .goto 23, 3, 0), (22, .sipush 0, 1, 0), (23, .ireturn, 1, 0)]
/-- SinglesPast$State.aliveIn(I)I -/
def tO_43 : List (Nat × av_O) := [(0, .sipush 0, 1, 0), (1, .istore 2, 1, 0), (2, .sipush 0, 1, 0), (3, .istore 3, 1, 0), (4, .iload 3, 1, 0), (5, .aload 0, 1, 0), (6, .getfield 385, 3, 61), (9, .if_icmp .ge 47, 3, 0), (12, .aload 0, 1, 0), (13, .getfield 389, 3, 25), (16, .iload 3, 1, 0), (17, .iaload, 1, 0), (18, .sipush (-1), 1, 0), (19, .if_icmp .eq 35, 3, 0), (22, .iload 1, 1, 0), (23, .aload 0, 1, 0), (24, .getfield 389, 3, 25), (27, .iload 3, 1, 0), (28, .iaload, 1, 0), (29, .ishr, 1, 0), (30, .sipush 1, 1, 0), (31, .iand, 1, 0), (32, .ifCond .eq 41, 3, 0), (35, .iload 2, 1, 0), (36, .sipush 1, 1, 0), (37, .iload 3, 1, 0), (38, .ishl, 1, 0), (39, .ior, 1, 0), (40, .istore 2, 1, 0), (41, .iinc 3 1, 3, 0), (44, .goto 4, 3, 0), (47, .iload 2, 1, 0), (48, .ireturn, 1, 0)]
/-- SinglesPast$State.costOf(II)I -/
def tO_44 : List (Nat × av_O) := [(0, .aload 0, 1, 0), (1, .getfield 398, 3, 79), (4, .ifnonnull 10, 3, 0), (7, .sipush 10, 2, 0), (9, .ireturn, 1, 0), (10, .aload 0, 1, 0), (11, .getfield 398, 3, 79), (14, .aload 0, 1, 0), (15, .iload 1, 1, 0), (16, .iload 2, 1, 0), (17, .invokevirtual 1, 3, 100), (20, .sipush 10, 2, 0), (22, .aload 0, 1, 0), (23, .getfield 398, 3, 79), (26, .sipush 0, 1, 0), (27, .invokevirtual 2, 3, 106), (30, .iadd, 1, 0), (31, .ireturn, 1, 0)]
/-- SinglesPast$State.fearOf(II)I -/
def tO_45 : List (Nat × av_O) := [(0, .aload 0, 1, 0), (1, .getfield 398, 3, 79), (4, .ifnonnull 9, 3, 0), (7, .sipush 0, 1, 0), (8, .ireturn, 1, 0), (9, .aload 0, 1, 0), (10, .getfield 398, 3, 79), (13, .aload 0, 1, 0), (14, .iload 1, 1, 0), (15, .iload 2, 1, 0), (16, .invokevirtual 1, 3, 100), (19, .aload 0, 1, 0), (20, .getfield 398, 3, 79), (23, .sipush 1, 1, 0), (24, .invokevirtual 2, 3, 106), (27, .ireturn, 1, 0)]
/-- SinglesPast$State.canGo(II)Z -/
def tO_46 : List (Nat × av_O) := [(0, .aload 0, 1, 0), (1, .getfield 393, 3, 37), (4, .iload 1, 1, 0), (5, .iaload, 1, 0), (6, .sipush (-1), 1, 0), (7, .if_icmp .ne 19, 3, 0), (10, .aload 0, 1, 0), (11, .iload 1, 1, 0), (12, .iload 2, 1, 0), (13, .invokevirtual 42, 3, 110), (16, .ifCond .ne 21, 3, 0), (19, .sipush 0, 1, 0), (20, .ireturn, 1, 0), (21, .aload 0, 1, 0), (22, .iload 2, 1, 0), (23, .invokevirtual 39, 3, 114), (26, .istore 3, 1, 0), (27, .iload 3, 1, 0), (28, .invokestatic 357, 3, 117), (31, .aload 0, 1, 0), (32, .getfield 396, 3, 43), (35, .iload 2, 1, 0), (36, .iaload, 1, 0), (37, .if_icmp .ge 51, 3, 0), (40, .iload 3, 1, 0), (41, .aload 0, 1, 0), (42, .getfield 392, 3, 34), (45, .iload 1, 1, 0), (46, .iaload, 1, 0), (47, .iand, 1, 0), (48, .ifCond .eq 53, 3, 0), (51, .sipush 0, 1, 0), (52, .ireturn, 1, 0), (53, .aload 0, 1, 0), (54, .getfield 398, 3, 79), (57, .ifnonnull 77, 3, 0), (60, .sipush 10, 2, 0), (62, .aload 0, 1, 0), (63, .getfield 390, 3, 28), (66, .iload 1, 1, 0), (67, .iaload, 1, 0), (68, .if_icmp .gt 75, 3, 0), (71, .sipush 1, 1, 0), (72, .goto 76, 3, 0), (75, .sipush 0, 1, 0), (76, .ireturn, 1, 0), (77, .aload 0, 1, 0), (78, .getfield 398, 3, 79), (81, .aload 0, 1, 0), (82, .iload 1, 1, 0), (83, .iload 2, 1, 0), (84, .invokevirtual 1, 3, 100), (87, .aload 0, 1, 0), (88, .getfield 398, 3, 79), (91, .sipush 2, 1, 0), (92, .invokevirtual 2, 3, 106), (95, .ifCond .ne 122, 3, 0), (98, .sipush 10, 2, 0), (100, .aload 0, 1, 0), (101, .getfield 398, 3, 79), (104, .sipush 0, 1, 0), (105, .invokevirtual 2, 3, 106), (108, .iadd, 1, 0), (109, .aload 0, 1, 0), (110, .getfield 390, 3, 28), (113, .iload 1, 1, 0), (114, .iaload, 1, 0), (115, .if_icmp .gt 122, 3, 0), (118, .sipush 1, 1, 0), (119, .goto 123, 3, 0), (122, .sipush 0, 1, 0), (123, .ireturn, 1, 0)]
/-- SinglesPast$State.trainOf(I)I -/
def tO_47 : List (Nat × av_O) := [(0, .sipush 0, 1, 0), (1, .istore 2, 1, 0), (2, .iload 2, 1, 0), (3, .aload 0, 1, 0), (4, .getfield 394, 3, 73), (7, .if_icmp .ge 27, 3, 0), (10, .aload 0, 1, 0), (11, .iload 1, 1, 0), (12, .iload 2, 1, 0), (13, .invokevirtual 46, 3, 122), (16, .ifCond .eq 21, 3, 0), (19, .iload 2, 1, 0), (20, .ireturn, 1, 0), (21, .iinc 2 1, 3, 0), (24, .goto 2, 3, 0), (27, .sipush (-1), 1, 0), (28, .ireturn, 1, 0)]
/-- SinglesPast$State.board(II)I -/
def tO_48 : List (Nat × av_O) := [(0, .aload 0, 1, 0), (1, .iload 1, 1, 0), (2, .iload 2, 1, 0), (3, .invokevirtual 44, 3, 125), (6, .istore 3, 1, 0), (7, .aload 0, 1, 0), (8, .getfield 393, 3, 37), (11, .iload 1, 1, 0), (12, .iload 2, 1, 0), (13, .iastore, 1, 0), (14, .aload 0, 1, 0), (15, .getfield 390, 3, 28), (18, .iload 1, 1, 0), (19, .dup2, 1, 0), (20, .iaload, 1, 0), (21, .iload 3, 1, 0), (22, .isub, 1, 0), (23, .iastore, 1, 0), (24, .aload 0, 1, 0), (25, .getfield 401, 3, 53), (28, .aload 0, 1, 0), (29, .getfield 399, 3, 83), (32, .iload 1, 1, 0), (33, .iload 2, 1, 0), (34, .iload 3, 1, 0), (35, .invokevirtual 14, 3, 129), (38, .iload 3, 1, 0), (39, .ireturn, 1, 0)]
/-- SinglesPast$State.callBack(I)I -/
def tO_49 : List (Nat × av_O) := [(0, .aload 0, 1, 0), (1, .getfield 393, 3, 37), (4, .iload 1, 1, 0), (5, .iaload, 1, 0), (6, .istore 2, 1, 0), (7, .aload 0, 1, 0), (8, .getfield 393, 3, 37), (11, .iload 1, 1, 0), (12, .sipush (-1), 1, 0), (13, .iastore, 1, 0), (14, .aload 0, 1, 0), (15, .getfield 401, 3, 53), (18, .aload 0, 1, 0), (19, .getfield 399, 3, 83), (22, .iload 1, 1, 0), (23, .iload 2, 1, 0), (24, .sipush (-1), 1, 0), (25, .invokevirtual 14, 3, 129), (28, .iload 2, 1, 0), (29, .ireturn, 1, 0)]
/-- SinglesPast$State.passDays(IZ)I -/
def tO_50 : List (Nat × av_O) := [(0, .sipush 0, 1, 0), (1, .istore 3, 1, 0), (2, .sipush 0, 1, 0), (3, .istore 4, 2, 0), (5, .iload 4, 2, 0), (7, .iload 1, 1, 0), (8, .if_icmp .ge 101, 3, 0), (11, .sipush 0, 1, 0), (12, .istore 5, 2, 0), (14, .iload 5, 2, 0), (16, .aload 0, 1, 0), (17, .getfield 385, 3, 61), (20, .if_icmp .ge 79, 3, 0), (23, .aload 0, 1, 0), (24, .getfield 393, 3, 37), (27, .iload 5, 2, 0), (29, .iaload, 1, 0), (30, .sipush (-1), 1, 0), (31, .if_icmp .ne 73, 3, 0), (34, .iload 2, 1, 0), (35, .ifCond .eq 47, 3, 0), (38, .aload 0, 1, 0), (39, .iload 5, 2, 0), (41, .invokevirtual 51, 3, 133), (44, .goto 53, 3, 0), (47, .aload 0, 1, 0), (48, .iload 5, 2, 0), (50, .invokevirtual 47, 3, 136), (53, .istore 6, 2, 0), (55, .iload 6, 2, 0), (57, .sipush (-1), 1, 0), (58, .if_icmp .eq 73, 3, 0), (61, .aload 0, 1, 0), (62, .iload 5, 2, 0), (64, .iload 6, 2, 0), (66, .invokevirtual 48, 3, 139), (69, .pop, 1, 0), (70, .iinc 3 1, 3, 0), (73, .iinc 5 1, 3, 0), (76, .goto 14, 3, 0), (79, .aload 0, 1, 0), (80, .sipush 9999, 3, 0), (83, .aload 0, 1, 0), (84, .getfield 399, 3, 83), (87, .sipush 1, 1, 0), (88, .iadd, 1, 0), (89, .invokedynamic 5, 3, 142), (92, .putfield 399, 3, 83), (95, .iinc 4 1, 3, 0), (98, .goto 5, 3, 0), (101, .iload 3, 1, 0), (102, .ireturn, 1, 0)]
/-- SinglesPast$State.drawnTrainOf(I)I -/
def tO_51 : List (Nat × av_O) := [(0, .aload 0, 1, 0), (1, .invokevirtual 52, 3, 147), (4, .sipush 100, 2, 0), (6, .irem, 1, 0), (7, .istore 2, 1, 0), (8, .iload 2, 1, 0), (9, .aload 0, 1, 0), (10, .getfield 391, 3, 31), (13, .iload 1, 1, 0), (14, .iaload, 1, 0), (15, .if_icmp .lt 20, 3, 0), (18, .sipush (-1), 1, 0), (19, .ireturn, 1, 0), (20, .aload 0, 1, 0), (21, .iload 1, 1, 0), (22, .invokevirtual 47, 3, 136), (25, .istore 3, 1, 0), (26, .iload 3, 1, 0), (27, .sipush (-1), 1, 0), (28, .if_icmp .eq 52, 3, 0), (31, .iload 2, 1, 0), (32, .aload 0, 1, 0), (33, .getfield 391, 3, 31), (36, .iload 1, 1, 0), (37, .iaload, 1, 0), (38, .aload 0, 1, 0), (39, .iload 1, 1, 0), (40, .iload 3, 1, 0), (41, .invokevirtual 45, 3, 150), (44, .isub, 1, 0), (45, .if_icmp .ge 52, 3, 0), (48, .iload 3, 1, 0), (49, .goto 53, 3, 0), (52, .sipush (-1), 1, 0), (53, .ireturn, 1, 0)]
/-- SinglesPast$State.draw()I -/
def tO_52 : List (Nat × av_O) := [(0, .aload 0, 1, 0), (1, .sipush 1103515245, 2, 153), (3, .aload 0, 1, 0), (4, .getfield 400, 3, 46), (7, .imul, 1, 0), (8, .sipush 12345, 3, 0), (11, .iadd, 1, 0), (12, .putfield 400, 3, 46), (15, .aload 0, 1, 0), (16, .getfield 400, 3, 46), (19, .sipush 16, 2, 0), (21, .iushr, 1, 0), (22, .sipush 32767, 3, 0), (25, .iand, 1, 0), (26, .ireturn, 1, 0)]
/-- SinglesPast$StationText.read(LSinglesPast$Tape;LSinglesPast$State;)Z -/
def tO_53 : List (Nat × av_O) := [(0, .aload 0, 1, 0), (1, .invokevirtual 66, 3, 9), (4, .ifCond .eq 9, 3, 0), (7, .sipush 1, 1, 0), (8, .ireturn, 1, 0), (9, .sipush 0, 1, 0), (10, .istore 2, 1, 0), (11, .iload 2, 1, 0), (12, .sipush 14, 2, 0), (14, .if_icmp .ge 47, 3, 0), (17, .aload 0, 1, 0), (18, .aload 1, 1, 0), (19, .invokestatic 54, 3, 17), (22, .ifCond .ne 27, 3, 0), (25, .sipush 0, 1, 0), (26, .ireturn, 1, 0), (27, .aload 0, 1, 0), (28, .sipush 59, 2, 0), (30, .invokevirtual 69, 3, 21), (33, .ifCond .ne 41, 3, 0), (36, .aload 0, 1, 0), (37, .invokevirtual 66, 3, 9), (40, .ireturn, 1, 0), (41, .iinc 2 1, 3, 0), (44, .goto 11, 3, 0), (47, .sipush 0, 1, 0), (48, .ireturn, 1, 0)]
/-- SinglesPast$StationText.readLine(LSinglesPast$Tape;LSinglesPast$State;)Z -/
def tO_54 : List (Nat × av_O) := [(0, .aload 0, 1, 0), (1, .ldc 0, 2, 25), (3, .invokevirtual 71, 3, 27), (6, .tableswitch 151 0 6 #[48, 76, 86, 96, 118, 124, 145], 42, 0), (48, .aload 1, 1, 0), (49, .getfield 384, 3, 31), (52, .getfield 512, 3, 37), (55, .sipush 8, 2, 0), (57, .if_icmp .ge 71, 3, 0), (60, .aload 0, 1, 0), (61, .aload 1, 1, 0), (62, .getfield 384, 3, 31), (65, .invokestatic 55, 3, 43), (68, .goto 75, 3, 0), (71, .aload 0, 1, 0), (72, .invokevirtual 68, 3, 47), (75, .ireturn, 1, 0), (76, .aload 0, 1, 0), (77, .aload 1, 1, 0), (78, .getfield 384, 3, 31), (81, .sipush 1, 1, 0), (82, .invokestatic 56, 3, 50), (85, .ireturn, 1, 0), (86, .aload 0, 1, 0), (87, .aload 1, 1, 0), (88, .getfield 384, 3, 31), (91, .sipush 0, 1, 0), (92, .invokestatic 56, 3, 50), (95, .ireturn, 1, 0), (96, .aload 1, 1, 0), (97, .getfield 385, 3, 54), (100, .sipush 6, 2, 0), (102, .if_icmp .ge 113, 3, 0), (105, .aload 0, 1, 0), (106, .aload 1, 1, 0), (107, .invokestatic 57, 3, 57), (110, .goto 117, 3, 0), (113, .aload 0, 1, 0), (114, .invokevirtual 68, 3, 47), (117, .ireturn, 1, 0), (118, .aload 0, 1, 0), (119, .aload 1, 1, 0), (120, .invokestatic 60, 3, 60), (123, .ireturn, 1, 0), (124, .aload 1, 1, 0), (125, .getfield 394, 3, 63), (128, .sipush 5, 1, 0), (129, .if_icmp .ge 140, 3, 0), (132, .aload 0, 1, 0), (133, .aload 1, 1, 0), (134, .invokestatic 61, 3, 66), (137, .goto 144, 3, 0), (140, .aload 0, 1, 0), (141, .invokevirtual 68, 3, 47), (144, .ireturn, 1, 0), (145, .aload 0, 1, 0), (146, .aload 1, 1, 0), (147, .invokestatic 62, 3, 69), (150, .ireturn, 1, 0), (151, .sipush 0, 1, 0), (152, .ireturn, 1, 0)]
/-- SinglesPast$StationText.readThing(LSinglesPast$Tape;LSinglesPast$Things;)Z -/
def tO_55 : List (Nat × av_O) := [(0, .aload 0, 1, 0), (1, .ldc 1, 2, 72), (3, .invokevirtual 70, 3, 74), (6, .ifCond .eq 19, 3, 0), (9, .aload 0, 1, 0), (10, .sipush 0, 1, 0), (11, .sipush 15, 2, 0), (13, .invokevirtual 73, 3, 78), (16, .ifCond .ne 21, 3, 0), (19, .sipush 0, 1, 0), (20, .ireturn, 1, 0), (21, .aload 0, 1, 0), (22, .getfield 451, 3, 82), (25, .istore 2, 1, 0), (26, .aload 0, 1, 0), (27, .ldc 2, 2, 85), (29, .invokevirtual 70, 3, 74), (32, .istore 3, 1, 0), (33, .sipush 1, 1, 0), (34, .istore 4, 2, 0), (36, .aload 0, 1, 0), (37, .ldc 3, 2, 87), (39, .invokevirtual 70, 3, 74), (42, .ifCond .eq 63, 3, 0), (45, .aload 0, 1, 0), (46, .sipush 0, 1, 0), (47, .sipush 99, 2, 0), (49, .invokevirtual 73, 3, 78), (52, .ifCond .ne 57, 3, 0), (55, .sipush 0, 1, 0), (56, .ireturn, 1, 0), (57, .aload 0, 1, 0), (58, .getfield 451, 3, 82), (61, .istore 4, 2, 0), (63, .aload 1, 1, 0), (64, .iload 2, 1, 0), (65, .iload 3, 1, 0), (66, .iload 4, 2, 0), (68, .invokevirtual 77, 3, 89), (71, .sipush 1, 1, 0), (72, .ireturn, 1, 0)]
/-- SinglesPast$StationText.readTie(LSinglesPast$Tape;LSinglesPast$Things;Z)Z -/
def tO_56 : List (Nat × av_O) := [(0, .aload 0, 1, 0), (1, .sipush 0, 1, 0), (2, .aload 1, 1, 0), (3, .getfield 512, 3, 37), (6, .sipush 1, 1, 0), (7, .isub, 1, 0), (8, .invokevirtual 73, 3, 78), (11, .ifCond .ne 16, 3, 0), (14, .sipush 0, 1, 0), (15, .ireturn, 1, 0), (16, .aload 0, 1, 0), (17, .getfield 451, 3, 82), (20, .istore 3, 1, 0), (21, .aload 0, 1, 0), (22, .sipush 0, 1, 0), (23, .aload 1, 1, 0), (24, .getfield 512, 3, 37), (27, .sipush 1, 1, 0), (28, .isub, 1, 0), (29, .invokevirtual 73, 3, 78), (32, .ifCond .ne 37, 3, 0), (35, .sipush 0, 1, 0), (36, .ireturn, 1, 0), (37, .aload 0, 1, 0), (38, .getfield 451, 3, 82), (41, .istore 4, 2, 0), (43, .aload 1, 1, 0), (44, .getfield 514, 3, 93), (47, .iload 4, 2, 0), (49, .iaload, 1, 0), (50, .aload 1, 1, 0), (51, .getfield 514, 3, 93), (54, .iload 3, 1, 0), (55, .iaload, 1, 0), (56, .if_icmp .gt 64, 3, 0), (59, .aload 0, 1, 0), (60, .invokevirtual 68, 3, 47), (63, .ireturn, 1, 0), (64, .aload 1, 1, 0), (65, .iload 3, 1, 0), (66, .iload 4, 2, 0), (68, .iload 2, 1, 0), (69, .invokevirtual 78, 3, 96), (72, .sipush 1, 1, 0), (73, .ireturn, 1, 0)]
/-- SinglesPast$StationText.readGoer(LSinglesPast$Tape;LSinglesPast$State;)Z -/
def tO_57 : List (Nat × av_O) := [(0, .aload 0, 1, 0), (1, .ldc 4, 2, 100), (3, .invokevirtual 70, 3, 74), (6, .ifCond .eq 19, 3, 0), (9, .aload 0, 1, 0), (10, .sipush 0, 1, 0), (11, .sipush 15, 2, 0), (13, .invokevirtual 73, 3, 78), (16, .ifCond .ne 21, 3, 0), (19, .sipush 0, 1, 0), (20, .ireturn, 1, 0), (21, .aload 0, 1, 0), (22, .getfield 451, 3, 82), (25, .istore 2, 1, 0), (26, .aload 0, 1, 0), (27, .ldc 5, 2, 102), (29, .invokevirtual 70, 3, 74), (32, .ifCond .eq 46, 3, 0), (35, .aload 0, 1, 0), (36, .sipush 0, 1, 0), (37, .sipush 999, 3, 0), (40, .invokevirtual 73, 3, 78), (43, .ifCond .ne 48, 3, 0), (46, .sipush 0, 1, 0), (47, .ireturn, 1, 0), (48, .aload 1, 1, 0), (49, .iload 2, 1, 0), (50, .aload 0, 1, 0), (51, .getfield 451, 3, 82), (54, .invokevirtual 32, 3, 104), (57, .istore 3, 1, 0), (58, .aload 0, 1, 0), (59, .ldc 6, 2, 108), (61, .invokevirtual 70, 3, 74), (64, .ifCond .eq 89, 3, 0), (67, .aload 0, 1, 0), (68, .sipush 0, 1, 0), (69, .sipush 100, 2, 0), (71, .invokevirtual 73, 3, 78), (74, .ifCond .ne 79, 3, 0), (77, .sipush 0, 1, 0), (78, .ireturn, 1, 0), (79, .aload 1, 1, 0), (80, .getfield 391, 3, 110), (83, .iload 3, 1, 0), (84, .aload 0, 1, 0), (85, .getfield 451, 3, 82), (88, .iastore, 1, 0), (89, .aload 0, 1, 0), (90, .aload 1, 1, 0), (91, .iload 3, 1, 0), (92, .invokestatic 58, 3, 112), (95, .ifCond .eq 111, 3, 0), (98, .aload 0, 1, 0), (99, .aload 1, 1, 0), (100, .iload 3, 1, 0), (101, .invokestatic 59, 3, 116), (104, .ifCond .eq 111, 3, 0), (107, .sipush 1, 1, 0), (108, .goto 112, 3, 0), (111, .sipush 0, 1, 0), (112, .ireturn, 1, 0)]
/-- SinglesPast$StationText.readDeed(LSinglesPast$Tape;LSinglesPast$State;I)Z -/
def tO_58 : List (Nat × av_O) := [(0, .aload 0, 1, 0), (1, .ldc 7, 2, 119), (3, .invokevirtual 70, 3, 74), (6, .istore 3, 1, 0), (7, .iload 3, 1, 0), (8, .ifCond .ne 22, 3, 0), (11, .aload 0, 1, 0), (12, .ldc 8, 2, 121), (14, .invokevirtual 70, 3, 74), (17, .ifCond .ne 22, 3, 0), (20, .sipush 1, 1, 0), (21, .ireturn, 1, 0), (22, .aload 0, 1, 0), (23, .sipush 0, 1, 0), (24, .aload 1, 1, 0), (25, .getfield 384, 3, 31), (28, .getfield 512, 3, 37), (31, .sipush 1, 1, 0), (32, .isub, 1, 0), (33, .invokevirtual 73, 3, 78), (36, .ifCond .ne 41, 3, 0), (39, .sipush 0, 1, 0), (40, .ireturn, 1, 0), (41, .aload 1, 1, 0), (42, .iload 2, 1, 0), (43, .aload 0, 1, 0), (44, .getfield 451, 3, 82), (47, .iload 3, 1, 0), (48, .invokevirtual 34, 3, 123), (51, .sipush 1, 1, 0), (52, .ireturn, 1, 0)]
/-- SinglesPast$StationText.readBirth(LSinglesPast$Tape;LSinglesPast$State;I)Z -/
def tO_59 : List (Nat × av_O) := [(0, .aload 0, 1, 0), (1, .ldc 9, 2, 126), (3, .invokevirtual 70, 3, 74), (6, .ifCond .ne 11, 3, 0), (9, .sipush 1, 1, 0), (10, .ireturn, 1, 0), (11, .aload 0, 1, 0), (12, .sipush 0, 1, 0), (13, .aload 1, 1, 0), (14, .getfield 384, 3, 31), (17, .getfield 512, 3, 37), (20, .sipush 1, 1, 0), (21, .isub, 1, 0), (22, .invokevirtual 73, 3, 78), (25, .ifCond .ne 30, 3, 0), (28, .sipush 0, 1, 0), (29, .ireturn, 1, 0), (30, .aload 1, 1, 0), (31, .getfield 389, 3, 128), (34, .iload 2, 1, 0), (35, .aload 0, 1, 0), (36, .getfield 451, 3, 82), (39, .iastore, 1, 0), (40, .sipush 1, 1, 0), (41, .ireturn, 1, 0)]
/-- SinglesPast$StationText.readShunning(LSinglesPast$Tape;LSinglesPast$State;)Z -/
def tO_60 : List (Nat × av_O) := [(0, .aload 0, 1, 0), (1, .sipush 0, 1, 0), (2, .aload 1, 1, 0), (3, .getfield 385, 3, 54), (6, .sipush 1, 1, 0), (7, .isub, 1, 0), (8, .invokevirtual 73, 3, 78), (11, .ifCond .ne 16, 3, 0), (14, .sipush 0, 1, 0), (15, .ireturn, 1, 0), (16, .aload 0, 1, 0), (17, .getfield 451, 3, 82), (20, .istore 2, 1, 0), (21, .aload 0, 1, 0), (22, .sipush 0, 1, 0), (23, .aload 1, 1, 0), (24, .getfield 385, 3, 54), (27, .sipush 1, 1, 0), (28, .isub, 1, 0), (29, .invokevirtual 73, 3, 78), (32, .ifCond .ne 37, 3, 0), (35, .sipush 0, 1, 0), (36, .ireturn, 1, 0), (37, .aload 0, 1, 0), (38, .getfield 451, 3, 82), (41, .iload 2, 1, 0), (42, .if_icmp .ne 50, 3, 0), (45, .aload 0, 1, 0), (46, .invokevirtual 68, 3, 47), (49, .ireturn, 1, 0), (50, .aload 1, 1, 0), (51, .iload 2, 1, 0), (52, .aload 0, 1, 0), (53, .getfield 451, 3, 82), (56, .sipush 1, 1, 0), (57, .invokevirtual 35, 3, 130), (60, .sipush 1, 1, 0), (61, .ireturn, 1, 0)]
/-- SinglesPast$StationText.readTrain(LSinglesPast$Tape;LSinglesPast$State;)Z -/
def tO_61 : List (Nat × av_O) := [(0, .aload 0, 1, 0), (1, .ldc 10, 2, 133), (3, .invokevirtual 70, 3, 74), (6, .ifCond .eq 28, 3, 0), (9, .aload 0, 1, 0), (10, .sipush 1, 1, 0), (11, .sipush 6, 2, 0), (13, .invokevirtual 73, 3, 78), (16, .ifCond .eq 28, 3, 0), (19, .aload 0, 1, 0), (20, .ldc 11, 2, 135), (22, .invokevirtual 70, 3, 74), (25, .ifCond .ne 30, 3, 0), (28, .sipush 0, 1, 0), (29, .ireturn, 1, 0), (30, .aload 0, 1, 0), (31, .getfield 451, 3, 82), (34, .istore 2, 1, 0), (35, .aload 0, 1, 0), (36, .invokevirtual 74, 3, 137), (39, .istore 3, 1, 0), (40, .iload 3, 1, 0), (41, .ifCond .ne 46, 3, 0), (44, .sipush 0, 1, 0), (45, .ireturn, 1, 0), (46, .aload 1, 1, 0), (47, .iload 2, 1, 0), (48, .iload 3, 1, 0), (49, .invokevirtual 33, 3, 141), (52, .sipush 1, 1, 0), (53, .ireturn, 1, 0)]
/-- SinglesPast$StationText.readDay(LSinglesPast$Tape;LSinglesPast$State;)Z -/
def tO_62 : List (Nat × av_O) := [(0, .aload 0, 1, 0), (1, .sipush 0, 1, 0), (2, .sipush 999, 3, 0), (5, .invokevirtual 73, 3, 78), (8, .ifCond .ne 13, 3, 0), (11, .sipush 0, 1, 0), (12, .ireturn, 1, 0), (13, .aload 1, 1, 0), (14, .aload 0, 1, 0), (15, .getfield 451, 3, 82), (18, .putfield 399, 3, 145), (21, .sipush 1, 1, 0), (22, .ireturn, 1, 0)]
/-- SinglesPast$Tape.<init>()V -/
def tO_63 : List (Nat × av_O) := [(0, .aload 0, 1, 0), (1, .monitorenter, 3, 3), (4, .aload 0, 1, 0), (5, .sipush 400, 3, 0), (8, .newarray .int, 2, 0), (10, .putfield 448, 3, 9), (13, .return_, 1, 0)]
/-- SinglesPast$Tape.append(I)V -/
def tO_64 : List (Nat × av_O) := [(0, .sipush 24, 2, 0), (2, .istore 2, 1, 0), (3, .iload 2, 1, 0), (4, .ifCond .lt 49, 3, 0), (7, .aload 0, 1, 0), (8, .getfield 449, 3, 15), (11, .sipush 400, 3, 0), (14, .if_icmp .ge 49, 3, 0), (17, .aload 0, 1, 0), (18, .getfield 448, 3, 9), (21, .aload 0, 1, 0), (22, .getfield 449, 3, 15), (25, .iload 1, 1, 0), (26, .iload 2, 1, 0), (27, .iushr, 1, 0), (28, .sipush 255, 3, 0), (31, .iand, 1, 0), (32, .iastore, 1, 0), (33, .aload 0, 1, 0), (34, .dup, 1, 0), (35, .getfield 449, 3, 15), (38, .sipush 1, 1, 0), (39, .iadd, 1, 0), (40, .putfield 449, 3, 15), (43, .iinc 2 (-8), 3, 0), (46, .goto 3, 3, 0), (49, .return_, 1, 0)]
/-- SinglesPast$Tape.open()V -/
def tO_65 : List (Nat × av_O) := [(0, .aload 0, 1, 0), (1, .aload 0, 1, 0), (2, .getfield 449, 3, 15), (5, .sipush 400, 3, 0), (8, .invokedynamic 5, 3, 19), (11, .putfield 452, 3, 25), (14, .aload 0, 1, 0), (15, .sipush 0, 1, 0), (16, .putfield 449, 3, 15), (19, .aload 0, 1, 0), (20, .sipush 0, 1, 0), (21, .invokevirtual 67, 3, 28), (24, .return_, 1, 0)]
/-- SinglesPast$Tape.isOver()Z -/
def tO_66 : List (Nat × av_O) := [(0, .aload 0, 1, 0), (1, .getfield 450, 3, 32), (4, .aload 0, 1, 0), (5, .getfield 452, 3, 25), (8, .if_icmp .lt 15, 3, 0), (11, .sipush 1, 1, 0), (12, .goto 16, 3, 0), (15, .sipush 0, 1, 0), (16, .ireturn, 1, 0)]
/-- SinglesPast$Tape.moveTo(I)V -/
def tO_67 : List (Nat × av_O) := [(0, .aload 0, 1, 0), (1, .aload 0, 1, 0), (2, .getfield 450, 3, 32), (5, .putfield 453, 3, 35), (8, .aload 0, 1, 0), (9, .iload 1, 1, 0), (10, .putfield 450, 3, 32), (13, .aload 0, 1, 0), (14, .getfield 450, 3, 32), (17, .aload 0, 1, 0), (18, .getfield 452, 3, 25), (21, .if_icmp .ge 51, 3, 0), (24, .aload 0, 1, 0), (25, .getfield 448, 3, 9), (28, .aload 0, 1, 0), (29, .getfield 450, 3, 32), (32, .iaload, 1, 0), (33, .sipush 32, 2, 0), (35, .if_icmp .ne 51, 3, 0), (38, .aload 0, 1, 0), (39, .dup, 1, 0), (40, .getfield 450, 3, 32), (43, .sipush 1, 1, 0), (44, .iadd, 1, 0), (45, .putfield 450, 3, 32), (48, .goto 13, 3, 0), (51, .return_, 1, 0)]
/-- SinglesPast$Tape.refuse()Z -/
def tO_68 : List (Nat × av_O) := [(0, .aload 0, 1, 0), (1, .aload 0, 1, 0), (2, .getfield 453, 3, 35), (5, .putfield 450, 3, 32), (8, .sipush 0, 1, 0), (9, .ireturn, 1, 0)]
/-- SinglesPast$Tape.takeSign(C)Z -/
def tO_69 : List (Nat × av_O) := [(0, .aload 0, 1, 0), (1, .getfield 450, 3, 32), (4, .aload 0, 1, 0), (5, .getfield 452, 3, 25), (8, .if_icmp .ge 24, 3, 0), (11, .aload 0, 1, 0), (12, .getfield 448, 3, 9), (15, .aload 0, 1, 0), (16, .getfield 450, 3, 32), (19, .iaload, 1, 0), (20, .iload 1, 1, 0), (21, .if_icmp .eq 26, 3, 0), (24, .sipush 0, 1, 0), (25, .ireturn, 1, 0), (26, .aload 0, 1, 0), (27, .aload 0, 1, 0), (28, .getfield 450, 3, 32), (31, .sipush 1, 1, 0), (32, .iadd, 1, 0), (33, .invokevirtual 67, 3, 28), (36, .sipush 1, 1, 0), (37, .ireturn, 1, 0)]
/-- SinglesPast$Tape.takeWord(Ljava/lang/String;)Z -/
def tO_70 : List (Nat × av_O) := [(0, .aload 0, 1, 0), (1, .aload 1, 1, 0), (2, .sipush 0, 1, 0), (3, .aload 1, 1, 0), (4, .invokedynamic 1, 3, 38), (7, .invokevirtual 72, 3, 43), (10, .ifCond .ne 15, 3, 0), (13, .sipush 0, 1, 0), (14, .ireturn, 1, 0), (15, .aload 0, 1, 0), (16, .aload 0, 1, 0), (17, .getfield 450, 3, 32), (20, .aload 1, 1, 0), (21, .invokedynamic 1, 3, 38), (24, .iadd, 1, 0), (25, .invokevirtual 67, 3, 28), (28, .sipush 1, 1, 0), (29, .ireturn, 1, 0)]
/-- SinglesPast$Tape.takeOneOf(Ljava/lang/String;)I -/
def tO_71 : List (Nat × av_O) := [(0, .sipush 0, 1, 0), (1, .istore 2, 1, 0), (2, .sipush 0, 1, 0), (3, .istore 3, 1, 0), (4, .sipush 0, 1, 0), (5, .istore 4, 2, 0), (7, .iload 4, 2, 0), (9, .aload 1, 1, 0), (10, .invokedynamic 1, 3, 38), (13, .if_icmp .gt 76, 3, 0), (16, .iload 4, 2, 0), (18, .aload 1, 1, 0), (19, .invokedynamic 1, 3, 38), (22, .if_icmp .eq 36, 3, 0), (25, .aload 1, 1, 0), (26, .iload 4, 2, 0), (28, .invokedynamic 2, 3, 47), (31, .sipush 32, 2, 0), (33, .if_icmp .ne 70, 3, 0), (36, .aload 0, 1, 0), (37, .aload 1, 1, 0), (38, .iload 3, 1, 0), (39, .iload 4, 2, 0), (41, .invokevirtual 72, 3, 43), (44, .ifCond .eq 62, 3, 0), (47, .aload 0, 1, 0), (48, .aload 0, 1, 0), (49, .getfield 450, 3, 32), (52, .iload 4, 2, 0), (54, .iadd, 1, 0), (55, .iload 3, 1, 0), (56, .isub, 1, 0), (57, .invokevirtual 67, 3, 28), (60, .iload 2, 1, 0), (61, .ireturn, 1, 0), (62, .iinc 2 1, 3, 0), (65, .iload 4, 2, 0), (67, .sipush 1, 1, 0), (68, .iadd, 1, 0), (69, .istore 3, 1, 0), (70, .iinc 4 1, 3, 0), (73, .goto 7, 3, 0), (76, .sipush (-1), 1, 0), (77, .ireturn, 1, 0)]
/-- SinglesPast$Tape.isNext(Ljava/lang/String;II)Z -/
def tO_72 : List (Nat × av_O) := [(0, .aload 0, 1, 0), (1, .getfield 450, 3, 32), (4, .iload 3, 1, 0), (5, .iadd, 1, 0), (6, .iload 2, 1, 0), (7, .isub, 1, 0), (8, .istore 4, 2, 0), (10, .iload 4, 2, 0), (12, .aload 0, 1, 0), (13, .getfield 452, 3, 25), (16, .if_icmp .le 21, 3, 0), (19, .sipush 0, 1, 0), (20, .ireturn, 1, 0), (21, .iload 2, 1, 0), (22, .istore 5, 2, 0), (24, .iload 5, 2, 0), (26, .iload 3, 1, 0), (27, .if_icmp .ge 61, 3, 0), (30, .aload 0, 1, 0), (31, .getfield 448, 3, 9), (34, .aload 0, 1, 0), (35, .getfield 450, 3, 32), (38, .iload 5, 2, 0), (40, .iadd, 1, 0), (41, .iload 2, 1, 0), (42, .isub, 1, 0), (43, .iaload, 1, 0), (44, .aload 1, 1, 0), (45, .iload 5, 2, 0), (47, .invokedynamic 2, 3, 47), (50, .if_icmp .eq 55, 3, 0), (53, .sipush 0, 1, 0), (54, .ireturn, 1, 0), (55, .iinc 5 1, 3, 0), (58, .goto 24, 3, 0), (61, .iload 4, 2, 0), (63, .aload 0, 1, 0), (64, .getfield 452, 3, 25), (67, .if_icmp .ge 98, 3, 0), (70, .aload 0, 1, 0), (71, .getfield 448, 3, 9), (74, .iload 4, 2, 0), (76, .iaload, 1, 0), (77, .sipush 97, 2, 0), (79, .if_icmp .lt 98, 3, 0), (82, .aload 0, 1, 0), (83, .getfield 448, 3, 9), (86, .iload 4, 2, 0), (88, .iaload, 1, 0), (89, .sipush 122, 2, 0), (91, .if_icmp .gt 98, 3, 0), (94, .sipush 1, 1, 0), (95, .goto 99, 3, 0), (98, .sipush 0, 1, 0), (99, .istore 5, 2, 0), (101, .iload 5, 2, 0), (103, .ifCond .ne 110, 3, 0), (106, .sipush 1, 1, 0), (107, .goto 111, 3, 0), (110, .sipush 0, 1, 0), (111, .ireturn, 1, 0)]
/-- SinglesPast$Tape.takeNumber(II)Z -/
def tO_73 : List (Nat × av_O) := [(0, .aload 0, 1, 0), (1, .getfield 450, 3, 32), (4, .istore 3, 1, 0), (5, .sipush 0, 1, 0), (6, .istore 4, 2, 0), (8, .iload 3, 1, 0), (9, .aload 0, 1, 0), (10, .getfield 452, 3, 25), (13, .if_icmp .ge 71, 3, 0), (16, .iload 3, 1, 0), (17, .aload 0, 1, 0), (18, .getfield 450, 3, 32), (21, .isub, 1, 0), (22, .sipush 3, 1, 0), (23, .if_icmp .gt 71, 3, 0), (26, .aload 0, 1, 0), (27, .getfield 448, 3, 9), (30, .iload 3, 1, 0), (31, .iaload, 1, 0), (32, .sipush 48, 2, 0), (34, .if_icmp .lt 71, 3, 0), (37, .aload 0, 1, 0), (38, .getfield 448, 3, 9), (41, .iload 3, 1, 0), (42, .iaload, 1, 0), (43, .sipush 57, 2, 0), (45, .if_icmp .gt 71, 3, 0), (48, .sipush 10, 2, 0), (50, .iload 4, 2, 0), (52, .imul, 1, 0), (53, .aload 0, 1, 0), (54, .getfield 448, 3, 9), (57, .iload 3, 1, 0), (58, .iaload, 1, 0), (59, .iadd, 1, 0), (60, .sipush 48, 2, 0), (62, .isub, 1, 0), (63, .istore 4, 2, 0), (65, .iinc 3 1, 3, 0), (68, .goto 8, 3, 0), (71, .iload 3, 1, 0), (72, .aload 0, 1, 0), (73, .getfield 450, 3, 32), (76, .isub, 1, 0), (77, .istore 5, 2, 0), (79, .iload 5, 2, 0), (81, .ifCond .eq 102, 3, 0), (84, .iload 5, 2, 0), (86, .sipush 3, 1, 0), (87, .if_icmp .gt 102, 3, 0), (90, .iload 4, 2, 0), (92, .iload 1, 1, 0), (93, .if_icmp .lt 102, 3, 0), (96, .iload 4, 2, 0), (98, .iload 2, 1, 0), (99, .if_icmp .le 104, 3, 0), (102, .sipush 0, 1, 0), (103, .ireturn, 1, 0), (104, .aload 0, 1, 0), (105, .iload 4, 2, 0), (107, .putfield 451, 3, 51), (110, .aload 0, 1, 0), (111, .iload 3, 1, 0), (112, .invokevirtual 67, 3, 28), (115, .sipush 1, 1, 0), (116, .ireturn, 1, 0)]
/-- SinglesPast$Tape.takeStopLetters()I -/
def tO_74 : List (Nat × av_O) := [(0, .sipush 0, 1, 0), (1, .istore 1, 1, 0), (2, .aload 0, 1, 0), (3, .getfield 450, 3, 32), (6, .istore 2, 1, 0), (7, .iload 2, 1, 0), (8, .aload 0, 1, 0), (9, .getfield 452, 3, 25), (12, .if_icmp .ge 75, 3, 0), (15, .aload 0, 1, 0), (16, .getfield 448, 3, 9), (19, .iload 2, 1, 0), (20, .iaload, 1, 0), (21, .sipush 97, 2, 0), (23, .if_icmp .lt 75, 3, 0), (26, .aload 0, 1, 0), (27, .getfield 448, 3, 9), (30, .iload 2, 1, 0), (31, .iaload, 1, 0), (32, .sipush 122, 2, 0), (34, .if_icmp .gt 75, 3, 0), (37, .aload 0, 1, 0), (38, .getfield 448, 3, 9), (41, .iload 2, 1, 0), (42, .iaload, 1, 0), (43, .sipush 97, 2, 0), (45, .isub, 1, 0), (46, .istore 3, 1, 0), (47, .iload 3, 1, 0), (48, .sipush 16, 2, 0), (50, .if_icmp .ge 61, 3, 0), (53, .iload 1, 1, 0), (54, .iload 3, 1, 0), (55, .ishr, 1, 0), (56, .sipush 1, 1, 0), (57, .iand, 1, 0), (58, .ifCond .eq 63, 3, 0), (61, .sipush 0, 1, 0), (62, .ireturn, 1, 0), (63, .iload 1, 1, 0), (64, .sipush 1, 1, 0), (65, .iload 3, 1, 0), (66, .ishl, 1, 0), (67, .ior, 1, 0), (68, .istore 1, 1, 0), (69, .iinc 2 1, 3, 0), (72, .goto 7, 3, 0), (75, .aload 0, 1, 0), (76, .iload 2, 1, 0), (77, .invokevirtual 67, 3, 28), (80, .iload 1, 1, 0), (81, .ireturn, 1, 0)]
/-- SinglesPast$Things.<init>()V -/
def tO_75 : List (Nat × av_O) := [(0, .aload 0, 1, 0), (1, .monitorenter, 3, 3), (4, .aload 0, 1, 0), (5, .sipush 8, 2, 0), (7, .newarray .int, 2, 0), (9, .putfield 514, 3, 9), (12, .aload 0, 1, 0), (13, .sipush 8, 2, 0), (15, .newarray .int, 2, 0), (17, .putfield 515, 3, 15), (20, .aload 0, 1, 0), (21, .sipush 8, 2, 0), (23, .newarray .int, 2, 0), (25, .putfield 516, 3, 18), (28, .aload 0, 1, 0), (29, .sipush 8, 2, 0), (31, .newarray .int, 2, 0), (33, .putfield 517, 3, 21), (36, .return_, 1, 0)]
/-- SinglesPast$Things.copyFrom(LSinglesPast$Things;)V -/
def tO_76 : List (Nat × av_O) := [(0, .aload 0, 1, 0), (1, .aload 1, 1, 0), (2, .getfield 512, 3, 24), (5, .putfield 512, 3, 24), (8, .aload 0, 1, 0), (9, .aload 1, 1, 0), (10, .getfield 513, 3, 28), (13, .putfield 513, 3, 28), (16, .aload 1, 1, 0), (17, .getfield 514, 3, 9), (20, .sipush 0, 1, 0), (21, .aload 0, 1, 0), (22, .getfield 514, 3, 9), (25, .sipush 0, 1, 0), (26, .sipush 8, 2, 0), (28, .invokedynamic 0, 3, 31), (31, .aload 1, 1, 0), (32, .getfield 515, 3, 15), (35, .sipush 0, 1, 0), (36, .aload 0, 1, 0), (37, .getfield 515, 3, 15), (40, .sipush 0, 1, 0), (41, .sipush 8, 2, 0), (43, .invokedynamic 0, 3, 31), (46, .aload 1, 1, 0), (47, .getfield 516, 3, 18), (50, .sipush 0, 1, 0), (51, .aload 0, 1, 0), (52, .getfield 516, 3, 18), (55, .sipush 0, 1, 0), (56, .sipush 8, 2, 0), (58, .invokedynamic 0, 3, 31), (61, .aload 1, 1, 0), (62, .getfield 517, 3, 21), (65, .sipush 0, 1, 0), (66, .aload 0, 1, 0), (67, .getfield 517, 3, 21), (70, .sipush 0, 1, 0), (71, .sipush 8, 2, 0), (73, .invokedynamic 0, 3, 31), (76, .return_, 1, 0)]
/-- SinglesPast$Things.add(IZI)V -/
def tO_77 : List (Nat × av_O) := [(0, .aload 0, 1, 0), (1, .getfield 512, 3, 24), (4, .sipush 8, 2, 0), (6, .if_icmp .lt 10, 3, 0), (9, .return_, 1, 0), (10, .aload 0, 1, 0), (11, .getfield 514, 3, 9), (14, .aload 0, 1, 0), (15, .getfield 512, 3, 24), (18, .iload 1, 1, 0), (19, .iastore, 1, 0), (20, .aload 0, 1, 0), (21, .getfield 515, 3, 15), (24, .aload 0, 1, 0), (25, .getfield 512, 3, 24), (28, .iload 3, 1, 0), (29, .iastore, 1, 0), (30, .aload 0, 1, 0), (31, .getfield 516, 3, 18), (34, .aload 0, 1, 0), (35, .getfield 512, 3, 24), (38, .sipush 0, 1, 0), (39, .iastore, 1, 0), (40, .aload 0, 1, 0), (41, .getfield 517, 3, 21), (44, .aload 0, 1, 0), (45, .getfield 512, 3, 24), (48, .sipush 0, 1, 0), (49, .iastore, 1, 0), (50, .sipush 1, 1, 0), (51, .aload 0, 1, 0), (52, .getfield 512, 3, 24), (55, .ishl, 1, 0), (56, .istore 4, 2, 0), (58, .aload 0, 1, 0), (59, .iload 2, 1, 0), (60, .ifCond .eq 73, 3, 0), (63, .aload 0, 1, 0), (64, .getfield 513, 3, 28), (67, .iload 4, 2, 0), (69, .ior, 1, 0), (70, .goto 82, 3, 0), (73, .aload 0, 1, 0), (74, .getfield 513, 3, 28), (77, .iload 4, 2, 0), (79, .sipush (-1), 1, 0), (80, .ixor, 1, 0), (81, .iand, 1, 0), (82, .putfield 513, 3, 28), (85, .aload 0, 1, 0), (86, .dup, 1, 0), (87, .getfield 512, 3, 24), (90, .sipush 1, 1, 0), (91, .iadd, 1, 0), (92, .putfield 512, 3, 24), (95, .return_, 1, 0)]
/-- SinglesPast$Things.tie(IIZ)V -/
def tO_78 : List (Nat × av_O) := [(0, .sipush 1, 1, 0), (1, .iload 2, 1, 0), (2, .ishl, 1, 0), (3, .istore 4, 2, 0), (5, .aload 0, 1, 0), (6, .getfield 516, 3, 18), (9, .iload 1, 1, 0), (10, .iload 3, 1, 0), (11, .ifCond .eq 26, 3, 0), (14, .aload 0, 1, 0), (15, .getfield 516, 3, 18), (18, .iload 1, 1, 0), (19, .iaload, 1, 0), (20, .iload 4, 2, 0), (22, .ior, 1, 0), (23, .goto 37, 3, 0), (26, .aload 0, 1, 0), (27, .getfield 516, 3, 18), (30, .iload 1, 1, 0), (31, .iaload, 1, 0), (32, .iload 4, 2, 0), (34, .sipush (-1), 1, 0), (35, .ixor, 1, 0), (36, .iand, 1, 0), (37, .iastore, 1, 0), (38, .aload 0, 1, 0), (39, .getfield 517, 3, 21), (42, .iload 1, 1, 0), (43, .iload 3, 1, 0), (44, .ifCond .eq 61, 3, 0), (47, .aload 0, 1, 0), (48, .getfield 517, 3, 21), (51, .iload 1, 1, 0), (52, .iaload, 1, 0), (53, .iload 4, 2, 0), (55, .sipush (-1), 1, 0), (56, .ixor, 1, 0), (57, .iand, 1, 0), (58, .goto 70, 3, 0), (61, .aload 0, 1, 0), (62, .getfield 517, 3, 21), (65, .iload 1, 1, 0), (66, .iaload, 1, 0), (67, .iload 4, 2, 0), (69, .ior, 1, 0), (70, .iastore, 1, 0), (71, .return_, 1, 0)]
/-- SinglesPast$Things.worthOf(I)I -/
def tO_79 : List (Nat × av_O) := [(0, .sipush 0, 1, 0), (1, .istore 2, 1, 0), (2, .sipush 0, 1, 0), (3, .istore 3, 1, 0), (4, .iload 3, 1, 0), (5, .aload 0, 1, 0), (6, .getfield 512, 3, 24), (9, .if_icmp .ge 35, 3, 0), (12, .iload 1, 1, 0), (13, .iload 3, 1, 0), (14, .ishr, 1, 0), (15, .sipush 1, 1, 0), (16, .iand, 1, 0), (17, .ifCond .eq 29, 3, 0), (20, .iload 2, 1, 0), (21, .aload 0, 1, 0), (22, .getfield 515, 3, 15), (25, .iload 3, 1, 0), (26, .iaload, 1, 0), (27, .iadd, 1, 0), (28, .istore 2, 1, 0), (29, .iinc 3 1, 3, 0), (32, .goto 4, 3, 0), (35, .iload 2, 1, 0), (36, .ireturn, 1, 0)]
/-- SinglesPast$Things.looseSet()I -/
def tO_80 : List (Nat × av_O) := [(0, .sipush 0, 1, 0), (1, .istore 1, 1, 0), (2, .sipush 0, 1, 0), (3, .istore 2, 1, 0), (4, .iload 2, 1, 0), (5, .aload 0, 1, 0), (6, .getfield 512, 3, 24), (9, .if_icmp .ge 44, 3, 0), (12, .aload 0, 1, 0), (13, .getfield 516, 3, 18), (16, .iload 2, 1, 0), (17, .iaload, 1, 0), (18, .aload 0, 1, 0), (19, .getfield 517, 3, 21), (22, .iload 2, 1, 0), (23, .iaload, 1, 0), (24, .ior, 1, 0), (25, .istore 3, 1, 0), (26, .iload 3, 1, 0), (27, .ifCond .eq 38, 3, 0), (30, .iload 1, 1, 0), (31, .iload 3, 1, 0), (32, .sipush 1, 1, 0), (33, .iload 2, 1, 0), (34, .ishl, 1, 0), (35, .ior, 1, 0), (36, .ior, 1, 0), (37, .istore 1, 1, 0), (38, .iinc 2 1, 3, 0), (41, .goto 4, 3, 0), (44, .sipush 1, 1, 0), (45, .aload 0, 1, 0), (46, .getfield 512, 3, 24), (49, .ishl, 1, 0), (50, .sipush 1, 1, 0), (51, .isub, 1, 0), (52, .iload 1, 1, 0), (53, .sipush (-1), 1, 0), (54, .ixor, 1, 0), (55, .iand, 1, 0), (56, .ireturn, 1, 0)]
/-- SinglesPast$Things.lineOf(I)I -/
def tO_81 : List (Nat × av_O) := [(0, .sipush 8, 2, 0), (2, .newarray .int, 2, 0), (4, .astore 2, 1, 0), (5, .sipush 0, 1, 0), (6, .istore 3, 1, 0), (7, .iload 3, 1, 0), (8, .aload 0, 1, 0), (9, .getfield 514, 3, 9), (12, .iload 1, 1, 0), (13, .iaload, 1, 0), (14, .if_icmp .gt 65, 3, 0), (17, .sipush 0, 1, 0), (18, .istore 4, 2, 0), (20, .iload 4, 2, 0), (22, .aload 0, 1, 0), (23, .getfield 512, 3, 24), (26, .if_icmp .ge 59, 3, 0), (29, .aload 0, 1, 0), (30, .getfield 514, 3, 9), (33, .iload 4, 2, 0), (35, .iaload, 1, 0), (36, .iload 3, 1, 0), (37, .if_icmp .ne 53, 3, 0), (40, .aload 2, 1, 0), (41, .iload 4, 2, 0), (43, .sipush 1, 1, 0), (44, .aload 0, 1, 0), (45, .iload 4, 2, 0), (47, .aload 2, 1, 0), (48, .invokevirtual 82, 3, 37), (51, .iadd, 1, 0), (52, .iastore, 1, 0), (53, .iinc 4 1, 3, 0), (56, .goto 20, 3, 0), (59, .iinc 3 1, 3, 0), (62, .goto 7, 3, 0), (65, .aload 2, 1, 0), (66, .iload 1, 1, 0), (67, .iaload, 1, 0), (68, .ireturn, 1, 0)]
/-- SinglesPast$Things.longestAhead(I[I)I -/
def tO_82 : List (Nat × av_O) := [(0, .sipush 0, 1, 0), (1, .istore 3, 1, 0), (2, .sipush 0, 1, 0), (3, .istore 4, 2, 0), (5, .iload 4, 2, 0), (7, .aload 0, 1, 0), (8, .getfield 512, 3, 24), (11, .if_icmp .ge 51, 3, 0), (14, .aload 0, 1, 0), (15, .getfield 516, 3, 18), (18, .iload 4, 2, 0), (20, .iaload, 1, 0), (21, .aload 0, 1, 0), (22, .getfield 517, 3, 21), (25, .iload 4, 2, 0), (27, .iaload, 1, 0), (28, .ior, 1, 0), (29, .iload 1, 1, 0), (30, .ishr, 1, 0), (31, .sipush 1, 1, 0), (32, .iand, 1, 0), (33, .ifCond .eq 45, 3, 0), (36, .iload 3, 1, 0), (37, .aload 2, 1, 0), (38, .iload 4, 2, 0), (40, .iaload, 1, 0), (41, .invokedynamic 4, 3, 41), (44, .istore 3, 1, 0), (45, .iinc 4 1, 3, 0), (48, .goto 5, 3, 0), (51, .iload 3, 1, 0), (52, .ireturn, 1, 0)]
/-- SinglesPast$Worlds.<init>()V -/
def tO_83 : List (Nat × av_O) := [(0, .aload 0, 1, 0), (1, .monitorenter, 3, 3), (4, .aload 0, 1, 0), (5, .sipush 64, 2, 0), (7, .newarray .int, 2, 0), (9, .putfield 576, 3, 9), (12, .aload 0, 1, 0), (13, .sipush 64, 2, 0), (15, .newarray .int, 2, 0), (17, .putfield 577, 3, 15), (20, .aload 0, 1, 0), (21, .sipush 8, 2, 0), (23, .newarray .int, 2, 0), (25, .putfield 580, 3, 18), (28, .aload 0, 1, 0), (29, .sipush 8, 2, 0), (31, .newarray .int, 2, 0), (33, .putfield 581, 3, 21), (36, .aload 0, 1, 0), (37, .sipush 8, 2, 0), (39, .newarray .int, 2, 0), (41, .putfield 582, 3, 24), (44, .aload 0, 1, 0), (45, .sipush 8, 2, 0), (47, .newarray .int, 2, 0), (49, .putfield 583, 3, 27), (52, .return_, 1, 0)]
/-- SinglesPast$Worlds.fill(LSinglesPast$State;II)V -/
def tO_84 : List (Nat × av_O) := [(0, .aload 0, 1, 0), (1, .aload 1, 1, 0), (2, .getfield 384, 3, 30), (5, .getfield 512, 3, 36), (8, .putfield 578, 3, 42), (11, .aload 0, 1, 0), (12, .aload 1, 1, 0), (13, .getfield 388, 3, 43), (16, .putfield 579, 3, 46), (19, .aload 0, 1, 0), (20, .aload 1, 1, 0), (21, .getfield 384, 3, 30), (24, .invokevirtual 85, 3, 47), (27, .aload 0, 1, 0), (28, .aload 1, 1, 0), (29, .getfield 384, 3, 30), (32, .invokevirtual 86, 3, 51), (35, .aload 0, 1, 0), (36, .aload 1, 1, 0), (37, .invokevirtual 87, 3, 54), (40, .sipush 0, 1, 0), (41, .istore 4, 2, 0), (43, .iload 4, 2, 0), (45, .sipush 64, 2, 0), (47, .if_icmp .ge 97, 3, 0), (50, .iload 4, 2, 0), (52, .iload 3, 1, 0), (53, .sipush (-1), 1, 0), (54, .ixor, 1, 0), (55, .iand, 1, 0), (56, .ifCond .ne 91, 3, 0), (59, .aload 0, 1, 0), (60, .getfield 576, 3, 9), (63, .iload 4, 2, 0), (65, .aload 0, 1, 0), (66, .iload 4, 2, 0), (68, .iload 2, 1, 0), (69, .invokevirtual 88, 3, 58), (72, .iastore, 1, 0), (73, .aload 0, 1, 0), (74, .getfield 577, 3, 15), (77, .iload 4, 2, 0), (79, .aload 1, 1, 0), (80, .aload 0, 1, 0), (81, .getfield 576, 3, 9), (84, .iload 4, 2, 0), (86, .iaload, 1, 0), (87, .invokevirtual 43, 3, 62), (90, .iastore, 1, 0), (91, .iinc 4 1, 3, 0), (94, .goto 43, 3, 0), (97, .return_, 1, 0)]
/-- SinglesPast$Worlds.orderByStops(LSinglesPast$Things;)V -/
def tO_85 : List (Nat × av_O) := [(0, .sipush 0, 1, 0), (1, .istore 2, 1, 0), (2, .sipush 0, 1, 0), (3, .istore 3, 1, 0), (4, .iload 3, 1, 0), (5, .sipush 16, 2, 0), (7, .if_icmp .ge 62, 3, 0), (10, .sipush 0, 1, 0), (11, .istore 4, 2, 0), (13, .iload 4, 2, 0), (15, .aload 0, 1, 0), (16, .getfield 578, 3, 42), (19, .if_icmp .ge 56, 3, 0), (22, .aload 1, 1, 0), (23, .getfield 514, 3, 66), (26, .iload 4, 2, 0), (28, .iaload, 1, 0), (29, .iload 3, 1, 0), (30, .if_icmp .ne 50, 3, 0), (33, .iload 2, 1, 0), (34, .sipush 8, 2, 0), (36, .if_icmp .ge 50, 3, 0), (39, .aload 0, 1, 0), (40, .getfield 580, 3, 18), (43, .iload 2, 1, 0), (44, .iload 4, 2, 0), (46, .iastore, 1, 0), (47, .iinc 2 1, 3, 0), (50, .iinc 4 1, 3, 0), (53, .goto 13, 3, 0), (56, .iinc 3 1, 3, 0), (59, .goto 4, 3, 0), (62, .return_, 1, 0)]
/-- SinglesPast$Worlds.turnTies(LSinglesPast$Things;)V -/
def tO_86 : List (Nat × av_O) := [(0, .sipush 0, 1, 0), (1, .istore 2, 1, 0), (2, .iload 2, 1, 0), (3, .aload 0, 1, 0), (4, .getfield 578, 3, 42), (7, .if_icmp .ge 88, 3, 0), (10, .aload 0, 1, 0), (11, .getfield 581, 3, 21), (14, .iload 2, 1, 0), (15, .sipush 0, 1, 0), (16, .iastore, 1, 0), (17, .aload 0, 1, 0), (18, .getfield 582, 3, 24), (21, .iload 2, 1, 0), (22, .sipush 0, 1, 0), (23, .iastore, 1, 0), (24, .sipush 0, 1, 0), (25, .istore 3, 1, 0), (26, .iload 3, 1, 0), (27, .aload 0, 1, 0), (28, .getfield 578, 3, 42), (31, .if_icmp .ge 82, 3, 0), (34, .aload 0, 1, 0), (35, .getfield 581, 3, 21), (38, .iload 2, 1, 0), (39, .dup2, 1, 0), (40, .iaload, 1, 0), (41, .aload 1, 1, 0), (42, .getfield 516, 3, 69), (45, .iload 3, 1, 0), (46, .iaload, 1, 0), (47, .iload 2, 1, 0), (48, .ishr, 1, 0), (49, .sipush 1, 1, 0), (50, .iand, 1, 0), (51, .iload 3, 1, 0), (52, .ishl, 1, 0), (53, .ior, 1, 0), (54, .iastore, 1, 0), (55, .aload 0, 1, 0), (56, .getfield 582, 3, 24), (59, .iload 2, 1, 0), (60, .dup2, 1, 0), (61, .iaload, 1, 0), (62, .aload 1, 1, 0), (63, .getfield 517, 3, 72), (66, .iload 3, 1, 0), (67, .iaload, 1, 0), (68, .iload 2, 1, 0), (69, .ishr, 1, 0), (70, .sipush 1, 1, 0), (71, .iand, 1, 0), (72, .iload 3, 1, 0), (73, .ishl, 1, 0), (74, .ior, 1, 0), (75, .iastore, 1, 0), (76, .iinc 3 1, 3, 0), (79, .goto 26, 3, 0), (82, .iinc 2 1, 3, 0), (85, .goto 2, 3, 0), (88, .return_, 1, 0)]
/-- SinglesPast$Worlds.findDoers(LSinglesPast$State;)V -/
def tO_87 : List (Nat × av_O) := [(0, .aload 0, 1, 0), (1, .getfield 583, 3, 27), (4, .sipush 0, 1, 0), (5, .invokestatic 358, 3, 75), (8, .sipush 0, 1, 0), (9, .istore 2, 1, 0), (10, .iload 2, 1, 0), (11, .aload 1, 1, 0), (12, .getfield 385, 3, 81), (15, .if_icmp .ge 66, 3, 0), (18, .aload 1, 1, 0), (19, .getfield 387, 3, 84), (22, .iload 2, 1, 0), (23, .iaload, 1, 0), (24, .istore 3, 1, 0), (25, .iload 3, 1, 0), (26, .sipush (-1), 1, 0), (27, .if_icmp .eq 60, 3, 0), (30, .aload 1, 1, 0), (31, .getfield 386, 3, 87), (34, .iload 2, 1, 0), (35, .iaload, 1, 0), (36, .aload 1, 1, 0), (37, .getfield 384, 3, 30), (40, .getfield 514, 3, 66), (43, .iload 3, 1, 0), (44, .iaload, 1, 0), (45, .if_icmp .gt 60, 3, 0), (48, .aload 0, 1, 0), (49, .getfield 583, 3, 27), (52, .iload 3, 1, 0), (53, .dup2, 1, 0), (54, .iaload, 1, 0), (55, .sipush 1, 1, 0), (56, .iload 2, 1, 0), (57, .ishl, 1, 0), (58, .ior, 1, 0), (59, .iastore, 1, 0), (60, .iinc 2 1, 3, 0), (63, .goto 10, 3, 0), (66, .return_, 1, 0)]
/-- SinglesPast$Worlds.build(II)I -/
def tO_88 : List (Nat × av_O) := [(0, .sipush 0, 1, 0), (1, .istore 3, 1, 0), (2, .sipush 0, 1, 0), (3, .istore 4, 2, 0), (5, .iload 4, 2, 0), (7, .aload 0, 1, 0), (8, .getfield 578, 3, 42), (11, .if_icmp .ge 120, 3, 0), (14, .aload 0, 1, 0), (15, .getfield 580, 3, 18), (18, .iload 4, 2, 0), (20, .iaload, 1, 0), (21, .istore 5, 2, 0), (23, .iload 1, 1, 0), (24, .aload 0, 1, 0), (25, .getfield 583, 3, 27), (28, .iload 5, 2, 0), (30, .iaload, 1, 0), (31, .iand, 1, 0), (32, .istore 6, 2, 0), (34, .iload 6, 2, 0), (36, .ifCond .eq 50, 3, 0), (39, .aload 0, 1, 0), (40, .iload 6, 2, 0), (42, .invokevirtual 89, 3, 90), (45, .istore 7, 2, 0), (47, .goto 102, 3, 0), (50, .iload 2, 1, 0), (51, .iload 5, 2, 0), (53, .ishr, 1, 0), (54, .sipush 1, 1, 0), (55, .iand, 1, 0), (56, .ifCond .ne 71, 3, 0), (59, .iload 3, 1, 0), (60, .aload 0, 1, 0), (61, .getfield 581, 3, 21), (64, .iload 5, 2, 0), (66, .iaload, 1, 0), (67, .iand, 1, 0), (68, .ifCond .eq 75, 3, 0), (71, .sipush 1, 1, 0), (72, .goto 76, 3, 0), (75, .sipush 0, 1, 0), (76, .istore 8, 2, 0), (78, .iload 8, 2, 0), (80, .ifCond .eq 99, 3, 0), (83, .iload 3, 1, 0), (84, .aload 0, 1, 0), (85, .getfield 582, 3, 24), (88, .iload 5, 2, 0), (90, .iaload, 1, 0), (91, .iand, 1, 0), (92, .ifCond .ne 99, 3, 0), (95, .sipush 1, 1, 0), (96, .goto 100, 3, 0), (99, .sipush 0, 1, 0), (100, .istore 7, 2, 0), (102, .iload 7, 2, 0), (104, .ifCond .eq 114, 3, 0), (107, .iload 3, 1, 0), (108, .sipush 1, 1, 0), (109, .iload 5, 2, 0), (111, .ishl, 1, 0), (112, .ior, 1, 0), (113, .istore 3, 1, 0), (114, .iinc 4 1, 3, 0), (117, .goto 5, 3, 0), (120, .iload 3, 1, 0), (121, .ireturn, 1, 0)]
/-- SinglesPast$Worlds.lastMakes(I)Z -/
def tO_89 : List (Nat × av_O) := [(0, .sipush 5, 1, 0), (1, .istore 2, 1, 0), (2, .iload 2, 1, 0), (3, .ifCond .lt 37, 3, 0), (6, .iload 1, 1, 0), (7, .iload 2, 1, 0), (8, .ishr, 1, 0), (9, .sipush 1, 1, 0), (10, .iand, 1, 0), (11, .ifCond .eq 31, 3, 0), (14, .aload 0, 1, 0), (15, .getfield 579, 3, 46), (18, .iload 2, 1, 0), (19, .ishr, 1, 0), (20, .sipush 1, 1, 0), (21, .iand, 1, 0), (22, .ifCond .eq 29, 3, 0), (25, .sipush 1, 1, 0), (26, .goto 30, 3, 0), (29, .sipush 0, 1, 0), (30, .ireturn, 1, 0), (31, .iinc 2 (-1), 3, 0), (34, .goto 2, 3, 0), (37, .sipush 0, 1, 0), (38, .ireturn, 1, 0)]
/-- SinglesPast$Worlds.isAgreeing(II)Z -/
def tO_90 : List (Nat × av_O) := [(0, .iload 2, 1, 0), (1, .aload 0, 1, 0), (2, .getfield 577, 3, 15), (5, .iload 1, 1, 0), (6, .iaload, 1, 0), (7, .iand, 1, 0), (8, .iload 1, 1, 0), (9, .if_icmp .ne 16, 3, 0), (12, .sipush 1, 1, 0), (13, .goto 17, 3, 0), (16, .sipush 0, 1, 0), (17, .ireturn, 1, 0)]
/-- SinglesPast$Worlds.countAgreeing(I)I -/
def tO_91 : List (Nat × av_O) := [(0, .sipush 0, 1, 0), (1, .istore 2, 1, 0), (2, .sipush 0, 1, 0), (3, .istore 3, 1, 0), (4, .iload 3, 1, 0), (5, .iload 1, 1, 0), (6, .if_icmp .gt 35, 3, 0), (9, .iload 3, 1, 0), (10, .iload 1, 1, 0), (11, .sipush (-1), 1, 0), (12, .ixor, 1, 0), (13, .iand, 1, 0), (14, .ifCond .ne 29, 3, 0), (17, .aload 0, 1, 0), (18, .iload 3, 1, 0), (19, .iload 1, 1, 0), (20, .invokevirtual 90, 3, 94), (23, .ifCond .eq 29, 3, 0), (26, .iinc 2 1, 3, 0), (29, .iinc 3 1, 3, 0), (32, .goto 4, 3, 0), (35, .iload 2, 1, 0), (36, .ireturn, 1, 0)]
/-- SinglesPast$Worlds.pastOf(I)I -/
def tO_92 : List (Nat × av_O) := [(0, .sipush (-1), 1, 0), (1, .istore 2, 1, 0), (2, .sipush 0, 1, 0), (3, .istore 3, 1, 0), (4, .iload 3, 1, 0), (5, .iload 1, 1, 0), (6, .if_icmp .gt 42, 3, 0), (9, .iload 3, 1, 0), (10, .iload 1, 1, 0), (11, .sipush (-1), 1, 0), (12, .ixor, 1, 0), (13, .iand, 1, 0), (14, .ifCond .ne 36, 3, 0), (17, .iload 3, 1, 0), (18, .iload 2, 1, 0), (19, .invokestatic 131, 3, 98), (22, .ifCond .eq 36, 3, 0), (25, .aload 0, 1, 0), (26, .iload 3, 1, 0), (27, .iload 1, 1, 0), (28, .invokevirtual 90, 3, 94), (31, .ifCond .eq 36, 3, 0), (34, .iload 3, 1, 0), (35, .istore 2, 1, 0), (36, .iinc 3 1, 3, 0), (39, .goto 4, 3, 0), (42, .iload 2, 1, 0), (43, .ireturn, 1, 0)]
/-- SinglesPast$Worlds.nowOf(I)I -/
def tO_93 : List (Nat × av_O) := [(0, .aload 0, 1, 0), (1, .iload 1, 1, 0), (2, .invokevirtual 92, 3, 101), (5, .istore 2, 1, 0), (6, .aload 0, 1, 0), (7, .getfield 576, 3, 9), (10, .iload 2, 1, 0), (11, .sipush (-1), 1, 0), (12, .if_icmp .ne 19, 3, 0), (15, .sipush 0, 1, 0), (16, .goto 20, 3, 0), (19, .iload 2, 1, 0), (20, .iaload, 1, 0), (21, .ireturn, 1, 0)]
/-- SinglesPast.<init>()V -/
def tO_94 : List (Nat × av_O) := [(0, .aload 0, 1, 0), (1, .monitorenter, 3, 1), (4, .aload 0, 1, 0), (5, .new 7, 3, 7), (8, .dup, 1, 0), (9, .invokespecial 63, 3, 9), (12, .putfield 640, 3, 10), (15, .aload 0, 1, 0), (16, .sipush (-1), 1, 0), (17, .putfield 641, 3, 16), (20, .aload 0, 1, 0), (21, .new 6, 3, 20), (24, .dup, 1, 0), (25, .invokespecial 30, 3, 22), (28, .putfield 642, 3, 23), (31, .aload 0, 1, 0), (32, .new 6, 3, 20), (35, .dup, 1, 0), (36, .invokespecial 30, 3, 22), (39, .putfield 643, 3, 27), (42, .aload 0, 1, 0), (43, .new 6, 3, 20), (46, .dup, 1, 0), (47, .invokespecial 30, 3, 22), (50, .putfield 645, 3, 30), (53, .aload 0, 1, 0), (54, .new 3, 3, 33), (57, .dup, 1, 0), (58, .invokespecial 18, 3, 35), (61, .putfield 646, 3, 36), (64, .aload 0, 1, 0), (65, .new 1, 3, 40), (68, .dup, 1, 0), (69, .invokespecial 4, 3, 42), (72, .putfield 647, 3, 43), (75, .aload 0, 1, 0), (76, .new 9, 3, 47), (79, .dup, 1, 0), (80, .invokespecial 83, 3, 49), (83, .putfield 648, 3, 50), (86, .aload 0, 1, 0), (87, .new 9, 3, 47), (90, .dup, 1, 0), (91, .invokespecial 83, 3, 49), (94, .putfield 650, 3, 54), (97, .aload 0, 1, 0), (98, .new 5, 3, 57), (101, .dup, 1, 0), (102, .invokespecial 25, 3, 59), (105, .putfield 651, 3, 60), (108, .aload 0, 1, 0), (109, .new 4, 3, 64), (112, .dup, 1, 0), (113, .invokespecial 22, 3, 66), (116, .putfield 652, 3, 67), (119, .return_, 1, 0)]
/-- SinglesPast.feed(IIIII)I -/
def tO_95 : List (Nat × av_O) := [(0, .aload 0, 1, 0), (1, .getfield 640, 3, 10), (4, .getfield 449, 3, 71), (7, .sipush 20, 2, 0), (9, .iadd, 1, 0), (10, .sipush 400, 3, 0), (13, .if_icmp .le 18, 3, 0), (16, .sipush (-1), 1, 0), (17, .ireturn, 1, 0), (18, .aload 0, 1, 0), (19, .getfield 640, 3, 10), (22, .iload 1, 1, 0), (23, .invokevirtual 64, 3, 74), (26, .aload 0, 1, 0), (27, .getfield 640, 3, 10), (30, .iload 2, 1, 0), (31, .invokevirtual 64, 3, 74), (34, .aload 0, 1, 0), (35, .getfield 640, 3, 10), (38, .iload 3, 1, 0), (39, .invokevirtual 64, 3, 74), (42, .aload 0, 1, 0), (43, .getfield 640, 3, 10), (46, .iload 4, 2, 0), (48, .invokevirtual 64, 3, 74), (51, .aload 0, 1, 0), (52, .getfield 640, 3, 10), (55, .iload 5, 2, 0), (57, .invokevirtual 64, 3, 74), (60, .aload 0, 1, 0), (61, .getfield 640, 3, 10), (64, .getfield 449, 3, 71), (67, .ireturn, 1, 0)]
/-- SinglesPast.end(I)Z -/
def tO_96 : List (Nat × av_O) := [(0, .iload 1, 1, 0), (1, .ifCond .lt 15, 3, 0), (4, .iload 1, 1, 0), (5, .aload 0, 1, 0), (6, .getfield 640, 3, 10), (9, .getfield 449, 3, 71), (12, .if_icmp .le 17, 3, 0), (15, .sipush 0, 1, 0), (16, .ireturn, 1, 0), (17, .aload 0, 1, 0), (18, .getfield 640, 3, 10), (21, .iload 1, 1, 0), (22, .putfield 449, 3, 71), (25, .sipush 1, 1, 0), (26, .ireturn, 1, 0)]
/-- SinglesPast.station()I -/
def tO_97 : List (Nat × av_O) := [(0, .aload 0, 1, 0), (1, .getfield 645, 3, 30), (4, .aload 0, 1, 0), (5, .getfield 642, 3, 23), (8, .invokevirtual 31, 3, 78), (11, .aload 0, 1, 0), (12, .getfield 640, 3, 10), (15, .invokevirtual 65, 3, 82), (18, .aload 0, 1, 0), (19, .aload 0, 1, 0), (20, .getfield 640, 3, 10), (23, .aload 0, 1, 0), (24, .getfield 645, 3, 30), (27, .invokestatic 53, 3, 85), (30, .invokevirtual 99, 3, 91), (33, .aload 0, 1, 0), (34, .getfield 642, 3, 23), (37, .getfield 397, 3, 95), (40, .sipush 12, 2, 0), (42, .if_icmp .lt 55, 3, 0), (45, .instanceof 0, 3, 98), (55, .aload 0, 1, 0), (56, .getfield 645, 3, 30), (59, .dup, 1, 0), (60, .getfield 397, 3, 95), (63, .sipush 1, 1, 0), (64, .iadd, 1, 0), (65, .putfield 397, 3, 95), (68, .aload 0, 1, 0), (69, .getfield 642, 3, 23), (72, .aload 0, 1, 0), (73, .getfield 645, 3, 30), (76, .invokevirtual 31, 3, 78), (79, .aload 0, 1, 0), (80, .invokevirtual 100, 3, 105), (83, .aload 0, 1, 0), (84, .getfield 642, 3, 23), (87, .getfield 397, 3, 95), (90, .ireturn, 1, 0)]
/-- SinglesPast.law()I -/
def tO_98 : List (Nat × av_O) := [(0, .aload 0, 1, 0), (1, .getfield 640, 3, 10), (4, .invokevirtual 65, 3, 82), (7, .aload 0, 1, 0), (8, .aload 0, 1, 0), (9, .getfield 647, 3, 43), (12, .aload 0, 1, 0), (13, .getfield 640, 3, 10), (16, .invokevirtual 6, 3, 108), (19, .invokevirtual 99, 3, 91), (22, .aload 0, 1, 0), (23, .getfield 642, 3, 23), (26, .aload 0, 1, 0), (27, .getfield 647, 3, 43), (30, .invokevirtual 5, 3, 111), (33, .putfield 398, 3, 115), (36, .aload 0, 1, 0), (37, .invokevirtual 100, 3, 105), (40, .aload 0, 1, 0), (41, .getfield 642, 3, 23), (44, .getfield 398, 3, 115), (47, .getfield 0, 3, 119), (50, .ireturn, 1, 0)]
/-- SinglesPast.closeText(Z)V -/
def tO_99 : List (Nat × av_O) := [(0, .aload 0, 1, 0), (1, .iload 1, 1, 0), (2, .ifCond .eq 9, 3, 0), (5, .sipush (-1), 1, 0), (6, .goto 16, 3, 0), (9, .aload 0, 1, 0), (10, .getfield 640, 3, 10), (13, .getfield 450, 3, 124), (16, .putfield 641, 3, 16), (19, .iload 1, 1, 0), (20, .ifCond .ne 33, 3, 0), (23, .instanceof 1, 3, 127), (33, .return_, 1, 0)]
/-- SinglesPast.forgetActs()V -/
def tO_100 : List (Nat × av_O) := [(0, .aload 0, 1, 0), (1, .getfield 646, 3, 36), (4, .invokevirtual 21, 3, 132), (7, .aload 0, 1, 0), (8, .sipush 0, 1, 0), (9, .putfield 649, 3, 135), (12, .return_, 1, 0)]
/-- SinglesPast.fault()I -/
def tO_101 : List (Nat × av_O) := [(0, .aload 0, 1, 0), (1, .getfield 641, 3, 16), (4, .ireturn, 1, 0)]
/-- SinglesPast.thing(II)I -/
def tO_102 : List (Nat × av_O) := [(0, .aload 0, 1, 0), (1, .iload 1, 1, 0), (2, .invokevirtual 180, 3, 139), (5, .iload 2, 1, 0), (6, .tableswitch 146 0 7 #[52, 65, 80, 93, 106, 119, 128, 140], 46, 0), (52, .aload 0, 1, 0), (53, .getfield 642, 3, 23), (56, .getfield 384, 3, 142), (59, .getfield 514, 3, 146), (62, .iload 1, 1, 0), (63, .iaload, 1, 0), (64, .ireturn, 1, 0), (65, .aload 0, 1, 0), (66, .getfield 642, 3, 23), (69, .getfield 384, 3, 142), (72, .getfield 513, 3, 152), (75, .iload 1, 1, 0), (76, .ishr, 1, 0), (77, .sipush 1, 1, 0), (78, .iand, 1, 0), (79, .ireturn, 1, 0), (80, .aload 0, 1, 0), (81, .getfield 642, 3, 23), (84, .getfield 384, 3, 142), (87, .getfield 515, 3, 155), (90, .iload 1, 1, 0), (91, .iaload, 1, 0), (92, .ireturn, 1, 0), (93, .aload 0, 1, 0), (94, .getfield 642, 3, 23), (97, .getfield 384, 3, 142), (100, .getfield 516, 3, 158), (103, .iload 1, 1, 0), (104, .iaload, 1, 0), (105, .ireturn, 1, 0), (106, .aload 0, 1, 0), (107, .getfield 642, 3, 23), (110, .getfield 384, 3, 142), (113, .getfield 517, 3, 161), (116, .iload 1, 1, 0), (117, .iaload, 1, 0), (118, .ireturn, 1, 0), (119, .aload 0, 1, 0), (120, .invokevirtual 129, 3, 164), (123, .iload 1, 1, 0), (124, .ishr, 1, 0), (125, .sipush 1, 1, 0), (126, .iand, 1, 0), (127, .ireturn, 1, 0), (128, .aload 0, 1, 0), (129, .getfield 642, 3, 23), (132, .getfield 384, 3, 142), (135, .iload 1, 1, 0), (136, .invokevirtual 81, 3, 168), (139, .ireturn, 1, 0), (140, .aload 0, 1, 0), (141, .iload 1, 1, 0), (142, .invokevirtual 105, 3, 172), (145, .ireturn, 1, 0), (146, .instanceof 2, 3, 175)]
/-- SinglesPast.goer(II)I -/
def tO_103 : List (Nat × av_O) := [(0, .aload 0, 1, 0), (1, .iload 1, 1, 0), (2, .invokevirtual 181, 3, 180), (5, .iload 2, 1, 0), (6, .tableswitch 180 0 10 #[64, 74, 84, 96, 106, 116, 126, 136, 155, 165, 174], 58, 0), (64, .aload 0, 1, 0), (65, .getfield 642, 3, 23), (68, .getfield 386, 3, 183), (71, .iload 1, 1, 0), (72, .iaload, 1, 0), (73, .ireturn, 1, 0), (74, .aload 0, 1, 0), (75, .getfield 642, 3, 23), (78, .getfield 387, 3, 186), (81, .iload 1, 1, 0), (82, .iaload, 1, 0), (83, .ireturn, 1, 0), (84, .aload 0, 1, 0), (85, .getfield 642, 3, 23), (88, .getfield 388, 3, 189), (91, .iload 1, 1, 0), (92, .ishr, 1, 0), (93, .sipush 1, 1, 0), (94, .iand, 1, 0), (95, .ireturn, 1, 0), (96, .aload 0, 1, 0), (97, .getfield 642, 3, 23), (100, .getfield 389, 3, 192), (103, .iload 1, 1, 0), (104, .iaload, 1, 0), (105, .ireturn, 1, 0), (106, .aload 0, 1, 0), (107, .getfield 642, 3, 23), (110, .getfield 390, 3, 195), (113, .iload 1, 1, 0), (114, .iaload, 1, 0), (115, .ireturn, 1, 0), (116, .aload 0, 1, 0), (117, .getfield 642, 3, 23), (120, .getfield 391, 3, 198), (123, .iload 1, 1, 0), (124, .iaload, 1, 0), (125, .ireturn, 1, 0), (126, .aload 0, 1, 0), (127, .getfield 642, 3, 23), (130, .getfield 392, 3, 201), (133, .iload 1, 1, 0), (134, .iaload, 1, 0), (135, .ireturn, 1, 0), (136, .aload 0, 1, 0), (137, .getfield 642, 3, 23), (140, .getfield 393, 3, 204), (143, .iload 1, 1, 0), (144, .iaload, 1, 0), (145, .sipush (-1), 1, 0), (146, .if_icmp .eq 153, 3, 0), (149, .sipush 1, 1, 0), (150, .goto 154, 3, 0), (153, .sipush 0, 1, 0), (154, .ireturn, 1, 0), (155, .aload 0, 1, 0), (156, .getfield 642, 3, 23), (159, .getfield 393, 3, 204), (162, .iload 1, 1, 0), (163, .iaload, 1, 0), (164, .ireturn, 1, 0), (165, .aload 0, 1, 0), (166, .getfield 642, 3, 23), (169, .iload 1, 1, 0), (170, .invokevirtual 47, 3, 207), (173, .ireturn, 1, 0), (174, .aload 0, 1, 0), (175, .iload 1, 1, 0), (176, .invokevirtual 130, 3, 210), (179, .ireturn, 1, 0), (180, .instanceof 3, 3, 175)]
/-- SinglesPast.train(II)I -/
def tO_104 : List (Nat × av_O) := [(0, .aload 0, 1, 0), (1, .iload 1, 1, 0), (2, .invokevirtual 183, 3, 215), (5, .iload 2, 1, 0), (6, .tableswitch 74 0 3 #[36, 46, 56, 68], 30, 0), (36, .aload 0, 1, 0), (37, .getfield 642, 3, 23), (40, .getfield 395, 3, 218), (43, .iload 1, 1, 0), (44, .iaload, 1, 0), (45, .ireturn, 1, 0), (46, .aload 0, 1, 0), (47, .getfield 642, 3, 23), (50, .getfield 396, 3, 221), (53, .iload 1, 1, 0), (54, .iaload, 1, 0), (55, .ireturn, 1, 0), (56, .aload 0, 1, 0), (57, .getfield 642, 3, 23), (60, .iload 1, 1, 0), (61, .invokevirtual 39, 3, 224), (64, .invokestatic 357, 3, 227), (67, .ireturn, 1, 0), (68, .aload 0, 1, 0), (69, .iload 1, 1, 0), (70, .invokevirtual 106, 3, 232), (73, .ireturn, 1, 0), (74, .instanceof 4, 3, 175)]
/-- SinglesPast.latestStop(I)I -/
def tO_105 : List (Nat × av_O) := [(0, .aload 0, 1, 0), (1, .getfield 642, 3, 23), (4, .invokevirtual 40, 3, 237), (7, .istore 2, 1, 0), (8, .aload 0, 1, 0), (9, .getfield 642, 3, 23), (12, .getfield 384, 3, 142), (15, .getfield 514, 3, 146), (18, .iload 1, 1, 0), (19, .iaload, 1, 0), (20, .istore 3, 1, 0), (21, .iload 3, 1, 0), (22, .ifCond .lt 41, 3, 0), (25, .iload 2, 1, 0), (26, .iload 3, 1, 0), (27, .ishr, 1, 0), (28, .sipush 1, 1, 0), (29, .iand, 1, 0), (30, .ifCond .eq 35, 3, 0), (33, .iload 3, 1, 0), (34, .ireturn, 1, 0), (35, .iinc 3 (-1), 3, 0), (38, .goto 21, 3, 0), (41, .sipush (-1), 1, 0), (42, .ireturn, 1, 0)]
/-- SinglesPast.shareOf(I)I -/
def tO_106 : List (Nat × av_O) := [(0, .aload 0, 1, 0), (1, .getfield 642, 3, 23), (4, .invokevirtual 37, 3, 240), (7, .invokestatic 357, 3, 227), (10, .istore 2, 1, 0), (11, .iload 2, 1, 0), (12, .ifCond .le 34, 3, 0), (15, .sipush 100, 2, 0), (17, .aload 0, 1, 0), (18, .getfield 642, 3, 23), (21, .iload 1, 1, 0), (22, .invokevirtual 39, 3, 224), (25, .invokestatic 357, 3, 227), (28, .imul, 1, 0), (29, .iload 2, 1, 0), (30, .idiv, 1, 0), (31, .goto 35, 3, 0), (34, .sipush 0, 1, 0), (35, .ireturn, 1, 0)]
/-- SinglesPast.cost(II)I -/
def tO_107 : List (Nat × av_O) := [(0, .aload 0, 1, 0), (1, .iload 1, 1, 0), (2, .invokevirtual 181, 3, 180), (5, .aload 0, 1, 0), (6, .iload 2, 1, 0), (7, .invokevirtual 183, 3, 215), (10, .aload 0, 1, 0), (11, .getfield 642, 3, 23), (14, .iload 1, 1, 0), (15, .iload 2, 1, 0), (16, .invokevirtual 44, 3, 243), (19, .ireturn, 1, 0)]
/-- SinglesPast.fear(II)I -/
def tO_108 : List (Nat × av_O) := [(0, .aload 0, 1, 0), (1, .iload 1, 1, 0), (2, .invokevirtual 181, 3, 180), (5, .aload 0, 1, 0), (6, .iload 2, 1, 0), (7, .invokevirtual 183, 3, 215), (10, .aload 0, 1, 0), (11, .getfield 642, 3, 23), (14, .iload 1, 1, 0), (15, .iload 2, 1, 0), (16, .invokevirtual 45, 3, 247), (19, .ireturn, 1, 0)]
/-- SinglesPast.may(II)Z -/
def tO_109 : List (Nat × av_O) := [(0, .aload 0, 1, 0), (1, .iload 1, 1, 0), (2, .invokevirtual 181, 3, 180), (5, .aload 0, 1, 0), (6, .iload 2, 1, 0), (7, .invokevirtual 183, 3, 215), (10, .aload 0, 1, 0), (11, .getfield 642, 3, 23), (14, .iload 1, 1, 0), (15, .iload 2, 1, 0), (16, .invokevirtual 46, 3, 250), (19, .ireturn, 1, 0)]
/-- SinglesPast.days(I)I -/
def tO_110 : List (Nat × av_O) := [(0, .iload 1, 1, 0), (1, .sipush 1, 1, 0), (2, .if_icmp .lt 11, 3, 0), (5, .iload 1, 1, 0), (6, .sipush 60, 2, 0), (8, .if_icmp .le 21, 3, 0), (11, .instanceof 5, 3, 127), (21, .aload 0, 1, 0), (22, .invokevirtual 119, 3, 256), (25, .aload 0, 1, 0), (26, .getfield 642, 3, 23), (29, .iload 1, 1, 0), (30, .sipush 1, 1, 0), (31, .invokevirtual 50, 3, 259), (34, .ireturn, 1, 0)]
/-- SinglesPast.sell(II)I -/
def tO_111 : List (Nat × av_O) := [(0, .aload 0, 1, 0), (1, .iload 1, 1, 0), (2, .invokevirtual 181, 3, 180), (5, .aload 0, 1, 0), (6, .iload 2, 1, 0), (7, .invokevirtual 183, 3, 215), (10, .aload 0, 1, 0), (11, .getfield 642, 3, 23), (14, .iload 1, 1, 0), (15, .iload 2, 1, 0), (16, .invokevirtual 46, 3, 250), (19, .ifCond .ne 33, 3, 0), (22, .instanceof 6, 3, 263), (33, .aload 0, 1, 0), (34, .invokevirtual 119, 3, 256), (37, .aload 0, 1, 0), (38, .getfield 642, 3, 23), (41, .iload 1, 1, 0), (42, .iload 2, 1, 0), (43, .invokevirtual 48, 3, 268), (46, .ireturn, 1, 0)]
/-- SinglesPast.pay(II)I -/
def tO_112 : List (Nat × av_O) := [(0, .aload 0, 1, 0), (1, .iload 1, 1, 0), (2, .invokevirtual 181, 3, 180), (5, .iload 2, 1, 0), (6, .sipush 1, 1, 0), (7, .if_icmp .lt 17, 3, 0), (10, .iload 2, 1, 0), (11, .sipush 999, 3, 0), (14, .if_icmp .le 28, 3, 0), (17, .instanceof 7, 3, 127), (28, .aload 0, 1, 0), (29, .invokevirtual 119, 3, 256), (32, .aload 0, 1, 0), (33, .getfield 642, 3, 23), (36, .getfield 390, 3, 195), (39, .iload 1, 1, 0), (40, .sipush 999, 3, 0), (43, .aload 0, 1, 0), (44, .getfield 642, 3, 23), (47, .getfield 390, 3, 195), (50, .iload 1, 1, 0), (51, .iaload, 1, 0), (52, .iload 2, 1, 0), (53, .iadd, 1, 0), (54, .invokedynamic 5, 3, 273), (57, .iastore, 1, 0), (58, .aload 0, 1, 0), (59, .getfield 642, 3, 23), (62, .getfield 390, 3, 195), (65, .iload 1, 1, 0), (66, .iaload, 1, 0), (67, .ireturn, 1, 0)]
/-- SinglesPast.nerve(II)I -/
def tO_113 : List (Nat × av_O) := [(0, .aload 0, 1, 0), (1, .iload 1, 1, 0), (2, .invokevirtual 181, 3, 180), (5, .iload 2, 1, 0), (6, .ifCond .lt 15, 3, 0), (9, .iload 2, 1, 0), (10, .sipush 100, 2, 0), (12, .if_icmp .le 26, 3, 0), (15, .instanceof 8, 3, 127), (26, .aload 0, 1, 0), (27, .invokevirtual 119, 3, 256), (30, .aload 0, 1, 0), (31, .getfield 642, 3, 23), (34, .getfield 391, 3, 198), (37, .iload 1, 1, 0), (38, .iaload, 1, 0), (39, .istore 3, 1, 0), (40, .aload 0, 1, 0), (41, .getfield 642, 3, 23), (44, .getfield 391, 3, 198), (47, .iload 1, 1, 0), (48, .iload 2, 1, 0), (49, .iastore, 1, 0), (50, .iload 3, 1, 0), (51, .ireturn, 1, 0)]
/-- SinglesPast.wish(II)I -/
def tO_114 : List (Nat × av_O) := [(0, .aload 0, 1, 0), (1, .iload 1, 1, 0), (2, .invokevirtual 181, 3, 180), (5, .iload 2, 1, 0), (6, .invokestatic 179, 3, 280), (9, .aload 0, 1, 0), (10, .iload 1, 1, 0), (11, .invokevirtual 184, 3, 283), (14, .aload 0, 1, 0), (15, .invokevirtual 119, 3, 256), (18, .aload 0, 1, 0), (19, .getfield 642, 3, 23), (22, .getfield 386, 3, 183), (25, .iload 1, 1, 0), (26, .iaload, 1, 0), (27, .istore 3, 1, 0), (28, .aload 0, 1, 0), (29, .getfield 642, 3, 23), (32, .getfield 386, 3, 183), (35, .iload 1, 1, 0), (36, .iload 2, 1, 0), (37, .iastore, 1, 0), (38, .iload 3, 1, 0), (39, .ireturn, 1, 0)]
/-- SinglesPast.deed(IIZ)I -/
def tO_115 : List (Nat × av_O) := [(0, .aload 0, 1, 0), (1, .iload 1, 1, 0), (2, .invokevirtual 181, 3, 180), (5, .iload 2, 1, 0), (6, .sipush (-1), 1, 0), (7, .if_icmp .eq 15, 3, 0), (10, .aload 0, 1, 0), (11, .iload 2, 1, 0), (12, .invokevirtual 180, 3, 139), (15, .aload 0, 1, 0), (16, .iload 1, 1, 0), (17, .invokevirtual 184, 3, 283), (20, .aload 0, 1, 0), (21, .invokevirtual 119, 3, 256), (24, .aload 0, 1, 0), (25, .getfield 642, 3, 23), (28, .getfield 387, 3, 186), (31, .iload 1, 1, 0), (32, .iaload, 1, 0), (33, .istore 4, 2, 0), (35, .aload 0, 1, 0), (36, .getfield 642, 3, 23), (39, .iload 1, 1, 0), (40, .iload 2, 1, 0), (41, .iload 3, 1, 0), (42, .invokevirtual 34, 3, 286), (45, .iload 4, 2, 0), (47, .ireturn, 1, 0)]
/-- SinglesPast.quarrel(IIZ)Z -/
def tO_116 : List (Nat × av_O) := [(0, .aload 0, 1, 0), (1, .iload 1, 1, 0), (2, .iload 2, 1, 0), (3, .invokevirtual 182, 3, 290), (6, .aload 0, 1, 0), (7, .invokevirtual 119, 3, 256), (10, .aload 0, 1, 0), (11, .getfield 642, 3, 23), (14, .getfield 392, 3, 201), (17, .iload 1, 1, 0), (18, .iaload, 1, 0), (19, .iload 2, 1, 0), (20, .ishr, 1, 0), (21, .sipush 1, 1, 0), (22, .iand, 1, 0), (23, .ifCond .eq 30, 3, 0), (26, .sipush 1, 1, 0), (27, .goto 31, 3, 0), (30, .sipush 0, 1, 0), (31, .istore 4, 2, 0), (33, .aload 0, 1, 0), (34, .getfield 642, 3, 23), (37, .iload 1, 1, 0), (38, .iload 2, 1, 0), (39, .iload 3, 1, 0), (40, .invokevirtual 35, 3, 294), (43, .iload 4, 2, 0), (45, .iload 3, 1, 0), (46, .if_icmp .eq 53, 3, 0), (49, .sipush 1, 1, 0), (50, .goto 54, 3, 0), (53, .sipush 0, 1, 0), (54, .ireturn, 1, 0)]
/-- SinglesPast.stops(II)I -/
def tO_117 : List (Nat × av_O) := [(0, .aload 0, 1, 0), (1, .iload 1, 1, 0), (2, .invokevirtual 183, 3, 215), (5, .iload 2, 1, 0), (6, .sipush 65535, 3, 297), (9, .iand, 1, 0), (10, .ifCond .ne 24, 3, 0), (13, .instanceof 9, 3, 127), (24, .aload 0, 1, 0), (25, .invokevirtual 119, 3, 256), (28, .aload 0, 1, 0), (29, .getfield 642, 3, 23), (32, .getfield 395, 3, 218), (35, .iload 1, 1, 0), (36, .iaload, 1, 0), (37, .istore 3, 1, 0), (38, .aload 0, 1, 0), (39, .getfield 642, 3, 23), (42, .getfield 395, 3, 218), (45, .iload 1, 1, 0), (46, .iload 2, 1, 0), (47, .sipush 65535, 3, 297), (50, .iand, 1, 0), (51, .iastore, 1, 0), (52, .iload 3, 1, 0), (53, .ireturn, 1, 0)]
/-- SinglesPast.recall(I)I -/
def tO_118 : List (Nat × av_O) := [(0, .aload 0, 1, 0), (1, .iload 1, 1, 0), (2, .invokevirtual 181, 3, 180), (5, .aload 0, 1, 0), (6, .getfield 642, 3, 23), (9, .getfield 393, 3, 204), (12, .iload 1, 1, 0), (13, .iaload, 1, 0), (14, .sipush (-1), 1, 0), (15, .if_icmp .ne 29, 3, 0), (18, .instanceof 10, 3, 263), (29, .aload 0, 1, 0), (30, .invokevirtual 119, 3, 256), (33, .aload 0, 1, 0), (34, .getfield 642, 3, 23), (37, .iload 1, 1, 0), (38, .invokevirtual 49, 3, 302), (41, .ireturn, 1, 0)]
/-- SinglesPast.beginAct()V -/
def tO_119 : List (Nat × av_O) := [(0, .aload 0, 1, 0), (1, .getfield 646, 3, 36), (4, .aload 0, 1, 0), (5, .getfield 642, 3, 23), (8, .invokevirtual 19, 3, 305), (11, .aload 0, 1, 0), (12, .sipush 0, 1, 0), (13, .putfield 649, 3, 135), (16, .return_, 1, 0)]
/-- SinglesPast.world(I)I -/
def tO_120 : List (Nat × av_O) := [(0, .aload 0, 1, 0), (1, .invokevirtual 128, 3, 308), (4, .getfield 576, 3, 312), (7, .iload 1, 1, 0), (8, .aload 0, 1, 0), (9, .getfield 642, 3, 23), (12, .invokevirtual 36, 3, 315), (15, .iand, 1, 0), (16, .iaload, 1, 0), (17, .ireturn, 1, 0)]
/-- SinglesPast.agrees(I)Z -/
def tO_121 : List (Nat × av_O) := [(0, .aload 0, 1, 0), (1, .invokevirtual 128, 3, 308), (4, .iload 1, 1, 0), (5, .aload 0, 1, 0), (6, .getfield 642, 3, 23), (9, .invokevirtual 36, 3, 315), (12, .iand, 1, 0), (13, .aload 0, 1, 0), (14, .getfield 642, 3, 23), (17, .invokevirtual 37, 3, 240), (20, .invokevirtual 90, 3, 318), (23, .ireturn, 1, 0)]
/-- SinglesPast.agree()I -/
def tO_122 : List (Nat × av_O) := [(0, .aload 0, 1, 0), (1, .invokevirtual 128, 3, 308), (4, .aload 0, 1, 0), (5, .getfield 642, 3, 23), (8, .invokevirtual 37, 3, 240), (11, .invokevirtual 91, 3, 321), (14, .ireturn, 1, 0)]
/-- SinglesPast.past()I -/
def tO_123 : List (Nat × av_O) := [(0, .aload 0, 1, 0), (1, .invokevirtual 128, 3, 308), (4, .aload 0, 1, 0), (5, .getfield 642, 3, 23), (8, .invokevirtual 37, 3, 240), (11, .invokevirtual 92, 3, 324), (14, .ireturn, 1, 0)]
/-- SinglesPast.now()I -/
def tO_124 : List (Nat × av_O) := [(0, .aload 0, 1, 0), (1, .invokevirtual 129, 3, 164), (4, .ireturn, 1, 0)]
/-- SinglesPast.ring()I -/
def tO_125 : List (Nat × av_O) := [(0, .aload 0, 1, 0), (1, .invokevirtual 128, 3, 308), (4, .astore 1, 1, 0), (5, .aload 0, 1, 0), (6, .getfield 642, 3, 23), (9, .invokevirtual 37, 3, 240), (12, .istore 2, 1, 0), (13, .sipush (-1), 1, 0), (14, .istore 3, 1, 0), (15, .sipush 1, 1, 0), (16, .istore 4, 2, 0), (18, .iload 4, 2, 0), (20, .sipush 64, 2, 0), (22, .if_icmp .ge 73, 3, 0), (25, .iload 4, 2, 0), (27, .iload 2, 1, 0), (28, .sipush (-1), 1, 0), (29, .ixor, 1, 0), (30, .iand, 1, 0), (31, .ifCond .ne 38, 3, 0), (34, .sipush 1, 1, 0), (35, .goto 39, 3, 0), (38, .sipush 0, 1, 0), (39, .istore 5, 2, 0), (41, .iload 5, 2, 0), (43, .ifCond .eq 67, 3, 0), (46, .iload 4, 2, 0), (48, .iload 3, 1, 0), (49, .invokestatic 131, 3, 327), (52, .ifCond .eq 67, 3, 0), (55, .aload 1, 1, 0), (56, .iload 4, 2, 0), (58, .invokevirtual 91, 3, 321), (61, .ifCond .ne 67, 3, 0), (64, .iload 4, 2, 0), (66, .istore 3, 1, 0), (67, .iinc 4 1, 3, 0), (70, .goto 18, 3, 0), (73, .iload 3, 1, 0), (74, .ireturn, 1, 0)]
/-- SinglesPast.otherwise(I)I -/
def tO_126 : List (Nat × av_O) := [(0, .aload 0, 1, 0), (1, .iload 1, 1, 0), (2, .invokevirtual 181, 3, 180), (5, .aload 0, 1, 0), (6, .invokevirtual 128, 3, 308), (9, .aload 0, 1, 0), (10, .getfield 642, 3, 23), (13, .invokevirtual 37, 3, 240), (16, .sipush 1, 1, 0), (17, .iload 1, 1, 0), (18, .ishl, 1, 0), (19, .ixor, 1, 0), (20, .invokevirtual 93, 3, 330), (23, .ireturn, 1, 0)]
/-- SinglesPast.heavy()I -/
def tO_127 : List (Nat × av_O) := [(0, .sipush (-1), 1, 0), (1, .istore 1, 1, 0), (2, .sipush (-1), 1, 0), (3, .istore 2, 1, 0), (4, .sipush 0, 1, 0), (5, .istore 3, 1, 0), (6, .iload 3, 1, 0), (7, .aload 0, 1, 0), (8, .getfield 642, 3, 23), (11, .getfield 385, 3, 333), (14, .if_icmp .ge 51, 3, 0), (17, .aload 0, 1, 0), (18, .getfield 642, 3, 23), (21, .getfield 384, 3, 142), (24, .aload 0, 1, 0), (25, .iload 3, 1, 0), (26, .invokevirtual 130, 3, 210), (29, .invokevirtual 79, 3, 336), (32, .istore 4, 2, 0), (34, .iload 4, 2, 0), (36, .iload 2, 1, 0), (37, .if_icmp .le 45, 3, 0), (40, .iload 4, 2, 0), (42, .istore 2, 1, 0), (43, .iload 3, 1, 0), (44, .istore 1, 1, 0), (45, .iinc 3 1, 3, 0), (48, .goto 6, 3, 0), (51, .iload 1, 1, 0), (52, .ireturn, 1, 0)]
/-- SinglesPast.freshWorlds()LSinglesPast$Worlds; -/
def tO_128 : List (Nat × av_O) := [(0, .aload 0, 1, 0), (1, .getfield 649, 3, 135), (4, .ifCond .ne 40, 3, 0), (7, .aload 0, 1, 0), (8, .getfield 648, 3, 50), (11, .aload 0, 1, 0), (12, .getfield 642, 3, 23), (15, .aload 0, 1, 0), (16, .getfield 642, 3, 23), (19, .getfield 384, 3, 142), (22, .getfield 513, 3, 152), (25, .aload 0, 1, 0), (26, .getfield 642, 3, 23), (29, .invokevirtual 36, 3, 315), (32, .invokevirtual 84, 3, 339), (35, .aload 0, 1, 0), (36, .sipush 1, 1, 0), (37, .putfield 649, 3, 135), (40, .aload 0, 1, 0), (41, .getfield 648, 3, 50), (44, .areturn, 1, 0)]
/-- SinglesPast.soNow()I -/
def tO_129 : List (Nat × av_O) := [(0, .aload 0, 1, 0), (1, .invokevirtual 128, 3, 308), (4, .aload 0, 1, 0), (5, .getfield 642, 3, 23), (8, .invokevirtual 37, 3, 240), (11, .invokevirtual 93, 3, 330), (14, .ireturn, 1, 0)]
/-- SinglesPast.changesBy(I)I -/
def tO_130 : List (Nat × av_O) := [(0, .aload 0, 1, 0), (1, .invokevirtual 128, 3, 308), (4, .aload 0, 1, 0), (5, .getfield 642, 3, 23), (8, .invokevirtual 37, 3, 240), (11, .sipush 1, 1, 0), (12, .iload 1, 1, 0), (13, .ishl, 1, 0), (14, .ixor, 1, 0), (15, .invokevirtual 93, 3, 330), (18, .aload 0, 1, 0), (19, .invokevirtual 129, 3, 164), (22, .ixor, 1, 0), (23, .ireturn, 1, 0)]
/-- SinglesPast.isFewer(II)Z -/
def tO_131 : List (Nat × av_O) := [(0, .iload 1, 1, 0), (1, .sipush (-1), 1, 0), (2, .if_icmp .eq 16, 3, 0), (5, .iload 0, 1, 0), (6, .invokestatic 357, 3, 227), (9, .iload 1, 1, 0), (10, .invokestatic 357, 3, 227), (13, .if_icmp .ge 20, 3, 0), (16, .sipush 1, 1, 0), (17, .goto 21, 3, 0), (20, .sipush 0, 1, 0), (21, .ireturn, 1, 0)]
/-- SinglesPast.send()I -/
def tO_132 : List (Nat × av_O) := [(0, .aload 0, 1, 0), (1, .invokevirtual 135, 3, 343), (4, .aload 0, 1, 0), (5, .invokevirtual 128, 3, 308), (8, .astore 1, 1, 0), (9, .aload 0, 1, 0), (10, .getfield 642, 3, 23), (13, .invokevirtual 37, 3, 240), (16, .istore 2, 1, 0), (17, .sipush (-1), 1, 0), (18, .istore 3, 1, 0), (19, .sipush 0, 1, 0), (20, .istore 4, 2, 0), (22, .iload 4, 2, 0), (24, .sipush 64, 2, 0), (26, .if_icmp .ge 90, 3, 0), (29, .iload 4, 2, 0), (31, .aload 0, 1, 0), (32, .getfield 642, 3, 23), (35, .invokevirtual 36, 3, 315), (38, .iload 2, 1, 0), (39, .sipush (-1), 1, 0), (40, .ixor, 1, 0), (41, .iand, 1, 0), (42, .sipush (-1), 1, 0), (43, .ixor, 1, 0), (44, .iand, 1, 0), (45, .ifCond .ne 52, 3, 0), (48, .sipush 1, 1, 0), (49, .goto 53, 3, 0), (52, .sipush 0, 1, 0), (53, .istore 5, 2, 0), (55, .iload 5, 2, 0), (57, .ifCond .eq 84, 3, 0), (60, .iload 4, 2, 0), (62, .iload 3, 1, 0), (63, .invokestatic 131, 3, 327), (66, .ifCond .eq 84, 3, 0), (69, .aload 0, 1, 0), (70, .aload 1, 1, 0), (71, .iload 2, 1, 0), (72, .iload 4, 2, 0), (74, .ior, 1, 0), (75, .invokevirtual 137, 3, 346), (78, .ifCond .eq 84, 3, 0), (81, .iload 4, 2, 0), (83, .istore 3, 1, 0), (84, .iinc 4 1, 3, 0), (87, .goto 22, 3, 0), (90, .iload 3, 1, 0), (91, .ireturn, 1, 0)]
/-- SinglesPast.who(Z)I -/
def tO_133 : List (Nat × av_O) := [(0, .aload 0, 1, 0), (1, .invokevirtual 135, 3, 343), (4, .aload 0, 1, 0), (5, .invokevirtual 128, 3, 308), (8, .astore 2, 1, 0), (9, .sipush 0, 1, 0), (10, .istore 3, 1, 0), (11, .sipush 0, 1, 0), (12, .istore 4, 2, 0), (14, .iload 4, 2, 0), (16, .aload 0, 1, 0), (17, .getfield 642, 3, 23), (20, .invokevirtual 36, 3, 315), (23, .if_icmp .gt 52, 3, 0), (26, .aload 0, 1, 0), (27, .aload 2, 1, 0), (28, .iload 4, 2, 0), (30, .invokevirtual 138, 3, 350), (33, .ifCond .eq 46, 3, 0), (36, .iload 1, 1, 0), (37, .ifCond .eq 43, 3, 0), (40, .iload 4, 2, 0), (42, .ireturn, 1, 0), (43, .iinc 3 1, 3, 0), (46, .iinc 4 1, 3, 0), (49, .goto 14, 3, 0), (52, .iload 1, 1, 0), (53, .ifCond .eq 60, 3, 0), (56, .sipush (-1), 1, 0), (57, .goto 61, 3, 0), (60, .iload 3, 1, 0), (61, .ireturn, 1, 0)]
/-- SinglesPast.look()I -/
def tO_134 : List (Nat × av_O) := [(0, .aload 0, 1, 0), (1, .invokevirtual 135, 3, 343), (4, .aload 0, 1, 0), (5, .invokevirtual 128, 3, 308), (8, .astore 1, 1, 0), (9, .aload 0, 1, 0), (10, .aload 1, 1, 0), (11, .sipush (-1), 1, 0), (12, .invokevirtual 139, 3, 353), (15, .istore 2, 1, 0), (16, .iload 2, 1, 0), (17, .sipush 2, 1, 0), (18, .if_icmp .ge 23, 3, 0), (21, .sipush (-1), 1, 0), (22, .ireturn, 1, 0), (23, .sipush (-1), 1, 0), (24, .istore 3, 1, 0), (25, .sipush 65, 2, 0), (27, .istore 4, 2, 0), (29, .sipush 0, 1, 0), (30, .istore 5, 2, 0), (32, .iload 5, 2, 0), (34, .aload 0, 1, 0), (35, .getfield 642, 3, 23), (38, .getfield 384, 3, 142), (41, .getfield 512, 3, 357), (44, .if_icmp .ge 87, 3, 0), (47, .aload 0, 1, 0), (48, .aload 1, 1, 0), (49, .iload 5, 2, 0), (51, .invokevirtual 139, 3, 353), (54, .istore 6, 2, 0), (56, .iload 6, 2, 0), (58, .iload 2, 1, 0), (59, .iload 6, 2, 0), (61, .isub, 1, 0), (62, .invokedynamic 4, 3, 360), (65, .istore 7, 2, 0), (67, .iload 7, 2, 0), (69, .iload 4, 2, 0), (71, .if_icmp .ge 81, 3, 0), (74, .iload 7, 2, 0), (76, .istore 4, 2, 0), (78, .iload 5, 2, 0), (80, .istore 3, 1, 0), (81, .iinc 5 1, 3, 0), (84, .goto 32, 3, 0), (87, .iload 3, 1, 0), (88, .ireturn, 1, 0)]
/-- SinglesPast.readTold()V -/
def tO_135 : List (Nat × av_O) := [(0, .aload 0, 1, 0), (1, .getfield 640, 3, 10), (4, .getfield 449, 3, 71), (7, .istore 1, 1, 0), (8, .aload 0, 1, 0), (9, .getfield 640, 3, 10), (12, .sipush 0, 1, 0), (13, .putfield 449, 3, 71), (16, .aload 0, 1, 0), (17, .sipush 0, 1, 0), (18, .putfield 653, 3, 363), (21, .aload 0, 1, 0), (22, .sipush 0, 1, 0), (23, .putfield 654, 3, 366), (26, .iload 1, 1, 0), (27, .sipush 40, 2, 0), (29, .if_icmp .gt 42, 3, 0), (32, .iload 1, 1, 0), (33, .sipush 2, 1, 0), (34, .irem, 1, 0), (35, .ifCond .ne 42, 3, 0), (38, .sipush 1, 1, 0), (39, .goto 43, 3, 0), (42, .sipush 0, 1, 0), (43, .istore 2, 1, 0), (44, .sipush 0, 1, 0), (45, .istore 3, 1, 0), (46, .iload 2, 1, 0), (47, .ifCond .eq 149, 3, 0), (50, .iload 3, 1, 0), (51, .sipush 1, 1, 0), (52, .iadd, 1, 0), (53, .iload 1, 1, 0), (54, .if_icmp .ge 149, 3, 0), (57, .aload 0, 1, 0), (58, .getfield 640, 3, 10), (61, .getfield 448, 3, 369), (64, .iload 3, 1, 0), (65, .iaload, 1, 0), (66, .istore 4, 2, 0), (68, .aload 0, 1, 0), (69, .getfield 640, 3, 10), (72, .getfield 448, 3, 369), (75, .iload 3, 1, 0), (76, .sipush 1, 1, 0), (77, .iadd, 1, 0), (78, .iaload, 1, 0), (79, .istore 5, 2, 0), (81, .iload 4, 2, 0), (83, .aload 0, 1, 0), (84, .getfield 642, 3, 23), (87, .getfield 384, 3, 142), (90, .getfield 512, 3, 357), (93, .if_icmp .ge 106, 3, 0), (96, .iload 5, 2, 0), (98, .sipush 1, 1, 0), (99, .if_icmp .gt 106, 3, 0), (102, .sipush 1, 1, 0), (103, .goto 107, 3, 0), (106, .sipush 0, 1, 0), (107, .istore 2, 1, 0), (108, .iload 5, 2, 0), (110, .sipush 1, 1, 0), (111, .if_icmp .ne 130, 3, 0), (114, .aload 0, 1, 0), (115, .dup, 1, 0), (116, .getfield 653, 3, 363), (119, .sipush 1, 1, 0), (120, .iload 4, 2, 0), (122, .ishl, 1, 0), (123, .ior, 1, 0), (124, .putfield 653, 3, 363), (127, .goto 143, 3, 0), (130, .aload 0, 1, 0), (131, .dup, 1, 0), (132, .getfield 654, 3, 366), (135, .sipush 1, 1, 0), (136, .iload 4, 2, 0), (138, .ishl, 1, 0), (139, .ior, 1, 0), (140, .putfield 654, 3, 366), (143, .iinc 3 2, 3, 0), (146, .goto 46, 3, 0), (149, .iload 2, 1, 0), (150, .ifCond .ne 164, 3, 0), (153, .instanceof 11, 3, 127), (164, .return_, 1, 0)]
/-- SinglesPast.isTold(I)Z -/
def tO_136 : List (Nat × av_O) := [(0, .iload 1, 1, 0), (1, .aload 0, 1, 0), (2, .getfield 653, 3, 363), (5, .iand, 1, 0), (6, .aload 0, 1, 0), (7, .getfield 653, 3, 363), (10, .if_icmp .ne 26, 3, 0), (13, .iload 1, 1, 0), (14, .aload 0, 1, 0), (15, .getfield 654, 3, 366), (18, .iand, 1, 0), (19, .ifCond .ne 26, 3, 0), (22, .sipush 1, 1, 0), (23, .goto 27, 3, 0), (26, .sipush 0, 1, 0), (27, .ireturn, 1, 0)]
/-- SinglesPast.comesAbout(LSinglesPast$Worlds;I)Z -/
def tO_137 : List (Nat × av_O) := [(0, .aload 1, 1, 0), (1, .iload 2, 1, 0), (2, .invokevirtual 92, 3, 324), (5, .istore 3, 1, 0), (6, .iload 3, 1, 0), (7, .sipush (-1), 1, 0), (8, .if_icmp .eq 28, 3, 0), (11, .aload 0, 1, 0), (12, .aload 1, 1, 0), (13, .getfield 576, 3, 312), (16, .iload 3, 1, 0), (17, .iaload, 1, 0), (18, .invokevirtual 136, 3, 374), (21, .ifCond .eq 28, 3, 0), (24, .sipush 1, 1, 0), (25, .goto 29, 3, 0), (28, .sipush 0, 1, 0), (29, .ireturn, 1, 0)]
/-- SinglesPast.fits(LSinglesPast$Worlds;I)Z -/
def tO_138 : List (Nat × av_O) := [(0, .iload 2, 1, 0), (1, .aload 1, 1, 0), (2, .getfield 577, 3, 378), (5, .iload 2, 1, 0), (6, .iaload, 1, 0), (7, .sipush (-1), 1, 0), (8, .ixor, 1, 0), (9, .iand, 1, 0), (10, .ifCond .ne 30, 3, 0), (13, .aload 0, 1, 0), (14, .aload 1, 1, 0), (15, .getfield 576, 3, 312), (18, .iload 2, 1, 0), (19, .iaload, 1, 0), (20, .invokevirtual 136, 3, 374), (23, .ifCond .eq 30, 3, 0), (26, .sipush 1, 1, 0), (27, .goto 31, 3, 0), (30, .sipush 0, 1, 0), (31, .ireturn, 1, 0)]
/-- SinglesPast.countFitting(LSinglesPast$Worlds;I)I -/
def tO_139 : List (Nat × av_O) := [(0, .sipush 0, 1, 0), (1, .istore 3, 1, 0), (2, .sipush 0, 1, 0), (3, .istore 4, 2, 0), (5, .iload 4, 2, 0), (7, .aload 0, 1, 0), (8, .getfield 642, 3, 23), (11, .invokevirtual 36, 3, 315), (14, .if_icmp .gt 67, 3, 0), (17, .iload 2, 1, 0), (18, .sipush (-1), 1, 0), (19, .if_icmp .eq 36, 3, 0), (22, .aload 1, 1, 0), (23, .getfield 576, 3, 312), (26, .iload 4, 2, 0), (28, .iaload, 1, 0), (29, .iload 2, 1, 0), (30, .ishr, 1, 0), (31, .sipush 1, 1, 0), (32, .iand, 1, 0), (33, .ifCond .eq 40, 3, 0), (36, .sipush 1, 1, 0), (37, .goto 41, 3, 0), (40, .sipush 0, 1, 0), (41, .istore 5, 2, 0), (43, .iload 5, 2, 0), (45, .ifCond .eq 61, 3, 0), (48, .aload 0, 1, 0), (49, .aload 1, 1, 0), (50, .iload 4, 2, 0), (52, .invokevirtual 138, 3, 350), (55, .ifCond .eq 61, 3, 0), (58, .iinc 3 1, 3, 0), (61, .iinc 4 1, 3, 0), (64, .goto 5, 3, 0), (67, .iload 3, 1, 0), (68, .ireturn, 1, 0)]
/-- SinglesPast.hangs(I)I -/
def tO_140 : List (Nat × av_O) := [(0, .aload 0, 1, 0), (1, .iload 1, 1, 0), (2, .invokevirtual 180, 3, 139), (5, .aload 0, 1, 0), (6, .iload 1, 1, 0), (7, .invokevirtual 142, 3, 381), (10, .ireturn, 1, 0)]
/-- SinglesPast.key()I -/
def tO_141 : List (Nat × av_O) := [(0, .sipush (-1), 1, 0), (1, .istore 1, 1, 0), (2, .sipush (-1), 1, 0), (3, .istore 2, 1, 0), (4, .sipush 0, 1, 0), (5, .istore 3, 1, 0), (6, .iload 3, 1, 0), (7, .aload 0, 1, 0), (8, .getfield 642, 3, 23), (11, .getfield 384, 3, 142), (14, .getfield 512, 3, 357), (17, .if_icmp .ge 47, 3, 0), (20, .aload 0, 1, 0), (21, .iload 3, 1, 0), (22, .invokevirtual 142, 3, 381), (25, .invokestatic 357, 3, 227), (28, .istore 4, 2, 0), (30, .iload 4, 2, 0), (32, .iload 2, 1, 0), (33, .if_icmp .le 41, 3, 0), (36, .iload 4, 2, 0), (38, .istore 2, 1, 0), (39, .iload 3, 1, 0), (40, .istore 1, 1, 0), (41, .iinc 3 1, 3, 0), (44, .goto 6, 3, 0), (47, .iload 1, 1, 0), (48, .ireturn, 1, 0)]
/-- SinglesPast.hangingOn(I)I -/
def tO_142 : List (Nat × av_O) := [(0, .aload 0, 1, 0), (1, .getfield 642, 3, 23), (4, .invokevirtual 37, 3, 240), (7, .istore 2, 1, 0), (8, .aload 0, 1, 0), (9, .getfield 650, 3, 54), (12, .aload 0, 1, 0), (13, .getfield 642, 3, 23), (16, .aload 0, 1, 0), (17, .getfield 642, 3, 23), (20, .getfield 384, 3, 142), (23, .getfield 513, 3, 152), (26, .sipush 1, 1, 0), (27, .iload 1, 1, 0), (28, .ishl, 1, 0), (29, .ixor, 1, 0), (30, .iload 2, 1, 0), (31, .invokevirtual 84, 3, 339), (34, .aload 0, 1, 0), (35, .getfield 650, 3, 54), (38, .iload 2, 1, 0), (39, .invokevirtual 93, 3, 330), (42, .aload 0, 1, 0), (43, .invokevirtual 129, 3, 164), (46, .ixor, 1, 0), (47, .ireturn, 1, 0)]
/-- SinglesPast.loose()I -/
def tO_143 : List (Nat × av_O) := [(0, .aload 0, 1, 0), (1, .getfield 642, 3, 23), (4, .getfield 384, 3, 142), (7, .invokevirtual 80, 3, 384), (10, .ireturn, 1, 0)]
/-- SinglesPast.kills(II)Z -/
def tO_144 : List (Nat × av_O) := [(0, .aload 0, 1, 0), (1, .iload 1, 1, 0), (2, .iload 2, 1, 0), (3, .invokevirtual 182, 3, 290), (6, .aload 0, 1, 0), (7, .invokevirtual 128, 3, 308), (10, .getfield 577, 3, 378), (13, .sipush 1, 1, 0), (14, .iload 1, 1, 0), (15, .ishl, 1, 0), (16, .iaload, 1, 0), (17, .iload 2, 1, 0), (18, .ishr, 1, 0), (19, .sipush 1, 1, 0), (20, .iand, 1, 0), (21, .ifCond .ne 28, 3, 0), (24, .sipush 1, 1, 0), (25, .goto 29, 3, 0), (28, .sipush 0, 1, 0), (29, .ireturn, 1, 0)]
/-- SinglesPast.colours(I)I -/
def tO_145 : List (Nat × av_O) := [(0, .iload 1, 1, 0), (1, .sipush (-1), 1, 0), (2, .if_icmp .eq 10, 3, 0), (5, .aload 0, 1, 0), (6, .iload 1, 1, 0), (7, .invokevirtual 181, 3, 180), (10, .aload 0, 1, 0), (11, .getfield 651, 3, 60), (14, .aload 0, 1, 0), (15, .getfield 642, 3, 23), (18, .aload 0, 1, 0), (19, .getfield 642, 3, 23), (22, .invokevirtual 38, 3, 387), (25, .invokevirtual 26, 3, 390), (28, .istore 2, 1, 0), (29, .iload 1, 1, 0), (30, .sipush (-1), 1, 0), (31, .if_icmp .ne 38, 3, 0), (34, .iload 2, 1, 0), (35, .goto 47, 3, 0), (38, .aload 0, 1, 0), (39, .getfield 651, 3, 60), (42, .getfield 320, 3, 394), (45, .iload 1, 1, 0), (46, .iaload, 1, 0), (47, .ireturn, 1, 0)]
/-- SinglesPast.clash()I -/
def tO_146 : List (Nat × av_O) := [(0, .aload 0, 1, 0), (1, .getfield 642, 3, 23), (4, .invokevirtual 38, 3, 387), (7, .istore 1, 1, 0), (8, .sipush (-1), 1, 0), (9, .istore 2, 1, 0), (10, .sipush 1, 1, 0), (11, .istore 3, 1, 0), (12, .iload 3, 1, 0), (13, .sipush 64, 2, 0), (15, .if_icmp .ge 69, 3, 0), (18, .iload 3, 1, 0), (19, .iload 1, 1, 0), (20, .sipush (-1), 1, 0), (21, .ixor, 1, 0), (22, .iand, 1, 0), (23, .ifCond .ne 30, 3, 0), (26, .sipush 1, 1, 0), (27, .goto 31, 3, 0), (30, .sipush 0, 1, 0), (31, .istore 4, 2, 0), (33, .iload 4, 2, 0), (35, .ifCond .eq 63, 3, 0), (38, .iload 3, 1, 0), (39, .iload 2, 1, 0), (40, .invokestatic 131, 3, 327), (43, .ifCond .eq 63, 3, 0), (46, .aload 0, 1, 0), (47, .getfield 651, 3, 60), (50, .aload 0, 1, 0), (51, .getfield 642, 3, 23), (54, .iload 3, 1, 0), (55, .invokevirtual 27, 3, 397), (58, .ifCond .ne 63, 3, 0), (61, .iload 3, 1, 0), (62, .istore 2, 1, 0), (63, .iinc 3 1, 3, 0), (66, .goto 12, 3, 0), (69, .iload 2, 1, 0), (70, .ireturn, 1, 0)]
/-- SinglesPast.price(IZ)I -/
def tO_147 : List (Nat × av_O) := [(0, .iload 1, 1, 0), (1, .invokestatic 179, 3, 280), (4, .aload 0, 1, 0), (5, .iload 1, 1, 0), (6, .invokevirtual 149, 3, 401), (9, .istore 3, 1, 0), (10, .iload 2, 1, 0), (11, .ifCond .eq 23, 3, 0), (14, .aload 0, 1, 0), (15, .iload 1, 1, 0), (16, .iload 3, 1, 0), (17, .invokevirtual 150, 3, 404), (20, .goto 24, 3, 0), (23, .iload 3, 1, 0), (24, .ireturn, 1, 0)]
/-- SinglesPast.dearest()I -/
def tO_148 : List (Nat × av_O) := [(0, .sipush 0, 1, 0), (1, .istore 1, 1, 0), (2, .sipush (-1), 1, 0), (3, .istore 2, 1, 0), (4, .sipush 0, 1, 0), (5, .istore 3, 1, 0), (6, .iload 3, 1, 0), (7, .sipush 16, 2, 0), (9, .if_icmp .ge 41, 3, 0), (12, .aload 0, 1, 0), (13, .iload 3, 1, 0), (14, .aload 0, 1, 0), (15, .iload 3, 1, 0), (16, .invokevirtual 149, 3, 401), (19, .invokevirtual 150, 3, 404), (22, .istore 4, 2, 0), (24, .iload 4, 2, 0), (26, .iload 2, 1, 0), (27, .if_icmp .le 35, 3, 0), (30, .iload 4, 2, 0), (32, .istore 2, 1, 0), (33, .iload 3, 1, 0), (34, .istore 1, 1, 0), (35, .iinc 3 1, 3, 0), (38, .goto 6, 3, 0), (41, .iload 1, 1, 0), (42, .ireturn, 1, 0)]
/-- SinglesPast.bestPrice(I)I -/
def tO_149 : List (Nat × av_O) := [(0, .sipush 0, 1, 0), (1, .istore 2, 1, 0), (2, .sipush 0, 1, 0), (3, .istore 3, 1, 0), (4, .sipush 0, 1, 0), (5, .istore 4, 2, 0), (7, .iload 4, 2, 0), (9, .aload 0, 1, 0), (10, .getfield 642, 3, 23), (13, .getfield 385, 3, 333), (16, .if_icmp .ge 70, 3, 0), (19, .aload 0, 1, 0), (20, .getfield 642, 3, 23), (23, .getfield 390, 3, 195), (26, .iload 4, 2, 0), (28, .iaload, 1, 0), (29, .istore 5, 2, 0), (31, .aload 0, 1, 0), (32, .iload 1, 1, 0), (33, .iload 5, 2, 0), (35, .invokevirtual 150, 3, 404), (38, .istore 6, 2, 0), (40, .iload 6, 2, 0), (42, .iload 3, 1, 0), (43, .if_icmp .gt 58, 3, 0), (46, .iload 6, 2, 0), (48, .iload 3, 1, 0), (49, .if_icmp .ne 64, 3, 0), (52, .iload 5, 2, 0), (54, .iload 2, 1, 0), (55, .if_icmp .ge 64, 3, 0), (58, .iload 6, 2, 0), (60, .istore 3, 1, 0), (61, .iload 5, 2, 0), (63, .istore 2, 1, 0), (64, .iinc 4 1, 3, 0), (67, .goto 7, 3, 0), (70, .iload 2, 1, 0), (71, .ireturn, 1, 0)]
/-- SinglesPast.earningsAt(II)I -/
def tO_150 : List (Nat × av_O) := [(0, .sipush 0, 1, 0), (1, .istore 3, 1, 0), (2, .sipush 0, 1, 0), (3, .istore 4, 2, 0), (5, .iload 4, 2, 0), (7, .aload 0, 1, 0), (8, .getfield 642, 3, 23), (11, .getfield 385, 3, 333), (14, .if_icmp .ge 80, 3, 0), (17, .aload 0, 1, 0), (18, .getfield 642, 3, 23), (21, .getfield 393, 3, 204), (24, .iload 4, 2, 0), (26, .iaload, 1, 0), (27, .sipush (-1), 1, 0), (28, .if_icmp .ne 49, 3, 0), (31, .aload 0, 1, 0), (32, .getfield 642, 3, 23), (35, .getfield 386, 3, 183), (38, .iload 4, 2, 0), (40, .iaload, 1, 0), (41, .iload 1, 1, 0), (42, .if_icmp .ne 49, 3, 0), (45, .sipush 1, 1, 0), (46, .goto 50, 3, 0), (49, .sipush 0, 1, 0), (50, .istore 5, 2, 0), (52, .iload 5, 2, 0), (54, .ifCond .eq 74, 3, 0), (57, .aload 0, 1, 0), (58, .getfield 642, 3, 23), (61, .getfield 390, 3, 195), (64, .iload 4, 2, 0), (66, .iaload, 1, 0), (67, .iload 2, 1, 0), (68, .if_icmp .lt 74, 3, 0), (71, .iinc 3 1, 3, 0), (74, .iinc 4 1, 3, 0), (77, .goto 5, 3, 0), (80, .iload 2, 1, 0), (81, .iload 3, 1, 0), (82, .imul, 1, 0), (83, .ireturn, 1, 0)]
/-- SinglesPast.crowd(I)I -/
def tO_151 : List (Nat × av_O) := [(0, .iload 1, 1, 0), (1, .invokestatic 179, 3, 280), (4, .sipush 0, 1, 0), (5, .istore 2, 1, 0), (6, .sipush 0, 1, 0), (7, .istore 3, 1, 0), (8, .iload 3, 1, 0), (9, .aload 0, 1, 0), (10, .getfield 642, 3, 23), (13, .getfield 385, 3, 333), (16, .if_icmp .ge 44, 3, 0), (19, .aload 0, 1, 0), (20, .getfield 642, 3, 23), (23, .getfield 386, 3, 183), (26, .iload 3, 1, 0), (27, .iaload, 1, 0), (28, .iload 1, 1, 0), (29, .if_icmp .ne 38, 3, 0), (32, .iload 2, 1, 0), (33, .sipush 1, 1, 0), (34, .iload 3, 1, 0), (35, .ishl, 1, 0), (36, .ior, 1, 0), (37, .istore 2, 1, 0), (38, .iinc 3 1, 3, 0), (41, .goto 8, 3, 0), (44, .iload 2, 1, 0), (45, .ireturn, 1, 0)]
/-- SinglesPast.asks(IZ)I -/
def tO_152 : List (Nat × av_O) := [(0, .iload 1, 1, 0), (1, .sipush 65535, 3, 297), (4, .iand, 1, 0), (5, .istore 3, 1, 0), (6, .iload 3, 1, 0), (7, .invokestatic 357, 3, 227), (10, .invokestatic 153, 3, 407), (13, .istore 4, 2, 0), (15, .iload 2, 1, 0), (16, .ifCond .ne 22, 3, 0), (19, .iload 4, 2, 0), (21, .ireturn, 1, 0), (22, .iload 4, 2, 0), (24, .ifCond .ne 31, 3, 0), (27, .sipush (-1), 1, 0), (28, .goto 41, 3, 0), (31, .iload 3, 1, 0), (32, .sipush 1, 1, 0), (33, .iload 4, 2, 0), (35, .sipush 1, 1, 0), (36, .isub, 1, 0), (37, .ishl, 1, 0), (38, .invokestatic 154, 3, 410), (41, .ireturn, 1, 0)]
/-- SinglesPast.questionsFor(I)I -/
def tO_153 : List (Nat × av_O) := [(0, .sipush 0, 1, 0), (1, .istore 1, 1, 0), (2, .sipush 1, 1, 0), (3, .istore 2, 1, 0), (4, .iload 2, 1, 0), (5, .iload 0, 1, 0), (6, .if_icmp .ge 25, 3, 0), (9, .iload 2, 1, 0), (10, .sipush 16, 2, 0), (12, .if_icmp .ge 25, 3, 0), (15, .iinc 1 1, 3, 0), (18, .iload 2, 1, 0), (19, .sipush 2, 1, 0), (20, .imul, 1, 0), (21, .istore 2, 1, 0), (22, .goto 4, 3, 0), (25, .iload 1, 1, 0), (26, .ireturn, 1, 0)]
/-- SinglesPast.openingOf(II)I -/
def tO_154 : List (Nat × av_O) := [(0, .iload 0, 1, 0), (1, .invokestatic 357, 3, 227), (4, .istore 2, 1, 0), (5, .sipush 0, 1, 0), (6, .istore 3, 1, 0), (7, .iload 3, 1, 0), (8, .sipush 15, 2, 0), (10, .if_icmp .ge 47, 3, 0), (13, .iload 0, 1, 0), (14, .sipush 2, 1, 0), (15, .iload 3, 1, 0), (16, .ishl, 1, 0), (17, .sipush 1, 1, 0), (18, .isub, 1, 0), (19, .iand, 1, 0), (20, .invokestatic 357, 3, 227), (23, .istore 4, 2, 0), (25, .iload 4, 2, 0), (27, .iload 1, 1, 0), (28, .if_icmp .gt 41, 3, 0), (31, .iload 2, 1, 0), (32, .iload 4, 2, 0), (34, .isub, 1, 0), (35, .iload 1, 1, 0), (36, .if_icmp .gt 41, 3, 0), (39, .iload 3, 1, 0), (40, .ireturn, 1, 0), (41, .iinc 3 1, 3, 0), (44, .goto 7, 3, 0), (47, .sipush (-1), 1, 0), (48, .ireturn, 1, 0)]
/-- SinglesPast.pick(IZ)I -/
def tO_155 : List (Nat × av_O) := [(0, .iload 1, 1, 0), (1, .sipush 1, 1, 0), (2, .if_icmp .lt 11, 3, 0), (5, .iload 1, 1, 0), (6, .sipush 10, 2, 0), (8, .if_icmp .le 22, 3, 0), (11, .instanceof 12, 3, 127), (22, .sipush 0, 1, 0), (23, .istore 3, 1, 0), (24, .sipush (-1), 1, 0), (25, .istore 4, 2, 0), (27, .sipush 0, 1, 0), (28, .istore 5, 2, 0), (30, .iload 5, 2, 0), (32, .iload 1, 1, 0), (33, .if_icmp .ge 64, 3, 0), (36, .iload 1, 1, 0), (37, .iload 5, 2, 0), (39, .invokestatic 156, 3, 415), (42, .istore 6, 2, 0), (44, .iload 6, 2, 0), (46, .iload 4, 2, 0), (48, .if_icmp .le 58, 3, 0), (51, .iload 6, 2, 0), (53, .istore 4, 2, 0), (55, .iload 5, 2, 0), (57, .istore 3, 1, 0), (58, .iinc 5 1, 3, 0), (61, .goto 30, 3, 0), (64, .iload 2, 1, 0), (65, .ifCond .eq 73, 3, 0), (68, .iload 4, 2, 0), (70, .goto 74, 3, 0), (73, .iload 3, 1, 0), (74, .ireturn, 1, 0)]
/-- SinglesPast.ordersThatPickBest(II)I -/
def tO_156 : List (Nat × av_O) := [(0, .sipush 1, 1, 0), (1, .istore 2, 1, 0), (2, .sipush 2, 1, 0), (3, .istore 3, 1, 0), (4, .iload 3, 1, 0), (5, .iload 0, 1, 0), (6, .if_icmp .ge 19, 3, 0), (9, .iload 2, 1, 0), (10, .iload 3, 1, 0), (11, .imul, 1, 0), (12, .istore 2, 1, 0), (13, .iinc 3 1, 3, 0), (16, .goto 4, 3, 0), (19, .iload 1, 1, 0), (20, .ifCond .ne 25, 3, 0), (23, .iload 2, 1, 0), (24, .ireturn, 1, 0), (25, .sipush 0, 1, 0), (26, .istore 3, 1, 0), (27, .sipush 1, 1, 0), (28, .iload 1, 1, 0), (29, .invokedynamic 4, 3, 360), (32, .istore 4, 2, 0), (34, .iload 4, 2, 0), (36, .iload 0, 1, 0), (37, .if_icmp .ge 55, 3, 0), (40, .iload 3, 1, 0), (41, .iload 2, 1, 0), (42, .iload 4, 2, 0), (44, .idiv, 1, 0), (45, .iload 1, 1, 0), (46, .imul, 1, 0), (47, .iadd, 1, 0), (48, .istore 3, 1, 0), (49, .iinc 4 1, 3, 0), (52, .goto 34, 3, 0), (55, .iload 3, 1, 0), (56, .ireturn, 1, 0)]
/-- SinglesPast.pairs(I)I -/
def tO_157 : List (Nat × av_O) := [(0, .iload 1, 1, 0), (1, .sipush (-1), 1, 0), (2, .if_icmp .eq 10, 3, 0), (5, .aload 0, 1, 0), (6, .iload 1, 1, 0), (7, .invokevirtual 181, 3, 180), (10, .aload 0, 1, 0), (11, .getfield 652, 3, 67), (14, .aload 0, 1, 0), (15, .getfield 642, 3, 23), (18, .aload 0, 1, 0), (19, .getfield 642, 3, 23), (22, .invokevirtual 38, 3, 387), (25, .invokevirtual 23, 3, 418), (28, .istore 2, 1, 0), (29, .iload 1, 1, 0), (30, .sipush (-1), 1, 0), (31, .if_icmp .ne 38, 3, 0), (34, .iload 2, 1, 0), (35, .goto 47, 3, 0), (38, .aload 0, 1, 0), (39, .getfield 652, 3, 67), (42, .getfield 256, 3, 421), (45, .iload 1, 1, 0), (46, .iaload, 1, 0), (47, .ireturn, 1, 0)]
/-- SinglesPast.rests(I)I -/
def tO_158 : List (Nat × av_O) := [(0, .aload 0, 1, 0), (1, .iload 1, 1, 0), (2, .invokevirtual 181, 3, 180), (5, .aload 0, 1, 0), (6, .getfield 642, 3, 23), (9, .getfield 391, 3, 198), (12, .iload 1, 1, 0), (13, .iaload, 1, 0), (14, .istore 2, 1, 0), (15, .sipush 0, 1, 0), (16, .istore 3, 1, 0), (17, .sipush 0, 1, 0), (18, .istore 4, 2, 0), (20, .iload 4, 2, 0), (22, .sipush 2, 1, 0), (23, .if_icmp .ge 123, 3, 0), (26, .sipush 0, 1, 0), (27, .istore 5, 2, 0), (29, .iload 5, 2, 0), (31, .sipush 2, 1, 0), (32, .if_icmp .ge 117, 3, 0), (35, .sipush 1, 1, 0), (36, .iload 4, 2, 0), (38, .isub, 1, 0), (39, .iload 5, 2, 0), (41, .iload 2, 1, 0), (42, .invokestatic 159, 3, 422), (45, .iload 4, 2, 0), (47, .iload 5, 2, 0), (49, .iload 2, 1, 0), (50, .invokestatic 159, 3, 422), (53, .if_icmp .gt 60, 3, 0), (56, .sipush 1, 1, 0), (57, .goto 61, 3, 0), (60, .sipush 0, 1, 0), (61, .istore 6, 2, 0), (63, .iload 4, 2, 0), (65, .sipush 1, 1, 0), (66, .iload 5, 2, 0), (68, .isub, 1, 0), (69, .invokestatic 160, 3, 426), (72, .iload 4, 2, 0), (74, .iload 5, 2, 0), (76, .invokestatic 160, 3, 426), (79, .if_icmp .gt 86, 3, 0), (82, .sipush 1, 1, 0), (83, .goto 87, 3, 0), (86, .sipush 0, 1, 0), (87, .istore 7, 2, 0), (89, .iload 6, 2, 0), (91, .ifCond .eq 111, 3, 0), (94, .iload 7, 2, 0), (96, .ifCond .eq 111, 3, 0), (99, .iload 3, 1, 0), (100, .sipush 1, 1, 0), (101, .sipush 2, 1, 0), (102, .iload 4, 2, 0), (104, .imul, 1, 0), (105, .iload 5, 2, 0), (107, .iadd, 1, 0), (108, .ishl, 1, 0), (109, .ior, 1, 0), (110, .istore 3, 1, 0), (111, .iinc 5 1, 3, 0), (114, .goto 29, 3, 0), (117, .iinc 4 1, 3, 0), (120, .goto 20, 3, 0), (123, .iload 3, 1, 0), (124, .ireturn, 1, 0)]
/-- SinglesPast.manHas(III)I -/
def tO_159 : List (Nat × av_O) := [(0, .iload 0, 1, 0), (1, .ifCond .ne 18, 3, 0), (4, .iload 1, 1, 0), (5, .ifCond .ne 15, 3, 0), (8, .iload 2, 1, 0), (9, .sipush 10, 2, 0), (11, .idiv, 1, 0), (12, .goto 17, 3, 0), (15, .sipush (-2), 2, 0), (17, .ireturn, 1, 0), (18, .iload 1, 1, 0), (19, .ifCond .ne 26, 3, 0), (22, .sipush 3, 1, 0), (23, .goto 27, 3, 0), (26, .sipush 0, 1, 0), (27, .ireturn, 1, 0)]
/-- SinglesPast.clerkHas(II)I -/
def tO_160 : List (Nat × av_O) := [(0, .iload 0, 1, 0), (1, .ifCond .ne 14, 3, 0), (4, .iload 1, 1, 0), (5, .ifCond .ne 12, 3, 0), (8, .sipush (-1), 1, 0), (9, .goto 13, 3, 0), (12, .sipush 1, 1, 0), (13, .ireturn, 1, 0), (14, .iload 1, 1, 0), (15, .ifCond .ne 23, 3, 0), (18, .sipush (-2), 2, 0), (20, .goto 24, 3, 0), (23, .sipush 0, 1, 0), (24, .ireturn, 1, 0)]
/-- SinglesPast.odds(II)I -/
def tO_161 : List (Nat × av_O) := [(0, .aload 0, 1, 0), (1, .iload 1, 1, 0), (2, .invokevirtual 181, 3, 180), (5, .iload 2, 1, 0), (6, .ifCond .lt 14, 3, 0), (9, .iload 2, 1, 0), (10, .sipush 4, 1, 0), (11, .if_icmp .le 25, 3, 0), (14, .instanceof 13, 3, 127), (25, .aload 0, 1, 0), (26, .getfield 642, 3, 23), (29, .iload 1, 1, 0), (30, .invokevirtual 47, 3, 207), (33, .istore 3, 1, 0), (34, .iload 3, 1, 0), (35, .sipush (-1), 1, 0), (36, .if_icmp .ne 43, 3, 0), (39, .sipush 0, 1, 0), (40, .goto 66, 3, 0), (43, .sipush 0, 1, 0), (44, .aload 0, 1, 0), (45, .getfield 642, 3, 23), (48, .getfield 391, 3, 198), (51, .iload 1, 1, 0), (52, .iaload, 1, 0), (53, .aload 0, 1, 0), (54, .getfield 642, 3, 23), (57, .iload 1, 1, 0), (58, .iload 3, 1, 0), (59, .invokevirtual 45, 3, 247), (62, .isub, 1, 0), (63, .invokedynamic 4, 3, 360), (66, .istore 4, 2, 0), (68, .sipush 10000, 3, 0), (71, .istore 5, 2, 0), (73, .sipush 0, 1, 0), (74, .istore 6, 2, 0), (76, .iload 6, 2, 0), (78, .iload 2, 1, 0), (79, .if_icmp .ge 101, 3, 0), (82, .iload 5, 2, 0), (84, .sipush 100, 2, 0), (86, .iload 4, 2, 0), (88, .isub, 1, 0), (89, .imul, 1, 0), (90, .sipush 100, 2, 0), (92, .idiv, 1, 0), (93, .istore 5, 2, 0), (95, .iinc 6 1, 3, 0), (98, .goto 76, 3, 0), (101, .iload 5, 2, 0), (103, .ireturn, 1, 0)]
/-- SinglesPast.brave()I -/
def tO_162 : List (Nat × av_O) := [(0, .sipush (-1), 1, 0), (1, .istore 1, 1, 0), (2, .sipush (-1), 1, 0), (3, .istore 2, 1, 0), (4, .sipush 0, 1, 0), (5, .istore 3, 1, 0), (6, .iload 3, 1, 0), (7, .aload 0, 1, 0), (8, .getfield 642, 3, 23), (11, .getfield 385, 3, 333), (14, .if_icmp .ge 61, 3, 0), (17, .aload 0, 1, 0), (18, .getfield 642, 3, 23), (21, .getfield 393, 3, 204), (24, .iload 3, 1, 0), (25, .iaload, 1, 0), (26, .sipush (-1), 1, 0), (27, .if_icmp .ne 55, 3, 0), (30, .aload 0, 1, 0), (31, .getfield 642, 3, 23), (34, .getfield 391, 3, 198), (37, .iload 3, 1, 0), (38, .iaload, 1, 0), (39, .iload 2, 1, 0), (40, .if_icmp .le 55, 3, 0), (43, .aload 0, 1, 0), (44, .getfield 642, 3, 23), (47, .getfield 391, 3, 198), (50, .iload 3, 1, 0), (51, .iaload, 1, 0), (52, .istore 2, 1, 0), (53, .iload 3, 1, 0), (54, .istore 1, 1, 0), (55, .iinc 3 1, 3, 0), (58, .goto 6, 3, 0), (61, .iload 1, 1, 0), (62, .ireturn, 1, 0)]
/-- SinglesPast.gone()I -/
def tO_163 : List (Nat × av_O) := [(0, .aload 0, 1, 0), (1, .getfield 642, 3, 23), (4, .invokevirtual 37, 3, 240), (7, .ireturn, 1, 0)]
/-- SinglesPast.unborn()I -/
def tO_164 : List (Nat × av_O) := [(0, .aload 0, 1, 0), (1, .getfield 642, 3, 23), (4, .invokevirtual 36, 3, 315), (7, .aload 0, 1, 0), (8, .getfield 642, 3, 23), (11, .aload 0, 1, 0), (12, .invokevirtual 129, 3, 164), (15, .invokevirtual 43, 3, 431), (18, .sipush (-1), 1, 0), (19, .ixor, 1, 0), (20, .iand, 1, 0), (21, .ireturn, 1, 0)]
/-- SinglesPast.twins()I -/
def tO_165 : List (Nat × av_O) := [(0, .sipush 0, 1, 0), (1, .istore 1, 1, 0), (2, .sipush 0, 1, 0), (3, .istore 2, 1, 0), (4, .iload 2, 1, 0), (5, .aload 0, 1, 0), (6, .getfield 642, 3, 23), (9, .getfield 385, 3, 333), (12, .if_icmp .ge 87, 3, 0), (15, .iload 2, 1, 0), (16, .sipush 1, 1, 0), (17, .iadd, 1, 0), (18, .istore 3, 1, 0), (19, .iload 3, 1, 0), (20, .aload 0, 1, 0), (21, .getfield 642, 3, 23), (24, .getfield 385, 3, 333), (27, .if_icmp .ge 81, 3, 0), (30, .aload 0, 1, 0), (31, .getfield 642, 3, 23), (34, .getfield 386, 3, 183), (37, .iload 2, 1, 0), (38, .iaload, 1, 0), (39, .aload 0, 1, 0), (40, .getfield 642, 3, 23), (43, .getfield 386, 3, 183), (46, .iload 3, 1, 0), (47, .iaload, 1, 0), (48, .if_icmp .ne 75, 3, 0), (51, .aload 0, 1, 0), (52, .getfield 642, 3, 23), (55, .getfield 387, 3, 186), (58, .iload 2, 1, 0), (59, .iaload, 1, 0), (60, .aload 0, 1, 0), (61, .getfield 642, 3, 23), (64, .getfield 387, 3, 186), (67, .iload 3, 1, 0), (68, .iaload, 1, 0), (69, .if_icmp .ne 75, 3, 0), (72, .iinc 1 1, 3, 0), (75, .iinc 3 1, 3, 0), (78, .goto 19, 3, 0), (81, .iinc 2 1, 3, 0), (84, .goto 4, 3, 0), (87, .iload 1, 1, 0), (88, .ireturn, 1, 0)]
/-- SinglesPast.worth()I -/
def tO_166 : List (Nat × av_O) := [(0, .aload 0, 1, 0), (1, .getfield 642, 3, 23), (4, .getfield 384, 3, 142), (7, .aload 0, 1, 0), (8, .invokevirtual 129, 3, 164), (11, .invokevirtual 79, 3, 336), (14, .ireturn, 1, 0)]
/-- SinglesPast.empty()I -/
def tO_167 : List (Nat × av_O) := [(0, .sipush 0, 1, 0), (1, .istore 1, 1, 0), (2, .sipush 0, 1, 0), (3, .istore 2, 1, 0), (4, .iload 2, 1, 0), (5, .aload 0, 1, 0), (6, .getfield 642, 3, 23), (9, .getfield 394, 3, 434), (12, .if_icmp .ge 38, 3, 0), (15, .aload 0, 1, 0), (16, .getfield 642, 3, 23), (19, .iload 2, 1, 0), (20, .invokevirtual 39, 3, 224), (23, .ifCond .ne 32, 3, 0), (26, .iload 1, 1, 0), (27, .sipush 1, 1, 0), (28, .iload 2, 1, 0), (29, .ishl, 1, 0), (30, .ior, 1, 0), (31, .istore 1, 1, 0), (32, .iinc 2 1, 3, 0), (35, .goto 4, 3, 0), (38, .iload 1, 1, 0), (39, .ireturn, 1, 0)]
/-- SinglesPast.never()I -/
def tO_168 : List (Nat × av_O) := [(0, .sipush 65535, 3, 297), (3, .aload 0, 1, 0), (4, .getfield 642, 3, 23), (7, .invokevirtual 40, 3, 237), (10, .sipush (-1), 1, 0), (11, .ixor, 1, 0), (12, .iand, 1, 0), (13, .ireturn, 1, 0)]
/-- SinglesPast.ahead(II)I -/
def tO_169 : List (Nat × av_O) := [(0, .aload 0, 1, 0), (1, .iload 1, 1, 0), (2, .invokevirtual 181, 3, 180), (5, .iload 2, 1, 0), (6, .invokestatic 185, 3, 437), (9, .aload 0, 1, 0), (10, .getfield 645, 3, 30), (13, .aload 0, 1, 0), (14, .getfield 642, 3, 23), (17, .invokevirtual 31, 3, 78), (20, .aload 0, 1, 0), (21, .getfield 645, 3, 30), (24, .iload 2, 1, 0), (25, .sipush 0, 1, 0), (26, .invokevirtual 50, 3, 259), (29, .pop, 1, 0), (30, .aload 0, 1, 0), (31, .getfield 645, 3, 30), (34, .getfield 393, 3, 204), (37, .iload 1, 1, 0), (38, .iaload, 1, 0), (39, .ireturn, 1, 0)]
/-- SinglesPast.trial(IZ)I -/
def tO_170 : List (Nat × av_O) := [(0, .iload 1, 1, 0), (1, .invokestatic 185, 3, 437), (4, .aload 0, 1, 0), (5, .getfield 645, 3, 30), (8, .aload 0, 1, 0), (9, .getfield 642, 3, 23), (12, .invokevirtual 31, 3, 78), (15, .aload 0, 1, 0), (16, .getfield 645, 3, 30), (19, .iload 1, 1, 0), (20, .sipush 1, 1, 0), (21, .invokevirtual 50, 3, 259), (24, .pop, 1, 0), (25, .aload 0, 1, 0), (26, .getfield 645, 3, 30), (29, .invokevirtual 37, 3, 240), (32, .istore 3, 1, 0), (33, .iload 2, 1, 0), (34, .ifCond .eq 48, 3, 0), (37, .aload 0, 1, 0), (38, .invokevirtual 128, 3, 308), (41, .iload 3, 1, 0), (42, .invokevirtual 91, 3, 321), (45, .goto 49, 3, 0), (48, .iload 3, 1, 0), (49, .ireturn, 1, 0)]
/-- SinglesPast.span(IZ)I -/
def tO_171 : List (Nat × av_O) := [(0, .iload 1, 1, 0), (1, .invokestatic 185, 3, 437), (4, .sipush 6, 2, 0), (6, .istore 3, 1, 0), (7, .sipush 0, 1, 0), (8, .istore 4, 2, 0), (10, .sipush 1, 1, 0), (11, .istore 5, 2, 0), (13, .iload 5, 2, 0), (15, .sipush 6, 2, 0), (17, .if_icmp .gt 84, 3, 0), (20, .aload 0, 1, 0), (21, .getfield 645, 3, 30), (24, .aload 0, 1, 0), (25, .getfield 642, 3, 23), (28, .invokevirtual 31, 3, 78), (31, .aload 0, 1, 0), (32, .getfield 645, 3, 30), (35, .iload 5, 2, 0), (37, .putfield 400, 3, 440), (40, .aload 0, 1, 0), (41, .getfield 645, 3, 30), (44, .iload 1, 1, 0), (45, .sipush 1, 1, 0), (46, .invokevirtual 50, 3, 259), (49, .pop, 1, 0), (50, .aload 0, 1, 0), (51, .getfield 645, 3, 30), (54, .invokevirtual 37, 3, 240), (57, .invokestatic 357, 3, 227), (60, .istore 6, 2, 0), (62, .iload 3, 1, 0), (63, .iload 6, 2, 0), (65, .invokedynamic 5, 3, 273), (68, .istore 3, 1, 0), (69, .iload 4, 2, 0), (71, .iload 6, 2, 0), (73, .invokedynamic 4, 3, 360), (76, .istore 4, 2, 0), (78, .iinc 5 1, 3, 0), (81, .goto 13, 3, 0), (84, .iload 2, 1, 0), (85, .ifCond .eq 93, 3, 0), (88, .iload 4, 2, 0), (90, .goto 94, 3, 0), (93, .iload 3, 1, 0), (94, .ireturn, 1, 0)]
/-- SinglesPast.led(IZ)I -/
def tO_172 : List (Nat × av_O) := [(0, .aload 0, 1, 0), (1, .iload 1, 1, 0), (2, .invokevirtual 181, 3, 180), (5, .iload 2, 1, 0), (6, .ifCond .eq 23, 3, 0), (9, .aload 0, 1, 0), (10, .getfield 642, 3, 23), (13, .getfield 401, 3, 443), (16, .iload 1, 1, 0), (17, .invokevirtual 17, 3, 447), (20, .goto 34, 3, 0), (23, .aload 0, 1, 0), (24, .getfield 642, 3, 23), (27, .getfield 401, 3, 443), (30, .iload 1, 1, 0), (31, .invokevirtual 16, 3, 452), (34, .ireturn, 1, 0)]
/-- SinglesPast.log(II)I -/
def tO_173 : List (Nat × av_O) := [(0, .iload 2, 1, 0), (1, .ifCond .lt 9, 3, 0), (4, .iload 2, 1, 0), (5, .sipush 4, 1, 0), (6, .if_icmp .lt 20, 3, 0), (9, .instanceof 14, 3, 175), (20, .aload 0, 1, 0), (21, .getfield 642, 3, 23), (24, .getfield 401, 3, 443), (27, .iload 1, 1, 0), (28, .iload 2, 1, 0), (29, .invokevirtual 15, 3, 457), (32, .ireturn, 1, 0)]
/-- SinglesPast.seed(I)I -/
def tO_174 : List (Nat × av_O) := [(0, .aload 0, 1, 0), (1, .getfield 642, 3, 23), (4, .getfield 400, 3, 440), (7, .istore 2, 1, 0), (8, .aload 0, 1, 0), (9, .getfield 642, 3, 23), (12, .iload 1, 1, 0), (13, .putfield 400, 3, 440), (16, .iload 2, 1, 0), (17, .ireturn, 1, 0)]
/-- SinglesPast.undo()Z -/
def tO_175 : List (Nat × av_O) := [(0, .aload 0, 1, 0), (1, .getfield 646, 3, 36), (4, .aload 0, 1, 0), (5, .getfield 642, 3, 23), (8, .invokevirtual 20, 3, 460), (11, .istore 1, 1, 0), (12, .aload 0, 1, 0), (13, .aload 0, 1, 0), (14, .getfield 649, 3, 135), (17, .ifCond .eq 28, 3, 0), (20, .iload 1, 1, 0), (21, .ifCond .ne 28, 3, 0), (24, .sipush 1, 1, 0), (25, .goto 29, 3, 0), (28, .sipush 0, 1, 0), (29, .putfield 649, 3, 135), (32, .iload 1, 1, 0), (33, .ireturn, 1, 0)]
/-- SinglesPast.image()V -/
def tO_176 : List (Nat × av_O) := [(0, .aload 0, 1, 0), (1, .getfield 643, 3, 27), (4, .aload 0, 1, 0), (5, .getfield 642, 3, 23), (8, .invokevirtual 31, 3, 78), (11, .aload 0, 1, 0), (12, .sipush 1, 1, 0), (13, .putfield 644, 3, 464), (16, .return_, 1, 0)]
/-- SinglesPast.back()Z -/
def tO_177 : List (Nat × av_O) := [(0, .aload 0, 1, 0), (1, .getfield 644, 3, 464), (4, .ifCond .ne 9, 3, 0), (7, .sipush 0, 1, 0), (8, .ireturn, 1, 0), (9, .aload 0, 1, 0), (10, .getfield 642, 3, 23), (13, .aload 0, 1, 0), (14, .getfield 643, 3, 27), (17, .invokevirtual 31, 3, 78), (20, .aload 0, 1, 0), (21, .invokevirtual 100, 3, 105), (24, .sipush 1, 1, 0), (25, .ireturn, 1, 0)]
/-- SinglesPast.count(I)I -/
def tO_178 : List (Nat × av_O) := [(0, .iload 1, 1, 0), (1, .tableswitch 162 0 9 #[56, 67, 75, 83, 91, 116, 124, 135, 143, 154], 55, 0), (56, .aload 0, 1, 0), (57, .getfield 642, 3, 23), (60, .getfield 384, 3, 142), (63, .getfield 512, 3, 357), (66, .ireturn, 1, 0), (67, .aload 0, 1, 0), (68, .getfield 642, 3, 23), (71, .getfield 385, 3, 333), (74, .ireturn, 1, 0), (75, .aload 0, 1, 0), (76, .getfield 642, 3, 23), (79, .getfield 394, 3, 434), (82, .ireturn, 1, 0), (83, .aload 0, 1, 0), (84, .getfield 642, 3, 23), (87, .getfield 397, 3, 95), (90, .ireturn, 1, 0), (91, .aload 0, 1, 0), (92, .getfield 642, 3, 23), (95, .getfield 398, 3, 115), (98, .ifnonnull 105, 3, 0), (101, .sipush (-1), 1, 0), (102, .goto 115, 3, 0), (105, .aload 0, 1, 0), (106, .getfield 642, 3, 23), (109, .getfield 398, 3, 115), (112, .getfield 0, 3, 119), (115, .ireturn, 1, 0), (116, .aload 0, 1, 0), (117, .getfield 642, 3, 23), (120, .getfield 399, 3, 467), (123, .ireturn, 1, 0), (124, .aload 0, 1, 0), (125, .getfield 642, 3, 23), (128, .invokevirtual 37, 3, 240), (131, .invokestatic 357, 3, 227), (134, .ireturn, 1, 0), (135, .aload 0, 1, 0), (136, .getfield 642, 3, 23), (139, .invokevirtual 41, 3, 470), (142, .ireturn, 1, 0), (143, .aload 0, 1, 0), (144, .getfield 642, 3, 23), (147, .getfield 401, 3, 443), (150, .getfield 128, 3, 473), (153, .ireturn, 1, 0), (154, .aload 0, 1, 0), (155, .getfield 646, 3, 36), (158, .getfield 192, 3, 476), (161, .ireturn, 1, 0), (162, .sipush (-1), 1, 0), (163, .ireturn, 1, 0)]
/-- SinglesPast.needStop(I)V -/
def tO_179 : List (Nat × av_O) := [(0, .iload 0, 1, 0), (1, .ifCond .lt 10, 3, 0), (4, .iload 0, 1, 0), (5, .sipush 16, 2, 0), (7, .if_icmp .lt 21, 3, 0), (10, .instanceof 15, 3, 479), (21, .return_, 1, 0)]
/-- SinglesPast.needThing(I)V -/
def tO_180 : List (Nat × av_O) := [(0, .iload 1, 1, 0), (1, .ifCond .lt 18, 3, 0), (4, .iload 1, 1, 0), (5, .aload 0, 1, 0), (6, .getfield 642, 3, 23), (9, .getfield 384, 3, 142), (12, .getfield 512, 3, 357), (15, .if_icmp .lt 29, 3, 0), (18, .instanceof 16, 3, 479), (29, .return_, 1, 0)]
/-- SinglesPast.needGoer(I)V -/
def tO_181 : List (Nat × av_O) := [(0, .iload 1, 1, 0), (1, .ifCond .lt 15, 3, 0), (4, .iload 1, 1, 0), (5, .aload 0, 1, 0), (6, .getfield 642, 3, 23), (9, .getfield 385, 3, 333), (12, .if_icmp .lt 26, 3, 0), (15, .instanceof 17, 3, 479), (26, .return_, 1, 0)]
/-- SinglesPast.needTwoGoers(II)V -/
def tO_182 : List (Nat × av_O) := [(0, .aload 0, 1, 0), (1, .iload 1, 1, 0), (2, .invokevirtual 181, 3, 180), (5, .aload 0, 1, 0), (6, .iload 2, 1, 0), (7, .invokevirtual 181, 3, 180), (10, .iload 1, 1, 0), (11, .iload 2, 1, 0), (12, .if_icmp .ne 26, 3, 0), (15, .instanceof 18, 3, 127), (26, .return_, 1, 0)]
/-- SinglesPast.needTrain(I)V -/
def tO_183 : List (Nat × av_O) := [(0, .iload 1, 1, 0), (1, .ifCond .lt 15, 3, 0), (4, .iload 1, 1, 0), (5, .aload 0, 1, 0), (6, .getfield 642, 3, 23), (9, .getfield 394, 3, 434), (12, .if_icmp .lt 26, 3, 0), (15, .instanceof 19, 3, 479), (26, .return_, 1, 0)]
/-- SinglesPast.needNotGone(I)V -/
def tO_184 : List (Nat × av_O) := [(0, .aload 0, 1, 0), (1, .getfield 642, 3, 23), (4, .getfield 393, 3, 204), (7, .iload 1, 1, 0), (8, .iaload, 1, 0), (9, .sipush (-1), 1, 0), (10, .if_icmp .eq 24, 3, 0), (13, .instanceof 20, 3, 263), (24, .return_, 1, 0)]
/-- SinglesPast.needTrialDays(I)V -/
def tO_185 : List (Nat × av_O) := [(0, .iload 0, 1, 0), (1, .ifCond .lt 10, 3, 0), (4, .iload 0, 1, 0), (5, .sipush 60, 2, 0), (7, .if_icmp .le 21, 3, 0), (10, .instanceof 21, 3, 127), (21, .return_, 1, 0)]
/-- SinglesPastModel.thrown()I -/
def tO_186 : List (Nat × av_O) := [(0, .aload 0, 1, 0), (1, .getfield 704, 3, 3), (4, .ireturn, 1, 0)]
/-- SinglesPastModel.throwsIf(ZI)Z -/
def tO_187 : List (Nat × av_O) := [(0, .iload 1, 1, 0), (1, .ifCond .eq 9, 3, 0), (4, .aload 0, 1, 0), (5, .iload 2, 1, 0), (6, .putfield 704, 3, 3), (9, .iload 1, 1, 0), (10, .ireturn, 1, 0)]
/-- SinglesPastModel.in(III)Z -/
def tO_188 : List (Nat × av_O) := [(0, .iload 0, 1, 0), (1, .iload 1, 1, 0), (2, .if_icmp .lt 14, 3, 0), (5, .iload 0, 1, 0), (6, .iload 2, 1, 0), (7, .if_icmp .gt 14, 3, 0), (10, .sipush 1, 1, 0), (11, .goto 15, 3, 0), (14, .sipush 0, 1, 0), (15, .ireturn, 1, 0)]
/-- SinglesPastModel.has(II)Z -/
def tO_189 : List (Nat × av_O) := [(0, .iload 0, 1, 0), (1, .iload 1, 1, 0), (2, .ishr, 1, 0), (3, .sipush 1, 1, 0), (4, .iand, 1, 0), (5, .sipush 1, 1, 0), (6, .if_icmp .ne 13, 3, 0), (9, .sipush 1, 1, 0), (10, .goto 14, 3, 0), (13, .sipush 0, 1, 0), (14, .ireturn, 1, 0)]
/-- SinglesPastModel.<init>()V -/
def tO_190 : List (Nat × av_O) := [(0, .aload 0, 1, 0), (1, .monitorenter, 3, 7), (4, .aload 0, 1, 0), (5, .sipush 2050, 3, 0), (8, .newarray .int, 2, 0), (10, .putfield 705, 3, 13), (13, .aload 0, 1, 0), (14, .sipush 1201, 3, 0), (17, .newarray .int, 2, 0), (19, .putfield 706, 3, 17), (22, .aload 0, 1, 0), (23, .sipush 1201, 3, 0), (26, .newarray .int, 2, 0), (28, .putfield 707, 3, 20), (31, .aload 0, 1, 0), (32, .sipush 352, 3, 0), (35, .newarray .int, 2, 0), (37, .putfield 708, 3, 23), (40, .aload 0, 1, 0), (41, .sipush 4224, 3, 0), (44, .newarray .int, 2, 0), (46, .putfield 709, 3, 26), (49, .aload 0, 1, 0), (50, .sipush 400, 3, 0), (53, .newarray .byte, 2, 0), (55, .putfield 712, 3, 29), (58, .aload 0, 1, 0), (59, .sipush (-1), 1, 0), (60, .putfield 718, 3, 33), (63, .aload 0, 1, 0), (64, .sipush 5, 1, 0), (65, .newarray .int, 2, 0), (67, .putfield 719, 3, 36), (70, .aload 0, 1, 0), (71, .sipush 400, 3, 0), (74, .newarray .int, 2, 0), (76, .putfield 721, 3, 39), (79, .aload 0, 1, 0), (80, .sipush 8, 2, 0), (82, .newarray .int, 2, 0), (84, .putfield 723, 3, 42), (87, .aload 0, 1, 0), (88, .sipush 6, 2, 0), (90, .newarray .int, 2, 0), (92, .putfield 724, 3, 45), (95, .aload 0, 1, 0), (96, .sipush 6, 2, 0), (98, .newarray .int, 2, 0), (100, .putfield 725, 3, 48), (103, .aload 0, 1, 0), (104, .sipush 6, 2, 0), (106, .newarray .int, 2, 0), (108, .putfield 726, 3, 51), (111, .aload 0, 1, 0), (112, .sipush 64, 2, 0), (114, .newarray .int, 2, 0), (116, .putfield 727, 3, 54), (119, .aload 0, 1, 0), (120, .getfield 705, 3, 13), (123, .sipush 7, 2, 0), (125, .sipush 1, 1, 0), (126, .iastore, 1, 0), (127, .return_, 1, 0)]
/-- SinglesPastModel.image()V -/
def tO_191 : List (Nat × av_O) := [(0, .aload 0, 1, 0), (1, .sipush 0, 1, 0), (2, .putfield 704, 3, 3), (5, .sipush 0, 1, 0), (6, .istore 1, 1, 0), (7, .iload 1, 1, 0), (8, .sipush 1201, 3, 0), (11, .if_icmp .ge 32, 3, 0), (14, .aload 0, 1, 0), (15, .getfield 706, 3, 17), (18, .iload 1, 1, 0), (19, .aload 0, 1, 0), (20, .getfield 705, 3, 13), (23, .iload 1, 1, 0), (24, .iaload, 1, 0), (25, .iastore, 1, 0), (26, .iinc 1 1, 3, 0), (29, .goto 7, 3, 0), (32, .aload 0, 1, 0), (33, .sipush 1, 1, 0), (34, .putfield 710, 3, 57), (37, .return_, 1, 0)]
/-- SinglesPastModel.back()Z -/
def tO_192 : List (Nat × av_O) := [(0, .aload 0, 1, 0), (1, .sipush 0, 1, 0), (2, .putfield 704, 3, 3), (5, .aload 0, 1, 0), (6, .getfield 710, 3, 57), (9, .ifCond .ne 14, 3, 0), (12, .sipush 0, 1, 0), (13, .ireturn, 1, 0), (14, .sipush 0, 1, 0), (15, .istore 1, 1, 0), (16, .iload 1, 1, 0), (17, .sipush 1201, 3, 0), (20, .if_icmp .ge 41, 3, 0), (23, .aload 0, 1, 0), (24, .getfield 705, 3, 13), (27, .iload 1, 1, 0), (28, .aload 0, 1, 0), (29, .getfield 706, 3, 17), (32, .iload 1, 1, 0), (33, .iaload, 1, 0), (34, .iastore, 1, 0), (35, .iinc 1 1, 3, 0), (38, .goto 16, 3, 0), (41, .aload 0, 1, 0), (42, .sipush 0, 1, 0), (43, .putfield 711, 3, 61), (46, .sipush 1, 1, 0), (47, .ireturn, 1, 0)]
/-- SinglesPastModel.remembers()V -/
def tO_193 : List (Nat × av_O) := [(0, .aload 0, 1, 0), (1, .getfield 711, 3, 61), (4, .sipush 12, 2, 0), (6, .if_icmp .ne 43, 3, 0), (9, .sipush 0, 1, 0), (10, .istore 1, 1, 0), (11, .iload 1, 1, 0), (12, .sipush 3872, 3, 0), (15, .if_icmp .ge 40, 3, 0), (18, .aload 0, 1, 0), (19, .getfield 709, 3, 26), (22, .iload 1, 1, 0), (23, .aload 0, 1, 0), (24, .getfield 709, 3, 26), (27, .iload 1, 1, 0), (28, .sipush 352, 3, 0), (31, .iadd, 1, 0), (32, .iaload, 1, 0), (33, .iastore, 1, 0), (34, .iinc 1 1, 3, 0), (37, .goto 11, 3, 0), (40, .goto 53, 3, 0), (43, .aload 0, 1, 0), (44, .dup, 1, 0), (45, .getfield 711, 3, 61), (48, .sipush 1, 1, 0), (49, .iadd, 1, 0), (50, .putfield 711, 3, 61), (53, .sipush 0, 1, 0), (54, .istore 1, 1, 0), (55, .iload 1, 1, 0), (56, .sipush 352, 3, 0), (59, .if_icmp .ge 91, 3, 0), (62, .aload 0, 1, 0), (63, .getfield 709, 3, 26), (66, .sipush 352, 3, 0), (69, .aload 0, 1, 0), (70, .getfield 711, 3, 61), (73, .sipush 1, 1, 0), (74, .isub, 1, 0), (75, .imul, 1, 0), (76, .iload 1, 1, 0), (77, .iadd, 1, 0), (78, .aload 0, 1, 0), (79, .getfield 705, 3, 13), (82, .iload 1, 1, 0), (83, .iaload, 1, 0), (84, .iastore, 1, 0), (85, .iinc 1 1, 3, 0), (88, .goto 55, 3, 0), (91, .return_, 1, 0)]
/-- SinglesPastModel.undo()Z -/
def tO_194 : List (Nat × av_O) := [(0, .aload 0, 1, 0), (1, .sipush 0, 1, 0), (2, .putfield 704, 3, 3), (5, .aload 0, 1, 0), (6, .getfield 711, 3, 61), (9, .ifCond .ne 14, 3, 0), (12, .sipush 0, 1, 0), (13, .ireturn, 1, 0), (14, .aload 0, 1, 0), (15, .dup, 1, 0), (16, .getfield 711, 3, 61), (19, .sipush 1, 1, 0), (20, .isub, 1, 0), (21, .putfield 711, 3, 61), (24, .sipush 0, 1, 0), (25, .istore 1, 1, 0), (26, .iload 1, 1, 0), (27, .sipush 352, 3, 0), (30, .if_icmp .ge 60, 3, 0), (33, .aload 0, 1, 0), (34, .getfield 705, 3, 13), (37, .iload 1, 1, 0), (38, .aload 0, 1, 0), (39, .getfield 709, 3, 26), (42, .sipush 352, 3, 0), (45, .aload 0, 1, 0), (46, .getfield 711, 3, 61), (49, .imul, 1, 0), (50, .iload 1, 1, 0), (51, .iadd, 1, 0), (52, .iaload, 1, 0), (53, .iastore, 1, 0), (54, .iinc 1 1, 3, 0), (57, .goto 26, 3, 0), (60, .sipush 1, 1, 0), (61, .ireturn, 1, 0)]
/-- SinglesPastModel.keepsAll()V -/
def tO_195 : List (Nat × av_O) := [(0, .sipush 0, 1, 0), (1, .istore 1, 1, 0), (2, .iload 1, 1, 0), (3, .sipush 352, 3, 0), (6, .if_icmp .ge 27, 3, 0), (9, .aload 0, 1, 0), (10, .getfield 708, 3, 23), (13, .iload 1, 1, 0), (14, .aload 0, 1, 0), (15, .getfield 705, 3, 13), (18, .iload 1, 1, 0), (19, .iaload, 1, 0), (20, .iastore, 1, 0), (21, .iinc 1 1, 3, 0), (24, .goto 2, 3, 0), (27, .return_, 1, 0)]
/-- SinglesPastModel.bringsBack()V -/
def tO_196 : List (Nat × av_O) := [(0, .sipush 0, 1, 0), (1, .istore 1, 1, 0), (2, .iload 1, 1, 0), (3, .sipush 352, 3, 0), (6, .if_icmp .ge 27, 3, 0), (9, .aload 0, 1, 0), (10, .getfield 705, 3, 13), (13, .iload 1, 1, 0), (14, .aload 0, 1, 0), (15, .getfield 708, 3, 23), (18, .iload 1, 1, 0), (19, .iaload, 1, 0), (20, .iastore, 1, 0), (21, .iinc 1 1, 3, 0), (24, .goto 2, 3, 0), (27, .return_, 1, 0)]
/-- SinglesPastModel.things()I -/
def tO_197 : List (Nat × av_O) := [(0, .aload 0, 1, 0), (1, .getfield 705, 3, 13), (4, .sipush 0, 1, 0), (5, .iaload, 1, 0), (6, .ireturn, 1, 0)]
/-- SinglesPastModel.goers()I -/
def tO_198 : List (Nat × av_O) := [(0, .aload 0, 1, 0), (1, .getfield 705, 3, 13), (4, .sipush 1, 1, 0), (5, .iaload, 1, 0), (6, .ireturn, 1, 0)]
/-- SinglesPastModel.trains()I -/
def tO_199 : List (Nat × av_O) := [(0, .aload 0, 1, 0), (1, .getfield 705, 3, 13), (4, .sipush 2, 1, 0), (5, .iaload, 1, 0), (6, .ireturn, 1, 0)]
/-- SinglesPastModel.thingAt(II)I -/
def tO_200 : List (Nat × av_O) := [(0, .sipush 8, 2, 0), (2, .sipush 5, 1, 0), (3, .iload 0, 1, 0), (4, .imul, 1, 0), (5, .iadd, 1, 0), (6, .iload 1, 1, 0), (7, .iadd, 1, 0), (8, .ireturn, 1, 0)]
/-- SinglesPastModel.ofThing(II)I -/
def tO_201 : List (Nat × av_O) := [(0, .aload 0, 1, 0), (1, .getfield 705, 3, 13), (4, .iload 1, 1, 0), (5, .iload 2, 1, 0), (6, .invokestatic 200, 3, 64), (9, .iaload, 1, 0), (10, .ireturn, 1, 0)]
/-- SinglesPastModel.at(II)I -/
def tO_202 : List (Nat × av_O) := [(0, .sipush 48, 2, 0), (2, .sipush 9, 2, 0), (4, .iload 0, 1, 0), (5, .imul, 1, 0), (6, .iadd, 1, 0), (7, .iload 1, 1, 0), (8, .iadd, 1, 0), (9, .ireturn, 1, 0)]
/-- SinglesPastModel.of(II)I -/
def tO_203 : List (Nat × av_O) := [(0, .aload 0, 1, 0), (1, .getfield 705, 3, 13), (4, .iload 1, 1, 0), (5, .iload 2, 1, 0), (6, .invokestatic 202, 3, 68), (9, .iaload, 1, 0), (10, .ireturn, 1, 0)]
/-- SinglesPastModel.trainAt(II)I -/
def tO_204 : List (Nat × av_O) := [(0, .sipush 102, 2, 0), (2, .sipush 2, 1, 0), (3, .iload 0, 1, 0), (4, .imul, 1, 0), (5, .iadd, 1, 0), (6, .iload 1, 1, 0), (7, .iadd, 1, 0), (8, .ireturn, 1, 0)]
/-- SinglesPastModel.ofTrain(II)I -/
def tO_205 : List (Nat × av_O) := [(0, .aload 0, 1, 0), (1, .getfield 705, 3, 13), (4, .iload 1, 1, 0), (5, .iload 2, 1, 0), (6, .invokestatic 204, 3, 71), (9, .iaload, 1, 0), (10, .ireturn, 1, 0)]
/-- SinglesPastModel.everybody()I -/
def tO_206 : List (Nat × av_O) := [(0, .sipush 1, 1, 0), (1, .aload 0, 1, 0), (2, .invokevirtual 198, 3, 74), (5, .ishl, 1, 0), (6, .sipush 1, 1, 0), (7, .isub, 1, 0), (8, .ireturn, 1, 0)]
/-- SinglesPastModel.isGone(I)Z -/
def tO_207 : List (Nat × av_O) := [(0, .aload 0, 1, 0), (1, .iload 1, 1, 0), (2, .sipush 7, 2, 0), (4, .invokevirtual 203, 3, 78), (7, .sipush 1, 1, 0), (8, .if_icmp .ne 15, 3, 0), (11, .sipush 1, 1, 0), (12, .goto 16, 3, 0), (15, .sipush 0, 1, 0), (16, .ireturn, 1, 0)]
/-- SinglesPastModel.goneOnes()I -/
def tO_208 : List (Nat × av_O) := [(0, .sipush 0, 1, 0), (1, .istore 1, 1, 0), (2, .sipush 0, 1, 0), (3, .istore 2, 1, 0), (4, .iload 2, 1, 0), (5, .aload 0, 1, 0), (6, .invokevirtual 198, 3, 74), (9, .if_icmp .ge 30, 3, 0), (12, .iload 1, 1, 0), (13, .aload 0, 1, 0), (14, .iload 2, 1, 0), (15, .sipush 7, 2, 0), (17, .invokevirtual 203, 3, 78), (20, .iload 2, 1, 0), (21, .ishl, 1, 0), (22, .ior, 1, 0), (23, .istore 1, 1, 0), (24, .iinc 2 1, 3, 0), (27, .goto 4, 3, 0), (30, .iload 1, 1, 0), (31, .ireturn, 1, 0)]
/-- SinglesPastModel.goneBy(I)I -/
def tO_209 : List (Nat × av_O) := [(0, .sipush 0, 1, 0), (1, .istore 2, 1, 0), (2, .sipush 0, 1, 0), (3, .istore 3, 1, 0), (4, .iload 3, 1, 0), (5, .aload 0, 1, 0), (6, .invokevirtual 198, 3, 74), (9, .if_icmp .ge 45, 3, 0), (12, .iload 2, 1, 0), (13, .aload 0, 1, 0), (14, .iload 3, 1, 0), (15, .invokevirtual 207, 3, 81), (18, .ifCond .eq 36, 3, 0), (21, .aload 0, 1, 0), (22, .iload 3, 1, 0), (23, .sipush 8, 2, 0), (25, .invokevirtual 203, 3, 78), (28, .iload 1, 1, 0), (29, .if_icmp .ne 36, 3, 0), (32, .sipush 1, 1, 0), (33, .goto 37, 3, 0), (36, .sipush 0, 1, 0), (37, .iadd, 1, 0), (38, .istore 2, 1, 0), (39, .iinc 3 1, 3, 0), (42, .goto 4, 3, 0), (45, .iload 2, 1, 0), (46, .ireturn, 1, 0)]
/-- SinglesPastModel.noThing(I)Z -/
def tO_210 : List (Nat × av_O) := [(0, .iload 1, 1, 0), (1, .sipush 0, 1, 0), (2, .aload 0, 1, 0), (3, .invokevirtual 197, 3, 85), (6, .sipush 1, 1, 0), (7, .isub, 1, 0), (8, .invokestatic 188, 3, 88), (11, .ifCond .ne 18, 3, 0), (14, .sipush 1, 1, 0), (15, .goto 19, 3, 0), (18, .sipush 0, 1, 0), (19, .ireturn, 1, 0)]
/-- SinglesPastModel.noGoer(I)Z -/
def tO_211 : List (Nat × av_O) := [(0, .iload 1, 1, 0), (1, .sipush 0, 1, 0), (2, .aload 0, 1, 0), (3, .invokevirtual 198, 3, 74), (6, .sipush 1, 1, 0), (7, .isub, 1, 0), (8, .invokestatic 188, 3, 88), (11, .ifCond .ne 18, 3, 0), (14, .sipush 1, 1, 0), (15, .goto 19, 3, 0), (18, .sipush 0, 1, 0), (19, .ireturn, 1, 0)]
/-- SinglesPastModel.noTrain(I)Z -/
def tO_212 : List (Nat × av_O) := [(0, .iload 1, 1, 0), (1, .sipush 0, 1, 0), (2, .aload 0, 1, 0), (3, .invokevirtual 199, 3, 92), (6, .sipush 1, 1, 0), (7, .isub, 1, 0), (8, .invokestatic 188, 3, 88), (11, .ifCond .ne 18, 3, 0), (14, .sipush 1, 1, 0), (15, .goto 19, 3, 0), (18, .sipush 0, 1, 0), (19, .ireturn, 1, 0)]
/-- SinglesPastModel.noStop(I)Z -/
def tO_213 : List (Nat × av_O) := [(0, .iload 0, 1, 0), (1, .sipush 0, 1, 0), (2, .sipush 15, 2, 0), (4, .invokestatic 188, 3, 88), (7, .ifCond .ne 14, 3, 0), (10, .sipush 1, 1, 0), (11, .goto 15, 3, 0), (14, .sipush 0, 1, 0), (15, .ireturn, 1, 0)]
/-- SinglesPastModel.drawn(I)I -/
def tO_214 : List (Nat × av_O) := [(0, .aload 0, 1, 0), (1, .getfield 705, 3, 13), (4, .sipush 7, 2, 0), (6, .sipush 1103515245, 2, 95), (8, .aload 0, 1, 0), (9, .getfield 705, 3, 13), (12, .sipush 7, 2, 0), (14, .iaload, 1, 0), (15, .imul, 1, 0), (16, .sipush 12345, 3, 0), (19, .iadd, 1, 0), (20, .iastore, 1, 0), (21, .aload 0, 1, 0), (22, .getfield 705, 3, 13), (25, .sipush 7, 2, 0), (27, .iaload, 1, 0), (28, .sipush 16, 2, 0), (30, .ishr, 1, 0), (31, .sipush 32767, 3, 0), (34, .iand, 1, 0), (35, .iload 1, 1, 0), (36, .irem, 1, 0), (37, .ireturn, 1, 0)]
/-- SinglesPastModel.feed(IIIII)I -/
def tO_215 : List (Nat × av_O) := [(0, .aload 0, 1, 0), (1, .sipush 0, 1, 0), (2, .putfield 704, 3, 3), (5, .aload 0, 1, 0), (6, .getfield 713, 3, 96), (9, .sipush 20, 2, 0), (11, .iadd, 1, 0), (12, .sipush 400, 3, 0), (15, .if_icmp .le 20, 3, 0), (18, .sipush (-1), 1, 0), (19, .ireturn, 1, 0), (20, .aload 0, 1, 0), (21, .getfield 719, 3, 36), (24, .sipush 0, 1, 0), (25, .iload 1, 1, 0), (26, .iastore, 1, 0), (27, .aload 0, 1, 0), (28, .getfield 719, 3, 36), (31, .sipush 1, 1, 0), (32, .iload 2, 1, 0), (33, .iastore, 1, 0), (34, .aload 0, 1, 0), (35, .getfield 719, 3, 36), (38, .sipush 2, 1, 0), (39, .iload 3, 1, 0), (40, .iastore, 1, 0), (41, .aload 0, 1, 0), (42, .getfield 719, 3, 36), (45, .sipush 3, 1, 0), (46, .iload 4, 2, 0), (48, .iastore, 1, 0), (49, .aload 0, 1, 0), (50, .getfield 719, 3, 36), (53, .sipush 4, 1, 0), (54, .iload 5, 2, 0), (56, .iastore, 1, 0), (57, .sipush 0, 1, 0), (58, .istore 6, 2, 0), (60, .iload 6, 2, 0), (62, .sipush 20, 2, 0), (64, .if_icmp .ge 106, 3, 0), (67, .aload 0, 1, 0), (68, .getfield 712, 3, 29), (71, .aload 0, 1, 0), (72, .getfield 713, 3, 96), (75, .iload 6, 2, 0), (77, .iadd, 1, 0), (78, .aload 0, 1, 0), (79, .getfield 719, 3, 36), (82, .iload 6, 2, 0), (84, .sipush 4, 1, 0), (85, .idiv, 1, 0), (86, .iaload, 1, 0), (87, .sipush 24, 2, 0), (89, .sipush 8, 2, 0), (91, .iload 6, 2, 0), (93, .sipush 4, 1, 0), (94, .irem, 1, 0), (95, .imul, 1, 0), (96, .isub, 1, 0), (97, .ishr, 1, 0), (98, .i2b, 1, 0), (99, .bastore, 1, 0), (100, .iinc 6 1, 3, 0), (103, .goto 60, 3, 0), (106, .aload 0, 1, 0), (107, .dup, 1, 0), (108, .getfield 713, 3, 96), (111, .sipush 20, 2, 0), (113, .iadd, 1, 0), (114, .putfield 713, 3, 96), (117, .aload 0, 1, 0), (118, .getfield 713, 3, 96), (121, .ireturn, 1, 0)]
/-- SinglesPastModel.end(I)Z -/
def tO_216 : List (Nat × av_O) := [(0, .aload 0, 1, 0), (1, .sipush 0, 1, 0), (2, .putfield 704, 3, 3), (5, .iload 1, 1, 0), (6, .ifCond .lt 17, 3, 0), (9, .iload 1, 1, 0), (10, .aload 0, 1, 0), (11, .getfield 713, 3, 96), (14, .if_icmp .le 19, 3, 0), (17, .sipush 0, 1, 0), (18, .ireturn, 1, 0), (19, .aload 0, 1, 0), (20, .iload 1, 1, 0), (21, .putfield 713, 3, 96), (24, .sipush 1, 1, 0), (25, .ireturn, 1, 0)]
/-- SinglesPastModel.isAt(II)Z -/
def tO_217 : List (Nat × av_O) := [(0, .aload 0, 1, 0), (1, .getfield 714, 3, 99), (4, .aload 0, 1, 0), (5, .getfield 715, 3, 102), (8, .if_icmp .ge 41, 3, 0), (11, .aload 0, 1, 0), (12, .getfield 712, 3, 29), (15, .aload 0, 1, 0), (16, .getfield 714, 3, 99), (19, .baload, 1, 0), (20, .iload 1, 1, 0), (21, .if_icmp .lt 41, 3, 0), (24, .aload 0, 1, 0), (25, .getfield 712, 3, 29), (28, .aload 0, 1, 0), (29, .getfield 714, 3, 99), (32, .baload, 1, 0), (33, .iload 2, 1, 0), (34, .if_icmp .gt 41, 3, 0), (37, .sipush 1, 1, 0), (38, .goto 42, 3, 0), (41, .sipush 0, 1, 0), (42, .ireturn, 1, 0)]
/-- SinglesPastModel.blanks()V -/
def tO_218 : List (Nat × av_O) := [(0, .aload 0, 1, 0), (1, .sipush 32, 2, 0), (3, .sipush 32, 2, 0), (5, .invokevirtual 217, 3, 105), (8, .ifCond .eq 24, 3, 0), (11, .aload 0, 1, 0), (12, .dup, 1, 0), (13, .getfield 714, 3, 99), (16, .sipush 1, 1, 0), (17, .iadd, 1, 0), (18, .putfield 714, 3, 99), (21, .goto 0, 3, 0), (24, .aload 0, 1, 0), (25, .aload 0, 1, 0), (26, .getfield 714, 3, 99), (29, .putfield 716, 3, 109), (32, .return_, 1, 0)]
/-- SinglesPastModel.letters()V -/
def tO_219 : List (Nat × av_O) := [(0, .aload 0, 1, 0), (1, .invokevirtual 218, 3, 112), (4, .aload 0, 1, 0), (5, .sipush 97, 2, 0), (7, .sipush 122, 2, 0), (9, .invokevirtual 217, 3, 105), (12, .ifCond .eq 28, 3, 0), (15, .aload 0, 1, 0), (16, .dup, 1, 0), (17, .getfield 714, 3, 99), (20, .sipush 1, 1, 0), (21, .iadd, 1, 0), (22, .putfield 714, 3, 99), (25, .goto 4, 3, 0), (28, .return_, 1, 0)]
/-- SinglesPastModel.isWord(Ljava/lang/String;)Z -/
def tO_220 : List (Nat × av_O) := [(0, .aload 0, 1, 0), (1, .getfield 714, 3, 99), (4, .aload 0, 1, 0), (5, .getfield 716, 3, 109), (8, .isub, 1, 0), (9, .aload 1, 1, 0), (10, .invokedynamic 1, 3, 115), (13, .if_icmp .ne 20, 3, 0), (16, .sipush 1, 1, 0), (17, .goto 21, 3, 0), (20, .sipush 0, 1, 0), (21, .istore 2, 1, 0), (22, .sipush 0, 1, 0), (23, .istore 3, 1, 0), (24, .iload 2, 1, 0), (25, .ifCond .eq 67, 3, 0), (28, .iload 3, 1, 0), (29, .aload 1, 1, 0), (30, .invokedynamic 1, 3, 115), (33, .if_icmp .ge 67, 3, 0), (36, .aload 0, 1, 0), (37, .getfield 712, 3, 29), (40, .aload 0, 1, 0), (41, .getfield 716, 3, 109), (44, .iload 3, 1, 0), (45, .iadd, 1, 0), (46, .baload, 1, 0), (47, .aload 1, 1, 0), (48, .iload 3, 1, 0), (49, .invokedynamic 2, 3, 120), (52, .if_icmp .ne 59, 3, 0), (55, .sipush 1, 1, 0), (56, .goto 60, 3, 0), (59, .sipush 0, 1, 0), (60, .istore 2, 1, 0), (61, .iinc 3 1, 3, 0), (64, .goto 24, 3, 0), (67, .iload 2, 1, 0), (68, .ireturn, 1, 0)]
/-- SinglesPastModel.passes(Ljava/lang/String;)Z -/
def tO_221 : List (Nat × av_O) := [(0, .aload 0, 1, 0), (1, .invokevirtual 219, 3, 124), (4, .aload 0, 1, 0), (5, .aload 1, 1, 0), (6, .invokevirtual 220, 3, 127), (9, .ifCond .eq 14, 3, 0), (12, .sipush 1, 1, 0), (13, .ireturn, 1, 0), (14, .aload 0, 1, 0), (15, .aload 0, 1, 0), (16, .getfield 716, 3, 109), (19, .putfield 714, 3, 99), (22, .sipush 0, 1, 0), (23, .ireturn, 1, 0)]
/-- SinglesPastModel.sign(I)Z -/
def tO_222 : List (Nat × av_O) := [(0, .aload 0, 1, 0), (1, .invokevirtual 218, 3, 112), (4, .aload 0, 1, 0), (5, .iload 1, 1, 0), (6, .iload 1, 1, 0), (7, .invokevirtual 217, 3, 105), (10, .ifCond .ne 15, 3, 0), (13, .sipush 0, 1, 0), (14, .ireturn, 1, 0), (15, .aload 0, 1, 0), (16, .dup, 1, 0), (17, .getfield 714, 3, 99), (20, .sipush 1, 1, 0), (21, .iadd, 1, 0), (22, .putfield 714, 3, 99), (25, .sipush 1, 1, 0), (26, .ireturn, 1, 0)]
/-- SinglesPastModel.number(II)I -/
def tO_223 : List (Nat × av_O) := [(0, .aload 0, 1, 0), (1, .invokevirtual 218, 3, 112), (4, .sipush 0, 1, 0), (5, .istore 3, 1, 0), (6, .aload 0, 1, 0), (7, .sipush 48, 2, 0), (9, .sipush 57, 2, 0), (11, .invokevirtual 217, 3, 105), (14, .ifCond .eq 65, 3, 0), (17, .aload 0, 1, 0), (18, .getfield 714, 3, 99), (21, .aload 0, 1, 0), (22, .getfield 716, 3, 109), (25, .isub, 1, 0), (26, .sipush 3, 1, 0), (27, .if_icmp .ge 50, 3, 0), (30, .sipush 10, 2, 0), (32, .iload 3, 1, 0), (33, .imul, 1, 0), (34, .aload 0, 1, 0), (35, .getfield 712, 3, 29), (38, .aload 0, 1, 0), (39, .getfield 714, 3, 99), (42, .baload, 1, 0), (43, .iadd, 1, 0), (44, .sipush 48, 2, 0), (46, .isub, 1, 0), (47, .goto 51, 3, 0), (50, .iload 3, 1, 0), (51, .istore 3, 1, 0), (52, .aload 0, 1, 0), (53, .dup, 1, 0), (54, .getfield 714, 3, 99), (57, .sipush 1, 1, 0), (58, .iadd, 1, 0), (59, .putfield 714, 3, 99), (62, .goto 6, 3, 0), (65, .aload 0, 1, 0), (66, .getfield 714, 3, 99), (69, .aload 0, 1, 0), (70, .getfield 716, 3, 109), (73, .if_icmp .eq 99, 3, 0), (76, .aload 0, 1, 0), (77, .getfield 714, 3, 99), (80, .aload 0, 1, 0), (81, .getfield 716, 3, 109), (84, .isub, 1, 0), (85, .sipush 3, 1, 0), (86, .if_icmp .gt 99, 3, 0), (89, .iload 3, 1, 0), (90, .iload 1, 1, 0), (91, .if_icmp .lt 99, 3, 0), (94, .iload 3, 1, 0), (95, .iload 2, 1, 0), (96, .if_icmp .le 103, 3, 0), (99, .sipush (-1), 1, 0), (100, .goto 104, 3, 0), (103, .iload 3, 1, 0), (104, .ireturn, 1, 0)]
/-- SinglesPastModel.behind(Ljava/lang/String;II)I -/
def tO_224 : List (Nat × av_O) := [(0, .aload 0, 1, 0), (1, .invokevirtual 219, 3, 124), (4, .aload 0, 1, 0), (5, .aload 1, 1, 0), (6, .invokevirtual 220, 3, 127), (9, .ifCond .eq 21, 3, 0), (12, .aload 0, 1, 0), (13, .iload 2, 1, 0), (14, .iload 3, 1, 0), (15, .invokevirtual 223, 3, 131), (18, .goto 22, 3, 0), (21, .sipush (-1), 1, 0), (22, .ireturn, 1, 0)]
/-- SinglesPastModel.told(Ljava/lang/String;II)I -/
def tO_225 : List (Nat × av_O) := [(0, .aload 0, 1, 0), (1, .aload 1, 1, 0), (2, .invokevirtual 221, 3, 134), (5, .ifCond .ne 10, 3, 0), (8, .iload 3, 1, 0), (9, .ireturn, 1, 0), (10, .aload 0, 1, 0), (11, .sipush 0, 1, 0), (12, .iload 2, 1, 0), (13, .invokevirtual 223, 3, 131), (16, .istore 4, 2, 0), (18, .iload 4, 2, 0), (20, .ifCond .ge 28, 3, 0), (23, .sipush 1000000, 2, 137), (25, .goto 30, 3, 0), (28, .iload 4, 2, 0), (30, .ireturn, 1, 0)]
/-- SinglesPastModel.fault()I -/
def tO_226 : List (Nat × av_O) := [(0, .aload 0, 1, 0), (1, .sipush 0, 1, 0), (2, .putfield 704, 3, 3), (5, .aload 0, 1, 0), (6, .getfield 718, 3, 33), (9, .ireturn, 1, 0)]
/-- SinglesPastModel.uses()V -/
def tO_227 : List (Nat × av_O) := [(0, .aload 0, 1, 0), (1, .sipush 0, 1, 0), (2, .putfield 704, 3, 3), (5, .aload 0, 1, 0), (6, .aload 0, 1, 0), (7, .getfield 713, 3, 96), (10, .putfield 715, 3, 102), (13, .aload 0, 1, 0), (14, .sipush 0, 1, 0), (15, .putfield 713, 3, 96), (18, .aload 0, 1, 0), (19, .sipush 0, 1, 0), (20, .putfield 714, 3, 99), (23, .return_, 1, 0)]
/-- SinglesPastModel.readNumber(III)Z -/
def tO_228 : List (Nat × av_O) := [(0, .aload 0, 1, 0), (1, .iload 2, 1, 0), (2, .iload 3, 1, 0), (3, .invokevirtual 223, 3, 131), (6, .istore 4, 2, 0), (8, .aload 0, 1, 0), (9, .getfield 705, 3, 13), (12, .iload 1, 1, 0), (13, .iload 4, 2, 0), (15, .ifCond .ge 27, 3, 0), (18, .aload 0, 1, 0), (19, .getfield 705, 3, 13), (22, .iload 1, 1, 0), (23, .iaload, 1, 0), (24, .goto 29, 3, 0), (27, .iload 4, 2, 0), (29, .iastore, 1, 0), (30, .iload 4, 2, 0), (32, .ifCond .lt 39, 3, 0), (35, .sipush 1, 1, 0), (36, .goto 40, 3, 0), (39, .sipush 0, 1, 0), (40, .ireturn, 1, 0)]
/-- SinglesPastModel.readThing()Z -/
def tO_229 : List (Nat × av_O) := [(0, .aload 0, 1, 0), (1, .invokevirtual 197, 3, 85), (4, .istore 1, 1, 0), (5, .iload 1, 1, 0), (6, .sipush 8, 2, 0), (8, .if_icmp .ne 13, 3, 0), (11, .sipush 0, 1, 0), (12, .ireturn, 1, 0), (13, .aload 0, 1, 0), (14, .ldc 42, 2, 138), (16, .sipush 0, 1, 0), (17, .sipush 15, 2, 0), (19, .invokevirtual 224, 3, 139), (22, .istore 2, 1, 0), (23, .iload 2, 1, 0), (24, .ifCond .ge 29, 3, 0), (27, .sipush 0, 1, 0), (28, .ireturn, 1, 0), (29, .aload 0, 1, 0), (30, .ldc 43, 2, 143), (32, .invokevirtual 221, 3, 134), (35, .ifCond .eq 42, 3, 0), (38, .sipush 1, 1, 0), (39, .goto 43, 3, 0), (42, .sipush 0, 1, 0), (43, .istore 3, 1, 0), (44, .aload 0, 1, 0), (45, .ldc 44, 2, 145), (47, .sipush 99, 2, 0), (49, .sipush 1, 1, 0), (50, .invokevirtual 225, 3, 147), (53, .istore 4, 2, 0), (55, .iload 4, 2, 0), (57, .sipush 1000000, 2, 137), (59, .if_icmp .ne 64, 3, 0), (62, .sipush 0, 1, 0), (63, .ireturn, 1, 0), (64, .aload 0, 1, 0), (65, .getfield 705, 3, 13), (68, .iload 1, 1, 0), (69, .sipush 0, 1, 0), (70, .invokestatic 200, 3, 64), (73, .iload 2, 1, 0), (74, .iastore, 1, 0), (75, .aload 0, 1, 0), (76, .getfield 705, 3, 13), (79, .iload 1, 1, 0), (80, .sipush 1, 1, 0), (81, .invokestatic 200, 3, 64), (84, .iload 3, 1, 0), (85, .iastore, 1, 0), (86, .aload 0, 1, 0), (87, .getfield 705, 3, 13), (90, .iload 1, 1, 0), (91, .sipush 2, 1, 0), (92, .invokestatic 200, 3, 64), (95, .iload 4, 2, 0), (97, .iastore, 1, 0), (98, .aload 0, 1, 0), (99, .getfield 705, 3, 13), (102, .iload 1, 1, 0), (103, .sipush 3, 1, 0), (104, .invokestatic 200, 3, 64), (107, .sipush 0, 1, 0), (108, .iastore, 1, 0), (109, .aload 0, 1, 0), (110, .getfield 705, 3, 13), (113, .iload 1, 1, 0), (114, .sipush 4, 1, 0), (115, .invokestatic 200, 3, 64), (118, .sipush 0, 1, 0), (119, .iastore, 1, 0), (120, .aload 0, 1, 0), (121, .getfield 705, 3, 13), (124, .sipush 0, 1, 0), (125, .dup2, 1, 0), (126, .iaload, 1, 0), (127, .sipush 1, 1, 0), (128, .iadd, 1, 0), (129, .iastore, 1, 0), (130, .sipush 1, 1, 0), (131, .ireturn, 1, 0)]
/-- SinglesPastModel.readLink(II)Z -/
def tO_230 : List (Nat × av_O) := [(0, .aload 0, 1, 0), (1, .sipush 0, 1, 0), (2, .aload 0, 1, 0), (3, .invokevirtual 197, 3, 85), (6, .sipush 1, 1, 0), (7, .isub, 1, 0), (8, .invokevirtual 223, 3, 131), (11, .istore 3, 1, 0), (12, .iload 3, 1, 0), (13, .ifCond .ge 20, 3, 0), (16, .sipush (-1), 1, 0), (17, .goto 31, 3, 0), (20, .aload 0, 1, 0), (21, .sipush 0, 1, 0), (22, .aload 0, 1, 0), (23, .invokevirtual 197, 3, 85), (26, .sipush 1, 1, 0), (27, .isub, 1, 0), (28, .invokevirtual 223, 3, 131), (31, .istore 4, 2, 0), (33, .iload 4, 2, 0), (35, .ifCond .lt 54, 3, 0), (38, .aload 0, 1, 0), (39, .iload 4, 2, 0), (41, .sipush 0, 1, 0), (42, .invokevirtual 201, 3, 150), (45, .aload 0, 1, 0), (46, .iload 3, 1, 0), (47, .sipush 0, 1, 0), (48, .invokevirtual 201, 3, 150), (51, .if_icmp .gt 56, 3, 0), (54, .sipush 0, 1, 0), (55, .ireturn, 1, 0), (56, .aload 0, 1, 0), (57, .getfield 705, 3, 13), (60, .iload 3, 1, 0), (61, .iload 1, 1, 0), (62, .invokestatic 200, 3, 64), (65, .dup2, 1, 0), (66, .iaload, 1, 0), (67, .sipush 1, 1, 0), (68, .iload 4, 2, 0), (70, .ishl, 1, 0), (71, .ior, 1, 0), (72, .iastore, 1, 0), (73, .aload 0, 1, 0), (74, .getfield 705, 3, 13), (77, .iload 3, 1, 0), (78, .iload 2, 1, 0), (79, .invokestatic 200, 3, 64), (82, .dup2, 1, 0), (83, .iaload, 1, 0), (84, .sipush 1, 1, 0), (85, .iload 4, 2, 0), (87, .ishl, 1, 0), (88, .sipush (-1), 1, 0), (89, .ixor, 1, 0), (90, .iand, 1, 0), (91, .iastore, 1, 0), (92, .sipush 1, 1, 0), (93, .ireturn, 1, 0)]
/-- SinglesPastModel.readGoer()Z -/
def tO_231 : List (Nat × av_O) := [(0, .aload 0, 1, 0), (1, .invokevirtual 198, 3, 74), (4, .istore 1, 1, 0), (5, .iload 1, 1, 0), (6, .sipush 6, 2, 0), (8, .if_icmp .ne 13, 3, 0), (11, .sipush 0, 1, 0), (12, .ireturn, 1, 0), (13, .aload 0, 1, 0), (14, .ldc 48, 2, 153), (16, .sipush 0, 1, 0), (17, .sipush 15, 2, 0), (19, .invokevirtual 224, 3, 139), (22, .istore 2, 1, 0), (23, .iload 2, 1, 0), (24, .ifCond .ge 31, 3, 0), (27, .sipush (-1), 1, 0), (28, .goto 41, 3, 0), (31, .aload 0, 1, 0), (32, .ldc 49, 2, 155), (34, .sipush 0, 1, 0), (35, .sipush 999, 3, 0), (38, .invokevirtual 224, 3, 139), (41, .istore 3, 1, 0), (42, .iload 3, 1, 0), (43, .ifCond .ge 48, 3, 0), (46, .sipush 0, 1, 0), (47, .ireturn, 1, 0), (48, .aload 0, 1, 0), (49, .ldc 50, 2, 157), (51, .sipush 100, 2, 0), (53, .sipush 50, 2, 0), (55, .invokevirtual 225, 3, 147), (58, .istore 4, 2, 0), (60, .iload 4, 2, 0), (62, .sipush 1000000, 2, 137), (64, .if_icmp .ne 69, 3, 0), (67, .sipush 0, 1, 0), (68, .ireturn, 1, 0), (69, .aload 0, 1, 0), (70, .ldc 51, 2, 159), (72, .aload 0, 1, 0), (73, .invokevirtual 197, 3, 85), (76, .sipush 1, 1, 0), (77, .isub, 1, 0), (78, .sipush (-1), 1, 0), (79, .invokevirtual 225, 3, 147), (82, .istore 5, 2, 0), (84, .iload 5, 2, 0), (86, .sipush (-1), 1, 0), (87, .if_icmp .ne 106, 3, 0), (90, .aload 0, 1, 0), (91, .ldc 52, 2, 161), (93, .aload 0, 1, 0), (94, .invokevirtual 197, 3, 85), (97, .sipush 1, 1, 0), (98, .isub, 1, 0), (99, .sipush (-1), 1, 0), (100, .invokevirtual 225, 3, 147), (103, .goto 107, 3, 0), (106, .sipush (-1), 1, 0), (107, .istore 6, 2, 0), (109, .iload 5, 2, 0), (111, .sipush 1000000, 2, 137), (113, .if_icmp .eq 123, 3, 0), (116, .iload 6, 2, 0), (118, .sipush 1000000, 2, 137), (120, .if_icmp .ne 125, 3, 0), (123, .sipush 0, 1, 0), (124, .ireturn, 1, 0), (125, .aload 0, 1, 0), (126, .ldc 53, 2, 163), (128, .aload 0, 1, 0), (129, .invokevirtual 197, 3, 85), (132, .sipush 1, 1, 0), (133, .isub, 1, 0), (134, .sipush (-1), 1, 0), (135, .invokevirtual 225, 3, 147), (138, .istore 7, 2, 0), (140, .iload 7, 2, 0), (142, .sipush 1000000, 2, 137), (144, .if_icmp .ne 149, 3, 0), (147, .sipush 0, 1, 0), (148, .ireturn, 1, 0), (149, .aload 0, 1, 0), (150, .getfield 705, 3, 13), (153, .iload 1, 1, 0), (154, .sipush 0, 1, 0), (155, .invokestatic 202, 3, 68), (158, .iload 2, 1, 0), (159, .iastore, 1, 0), (160, .aload 0, 1, 0), (161, .getfield 705, 3, 13), (164, .iload 1, 1, 0), (165, .sipush 1, 1, 0), (166, .invokestatic 202, 3, 68), (169, .iload 5, 2, 0), (171, .iload 6, 2, 0), (173, .invokedynamic 4, 3, 165), (176, .iastore, 1, 0), (177, .aload 0, 1, 0), (178, .getfield 705, 3, 13), (181, .iload 1, 1, 0), (182, .sipush 2, 1, 0), (183, .invokestatic 202, 3, 68), (186, .iload 5, 2, 0), (188, .sipush (-1), 1, 0), (189, .if_icmp .ne 196, 3, 0), (192, .sipush 0, 1, 0), (193, .goto 197, 3, 0), (196, .sipush 1, 1, 0), (197, .iastore, 1, 0), (198, .aload 0, 1, 0), (199, .getfield 705, 3, 13), (202, .iload 1, 1, 0), (203, .sipush 3, 1, 0), (204, .invokestatic 202, 3, 68), (207, .iload 7, 2, 0), (209, .iastore, 1, 0), (210, .aload 0, 1, 0), (211, .getfield 705, 3, 13), (214, .iload 1, 1, 0), (215, .sipush 4, 1, 0), (216, .invokestatic 202, 3, 68), (219, .iload 3, 1, 0), (220, .iastore, 1, 0), (221, .aload 0, 1, 0), (222, .getfield 705, 3, 13), (225, .iload 1, 1, 0), (226, .sipush 5, 1, 0), (227, .invokestatic 202, 3, 68), (230, .iload 4, 2, 0), (232, .iastore, 1, 0), (233, .aload 0, 1, 0), (234, .getfield 705, 3, 13), (237, .iload 1, 1, 0), (238, .sipush 6, 2, 0), (240, .invokestatic 202, 3, 68), (243, .sipush 0, 1, 0), (244, .iastore, 1, 0), (245, .aload 0, 1, 0), (246, .getfield 705, 3, 13), (249, .iload 1, 1, 0), (250, .sipush 7, 2, 0), (252, .invokestatic 202, 3, 68), (255, .sipush 0, 1, 0), (256, .iastore, 1, 0), (257, .aload 0, 1, 0), (258, .getfield 705, 3, 13), (261, .iload 1, 1, 0), (262, .sipush 8, 2, 0), (264, .invokestatic 202, 3, 68), (267, .sipush (-1), 1, 0), (268, .iastore, 1, 0), (269, .aload 0, 1, 0), (270, .getfield 705, 3, 13), (273, .sipush 1, 1, 0), (274, .dup2, 1, 0), (275, .iaload, 1, 0), (276, .sipush 1, 1, 0), (277, .iadd, 1, 0), (278, .iastore, 1, 0), (279, .sipush 1, 1, 0), (280, .ireturn, 1, 0)]
/-- SinglesPastModel.readShuns()Z -/
def tO_232 : List (Nat × av_O) := [(0, .aload 0, 1, 0), (1, .sipush 0, 1, 0), (2, .aload 0, 1, 0), (3, .invokevirtual 198, 3, 74), (6, .sipush 1, 1, 0), (7, .isub, 1, 0), (8, .invokevirtual 223, 3, 131), (11, .istore 1, 1, 0), (12, .iload 1, 1, 0), (13, .ifCond .ge 20, 3, 0), (16, .sipush (-1), 1, 0), (17, .goto 31, 3, 0), (20, .aload 0, 1, 0), (21, .sipush 0, 1, 0), (22, .aload 0, 1, 0), (23, .invokevirtual 198, 3, 74), (26, .sipush 1, 1, 0), (27, .isub, 1, 0), (28, .invokevirtual 223, 3, 131), (31, .istore 2, 1, 0), (32, .iload 2, 1, 0), (33, .ifCond .lt 41, 3, 0), (36, .iload 2, 1, 0), (37, .iload 1, 1, 0), (38, .if_icmp .ne 43, 3, 0), (41, .sipush 0, 1, 0), (42, .ireturn, 1, 0), (43, .aload 0, 1, 0), (44, .getfield 705, 3, 13), (47, .iload 1, 1, 0), (48, .sipush 6, 2, 0), (50, .invokestatic 202, 3, 68), (53, .dup2, 1, 0), (54, .iaload, 1, 0), (55, .sipush 1, 1, 0), (56, .iload 2, 1, 0), (57, .ishl, 1, 0), (58, .ior, 1, 0), (59, .iastore, 1, 0), (60, .aload 0, 1, 0), (61, .getfield 705, 3, 13), (64, .iload 2, 1, 0), (65, .sipush 6, 2, 0), (67, .invokestatic 202, 3, 68), (70, .dup2, 1, 0), (71, .iaload, 1, 0), (72, .sipush 1, 1, 0), (73, .iload 1, 1, 0), (74, .ishl, 1, 0), (75, .ior, 1, 0), (76, .iastore, 1, 0), (77, .sipush 1, 1, 0), (78, .ireturn, 1, 0)]
/-- SinglesPastModel.stopsTold()I -/
def tO_233 : List (Nat × av_O) := [(0, .aload 0, 1, 0), (1, .invokevirtual 219, 3, 124), (4, .sipush 0, 1, 0), (5, .istore 1, 1, 0), (6, .aload 0, 1, 0), (7, .getfield 714, 3, 99), (10, .aload 0, 1, 0), (11, .getfield 716, 3, 109), (14, .if_icmp .le 21, 3, 0), (17, .sipush 1, 1, 0), (18, .goto 22, 3, 0), (21, .sipush 0, 1, 0), (22, .istore 2, 1, 0), (23, .aload 0, 1, 0), (24, .getfield 716, 3, 109), (27, .istore 3, 1, 0), (28, .iload 3, 1, 0), (29, .aload 0, 1, 0), (30, .getfield 714, 3, 99), (33, .if_icmp .ge 94, 3, 0), (36, .iload 2, 1, 0), (37, .ifCond .eq 94, 3, 0), (40, .aload 0, 1, 0), (41, .getfield 712, 3, 29), (44, .iload 3, 1, 0), (45, .baload, 1, 0), (46, .sipush 97, 2, 0), (48, .isub, 1, 0), (49, .istore 4, 2, 0), (51, .iload 4, 2, 0), (53, .sipush 16, 2, 0), (55, .if_icmp .ge 71, 3, 0), (58, .iload 1, 1, 0), (59, .iload 4, 2, 0), (61, .invokestatic 189, 3, 170), (64, .ifCond .ne 71, 3, 0), (67, .sipush 1, 1, 0), (68, .goto 72, 3, 0), (71, .sipush 0, 1, 0), (72, .istore 2, 1, 0), (73, .iload 1, 1, 0), (74, .iload 2, 1, 0), (75, .ifCond .eq 85, 3, 0), (78, .sipush 1, 1, 0), (79, .iload 4, 2, 0), (81, .ishl, 1, 0), (82, .goto 86, 3, 0), (85, .sipush 0, 1, 0), (86, .ior, 1, 0), (87, .istore 1, 1, 0), (88, .iinc 3 1, 3, 0), (91, .goto 28, 3, 0), (94, .iload 2, 1, 0), (95, .ifCond .eq 102, 3, 0), (98, .iload 1, 1, 0), (99, .goto 103, 3, 0), (102, .sipush 0, 1, 0), (103, .ireturn, 1, 0)]
/-- SinglesPastModel.readTrain()Z -/
def tO_234 : List (Nat × av_O) := [(0, .aload 0, 1, 0), (1, .invokevirtual 199, 3, 92), (4, .istore 1, 1, 0), (5, .iload 1, 1, 0), (6, .sipush 5, 1, 0), (7, .if_icmp .ne 12, 3, 0), (10, .sipush 0, 1, 0), (11, .ireturn, 1, 0), (12, .aload 0, 1, 0), (13, .ldc 56, 2, 173), (15, .sipush 1, 1, 0), (16, .sipush 6, 2, 0), (18, .invokevirtual 224, 3, 139), (21, .istore 2, 1, 0), (22, .iload 2, 1, 0), (23, .ifCond .ge 28, 3, 0), (26, .sipush 0, 1, 0), (27, .ireturn, 1, 0), (28, .aload 0, 1, 0), (29, .invokevirtual 219, 3, 124), (32, .aload 0, 1, 0), (33, .ldc 57, 2, 175), (35, .invokevirtual 220, 3, 127), (38, .ifCond .eq 48, 3, 0), (41, .aload 0, 1, 0), (42, .invokevirtual 233, 3, 177), (45, .goto 49, 3, 0), (48, .sipush 0, 1, 0), (49, .istore 3, 1, 0), (50, .iload 3, 1, 0), (51, .ifCond .ne 56, 3, 0), (54, .sipush 0, 1, 0), (55, .ireturn, 1, 0), (56, .aload 0, 1, 0), (57, .getfield 705, 3, 13), (60, .iload 1, 1, 0), (61, .sipush 0, 1, 0), (62, .invokestatic 204, 3, 71), (65, .iload 3, 1, 0), (66, .iastore, 1, 0), (67, .aload 0, 1, 0), (68, .getfield 705, 3, 13), (71, .iload 1, 1, 0), (72, .sipush 1, 1, 0), (73, .invokestatic 204, 3, 71), (76, .iload 2, 1, 0), (77, .iastore, 1, 0), (78, .aload 0, 1, 0), (79, .getfield 705, 3, 13), (82, .sipush 2, 1, 0), (83, .dup2, 1, 0), (84, .iaload, 1, 0), (85, .sipush 1, 1, 0), (86, .iadd, 1, 0), (87, .iastore, 1, 0), (88, .sipush 1, 1, 0), (89, .ireturn, 1, 0)]
/-- SinglesPastModel.readStationLine()Z -/
def tO_235 : List (Nat × av_O) := [(0, .aload 0, 1, 0), (1, .ldc 41, 2, 180), (3, .invokevirtual 220, 3, 127), (6, .ifCond .eq 14, 3, 0), (9, .aload 0, 1, 0), (10, .invokevirtual 229, 3, 182), (13, .ireturn, 1, 0), (14, .aload 0, 1, 0), (15, .ldc 45, 2, 186), (17, .invokevirtual 220, 3, 127), (20, .ifCond .eq 30, 3, 0), (23, .aload 0, 1, 0), (24, .sipush 3, 1, 0), (25, .sipush 4, 1, 0), (26, .invokevirtual 230, 3, 188), (29, .ireturn, 1, 0), (30, .aload 0, 1, 0), (31, .ldc 46, 2, 191), (33, .invokevirtual 220, 3, 127), (36, .ifCond .eq 46, 3, 0), (39, .aload 0, 1, 0), (40, .sipush 4, 1, 0), (41, .sipush 3, 1, 0), (42, .invokevirtual 230, 3, 188), (45, .ireturn, 1, 0), (46, .aload 0, 1, 0), (47, .ldc 47, 2, 193), (49, .invokevirtual 220, 3, 127), (52, .ifCond .eq 60, 3, 0), (55, .aload 0, 1, 0), (56, .invokevirtual 231, 3, 195), (59, .ireturn, 1, 0), (60, .aload 0, 1, 0), (61, .ldc 54, 2, 198), (63, .invokevirtual 220, 3, 127), (66, .ifCond .eq 74, 3, 0), (69, .aload 0, 1, 0), (70, .invokevirtual 232, 3, 200), (73, .ireturn, 1, 0), (74, .aload 0, 1, 0), (75, .ldc 55, 2, 203), (77, .invokevirtual 220, 3, 127), (80, .ifCond .eq 88, 3, 0), (83, .aload 0, 1, 0), (84, .invokevirtual 234, 3, 205), (87, .ireturn, 1, 0), (88, .aload 0, 1, 0), (89, .ldc 58, 2, 208), (91, .invokevirtual 220, 3, 127), (94, .ifCond .eq 113, 3, 0), (97, .aload 0, 1, 0), (98, .sipush 5, 1, 0), (99, .sipush 0, 1, 0), (100, .sipush 999, 3, 0), (103, .invokevirtual 228, 3, 210), (106, .ifCond .eq 113, 3, 0), (109, .sipush 1, 1, 0), (110, .goto 114, 3, 0), (113, .sipush 0, 1, 0), (114, .ireturn, 1, 0)]
/-- SinglesPastModel.emits(II)V -/
def tO_236 : List (Nat × av_O) := [(0, .aload 0, 1, 0), (1, .getfield 705, 3, 13), (4, .sipush 1250, 3, 0), (7, .sipush 2, 1, 0), (8, .aload 0, 1, 0), (9, .getfield 720, 3, 213), (12, .imul, 1, 0), (13, .iadd, 1, 0), (14, .iload 1, 1, 0), (15, .iastore, 1, 0), (16, .aload 0, 1, 0), (17, .getfield 705, 3, 13), (20, .sipush 1250, 3, 0), (23, .sipush 2, 1, 0), (24, .aload 0, 1, 0), (25, .getfield 720, 3, 213), (28, .imul, 1, 0), (29, .iadd, 1, 0), (30, .sipush 1, 1, 0), (31, .iadd, 1, 0), (32, .iload 2, 1, 0), (33, .iastore, 1, 0), (34, .aload 0, 1, 0), (35, .dup, 1, 0), (36, .getfield 720, 3, 213), (39, .sipush 1, 1, 0), (40, .iadd, 1, 0), (41, .putfield 720, 3, 213), (44, .return_, 1, 0)]
/-- SinglesPastModel.wordOfPart()I -/
def tO_237 : List (Nat × av_O) := [(0, .aload 0, 1, 0), (1, .ldc 47, 2, 193), (3, .invokevirtual 220, 3, 127), (6, .ifCond .eq 11, 3, 0), (9, .sipush 0, 1, 0), (10, .ireturn, 1, 0), (11, .aload 0, 1, 0), (12, .ldc 65, 2, 216), (14, .invokevirtual 220, 3, 127), (17, .ifCond .eq 22, 3, 0), (20, .sipush 1, 1, 0), (21, .ireturn, 1, 0), (22, .aload 0, 1, 0), (23, .ldc 49, 2, 155), (25, .invokevirtual 220, 3, 127), (28, .ifCond .eq 33, 3, 0), (31, .sipush 2, 1, 0), (32, .ireturn, 1, 0), (33, .aload 0, 1, 0), (34, .ldc 50, 2, 157), (36, .invokevirtual 220, 3, 127), (39, .ifCond .eq 44, 3, 0), (42, .sipush 3, 1, 0), (43, .ireturn, 1, 0), (44, .aload 0, 1, 0), (45, .ldc 55, 2, 203), (47, .invokevirtual 220, 3, 127), (50, .ifCond .eq 55, 3, 0), (53, .sipush 4, 1, 0), (54, .ireturn, 1, 0), (55, .aload 0, 1, 0), (56, .ldc 66, 2, 218), (58, .invokevirtual 220, 3, 127), (61, .ifCond .eq 66, 3, 0), (64, .sipush 5, 1, 0), (65, .ireturn, 1, 0), (66, .aload 0, 1, 0), (67, .ldc 58, 2, 208), (69, .invokevirtual 220, 3, 127), (72, .ifCond .eq 80, 3, 0), (75, .sipush 6, 2, 0), (77, .goto 81, 3, 0), (80, .sipush (-1), 1, 0), (81, .ireturn, 1, 0)]
/-- SinglesPastModel.readPart()Z -/
def tO_238 : List (Nat × av_O) := [(0, .aload 0, 1, 0), (1, .invokevirtual 219, 3, 124), (4, .aload 0, 1, 0), (5, .getfield 714, 3, 99), (8, .aload 0, 1, 0), (9, .getfield 716, 3, 109), (12, .if_icmp .ne 19, 3, 0), (15, .sipush 1, 1, 0), (16, .goto 20, 3, 0), (19, .sipush 0, 1, 0), (20, .istore 1, 1, 0), (21, .iload 1, 1, 0), (22, .ifCond .eq 36, 3, 0), (25, .aload 0, 1, 0), (26, .sipush 0, 1, 0), (27, .sipush 999, 3, 0), (30, .invokevirtual 223, 3, 131), (33, .goto 40, 3, 0), (36, .aload 0, 1, 0), (37, .invokevirtual 237, 3, 220), (40, .istore 2, 1, 0), (41, .aload 0, 1, 0), (42, .iload 1, 1, 0), (43, .ifCond .eq 51, 3, 0), (46, .sipush 10, 2, 0), (48, .goto 52, 3, 0), (51, .iload 2, 1, 0), (52, .iload 1, 1, 0), (53, .ifCond .eq 60, 3, 0), (56, .iload 2, 1, 0), (57, .goto 61, 3, 0), (60, .sipush 0, 1, 0), (61, .invokevirtual 236, 3, 223), (64, .iload 2, 1, 0), (65, .ifCond .lt 72, 3, 0), (68, .sipush 1, 1, 0), (69, .goto 73, 3, 0), (72, .sipush 0, 1, 0), (73, .ireturn, 1, 0)]
/-- SinglesPastModel.readSum()Z -/
def tO_239 : List (Nat × av_O) := [(0, .aload 0, 1, 0), (1, .invokevirtual 238, 3, 227), (4, .ifCond .ne 9, 3, 0), (7, .sipush 0, 1, 0), (8, .ireturn, 1, 0), (9, .aload 0, 1, 0), (10, .sipush 43, 2, 0), (12, .invokevirtual 222, 3, 230), (15, .ifCond .eq 37, 3, 0), (18, .aload 0, 1, 0), (19, .invokevirtual 238, 3, 227), (22, .ifCond .ne 27, 3, 0), (25, .sipush 0, 1, 0), (26, .ireturn, 1, 0), (27, .aload 0, 1, 0), (28, .sipush 11, 2, 0), (30, .sipush 0, 1, 0), (31, .invokevirtual 236, 3, 223), (34, .goto 9, 3, 0), (37, .sipush 1, 1, 0), (38, .ireturn, 1, 0)]
/-- SinglesPastModel.readTag()Z -/
def tO_240 : List (Nat × av_O) := [(0, .aload 0, 1, 0), (1, .invokevirtual 219, 3, 124), (4, .aload 0, 1, 0), (5, .ldc 53, 2, 163), (7, .invokevirtual 220, 3, 127), (10, .ifCond .eq 18, 3, 0), (13, .sipush 7, 2, 0), (15, .goto 47, 3, 0), (18, .aload 0, 1, 0), (19, .ldc 51, 2, 159), (21, .invokevirtual 220, 3, 127), (24, .ifCond .eq 32, 3, 0), (27, .sipush 8, 2, 0), (29, .goto 47, 3, 0), (32, .aload 0, 1, 0), (33, .ldc 64, 2, 233), (35, .invokevirtual 220, 3, 127), (38, .ifCond .eq 46, 3, 0), (41, .sipush 9, 2, 0), (43, .goto 47, 3, 0), (46, .sipush (-1), 1, 0), (47, .istore 1, 1, 0), (48, .iload 1, 1, 0), (49, .ifCond .lt 61, 3, 0), (52, .aload 0, 1, 0), (53, .iload 1, 1, 0), (54, .sipush 0, 1, 0), (55, .invokevirtual 236, 3, 223), (58, .goto 69, 3, 0), (61, .aload 0, 1, 0), (62, .aload 0, 1, 0), (63, .getfield 716, 3, 109), (66, .putfield 714, 3, 99), (69, .iload 1, 1, 0), (70, .ifCond .lt 77, 3, 0), (73, .sipush 1, 1, 0), (74, .goto 78, 3, 0), (77, .sipush 0, 1, 0), (78, .ireturn, 1, 0)]
/-- SinglesPastModel.readAtom()Z -/
def tO_241 : List (Nat × av_O) := [(0, .aload 0, 1, 0), (1, .sipush 40, 2, 0), (3, .invokevirtual 222, 3, 230), (6, .ifCond .eq 56, 3, 0), (9, .aload 0, 1, 0), (10, .getfield 717, 3, 235), (13, .sipush 6, 2, 0), (15, .if_icmp .ne 20, 3, 0), (18, .sipush 0, 1, 0), (19, .ireturn, 1, 0), (20, .aload 0, 1, 0), (21, .dup, 1, 0), (22, .getfield 717, 3, 235), (25, .sipush 1, 1, 0), (26, .iadd, 1, 0), (27, .putfield 717, 3, 235), (30, .aload 0, 1, 0), (31, .invokevirtual 243, 3, 238), (34, .ifCond .ne 39, 3, 0), (37, .sipush 0, 1, 0), (38, .ireturn, 1, 0), (39, .aload 0, 1, 0), (40, .dup, 1, 0), (41, .getfield 717, 3, 235), (44, .sipush 1, 1, 0), (45, .isub, 1, 0), (46, .putfield 717, 3, 235), (49, .aload 0, 1, 0), (50, .sipush 41, 2, 0), (52, .invokevirtual 222, 3, 230), (55, .ireturn, 1, 0), (56, .aload 0, 1, 0), (57, .ldc 63, 2, 241), (59, .invokevirtual 221, 3, 134), (62, .ifCond .eq 114, 3, 0), (65, .aload 0, 1, 0), (66, .getfield 717, 3, 235), (69, .sipush 6, 2, 0), (71, .if_icmp .ne 76, 3, 0), (74, .sipush 0, 1, 0), (75, .ireturn, 1, 0), (76, .aload 0, 1, 0), (77, .dup, 1, 0), (78, .getfield 717, 3, 235), (81, .sipush 1, 1, 0), (82, .iadd, 1, 0), (83, .putfield 717, 3, 235), (86, .aload 0, 1, 0), (87, .invokevirtual 241, 3, 243), (90, .ifCond .ne 95, 3, 0), (93, .sipush 0, 1, 0), (94, .ireturn, 1, 0), (95, .aload 0, 1, 0), (96, .dup, 1, 0), (97, .getfield 717, 3, 235), (100, .sipush 1, 1, 0), (101, .isub, 1, 0), (102, .putfield 717, 3, 235), (105, .aload 0, 1, 0), (106, .sipush 14, 2, 0), (108, .sipush 0, 1, 0), (109, .invokevirtual 236, 3, 223), (112, .sipush 1, 1, 0), (113, .ireturn, 1, 0), (114, .aload 0, 1, 0), (115, .invokevirtual 240, 3, 246), (118, .ifCond .eq 123, 3, 0), (121, .sipush 1, 1, 0), (122, .ireturn, 1, 0), (123, .aload 0, 1, 0), (124, .invokevirtual 239, 3, 249), (127, .ifCond .ne 132, 3, 0), (130, .sipush 0, 1, 0), (131, .ireturn, 1, 0), (132, .aload 0, 1, 0), (133, .sipush 60, 2, 0), (135, .invokevirtual 222, 3, 230), (138, .istore 1, 1, 0), (139, .iload 1, 1, 0), (140, .ifCond .ne 152, 3, 0), (143, .aload 0, 1, 0), (144, .sipush 62, 2, 0), (146, .invokevirtual 222, 3, 230), (149, .ifCond .eq 159, 3, 0), (152, .aload 0, 1, 0), (153, .invokevirtual 239, 3, 249), (156, .ifCond .ne 161, 3, 0), (159, .sipush 0, 1, 0), (160, .ireturn, 1, 0), (161, .aload 0, 1, 0), (162, .iload 1, 1, 0), (163, .ifCond .eq 171, 3, 0), (166, .sipush 12, 2, 0), (168, .goto 173, 3, 0), (171, .sipush 13, 2, 0), (173, .sipush 0, 1, 0), (174, .invokevirtual 236, 3, 223), (177, .sipush 1, 1, 0), (178, .ireturn, 1, 0)]
/-- SinglesPastModel.readAllOf()Z -/
def tO_242 : List (Nat × av_O) := [(0, .aload 0, 1, 0), (1, .invokevirtual 241, 3, 243), (4, .ifCond .ne 9, 3, 0), (7, .sipush 0, 1, 0), (8, .ireturn, 1, 0), (9, .aload 0, 1, 0), (10, .ldc 67, 2, 252), (12, .invokevirtual 221, 3, 134), (15, .ifCond .eq 37, 3, 0), (18, .aload 0, 1, 0), (19, .invokevirtual 241, 3, 243), (22, .ifCond .ne 27, 3, 0), (25, .sipush 0, 1, 0), (26, .ireturn, 1, 0), (27, .aload 0, 1, 0), (28, .sipush 15, 2, 0), (30, .sipush 0, 1, 0), (31, .invokevirtual 236, 3, 223), (34, .goto 9, 3, 0), (37, .sipush 1, 1, 0), (38, .ireturn, 1, 0)]
/-- SinglesPastModel.readCond()Z -/
def tO_243 : List (Nat × av_O) := [(0, .aload 0, 1, 0), (1, .invokevirtual 242, 3, 254), (4, .ifCond .ne 9, 3, 0), (7, .sipush 0, 1, 0), (8, .ireturn, 1, 0), (9, .aload 0, 1, 0), (10, .ldc 68, 3, 257), (13, .invokevirtual 221, 3, 134), (16, .ifCond .eq 38, 3, 0), (19, .aload 0, 1, 0), (20, .invokevirtual 242, 3, 254), (23, .ifCond .ne 28, 3, 0), (26, .sipush 0, 1, 0), (27, .ireturn, 1, 0), (28, .aload 0, 1, 0), (29, .sipush 16, 2, 0), (31, .sipush 0, 1, 0), (32, .invokevirtual 236, 3, 223), (35, .goto 9, 3, 0), (38, .sipush 1, 1, 0), (39, .ireturn, 1, 0)]
/-- SinglesPastModel.readLawLine(I)Z -/
def tO_244 : List (Nat × av_O) := [(0, .sipush 1202, 3, 0), (3, .sipush 4, 1, 0), (4, .iload 1, 1, 0), (5, .imul, 1, 0), (6, .iadd, 1, 0), (7, .istore 2, 1, 0), (8, .aload 0, 1, 0), (9, .getfield 705, 3, 13), (12, .iload 2, 1, 0), (13, .aload 0, 1, 0), (14, .ldc 59, 3, 259), (17, .invokevirtual 220, 3, 127), (20, .ifCond .eq 27, 3, 0), (23, .sipush 0, 1, 0), (24, .goto 56, 3, 0), (27, .aload 0, 1, 0), (28, .ldc 60, 3, 261), (31, .invokevirtual 220, 3, 127), (34, .ifCond .eq 41, 3, 0), (37, .sipush 1, 1, 0), (38, .goto 56, 3, 0), (41, .aload 0, 1, 0), (42, .ldc 61, 3, 263), (45, .invokevirtual 220, 3, 127), (48, .ifCond .eq 55, 3, 0), (51, .sipush 2, 1, 0), (52, .goto 56, 3, 0), (55, .sipush (-1), 1, 0), (56, .iastore, 1, 0), (57, .aload 0, 1, 0), (58, .getfield 705, 3, 13), (61, .iload 2, 1, 0), (62, .iaload, 1, 0), (63, .ifCond .ge 68, 3, 0), (66, .sipush 0, 1, 0), (67, .ireturn, 1, 0), (68, .aload 0, 1, 0), (69, .getfield 705, 3, 13), (72, .iload 2, 1, 0), (73, .sipush 1, 1, 0), (74, .iadd, 1, 0), (75, .aload 0, 1, 0), (76, .getfield 705, 3, 13), (79, .iload 2, 1, 0), (80, .iaload, 1, 0), (81, .sipush 2, 1, 0), (82, .if_icmp .ne 89, 3, 0), (85, .sipush 0, 1, 0), (86, .goto 97, 3, 0), (89, .aload 0, 1, 0), (90, .sipush 0, 1, 0), (91, .sipush 200, 3, 0), (94, .invokevirtual 223, 3, 131), (97, .iastore, 1, 0), (98, .aload 0, 1, 0), (99, .getfield 705, 3, 13), (102, .iload 2, 1, 0), (103, .sipush 1, 1, 0), (104, .iadd, 1, 0), (105, .iaload, 1, 0), (106, .ifCond .ge 111, 3, 0), (109, .sipush 0, 1, 0), (110, .ireturn, 1, 0), (111, .aload 0, 1, 0), (112, .getfield 705, 3, 13), (115, .iload 2, 1, 0), (116, .sipush 2, 1, 0), (117, .iadd, 1, 0), (118, .aload 0, 1, 0), (119, .getfield 720, 3, 213), (122, .iastore, 1, 0), (123, .aload 0, 1, 0), (124, .sipush 0, 1, 0), (125, .putfield 717, 3, 235), (128, .aload 0, 1, 0), (129, .ldc 62, 3, 265), (132, .invokevirtual 221, 3, 134), (135, .ifCond .eq 147, 3, 0), (138, .aload 0, 1, 0), (139, .invokevirtual 243, 3, 238), (142, .ifCond .ne 147, 3, 0), (145, .sipush 0, 1, 0), (146, .ireturn, 1, 0), (147, .aload 0, 1, 0), (148, .getfield 705, 3, 13), (151, .iload 2, 1, 0), (152, .sipush 3, 1, 0), (153, .iadd, 1, 0), (154, .aload 0, 1, 0), (155, .getfield 720, 3, 213), (158, .iastore, 1, 0), (159, .sipush 1, 1, 0), (160, .ireturn, 1, 0)]
/-- SinglesPastModel.readLine(ZI)Z -/
def tO_245 : List (Nat × av_O) := [(0, .aload 0, 1, 0), (1, .invokevirtual 219, 3, 124), (4, .iload 2, 1, 0), (5, .iload 1, 1, 0), (6, .ifCond .eq 14, 3, 0), (9, .sipush 14, 2, 0), (11, .goto 16, 3, 0), (14, .sipush 12, 2, 0), (16, .if_icmp .ge 45, 3, 0), (19, .iload 1, 1, 0), (20, .ifCond .eq 33, 3, 0), (23, .aload 0, 1, 0), (24, .invokevirtual 235, 3, 267), (27, .ifCond .eq 45, 3, 0), (30, .goto 41, 3, 0), (33, .aload 0, 1, 0), (34, .iload 2, 1, 0), (35, .invokevirtual 244, 3, 270), (38, .ifCond .eq 45, 3, 0), (41, .sipush 1, 1, 0), (42, .goto 46, 3, 0), (45, .sipush 0, 1, 0), (46, .ireturn, 1, 0)]
/-- SinglesPastModel.readAll(Z)I -/
def tO_246 : List (Nat × av_O) := [(0, .aload 0, 1, 0), (1, .invokevirtual 227, 3, 273), (4, .aload 0, 1, 0), (5, .sipush 0, 1, 0), (6, .putfield 720, 3, 213), (9, .aload 0, 1, 0), (10, .invokevirtual 218, 3, 112), (13, .aload 0, 1, 0), (14, .getfield 714, 3, 99), (17, .aload 0, 1, 0), (18, .getfield 715, 3, 102), (21, .if_icmp .ne 26, 3, 0), (24, .sipush 0, 1, 0), (25, .ireturn, 1, 0), (26, .sipush 0, 1, 0), (27, .istore 2, 1, 0), (28, .aload 0, 1, 0), (29, .iload 1, 1, 0), (30, .iload 2, 1, 0), (31, .invokevirtual 245, 3, 276), (34, .ifCond .ne 39, 3, 0), (37, .sipush (-1), 1, 0), (38, .ireturn, 1, 0), (39, .aload 0, 1, 0), (40, .invokevirtual 218, 3, 112), (43, .aload 0, 1, 0), (44, .getfield 714, 3, 99), (47, .aload 0, 1, 0), (48, .getfield 715, 3, 102), (51, .if_icmp .ne 58, 3, 0), (54, .iload 2, 1, 0), (55, .sipush 1, 1, 0), (56, .iadd, 1, 0), (57, .ireturn, 1, 0), (58, .aload 0, 1, 0), (59, .sipush 59, 2, 0), (61, .sipush 59, 2, 0), (63, .invokevirtual 217, 3, 105), (66, .ifCond .ne 71, 3, 0), (69, .sipush (-1), 1, 0), (70, .ireturn, 1, 0), (71, .aload 0, 1, 0), (72, .dup, 1, 0), (73, .getfield 714, 3, 99), (76, .sipush 1, 1, 0), (77, .iadd, 1, 0), (78, .putfield 714, 3, 99), (81, .iinc 2 1, 3, 0), (84, .goto 28, 3, 0)]
/-- SinglesPastModel.station()I -/
def tO_247 : List (Nat × av_O) := [(0, .sipush 0, 1, 0), (1, .istore 1, 1, 0), (2, .iload 1, 1, 0), (3, .sipush 1201, 3, 0), (6, .if_icmp .ge 27, 3, 0), (9, .aload 0, 1, 0), (10, .getfield 707, 3, 20), (13, .iload 1, 1, 0), (14, .aload 0, 1, 0), (15, .getfield 705, 3, 13), (18, .iload 1, 1, 0), (19, .iaload, 1, 0), (20, .iastore, 1, 0), (21, .iinc 1 1, 3, 0), (24, .goto 2, 3, 0), (27, .aload 0, 1, 0), (28, .sipush 1, 1, 0), (29, .invokevirtual 246, 3, 280), (32, .istore 1, 1, 0), (33, .aload 0, 1, 0), (34, .iload 1, 1, 0), (35, .ifCond .ge 45, 3, 0), (38, .aload 0, 1, 0), (39, .getfield 716, 3, 109), (42, .goto 46, 3, 0), (45, .sipush (-1), 1, 0), (46, .putfield 718, 3, 33), (49, .aload 0, 1, 0), (50, .iload 1, 1, 0), (51, .ifCond .ge 58, 3, 0), (54, .sipush 1, 1, 0), (55, .goto 59, 3, 0), (58, .sipush 0, 1, 0), (59, .sipush 1, 1, 0), (60, .invokevirtual 187, 3, 284), (63, .ifCond .ne 90, 3, 0), (66, .aload 0, 1, 0), (67, .aload 0, 1, 0), (68, .getfield 705, 3, 13), (71, .sipush 3, 1, 0), (72, .iaload, 1, 0), (73, .sipush 12, 2, 0), (75, .if_icmp .ne 82, 3, 0), (78, .sipush 1, 1, 0), (79, .goto 83, 3, 0), (82, .sipush 0, 1, 0), (83, .sipush 2, 1, 0), (84, .invokevirtual 187, 3, 284), (87, .ifCond .eq 119, 3, 0), (90, .sipush 0, 1, 0), (91, .istore 2, 1, 0), (92, .iload 2, 1, 0), (93, .sipush 1201, 3, 0), (96, .if_icmp .ge 117, 3, 0), (99, .aload 0, 1, 0), (100, .getfield 705, 3, 13), (103, .iload 2, 1, 0), (104, .aload 0, 1, 0), (105, .getfield 707, 3, 20), (108, .iload 2, 1, 0), (109, .iaload, 1, 0), (110, .iastore, 1, 0), (111, .iinc 2 1, 3, 0), (114, .goto 92, 3, 0), (117, .sipush 0, 1, 0), (118, .ireturn, 1, 0), (119, .aload 0, 1, 0), (120, .getfield 705, 3, 13), (123, .sipush 3, 1, 0), (124, .dup2, 1, 0), (125, .iaload, 1, 0), (126, .sipush 1, 1, 0), (127, .iadd, 1, 0), (128, .iastore, 1, 0), (129, .aload 0, 1, 0), (130, .sipush 0, 1, 0), (131, .putfield 711, 3, 61), (134, .aload 0, 1, 0), (135, .getfield 705, 3, 13), (138, .sipush 3, 1, 0), (139, .iaload, 1, 0), (140, .ireturn, 1, 0)]
/-- SinglesPastModel.law()I -/
def tO_248 : List (Nat × av_O) := [(0, .aload 0, 1, 0), (1, .sipush 0, 1, 0), (2, .invokevirtual 246, 3, 280), (5, .istore 1, 1, 0), (6, .aload 0, 1, 0), (7, .iload 1, 1, 0), (8, .ifCond .ge 18, 3, 0), (11, .aload 0, 1, 0), (12, .getfield 716, 3, 109), (15, .goto 19, 3, 0), (18, .sipush (-1), 1, 0), (19, .putfield 718, 3, 33), (22, .aload 0, 1, 0), (23, .iload 1, 1, 0), (24, .ifCond .ge 31, 3, 0), (27, .sipush 1, 1, 0), (28, .goto 32, 3, 0), (31, .sipush 0, 1, 0), (32, .sipush 1, 1, 0), (33, .invokevirtual 187, 3, 284), (36, .ifCond .eq 41, 3, 0), (39, .sipush 0, 1, 0), (40, .ireturn, 1, 0), (41, .aload 0, 1, 0), (42, .getfield 705, 3, 13), (45, .sipush 1201, 3, 0), (48, .iload 1, 1, 0), (49, .iastore, 1, 0), (50, .sipush 0, 1, 0), (51, .istore 2, 1, 0), (52, .iload 2, 1, 0), (53, .sipush 849, 3, 0), (56, .if_icmp .ge 85, 3, 0), (59, .aload 0, 1, 0), (60, .getfield 705, 3, 13), (63, .sipush 352, 3, 0), (66, .iload 2, 1, 0), (67, .iadd, 1, 0), (68, .aload 0, 1, 0), (69, .getfield 705, 3, 13), (72, .sipush 1201, 3, 0), (75, .iload 2, 1, 0), (76, .iadd, 1, 0), (77, .iaload, 1, 0), (78, .iastore, 1, 0), (79, .iinc 2 1, 3, 0), (82, .goto 52, 3, 0), (85, .aload 0, 1, 0), (86, .getfield 705, 3, 13), (89, .sipush 4, 1, 0), (90, .sipush 1, 1, 0), (91, .iastore, 1, 0), (92, .aload 0, 1, 0), (93, .sipush 0, 1, 0), (94, .putfield 711, 3, 61), (97, .iload 1, 1, 0), (98, .ireturn, 1, 0)]
/-- SinglesPastModel.factOf(IIII)I -/
def tO_249 : List (Nat × av_O) := [(0, .iload 1, 1, 0), (1, .tableswitch 153 0 9 #[56, 58, 65, 72, 79, 82, 89, 99, 115, 131], 55, 0), (56, .iload 3, 1, 0), (57, .ireturn, 1, 0), (58, .aload 0, 1, 0), (59, .iload 3, 1, 0), (60, .sipush 0, 1, 0), (61, .invokevirtual 203, 3, 78), (64, .ireturn, 1, 0), (65, .aload 0, 1, 0), (66, .iload 3, 1, 0), (67, .sipush 4, 1, 0), (68, .invokevirtual 203, 3, 78), (71, .ireturn, 1, 0), (72, .aload 0, 1, 0), (73, .iload 3, 1, 0), (74, .sipush 5, 1, 0), (75, .invokevirtual 203, 3, 78), (78, .ireturn, 1, 0), (79, .iload 4, 2, 0), (81, .ireturn, 1, 0), (82, .aload 0, 1, 0), (83, .iload 4, 2, 0), (85, .invokevirtual 209, 3, 287), (88, .ireturn, 1, 0), (89, .aload 0, 1, 0), (90, .getfield 705, 3, 13), (93, .sipush 5, 1, 0), (94, .iaload, 1, 0), (95, .sipush 100, 2, 0), (97, .irem, 1, 0), (98, .ireturn, 1, 0), (99, .aload 0, 1, 0), (100, .iload 3, 1, 0), (101, .sipush 3, 1, 0), (102, .invokevirtual 203, 3, 78), (105, .sipush (-1), 1, 0), (106, .if_icmp .ne 113, 3, 0), (109, .sipush 0, 1, 0), (110, .goto 114, 3, 0), (113, .sipush 1, 1, 0), (114, .ireturn, 1, 0), (115, .aload 0, 1, 0), (116, .iload 3, 1, 0), (117, .sipush 1, 1, 0), (118, .invokevirtual 203, 3, 78), (121, .sipush (-1), 1, 0), (122, .if_icmp .ne 129, 3, 0), (125, .sipush 0, 1, 0), (126, .goto 130, 3, 0), (129, .sipush 1, 1, 0), (130, .ireturn, 1, 0), (131, .aload 0, 1, 0), (132, .iload 4, 2, 0), (134, .invokevirtual 209, 3, 287), (137, .aload 0, 1, 0), (138, .iload 4, 2, 0), (140, .sipush 1, 1, 0), (141, .invokevirtual 205, 3, 291), (144, .if_icmp .lt 151, 3, 0), (147, .sipush 1, 1, 0), (148, .goto 152, 3, 0), (151, .sipush 0, 1, 0), (152, .ireturn, 1, 0), (153, .iload 2, 1, 0), (154, .ireturn, 1, 0)]
/-- SinglesPastModel.holdsLine(III)Z -/
def tO_250 : List (Nat × av_O) := [(0, .sipush 0, 1, 0), (1, .istore 4, 2, 0), (3, .sipush 353, 3, 0), (6, .sipush 4, 1, 0), (7, .iload 1, 1, 0), (8, .imul, 1, 0), (9, .iadd, 1, 0), (10, .istore 5, 2, 0), (12, .aload 0, 1, 0), (13, .getfield 705, 3, 13), (16, .iload 5, 2, 0), (18, .sipush 2, 1, 0), (19, .iadd, 1, 0), (20, .iaload, 1, 0), (21, .istore 6, 2, 0), (23, .iload 6, 2, 0), (25, .aload 0, 1, 0), (26, .getfield 705, 3, 13), (29, .iload 5, 2, 0), (31, .sipush 3, 1, 0), (32, .iadd, 1, 0), (33, .iaload, 1, 0), (34, .if_icmp .ge 271, 3, 0), (37, .aload 0, 1, 0), (38, .getfield 705, 3, 13), (41, .sipush 401, 3, 0), (44, .sipush 2, 1, 0), (45, .iload 6, 2, 0), (47, .imul, 1, 0), (48, .iadd, 1, 0), (49, .iaload, 1, 0), (50, .istore 7, 2, 0), (52, .iload 7, 2, 0), (54, .sipush 10, 2, 0), (56, .if_icmp .gt 95, 3, 0), (59, .aload 0, 1, 0), (60, .getfield 721, 3, 39), (63, .iload 4, 2, 0), (65, .aload 0, 1, 0), (66, .iload 7, 2, 0), (68, .aload 0, 1, 0), (69, .getfield 705, 3, 13), (72, .sipush 401, 3, 0), (75, .sipush 2, 1, 0), (76, .iload 6, 2, 0), (78, .imul, 1, 0), (79, .iadd, 1, 0), (80, .sipush 1, 1, 0), (81, .iadd, 1, 0), (82, .iaload, 1, 0), (83, .iload 2, 1, 0), (84, .iload 3, 1, 0), (85, .invokevirtual 249, 3, 294), (88, .iastore, 1, 0), (89, .iinc 4 1, 3, 0), (92, .goto 265, 3, 0), (95, .iload 7, 2, 0), (97, .sipush 14, 2, 0), (99, .if_icmp .ne 125, 3, 0), (102, .aload 0, 1, 0), (103, .getfield 721, 3, 39), (106, .iload 4, 2, 0), (108, .sipush 1, 1, 0), (109, .isub, 1, 0), (110, .sipush 1, 1, 0), (111, .aload 0, 1, 0), (112, .getfield 721, 3, 39), (115, .iload 4, 2, 0), (117, .sipush 1, 1, 0), (118, .isub, 1, 0), (119, .iaload, 1, 0), (120, .isub, 1, 0), (121, .iastore, 1, 0), (122, .goto 265, 3, 0), (125, .iinc 4 (-1), 3, 0), (128, .aload 0, 1, 0), (129, .getfield 721, 3, 39), (132, .iload 4, 2, 0), (134, .sipush 1, 1, 0), (135, .isub, 1, 0), (136, .iaload, 1, 0), (137, .istore 8, 2, 0), (139, .aload 0, 1, 0), (140, .getfield 721, 3, 39), (143, .iload 4, 2, 0), (145, .iaload, 1, 0), (146, .istore 9, 2, 0), (148, .iload 7, 2, 0), (150, .sipush 12, 2, 0), (152, .if_icmp .ne 170, 3, 0), (155, .iload 8, 2, 0), (157, .iload 9, 2, 0), (159, .if_icmp .ge 166, 3, 0), (162, .sipush 1, 1, 0), (163, .goto 229, 3, 0), (166, .sipush 0, 1, 0), (167, .goto 229, 3, 0), (170, .iload 7, 2, 0), (172, .sipush 13, 2, 0), (174, .if_icmp .ne 192, 3, 0), (177, .iload 8, 2, 0), (179, .iload 9, 2, 0), (181, .if_icmp .le 188, 3, 0), (184, .sipush 1, 1, 0), (185, .goto 229, 3, 0), (188, .sipush 0, 1, 0), (189, .goto 229, 3, 0), (192, .iload 7, 2, 0), (194, .sipush 15, 2, 0), (196, .if_icmp .ne 216, 3, 0), (199, .iload 8, 2, 0), (201, .iload 9, 2, 0), (203, .iadd, 1, 0), (204, .sipush 2, 1, 0), (205, .if_icmp .ne 212, 3, 0), (208, .sipush 1, 1, 0), (209, .goto 229, 3, 0), (212, .sipush 0, 1, 0), (213, .goto 229, 3, 0), (216, .iload 8, 2, 0), (218, .iload 9, 2, 0), (220, .iadd, 1, 0), (221, .ifCond .le 228, 3, 0), (224, .sipush 1, 1, 0), (225, .goto 229, 3, 0), (228, .sipush 0, 1, 0), (229, .istore 10, 2, 0), (231, .aload 0, 1, 0), (232, .getfield 721, 3, 39), (235, .iload 4, 2, 0), (237, .sipush 1, 1, 0), (238, .isub, 1, 0), (239, .iload 7, 2, 0), (241, .sipush 11, 2, 0), (243, .if_icmp .ne 254, 3, 0), (246, .iload 8, 2, 0), (248, .iload 9, 2, 0), (250, .iadd, 1, 0), (251, .goto 264, 3, 0), (254, .iload 10, 2, 0), (256, .ifCond .eq 263, 3, 0), (259, .sipush 1, 1, 0), (260, .goto 264, 3, 0), (263, .sipush 0, 1, 0), (264, .iastore, 1, 0), (265, .iinc 6 1, 3, 0), (268, .goto 23, 3, 0), (271, .iload 4, 2, 0), (273, .ifCond .eq 286, 3, 0), (276, .aload 0, 1, 0), (277, .getfield 721, 3, 39), (280, .sipush 0, 1, 0), (281, .iaload, 1, 0), (282, .sipush 1, 1, 0), (283, .if_icmp .ne 290, 3, 0), (286, .sipush 1, 1, 0), (287, .goto 291, 3, 0), (290, .sipush 0, 1, 0), (291, .ireturn, 1, 0)]
/-- SinglesPastModel.sumOf(III)I -/
def tO_251 : List (Nat × av_O) := [(0, .sipush 0, 1, 0), (1, .istore 4, 2, 0), (3, .sipush 0, 1, 0), (4, .istore 5, 2, 0), (6, .aload 0, 1, 0), (7, .getfield 705, 3, 13), (10, .sipush 4, 1, 0), (11, .iaload, 1, 0), (12, .sipush 1, 1, 0), (13, .if_icmp .ne 83, 3, 0), (16, .iload 5, 2, 0), (18, .aload 0, 1, 0), (19, .getfield 705, 3, 13), (22, .sipush 352, 3, 0), (25, .iaload, 1, 0), (26, .if_icmp .ge 83, 3, 0), (29, .aload 0, 1, 0), (30, .getfield 705, 3, 13), (33, .sipush 353, 3, 0), (36, .sipush 4, 1, 0), (37, .iload 5, 2, 0), (39, .imul, 1, 0), (40, .iadd, 1, 0), (41, .iaload, 1, 0), (42, .iload 1, 1, 0), (43, .if_icmp .ne 77, 3, 0), (46, .aload 0, 1, 0), (47, .iload 5, 2, 0), (49, .iload 2, 1, 0), (50, .iload 3, 1, 0), (51, .invokevirtual 250, 3, 298), (54, .ifCond .eq 77, 3, 0), (57, .iload 4, 2, 0), (59, .aload 0, 1, 0), (60, .getfield 705, 3, 13), (63, .sipush 353, 3, 0), (66, .sipush 4, 1, 0), (67, .iload 5, 2, 0), (69, .imul, 1, 0), (70, .iadd, 1, 0), (71, .sipush 1, 1, 0), (72, .iadd, 1, 0), (73, .iaload, 1, 0), (74, .iadd, 1, 0), (75, .istore 4, 2, 0), (77, .iinc 5 1, 3, 0), (80, .goto 6, 3, 0), (83, .iload 4, 2, 0), (85, .ireturn, 1, 0)]
/-- SinglesPastModel.isBarred(II)Z -/
def tO_252 : List (Nat × av_O) := [(0, .sipush 0, 1, 0), (1, .istore 3, 1, 0), (2, .sipush 0, 1, 0), (3, .istore 4, 2, 0), (5, .aload 0, 1, 0), (6, .getfield 705, 3, 13), (9, .sipush 4, 1, 0), (10, .iaload, 1, 0), (11, .sipush 1, 1, 0), (12, .if_icmp .ne 72, 3, 0), (15, .iload 4, 2, 0), (17, .aload 0, 1, 0), (18, .getfield 705, 3, 13), (21, .sipush 352, 3, 0), (24, .iaload, 1, 0), (25, .if_icmp .ge 72, 3, 0), (28, .iload 3, 1, 0), (29, .ifCond .ne 60, 3, 0), (32, .aload 0, 1, 0), (33, .getfield 705, 3, 13), (36, .sipush 353, 3, 0), (39, .sipush 4, 1, 0), (40, .iload 4, 2, 0), (42, .imul, 1, 0), (43, .iadd, 1, 0), (44, .iaload, 1, 0), (45, .sipush 2, 1, 0), (46, .if_icmp .ne 64, 3, 0), (49, .aload 0, 1, 0), (50, .iload 4, 2, 0), (52, .iload 1, 1, 0), (53, .iload 2, 1, 0), (54, .invokevirtual 250, 3, 298), (57, .ifCond .eq 64, 3, 0), (60, .sipush 1, 1, 0), (61, .goto 65, 3, 0), (64, .sipush 0, 1, 0), (65, .istore 3, 1, 0), (66, .iinc 4 1, 3, 0), (69, .goto 5, 3, 0), (72, .iload 3, 1, 0), (73, .ireturn, 1, 0)]
/-- SinglesPastModel.costOf(II)I -/
def tO_253 : List (Nat × av_O) := [(0, .sipush 10, 2, 0), (2, .aload 0, 1, 0), (3, .sipush 0, 1, 0), (4, .iload 1, 1, 0), (5, .iload 2, 1, 0), (6, .invokevirtual 251, 3, 301), (9, .iadd, 1, 0), (10, .ireturn, 1, 0)]
/-- SinglesPastModel.fearOf(II)I -/
def tO_254 : List (Nat × av_O) := [(0, .aload 0, 1, 0), (1, .sipush 1, 1, 0), (2, .iload 1, 1, 0), (3, .iload 2, 1, 0), (4, .invokevirtual 251, 3, 301), (7, .ireturn, 1, 0)]
/-- SinglesPastModel.stopsFor(II)Z -/
def tO_255 : List (Nat × av_O) := [(0, .aload 0, 1, 0), (1, .iload 2, 1, 0), (2, .sipush 0, 1, 0), (3, .invokevirtual 205, 3, 291), (6, .aload 0, 1, 0), (7, .iload 1, 1, 0), (8, .sipush 0, 1, 0), (9, .invokevirtual 203, 3, 78), (12, .invokestatic 189, 3, 170), (15, .ireturn, 1, 0)]
/-- SinglesPastModel.meetsNone(II)Z -/
def tO_256 : List (Nat × av_O) := [(0, .sipush 1, 1, 0), (1, .istore 3, 1, 0), (2, .sipush 0, 1, 0), (3, .istore 4, 2, 0), (5, .iload 4, 2, 0), (7, .aload 0, 1, 0), (8, .invokevirtual 198, 3, 74), (11, .if_icmp .ge 66, 3, 0), (14, .iload 3, 1, 0), (15, .ifCond .eq 58, 3, 0), (18, .aload 0, 1, 0), (19, .iload 1, 1, 0), (20, .sipush 6, 2, 0), (22, .invokevirtual 203, 3, 78), (25, .iload 4, 2, 0), (27, .invokestatic 189, 3, 170), (30, .ifCond .eq 54, 3, 0), (33, .aload 0, 1, 0), (34, .iload 4, 2, 0), (36, .invokevirtual 207, 3, 81), (39, .ifCond .eq 54, 3, 0), (42, .aload 0, 1, 0), (43, .iload 4, 2, 0), (45, .sipush 8, 2, 0), (47, .invokevirtual 203, 3, 78), (50, .iload 2, 1, 0), (51, .if_icmp .eq 58, 3, 0), (54, .sipush 1, 1, 0), (55, .goto 59, 3, 0), (58, .sipush 0, 1, 0), (59, .istore 3, 1, 0), (60, .iinc 4 1, 3, 0), (63, .goto 5, 3, 0), (66, .iload 3, 1, 0), (67, .ireturn, 1, 0)]
/-- SinglesPastModel.canGo(II)Z -/
def tO_257 : List (Nat × av_O) := [(0, .aload 0, 1, 0), (1, .iload 1, 1, 0), (2, .invokevirtual 207, 3, 81), (5, .ifCond .ne 68, 3, 0), (8, .aload 0, 1, 0), (9, .iload 1, 1, 0), (10, .iload 2, 1, 0), (11, .invokevirtual 255, 3, 305), (14, .ifCond .eq 68, 3, 0), (17, .aload 0, 1, 0), (18, .iload 2, 1, 0), (19, .invokevirtual 209, 3, 287), (22, .aload 0, 1, 0), (23, .iload 2, 1, 0), (24, .sipush 1, 1, 0), (25, .invokevirtual 205, 3, 291), (28, .if_icmp .ge 68, 3, 0), (31, .aload 0, 1, 0), (32, .iload 1, 1, 0), (33, .iload 2, 1, 0), (34, .invokevirtual 253, 3, 308), (37, .aload 0, 1, 0), (38, .iload 1, 1, 0), (39, .sipush 4, 1, 0), (40, .invokevirtual 203, 3, 78), (43, .if_icmp .gt 68, 3, 0), (46, .aload 0, 1, 0), (47, .iload 1, 1, 0), (48, .iload 2, 1, 0), (49, .invokevirtual 252, 3, 311), (52, .ifCond .ne 68, 3, 0), (55, .aload 0, 1, 0), (56, .iload 1, 1, 0), (57, .iload 2, 1, 0), (58, .invokevirtual 256, 3, 314), (61, .ifCond .eq 68, 3, 0), (64, .sipush 1, 1, 0), (65, .goto 69, 3, 0), (68, .sipush 0, 1, 0), (69, .ireturn, 1, 0)]
/-- SinglesPastModel.trainOf(I)I -/
def tO_258 : List (Nat × av_O) := [(0, .sipush (-1), 1, 0), (1, .istore 2, 1, 0), (2, .aload 0, 1, 0), (3, .invokevirtual 199, 3, 92), (6, .sipush 1, 1, 0), (7, .isub, 1, 0), (8, .istore 3, 1, 0), (9, .iload 3, 1, 0), (10, .ifCond .lt 34, 3, 0), (13, .aload 0, 1, 0), (14, .iload 1, 1, 0), (15, .iload 3, 1, 0), (16, .invokevirtual 257, 3, 317), (19, .ifCond .eq 26, 3, 0), (22, .iload 3, 1, 0), (23, .goto 27, 3, 0), (26, .iload 2, 1, 0), (27, .istore 2, 1, 0), (28, .iinc 3 (-1), 3, 0), (31, .goto 9, 3, 0), (34, .iload 2, 1, 0), (35, .ireturn, 1, 0)]
/-- SinglesPastModel.isTold(III)V -/
def tO_259 : List (Nat × av_O) := [(0, .sipush 239, 3, 0), (3, .istore 4, 2, 0), (5, .iload 4, 2, 0), (7, .sipush 4, 1, 0), (8, .if_icmp .lt 39, 3, 0), (11, .aload 0, 1, 0), (12, .getfield 705, 3, 13), (15, .sipush 112, 2, 0), (17, .iload 4, 2, 0), (19, .iadd, 1, 0), (20, .aload 0, 1, 0), (21, .getfield 705, 3, 13), (24, .sipush 112, 2, 0), (26, .iload 4, 2, 0), (28, .iadd, 1, 0), (29, .sipush 4, 1, 0), (30, .isub, 1, 0), (31, .iaload, 1, 0), (32, .iastore, 1, 0), (33, .iinc 4 (-1), 3, 0), (36, .goto 5, 3, 0), (39, .aload 0, 1, 0), (40, .getfield 705, 3, 13), (43, .sipush 112, 2, 0), (45, .aload 0, 1, 0), (46, .getfield 705, 3, 13), (49, .sipush 5, 1, 0), (50, .iaload, 1, 0), (51, .iastore, 1, 0), (52, .aload 0, 1, 0), (53, .getfield 705, 3, 13), (56, .sipush 113, 2, 0), (58, .iload 1, 1, 0), (59, .iastore, 1, 0), (60, .aload 0, 1, 0), (61, .getfield 705, 3, 13), (64, .sipush 114, 2, 0), (66, .iload 2, 1, 0), (67, .iastore, 1, 0), (68, .aload 0, 1, 0), (69, .getfield 705, 3, 13), (72, .sipush 115, 2, 0), (74, .iload 3, 1, 0), (75, .iastore, 1, 0), (76, .aload 0, 1, 0), (77, .getfield 705, 3, 13), (80, .sipush 6, 2, 0), (82, .sipush 60, 2, 0), (84, .aload 0, 1, 0), (85, .getfield 705, 3, 13), (88, .sipush 6, 2, 0), (90, .iaload, 1, 0), (91, .sipush 1, 1, 0), (92, .iadd, 1, 0), (93, .invokedynamic 5, 3, 320), (96, .iastore, 1, 0), (97, .return_, 1, 0)]
/-- SinglesPastModel.isSold(II)I -/
def tO_260 : List (Nat × av_O) := [(0, .aload 0, 1, 0), (1, .iload 1, 1, 0), (2, .iload 2, 1, 0), (3, .invokevirtual 253, 3, 308), (6, .istore 3, 1, 0), (7, .aload 0, 1, 0), (8, .getfield 705, 3, 13), (11, .iload 1, 1, 0), (12, .sipush 4, 1, 0), (13, .invokestatic 202, 3, 68), (16, .dup2, 1, 0), (17, .iaload, 1, 0), (18, .iload 3, 1, 0), (19, .isub, 1, 0), (20, .iastore, 1, 0), (21, .aload 0, 1, 0), (22, .getfield 705, 3, 13), (25, .iload 1, 1, 0), (26, .sipush 7, 2, 0), (28, .invokestatic 202, 3, 68), (31, .sipush 1, 1, 0), (32, .iastore, 1, 0), (33, .aload 0, 1, 0), (34, .getfield 705, 3, 13), (37, .iload 1, 1, 0), (38, .sipush 8, 2, 0), (40, .invokestatic 202, 3, 68), (43, .iload 2, 1, 0), (44, .iastore, 1, 0), (45, .aload 0, 1, 0), (46, .iload 1, 1, 0), (47, .iload 2, 1, 0), (48, .iload 3, 1, 0), (49, .invokevirtual 259, 3, 323), (52, .iload 3, 1, 0), (53, .ireturn, 1, 0)]
/-- SinglesPastModel.decides(IZ)Z -/
def tO_261 : List (Nat × av_O) := [(0, .aload 0, 1, 0), (1, .iload 1, 1, 0), (2, .invokevirtual 258, 3, 327), (5, .istore 3, 1, 0), (6, .iload 2, 1, 0), (7, .ifCond .ne 41, 3, 0), (10, .aload 0, 1, 0), (11, .sipush 100, 2, 0), (13, .invokevirtual 214, 3, 330), (16, .iload 3, 1, 0), (17, .sipush (-1), 1, 0), (18, .if_icmp .ne 25, 3, 0), (21, .sipush 0, 1, 0), (22, .goto 38, 3, 0), (25, .aload 0, 1, 0), (26, .iload 1, 1, 0), (27, .sipush 5, 1, 0), (28, .invokevirtual 203, 3, 78), (31, .aload 0, 1, 0), (32, .iload 1, 1, 0), (33, .iload 3, 1, 0), (34, .invokevirtual 254, 3, 333), (37, .isub, 1, 0), (38, .if_icmp .ge 45, 3, 0), (41, .sipush 1, 1, 0), (42, .goto 46, 3, 0), (45, .sipush 0, 1, 0), (46, .istore 4, 2, 0), (48, .iload 3, 1, 0), (49, .sipush (-1), 1, 0), (50, .if_icmp .eq 58, 3, 0), (53, .iload 4, 2, 0), (55, .ifCond .ne 60, 3, 0), (58, .sipush 0, 1, 0), (59, .ireturn, 1, 0), (60, .aload 0, 1, 0), (61, .iload 1, 1, 0), (62, .iload 3, 1, 0), (63, .invokevirtual 260, 3, 336), (66, .pop, 1, 0), (67, .sipush 1, 1, 0), (68, .ireturn, 1, 0)]
/-- SinglesPastModel.oneDay(Z)I -/
def tO_262 : List (Nat × av_O) := [(0, .sipush 0, 1, 0), (1, .istore 2, 1, 0), (2, .sipush 0, 1, 0), (3, .istore 3, 1, 0), (4, .iload 3, 1, 0), (5, .aload 0, 1, 0), (6, .invokevirtual 198, 3, 74), (9, .if_icmp .ge 43, 3, 0), (12, .iload 2, 1, 0), (13, .aload 0, 1, 0), (14, .iload 3, 1, 0), (15, .invokevirtual 207, 3, 81), (18, .ifCond .ne 34, 3, 0), (21, .aload 0, 1, 0), (22, .iload 3, 1, 0), (23, .iload 1, 1, 0), (24, .invokevirtual 261, 3, 339), (27, .ifCond .eq 34, 3, 0), (30, .sipush 1, 1, 0), (31, .goto 35, 3, 0), (34, .sipush 0, 1, 0), (35, .iadd, 1, 0), (36, .istore 2, 1, 0), (37, .iinc 3 1, 3, 0), (40, .goto 4, 3, 0), (43, .aload 0, 1, 0), (44, .getfield 705, 3, 13), (47, .sipush 5, 1, 0), (48, .sipush 9999, 3, 0), (51, .aload 0, 1, 0), (52, .getfield 705, 3, 13), (55, .sipush 5, 1, 0), (56, .iaload, 1, 0), (57, .sipush 1, 1, 0), (58, .iadd, 1, 0), (59, .invokedynamic 5, 3, 320), (62, .iastore, 1, 0), (63, .iload 2, 1, 0), (64, .ireturn, 1, 0)]
/-- SinglesPastModel.goesOn(IZ)I -/
def tO_263 : List (Nat × av_O) := [(0, .sipush 0, 1, 0), (1, .istore 3, 1, 0), (2, .sipush 0, 1, 0), (3, .istore 4, 2, 0), (5, .iload 4, 2, 0), (7, .iload 1, 1, 0), (8, .if_icmp .ge 25, 3, 0), (11, .iload 3, 1, 0), (12, .aload 0, 1, 0), (13, .iload 2, 1, 0), (14, .invokevirtual 262, 3, 343), (17, .iadd, 1, 0), (18, .istore 3, 1, 0), (19, .iinc 4 1, 3, 0), (22, .goto 5, 3, 0), (25, .iload 3, 1, 0), (26, .ireturn, 1, 0)]
/-- SinglesPastModel.isSo(II)Z -/
def tO_264 : List (Nat × av_O) := [(0, .aload 0, 1, 0), (1, .iload 1, 1, 0), (2, .sipush 1, 1, 0), (3, .invokevirtual 201, 3, 150), (6, .sipush 1, 1, 0), (7, .if_icmp .ne 14, 3, 0), (10, .sipush 1, 1, 0), (11, .goto 15, 3, 0), (14, .sipush 0, 1, 0), (15, .istore 3, 1, 0), (16, .sipush 0, 1, 0), (17, .istore 4, 2, 0), (19, .sipush 0, 1, 0), (20, .istore 5, 2, 0), (22, .iload 5, 2, 0), (24, .aload 0, 1, 0), (25, .invokevirtual 197, 3, 85), (28, .if_icmp .ge 111, 3, 0), (31, .iload 3, 1, 0), (32, .ifCond .ne 61, 3, 0), (35, .aload 0, 1, 0), (36, .getfield 722, 3, 346), (39, .iload 5, 2, 0), (41, .invokestatic 189, 3, 170), (44, .ifCond .eq 65, 3, 0), (47, .aload 0, 1, 0), (48, .iload 5, 2, 0), (50, .sipush 3, 1, 0), (51, .invokevirtual 201, 3, 150), (54, .iload 1, 1, 0), (55, .invokestatic 189, 3, 170), (58, .ifCond .eq 65, 3, 0), (61, .sipush 1, 1, 0), (62, .goto 66, 3, 0), (65, .sipush 0, 1, 0), (66, .istore 3, 1, 0), (67, .iload 4, 2, 0), (69, .ifCond .ne 98, 3, 0), (72, .aload 0, 1, 0), (73, .getfield 722, 3, 346), (76, .iload 5, 2, 0), (78, .invokestatic 189, 3, 170), (81, .ifCond .eq 102, 3, 0), (84, .aload 0, 1, 0), (85, .iload 5, 2, 0), (87, .sipush 4, 1, 0), (88, .invokevirtual 201, 3, 150), (91, .iload 1, 1, 0), (92, .invokestatic 189, 3, 170), (95, .ifCond .eq 102, 3, 0), (98, .sipush 1, 1, 0), (99, .goto 103, 3, 0), (102, .sipush 0, 1, 0), (103, .istore 4, 2, 0), (105, .iinc 5 1, 3, 0), (108, .goto 22, 3, 0), (111, .iload 3, 1, 0), (112, .ifCond .eq 124, 3, 0), (115, .iload 4, 2, 0), (117, .ifCond .ne 124, 3, 0), (120, .sipush 1, 1, 0), (121, .goto 125, 3, 0), (124, .sipush 0, 1, 0), (125, .istore 3, 1, 0), (126, .sipush 0, 1, 0), (127, .istore 5, 2, 0), (129, .iload 5, 2, 0), (131, .aload 0, 1, 0), (132, .invokevirtual 198, 3, 74), (135, .if_icmp .ge 197, 3, 0), (138, .iload 2, 1, 0), (139, .iload 5, 2, 0), (141, .invokestatic 189, 3, 170), (144, .ifCond .eq 191, 3, 0), (147, .aload 0, 1, 0), (148, .iload 5, 2, 0), (150, .sipush 1, 1, 0), (151, .invokevirtual 203, 3, 78), (154, .iload 1, 1, 0), (155, .if_icmp .ne 191, 3, 0), (158, .aload 0, 1, 0), (159, .iload 5, 2, 0), (161, .sipush 0, 1, 0), (162, .invokevirtual 203, 3, 78), (165, .aload 0, 1, 0), (166, .iload 1, 1, 0), (167, .sipush 0, 1, 0), (168, .invokevirtual 201, 3, 150), (171, .if_icmp .gt 191, 3, 0), (174, .aload 0, 1, 0), (175, .iload 5, 2, 0), (177, .sipush 2, 1, 0), (178, .invokevirtual 203, 3, 78), (181, .sipush 1, 1, 0), (182, .if_icmp .ne 189, 3, 0), (185, .sipush 1, 1, 0), (186, .goto 190, 3, 0), (189, .sipush 0, 1, 0), (190, .istore 3, 1, 0), (191, .iinc 5 1, 3, 0), (194, .goto 129, 3, 0), (197, .iload 3, 1, 0), (198, .ireturn, 1, 0)]
/-- SinglesPastModel.worldOf(I)I -/
def tO_265 : List (Nat × av_O) := [(0, .aload 0, 1, 0), (1, .sipush 0, 1, 0), (2, .putfield 722, 3, 346), (5, .sipush 0, 1, 0), (6, .istore 2, 1, 0), (7, .iload 2, 1, 0), (8, .sipush 16, 2, 0), (10, .if_icmp .ge 66, 3, 0), (13, .sipush 0, 1, 0), (14, .istore 3, 1, 0), (15, .iload 3, 1, 0), (16, .aload 0, 1, 0), (17, .invokevirtual 197, 3, 85), (20, .if_icmp .ge 60, 3, 0), (23, .aload 0, 1, 0), (24, .iload 3, 1, 0), (25, .sipush 0, 1, 0), (26, .invokevirtual 201, 3, 150), (29, .iload 2, 1, 0), (30, .if_icmp .ne 54, 3, 0), (33, .aload 0, 1, 0), (34, .iload 3, 1, 0), (35, .iload 1, 1, 0), (36, .invokevirtual 264, 3, 348), (39, .ifCond .eq 54, 3, 0), (42, .aload 0, 1, 0), (43, .dup, 1, 0), (44, .getfield 722, 3, 346), (47, .sipush 1, 1, 0), (48, .iload 3, 1, 0), (49, .ishl, 1, 0), (50, .ior, 1, 0), (51, .putfield 722, 3, 346), (54, .iinc 3 1, 3, 0), (57, .goto 15, 3, 0), (60, .iinc 2 1, 3, 0), (63, .goto 7, 3, 0), (66, .aload 0, 1, 0), (67, .getfield 722, 3, 346), (70, .ireturn, 1, 0)]
/-- SinglesPastModel.bornIn(II)I -/
def tO_266 : List (Nat × av_O) := [(0, .sipush 0, 1, 0), (1, .istore 3, 1, 0), (2, .sipush 0, 1, 0), (3, .istore 4, 2, 0), (5, .iload 4, 2, 0), (7, .aload 0, 1, 0), (8, .invokevirtual 198, 3, 74), (11, .if_icmp .ge 65, 3, 0), (14, .iload 3, 1, 0), (15, .iload 1, 1, 0), (16, .iload 4, 2, 0), (18, .invokestatic 189, 3, 170), (21, .ifCond .eq 56, 3, 0), (24, .aload 0, 1, 0), (25, .iload 4, 2, 0), (27, .sipush 3, 1, 0), (28, .invokevirtual 203, 3, 78), (31, .sipush (-1), 1, 0), (32, .if_icmp .eq 49, 3, 0), (35, .iload 2, 1, 0), (36, .aload 0, 1, 0), (37, .iload 4, 2, 0), (39, .sipush 3, 1, 0), (40, .invokevirtual 203, 3, 78), (43, .invokestatic 189, 3, 170), (46, .ifCond .eq 56, 3, 0), (49, .sipush 1, 1, 0), (50, .iload 4, 2, 0), (52, .ishl, 1, 0), (53, .goto 57, 3, 0), (56, .sipush 0, 1, 0), (57, .ior, 1, 0), (58, .istore 3, 1, 0), (59, .iinc 4 1, 3, 0), (62, .goto 5, 3, 0), (65, .iload 3, 1, 0), (66, .ireturn, 1, 0)]
/-- SinglesPastModel.agreesBy(II)Z -/
def tO_267 : List (Nat × av_O) := [(0, .iload 1, 1, 0), (1, .iload 2, 1, 0), (2, .sipush (-1), 1, 0), (3, .ixor, 1, 0), (4, .iand, 1, 0), (5, .ifCond .ne 26, 3, 0), (8, .aload 0, 1, 0), (9, .iload 2, 1, 0), (10, .aload 0, 1, 0), (11, .iload 1, 1, 0), (12, .invokevirtual 265, 3, 351), (15, .invokevirtual 266, 3, 354), (18, .iload 1, 1, 0), (19, .if_icmp .ne 26, 3, 0), (22, .sipush 1, 1, 0), (23, .goto 27, 3, 0), (26, .sipush 0, 1, 0), (27, .ireturn, 1, 0)]
/-- SinglesPastModel.pastBy(I)I -/
def tO_268 : List (Nat × av_O) := [(0, .sipush (-1), 1, 0), (1, .istore 2, 1, 0), (2, .sipush 0, 1, 0), (3, .istore 3, 1, 0), (4, .iload 3, 1, 0), (5, .iload 1, 1, 0), (6, .if_icmp .gt 42, 3, 0), (9, .aload 0, 1, 0), (10, .iload 3, 1, 0), (11, .iload 1, 1, 0), (12, .invokevirtual 267, 3, 357), (15, .ifCond .eq 36, 3, 0), (18, .iload 2, 1, 0), (19, .sipush (-1), 1, 0), (20, .if_icmp .eq 34, 3, 0), (23, .iload 3, 1, 0), (24, .invokestatic 357, 3, 360), (27, .iload 2, 1, 0), (28, .invokestatic 357, 3, 360), (31, .if_icmp .ge 36, 3, 0), (34, .iload 3, 1, 0), (35, .istore 2, 1, 0), (36, .iinc 3 1, 3, 0), (39, .goto 4, 3, 0), (42, .iload 2, 1, 0), (43, .ireturn, 1, 0)]
/-- SinglesPastModel.nowBy(I)I -/
def tO_269 : List (Nat × av_O) := [(0, .aload 0, 1, 0), (1, .iload 1, 1, 0), (2, .invokevirtual 268, 3, 365), (5, .istore 2, 1, 0), (6, .aload 0, 1, 0), (7, .iload 2, 1, 0), (8, .sipush (-1), 1, 0), (9, .if_icmp .ne 16, 3, 0), (12, .sipush 0, 1, 0), (13, .goto 17, 3, 0), (16, .iload 2, 1, 0), (17, .invokevirtual 265, 3, 351), (20, .ireturn, 1, 0)]
/-- SinglesPastModel.manyAgree()I -/
def tO_270 : List (Nat × av_O) := [(0, .sipush 0, 1, 0), (1, .istore 1, 1, 0), (2, .sipush 0, 1, 0), (3, .istore 2, 1, 0), (4, .iload 2, 1, 0), (5, .aload 0, 1, 0), (6, .invokevirtual 206, 3, 368), (9, .if_icmp .gt 38, 3, 0), (12, .iload 1, 1, 0), (13, .aload 0, 1, 0), (14, .iload 2, 1, 0), (15, .aload 0, 1, 0), (16, .invokevirtual 208, 3, 371), (19, .invokevirtual 267, 3, 357), (22, .ifCond .eq 29, 3, 0), (25, .sipush 1, 1, 0), (26, .goto 30, 3, 0), (29, .sipush 0, 1, 0), (30, .iadd, 1, 0), (31, .istore 1, 1, 0), (32, .iinc 2 1, 3, 0), (35, .goto 4, 3, 0), (38, .iload 1, 1, 0), (39, .ireturn, 1, 0)]
/-- SinglesPastModel.world(I)I -/
def tO_271 : List (Nat × av_O) := [(0, .aload 0, 1, 0), (1, .sipush 0, 1, 0), (2, .putfield 704, 3, 3), (5, .aload 0, 1, 0), (6, .iload 1, 1, 0), (7, .aload 0, 1, 0), (8, .invokevirtual 206, 3, 368), (11, .iand, 1, 0), (12, .invokevirtual 265, 3, 351), (15, .ireturn, 1, 0)]
/-- SinglesPastModel.agrees(I)Z -/
def tO_272 : List (Nat × av_O) := [(0, .aload 0, 1, 0), (1, .sipush 0, 1, 0), (2, .putfield 704, 3, 3), (5, .aload 0, 1, 0), (6, .iload 1, 1, 0), (7, .aload 0, 1, 0), (8, .invokevirtual 206, 3, 368), (11, .iand, 1, 0), (12, .aload 0, 1, 0), (13, .invokevirtual 208, 3, 371), (16, .invokevirtual 267, 3, 357), (19, .ireturn, 1, 0)]
/-- SinglesPastModel.agree()I -/
def tO_273 : List (Nat × av_O) := [(0, .aload 0, 1, 0), (1, .sipush 0, 1, 0), (2, .putfield 704, 3, 3), (5, .aload 0, 1, 0), (6, .invokevirtual 270, 3, 374), (9, .ireturn, 1, 0)]
/-- SinglesPastModel.past()I -/
def tO_274 : List (Nat × av_O) := [(0, .aload 0, 1, 0), (1, .sipush 0, 1, 0), (2, .putfield 704, 3, 3), (5, .aload 0, 1, 0), (6, .aload 0, 1, 0), (7, .invokevirtual 208, 3, 371), (10, .invokevirtual 268, 3, 365), (13, .ireturn, 1, 0)]
/-- SinglesPastModel.now()I -/
def tO_275 : List (Nat × av_O) := [(0, .aload 0, 1, 0), (1, .sipush 0, 1, 0), (2, .putfield 704, 3, 3), (5, .aload 0, 1, 0), (6, .aload 0, 1, 0), (7, .invokevirtual 208, 3, 371), (10, .invokevirtual 269, 3, 377), (13, .ireturn, 1, 0)]
/-- SinglesPastModel.ring()I -/
def tO_276 : List (Nat × av_O) := [(0, .aload 0, 1, 0), (1, .sipush 0, 1, 0), (2, .putfield 704, 3, 3), (5, .aload 0, 1, 0), (6, .invokevirtual 208, 3, 371), (9, .istore 1, 1, 0), (10, .sipush (-1), 1, 0), (11, .istore 2, 1, 0), (12, .sipush 0, 1, 0), (13, .istore 3, 1, 0), (14, .iload 3, 1, 0), (15, .iload 1, 1, 0), (16, .if_icmp .gt 60, 3, 0), (19, .iload 3, 1, 0), (20, .iload 1, 1, 0), (21, .sipush (-1), 1, 0), (22, .ixor, 1, 0), (23, .iand, 1, 0), (24, .ifCond .ne 54, 3, 0), (27, .iload 2, 1, 0), (28, .sipush (-1), 1, 0), (29, .if_icmp .eq 43, 3, 0), (32, .iload 3, 1, 0), (33, .invokestatic 357, 3, 360), (36, .iload 2, 1, 0), (37, .invokestatic 357, 3, 360), (40, .if_icmp .ge 54, 3, 0), (43, .aload 0, 1, 0), (44, .iload 3, 1, 0), (45, .invokevirtual 268, 3, 365), (48, .sipush (-1), 1, 0), (49, .if_icmp .ne 54, 3, 0), (52, .iload 3, 1, 0), (53, .istore 2, 1, 0), (54, .iinc 3 1, 3, 0), (57, .goto 14, 3, 0), (60, .iload 2, 1, 0), (61, .ireturn, 1, 0)]
/-- SinglesPastModel.ifOtherwise(I)I -/
def tO_277 : List (Nat × av_O) := [(0, .aload 0, 1, 0), (1, .aload 0, 1, 0), (2, .invokevirtual 208, 3, 371), (5, .sipush 1, 1, 0), (6, .iload 1, 1, 0), (7, .ishl, 1, 0), (8, .ixor, 1, 0), (9, .invokevirtual 269, 3, 377), (12, .ireturn, 1, 0)]
/-- SinglesPastModel.otherwise(I)I -/
def tO_278 : List (Nat × av_O) := [(0, .aload 0, 1, 0), (1, .sipush 0, 1, 0), (2, .putfield 704, 3, 3), (5, .aload 0, 1, 0), (6, .aload 0, 1, 0), (7, .iload 1, 1, 0), (8, .invokevirtual 211, 3, 380), (11, .sipush 1, 1, 0), (12, .invokevirtual 187, 3, 284), (15, .ifCond .eq 22, 3, 0), (18, .sipush 0, 1, 0), (19, .goto 27, 3, 0), (22, .aload 0, 1, 0), (23, .iload 1, 1, 0), (24, .invokevirtual 277, 3, 383), (27, .ireturn, 1, 0)]
/-- SinglesPastModel.worthOf(I)I -/
def tO_279 : List (Nat × av_O) := [(0, .sipush 0, 1, 0), (1, .istore 2, 1, 0), (2, .sipush 0, 1, 0), (3, .istore 3, 1, 0), (4, .iload 3, 1, 0), (5, .aload 0, 1, 0), (6, .invokevirtual 197, 3, 85), (9, .if_icmp .ge 39, 3, 0), (12, .iload 2, 1, 0), (13, .iload 1, 1, 0), (14, .iload 3, 1, 0), (15, .invokestatic 189, 3, 170), (18, .ifCond .eq 30, 3, 0), (21, .aload 0, 1, 0), (22, .iload 3, 1, 0), (23, .sipush 2, 1, 0), (24, .invokevirtual 201, 3, 150), (27, .goto 31, 3, 0), (30, .sipush 0, 1, 0), (31, .iadd, 1, 0), (32, .istore 2, 1, 0), (33, .iinc 3 1, 3, 0), (36, .goto 4, 3, 0), (39, .iload 2, 1, 0), (40, .ireturn, 1, 0)]
/-- SinglesPastModel.changesOf(I)I -/
def tO_280 : List (Nat × av_O) := [(0, .aload 0, 1, 0), (1, .iload 1, 1, 0), (2, .invokevirtual 277, 3, 383), (5, .aload 0, 1, 0), (6, .aload 0, 1, 0), (7, .invokevirtual 208, 3, 371), (10, .invokevirtual 269, 3, 377), (13, .ixor, 1, 0), (14, .ireturn, 1, 0)]
/-- SinglesPastModel.heavy()I -/
def tO_281 : List (Nat × av_O) := [(0, .aload 0, 1, 0), (1, .sipush 0, 1, 0), (2, .putfield 704, 3, 3), (5, .sipush (-1), 1, 0), (6, .istore 1, 1, 0), (7, .sipush (-1), 1, 0), (8, .istore 2, 1, 0), (9, .sipush 0, 1, 0), (10, .istore 3, 1, 0), (11, .iload 3, 1, 0), (12, .aload 0, 1, 0), (13, .invokevirtual 198, 3, 74), (16, .if_icmp .ge 55, 3, 0), (19, .aload 0, 1, 0), (20, .aload 0, 1, 0), (21, .iload 3, 1, 0), (22, .invokevirtual 280, 3, 386), (25, .invokevirtual 279, 3, 389), (28, .istore 4, 2, 0), (30, .iload 4, 2, 0), (32, .iload 2, 1, 0), (33, .if_icmp .le 40, 3, 0), (36, .iload 3, 1, 0), (37, .goto 41, 3, 0), (40, .iload 1, 1, 0), (41, .istore 1, 1, 0), (42, .iload 2, 1, 0), (43, .iload 4, 2, 0), (45, .invokedynamic 4, 3, 165), (48, .istore 2, 1, 0), (49, .iinc 3 1, 3, 0), (52, .goto 11, 3, 0), (55, .iload 1, 1, 0), (56, .ireturn, 1, 0)]
/-- SinglesPastModel.lineOf(I)I -/
def tO_282 : List (Nat × av_O) := [(0, .sipush 0, 1, 0), (1, .istore 2, 1, 0), (2, .iload 2, 1, 0), (3, .sipush 8, 2, 0), (5, .if_icmp .ge 21, 3, 0), (8, .aload 0, 1, 0), (9, .getfield 723, 3, 42), (12, .iload 2, 1, 0), (13, .sipush 1, 1, 0), (14, .iastore, 1, 0), (15, .iinc 2 1, 3, 0), (18, .goto 2, 3, 0), (21, .sipush 0, 1, 0), (22, .istore 2, 1, 0), (23, .iload 2, 1, 0), (24, .sipush 16, 2, 0), (26, .if_icmp .ge 125, 3, 0), (29, .sipush 0, 1, 0), (30, .istore 3, 1, 0), (31, .iload 3, 1, 0), (32, .aload 0, 1, 0), (33, .invokevirtual 197, 3, 85), (36, .if_icmp .ge 119, 3, 0), (39, .sipush 0, 1, 0), (40, .istore 4, 2, 0), (42, .iload 4, 2, 0), (44, .aload 0, 1, 0), (45, .invokevirtual 197, 3, 85), (48, .if_icmp .ge 113, 3, 0), (51, .aload 0, 1, 0), (52, .iload 3, 1, 0), (53, .sipush 0, 1, 0), (54, .invokevirtual 201, 3, 150), (57, .iload 2, 1, 0), (58, .if_icmp .ne 113, 3, 0), (61, .aload 0, 1, 0), (62, .iload 4, 2, 0), (64, .sipush 3, 1, 0), (65, .invokevirtual 201, 3, 150), (68, .aload 0, 1, 0), (69, .iload 4, 2, 0), (71, .sipush 4, 1, 0), (72, .invokevirtual 201, 3, 150), (75, .ior, 1, 0), (76, .iload 3, 1, 0), (77, .invokestatic 189, 3, 170), (80, .ifCond .eq 107, 3, 0), (83, .aload 0, 1, 0), (84, .getfield 723, 3, 42), (87, .iload 3, 1, 0), (88, .aload 0, 1, 0), (89, .getfield 723, 3, 42), (92, .iload 3, 1, 0), (93, .iaload, 1, 0), (94, .aload 0, 1, 0), (95, .getfield 723, 3, 42), (98, .iload 4, 2, 0), (100, .iaload, 1, 0), (101, .sipush 1, 1, 0), (102, .iadd, 1, 0), (103, .invokedynamic 4, 3, 165), (106, .iastore, 1, 0), (107, .iinc 4 1, 3, 0), (110, .goto 42, 3, 0), (113, .iinc 3 1, 3, 0), (116, .goto 31, 3, 0), (119, .iinc 2 1, 3, 0), (122, .goto 23, 3, 0), (125, .aload 0, 1, 0), (126, .getfield 723, 3, 42), (129, .iload 1, 1, 0), (130, .iaload, 1, 0), (131, .ireturn, 1, 0)]
/-- SinglesPastModel.allStops()I -/
def tO_283 : List (Nat × av_O) := [(0, .sipush 0, 1, 0), (1, .istore 1, 1, 0), (2, .sipush 0, 1, 0), (3, .istore 2, 1, 0), (4, .iload 2, 1, 0), (5, .aload 0, 1, 0), (6, .invokevirtual 199, 3, 92), (9, .if_icmp .ge 27, 3, 0), (12, .iload 1, 1, 0), (13, .aload 0, 1, 0), (14, .iload 2, 1, 0), (15, .sipush 0, 1, 0), (16, .invokevirtual 205, 3, 291), (19, .ior, 1, 0), (20, .istore 1, 1, 0), (21, .iinc 2 1, 3, 0), (24, .goto 4, 3, 0), (27, .iload 1, 1, 0), (28, .ireturn, 1, 0)]
/-- SinglesPastModel.latestOf(I)I -/
def tO_284 : List (Nat × av_O) := [(0, .sipush (-1), 1, 0), (1, .istore 2, 1, 0), (2, .sipush 0, 1, 0), (3, .istore 3, 1, 0), (4, .iload 3, 1, 0), (5, .aload 0, 1, 0), (6, .iload 1, 1, 0), (7, .sipush 0, 1, 0), (8, .invokevirtual 201, 3, 150), (11, .if_icmp .gt 37, 3, 0), (14, .aload 0, 1, 0), (15, .invokevirtual 283, 3, 392), (18, .iload 3, 1, 0), (19, .invokestatic 189, 3, 170), (22, .ifCond .eq 29, 3, 0), (25, .iload 3, 1, 0), (26, .goto 30, 3, 0), (29, .iload 2, 1, 0), (30, .istore 2, 1, 0), (31, .iinc 3 1, 3, 0), (34, .goto 4, 3, 0), (37, .iload 2, 1, 0), (38, .ireturn, 1, 0)]
/-- SinglesPastModel.thing(II)I -/
def tO_285 : List (Nat × av_O) := [(0, .aload 0, 1, 0), (1, .sipush 0, 1, 0), (2, .putfield 704, 3, 3), (5, .aload 0, 1, 0), (6, .aload 0, 1, 0), (7, .iload 1, 1, 0), (8, .invokevirtual 210, 3, 395), (11, .sipush 1, 1, 0), (12, .invokevirtual 187, 3, 284), (15, .ifCond .ne 41, 3, 0), (18, .aload 0, 1, 0), (19, .iload 2, 1, 0), (20, .sipush 0, 1, 0), (21, .sipush 7, 2, 0), (23, .invokestatic 188, 3, 88), (26, .ifCond .ne 33, 3, 0), (29, .sipush 1, 1, 0), (30, .goto 34, 3, 0), (33, .sipush 0, 1, 0), (34, .sipush 2, 1, 0), (35, .invokevirtual 187, 3, 284), (38, .ifCond .eq 43, 3, 0), (41, .sipush 0, 1, 0), (42, .ireturn, 1, 0), (43, .iload 2, 1, 0), (44, .tableswitch 97 5 7 #[72, 85, 91], 28, 0), (72, .aload 0, 1, 0), (73, .aload 0, 1, 0), (74, .invokevirtual 208, 3, 371), (77, .invokevirtual 269, 3, 377), (80, .iload 1, 1, 0), (81, .ishr, 1, 0), (82, .sipush 1, 1, 0), (83, .iand, 1, 0), (84, .ireturn, 1, 0), (85, .aload 0, 1, 0), (86, .iload 1, 1, 0), (87, .invokevirtual 282, 3, 398), (90, .ireturn, 1, 0), (91, .aload 0, 1, 0), (92, .iload 1, 1, 0), (93, .invokevirtual 284, 3, 401), (96, .ireturn, 1, 0), (97, .aload 0, 1, 0), (98, .iload 1, 1, 0), (99, .iload 2, 1, 0), (100, .invokevirtual 201, 3, 150), (103, .ireturn, 1, 0)]
/-- SinglesPastModel.goer(II)I -/
def tO_286 : List (Nat × av_O) := [(0, .aload 0, 1, 0), (1, .sipush 0, 1, 0), (2, .putfield 704, 3, 3), (5, .aload 0, 1, 0), (6, .aload 0, 1, 0), (7, .iload 1, 1, 0), (8, .invokevirtual 211, 3, 380), (11, .sipush 1, 1, 0), (12, .invokevirtual 187, 3, 284), (15, .ifCond .ne 41, 3, 0), (18, .aload 0, 1, 0), (19, .iload 2, 1, 0), (20, .sipush 0, 1, 0), (21, .sipush 10, 2, 0), (23, .invokestatic 188, 3, 88), (26, .ifCond .ne 33, 3, 0), (29, .sipush 1, 1, 0), (30, .goto 34, 3, 0), (33, .sipush 0, 1, 0), (34, .sipush 2, 1, 0), (35, .invokevirtual 187, 3, 284), (38, .ifCond .eq 43, 3, 0), (41, .sipush 0, 1, 0), (42, .ireturn, 1, 0), (43, .iload 2, 1, 0), (44, .sipush 9, 2, 0), (46, .if_icmp .ne 57, 3, 0), (49, .aload 0, 1, 0), (50, .iload 1, 1, 0), (51, .invokevirtual 258, 3, 327), (54, .goto 77, 3, 0), (57, .iload 2, 1, 0), (58, .sipush 10, 2, 0), (60, .if_icmp .ne 71, 3, 0), (63, .aload 0, 1, 0), (64, .iload 1, 1, 0), (65, .invokevirtual 280, 3, 386), (68, .goto 77, 3, 0), (71, .aload 0, 1, 0), (72, .iload 1, 1, 0), (73, .iload 2, 1, 0), (74, .invokevirtual 203, 3, 78), (77, .ireturn, 1, 0)]
/-- SinglesPastModel.train(II)I -/
def tO_287 : List (Nat × av_O) := [(0, .aload 0, 1, 0), (1, .sipush 0, 1, 0), (2, .putfield 704, 3, 3), (5, .aload 0, 1, 0), (6, .aload 0, 1, 0), (7, .iload 1, 1, 0), (8, .invokevirtual 212, 3, 404), (11, .sipush 1, 1, 0), (12, .invokevirtual 187, 3, 284), (15, .ifCond .ne 40, 3, 0), (18, .aload 0, 1, 0), (19, .iload 2, 1, 0), (20, .sipush 0, 1, 0), (21, .sipush 3, 1, 0), (22, .invokestatic 188, 3, 88), (25, .ifCond .ne 32, 3, 0), (28, .sipush 1, 1, 0), (29, .goto 33, 3, 0), (32, .sipush 0, 1, 0), (33, .sipush 2, 1, 0), (34, .invokevirtual 187, 3, 284), (37, .ifCond .eq 42, 3, 0), (40, .sipush 0, 1, 0), (41, .ireturn, 1, 0), (42, .iload 2, 1, 0), (43, .sipush 2, 1, 0), (44, .if_icmp .ge 54, 3, 0), (47, .aload 0, 1, 0), (48, .iload 1, 1, 0), (49, .iload 2, 1, 0), (50, .invokevirtual 205, 3, 291), (53, .ireturn, 1, 0), (54, .aload 0, 1, 0), (55, .invokevirtual 208, 3, 371), (58, .invokestatic 357, 3, 360), (61, .istore 3, 1, 0), (62, .iload 2, 1, 0), (63, .sipush 2, 1, 0), (64, .if_icmp .ne 75, 3, 0), (67, .aload 0, 1, 0), (68, .iload 1, 1, 0), (69, .invokevirtual 209, 3, 287), (72, .goto 93, 3, 0), (75, .iload 3, 1, 0), (76, .ifCond .ne 83, 3, 0), (79, .sipush 0, 1, 0), (80, .goto 93, 3, 0), (83, .sipush 100, 2, 0), (85, .aload 0, 1, 0), (86, .iload 1, 1, 0), (87, .invokevirtual 209, 3, 287), (90, .imul, 1, 0), (91, .iload 3, 1, 0), (92, .idiv, 1, 0), (93, .ireturn, 1, 0)]
/-- SinglesPastModel.noSuch(II)Z -/
def tO_288 : List (Nat × av_O) := [(0, .aload 0, 1, 0), (1, .sipush 0, 1, 0), (2, .putfield 704, 3, 3), (5, .aload 0, 1, 0), (6, .aload 0, 1, 0), (7, .iload 1, 1, 0), (8, .invokevirtual 211, 3, 380), (11, .ifCond .ne 22, 3, 0), (14, .aload 0, 1, 0), (15, .iload 2, 1, 0), (16, .invokevirtual 212, 3, 404), (19, .ifCond .eq 26, 3, 0), (22, .sipush 1, 1, 0), (23, .goto 27, 3, 0), (26, .sipush 0, 1, 0), (27, .sipush 1, 1, 0), (28, .invokevirtual 187, 3, 284), (31, .ireturn, 1, 0)]
/-- SinglesPastModel.cost(II)I -/
def tO_289 : List (Nat × av_O) := [(0, .aload 0, 1, 0), (1, .iload 1, 1, 0), (2, .iload 2, 1, 0), (3, .invokevirtual 288, 3, 407), (6, .ifCond .eq 13, 3, 0), (9, .sipush 0, 1, 0), (10, .goto 19, 3, 0), (13, .aload 0, 1, 0), (14, .iload 1, 1, 0), (15, .iload 2, 1, 0), (16, .invokevirtual 253, 3, 308), (19, .ireturn, 1, 0)]
/-- SinglesPastModel.fear(II)I -/
def tO_290 : List (Nat × av_O) := [(0, .aload 0, 1, 0), (1, .iload 1, 1, 0), (2, .iload 2, 1, 0), (3, .invokevirtual 288, 3, 407), (6, .ifCond .eq 13, 3, 0), (9, .sipush 0, 1, 0), (10, .goto 19, 3, 0), (13, .aload 0, 1, 0), (14, .iload 1, 1, 0), (15, .iload 2, 1, 0), (16, .invokevirtual 254, 3, 333), (19, .ireturn, 1, 0)]
/-- SinglesPastModel.may(II)Z -/
def tO_291 : List (Nat × av_O) := [(0, .aload 0, 1, 0), (1, .iload 1, 1, 0), (2, .iload 2, 1, 0), (3, .invokevirtual 288, 3, 407), (6, .ifCond .ne 22, 3, 0), (9, .aload 0, 1, 0), (10, .iload 1, 1, 0), (11, .iload 2, 1, 0), (12, .invokevirtual 257, 3, 317), (15, .ifCond .eq 22, 3, 0), (18, .sipush 1, 1, 0), (19, .goto 23, 3, 0), (22, .sipush 0, 1, 0), (23, .ireturn, 1, 0)]
/-- SinglesPastModel.days(I)I -/
def tO_292 : List (Nat × av_O) := [(0, .aload 0, 1, 0), (1, .sipush 0, 1, 0), (2, .putfield 704, 3, 3), (5, .aload 0, 1, 0), (6, .iload 1, 1, 0), (7, .sipush 1, 1, 0), (8, .sipush 60, 2, 0), (10, .invokestatic 188, 3, 88), (13, .ifCond .ne 20, 3, 0), (16, .sipush 1, 1, 0), (17, .goto 21, 3, 0), (20, .sipush 0, 1, 0), (21, .sipush 1, 1, 0), (22, .invokevirtual 187, 3, 284), (25, .ifCond .eq 30, 3, 0), (28, .sipush 0, 1, 0), (29, .ireturn, 1, 0), (30, .aload 0, 1, 0), (31, .invokevirtual 193, 3, 410), (34, .aload 0, 1, 0), (35, .iload 1, 1, 0), (36, .sipush 0, 1, 0), (37, .invokevirtual 263, 3, 413), (40, .ireturn, 1, 0)]
/-- SinglesPastModel.sell(II)I -/
def tO_293 : List (Nat × av_O) := [(0, .aload 0, 1, 0), (1, .iload 1, 1, 0), (2, .iload 2, 1, 0), (3, .invokevirtual 288, 3, 407), (6, .ifCond .ne 31, 3, 0), (9, .aload 0, 1, 0), (10, .aload 0, 1, 0), (11, .iload 1, 1, 0), (12, .iload 2, 1, 0), (13, .invokevirtual 257, 3, 317), (16, .ifCond .ne 23, 3, 0), (19, .sipush 1, 1, 0), (20, .goto 24, 3, 0), (23, .sipush 0, 1, 0), (24, .sipush 2, 1, 0), (25, .invokevirtual 187, 3, 284), (28, .ifCond .eq 33, 3, 0), (31, .sipush 0, 1, 0), (32, .ireturn, 1, 0), (33, .aload 0, 1, 0), (34, .invokevirtual 193, 3, 410), (37, .aload 0, 1, 0), (38, .iload 1, 1, 0), (39, .iload 2, 1, 0), (40, .invokevirtual 260, 3, 336), (43, .ireturn, 1, 0)]
/-- SinglesPastModel.isNow(II)I -/
def tO_294 : List (Nat × av_O) := [(0, .aload 0, 1, 0), (1, .invokevirtual 193, 3, 410), (4, .aload 0, 1, 0), (5, .getfield 705, 3, 13), (8, .iload 1, 1, 0), (9, .iaload, 1, 0), (10, .istore 3, 1, 0), (11, .aload 0, 1, 0), (12, .getfield 705, 3, 13), (15, .iload 1, 1, 0), (16, .iload 2, 1, 0), (17, .iastore, 1, 0), (18, .iload 3, 1, 0), (19, .ireturn, 1, 0)]
/-- SinglesPastModel.pay(II)I -/
def tO_295 : List (Nat × av_O) := [(0, .aload 0, 1, 0), (1, .sipush 0, 1, 0), (2, .putfield 704, 3, 3), (5, .aload 0, 1, 0), (6, .aload 0, 1, 0), (7, .iload 1, 1, 0), (8, .invokevirtual 211, 3, 380), (11, .sipush 1, 1, 0), (12, .invokevirtual 187, 3, 284), (15, .ifCond .ne 42, 3, 0), (18, .aload 0, 1, 0), (19, .iload 2, 1, 0), (20, .sipush 1, 1, 0), (21, .sipush 999, 3, 0), (24, .invokestatic 188, 3, 88), (27, .ifCond .ne 34, 3, 0), (30, .sipush 1, 1, 0), (31, .goto 35, 3, 0), (34, .sipush 0, 1, 0), (35, .sipush 2, 1, 0), (36, .invokevirtual 187, 3, 284), (39, .ifCond .eq 44, 3, 0), (42, .sipush 0, 1, 0), (43, .ireturn, 1, 0), (44, .aload 0, 1, 0), (45, .iload 1, 1, 0), (46, .sipush 4, 1, 0), (47, .invokestatic 202, 3, 68), (50, .sipush 999, 3, 0), (53, .aload 0, 1, 0), (54, .iload 1, 1, 0), (55, .sipush 4, 1, 0), (56, .invokevirtual 203, 3, 78), (59, .iload 2, 1, 0), (60, .iadd, 1, 0), (61, .invokedynamic 5, 3, 320), (64, .invokevirtual 294, 3, 417), (67, .pop, 1, 0), (68, .aload 0, 1, 0), (69, .iload 1, 1, 0), (70, .sipush 4, 1, 0), (71, .invokevirtual 203, 3, 78), (74, .ireturn, 1, 0)]
/-- SinglesPastModel.nerve(II)I -/
def tO_296 : List (Nat × av_O) := [(0, .aload 0, 1, 0), (1, .sipush 0, 1, 0), (2, .putfield 704, 3, 3), (5, .aload 0, 1, 0), (6, .aload 0, 1, 0), (7, .iload 1, 1, 0), (8, .invokevirtual 211, 3, 380), (11, .sipush 1, 1, 0), (12, .invokevirtual 187, 3, 284), (15, .ifCond .ne 41, 3, 0), (18, .aload 0, 1, 0), (19, .iload 2, 1, 0), (20, .sipush 0, 1, 0), (21, .sipush 100, 2, 0), (23, .invokestatic 188, 3, 88), (26, .ifCond .ne 33, 3, 0), (29, .sipush 1, 1, 0), (30, .goto 34, 3, 0), (33, .sipush 0, 1, 0), (34, .sipush 2, 1, 0), (35, .invokevirtual 187, 3, 284), (38, .ifCond .eq 45, 3, 0), (41, .sipush 0, 1, 0), (42, .goto 55, 3, 0), (45, .aload 0, 1, 0), (46, .iload 1, 1, 0), (47, .sipush 5, 1, 0), (48, .invokestatic 202, 3, 68), (51, .iload 2, 1, 0), (52, .invokevirtual 294, 3, 417), (55, .ireturn, 1, 0)]
/-- SinglesPastModel.wish(II)I -/
def tO_297 : List (Nat × av_O) := [(0, .aload 0, 1, 0), (1, .sipush 0, 1, 0), (2, .putfield 704, 3, 3), (5, .aload 0, 1, 0), (6, .aload 0, 1, 0), (7, .iload 1, 1, 0), (8, .invokevirtual 211, 3, 380), (11, .ifCond .ne 21, 3, 0), (14, .iload 2, 1, 0), (15, .invokestatic 213, 3, 420), (18, .ifCond .eq 25, 3, 0), (21, .sipush 1, 1, 0), (22, .goto 26, 3, 0), (25, .sipush 0, 1, 0), (26, .sipush 1, 1, 0), (27, .invokevirtual 187, 3, 284), (30, .ifCond .ne 46, 3, 0), (33, .aload 0, 1, 0), (34, .aload 0, 1, 0), (35, .iload 1, 1, 0), (36, .invokevirtual 207, 3, 81), (39, .sipush 2, 1, 0), (40, .invokevirtual 187, 3, 284), (43, .ifCond .eq 50, 3, 0), (46, .sipush 0, 1, 0), (47, .goto 60, 3, 0), (50, .aload 0, 1, 0), (51, .iload 1, 1, 0), (52, .sipush 0, 1, 0), (53, .invokestatic 202, 3, 68), (56, .iload 2, 1, 0), (57, .invokevirtual 294, 3, 417), (60, .ireturn, 1, 0)]
/-- SinglesPastModel.deed(IIZ)I -/
def tO_298 : List (Nat × av_O) := [(0, .aload 0, 1, 0), (1, .sipush 0, 1, 0), (2, .putfield 704, 3, 3), (5, .aload 0, 1, 0), (6, .aload 0, 1, 0), (7, .iload 1, 1, 0), (8, .invokevirtual 211, 3, 380), (11, .ifCond .ne 27, 3, 0), (14, .iload 2, 1, 0), (15, .sipush (-1), 1, 0), (16, .if_icmp .eq 31, 3, 0), (19, .aload 0, 1, 0), (20, .iload 2, 1, 0), (21, .invokevirtual 210, 3, 395), (24, .ifCond .eq 31, 3, 0), (27, .sipush 1, 1, 0), (28, .goto 32, 3, 0), (31, .sipush 0, 1, 0), (32, .sipush 1, 1, 0), (33, .invokevirtual 187, 3, 284), (36, .ifCond .ne 52, 3, 0), (39, .aload 0, 1, 0), (40, .aload 0, 1, 0), (41, .iload 1, 1, 0), (42, .invokevirtual 207, 3, 81), (45, .sipush 2, 1, 0), (46, .invokevirtual 187, 3, 284), (49, .ifCond .eq 54, 3, 0), (52, .sipush 0, 1, 0), (53, .ireturn, 1, 0), (54, .aload 0, 1, 0), (55, .iload 1, 1, 0), (56, .sipush 1, 1, 0), (57, .invokestatic 202, 3, 68), (60, .iload 2, 1, 0), (61, .invokevirtual 294, 3, 417), (64, .istore 4, 2, 0), (66, .aload 0, 1, 0), (67, .getfield 705, 3, 13), (70, .iload 1, 1, 0), (71, .sipush 2, 1, 0), (72, .invokestatic 202, 3, 68), (75, .iload 2, 1, 0), (76, .sipush (-1), 1, 0), (77, .if_icmp .eq 88, 3, 0), (80, .iload 3, 1, 0), (81, .ifCond .eq 88, 3, 0), (84, .sipush 1, 1, 0), (85, .goto 89, 3, 0), (88, .sipush 0, 1, 0), (89, .iastore, 1, 0), (90, .iload 4, 2, 0), (92, .ireturn, 1, 0)]
/-- SinglesPastModel.noTwo(II)Z -/
def tO_299 : List (Nat × av_O) := [(0, .aload 0, 1, 0), (1, .sipush 0, 1, 0), (2, .putfield 704, 3, 3), (5, .aload 0, 1, 0), (6, .aload 0, 1, 0), (7, .iload 1, 1, 0), (8, .invokevirtual 211, 3, 380), (11, .ifCond .ne 22, 3, 0), (14, .aload 0, 1, 0), (15, .iload 2, 1, 0), (16, .invokevirtual 211, 3, 380), (19, .ifCond .eq 26, 3, 0), (22, .sipush 1, 1, 0), (23, .goto 27, 3, 0), (26, .sipush 0, 1, 0), (27, .sipush 1, 1, 0), (28, .invokevirtual 187, 3, 284), (31, .ifCond .ne 52, 3, 0), (34, .aload 0, 1, 0), (35, .iload 1, 1, 0), (36, .iload 2, 1, 0), (37, .if_icmp .ne 44, 3, 0), (40, .sipush 1, 1, 0), (41, .goto 45, 3, 0), (44, .sipush 0, 1, 0), (45, .sipush 2, 1, 0), (46, .invokevirtual 187, 3, 284), (49, .ifCond .eq 56, 3, 0), (52, .sipush 1, 1, 0), (53, .goto 57, 3, 0), (56, .sipush 0, 1, 0), (57, .ireturn, 1, 0)]
/-- SinglesPastModel.quarrel(IIZ)Z -/
def tO_300 : List (Nat × av_O) := [(0, .aload 0, 1, 0), (1, .iload 1, 1, 0), (2, .iload 2, 1, 0), (3, .invokevirtual 299, 3, 423), (6, .ifCond .eq 11, 3, 0), (9, .sipush 0, 1, 0), (10, .ireturn, 1, 0), (11, .aload 0, 1, 0), (12, .iload 1, 1, 0), (13, .sipush 6, 2, 0), (15, .invokevirtual 203, 3, 78), (18, .sipush 1, 1, 0), (19, .iload 2, 1, 0), (20, .ishl, 1, 0), (21, .sipush (-1), 1, 0), (22, .ixor, 1, 0), (23, .iand, 1, 0), (24, .iload 3, 1, 0), (25, .ifCond .eq 34, 3, 0), (28, .sipush 1, 1, 0), (29, .iload 2, 1, 0), (30, .ishl, 1, 0), (31, .goto 35, 3, 0), (34, .sipush 0, 1, 0), (35, .ior, 1, 0), (36, .istore 4, 2, 0), (38, .aload 0, 1, 0), (39, .iload 1, 1, 0), (40, .sipush 6, 2, 0), (42, .invokestatic 202, 3, 68), (45, .iload 4, 2, 0), (47, .invokevirtual 294, 3, 417), (50, .iload 4, 2, 0), (52, .if_icmp .eq 59, 3, 0), (55, .sipush 1, 1, 0), (56, .goto 60, 3, 0), (59, .sipush 0, 1, 0), (60, .istore 5, 2, 0), (62, .aload 0, 1, 0), (63, .getfield 705, 3, 13), (66, .iload 2, 1, 0), (67, .sipush 6, 2, 0), (69, .invokestatic 202, 3, 68), (72, .aload 0, 1, 0), (73, .iload 2, 1, 0), (74, .sipush 6, 2, 0), (76, .invokevirtual 203, 3, 78), (79, .sipush 1, 1, 0), (80, .iload 1, 1, 0), (81, .ishl, 1, 0), (82, .sipush (-1), 1, 0), (83, .ixor, 1, 0), (84, .iand, 1, 0), (85, .iload 3, 1, 0), (86, .ifCond .eq 95, 3, 0), (89, .sipush 1, 1, 0), (90, .iload 1, 1, 0), (91, .ishl, 1, 0), (92, .goto 96, 3, 0), (95, .sipush 0, 1, 0), (96, .ior, 1, 0), (97, .iastore, 1, 0), (98, .iload 5, 2, 0), (100, .ireturn, 1, 0)]
/-- SinglesPastModel.stops(II)I -/
def tO_301 : List (Nat × av_O) := [(0, .aload 0, 1, 0), (1, .sipush 0, 1, 0), (2, .putfield 704, 3, 3), (5, .aload 0, 1, 0), (6, .aload 0, 1, 0), (7, .iload 1, 1, 0), (8, .invokevirtual 212, 3, 404), (11, .sipush 1, 1, 0), (12, .invokevirtual 187, 3, 284), (15, .ifCond .ne 39, 3, 0), (18, .aload 0, 1, 0), (19, .iload 2, 1, 0), (20, .sipush 65535, 3, 426), (23, .iand, 1, 0), (24, .ifCond .ne 31, 3, 0), (27, .sipush 1, 1, 0), (28, .goto 32, 3, 0), (31, .sipush 0, 1, 0), (32, .sipush 2, 1, 0), (33, .invokevirtual 187, 3, 284), (36, .ifCond .eq 43, 3, 0), (39, .sipush 0, 1, 0), (40, .goto 57, 3, 0), (43, .aload 0, 1, 0), (44, .iload 1, 1, 0), (45, .sipush 0, 1, 0), (46, .invokestatic 204, 3, 71), (49, .iload 2, 1, 0), (50, .sipush 65535, 3, 426), (53, .iand, 1, 0), (54, .invokevirtual 294, 3, 417), (57, .ireturn, 1, 0)]
/-- SinglesPastModel.recall(I)I -/
def tO_302 : List (Nat × av_O) := [(0, .aload 0, 1, 0), (1, .sipush 0, 1, 0), (2, .putfield 704, 3, 3), (5, .aload 0, 1, 0), (6, .aload 0, 1, 0), (7, .iload 1, 1, 0), (8, .invokevirtual 211, 3, 380), (11, .sipush 1, 1, 0), (12, .invokevirtual 187, 3, 284), (15, .ifCond .ne 39, 3, 0), (18, .aload 0, 1, 0), (19, .aload 0, 1, 0), (20, .iload 1, 1, 0), (21, .invokevirtual 207, 3, 81), (24, .ifCond .ne 31, 3, 0), (27, .sipush 1, 1, 0), (28, .goto 32, 3, 0), (31, .sipush 0, 1, 0), (32, .sipush 2, 1, 0), (33, .invokevirtual 187, 3, 284), (36, .ifCond .eq 41, 3, 0), (39, .sipush 0, 1, 0), (40, .ireturn, 1, 0), (41, .aload 0, 1, 0), (42, .iload 1, 1, 0), (43, .sipush 8, 2, 0), (45, .invokestatic 202, 3, 68), (48, .sipush (-1), 1, 0), (49, .invokevirtual 294, 3, 417), (52, .istore 2, 1, 0), (53, .aload 0, 1, 0), (54, .getfield 705, 3, 13), (57, .iload 1, 1, 0), (58, .sipush 7, 2, 0), (60, .invokestatic 202, 3, 68), (63, .sipush 0, 1, 0), (64, .iastore, 1, 0), (65, .aload 0, 1, 0), (66, .iload 1, 1, 0), (67, .iload 2, 1, 0), (68, .sipush (-1), 1, 0), (69, .invokevirtual 259, 3, 323), (72, .iload 2, 1, 0), (73, .ireturn, 1, 0)]
/-- SinglesPastModel.isRows()Z -/
def tO_303 : List (Nat × av_O) := [(0, .aload 0, 1, 0), (1, .getfield 715, 3, 102), (4, .sipush 2, 1, 0), (5, .irem, 1, 0), (6, .ifCond .ne 22, 3, 0), (9, .aload 0, 1, 0), (10, .getfield 715, 3, 102), (13, .sipush 40, 2, 0), (15, .if_icmp .gt 22, 3, 0), (18, .sipush 1, 1, 0), (19, .goto 23, 3, 0), (22, .sipush 0, 1, 0), (23, .istore 1, 1, 0), (24, .sipush 0, 1, 0), (25, .istore 2, 1, 0), (26, .iload 2, 1, 0), (27, .aload 0, 1, 0), (28, .getfield 715, 3, 102), (31, .if_icmp .ge 79, 3, 0), (34, .iload 1, 1, 0), (35, .ifCond .eq 79, 3, 0), (38, .aload 0, 1, 0), (39, .aload 0, 1, 0), (40, .getfield 712, 3, 29), (43, .iload 2, 1, 0), (44, .baload, 1, 0), (45, .invokevirtual 210, 3, 395), (48, .ifCond .ne 71, 3, 0), (51, .aload 0, 1, 0), (52, .getfield 712, 3, 29), (55, .iload 2, 1, 0), (56, .sipush 1, 1, 0), (57, .iadd, 1, 0), (58, .baload, 1, 0), (59, .sipush 0, 1, 0), (60, .sipush 1, 1, 0), (61, .invokestatic 188, 3, 88), (64, .ifCond .eq 71, 3, 0), (67, .sipush 1, 1, 0), (68, .goto 72, 3, 0), (71, .sipush 0, 1, 0), (72, .istore 1, 1, 0), (73, .iinc 2 2, 3, 0), (76, .goto 26, 3, 0), (79, .iload 1, 1, 0), (80, .ireturn, 1, 0)]
/-- SinglesPastModel.areSo(I)Z -/
def tO_304 : List (Nat × av_O) := [(0, .sipush 1, 1, 0), (1, .istore 2, 1, 0), (2, .sipush 0, 1, 0), (3, .istore 3, 1, 0), (4, .iload 3, 1, 0), (5, .aload 0, 1, 0), (6, .getfield 715, 3, 102), (9, .if_icmp .ge 49, 3, 0), (12, .iload 2, 1, 0), (13, .ifCond .eq 41, 3, 0), (16, .iload 1, 1, 0), (17, .aload 0, 1, 0), (18, .getfield 712, 3, 29), (21, .iload 3, 1, 0), (22, .baload, 1, 0), (23, .ishr, 1, 0), (24, .sipush 1, 1, 0), (25, .iand, 1, 0), (26, .aload 0, 1, 0), (27, .getfield 712, 3, 29), (30, .iload 3, 1, 0), (31, .sipush 1, 1, 0), (32, .iadd, 1, 0), (33, .baload, 1, 0), (34, .if_icmp .ne 41, 3, 0), (37, .sipush 1, 1, 0), (38, .goto 42, 3, 0), (41, .sipush 0, 1, 0), (42, .istore 2, 1, 0), (43, .iinc 3 2, 3, 0), (46, .goto 4, 3, 0), (49, .iload 2, 1, 0), (50, .ireturn, 1, 0)]
/-- SinglesPastModel.send()I -/
def tO_305 : List (Nat × av_O) := [(0, .aload 0, 1, 0), (1, .invokevirtual 227, 3, 273), (4, .aload 0, 1, 0), (5, .aload 0, 1, 0), (6, .invokevirtual 303, 3, 427), (9, .ifCond .ne 16, 3, 0), (12, .sipush 1, 1, 0), (13, .goto 17, 3, 0), (16, .sipush 0, 1, 0), (17, .sipush 1, 1, 0), (18, .invokevirtual 187, 3, 284), (21, .ifCond .eq 26, 3, 0), (24, .sipush 0, 1, 0), (25, .ireturn, 1, 0), (26, .aload 0, 1, 0), (27, .invokevirtual 208, 3, 371), (30, .istore 1, 1, 0), (31, .sipush (-1), 1, 0), (32, .istore 2, 1, 0), (33, .sipush 0, 1, 0), (34, .istore 3, 1, 0), (35, .iload 3, 1, 0), (36, .aload 0, 1, 0), (37, .invokevirtual 206, 3, 368), (40, .if_icmp .gt 105, 3, 0), (43, .iload 3, 1, 0), (44, .iload 1, 1, 0), (45, .iand, 1, 0), (46, .ifCond .ne 99, 3, 0), (49, .iload 2, 1, 0), (50, .sipush (-1), 1, 0), (51, .if_icmp .eq 68, 3, 0), (54, .iload 3, 1, 0), (55, .invokestatic 357, 3, 360), (58, .iload 2, 1, 0), (59, .invokestatic 357, 3, 360), (62, .if_icmp .lt 68, 3, 0), (65, .goto 99, 3, 0), (68, .aload 0, 1, 0), (69, .iload 1, 1, 0), (70, .iload 3, 1, 0), (71, .ior, 1, 0), (72, .invokevirtual 268, 3, 365), (75, .sipush (-1), 1, 0), (76, .if_icmp .eq 97, 3, 0), (79, .aload 0, 1, 0), (80, .aload 0, 1, 0), (81, .iload 1, 1, 0), (82, .iload 3, 1, 0), (83, .ior, 1, 0), (84, .invokevirtual 269, 3, 377), (87, .invokevirtual 304, 3, 430), (90, .ifCond .eq 97, 3, 0), (93, .iload 3, 1, 0), (94, .goto 98, 3, 0), (97, .iload 2, 1, 0), (98, .istore 2, 1, 0), (99, .iinc 3 1, 3, 0), (102, .goto 35, 3, 0), (105, .iload 2, 1, 0), (106, .ireturn, 1, 0)]
/-- SinglesPastModel.fitsWho(I)Z -/
def tO_306 : List (Nat × av_O) := [(0, .aload 0, 1, 0), (1, .iload 1, 1, 0), (2, .invokevirtual 265, 3, 351), (5, .istore 2, 1, 0), (6, .aload 0, 1, 0), (7, .iload 2, 1, 0), (8, .invokevirtual 304, 3, 430), (11, .ifCond .eq 28, 3, 0), (14, .aload 0, 1, 0), (15, .iload 1, 1, 0), (16, .iload 2, 1, 0), (17, .invokevirtual 266, 3, 354), (20, .iload 1, 1, 0), (21, .if_icmp .ne 28, 3, 0), (24, .sipush 1, 1, 0), (25, .goto 29, 3, 0), (28, .sipush 0, 1, 0), (29, .ireturn, 1, 0)]
/-- SinglesPastModel.who(Z)I -/
def tO_307 : List (Nat × av_O) := [(0, .aload 0, 1, 0), (1, .invokevirtual 227, 3, 273), (4, .aload 0, 1, 0), (5, .aload 0, 1, 0), (6, .invokevirtual 303, 3, 427), (9, .ifCond .ne 16, 3, 0), (12, .sipush 1, 1, 0), (13, .goto 17, 3, 0), (16, .sipush 0, 1, 0), (17, .sipush 1, 1, 0), (18, .invokevirtual 187, 3, 284), (21, .ifCond .eq 26, 3, 0), (24, .sipush 0, 1, 0), (25, .ireturn, 1, 0), (26, .sipush 0, 1, 0), (27, .istore 2, 1, 0), (28, .sipush (-1), 1, 0), (29, .istore 3, 1, 0), (30, .aload 0, 1, 0), (31, .invokevirtual 206, 3, 368), (34, .istore 4, 2, 0), (36, .iload 4, 2, 0), (38, .ifCond .lt 65, 3, 0), (41, .aload 0, 1, 0), (42, .iload 4, 2, 0), (44, .invokevirtual 306, 3, 433), (47, .ifCond .ne 53, 3, 0), (50, .goto 59, 3, 0), (53, .iinc 2 1, 3, 0), (56, .iload 4, 2, 0), (58, .istore 3, 1, 0), (59, .iinc 4 (-1), 3, 0), (62, .goto 36, 3, 0), (65, .iload 1, 1, 0), (66, .ifCond .eq 73, 3, 0), (69, .iload 3, 1, 0), (70, .goto 74, 3, 0), (73, .iload 2, 1, 0), (74, .ireturn, 1, 0)]
/-- SinglesPastModel.look()I -/
def tO_308 : List (Nat × av_O) := [(0, .aload 0, 1, 0), (1, .invokevirtual 227, 3, 273), (4, .aload 0, 1, 0), (5, .aload 0, 1, 0), (6, .invokevirtual 303, 3, 427), (9, .ifCond .ne 16, 3, 0), (12, .sipush 1, 1, 0), (13, .goto 17, 3, 0), (16, .sipush 0, 1, 0), (17, .sipush 1, 1, 0), (18, .invokevirtual 187, 3, 284), (21, .ifCond .eq 26, 3, 0), (24, .sipush 0, 1, 0), (25, .ireturn, 1, 0), (26, .sipush (-1), 1, 0), (27, .istore 1, 1, 0), (28, .sipush 1000000, 2, 137), (30, .istore 2, 1, 0), (31, .sipush 0, 1, 0), (32, .istore 3, 1, 0), (33, .iload 3, 1, 0), (34, .aload 0, 1, 0), (35, .invokevirtual 197, 3, 85), (38, .if_icmp .ge 177, 3, 0), (41, .sipush 0, 1, 0), (42, .istore 4, 2, 0), (44, .sipush 0, 1, 0), (45, .istore 5, 2, 0), (47, .sipush 0, 1, 0), (48, .istore 6, 2, 0), (50, .iload 6, 2, 0), (52, .aload 0, 1, 0), (53, .invokevirtual 206, 3, 368), (56, .if_icmp .gt 129, 3, 0), (59, .aload 0, 1, 0), (60, .iload 6, 2, 0), (62, .invokevirtual 306, 3, 433), (65, .istore 7, 2, 0), (67, .iload 4, 2, 0), (69, .iload 7, 2, 0), (71, .ifCond .eq 91, 3, 0), (74, .aload 0, 1, 0), (75, .iload 6, 2, 0), (77, .invokevirtual 265, 3, 351), (80, .iload 3, 1, 0), (81, .invokestatic 189, 3, 170), (84, .ifCond .eq 91, 3, 0), (87, .sipush 1, 1, 0), (88, .goto 92, 3, 0), (91, .sipush 0, 1, 0), (92, .iadd, 1, 0), (93, .istore 4, 2, 0), (95, .iload 5, 2, 0), (97, .iload 7, 2, 0), (99, .ifCond .eq 119, 3, 0), (102, .aload 0, 1, 0), (103, .iload 6, 2, 0), (105, .invokevirtual 265, 3, 351), (108, .iload 3, 1, 0), (109, .invokestatic 189, 3, 170), (112, .ifCond .ne 119, 3, 0), (115, .sipush 1, 1, 0), (116, .goto 120, 3, 0), (119, .sipush 0, 1, 0), (120, .iadd, 1, 0), (121, .istore 5, 2, 0), (123, .iinc 6 1, 3, 0), (126, .goto 50, 3, 0), (129, .iload 4, 2, 0), (131, .iload 5, 2, 0), (133, .iadd, 1, 0), (134, .sipush 2, 1, 0), (135, .if_icmp .ge 143, 3, 0), (138, .sipush 1000000, 2, 137), (140, .goto 150, 3, 0), (143, .iload 4, 2, 0), (145, .iload 5, 2, 0), (147, .invokedynamic 4, 3, 165), (150, .istore 6, 2, 0), (152, .iload 6, 2, 0), (154, .iload 2, 1, 0), (155, .if_icmp .ge 162, 3, 0), (158, .iload 3, 1, 0), (159, .goto 163, 3, 0), (162, .iload 1, 1, 0), (163, .istore 1, 1, 0), (164, .iload 2, 1, 0), (165, .iload 6, 2, 0), (167, .invokedynamic 5, 3, 320), (170, .istore 2, 1, 0), (171, .iinc 3 1, 3, 0), (174, .goto 33, 3, 0), (177, .iload 1, 1, 0), (178, .ireturn, 1, 0)]
/-- SinglesPastModel.hangsOn(I)I -/
def tO_309 : List (Nat × av_O) := [(0, .aload 0, 1, 0), (1, .aload 0, 1, 0), (2, .invokevirtual 208, 3, 371), (5, .invokevirtual 269, 3, 377), (8, .istore 2, 1, 0), (9, .aload 0, 1, 0), (10, .getfield 705, 3, 13), (13, .iload 1, 1, 0), (14, .sipush 1, 1, 0), (15, .invokestatic 200, 3, 64), (18, .dup2, 1, 0), (19, .iaload, 1, 0), (20, .sipush 1, 1, 0), (21, .ixor, 1, 0), (22, .iastore, 1, 0), (23, .aload 0, 1, 0), (24, .aload 0, 1, 0), (25, .invokevirtual 208, 3, 371), (28, .invokevirtual 269, 3, 377), (31, .istore 3, 1, 0), (32, .aload 0, 1, 0), (33, .getfield 705, 3, 13), (36, .iload 1, 1, 0), (37, .sipush 1, 1, 0), (38, .invokestatic 200, 3, 64), (41, .dup2, 1, 0), (42, .iaload, 1, 0), (43, .sipush 1, 1, 0), (44, .ixor, 1, 0), (45, .iastore, 1, 0), (46, .iload 2, 1, 0), (47, .iload 3, 1, 0), (48, .ixor, 1, 0), (49, .ireturn, 1, 0)]
/-- SinglesPastModel.hangs(I)I -/
def tO_310 : List (Nat × av_O) := [(0, .aload 0, 1, 0), (1, .sipush 0, 1, 0), (2, .putfield 704, 3, 3), (5, .aload 0, 1, 0), (6, .aload 0, 1, 0), (7, .iload 1, 1, 0), (8, .invokevirtual 210, 3, 395), (11, .sipush 1, 1, 0), (12, .invokevirtual 187, 3, 284), (15, .ifCond .eq 22, 3, 0), (18, .sipush 0, 1, 0), (19, .goto 27, 3, 0), (22, .aload 0, 1, 0), (23, .iload 1, 1, 0), (24, .invokevirtual 309, 3, 436), (27, .ireturn, 1, 0)]
/-- SinglesPastModel.key()I -/
def tO_311 : List (Nat × av_O) := [(0, .aload 0, 1, 0), (1, .sipush 0, 1, 0), (2, .putfield 704, 3, 3), (5, .sipush (-1), 1, 0), (6, .istore 1, 1, 0), (7, .sipush (-1), 1, 0), (8, .istore 2, 1, 0), (9, .sipush 0, 1, 0), (10, .istore 3, 1, 0), (11, .iload 3, 1, 0), (12, .aload 0, 1, 0), (13, .invokevirtual 197, 3, 85), (16, .if_icmp .ge 54, 3, 0), (19, .aload 0, 1, 0), (20, .iload 3, 1, 0), (21, .invokevirtual 309, 3, 436), (24, .invokestatic 357, 3, 360), (27, .istore 4, 2, 0), (29, .iload 4, 2, 0), (31, .iload 2, 1, 0), (32, .if_icmp .le 39, 3, 0), (35, .iload 3, 1, 0), (36, .goto 40, 3, 0), (39, .iload 1, 1, 0), (40, .istore 1, 1, 0), (41, .iload 2, 1, 0), (42, .iload 4, 2, 0), (44, .invokedynamic 4, 3, 165), (47, .istore 2, 1, 0), (48, .iinc 3 1, 3, 0), (51, .goto 11, 3, 0), (54, .iload 1, 1, 0), (55, .ireturn, 1, 0)]
/-- SinglesPastModel.loose()I -/
def tO_312 : List (Nat × av_O) := [(0, .aload 0, 1, 0), (1, .sipush 0, 1, 0), (2, .putfield 704, 3, 3), (5, .sipush 1, 1, 0), (6, .aload 0, 1, 0), (7, .invokevirtual 197, 3, 85), (10, .ishl, 1, 0), (11, .sipush 1, 1, 0), (12, .isub, 1, 0), (13, .istore 1, 1, 0), (14, .sipush 0, 1, 0), (15, .istore 2, 1, 0), (16, .iload 2, 1, 0), (17, .aload 0, 1, 0), (18, .invokevirtual 197, 3, 85), (21, .if_icmp .ge 64, 3, 0), (24, .aload 0, 1, 0), (25, .iload 2, 1, 0), (26, .sipush 3, 1, 0), (27, .invokevirtual 201, 3, 150), (30, .aload 0, 1, 0), (31, .iload 2, 1, 0), (32, .sipush 4, 1, 0), (33, .invokevirtual 201, 3, 150), (36, .ior, 1, 0), (37, .istore 3, 1, 0), (38, .iload 1, 1, 0), (39, .iload 3, 1, 0), (40, .sipush (-1), 1, 0), (41, .ixor, 1, 0), (42, .iload 3, 1, 0), (43, .ifCond .ne 50, 3, 0), (46, .sipush 0, 1, 0), (47, .goto 53, 3, 0), (50, .sipush 1, 1, 0), (51, .iload 2, 1, 0), (52, .ishl, 1, 0), (53, .sipush (-1), 1, 0), (54, .ixor, 1, 0), (55, .iand, 1, 0), (56, .iand, 1, 0), (57, .istore 1, 1, 0), (58, .iinc 2 1, 3, 0), (61, .goto 16, 3, 0), (64, .iload 1, 1, 0), (65, .ireturn, 1, 0)]
/-- SinglesPastModel.kills(II)Z -/
def tO_313 : List (Nat × av_O) := [(0, .aload 0, 1, 0), (1, .iload 1, 1, 0), (2, .iload 2, 1, 0), (3, .invokevirtual 299, 3, 423), (6, .ifCond .ne 42, 3, 0), (9, .aload 0, 1, 0), (10, .iload 2, 1, 0), (11, .sipush 3, 1, 0), (12, .invokevirtual 203, 3, 78), (15, .sipush (-1), 1, 0), (16, .if_icmp .eq 42, 3, 0), (19, .aload 0, 1, 0), (20, .sipush 1, 1, 0), (21, .iload 1, 1, 0), (22, .ishl, 1, 0), (23, .invokevirtual 265, 3, 351), (26, .aload 0, 1, 0), (27, .iload 2, 1, 0), (28, .sipush 3, 1, 0), (29, .invokevirtual 203, 3, 78), (32, .invokestatic 189, 3, 170), (35, .ifCond .ne 42, 3, 0), (38, .sipush 1, 1, 0), (39, .goto 43, 3, 0), (42, .sipush 0, 1, 0), (43, .ireturn, 1, 0)]
/-- SinglesPastModel.mayGo(II)Z -/
def tO_314 : List (Nat × av_O) := [(0, .sipush 0, 1, 0), (1, .istore 3, 1, 0), (2, .sipush 0, 1, 0), (3, .istore 4, 2, 0), (5, .sipush 0, 1, 0), (6, .istore 5, 2, 0), (8, .iload 5, 2, 0), (10, .iload 1, 1, 0), (11, .if_icmp .ge 77, 3, 0), (14, .iload 3, 1, 0), (15, .aload 0, 1, 0), (16, .getfield 724, 3, 45), (19, .iload 5, 2, 0), (21, .iaload, 1, 0), (22, .iload 2, 1, 0), (23, .if_icmp .ne 30, 3, 0), (26, .sipush 1, 1, 0), (27, .goto 31, 3, 0), (30, .sipush 0, 1, 0), (31, .iadd, 1, 0), (32, .istore 3, 1, 0), (33, .iload 4, 2, 0), (35, .ifCond .ne 64, 3, 0), (38, .aload 0, 1, 0), (39, .getfield 724, 3, 45), (42, .iload 5, 2, 0), (44, .iaload, 1, 0), (45, .iload 2, 1, 0), (46, .if_icmp .ne 68, 3, 0), (49, .aload 0, 1, 0), (50, .iload 1, 1, 0), (51, .sipush 6, 2, 0), (53, .invokevirtual 203, 3, 78), (56, .iload 5, 2, 0), (58, .invokestatic 189, 3, 170), (61, .ifCond .eq 68, 3, 0), (64, .sipush 1, 1, 0), (65, .goto 69, 3, 0), (68, .sipush 0, 1, 0), (69, .istore 4, 2, 0), (71, .iinc 5 1, 3, 0), (74, .goto 8, 3, 0), (77, .aload 0, 1, 0), (78, .iload 1, 1, 0), (79, .iload 2, 1, 0), (80, .invokevirtual 255, 3, 305), (83, .ifCond .eq 105, 3, 0), (86, .iload 3, 1, 0), (87, .aload 0, 1, 0), (88, .iload 2, 1, 0), (89, .sipush 1, 1, 0), (90, .invokevirtual 205, 3, 291), (93, .if_icmp .ge 105, 3, 0), (96, .iload 4, 2, 0), (98, .ifCond .ne 105, 3, 0), (101, .sipush 1, 1, 0), (102, .goto 106, 3, 0), (105, .sipush 0, 1, 0), (106, .ireturn, 1, 0)]
/-- SinglesPastModel.laysWay(II)I -/
def tO_315 : List (Nat × av_O) := [(0, .iload 1, 1, 0), (1, .istore 3, 1, 0), (2, .aload 0, 1, 0), (3, .invokevirtual 198, 3, 74), (6, .sipush 1, 1, 0), (7, .isub, 1, 0), (8, .istore 4, 2, 0), (10, .iload 4, 2, 0), (12, .ifCond .lt 45, 3, 0), (15, .aload 0, 1, 0), (16, .getfield 724, 3, 45), (19, .iload 4, 2, 0), (21, .iload 3, 1, 0), (22, .aload 0, 1, 0), (23, .invokevirtual 199, 3, 92), (26, .sipush 1, 1, 0), (27, .iadd, 1, 0), (28, .irem, 1, 0), (29, .iastore, 1, 0), (30, .iload 3, 1, 0), (31, .aload 0, 1, 0), (32, .invokevirtual 199, 3, 92), (35, .sipush 1, 1, 0), (36, .iadd, 1, 0), (37, .idiv, 1, 0), (38, .istore 3, 1, 0), (39, .iinc 4 (-1), 3, 0), (42, .goto 10, 3, 0), (45, .sipush 0, 1, 0), (46, .istore 4, 2, 0), (48, .sipush 0, 1, 0), (49, .istore 5, 2, 0), (51, .iload 5, 2, 0), (53, .aload 0, 1, 0), (54, .invokevirtual 198, 3, 74), (57, .if_icmp .ge 132, 3, 0), (60, .iload 4, 2, 0), (62, .sipush (-1), 1, 0), (63, .if_icmp .eq 132, 3, 0), (66, .aload 0, 1, 0), (67, .getfield 724, 3, 45), (70, .iload 5, 2, 0), (72, .iaload, 1, 0), (73, .aload 0, 1, 0), (74, .invokevirtual 199, 3, 92), (77, .if_icmp .ne 91, 3, 0), (80, .aload 0, 1, 0), (81, .getfield 724, 3, 45), (84, .iload 5, 2, 0), (86, .sipush (-1), 1, 0), (87, .iastore, 1, 0), (88, .goto 126, 3, 0), (91, .iload 2, 1, 0), (92, .iload 5, 2, 0), (94, .invokestatic 189, 3, 170), (97, .ifCond .eq 123, 3, 0), (100, .aload 0, 1, 0), (101, .iload 5, 2, 0), (103, .aload 0, 1, 0), (104, .getfield 724, 3, 45), (107, .iload 5, 2, 0), (109, .iaload, 1, 0), (110, .invokevirtual 314, 3, 439), (113, .ifCond .eq 123, 3, 0), (116, .iload 4, 2, 0), (118, .sipush 1, 1, 0), (119, .iadd, 1, 0), (120, .goto 124, 3, 0), (123, .sipush (-1), 1, 0), (124, .istore 4, 2, 0), (126, .iinc 5 1, 3, 0), (129, .goto 51, 3, 0), (132, .iload 4, 2, 0), (134, .ireturn, 1, 0)]
/-- SinglesPastModel.mostOf(I)I -/
def tO_316 : List (Nat × av_O) := [(0, .sipush 1, 1, 0), (1, .istore 2, 1, 0), (2, .sipush 0, 1, 0), (3, .istore 3, 1, 0), (4, .iload 3, 1, 0), (5, .aload 0, 1, 0), (6, .invokevirtual 198, 3, 74), (9, .if_icmp .ge 27, 3, 0), (12, .iload 2, 1, 0), (13, .aload 0, 1, 0), (14, .invokevirtual 199, 3, 92), (17, .sipush 1, 1, 0), (18, .iadd, 1, 0), (19, .imul, 1, 0), (20, .istore 2, 1, 0), (21, .iinc 3 1, 3, 0), (24, .goto 4, 3, 0), (27, .sipush (-1), 1, 0), (28, .istore 3, 1, 0), (29, .sipush 0, 1, 0), (30, .istore 4, 2, 0), (32, .iload 4, 2, 0), (34, .iload 2, 1, 0), (35, .if_icmp .ge 97, 3, 0), (38, .aload 0, 1, 0), (39, .iload 4, 2, 0), (41, .iload 1, 1, 0), (42, .invokevirtual 315, 3, 442), (45, .istore 5, 2, 0), (47, .iload 5, 2, 0), (49, .iload 3, 1, 0), (50, .if_icmp .gt 56, 3, 0), (53, .goto 91, 3, 0), (56, .iload 5, 2, 0), (58, .istore 3, 1, 0), (59, .sipush 0, 1, 0), (60, .istore 6, 2, 0), (62, .iload 6, 2, 0), (64, .aload 0, 1, 0), (65, .invokevirtual 198, 3, 74), (68, .if_icmp .ge 91, 3, 0), (71, .aload 0, 1, 0), (72, .getfield 725, 3, 48), (75, .iload 6, 2, 0), (77, .aload 0, 1, 0), (78, .getfield 724, 3, 45), (81, .iload 6, 2, 0), (83, .iaload, 1, 0), (84, .iastore, 1, 0), (85, .iinc 6 1, 3, 0), (88, .goto 62, 3, 0), (91, .iinc 4 1, 3, 0), (94, .goto 32, 3, 0), (97, .iload 3, 1, 0), (98, .ireturn, 1, 0)]
/-- SinglesPastModel.colours(I)I -/
def tO_317 : List (Nat × av_O) := [(0, .aload 0, 1, 0), (1, .sipush 0, 1, 0), (2, .putfield 704, 3, 3), (5, .aload 0, 1, 0), (6, .iload 1, 1, 0), (7, .sipush (-1), 1, 0), (8, .if_icmp .eq 23, 3, 0), (11, .aload 0, 1, 0), (12, .iload 1, 1, 0), (13, .invokevirtual 211, 3, 380), (16, .ifCond .eq 23, 3, 0), (19, .sipush 1, 1, 0), (20, .goto 24, 3, 0), (23, .sipush 0, 1, 0), (24, .sipush 1, 1, 0), (25, .invokevirtual 187, 3, 284), (28, .ifCond .eq 33, 3, 0), (31, .sipush 0, 1, 0), (32, .ireturn, 1, 0), (33, .aload 0, 1, 0), (34, .aload 0, 1, 0), (35, .invokevirtual 206, 3, 368), (38, .aload 0, 1, 0), (39, .invokevirtual 208, 3, 371), (42, .sipush (-1), 1, 0), (43, .ixor, 1, 0), (44, .iand, 1, 0), (45, .invokevirtual 316, 3, 445), (48, .istore 2, 1, 0), (49, .iload 1, 1, 0), (50, .sipush (-1), 1, 0), (51, .if_icmp .ne 58, 3, 0), (54, .iload 2, 1, 0), (55, .goto 64, 3, 0), (58, .aload 0, 1, 0), (59, .getfield 725, 3, 48), (62, .iload 1, 1, 0), (63, .iaload, 1, 0), (64, .ireturn, 1, 0)]
/-- SinglesPastModel.laysMembers(I)I -/
def tO_318 : List (Nat × av_O) := [(0, .sipush 0, 1, 0), (1, .istore 2, 1, 0), (2, .sipush 0, 1, 0), (3, .istore 3, 1, 0), (4, .iload 3, 1, 0), (5, .aload 0, 1, 0), (6, .invokevirtual 198, 3, 74), (9, .if_icmp .ge 46, 3, 0), (12, .aload 0, 1, 0), (13, .getfield 724, 3, 45), (16, .iload 3, 1, 0), (17, .sipush (-1), 1, 0), (18, .iastore, 1, 0), (19, .iload 1, 1, 0), (20, .iload 3, 1, 0), (21, .invokestatic 189, 3, 170), (24, .ifCond .ne 30, 3, 0), (27, .goto 40, 3, 0), (30, .aload 0, 1, 0), (31, .getfield 726, 3, 51), (34, .iload 2, 1, 0), (35, .iload 3, 1, 0), (36, .iastore, 1, 0), (37, .iinc 2 1, 3, 0), (40, .iinc 3 1, 3, 0), (43, .goto 4, 3, 0), (46, .iload 2, 1, 0), (47, .ireturn, 1, 0)]
/-- SinglesPastModel.canAll(I)Z -/
def tO_319 : List (Nat × av_O) := [(0, .aload 0, 1, 0), (1, .iload 1, 1, 0), (2, .invokevirtual 318, 3, 448), (5, .istore 2, 1, 0), (6, .sipush 0, 1, 0), (7, .istore 3, 1, 0), (8, .iload 3, 1, 0), (9, .ifCond .lt 104, 3, 0), (12, .iload 3, 1, 0), (13, .iload 2, 1, 0), (14, .if_icmp .ge 104, 3, 0), (17, .aload 0, 1, 0), (18, .getfield 726, 3, 51), (21, .iload 3, 1, 0), (22, .iaload, 1, 0), (23, .istore 4, 2, 0), (25, .aload 0, 1, 0), (26, .getfield 724, 3, 45), (29, .iload 4, 2, 0), (31, .iaload, 1, 0), (32, .sipush 1, 1, 0), (33, .iadd, 1, 0), (34, .istore 5, 2, 0), (36, .iload 5, 2, 0), (38, .aload 0, 1, 0), (39, .invokevirtual 199, 3, 92), (42, .if_icmp .ge 62, 3, 0), (45, .aload 0, 1, 0), (46, .iload 4, 2, 0), (48, .iload 5, 2, 0), (50, .invokevirtual 314, 3, 439), (53, .ifCond .ne 62, 3, 0), (56, .iinc 5 1, 3, 0), (59, .goto 36, 3, 0), (62, .aload 0, 1, 0), (63, .getfield 724, 3, 45), (66, .iload 4, 2, 0), (68, .iload 5, 2, 0), (70, .aload 0, 1, 0), (71, .invokevirtual 199, 3, 92), (74, .if_icmp .ge 82, 3, 0), (77, .iload 5, 2, 0), (79, .goto 83, 3, 0), (82, .sipush (-1), 1, 0), (83, .iastore, 1, 0), (84, .iload 3, 1, 0), (85, .iload 5, 2, 0), (87, .aload 0, 1, 0), (88, .invokevirtual 199, 3, 92), (91, .if_icmp .ge 98, 3, 0), (94, .sipush 1, 1, 0), (95, .goto 99, 3, 0), (98, .sipush (-1), 1, 0), (99, .iadd, 1, 0), (100, .istore 3, 1, 0), (101, .goto 8, 3, 0), (104, .iload 3, 1, 0), (105, .iload 2, 1, 0), (106, .if_icmp .ne 113, 3, 0), (109, .sipush 1, 1, 0), (110, .goto 114, 3, 0), (113, .sipush 0, 1, 0), (114, .ireturn, 1, 0)]
/-- SinglesPastModel.clash()I -/
def tO_320 : List (Nat × av_O) := [(0, .aload 0, 1, 0), (1, .sipush 0, 1, 0), (2, .putfield 704, 3, 3), (5, .aload 0, 1, 0), (6, .invokevirtual 206, 3, 368), (9, .aload 0, 1, 0), (10, .invokevirtual 208, 3, 371), (13, .sipush (-1), 1, 0), (14, .ixor, 1, 0), (15, .iand, 1, 0), (16, .istore 1, 1, 0), (17, .sipush (-1), 1, 0), (18, .istore 2, 1, 0), (19, .sipush 0, 1, 0), (20, .istore 3, 1, 0), (21, .iload 3, 1, 0), (22, .iload 1, 1, 0), (23, .if_icmp .gt 66, 3, 0), (26, .iload 3, 1, 0), (27, .iload 1, 1, 0), (28, .sipush (-1), 1, 0), (29, .ixor, 1, 0), (30, .iand, 1, 0), (31, .ifCond .ne 60, 3, 0), (34, .iload 2, 1, 0), (35, .sipush (-1), 1, 0), (36, .if_icmp .eq 50, 3, 0), (39, .iload 3, 1, 0), (40, .invokestatic 357, 3, 360), (43, .iload 2, 1, 0), (44, .invokestatic 357, 3, 360), (47, .if_icmp .ge 60, 3, 0), (50, .aload 0, 1, 0), (51, .iload 3, 1, 0), (52, .invokevirtual 319, 3, 451), (55, .ifCond .ne 60, 3, 0), (58, .iload 3, 1, 0), (59, .istore 2, 1, 0), (60, .iinc 3 1, 3, 0), (63, .goto 21, 3, 0), (66, .iload 2, 1, 0), (67, .ireturn, 1, 0)]
/-- SinglesPastModel.payersOf(II)I -/
def tO_321 : List (Nat × av_O) := [(0, .sipush 0, 1, 0), (1, .istore 3, 1, 0), (2, .sipush 0, 1, 0), (3, .istore 4, 2, 0), (5, .iload 4, 2, 0), (7, .aload 0, 1, 0), (8, .invokevirtual 198, 3, 74), (11, .if_icmp .ge 59, 3, 0), (14, .iload 3, 1, 0), (15, .aload 0, 1, 0), (16, .iload 4, 2, 0), (18, .invokevirtual 207, 3, 81), (21, .ifCond .ne 50, 3, 0), (24, .aload 0, 1, 0), (25, .iload 4, 2, 0), (27, .sipush 0, 1, 0), (28, .invokevirtual 203, 3, 78), (31, .iload 1, 1, 0), (32, .if_icmp .ne 50, 3, 0), (35, .aload 0, 1, 0), (36, .iload 4, 2, 0), (38, .sipush 4, 1, 0), (39, .invokevirtual 203, 3, 78), (42, .iload 2, 1, 0), (43, .if_icmp .lt 50, 3, 0), (46, .sipush 1, 1, 0), (47, .goto 51, 3, 0), (50, .sipush 0, 1, 0), (51, .iadd, 1, 0), (52, .istore 3, 1, 0), (53, .iinc 4 1, 3, 0), (56, .goto 5, 3, 0), (59, .iload 3, 1, 0), (60, .ireturn, 1, 0)]
/-- SinglesPastModel.priceOf(I)I -/
def tO_322 : List (Nat × av_O) := [(0, .sipush 0, 1, 0), (1, .istore 2, 1, 0), (2, .sipush 1, 1, 0), (3, .istore 3, 1, 0), (4, .iload 3, 1, 0), (5, .sipush 999, 3, 0), (8, .if_icmp .gt 42, 3, 0), (11, .iload 3, 1, 0), (12, .aload 0, 1, 0), (13, .iload 1, 1, 0), (14, .iload 3, 1, 0), (15, .invokevirtual 321, 3, 454), (18, .imul, 1, 0), (19, .iload 2, 1, 0), (20, .aload 0, 1, 0), (21, .iload 1, 1, 0), (22, .iload 2, 1, 0), (23, .invokevirtual 321, 3, 454), (26, .imul, 1, 0), (27, .if_icmp .le 34, 3, 0), (30, .iload 3, 1, 0), (31, .goto 35, 3, 0), (34, .iload 2, 1, 0), (35, .istore 2, 1, 0), (36, .iinc 3 1, 3, 0), (39, .goto 4, 3, 0), (42, .iload 2, 1, 0), (43, .ireturn, 1, 0)]
/-- SinglesPastModel.earnsOf(I)I -/
def tO_323 : List (Nat × av_O) := [(0, .aload 0, 1, 0), (1, .iload 1, 1, 0), (2, .invokevirtual 322, 3, 457), (5, .istore 2, 1, 0), (6, .iload 2, 1, 0), (7, .aload 0, 1, 0), (8, .iload 1, 1, 0), (9, .iload 2, 1, 0), (10, .invokevirtual 321, 3, 454), (13, .imul, 1, 0), (14, .ireturn, 1, 0)]
/-- SinglesPastModel.price(IZ)I -/
def tO_324 : List (Nat × av_O) := [(0, .aload 0, 1, 0), (1, .sipush 0, 1, 0), (2, .putfield 704, 3, 3), (5, .aload 0, 1, 0), (6, .iload 1, 1, 0), (7, .invokestatic 213, 3, 420), (10, .sipush 1, 1, 0), (11, .invokevirtual 187, 3, 284), (14, .ifCond .eq 21, 3, 0), (17, .sipush 0, 1, 0), (18, .goto 38, 3, 0), (21, .iload 2, 1, 0), (22, .ifCond .eq 33, 3, 0), (25, .aload 0, 1, 0), (26, .iload 1, 1, 0), (27, .invokevirtual 323, 3, 460), (30, .goto 38, 3, 0), (33, .aload 0, 1, 0), (34, .iload 1, 1, 0), (35, .invokevirtual 322, 3, 457), (38, .ireturn, 1, 0)]
/-- SinglesPastModel.dearest()I -/
def tO_325 : List (Nat × av_O) := [(0, .aload 0, 1, 0), (1, .sipush 0, 1, 0), (2, .putfield 704, 3, 3), (5, .sipush 0, 1, 0), (6, .istore 1, 1, 0), (7, .sipush 1, 1, 0), (8, .istore 2, 1, 0), (9, .iload 2, 1, 0), (10, .sipush 16, 2, 0), (12, .if_icmp .ge 40, 3, 0), (15, .aload 0, 1, 0), (16, .iload 2, 1, 0), (17, .invokevirtual 323, 3, 460), (20, .aload 0, 1, 0), (21, .iload 1, 1, 0), (22, .invokevirtual 323, 3, 460), (25, .if_icmp .le 32, 3, 0), (28, .iload 2, 1, 0), (29, .goto 33, 3, 0), (32, .iload 1, 1, 0), (33, .istore 1, 1, 0), (34, .iinc 2 1, 3, 0), (37, .goto 9, 3, 0), (40, .iload 1, 1, 0), (41, .ireturn, 1, 0)]
/-- SinglesPastModel.crowd(I)I -/
def tO_326 : List (Nat × av_O) := [(0, .aload 0, 1, 0), (1, .sipush 0, 1, 0), (2, .putfield 704, 3, 3), (5, .aload 0, 1, 0), (6, .iload 1, 1, 0), (7, .invokestatic 213, 3, 420), (10, .sipush 1, 1, 0), (11, .invokevirtual 187, 3, 284), (14, .ifCond .eq 19, 3, 0), (17, .sipush 0, 1, 0), (18, .ireturn, 1, 0), (19, .sipush 0, 1, 0), (20, .istore 2, 1, 0), (21, .sipush 0, 1, 0), (22, .istore 3, 1, 0), (23, .iload 3, 1, 0), (24, .aload 0, 1, 0), (25, .invokevirtual 198, 3, 74), (28, .if_icmp .ge 57, 3, 0), (31, .iload 2, 1, 0), (32, .aload 0, 1, 0), (33, .iload 3, 1, 0), (34, .sipush 0, 1, 0), (35, .invokevirtual 203, 3, 78), (38, .iload 1, 1, 0), (39, .if_icmp .ne 48, 3, 0), (42, .sipush 1, 1, 0), (43, .iload 3, 1, 0), (44, .ishl, 1, 0), (45, .goto 49, 3, 0), (48, .sipush 0, 1, 0), (49, .ior, 1, 0), (50, .istore 2, 1, 0), (51, .iinc 3 1, 3, 0), (54, .goto 23, 3, 0), (57, .iload 2, 1, 0), (58, .ireturn, 1, 0)]
/-- SinglesPastModel.asksFor(I)I -/
def tO_327 : List (Nat × av_O) := [(0, .sipush 0, 1, 0), (1, .istore 1, 1, 0), (2, .sipush 1, 1, 0), (3, .iload 1, 1, 0), (4, .ishl, 1, 0), (5, .iload 0, 1, 0), (6, .if_icmp .ge 15, 3, 0), (9, .iinc 1 1, 3, 0), (12, .goto 2, 3, 0), (15, .iload 1, 1, 0), (16, .ireturn, 1, 0)]
/-- SinglesPastModel.asks(IZ)I -/
def tO_328 : List (Nat × av_O) := [(0, .aload 0, 1, 0), (1, .sipush 0, 1, 0), (2, .putfield 704, 3, 3), (5, .iload 1, 1, 0), (6, .sipush 65535, 3, 426), (9, .iand, 1, 0), (10, .istore 3, 1, 0), (11, .iload 3, 1, 0), (12, .invokestatic 357, 3, 360), (15, .invokestatic 327, 3, 463), (18, .istore 4, 2, 0), (20, .iload 2, 1, 0), (21, .ifCond .ne 27, 3, 0), (24, .iload 4, 2, 0), (26, .ireturn, 1, 0), (27, .sipush (-1), 1, 0), (28, .istore 5, 2, 0), (30, .sipush 14, 2, 0), (32, .istore 6, 2, 0), (34, .iload 6, 2, 0), (36, .ifCond .lt 99, 3, 0), (39, .iload 4, 2, 0), (41, .ifCond .le 99, 3, 0), (44, .iload 3, 1, 0), (45, .sipush 2, 1, 0), (46, .iload 6, 2, 0), (48, .ishl, 1, 0), (49, .sipush 1, 1, 0), (50, .isub, 1, 0), (51, .iand, 1, 0), (52, .invokestatic 357, 3, 360), (55, .istore 7, 2, 0), (57, .iload 3, 1, 0), (58, .invokestatic 357, 3, 360), (61, .iload 7, 2, 0), (63, .isub, 1, 0), (64, .istore 8, 2, 0), (66, .iload 7, 2, 0), (68, .invokestatic 327, 3, 463), (71, .iload 8, 2, 0), (73, .invokestatic 327, 3, 463), (76, .invokedynamic 4, 3, 165), (79, .iload 4, 2, 0), (81, .if_icmp .ge 89, 3, 0), (84, .iload 6, 2, 0), (86, .goto 91, 3, 0), (89, .iload 5, 2, 0), (91, .istore 5, 2, 0), (93, .iinc 6 (-1), 3, 0), (96, .goto 34, 3, 0), (99, .iload 5, 2, 0), (101, .ireturn, 1, 0)]
/-- SinglesPastModel.pickedBy(II)I -/
def tO_329 : List (Nat × av_O) := [(0, .sipush 1, 1, 0), (1, .istore 2, 1, 0), (2, .sipush 2, 1, 0), (3, .istore 3, 1, 0), (4, .iload 3, 1, 0), (5, .iload 0, 1, 0), (6, .if_icmp .ge 19, 3, 0), (9, .iload 2, 1, 0), (10, .iload 3, 1, 0), (11, .imul, 1, 0), (12, .istore 2, 1, 0), (13, .iinc 3 1, 3, 0), (16, .goto 4, 3, 0), (19, .iload 1, 1, 0), (20, .ifCond .ne 27, 3, 0), (23, .iload 2, 1, 0), (24, .goto 28, 3, 0), (27, .sipush 0, 1, 0), (28, .istore 3, 1, 0), (29, .iload 1, 1, 0), (30, .sipush 1, 1, 0), (31, .iadd, 1, 0), (32, .istore 4, 2, 0), (34, .iload 4, 2, 0), (36, .iload 0, 1, 0), (37, .if_icmp .gt 61, 3, 0), (40, .iload 1, 1, 0), (41, .ifCond .le 61, 3, 0), (44, .iload 3, 1, 0), (45, .iload 2, 1, 0), (46, .iload 4, 2, 0), (48, .sipush 1, 1, 0), (49, .isub, 1, 0), (50, .idiv, 1, 0), (51, .iload 1, 1, 0), (52, .imul, 1, 0), (53, .iadd, 1, 0), (54, .istore 3, 1, 0), (55, .iinc 4 1, 3, 0), (58, .goto 34, 3, 0), (61, .iload 3, 1, 0), (62, .ireturn, 1, 0)]
/-- SinglesPastModel.pick(IZ)I -/
def tO_330 : List (Nat × av_O) := [(0, .aload 0, 1, 0), (1, .sipush 0, 1, 0), (2, .putfield 704, 3, 3), (5, .aload 0, 1, 0), (6, .iload 1, 1, 0), (7, .sipush 1, 1, 0), (8, .sipush 10, 2, 0), (10, .invokestatic 188, 3, 88), (13, .ifCond .ne 20, 3, 0), (16, .sipush 1, 1, 0), (17, .goto 21, 3, 0), (20, .sipush 0, 1, 0), (21, .sipush 1, 1, 0), (22, .invokevirtual 187, 3, 284), (25, .ifCond .eq 30, 3, 0), (28, .sipush 0, 1, 0), (29, .ireturn, 1, 0), (30, .sipush 0, 1, 0), (31, .istore 3, 1, 0), (32, .sipush 1, 1, 0), (33, .istore 4, 2, 0), (35, .iload 4, 2, 0), (37, .iload 1, 1, 0), (38, .if_icmp .ge 68, 3, 0), (41, .iload 1, 1, 0), (42, .iload 4, 2, 0), (44, .invokestatic 329, 3, 466), (47, .iload 1, 1, 0), (48, .iload 3, 1, 0), (49, .invokestatic 329, 3, 466), (52, .if_icmp .le 60, 3, 0), (55, .iload 4, 2, 0), (57, .goto 61, 3, 0), (60, .iload 3, 1, 0), (61, .istore 3, 1, 0), (62, .iinc 4 1, 3, 0), (65, .goto 35, 3, 0), (68, .iload 2, 1, 0), (69, .ifCond .eq 80, 3, 0), (72, .iload 1, 1, 0), (73, .iload 3, 1, 0), (74, .invokestatic 329, 3, 466), (77, .goto 81, 3, 0), (80, .iload 3, 1, 0), (81, .ireturn, 1, 0)]
/-- SinglesPastModel.firstOf(I)I -/
def tO_331 : List (Nat × av_O) := [(0, .iload 0, 1, 0), (1, .invokestatic 356, 3, 469), (4, .ireturn, 1, 0)]
/-- SinglesPastModel.canPair(II)Z -/
def tO_332 : List (Nat × av_O) := [(0, .aload 0, 1, 0), (1, .iload 1, 1, 0), (2, .invokevirtual 207, 3, 81), (5, .ifCond .ne 34, 3, 0), (8, .aload 0, 1, 0), (9, .iload 2, 1, 0), (10, .invokevirtual 207, 3, 81), (13, .ifCond .ne 34, 3, 0), (16, .aload 0, 1, 0), (17, .iload 1, 1, 0), (18, .sipush 6, 2, 0), (20, .invokevirtual 203, 3, 78), (23, .iload 2, 1, 0), (24, .invokestatic 189, 3, 170), (27, .ifCond .ne 34, 3, 0), (30, .sipush 1, 1, 0), (31, .goto 35, 3, 0), (34, .sipush 0, 1, 0), (35, .ireturn, 1, 0)]
/-- SinglesPastModel.pairedBy(II)I -/
def tO_333 : List (Nat × av_O) := [(0, .iload 1, 1, 0), (1, .invokestatic 331, 3, 472), (4, .istore 3, 1, 0), (5, .iload 1, 1, 0), (6, .sipush 1, 1, 0), (7, .iload 3, 1, 0), (8, .ishl, 1, 0), (9, .sipush (-1), 1, 0), (10, .ixor, 1, 0), (11, .iand, 1, 0), (12, .istore 4, 2, 0), (14, .iload 2, 1, 0), (15, .sipush (-1), 1, 0), (16, .if_icmp .ne 27, 3, 0), (19, .aload 0, 1, 0), (20, .getfield 727, 3, 54), (23, .iload 4, 2, 0), (25, .iaload, 1, 0), (26, .ireturn, 1, 0), (27, .iload 4, 2, 0), (29, .iload 2, 1, 0), (30, .invokestatic 189, 3, 170), (33, .ifCond .eq 82, 3, 0), (36, .aload 0, 1, 0), (37, .iload 3, 1, 0), (38, .iload 2, 1, 0), (39, .invokevirtual 332, 3, 475), (42, .ifCond .eq 82, 3, 0), (45, .aload 0, 1, 0), (46, .iload 3, 1, 0), (47, .sipush 0, 1, 0), (48, .invokevirtual 203, 3, 78), (51, .aload 0, 1, 0), (52, .iload 2, 1, 0), (53, .sipush 0, 1, 0), (54, .invokevirtual 203, 3, 78), (57, .if_icmp .ne 64, 3, 0), (60, .sipush 1, 1, 0), (61, .goto 65, 3, 0), (64, .sipush 0, 1, 0), (65, .aload 0, 1, 0), (66, .getfield 727, 3, 54), (69, .iload 4, 2, 0), (71, .sipush 1, 1, 0), (72, .iload 2, 1, 0), (73, .ishl, 1, 0), (74, .sipush (-1), 1, 0), (75, .ixor, 1, 0), (76, .iand, 1, 0), (77, .iaload, 1, 0), (78, .iadd, 1, 0), (79, .goto 83, 3, 0), (82, .sipush (-1), 1, 0), (83, .ireturn, 1, 0)]
/-- SinglesPastModel.laysPairs()V -/
def tO_334 : List (Nat × av_O) := [(0, .aload 0, 1, 0), (1, .getfield 727, 3, 54), (4, .sipush 0, 1, 0), (5, .sipush 0, 1, 0), (6, .iastore, 1, 0), (7, .sipush 1, 1, 0), (8, .istore 1, 1, 0), (9, .iload 1, 1, 0), (10, .aload 0, 1, 0), (11, .invokevirtual 206, 3, 368), (14, .if_icmp .gt 59, 3, 0), (17, .sipush 0, 1, 0), (18, .istore 2, 1, 0), (19, .sipush (-1), 1, 0), (20, .istore 3, 1, 0), (21, .iload 3, 1, 0), (22, .aload 0, 1, 0), (23, .invokevirtual 198, 3, 74), (26, .if_icmp .ge 46, 3, 0), (29, .iload 2, 1, 0), (30, .aload 0, 1, 0), (31, .iload 1, 1, 0), (32, .iload 3, 1, 0), (33, .invokevirtual 333, 3, 478), (36, .invokedynamic 4, 3, 165), (39, .istore 2, 1, 0), (40, .iinc 3 1, 3, 0), (43, .goto 21, 3, 0), (46, .aload 0, 1, 0), (47, .getfield 727, 3, 54), (50, .iload 1, 1, 0), (51, .iload 2, 1, 0), (52, .iastore, 1, 0), (53, .iinc 1 1, 3, 0), (56, .goto 9, 3, 0), (59, .return_, 1, 0)]
/-- SinglesPastModel.pairs(I)I -/
def tO_335 : List (Nat × av_O) := [(0, .aload 0, 1, 0), (1, .sipush 0, 1, 0), (2, .putfield 704, 3, 3), (5, .aload 0, 1, 0), (6, .iload 1, 1, 0), (7, .sipush (-1), 1, 0), (8, .if_icmp .eq 23, 3, 0), (11, .aload 0, 1, 0), (12, .iload 1, 1, 0), (13, .invokevirtual 211, 3, 380), (16, .ifCond .eq 23, 3, 0), (19, .sipush 1, 1, 0), (20, .goto 24, 3, 0), (23, .sipush 0, 1, 0), (24, .sipush 1, 1, 0), (25, .invokevirtual 187, 3, 284), (28, .ifCond .eq 33, 3, 0), (31, .sipush 0, 1, 0), (32, .ireturn, 1, 0), (33, .aload 0, 1, 0), (34, .invokevirtual 334, 3, 481), (37, .aload 0, 1, 0), (38, .invokevirtual 206, 3, 368), (41, .istore 2, 1, 0), (42, .iload 1, 1, 0), (43, .sipush (-1), 1, 0), (44, .if_icmp .ne 54, 3, 0), (47, .aload 0, 1, 0), (48, .getfield 727, 3, 54), (51, .iload 2, 1, 0), (52, .iaload, 1, 0), (53, .ireturn, 1, 0), (54, .sipush (-1), 1, 0), (55, .istore 3, 1, 0), (56, .sipush 0, 1, 0), (57, .istore 4, 2, 0), (59, .iload 4, 2, 0), (61, .ifCond .ne 159, 3, 0), (64, .iload 2, 1, 0), (65, .invokestatic 331, 3, 472), (68, .istore 5, 2, 0), (70, .sipush (-1), 1, 0), (71, .istore 6, 2, 0), (73, .aload 0, 1, 0), (74, .iload 2, 1, 0), (75, .iload 6, 2, 0), (77, .invokevirtual 333, 3, 478), (80, .aload 0, 1, 0), (81, .getfield 727, 3, 54), (84, .iload 2, 1, 0), (85, .iaload, 1, 0), (86, .if_icmp .eq 95, 3, 0), (89, .iinc 6 1, 3, 0), (92, .goto 73, 3, 0), (95, .iload 5, 2, 0), (97, .iload 1, 1, 0), (98, .if_icmp .eq 107, 3, 0), (101, .iload 6, 2, 0), (103, .iload 1, 1, 0), (104, .if_icmp .ne 111, 3, 0), (107, .sipush 1, 1, 0), (108, .goto 112, 3, 0), (111, .sipush 0, 1, 0), (112, .istore 4, 2, 0), (114, .iload 5, 2, 0), (116, .iload 1, 1, 0), (117, .if_icmp .ne 125, 3, 0), (120, .iload 6, 2, 0), (122, .goto 127, 3, 0), (125, .iload 5, 2, 0), (127, .istore 3, 1, 0), (128, .iload 2, 1, 0), (129, .sipush 1, 1, 0), (130, .iload 5, 2, 0), (132, .ishl, 1, 0), (133, .sipush (-1), 1, 0), (134, .ixor, 1, 0), (135, .iand, 1, 0), (136, .istore 2, 1, 0), (137, .iload 6, 2, 0), (139, .sipush (-1), 1, 0), (140, .if_icmp .ne 147, 3, 0), (143, .iload 2, 1, 0), (144, .goto 155, 3, 0), (147, .iload 2, 1, 0), (148, .sipush 1, 1, 0), (149, .iload 6, 2, 0), (151, .ishl, 1, 0), (152, .sipush (-1), 1, 0), (153, .ixor, 1, 0), (154, .iand, 1, 0), (155, .istore 2, 1, 0), (156, .goto 59, 3, 0), (159, .iload 3, 1, 0), (160, .ireturn, 1, 0)]
/-- SinglesPastModel.goerHas(III)I -/
def tO_336 : List (Nat × av_O) := [(0, .iload 2, 1, 0), (1, .ifCond .ne 23, 3, 0), (4, .iload 3, 1, 0), (5, .ifCond .ne 20, 3, 0), (8, .aload 0, 1, 0), (9, .iload 1, 1, 0), (10, .sipush 5, 1, 0), (11, .invokevirtual 203, 3, 78), (14, .sipush 10, 2, 0), (16, .idiv, 1, 0), (17, .goto 22, 3, 0), (20, .sipush (-2), 2, 0), (22, .ireturn, 1, 0), (23, .iload 3, 1, 0), (24, .ifCond .ne 31, 3, 0), (27, .sipush 3, 1, 0), (28, .goto 32, 3, 0), (31, .sipush 0, 1, 0), (32, .ireturn, 1, 0)]
/-- SinglesPastModel.clerkHas(II)I -/
def tO_337 : List (Nat × av_O) := [(0, .iload 0, 1, 0), (1, .ifCond .ne 14, 3, 0), (4, .iload 1, 1, 0), (5, .ifCond .ne 12, 3, 0), (8, .sipush (-1), 1, 0), (9, .goto 13, 3, 0), (12, .sipush 1, 1, 0), (13, .ireturn, 1, 0), (14, .iload 1, 1, 0), (15, .ifCond .ne 23, 3, 0), (18, .sipush (-2), 2, 0), (20, .goto 24, 3, 0), (23, .sipush 0, 1, 0), (24, .ireturn, 1, 0)]
/-- SinglesPastModel.rests(I)I -/
def tO_338 : List (Nat × av_O) := [(0, .aload 0, 1, 0), (1, .sipush 0, 1, 0), (2, .putfield 704, 3, 3), (5, .aload 0, 1, 0), (6, .aload 0, 1, 0), (7, .iload 1, 1, 0), (8, .invokevirtual 211, 3, 380), (11, .sipush 1, 1, 0), (12, .invokevirtual 187, 3, 284), (15, .ifCond .eq 20, 3, 0), (18, .sipush 0, 1, 0), (19, .ireturn, 1, 0), (20, .sipush 0, 1, 0), (21, .istore 2, 1, 0), (22, .sipush 0, 1, 0), (23, .istore 3, 1, 0), (24, .iload 3, 1, 0), (25, .sipush 2, 1, 0), (26, .if_icmp .ge 103, 3, 0), (29, .sipush 0, 1, 0), (30, .istore 4, 2, 0), (32, .iload 4, 2, 0), (34, .sipush 2, 1, 0), (35, .if_icmp .ge 97, 3, 0), (38, .iload 2, 1, 0), (39, .aload 0, 1, 0), (40, .iload 1, 1, 0), (41, .iload 3, 1, 0), (42, .iload 4, 2, 0), (44, .invokevirtual 336, 3, 484), (47, .aload 0, 1, 0), (48, .iload 1, 1, 0), (49, .sipush 1, 1, 0), (50, .iload 3, 1, 0), (51, .isub, 1, 0), (52, .iload 4, 2, 0), (54, .invokevirtual 336, 3, 484), (57, .if_icmp .lt 88, 3, 0), (60, .iload 3, 1, 0), (61, .iload 4, 2, 0), (63, .invokestatic 337, 3, 487), (66, .iload 3, 1, 0), (67, .sipush 1, 1, 0), (68, .iload 4, 2, 0), (70, .isub, 1, 0), (71, .invokestatic 337, 3, 487), (74, .if_icmp .lt 88, 3, 0), (77, .sipush 1, 1, 0), (78, .sipush 2, 1, 0), (79, .iload 3, 1, 0), (80, .imul, 1, 0), (81, .iload 4, 2, 0), (83, .iadd, 1, 0), (84, .ishl, 1, 0), (85, .goto 89, 3, 0), (88, .sipush 0, 1, 0), (89, .ior, 1, 0), (90, .istore 2, 1, 0), (91, .iinc 4 1, 3, 0), (94, .goto 32, 3, 0), (97, .iinc 3 1, 3, 0), (100, .goto 24, 3, 0), (103, .iload 2, 1, 0), (104, .ireturn, 1, 0)]
/-- SinglesPastModel.odds(II)I -/
def tO_339 : List (Nat × av_O) := [(0, .aload 0, 1, 0), (1, .sipush 0, 1, 0), (2, .putfield 704, 3, 3), (5, .aload 0, 1, 0), (6, .aload 0, 1, 0), (7, .iload 1, 1, 0), (8, .invokevirtual 211, 3, 380), (11, .sipush 1, 1, 0), (12, .invokevirtual 187, 3, 284), (15, .ifCond .ne 40, 3, 0), (18, .aload 0, 1, 0), (19, .iload 2, 1, 0), (20, .sipush 0, 1, 0), (21, .sipush 4, 1, 0), (22, .invokestatic 188, 3, 88), (25, .ifCond .ne 32, 3, 0), (28, .sipush 1, 1, 0), (29, .goto 33, 3, 0), (32, .sipush 0, 1, 0), (33, .sipush 2, 1, 0), (34, .invokevirtual 187, 3, 284), (37, .ifCond .eq 42, 3, 0), (40, .sipush 0, 1, 0), (41, .ireturn, 1, 0), (42, .aload 0, 1, 0), (43, .iload 1, 1, 0), (44, .invokevirtual 258, 3, 327), (47, .istore 3, 1, 0), (48, .iload 3, 1, 0), (49, .sipush (-1), 1, 0), (50, .if_icmp .ne 57, 3, 0), (53, .sipush 0, 1, 0), (54, .goto 79, 3, 0), (57, .sipush 0, 1, 0), (58, .sipush 100, 2, 0), (60, .aload 0, 1, 0), (61, .iload 1, 1, 0), (62, .sipush 5, 1, 0), (63, .invokevirtual 203, 3, 78), (66, .aload 0, 1, 0), (67, .iload 1, 1, 0), (68, .iload 3, 1, 0), (69, .invokevirtual 254, 3, 333), (72, .isub, 1, 0), (73, .invokedynamic 5, 3, 320), (76, .invokedynamic 4, 3, 165), (79, .istore 4, 2, 0), (81, .sipush 10000, 3, 0), (84, .istore 5, 2, 0), (86, .sipush 0, 1, 0), (87, .istore 6, 2, 0), (89, .iload 6, 2, 0), (91, .iload 2, 1, 0), (92, .if_icmp .ge 114, 3, 0), (95, .iload 5, 2, 0), (97, .sipush 100, 2, 0), (99, .iload 4, 2, 0), (101, .isub, 1, 0), (102, .imul, 1, 0), (103, .sipush 100, 2, 0), (105, .idiv, 1, 0), (106, .istore 5, 2, 0), (108, .iinc 6 1, 3, 0), (111, .goto 89, 3, 0), (114, .iload 5, 2, 0), (116, .ireturn, 1, 0)]
/-- SinglesPastModel.brave()I -/
def tO_340 : List (Nat × av_O) := [(0, .aload 0, 1, 0), (1, .sipush 0, 1, 0), (2, .putfield 704, 3, 3), (5, .sipush (-1), 1, 0), (6, .istore 1, 1, 0), (7, .sipush 0, 1, 0), (8, .istore 2, 1, 0), (9, .iload 2, 1, 0), (10, .aload 0, 1, 0), (11, .invokevirtual 198, 3, 74), (14, .if_icmp .ge 53, 3, 0), (17, .aload 0, 1, 0), (18, .iload 2, 1, 0), (19, .invokevirtual 207, 3, 81), (22, .ifCond .ne 47, 3, 0), (25, .iload 1, 1, 0), (26, .sipush (-1), 1, 0), (27, .if_icmp .eq 45, 3, 0), (30, .aload 0, 1, 0), (31, .iload 2, 1, 0), (32, .sipush 5, 1, 0), (33, .invokevirtual 203, 3, 78), (36, .aload 0, 1, 0), (37, .iload 1, 1, 0), (38, .sipush 5, 1, 0), (39, .invokevirtual 203, 3, 78), (42, .if_icmp .le 47, 3, 0), (45, .iload 2, 1, 0), (46, .istore 1, 1, 0), (47, .iinc 2 1, 3, 0), (50, .goto 9, 3, 0), (53, .iload 1, 1, 0), (54, .ireturn, 1, 0)]
/-- SinglesPastModel.gone()I -/
def tO_341 : List (Nat × av_O) := [(0, .aload 0, 1, 0), (1, .sipush 0, 1, 0), (2, .putfield 704, 3, 3), (5, .aload 0, 1, 0), (6, .invokevirtual 208, 3, 371), (9, .ireturn, 1, 0)]
/-- SinglesPastModel.unborn()I -/
def tO_342 : List (Nat × av_O) := [(0, .aload 0, 1, 0), (1, .sipush 0, 1, 0), (2, .putfield 704, 3, 3), (5, .aload 0, 1, 0), (6, .invokevirtual 206, 3, 368), (9, .aload 0, 1, 0), (10, .aload 0, 1, 0), (11, .invokevirtual 206, 3, 368), (14, .aload 0, 1, 0), (15, .aload 0, 1, 0), (16, .invokevirtual 208, 3, 371), (19, .invokevirtual 269, 3, 377), (22, .invokevirtual 266, 3, 354), (25, .sipush (-1), 1, 0), (26, .ixor, 1, 0), (27, .iand, 1, 0), (28, .ireturn, 1, 0)]
/-- SinglesPastModel.twins()I -/
def tO_343 : List (Nat × av_O) := [(0, .aload 0, 1, 0), (1, .sipush 0, 1, 0), (2, .putfield 704, 3, 3), (5, .sipush 0, 1, 0), (6, .istore 1, 1, 0), (7, .sipush 0, 1, 0), (8, .istore 2, 1, 0), (9, .iload 2, 1, 0), (10, .aload 0, 1, 0), (11, .invokevirtual 198, 3, 74), (14, .if_icmp .ge 74, 3, 0), (17, .sipush 0, 1, 0), (18, .istore 3, 1, 0), (19, .iload 3, 1, 0), (20, .iload 2, 1, 0), (21, .if_icmp .ge 68, 3, 0), (24, .iload 1, 1, 0), (25, .aload 0, 1, 0), (26, .iload 2, 1, 0), (27, .sipush 0, 1, 0), (28, .invokevirtual 203, 3, 78), (31, .aload 0, 1, 0), (32, .iload 3, 1, 0), (33, .sipush 0, 1, 0), (34, .invokevirtual 203, 3, 78), (37, .if_icmp .ne 59, 3, 0), (40, .aload 0, 1, 0), (41, .iload 2, 1, 0), (42, .sipush 1, 1, 0), (43, .invokevirtual 203, 3, 78), (46, .aload 0, 1, 0), (47, .iload 3, 1, 0), (48, .sipush 1, 1, 0), (49, .invokevirtual 203, 3, 78), (52, .if_icmp .ne 59, 3, 0), (55, .sipush 1, 1, 0), (56, .goto 60, 3, 0), (59, .sipush 0, 1, 0), (60, .iadd, 1, 0), (61, .istore 1, 1, 0), (62, .iinc 3 1, 3, 0), (65, .goto 19, 3, 0), (68, .iinc 2 1, 3, 0), (71, .goto 9, 3, 0), (74, .iload 1, 1, 0), (75, .ireturn, 1, 0)]
/-- SinglesPastModel.worth()I -/
def tO_344 : List (Nat × av_O) := [(0, .aload 0, 1, 0), (1, .sipush 0, 1, 0), (2, .putfield 704, 3, 3), (5, .aload 0, 1, 0), (6, .aload 0, 1, 0), (7, .aload 0, 1, 0), (8, .invokevirtual 208, 3, 371), (11, .invokevirtual 269, 3, 377), (14, .invokevirtual 279, 3, 389), (17, .ireturn, 1, 0)]
/-- SinglesPastModel.empty()I -/
def tO_345 : List (Nat × av_O) := [(0, .aload 0, 1, 0), (1, .sipush 0, 1, 0), (2, .putfield 704, 3, 3), (5, .sipush 0, 1, 0), (6, .istore 1, 1, 0), (7, .sipush 0, 1, 0), (8, .istore 2, 1, 0), (9, .iload 2, 1, 0), (10, .aload 0, 1, 0), (11, .invokevirtual 199, 3, 92), (14, .if_icmp .ge 41, 3, 0), (17, .iload 1, 1, 0), (18, .aload 0, 1, 0), (19, .iload 2, 1, 0), (20, .invokevirtual 209, 3, 287), (23, .ifCond .ne 32, 3, 0), (26, .sipush 1, 1, 0), (27, .iload 2, 1, 0), (28, .ishl, 1, 0), (29, .goto 33, 3, 0), (32, .sipush 0, 1, 0), (33, .ior, 1, 0), (34, .istore 1, 1, 0), (35, .iinc 2 1, 3, 0), (38, .goto 9, 3, 0), (41, .iload 1, 1, 0), (42, .ireturn, 1, 0)]
/-- SinglesPastModel.never()I -/
def tO_346 : List (Nat × av_O) := [(0, .aload 0, 1, 0), (1, .sipush 0, 1, 0), (2, .putfield 704, 3, 3), (5, .sipush 65535, 3, 426), (8, .aload 0, 1, 0), (9, .invokevirtual 283, 3, 392), (12, .sipush (-1), 1, 0), (13, .ixor, 1, 0), (14, .iand, 1, 0), (15, .ireturn, 1, 0)]
/-- SinglesPastModel.noAhead(I)Z -/
def tO_347 : List (Nat × av_O) := [(0, .iload 0, 1, 0), (1, .sipush 0, 1, 0), (2, .sipush 60, 2, 0), (4, .invokestatic 188, 3, 88), (7, .ifCond .ne 14, 3, 0), (10, .sipush 1, 1, 0), (11, .goto 15, 3, 0), (14, .sipush 0, 1, 0), (15, .ireturn, 1, 0)]
/-- SinglesPastModel.ahead(II)I -/
def tO_348 : List (Nat × av_O) := [(0, .aload 0, 1, 0), (1, .sipush 0, 1, 0), (2, .putfield 704, 3, 3), (5, .aload 0, 1, 0), (6, .aload 0, 1, 0), (7, .iload 1, 1, 0), (8, .invokevirtual 211, 3, 380), (11, .sipush 1, 1, 0), (12, .invokevirtual 187, 3, 284), (15, .ifCond .ne 30, 3, 0), (18, .aload 0, 1, 0), (19, .iload 2, 1, 0), (20, .invokestatic 347, 3, 490), (23, .sipush 2, 1, 0), (24, .invokevirtual 187, 3, 284), (27, .ifCond .eq 32, 3, 0), (30, .sipush 0, 1, 0), (31, .ireturn, 1, 0), (32, .aload 0, 1, 0), (33, .invokevirtual 195, 3, 493), (36, .aload 0, 1, 0), (37, .iload 2, 1, 0), (38, .sipush 1, 1, 0), (39, .invokevirtual 263, 3, 413), (42, .pop, 1, 0), (43, .aload 0, 1, 0), (44, .iload 1, 1, 0), (45, .sipush 8, 2, 0), (47, .invokevirtual 203, 3, 78), (50, .istore 3, 1, 0), (51, .aload 0, 1, 0), (52, .invokevirtual 196, 3, 496), (55, .iload 3, 1, 0), (56, .ireturn, 1, 0)]
/-- SinglesPastModel.trial(IZ)I -/
def tO_349 : List (Nat × av_O) := [(0, .aload 0, 1, 0), (1, .sipush 0, 1, 0), (2, .putfield 704, 3, 3), (5, .aload 0, 1, 0), (6, .iload 1, 1, 0), (7, .invokestatic 347, 3, 490), (10, .sipush 1, 1, 0), (11, .invokevirtual 187, 3, 284), (14, .ifCond .eq 19, 3, 0), (17, .sipush 0, 1, 0), (18, .ireturn, 1, 0), (19, .aload 0, 1, 0), (20, .invokevirtual 195, 3, 493), (23, .aload 0, 1, 0), (24, .iload 1, 1, 0), (25, .sipush 0, 1, 0), (26, .invokevirtual 263, 3, 413), (29, .pop, 1, 0), (30, .iload 2, 1, 0), (31, .ifCond .eq 41, 3, 0), (34, .aload 0, 1, 0), (35, .invokevirtual 270, 3, 374), (38, .goto 45, 3, 0), (41, .aload 0, 1, 0), (42, .invokevirtual 208, 3, 371), (45, .istore 3, 1, 0), (46, .aload 0, 1, 0), (47, .invokevirtual 196, 3, 496), (50, .iload 3, 1, 0), (51, .ireturn, 1, 0)]
/-- SinglesPastModel.span(IZ)I -/
def tO_350 : List (Nat × av_O) := [(0, .aload 0, 1, 0), (1, .sipush 0, 1, 0), (2, .putfield 704, 3, 3), (5, .aload 0, 1, 0), (6, .iload 1, 1, 0), (7, .invokestatic 347, 3, 490), (10, .sipush 1, 1, 0), (11, .invokevirtual 187, 3, 284), (14, .ifCond .eq 19, 3, 0), (17, .sipush 0, 1, 0), (18, .ireturn, 1, 0), (19, .aload 0, 1, 0), (20, .invokevirtual 195, 3, 493), (23, .sipush (-1), 1, 0), (24, .istore 3, 1, 0), (25, .sipush 1, 1, 0), (26, .istore 4, 2, 0), (28, .iload 4, 2, 0), (30, .sipush 6, 2, 0), (32, .if_icmp .gt 99, 3, 0), (35, .aload 0, 1, 0), (36, .getfield 705, 3, 13), (39, .sipush 7, 2, 0), (41, .iload 4, 2, 0), (43, .iastore, 1, 0), (44, .aload 0, 1, 0), (45, .iload 1, 1, 0), (46, .sipush 0, 1, 0), (47, .invokevirtual 263, 3, 413), (50, .pop, 1, 0), (51, .aload 0, 1, 0), (52, .invokevirtual 208, 3, 371), (55, .invokestatic 357, 3, 360), (58, .istore 5, 2, 0), (60, .aload 0, 1, 0), (61, .invokevirtual 196, 3, 496), (64, .iload 3, 1, 0), (65, .ifCond .ge 73, 3, 0), (68, .iload 5, 2, 0), (70, .goto 92, 3, 0), (73, .iload 2, 1, 0), (74, .ifCond .eq 86, 3, 0), (77, .iload 3, 1, 0), (78, .iload 5, 2, 0), (80, .invokedynamic 4, 3, 165), (83, .goto 92, 3, 0), (86, .iload 3, 1, 0), (87, .iload 5, 2, 0), (89, .invokedynamic 5, 3, 320), (92, .istore 3, 1, 0), (93, .iinc 4 1, 3, 0), (96, .goto 28, 3, 0), (99, .iload 3, 1, 0), (100, .ireturn, 1, 0)]
/-- SinglesPastModel.ofLog(II)I -/
def tO_351 : List (Nat × av_O) := [(0, .aload 0, 1, 0), (1, .getfield 705, 3, 13), (4, .sipush 112, 2, 0), (6, .sipush 4, 1, 0), (7, .iload 1, 1, 0), (8, .imul, 1, 0), (9, .iadd, 1, 0), (10, .iload 2, 1, 0), (11, .iadd, 1, 0), (12, .iaload, 1, 0), (13, .ireturn, 1, 0)]
/-- SinglesPastModel.led(IZ)I -/
def tO_352 : List (Nat × av_O) := [(0, .aload 0, 1, 0), (1, .sipush 0, 1, 0), (2, .putfield 704, 3, 3), (5, .aload 0, 1, 0), (6, .aload 0, 1, 0), (7, .iload 1, 1, 0), (8, .invokevirtual 211, 3, 380), (11, .sipush 1, 1, 0), (12, .invokevirtual 187, 3, 284), (15, .ifCond .eq 20, 3, 0), (18, .sipush 0, 1, 0), (19, .ireturn, 1, 0), (20, .sipush 0, 1, 0), (21, .istore 3, 1, 0), (22, .sipush (-1), 1, 0), (23, .istore 4, 2, 0), (25, .aload 0, 1, 0), (26, .getfield 705, 3, 13), (29, .sipush 6, 2, 0), (31, .iaload, 1, 0), (32, .sipush 1, 1, 0), (33, .isub, 1, 0), (34, .istore 5, 2, 0), (36, .iload 5, 2, 0), (38, .ifCond .lt 73, 3, 0), (41, .aload 0, 1, 0), (42, .iload 5, 2, 0), (44, .sipush 1, 1, 0), (45, .invokevirtual 351, 3, 499), (48, .iload 1, 1, 0), (49, .if_icmp .eq 55, 3, 0), (52, .goto 67, 3, 0), (55, .iinc 3 1, 3, 0), (58, .aload 0, 1, 0), (59, .iload 5, 2, 0), (61, .sipush 0, 1, 0), (62, .invokevirtual 351, 3, 499), (65, .istore 4, 2, 0), (67, .iinc 5 (-1), 3, 0), (70, .goto 36, 3, 0), (73, .iload 2, 1, 0), (74, .ifCond .eq 82, 3, 0), (77, .iload 4, 2, 0), (79, .goto 83, 3, 0), (82, .iload 3, 1, 0), (83, .ireturn, 1, 0)]
/-- SinglesPastModel.log(II)I -/
def tO_353 : List (Nat × av_O) := [(0, .aload 0, 1, 0), (1, .sipush 0, 1, 0), (2, .putfield 704, 3, 3), (5, .aload 0, 1, 0), (6, .iload 2, 1, 0), (7, .sipush 0, 1, 0), (8, .sipush 3, 1, 0), (9, .invokestatic 188, 3, 88), (12, .ifCond .ne 19, 3, 0), (15, .sipush 1, 1, 0), (16, .goto 20, 3, 0), (19, .sipush 0, 1, 0), (20, .sipush 1, 1, 0), (21, .invokevirtual 187, 3, 284), (24, .ifCond .eq 29, 3, 0), (27, .sipush 0, 1, 0), (28, .ireturn, 1, 0), (29, .iload 1, 1, 0), (30, .sipush 0, 1, 0), (31, .aload 0, 1, 0), (32, .getfield 705, 3, 13), (35, .sipush 6, 2, 0), (37, .iaload, 1, 0), (38, .sipush 1, 1, 0), (39, .isub, 1, 0), (40, .invokestatic 188, 3, 88), (43, .ifCond .eq 55, 3, 0), (46, .aload 0, 1, 0), (47, .iload 1, 1, 0), (48, .iload 2, 1, 0), (49, .invokevirtual 351, 3, 499), (52, .goto 57, 3, 0), (55, .sipush (-2), 2, 0), (57, .ireturn, 1, 0)]
/-- SinglesPastModel.seed(I)I -/
def tO_354 : List (Nat × av_O) := [(0, .aload 0, 1, 0), (1, .sipush 0, 1, 0), (2, .putfield 704, 3, 3), (5, .aload 0, 1, 0), (6, .getfield 705, 3, 13), (9, .sipush 7, 2, 0), (11, .iaload, 1, 0), (12, .istore 2, 1, 0), (13, .aload 0, 1, 0), (14, .getfield 705, 3, 13), (17, .sipush 7, 2, 0), (19, .iload 1, 1, 0), (20, .iastore, 1, 0), (21, .iload 2, 1, 0), (22, .ireturn, 1, 0)]
/-- SinglesPastModel.count(I)I -/
def tO_355 : List (Nat × av_O) := [(0, .aload 0, 1, 0), (1, .sipush 0, 1, 0), (2, .putfield 704, 3, 3), (5, .sipush 0, 1, 0), (6, .istore 2, 1, 0), (7, .sipush 0, 1, 0), (8, .istore 3, 1, 0), (9, .iload 3, 1, 0), (10, .aload 0, 1, 0), (11, .invokevirtual 198, 3, 74), (14, .if_icmp .ge 32, 3, 0), (17, .iload 2, 1, 0), (18, .aload 0, 1, 0), (19, .iload 3, 1, 0), (20, .sipush 4, 1, 0), (21, .invokevirtual 203, 3, 78), (24, .iadd, 1, 0), (25, .istore 2, 1, 0), (26, .iinc 3 1, 3, 0), (29, .goto 9, 3, 0), (32, .iload 1, 1, 0), (33, .tableswitch 118 4 9 #[72, 118, 95, 103, 105, 113], 39, 0), (72, .aload 0, 1, 0), (73, .getfield 705, 3, 13), (76, .sipush 4, 1, 0), (77, .iaload, 1, 0), (78, .sipush 1, 1, 0), (79, .if_icmp .ne 93, 3, 0), (82, .aload 0, 1, 0), (83, .getfield 705, 3, 13), (86, .sipush 352, 3, 0), (89, .iaload, 1, 0), (90, .goto 94, 3, 0), (93, .sipush (-1), 1, 0), (94, .ireturn, 1, 0), (95, .aload 0, 1, 0), (96, .invokevirtual 208, 3, 371), (99, .invokestatic 357, 3, 360), (102, .ireturn, 1, 0), (103, .iload 2, 1, 0), (104, .ireturn, 1, 0), (105, .aload 0, 1, 0), (106, .getfield 705, 3, 13), (109, .sipush 6, 2, 0), (111, .iaload, 1, 0), (112, .ireturn, 1, 0), (113, .aload 0, 1, 0), (114, .getfield 711, 3, 61), (117, .ireturn, 1, 0), (118, .iload 1, 1, 0), (119, .sipush 0, 1, 0), (120, .sipush 5, 1, 0), (121, .invokestatic 188, 3, 88), (124, .ifCond .eq 136, 3, 0), (127, .aload 0, 1, 0), (128, .getfield 705, 3, 13), (131, .iload 1, 1, 0), (132, .iaload, 1, 0), (133, .goto 137, 3, 0), (136, .sipush (-1), 1, 0), (137, .ireturn, 1, 0)]
/-- java/lang/Integer.numberOfTrailingZeros(I)I -/
def tO_356 : List (Nat × av_O) := [(0, .iload 0, 1, 0), (1, .sipush (-1), 1, 0), (2, .ixor, 1, 0), (3, .iload 0, 1, 0), (4, .sipush 1, 1, 0), (5, .isub, 1, 0), (6, .iand, 1, 0), (7, .istore 0, 1, 0), (8, .iload 0, 1, 0), (9, .ifCond .gt 17, 3, 0), (12, .iload 0, 1, 0), (13, .sipush 32, 2, 0), (15, .iand, 1, 0), (16, .ireturn, 1, 0), (17, .sipush 1, 1, 0), (18, .istore 1, 1, 0), (19, .iload 0, 1, 0), (20, .sipush 65536, 3, 264), (23, .if_icmp .le 34, 3, 0), (26, .iinc 1 16, 3, 0), (29, .iload 0, 1, 0), (30, .sipush 16, 2, 0), (32, .iushr, 1, 0), (33, .istore 0, 1, 0), (34, .iload 0, 1, 0), (35, .sipush 256, 3, 0), (38, .if_icmp .le 49, 3, 0), (41, .iinc 1 8, 3, 0), (44, .iload 0, 1, 0), (45, .sipush 8, 2, 0), (47, .iushr, 1, 0), (48, .istore 0, 1, 0), (49, .iload 0, 1, 0), (50, .sipush 16, 2, 0), (52, .if_icmp .le 62, 3, 0), (55, .iinc 1 4, 3, 0), (58, .iload 0, 1, 0), (59, .sipush 4, 1, 0), (60, .iushr, 1, 0), (61, .istore 0, 1, 0), (62, .iload 0, 1, 0), (63, .sipush 4, 1, 0), (64, .if_icmp .le 74, 3, 0), (67, .iinc 1 2, 3, 0), (70, .iload 0, 1, 0), (71, .sipush 2, 1, 0), (72, .iushr, 1, 0), (73, .istore 0, 1, 0), (74, .iload 1, 1, 0), (75, .iload 0, 1, 0), (76, .sipush 1, 1, 0), (77, .iushr, 1, 0), (78, .iadd, 1, 0), (79, .ireturn, 1, 0)]
/-- java/lang/Integer.bitCount(I)I -/
def tO_357 : List (Nat × av_O) := [(0, .iload 0, 1, 0), (1, .iload 0, 1, 0), (2, .sipush 1, 1, 0), (3, .iushr, 1, 0), (4, .sipush 1431655765, 3, 265), (7, .iand, 1, 0), (8, .isub, 1, 0), (9, .istore 0, 1, 0), (10, .iload 0, 1, 0), (11, .sipush 858993459, 3, 266), (14, .iand, 1, 0), (15, .iload 0, 1, 0), (16, .sipush 2, 1, 0), (17, .iushr, 1, 0), (18, .sipush 858993459, 3, 266), (21, .iand, 1, 0), (22, .iadd, 1, 0), (23, .istore 0, 1, 0), (24, .iload 0, 1, 0), (25, .iload 0, 1, 0), (26, .sipush 4, 1, 0), (27, .iushr, 1, 0), (28, .iadd, 1, 0), (29, .sipush 252645135, 3, 267), (32, .iand, 1, 0), (33, .istore 0, 1, 0), (34, .iload 0, 1, 0), (35, .iload 0, 1, 0), (36, .sipush 8, 2, 0), (38, .iushr, 1, 0), (39, .iadd, 1, 0), (40, .istore 0, 1, 0), (41, .iload 0, 1, 0), (42, .iload 0, 1, 0), (43, .sipush 16, 2, 0), (45, .iushr, 1, 0), (46, .iadd, 1, 0), (47, .istore 0, 1, 0), (48, .iload 0, 1, 0), (49, .sipush 63, 2, 0), (51, .iand, 1, 0), (52, .ireturn, 1, 0)]
/-- java/util/Arrays.fill([II)V -/
def tO_358 : List (Nat × av_O) := [(0, .sipush 0, 1, 0), (1, .istore 2, 1, 0), (2, .aload 0, 1, 0), (3, .arraylength, 1, 0), (4, .istore 3, 1, 0), (5, .iload 2, 1, 0), (6, .iload 3, 1, 0), (7, .if_icmp .ge 20, 3, 0), (10, .aload 0, 1, 0), (11, .iload 2, 1, 0), (12, .iload 1, 1, 0), (13, .iastore, 1, 0), (14, .iinc 2 1, 3, 0), (17, .goto 5, 3, 0), (20, .return_, 1, 0)]
/-- java/util/Arrays.copyOf([II)[I -/
def tO_359 : List (Nat × av_O) := [(0, .iload 1, 1, 0), (1, .aload 0, 1, 0), (2, .arraylength, 1, 0), (3, .if_icmp .ne 14, 3, 0), (6, .aload 0, 1, 0), (7, .invokedynamic 3, 3, 316), (10, .checkcast 0, 3, 317), (13, .areturn, 1, 0), (14, .iload 1, 1, 0), (15, .newarray .int, 2, 0), (17, .astore 2, 1, 0), (18, .aload 0, 1, 0), (19, .sipush 0, 1, 0), (20, .aload 2, 1, 0), (21, .sipush 0, 1, 0), (22, .aload 0, 1, 0), (23, .arraylength, 1, 0), (24, .iload 1, 1, 0), (25, .invokedynamic 5, 3, 304), (28, .invokedynamic 0, 3, 150), (31, .aload 2, 1, 0), (32, .areturn, 1, 0)]
/-- SinglesPastLaw.station(LSinglesPast;[J)I -/
def tO_360 : List (Nat × av_O) := [(0, .aload 1, 1, 0), (1, .sipush 0, 1, 0), (2, .aload 0, 1, 0), (3, .invokevirtual 97, 3, 7), (6, .i2l, 1, 0), (7, .lastore, 1, 0), (8, .goto 17, 3, 0), (11, .astore 2, 1, 0), (12, .sipush 1, 1, 0), (13, .ireturn, 1, 0), (14, .astore 2, 1, 0), (15, .sipush 2, 1, 0), (16, .ireturn, 1, 0), (17, .sipush 0, 1, 0), (18, .ireturn, 1, 0)]
/-- SinglesPastLaw.law(LSinglesPast;[J)I -/
def tO_361 : List (Nat × av_O) := [(0, .aload 1, 1, 0), (1, .sipush 0, 1, 0), (2, .aload 0, 1, 0), (3, .invokevirtual 98, 3, 17), (6, .i2l, 1, 0), (7, .lastore, 1, 0), (8, .goto 14, 3, 0), (11, .astore 2, 1, 0), (12, .sipush 1, 1, 0), (13, .ireturn, 1, 0), (14, .sipush 0, 1, 0), (15, .ireturn, 1, 0)]
/-- SinglesPastLaw.thing(LSinglesPast;II[J)I -/
def tO_362 : List (Nat × av_O) := [(0, .aload 3, 1, 0), (1, .sipush 0, 1, 0), (2, .aload 0, 1, 0), (3, .iload 1, 1, 0), (4, .iload 2, 1, 0), (5, .invokevirtual 102, 3, 20), (8, .i2l, 1, 0), (9, .lastore, 1, 0), (10, .goto 21, 3, 0), (13, .astore 4, 2, 0), (15, .sipush 1, 1, 0), (16, .ireturn, 1, 0), (17, .astore 4, 2, 0), (19, .sipush 2, 1, 0), (20, .ireturn, 1, 0), (21, .sipush 0, 1, 0), (22, .ireturn, 1, 0)]
/-- SinglesPastLaw.goer(LSinglesPast;II[J)I -/
def tO_363 : List (Nat × av_O) := [(0, .aload 3, 1, 0), (1, .sipush 0, 1, 0), (2, .aload 0, 1, 0), (3, .iload 1, 1, 0), (4, .iload 2, 1, 0), (5, .invokevirtual 103, 3, 28), (8, .i2l, 1, 0), (9, .lastore, 1, 0), (10, .goto 21, 3, 0), (13, .astore 4, 2, 0), (15, .sipush 1, 1, 0), (16, .ireturn, 1, 0), (17, .astore 4, 2, 0), (19, .sipush 2, 1, 0), (20, .ireturn, 1, 0), (21, .sipush 0, 1, 0), (22, .ireturn, 1, 0)]
/-- SinglesPastLaw.train(LSinglesPast;II[J)I -/
def tO_364 : List (Nat × av_O) := [(0, .aload 3, 1, 0), (1, .sipush 0, 1, 0), (2, .aload 0, 1, 0), (3, .iload 1, 1, 0), (4, .iload 2, 1, 0), (5, .invokevirtual 104, 3, 31), (8, .i2l, 1, 0), (9, .lastore, 1, 0), (10, .goto 21, 3, 0), (13, .astore 4, 2, 0), (15, .sipush 1, 1, 0), (16, .ireturn, 1, 0), (17, .astore 4, 2, 0), (19, .sipush 2, 1, 0), (20, .ireturn, 1, 0), (21, .sipush 0, 1, 0), (22, .ireturn, 1, 0)]
/-- SinglesPastLaw.cost(LSinglesPast;II[J)I -/
def tO_365 : List (Nat × av_O) := [(0, .aload 3, 1, 0), (1, .sipush 0, 1, 0), (2, .aload 0, 1, 0), (3, .iload 1, 1, 0), (4, .iload 2, 1, 0), (5, .invokevirtual 107, 3, 34), (8, .i2l, 1, 0), (9, .lastore, 1, 0), (10, .goto 17, 3, 0), (13, .astore 4, 2, 0), (15, .sipush 1, 1, 0), (16, .ireturn, 1, 0), (17, .sipush 0, 1, 0), (18, .ireturn, 1, 0)]
/-- SinglesPastLaw.fear(LSinglesPast;II[J)I -/
def tO_366 : List (Nat × av_O) := [(0, .aload 3, 1, 0), (1, .sipush 0, 1, 0), (2, .aload 0, 1, 0), (3, .iload 1, 1, 0), (4, .iload 2, 1, 0), (5, .invokevirtual 108, 3, 37), (8, .i2l, 1, 0), (9, .lastore, 1, 0), (10, .goto 17, 3, 0), (13, .astore 4, 2, 0), (15, .sipush 1, 1, 0), (16, .ireturn, 1, 0), (17, .sipush 0, 1, 0), (18, .ireturn, 1, 0)]
/-- SinglesPastLaw.may(LSinglesPast;II[J)I -/
def tO_367 : List (Nat × av_O) := [(0, .aload 3, 1, 0), (1, .sipush 0, 1, 0), (2, .aload 0, 1, 0), (3, .iload 1, 1, 0), (4, .iload 2, 1, 0), (5, .invokevirtual 109, 3, 40), (8, .ifCond .eq 15, 3, 0), (11, .lconst 1, 1, 0), (12, .goto 16, 3, 0), (15, .lconst 0, 1, 0), (16, .lastore, 1, 0), (17, .goto 24, 3, 0), (20, .astore 4, 2, 0), (22, .sipush 1, 1, 0), (23, .ireturn, 1, 0), (24, .sipush 0, 1, 0), (25, .ireturn, 1, 0)]
/-- SinglesPastLaw.days(LSinglesPast;I[J)I -/
def tO_368 : List (Nat × av_O) := [(0, .aload 2, 1, 0), (1, .sipush 0, 1, 0), (2, .aload 0, 1, 0), (3, .iload 1, 1, 0), (4, .invokevirtual 110, 3, 44), (7, .i2l, 1, 0), (8, .lastore, 1, 0), (9, .goto 15, 3, 0), (12, .astore 3, 1, 0), (13, .sipush 1, 1, 0), (14, .ireturn, 1, 0), (15, .sipush 0, 1, 0), (16, .ireturn, 1, 0)]
/-- SinglesPastLaw.sell(LSinglesPast;II[J)I -/
def tO_369 : List (Nat × av_O) := [(0, .aload 3, 1, 0), (1, .sipush 0, 1, 0), (2, .aload 0, 1, 0), (3, .iload 1, 1, 0), (4, .iload 2, 1, 0), (5, .invokevirtual 111, 3, 48), (8, .i2l, 1, 0), (9, .lastore, 1, 0), (10, .goto 21, 3, 0), (13, .astore 4, 2, 0), (15, .sipush 1, 1, 0), (16, .ireturn, 1, 0), (17, .astore 4, 2, 0), (19, .sipush 2, 1, 0), (20, .ireturn, 1, 0), (21, .sipush 0, 1, 0), (22, .ireturn, 1, 0)]
/-- SinglesPastLaw.pay(LSinglesPast;II[J)I -/
def tO_370 : List (Nat × av_O) := [(0, .aload 3, 1, 0), (1, .sipush 0, 1, 0), (2, .aload 0, 1, 0), (3, .iload 1, 1, 0), (4, .iload 2, 1, 0), (5, .invokevirtual 112, 3, 53), (8, .i2l, 1, 0), (9, .lastore, 1, 0), (10, .goto 21, 3, 0), (13, .astore 4, 2, 0), (15, .sipush 1, 1, 0), (16, .ireturn, 1, 0), (17, .astore 4, 2, 0), (19, .sipush 2, 1, 0), (20, .ireturn, 1, 0), (21, .sipush 0, 1, 0), (22, .ireturn, 1, 0)]
/-- SinglesPastLaw.nerve(LSinglesPast;II[J)I -/
def tO_371 : List (Nat × av_O) := [(0, .aload 3, 1, 0), (1, .sipush 0, 1, 0), (2, .aload 0, 1, 0), (3, .iload 1, 1, 0), (4, .iload 2, 1, 0), (5, .invokevirtual 113, 3, 56), (8, .i2l, 1, 0), (9, .lastore, 1, 0), (10, .goto 21, 3, 0), (13, .astore 4, 2, 0), (15, .sipush 1, 1, 0), (16, .ireturn, 1, 0), (17, .astore 4, 2, 0), (19, .sipush 2, 1, 0), (20, .ireturn, 1, 0), (21, .sipush 0, 1, 0), (22, .ireturn, 1, 0)]
/-- SinglesPastLaw.wish(LSinglesPast;II[J)I -/
def tO_372 : List (Nat × av_O) := [(0, .aload 3, 1, 0), (1, .sipush 0, 1, 0), (2, .aload 0, 1, 0), (3, .iload 1, 1, 0), (4, .iload 2, 1, 0), (5, .invokevirtual 114, 3, 59), (8, .i2l, 1, 0), (9, .lastore, 1, 0), (10, .goto 21, 3, 0), (13, .astore 4, 2, 0), (15, .sipush 1, 1, 0), (16, .ireturn, 1, 0), (17, .astore 4, 2, 0), (19, .sipush 2, 1, 0), (20, .ireturn, 1, 0), (21, .sipush 0, 1, 0), (22, .ireturn, 1, 0)]
/-- SinglesPastLaw.deed(LSinglesPast;IIZ[J)I -/
def tO_373 : List (Nat × av_O) := [(0, .aload 4, 2, 0), (2, .sipush 0, 1, 0), (3, .aload 0, 1, 0), (4, .iload 1, 1, 0), (5, .iload 2, 1, 0), (6, .iload 3, 1, 0), (7, .invokevirtual 115, 3, 62), (10, .i2l, 1, 0), (11, .lastore, 1, 0), (12, .goto 23, 3, 0), (15, .astore 5, 2, 0), (17, .sipush 1, 1, 0), (18, .ireturn, 1, 0), (19, .astore 5, 2, 0), (21, .sipush 2, 1, 0), (22, .ireturn, 1, 0), (23, .sipush 0, 1, 0), (24, .ireturn, 1, 0)]
/-- SinglesPastLaw.quarrel(LSinglesPast;IIZ[J)I -/
def tO_374 : List (Nat × av_O) := [(0, .aload 4, 2, 0), (2, .sipush 0, 1, 0), (3, .aload 0, 1, 0), (4, .iload 1, 1, 0), (5, .iload 2, 1, 0), (6, .iload 3, 1, 0), (7, .invokevirtual 116, 3, 66), (10, .ifCond .eq 17, 3, 0), (13, .lconst 1, 1, 0), (14, .goto 18, 3, 0), (17, .lconst 0, 1, 0), (18, .lastore, 1, 0), (19, .goto 30, 3, 0), (22, .astore 5, 2, 0), (24, .sipush 1, 1, 0), (25, .ireturn, 1, 0), (26, .astore 5, 2, 0), (28, .sipush 2, 1, 0), (29, .ireturn, 1, 0), (30, .sipush 0, 1, 0), (31, .ireturn, 1, 0)]
/-- SinglesPastLaw.stops(LSinglesPast;II[J)I -/
def tO_375 : List (Nat × av_O) := [(0, .aload 3, 1, 0), (1, .sipush 0, 1, 0), (2, .aload 0, 1, 0), (3, .iload 1, 1, 0), (4, .iload 2, 1, 0), (5, .invokevirtual 117, 3, 70), (8, .i2l, 1, 0), (9, .lastore, 1, 0), (10, .goto 21, 3, 0), (13, .astore 4, 2, 0), (15, .sipush 1, 1, 0), (16, .ireturn, 1, 0), (17, .astore 4, 2, 0), (19, .sipush 2, 1, 0), (20, .ireturn, 1, 0), (21, .sipush 0, 1, 0), (22, .ireturn, 1, 0)]
/-- SinglesPastLaw.recall(LSinglesPast;I[J)I -/
def tO_376 : List (Nat × av_O) := [(0, .aload 2, 1, 0), (1, .sipush 0, 1, 0), (2, .aload 0, 1, 0), (3, .iload 1, 1, 0), (4, .invokevirtual 118, 3, 73), (7, .i2l, 1, 0), (8, .lastore, 1, 0), (9, .goto 18, 3, 0), (12, .astore 3, 1, 0), (13, .sipush 1, 1, 0), (14, .ireturn, 1, 0), (15, .astore 3, 1, 0), (16, .sipush 2, 1, 0), (17, .ireturn, 1, 0), (18, .sipush 0, 1, 0), (19, .ireturn, 1, 0)]
/-- SinglesPastLaw.otherwise(LSinglesPast;I[J)I -/
def tO_377 : List (Nat × av_O) := [(0, .aload 2, 1, 0), (1, .sipush 0, 1, 0), (2, .aload 0, 1, 0), (3, .iload 1, 1, 0), (4, .invokevirtual 126, 3, 76), (7, .i2l, 1, 0), (8, .lastore, 1, 0), (9, .goto 15, 3, 0), (12, .astore 3, 1, 0), (13, .sipush 1, 1, 0), (14, .ireturn, 1, 0), (15, .sipush 0, 1, 0), (16, .ireturn, 1, 0)]
/-- SinglesPastLaw.send(LSinglesPast;[J)I -/
def tO_378 : List (Nat × av_O) := [(0, .aload 1, 1, 0), (1, .sipush 0, 1, 0), (2, .aload 0, 1, 0), (3, .invokevirtual 132, 3, 79), (6, .i2l, 1, 0), (7, .lastore, 1, 0), (8, .goto 14, 3, 0), (11, .astore 2, 1, 0), (12, .sipush 1, 1, 0), (13, .ireturn, 1, 0), (14, .sipush 0, 1, 0), (15, .ireturn, 1, 0)]
/-- SinglesPastLaw.who(LSinglesPast;Z[J)I -/
def tO_379 : List (Nat × av_O) := [(0, .aload 2, 1, 0), (1, .sipush 0, 1, 0), (2, .aload 0, 1, 0), (3, .iload 1, 1, 0), (4, .invokevirtual 133, 3, 82), (7, .i2l, 1, 0), (8, .lastore, 1, 0), (9, .goto 15, 3, 0), (12, .astore 3, 1, 0), (13, .sipush 1, 1, 0), (14, .ireturn, 1, 0), (15, .sipush 0, 1, 0), (16, .ireturn, 1, 0)]
/-- SinglesPastLaw.look(LSinglesPast;[J)I -/
def tO_380 : List (Nat × av_O) := [(0, .aload 1, 1, 0), (1, .sipush 0, 1, 0), (2, .aload 0, 1, 0), (3, .invokevirtual 134, 3, 86), (6, .i2l, 1, 0), (7, .lastore, 1, 0), (8, .goto 14, 3, 0), (11, .astore 2, 1, 0), (12, .sipush 1, 1, 0), (13, .ireturn, 1, 0), (14, .sipush 0, 1, 0), (15, .ireturn, 1, 0)]
/-- SinglesPastLaw.hangs(LSinglesPast;I[J)I -/
def tO_381 : List (Nat × av_O) := [(0, .aload 2, 1, 0), (1, .sipush 0, 1, 0), (2, .aload 0, 1, 0), (3, .iload 1, 1, 0), (4, .invokevirtual 140, 3, 89), (7, .i2l, 1, 0), (8, .lastore, 1, 0), (9, .goto 15, 3, 0), (12, .astore 3, 1, 0), (13, .sipush 1, 1, 0), (14, .ireturn, 1, 0), (15, .sipush 0, 1, 0), (16, .ireturn, 1, 0)]
/-- SinglesPastLaw.kills(LSinglesPast;II[J)I -/
def tO_382 : List (Nat × av_O) := [(0, .aload 3, 1, 0), (1, .sipush 0, 1, 0), (2, .aload 0, 1, 0), (3, .iload 1, 1, 0), (4, .iload 2, 1, 0), (5, .invokevirtual 144, 3, 92), (8, .ifCond .eq 15, 3, 0), (11, .lconst 1, 1, 0), (12, .goto 16, 3, 0), (15, .lconst 0, 1, 0), (16, .lastore, 1, 0), (17, .goto 28, 3, 0), (20, .astore 4, 2, 0), (22, .sipush 1, 1, 0), (23, .ireturn, 1, 0), (24, .astore 4, 2, 0), (26, .sipush 2, 1, 0), (27, .ireturn, 1, 0), (28, .sipush 0, 1, 0), (29, .ireturn, 1, 0)]
/-- SinglesPastLaw.colours(LSinglesPast;I[J)I -/
def tO_383 : List (Nat × av_O) := [(0, .aload 2, 1, 0), (1, .sipush 0, 1, 0), (2, .aload 0, 1, 0), (3, .iload 1, 1, 0), (4, .invokevirtual 145, 3, 95), (7, .i2l, 1, 0), (8, .lastore, 1, 0), (9, .goto 15, 3, 0), (12, .astore 3, 1, 0), (13, .sipush 1, 1, 0), (14, .ireturn, 1, 0), (15, .sipush 0, 1, 0), (16, .ireturn, 1, 0)]
/-- SinglesPastLaw.price(LSinglesPast;IZ[J)I -/
def tO_384 : List (Nat × av_O) := [(0, .aload 3, 1, 0), (1, .sipush 0, 1, 0), (2, .aload 0, 1, 0), (3, .iload 1, 1, 0), (4, .iload 2, 1, 0), (5, .invokevirtual 147, 3, 98), (8, .i2l, 1, 0), (9, .lastore, 1, 0), (10, .goto 17, 3, 0), (13, .astore 4, 2, 0), (15, .sipush 1, 1, 0), (16, .ireturn, 1, 0), (17, .sipush 0, 1, 0), (18, .ireturn, 1, 0)]
/-- SinglesPastLaw.crowd(LSinglesPast;I[J)I -/
def tO_385 : List (Nat × av_O) := [(0, .aload 2, 1, 0), (1, .sipush 0, 1, 0), (2, .aload 0, 1, 0), (3, .iload 1, 1, 0), (4, .invokevirtual 151, 3, 102), (7, .i2l, 1, 0), (8, .lastore, 1, 0), (9, .goto 15, 3, 0), (12, .astore 3, 1, 0), (13, .sipush 1, 1, 0), (14, .ireturn, 1, 0), (15, .sipush 0, 1, 0), (16, .ireturn, 1, 0)]
/-- SinglesPastLaw.pick(LSinglesPast;IZ[J)I -/
def tO_386 : List (Nat × av_O) := [(0, .aload 3, 1, 0), (1, .sipush 0, 1, 0), (2, .aload 0, 1, 0), (3, .iload 1, 1, 0), (4, .iload 2, 1, 0), (5, .invokevirtual 155, 3, 105), (8, .i2l, 1, 0), (9, .lastore, 1, 0), (10, .goto 17, 3, 0), (13, .astore 4, 2, 0), (15, .sipush 1, 1, 0), (16, .ireturn, 1, 0), (17, .sipush 0, 1, 0), (18, .ireturn, 1, 0)]
/-- SinglesPastLaw.pairs(LSinglesPast;I[J)I -/
def tO_387 : List (Nat × av_O) := [(0, .aload 2, 1, 0), (1, .sipush 0, 1, 0), (2, .aload 0, 1, 0), (3, .iload 1, 1, 0), (4, .invokevirtual 157, 3, 108), (7, .i2l, 1, 0), (8, .lastore, 1, 0), (9, .goto 15, 3, 0), (12, .astore 3, 1, 0), (13, .sipush 1, 1, 0), (14, .ireturn, 1, 0), (15, .sipush 0, 1, 0), (16, .ireturn, 1, 0)]
/-- SinglesPastLaw.rests(LSinglesPast;I[J)I -/
def tO_388 : List (Nat × av_O) := [(0, .aload 2, 1, 0), (1, .sipush 0, 1, 0), (2, .aload 0, 1, 0), (3, .iload 1, 1, 0), (4, .invokevirtual 158, 3, 111), (7, .i2l, 1, 0), (8, .lastore, 1, 0), (9, .goto 15, 3, 0), (12, .astore 3, 1, 0), (13, .sipush 1, 1, 0), (14, .ireturn, 1, 0), (15, .sipush 0, 1, 0), (16, .ireturn, 1, 0)]
/-- SinglesPastLaw.odds(LSinglesPast;II[J)I -/
def tO_389 : List (Nat × av_O) := [(0, .aload 3, 1, 0), (1, .sipush 0, 1, 0), (2, .aload 0, 1, 0), (3, .iload 1, 1, 0), (4, .iload 2, 1, 0), (5, .invokevirtual 161, 3, 114), (8, .i2l, 1, 0), (9, .lastore, 1, 0), (10, .goto 21, 3, 0), (13, .astore 4, 2, 0), (15, .sipush 1, 1, 0), (16, .ireturn, 1, 0), (17, .astore 4, 2, 0), (19, .sipush 2, 1, 0), (20, .ireturn, 1, 0), (21, .sipush 0, 1, 0), (22, .ireturn, 1, 0)]
/-- SinglesPastLaw.ahead(LSinglesPast;II[J)I -/
def tO_390 : List (Nat × av_O) := [(0, .aload 3, 1, 0), (1, .sipush 0, 1, 0), (2, .aload 0, 1, 0), (3, .iload 1, 1, 0), (4, .iload 2, 1, 0), (5, .invokevirtual 169, 3, 117), (8, .i2l, 1, 0), (9, .lastore, 1, 0), (10, .goto 21, 3, 0), (13, .astore 4, 2, 0), (15, .sipush 1, 1, 0), (16, .ireturn, 1, 0), (17, .astore 4, 2, 0), (19, .sipush 2, 1, 0), (20, .ireturn, 1, 0), (21, .sipush 0, 1, 0), (22, .ireturn, 1, 0)]
/-- SinglesPastLaw.trial(LSinglesPast;IZ[J)I -/
def tO_391 : List (Nat × av_O) := [(0, .aload 3, 1, 0), (1, .sipush 0, 1, 0), (2, .aload 0, 1, 0), (3, .iload 1, 1, 0), (4, .iload 2, 1, 0), (5, .invokevirtual 170, 3, 120), (8, .i2l, 1, 0), (9, .lastore, 1, 0), (10, .goto 17, 3, 0), (13, .astore 4, 2, 0), (15, .sipush 1, 1, 0), (16, .ireturn, 1, 0), (17, .sipush 0, 1, 0), (18, .ireturn, 1, 0)]
/-- SinglesPastLaw.span(LSinglesPast;IZ[J)I -/
def tO_392 : List (Nat × av_O) := [(0, .aload 3, 1, 0), (1, .sipush 0, 1, 0), (2, .aload 0, 1, 0), (3, .iload 1, 1, 0), (4, .iload 2, 1, 0), (5, .invokevirtual 171, 3, 123), (8, .i2l, 1, 0), (9, .lastore, 1, 0), (10, .goto 17, 3, 0), (13, .astore 4, 2, 0), (15, .sipush 1, 1, 0), (16, .ireturn, 1, 0), (17, .sipush 0, 1, 0), (18, .ireturn, 1, 0)]
/-- SinglesPastLaw.led(LSinglesPast;IZ[J)I -/
def tO_393 : List (Nat × av_O) := [(0, .aload 3, 1, 0), (1, .sipush 0, 1, 0), (2, .aload 0, 1, 0), (3, .iload 1, 1, 0), (4, .iload 2, 1, 0), (5, .invokevirtual 172, 3, 126), (8, .i2l, 1, 0), (9, .lastore, 1, 0), (10, .goto 17, 3, 0), (13, .astore 4, 2, 0), (15, .sipush 1, 1, 0), (16, .ireturn, 1, 0), (17, .sipush 0, 1, 0), (18, .ireturn, 1, 0)]
/-- SinglesPastLaw.log(LSinglesPast;II[J)I -/
def tO_394 : List (Nat × av_O) := [(0, .aload 3, 1, 0), (1, .sipush 0, 1, 0), (2, .aload 0, 1, 0), (3, .iload 1, 1, 0), (4, .iload 2, 1, 0), (5, .invokevirtual 173, 3, 129), (8, .i2l, 1, 0), (9, .lastore, 1, 0), (10, .goto 17, 3, 0), (13, .astore 4, 2, 0), (15, .sipush 1, 1, 0), (16, .ireturn, 1, 0), (17, .sipush 0, 1, 0), (18, .ireturn, 1, 0)]
/-- SinglesPastLaw.law([I)Z -/
def tO_395_0 : List (Nat × av_O) := [(0, .new 10, 3, 8), (3, .dup, 1, 0), (4, .invokespecial 94, 3, 132), (7, .astore 1, 1, 0), (8, .new 11, 3, 133), (11, .dup, 1, 0), (12, .invokespecial 190, 3, 135), (15, .astore 2, 1, 0), (16, .sipush 1, 1, 0), (17, .newarray .long, 2, 0), (19, .astore 3, 1, 0), (20, .sipush 0, 1, 0), (21, .istore 4, 2, 0), (23, .iload 4, 2, 0), (25, .aload 0, 1, 0), (26, .arraylength, 1, 0), (27, .sipush 6, 2, 0), (29, .isub, 1, 0), (30, .if_icmp .gt 3168, 3, 0), (33, .aload 0, 1, 0), (34, .iload 4, 2, 0), (36, .iaload, 1, 0), (37, .sipush 63, 2, 0), (39, .iand, 1, 0), (40, .tableswitch 3162 0 61 #[304, 377, 402, 446, 490, 503, 571, 639, 707, 775, 843, 918, 974, 1042, 1110, 1178, 1246, 1342, 1445, 1513, 1569, 1594, 1619, 1632, 1645, 1658, 1671, 1727, 1740, 1784, 1856, 1900, 1956, 1969, 1982, 2057, 2113, 2126, 2210, 2223, 2279, 2332, 2416, 2472, 2528, 2596, 2609, 2622, 2635, 2648, 2661, 2674, 2687, 2755, 2839, 2923, 3007, 3075, 3100, 3113, 3124, 3137], 264, 0), (304, .aload 1, 1, 0), (305, .aload 0, 1, 0), (306, .iload 4, 2, 0), (308, .sipush 1, 1, 0), (309, .iadd, 1, 0), (310, .iaload, 1, 0), (311, .aload 0, 1, 0), (312, .iload 4, 2, 0), (314, .sipush 2, 1, 0), (315, .iadd, 1, 0), (316, .iaload, 1, 0), (317, .aload 0, 1, 0), (318, .iload 4, 2, 0), (320, .sipush 3, 1, 0), (321, .iadd, 1, 0), (322, .iaload, 1, 0), (323, .aload 0, 1, 0), (324, .iload 4, 2, 0), (326, .sipush 4, 1, 0), (327, .iadd, 1, 0), (328, .iaload, 1, 0), (329, .aload 0, 1, 0), (330, .iload 4, 2, 0), (332, .sipush 5, 1, 0), (333, .iadd, 1, 0), (334, .iaload, 1, 0), (335, .invokevirtual 95, 3, 136), (338, .aload 2, 1, 0), (339, .aload 0, 1, 0), (340, .iload 4, 2, 0), (342, .sipush 1, 1, 0), (343, .iadd, 1, 0), (344, .iaload, 1, 0), (345, .aload 0, 1, 0), (346, .iload 4, 2, 0), (348, .sipush 2, 1, 0), (349, .iadd, 1, 0), (350, .iaload, 1, 0), (351, .aload 0, 1, 0), (352, .iload 4, 2, 0), (354, .sipush 3, 1, 0), (355, .iadd, 1, 0), (356, .iaload, 1, 0), (357, .aload 0, 1, 0), (358, .iload 4, 2, 0), (360, .sipush 4, 1, 0), (361, .iadd, 1, 0), (362, .iaload, 1, 0), (363, .aload 0, 1, 0), (364, .iload 4, 2, 0), (366, .sipush 5, 1, 0), (367, .iadd, 1, 0), (368, .iaload, 1, 0), (369, .invokevirtual 215, 3, 140), (372, .if_icmp .eq 3162, 3, 0), (375, .sipush 0, 1, 0), (376, .ireturn, 1, 0), (377, .aload 1, 1, 0), (378, .aload 0, 1, 0), (379, .iload 4, 2, 0), (381, .sipush 1, 1, 0), (382, .iadd, 1, 0), (383, .iaload, 1, 0), (384, .invokevirtual 96, 3, 141), (387, .aload 2, 1, 0), (388, .aload 0, 1, 0), (389, .iload 4, 2, 0), (391, .sipush 1, 1, 0), (392, .iadd, 1, 0), (393, .iaload, 1, 0), (394, .invokevirtual 216, 3, 145), (397, .if_icmp .eq 3162, 3, 0), (400, .sipush 0, 1, 0), (401, .ireturn, 1, 0), (402, .aload 1, 1, 0), (403, .aload 3, 1, 0), (404, .invokestatic 360, 3, 146), (407, .istore 5, 2, 0), (409, .aload 2, 1, 0), (410, .invokevirtual 247, 3, 151), (413, .istore 6, 2, 0), (415, .aload 2, 1, 0), (416, .invokevirtual 186, 3, 152), (419, .iload 5, 2, 0), (421, .if_icmp .eq 426, 3, 0), (424, .sipush 0, 1, 0), (425, .ireturn, 1, 0), (426, .iload 5, 2, 0), (428, .ifCond .ne 443, 3, 0), (431, .aload 3, 1, 0), (432, .sipush 0, 1, 0), (433, .laload, 1, 0), (434, .iload 6, 2, 0), (436, .i2l, 1, 0), (437, .lcmp, 1, 0)]
def tO_395_1 : List (Nat × av_O) := [(438, .ifCond .eq 443, 3, 0), (441, .sipush 0, 1, 0), (442, .ireturn, 1, 0), (443, .goto 3162, 3, 0), (446, .aload 1, 1, 0), (447, .aload 3, 1, 0), (448, .invokestatic 361, 3, 155), (451, .istore 5, 2, 0), (453, .aload 2, 1, 0), (454, .invokevirtual 248, 3, 157), (457, .istore 6, 2, 0), (459, .aload 2, 1, 0), (460, .invokevirtual 186, 3, 152), (463, .iload 5, 2, 0), (465, .if_icmp .eq 470, 3, 0), (468, .sipush 0, 1, 0), (469, .ireturn, 1, 0), (470, .iload 5, 2, 0), (472, .ifCond .ne 487, 3, 0), (475, .aload 3, 1, 0), (476, .sipush 0, 1, 0), (477, .laload, 1, 0), (478, .iload 6, 2, 0), (480, .i2l, 1, 0), (481, .lcmp, 1, 0), (482, .ifCond .eq 487, 3, 0), (485, .sipush 0, 1, 0), (486, .ireturn, 1, 0), (487, .goto 3162, 3, 0), (490, .aload 1, 1, 0), (491, .invokevirtual 101, 3, 158), (494, .aload 2, 1, 0), (495, .invokevirtual 226, 3, 161), (498, .if_icmp .eq 3162, 3, 0), (501, .sipush 0, 1, 0), (502, .ireturn, 1, 0), (503, .aload 1, 1, 0), (504, .aload 0, 1, 0), (505, .iload 4, 2, 0), (507, .sipush 1, 1, 0), (508, .iadd, 1, 0), (509, .iaload, 1, 0), (510, .aload 0, 1, 0), (511, .iload 4, 2, 0), (513, .sipush 2, 1, 0), (514, .iadd, 1, 0), (515, .iaload, 1, 0), (516, .aload 3, 1, 0), (517, .invokestatic 362, 3, 162), (520, .istore 5, 2, 0), (522, .aload 2, 1, 0), (523, .aload 0, 1, 0), (524, .iload 4, 2, 0), (526, .sipush 1, 1, 0), (527, .iadd, 1, 0), (528, .iaload, 1, 0), (529, .aload 0, 1, 0), (530, .iload 4, 2, 0), (532, .sipush 2, 1, 0), (533, .iadd, 1, 0), (534, .iaload, 1, 0), (535, .invokevirtual 285, 3, 165), (538, .istore 6, 2, 0), (540, .aload 2, 1, 0), (541, .invokevirtual 186, 3, 152), (544, .iload 5, 2, 0), (546, .if_icmp .eq 551, 3, 0), (549, .sipush 0, 1, 0), (550, .ireturn, 1, 0), (551, .iload 5, 2, 0), (553, .ifCond .ne 568, 3, 0), (556, .aload 3, 1, 0), (557, .sipush 0, 1, 0), (558, .laload, 1, 0), (559, .iload 6, 2, 0), (561, .i2l, 1, 0), (562, .lcmp, 1, 0), (563, .ifCond .eq 568, 3, 0), (566, .sipush 0, 1, 0), (567, .ireturn, 1, 0), (568, .goto 3162, 3, 0), (571, .aload 1, 1, 0), (572, .aload 0, 1, 0), (573, .iload 4, 2, 0), (575, .sipush 1, 1, 0), (576, .iadd, 1, 0), (577, .iaload, 1, 0), (578, .aload 0, 1, 0), (579, .iload 4, 2, 0), (581, .sipush 2, 1, 0), (582, .iadd, 1, 0), (583, .iaload, 1, 0), (584, .aload 3, 1, 0), (585, .invokestatic 363, 3, 166), (588, .istore 5, 2, 0), (590, .aload 2, 1, 0), (591, .aload 0, 1, 0), (592, .iload 4, 2, 0), (594, .sipush 1, 1, 0), (595, .iadd, 1, 0), (596, .iaload, 1, 0), (597, .aload 0, 1, 0), (598, .iload 4, 2, 0), (600, .sipush 2, 1, 0), (601, .iadd, 1, 0), (602, .iaload, 1, 0), (603, .invokevirtual 286, 3, 168), (606, .istore 6, 2, 0), (608, .aload 2, 1, 0), (609, .invokevirtual 186, 3, 152), (612, .iload 5, 2, 0), (614, .if_icmp .eq 619, 3, 0), (617, .sipush 0, 1, 0), (618, .ireturn, 1, 0), (619, .iload 5, 2, 0), (621, .ifCond .ne 636, 3, 0), (624, .aload 3, 1, 0), (625, .sipush 0, 1, 0), (626, .laload, 1, 0), (627, .iload 6, 2, 0)]
def tO_395_2 : List (Nat × av_O) := [(629, .i2l, 1, 0), (630, .lcmp, 1, 0), (631, .ifCond .eq 636, 3, 0), (634, .sipush 0, 1, 0), (635, .ireturn, 1, 0), (636, .goto 3162, 3, 0), (639, .aload 1, 1, 0), (640, .aload 0, 1, 0), (641, .iload 4, 2, 0), (643, .sipush 1, 1, 0), (644, .iadd, 1, 0), (645, .iaload, 1, 0), (646, .aload 0, 1, 0), (647, .iload 4, 2, 0), (649, .sipush 2, 1, 0), (650, .iadd, 1, 0), (651, .iaload, 1, 0), (652, .aload 3, 1, 0), (653, .invokestatic 364, 3, 169), (656, .istore 5, 2, 0), (658, .aload 2, 1, 0), (659, .aload 0, 1, 0), (660, .iload 4, 2, 0), (662, .sipush 1, 1, 0), (663, .iadd, 1, 0), (664, .iaload, 1, 0), (665, .aload 0, 1, 0), (666, .iload 4, 2, 0), (668, .sipush 2, 1, 0), (669, .iadd, 1, 0), (670, .iaload, 1, 0), (671, .invokevirtual 287, 3, 171), (674, .istore 6, 2, 0), (676, .aload 2, 1, 0), (677, .invokevirtual 186, 3, 152), (680, .iload 5, 2, 0), (682, .if_icmp .eq 687, 3, 0), (685, .sipush 0, 1, 0), (686, .ireturn, 1, 0), (687, .iload 5, 2, 0), (689, .ifCond .ne 704, 3, 0), (692, .aload 3, 1, 0), (693, .sipush 0, 1, 0), (694, .laload, 1, 0), (695, .iload 6, 2, 0), (697, .i2l, 1, 0), (698, .lcmp, 1, 0), (699, .ifCond .eq 704, 3, 0), (702, .sipush 0, 1, 0), (703, .ireturn, 1, 0), (704, .goto 3162, 3, 0), (707, .aload 1, 1, 0), (708, .aload 0, 1, 0), (709, .iload 4, 2, 0), (711, .sipush 1, 1, 0), (712, .iadd, 1, 0), (713, .iaload, 1, 0), (714, .aload 0, 1, 0), (715, .iload 4, 2, 0), (717, .sipush 2, 1, 0), (718, .iadd, 1, 0), (719, .iaload, 1, 0), (720, .aload 3, 1, 0), (721, .invokestatic 365, 3, 172), (724, .istore 5, 2, 0), (726, .aload 2, 1, 0), (727, .aload 0, 1, 0), (728, .iload 4, 2, 0), (730, .sipush 1, 1, 0), (731, .iadd, 1, 0), (732, .iaload, 1, 0), (733, .aload 0, 1, 0), (734, .iload 4, 2, 0), (736, .sipush 2, 1, 0), (737, .iadd, 1, 0), (738, .iaload, 1, 0), (739, .invokevirtual 289, 3, 174), (742, .istore 6, 2, 0), (744, .aload 2, 1, 0), (745, .invokevirtual 186, 3, 152), (748, .iload 5, 2, 0), (750, .if_icmp .eq 755, 3, 0), (753, .sipush 0, 1, 0), (754, .ireturn, 1, 0), (755, .iload 5, 2, 0), (757, .ifCond .ne 772, 3, 0), (760, .aload 3, 1, 0), (761, .sipush 0, 1, 0), (762, .laload, 1, 0), (763, .iload 6, 2, 0), (765, .i2l, 1, 0), (766, .lcmp, 1, 0), (767, .ifCond .eq 772, 3, 0), (770, .sipush 0, 1, 0), (771, .ireturn, 1, 0), (772, .goto 3162, 3, 0), (775, .aload 1, 1, 0), (776, .aload 0, 1, 0), (777, .iload 4, 2, 0), (779, .sipush 1, 1, 0), (780, .iadd, 1, 0), (781, .iaload, 1, 0), (782, .aload 0, 1, 0), (783, .iload 4, 2, 0), (785, .sipush 2, 1, 0), (786, .iadd, 1, 0), (787, .iaload, 1, 0), (788, .aload 3, 1, 0), (789, .invokestatic 366, 3, 175), (792, .istore 5, 2, 0), (794, .aload 2, 1, 0), (795, .aload 0, 1, 0), (796, .iload 4, 2, 0), (798, .sipush 1, 1, 0), (799, .iadd, 1, 0), (800, .iaload, 1, 0), (801, .aload 0, 1, 0), (802, .iload 4, 2, 0), (804, .sipush 2, 1, 0), (805, .iadd, 1, 0)]
def tO_395_3 : List (Nat × av_O) := [(806, .iaload, 1, 0), (807, .invokevirtual 290, 3, 177), (810, .istore 6, 2, 0), (812, .aload 2, 1, 0), (813, .invokevirtual 186, 3, 152), (816, .iload 5, 2, 0), (818, .if_icmp .eq 823, 3, 0), (821, .sipush 0, 1, 0), (822, .ireturn, 1, 0), (823, .iload 5, 2, 0), (825, .ifCond .ne 840, 3, 0), (828, .aload 3, 1, 0), (829, .sipush 0, 1, 0), (830, .laload, 1, 0), (831, .iload 6, 2, 0), (833, .i2l, 1, 0), (834, .lcmp, 1, 0), (835, .ifCond .eq 840, 3, 0), (838, .sipush 0, 1, 0), (839, .ireturn, 1, 0), (840, .goto 3162, 3, 0), (843, .aload 1, 1, 0), (844, .aload 0, 1, 0), (845, .iload 4, 2, 0), (847, .sipush 1, 1, 0), (848, .iadd, 1, 0), (849, .iaload, 1, 0), (850, .aload 0, 1, 0), (851, .iload 4, 2, 0), (853, .sipush 2, 1, 0), (854, .iadd, 1, 0), (855, .iaload, 1, 0), (856, .aload 3, 1, 0), (857, .invokestatic 367, 3, 178), (860, .istore 5, 2, 0), (862, .aload 2, 1, 0), (863, .aload 0, 1, 0), (864, .iload 4, 2, 0), (866, .sipush 1, 1, 0), (867, .iadd, 1, 0), (868, .iaload, 1, 0), (869, .aload 0, 1, 0), (870, .iload 4, 2, 0), (872, .sipush 2, 1, 0), (873, .iadd, 1, 0), (874, .iaload, 1, 0), (875, .invokevirtual 291, 3, 180), (878, .istore 6, 2, 0), (880, .aload 2, 1, 0), (881, .invokevirtual 186, 3, 152), (884, .iload 5, 2, 0), (886, .if_icmp .eq 891, 3, 0), (889, .sipush 0, 1, 0), (890, .ireturn, 1, 0), (891, .iload 5, 2, 0), (893, .ifCond .ne 915, 3, 0), (896, .aload 3, 1, 0), (897, .sipush 0, 1, 0), (898, .laload, 1, 0), (899, .iload 6, 2, 0), (901, .ifCond .eq 908, 3, 0), (904, .lconst 1, 1, 0), (905, .goto 909, 3, 0), (908, .lconst 0, 1, 0), (909, .lcmp, 1, 0), (910, .ifCond .eq 915, 3, 0), (913, .sipush 0, 1, 0), (914, .ireturn, 1, 0), (915, .goto 3162, 3, 0), (918, .aload 1, 1, 0), (919, .aload 0, 1, 0), (920, .iload 4, 2, 0), (922, .sipush 1, 1, 0), (923, .iadd, 1, 0), (924, .iaload, 1, 0), (925, .aload 3, 1, 0), (926, .invokestatic 368, 3, 181), (929, .istore 5, 2, 0), (931, .aload 2, 1, 0), (932, .aload 0, 1, 0), (933, .iload 4, 2, 0), (935, .sipush 1, 1, 0), (936, .iadd, 1, 0), (937, .iaload, 1, 0), (938, .invokevirtual 292, 3, 184), (941, .istore 6, 2, 0), (943, .aload 2, 1, 0), (944, .invokevirtual 186, 3, 152), (947, .iload 5, 2, 0), (949, .if_icmp .eq 954, 3, 0), (952, .sipush 0, 1, 0), (953, .ireturn, 1, 0), (954, .iload 5, 2, 0), (956, .ifCond .ne 971, 3, 0), (959, .aload 3, 1, 0), (960, .sipush 0, 1, 0), (961, .laload, 1, 0), (962, .iload 6, 2, 0), (964, .i2l, 1, 0), (965, .lcmp, 1, 0), (966, .ifCond .eq 971, 3, 0), (969, .sipush 0, 1, 0), (970, .ireturn, 1, 0), (971, .goto 3162, 3, 0), (974, .aload 1, 1, 0), (975, .aload 0, 1, 0), (976, .iload 4, 2, 0), (978, .sipush 1, 1, 0), (979, .iadd, 1, 0), (980, .iaload, 1, 0), (981, .aload 0, 1, 0), (982, .iload 4, 2, 0), (984, .sipush 2, 1, 0), (985, .iadd, 1, 0), (986, .iaload, 1, 0), (987, .aload 3, 1, 0), (988, .invokestatic 369, 3, 185), (991, .istore 5, 2, 0), (993, .aload 2, 1, 0), (994, .aload 0, 1, 0)]
def tO_395_4 : List (Nat × av_O) := [(995, .iload 4, 2, 0), (997, .sipush 1, 1, 0), (998, .iadd, 1, 0), (999, .iaload, 1, 0), (1000, .aload 0, 1, 0), (1001, .iload 4, 2, 0), (1003, .sipush 2, 1, 0), (1004, .iadd, 1, 0), (1005, .iaload, 1, 0), (1006, .invokevirtual 293, 3, 187), (1009, .istore 6, 2, 0), (1011, .aload 2, 1, 0), (1012, .invokevirtual 186, 3, 152), (1015, .iload 5, 2, 0), (1017, .if_icmp .eq 1022, 3, 0), (1020, .sipush 0, 1, 0), (1021, .ireturn, 1, 0), (1022, .iload 5, 2, 0), (1024, .ifCond .ne 1039, 3, 0), (1027, .aload 3, 1, 0), (1028, .sipush 0, 1, 0), (1029, .laload, 1, 0), (1030, .iload 6, 2, 0), (1032, .i2l, 1, 0), (1033, .lcmp, 1, 0), (1034, .ifCond .eq 1039, 3, 0), (1037, .sipush 0, 1, 0), (1038, .ireturn, 1, 0), (1039, .goto 3162, 3, 0), (1042, .aload 1, 1, 0), (1043, .aload 0, 1, 0), (1044, .iload 4, 2, 0), (1046, .sipush 1, 1, 0), (1047, .iadd, 1, 0), (1048, .iaload, 1, 0), (1049, .aload 0, 1, 0), (1050, .iload 4, 2, 0), (1052, .sipush 2, 1, 0), (1053, .iadd, 1, 0), (1054, .iaload, 1, 0), (1055, .aload 3, 1, 0), (1056, .invokestatic 370, 3, 188), (1059, .istore 5, 2, 0), (1061, .aload 2, 1, 0), (1062, .aload 0, 1, 0), (1063, .iload 4, 2, 0), (1065, .sipush 1, 1, 0), (1066, .iadd, 1, 0), (1067, .iaload, 1, 0), (1068, .aload 0, 1, 0), (1069, .iload 4, 2, 0), (1071, .sipush 2, 1, 0), (1072, .iadd, 1, 0), (1073, .iaload, 1, 0), (1074, .invokevirtual 295, 3, 190), (1077, .istore 6, 2, 0), (1079, .aload 2, 1, 0), (1080, .invokevirtual 186, 3, 152), (1083, .iload 5, 2, 0), (1085, .if_icmp .eq 1090, 3, 0), (1088, .sipush 0, 1, 0), (1089, .ireturn, 1, 0), (1090, .iload 5, 2, 0), (1092, .ifCond .ne 1107, 3, 0), (1095, .aload 3, 1, 0), (1096, .sipush 0, 1, 0), (1097, .laload, 1, 0), (1098, .iload 6, 2, 0), (1100, .i2l, 1, 0), (1101, .lcmp, 1, 0), (1102, .ifCond .eq 1107, 3, 0), (1105, .sipush 0, 1, 0), (1106, .ireturn, 1, 0), (1107, .goto 3162, 3, 0), (1110, .aload 1, 1, 0), (1111, .aload 0, 1, 0), (1112, .iload 4, 2, 0), (1114, .sipush 1, 1, 0), (1115, .iadd, 1, 0), (1116, .iaload, 1, 0), (1117, .aload 0, 1, 0), (1118, .iload 4, 2, 0), (1120, .sipush 2, 1, 0), (1121, .iadd, 1, 0), (1122, .iaload, 1, 0), (1123, .aload 3, 1, 0), (1124, .invokestatic 371, 3, 191), (1127, .istore 5, 2, 0), (1129, .aload 2, 1, 0), (1130, .aload 0, 1, 0), (1131, .iload 4, 2, 0), (1133, .sipush 1, 1, 0), (1134, .iadd, 1, 0), (1135, .iaload, 1, 0), (1136, .aload 0, 1, 0), (1137, .iload 4, 2, 0), (1139, .sipush 2, 1, 0), (1140, .iadd, 1, 0), (1141, .iaload, 1, 0), (1142, .invokevirtual 296, 3, 193), (1145, .istore 6, 2, 0), (1147, .aload 2, 1, 0), (1148, .invokevirtual 186, 3, 152), (1151, .iload 5, 2, 0), (1153, .if_icmp .eq 1158, 3, 0), (1156, .sipush 0, 1, 0), (1157, .ireturn, 1, 0), (1158, .iload 5, 2, 0), (1160, .ifCond .ne 1175, 3, 0), (1163, .aload 3, 1, 0), (1164, .sipush 0, 1, 0), (1165, .laload, 1, 0), (1166, .iload 6, 2, 0), (1168, .i2l, 1, 0), (1169, .lcmp, 1, 0), (1170, .ifCond .eq 1175, 3, 0), (1173, .sipush 0, 1, 0), (1174, .ireturn, 1, 0), (1175, .goto 3162, 3, 0), (1178, .aload 1, 1, 0)]
def tO_395_5 : List (Nat × av_O) := [(1179, .aload 0, 1, 0), (1180, .iload 4, 2, 0), (1182, .sipush 1, 1, 0), (1183, .iadd, 1, 0), (1184, .iaload, 1, 0), (1185, .aload 0, 1, 0), (1186, .iload 4, 2, 0), (1188, .sipush 2, 1, 0), (1189, .iadd, 1, 0), (1190, .iaload, 1, 0), (1191, .aload 3, 1, 0), (1192, .invokestatic 372, 3, 194), (1195, .istore 5, 2, 0), (1197, .aload 2, 1, 0), (1198, .aload 0, 1, 0), (1199, .iload 4, 2, 0), (1201, .sipush 1, 1, 0), (1202, .iadd, 1, 0), (1203, .iaload, 1, 0), (1204, .aload 0, 1, 0), (1205, .iload 4, 2, 0), (1207, .sipush 2, 1, 0), (1208, .iadd, 1, 0), (1209, .iaload, 1, 0), (1210, .invokevirtual 297, 3, 196), (1213, .istore 6, 2, 0), (1215, .aload 2, 1, 0), (1216, .invokevirtual 186, 3, 152), (1219, .iload 5, 2, 0), (1221, .if_icmp .eq 1226, 3, 0), (1224, .sipush 0, 1, 0), (1225, .ireturn, 1, 0), (1226, .iload 5, 2, 0), (1228, .ifCond .ne 1243, 3, 0), (1231, .aload 3, 1, 0), (1232, .sipush 0, 1, 0), (1233, .laload, 1, 0), (1234, .iload 6, 2, 0), (1236, .i2l, 1, 0), (1237, .lcmp, 1, 0), (1238, .ifCond .eq 1243, 3, 0), (1241, .sipush 0, 1, 0), (1242, .ireturn, 1, 0), (1243, .goto 3162, 3, 0), (1246, .aload 1, 1, 0), (1247, .aload 0, 1, 0), (1248, .iload 4, 2, 0), (1250, .sipush 1, 1, 0), (1251, .iadd, 1, 0), (1252, .iaload, 1, 0), (1253, .aload 0, 1, 0), (1254, .iload 4, 2, 0), (1256, .sipush 2, 1, 0), (1257, .iadd, 1, 0), (1258, .iaload, 1, 0), (1259, .aload 0, 1, 0), (1260, .iload 4, 2, 0), (1262, .sipush 3, 1, 0), (1263, .iadd, 1, 0), (1264, .iaload, 1, 0), (1265, .ifCond .eq 1272, 3, 0), (1268, .sipush 1, 1, 0), (1269, .goto 1273, 3, 0), (1272, .sipush 0, 1, 0), (1273, .aload 3, 1, 0), (1274, .invokestatic 373, 3, 197), (1277, .istore 5, 2, 0), (1279, .aload 2, 1, 0), (1280, .aload 0, 1, 0), (1281, .iload 4, 2, 0), (1283, .sipush 1, 1, 0), (1284, .iadd, 1, 0), (1285, .iaload, 1, 0), (1286, .aload 0, 1, 0), (1287, .iload 4, 2, 0), (1289, .sipush 2, 1, 0), (1290, .iadd, 1, 0), (1291, .iaload, 1, 0), (1292, .aload 0, 1, 0), (1293, .iload 4, 2, 0), (1295, .sipush 3, 1, 0), (1296, .iadd, 1, 0), (1297, .iaload, 1, 0), (1298, .ifCond .eq 1305, 3, 0), (1301, .sipush 1, 1, 0), (1302, .goto 1306, 3, 0), (1305, .sipush 0, 1, 0), (1306, .invokevirtual 298, 3, 200), (1309, .istore 6, 2, 0), (1311, .aload 2, 1, 0), (1312, .invokevirtual 186, 3, 152), (1315, .iload 5, 2, 0), (1317, .if_icmp .eq 1322, 3, 0), (1320, .sipush 0, 1, 0), (1321, .ireturn, 1, 0), (1322, .iload 5, 2, 0), (1324, .ifCond .ne 1339, 3, 0), (1327, .aload 3, 1, 0), (1328, .sipush 0, 1, 0), (1329, .laload, 1, 0), (1330, .iload 6, 2, 0), (1332, .i2l, 1, 0), (1333, .lcmp, 1, 0), (1334, .ifCond .eq 1339, 3, 0), (1337, .sipush 0, 1, 0), (1338, .ireturn, 1, 0), (1339, .goto 3162, 3, 0), (1342, .aload 1, 1, 0), (1343, .aload 0, 1, 0), (1344, .iload 4, 2, 0), (1346, .sipush 1, 1, 0), (1347, .iadd, 1, 0), (1348, .iaload, 1, 0), (1349, .aload 0, 1, 0), (1350, .iload 4, 2, 0), (1352, .sipush 2, 1, 0), (1353, .iadd, 1, 0), (1354, .iaload, 1, 0), (1355, .aload 0, 1, 0), (1356, .iload 4, 2, 0)]
def tO_395_6 : List (Nat × av_O) := [(1358, .sipush 3, 1, 0), (1359, .iadd, 1, 0), (1360, .iaload, 1, 0), (1361, .ifCond .eq 1368, 3, 0), (1364, .sipush 1, 1, 0), (1365, .goto 1369, 3, 0), (1368, .sipush 0, 1, 0), (1369, .aload 3, 1, 0), (1370, .invokestatic 374, 3, 201), (1373, .istore 5, 2, 0), (1375, .aload 2, 1, 0), (1376, .aload 0, 1, 0), (1377, .iload 4, 2, 0), (1379, .sipush 1, 1, 0), (1380, .iadd, 1, 0), (1381, .iaload, 1, 0), (1382, .aload 0, 1, 0), (1383, .iload 4, 2, 0), (1385, .sipush 2, 1, 0), (1386, .iadd, 1, 0), (1387, .iaload, 1, 0), (1388, .aload 0, 1, 0), (1389, .iload 4, 2, 0), (1391, .sipush 3, 1, 0), (1392, .iadd, 1, 0), (1393, .iaload, 1, 0), (1394, .ifCond .eq 1401, 3, 0), (1397, .sipush 1, 1, 0), (1398, .goto 1402, 3, 0), (1401, .sipush 0, 1, 0), (1402, .invokevirtual 300, 3, 203), (1405, .istore 6, 2, 0), (1407, .aload 2, 1, 0), (1408, .invokevirtual 186, 3, 152), (1411, .iload 5, 2, 0), (1413, .if_icmp .eq 1418, 3, 0), (1416, .sipush 0, 1, 0), (1417, .ireturn, 1, 0), (1418, .iload 5, 2, 0), (1420, .ifCond .ne 1442, 3, 0), (1423, .aload 3, 1, 0), (1424, .sipush 0, 1, 0), (1425, .laload, 1, 0), (1426, .iload 6, 2, 0), (1428, .ifCond .eq 1435, 3, 0), (1431, .lconst 1, 1, 0), (1432, .goto 1436, 3, 0), (1435, .lconst 0, 1, 0), (1436, .lcmp, 1, 0), (1437, .ifCond .eq 1442, 3, 0), (1440, .sipush 0, 1, 0), (1441, .ireturn, 1, 0), (1442, .goto 3162, 3, 0), (1445, .aload 1, 1, 0), (1446, .aload 0, 1, 0), (1447, .iload 4, 2, 0), (1449, .sipush 1, 1, 0), (1450, .iadd, 1, 0), (1451, .iaload, 1, 0), (1452, .aload 0, 1, 0), (1453, .iload 4, 2, 0), (1455, .sipush 2, 1, 0), (1456, .iadd, 1, 0), (1457, .iaload, 1, 0), (1458, .aload 3, 1, 0), (1459, .invokestatic 375, 3, 204), (1462, .istore 5, 2, 0), (1464, .aload 2, 1, 0), (1465, .aload 0, 1, 0), (1466, .iload 4, 2, 0), (1468, .sipush 1, 1, 0), (1469, .iadd, 1, 0), (1470, .iaload, 1, 0), (1471, .aload 0, 1, 0), (1472, .iload 4, 2, 0), (1474, .sipush 2, 1, 0), (1475, .iadd, 1, 0), (1476, .iaload, 1, 0), (1477, .invokevirtual 301, 3, 206), (1480, .istore 6, 2, 0), (1482, .aload 2, 1, 0), (1483, .invokevirtual 186, 3, 152), (1486, .iload 5, 2, 0), (1488, .if_icmp .eq 1493, 3, 0), (1491, .sipush 0, 1, 0), (1492, .ireturn, 1, 0), (1493, .iload 5, 2, 0), (1495, .ifCond .ne 1510, 3, 0), (1498, .aload 3, 1, 0), (1499, .sipush 0, 1, 0), (1500, .laload, 1, 0), (1501, .iload 6, 2, 0), (1503, .i2l, 1, 0), (1504, .lcmp, 1, 0), (1505, .ifCond .eq 1510, 3, 0), (1508, .sipush 0, 1, 0), (1509, .ireturn, 1, 0), (1510, .goto 3162, 3, 0), (1513, .aload 1, 1, 0), (1514, .aload 0, 1, 0), (1515, .iload 4, 2, 0), (1517, .sipush 1, 1, 0), (1518, .iadd, 1, 0), (1519, .iaload, 1, 0), (1520, .aload 3, 1, 0), (1521, .invokestatic 376, 3, 207), (1524, .istore 5, 2, 0), (1526, .aload 2, 1, 0), (1527, .aload 0, 1, 0), (1528, .iload 4, 2, 0), (1530, .sipush 1, 1, 0), (1531, .iadd, 1, 0), (1532, .iaload, 1, 0), (1533, .invokevirtual 302, 3, 209), (1536, .istore 6, 2, 0), (1538, .aload 2, 1, 0), (1539, .invokevirtual 186, 3, 152), (1542, .iload 5, 2, 0), (1544, .if_icmp .eq 1549, 3, 0), (1547, .sipush 0, 1, 0)]
def tO_395_7 : List (Nat × av_O) := [(1548, .ireturn, 1, 0), (1549, .iload 5, 2, 0), (1551, .ifCond .ne 1566, 3, 0), (1554, .aload 3, 1, 0), (1555, .sipush 0, 1, 0), (1556, .laload, 1, 0), (1557, .iload 6, 2, 0), (1559, .i2l, 1, 0), (1560, .lcmp, 1, 0), (1561, .ifCond .eq 1566, 3, 0), (1564, .sipush 0, 1, 0), (1565, .ireturn, 1, 0), (1566, .goto 3162, 3, 0), (1569, .aload 1, 1, 0), (1570, .aload 0, 1, 0), (1571, .iload 4, 2, 0), (1573, .sipush 1, 1, 0), (1574, .iadd, 1, 0), (1575, .iaload, 1, 0), (1576, .invokevirtual 120, 3, 210), (1579, .aload 2, 1, 0), (1580, .aload 0, 1, 0), (1581, .iload 4, 2, 0), (1583, .sipush 1, 1, 0), (1584, .iadd, 1, 0), (1585, .iaload, 1, 0), (1586, .invokevirtual 271, 3, 213), (1589, .if_icmp .eq 3162, 3, 0), (1592, .sipush 0, 1, 0), (1593, .ireturn, 1, 0), (1594, .aload 1, 1, 0), (1595, .aload 0, 1, 0), (1596, .iload 4, 2, 0), (1598, .sipush 1, 1, 0), (1599, .iadd, 1, 0), (1600, .iaload, 1, 0), (1601, .invokevirtual 121, 3, 214), (1604, .aload 2, 1, 0), (1605, .aload 0, 1, 0), (1606, .iload 4, 2, 0), (1608, .sipush 1, 1, 0), (1609, .iadd, 1, 0), (1610, .iaload, 1, 0), (1611, .invokevirtual 272, 3, 217), (1614, .if_icmp .eq 3162, 3, 0), (1617, .sipush 0, 1, 0), (1618, .ireturn, 1, 0), (1619, .aload 1, 1, 0), (1620, .invokevirtual 122, 3, 218), (1623, .aload 2, 1, 0), (1624, .invokevirtual 273, 3, 221), (1627, .if_icmp .eq 3162, 3, 0), (1630, .sipush 0, 1, 0), (1631, .ireturn, 1, 0), (1632, .aload 1, 1, 0), (1633, .invokevirtual 123, 3, 222), (1636, .aload 2, 1, 0), (1637, .invokevirtual 274, 3, 225), (1640, .if_icmp .eq 3162, 3, 0), (1643, .sipush 0, 1, 0), (1644, .ireturn, 1, 0), (1645, .aload 1, 1, 0), (1646, .invokevirtual 124, 3, 226), (1649, .aload 2, 1, 0), (1650, .invokevirtual 275, 3, 229), (1653, .if_icmp .eq 3162, 3, 0), (1656, .sipush 0, 1, 0), (1657, .ireturn, 1, 0), (1658, .aload 1, 1, 0), (1659, .invokevirtual 125, 3, 230), (1662, .aload 2, 1, 0), (1663, .invokevirtual 276, 3, 233), (1666, .if_icmp .eq 3162, 3, 0), (1669, .sipush 0, 1, 0), (1670, .ireturn, 1, 0), (1671, .aload 1, 1, 0), (1672, .aload 0, 1, 0), (1673, .iload 4, 2, 0), (1675, .sipush 1, 1, 0), (1676, .iadd, 1, 0), (1677, .iaload, 1, 0), (1678, .aload 3, 1, 0), (1679, .invokestatic 377, 3, 234), (1682, .istore 5, 2, 0), (1684, .aload 2, 1, 0), (1685, .aload 0, 1, 0), (1686, .iload 4, 2, 0), (1688, .sipush 1, 1, 0), (1689, .iadd, 1, 0), (1690, .iaload, 1, 0), (1691, .invokevirtual 278, 3, 236), (1694, .istore 6, 2, 0), (1696, .aload 2, 1, 0), (1697, .invokevirtual 186, 3, 152), (1700, .iload 5, 2, 0), (1702, .if_icmp .eq 1707, 3, 0), (1705, .sipush 0, 1, 0), (1706, .ireturn, 1, 0), (1707, .iload 5, 2, 0), (1709, .ifCond .ne 1724, 3, 0), (1712, .aload 3, 1, 0), (1713, .sipush 0, 1, 0), (1714, .laload, 1, 0), (1715, .iload 6, 2, 0), (1717, .i2l, 1, 0), (1718, .lcmp, 1, 0), (1719, .ifCond .eq 1724, 3, 0), (1722, .sipush 0, 1, 0), (1723, .ireturn, 1, 0), (1724, .goto 3162, 3, 0), (1727, .aload 1, 1, 0), (1728, .invokevirtual 127, 3, 237), (1731, .aload 2, 1, 0), (1732, .invokevirtual 281, 3, 240), (1735, .if_icmp .eq 3162, 3, 0), (1738, .sipush 0, 1, 0), (1739, .ireturn, 1, 0), (1740, .aload 1, 1, 0), (1741, .aload 3, 1, 0), (1742, .invokestatic 378, 3, 241)]
def tO_395_8 : List (Nat × av_O) := [(1745, .istore 5, 2, 0), (1747, .aload 2, 1, 0), (1748, .invokevirtual 305, 3, 243), (1751, .istore 6, 2, 0), (1753, .aload 2, 1, 0), (1754, .invokevirtual 186, 3, 152), (1757, .iload 5, 2, 0), (1759, .if_icmp .eq 1764, 3, 0), (1762, .sipush 0, 1, 0), (1763, .ireturn, 1, 0), (1764, .iload 5, 2, 0), (1766, .ifCond .ne 1781, 3, 0), (1769, .aload 3, 1, 0), (1770, .sipush 0, 1, 0), (1771, .laload, 1, 0), (1772, .iload 6, 2, 0), (1774, .i2l, 1, 0), (1775, .lcmp, 1, 0), (1776, .ifCond .eq 1781, 3, 0), (1779, .sipush 0, 1, 0), (1780, .ireturn, 1, 0), (1781, .goto 3162, 3, 0), (1784, .aload 1, 1, 0), (1785, .aload 0, 1, 0), (1786, .iload 4, 2, 0), (1788, .sipush 1, 1, 0), (1789, .iadd, 1, 0), (1790, .iaload, 1, 0), (1791, .ifCond .eq 1798, 3, 0), (1794, .sipush 1, 1, 0), (1795, .goto 1799, 3, 0), (1798, .sipush 0, 1, 0), (1799, .aload 3, 1, 0), (1800, .invokestatic 379, 3, 244), (1803, .istore 5, 2, 0), (1805, .aload 2, 1, 0), (1806, .aload 0, 1, 0), (1807, .iload 4, 2, 0), (1809, .sipush 1, 1, 0), (1810, .iadd, 1, 0), (1811, .iaload, 1, 0), (1812, .ifCond .eq 1819, 3, 0), (1815, .sipush 1, 1, 0), (1816, .goto 1820, 3, 0), (1819, .sipush 0, 1, 0), (1820, .invokevirtual 307, 3, 247), (1823, .istore 6, 2, 0), (1825, .aload 2, 1, 0), (1826, .invokevirtual 186, 3, 152), (1829, .iload 5, 2, 0), (1831, .if_icmp .eq 1836, 3, 0), (1834, .sipush 0, 1, 0), (1835, .ireturn, 1, 0), (1836, .iload 5, 2, 0), (1838, .ifCond .ne 1853, 3, 0), (1841, .aload 3, 1, 0), (1842, .sipush 0, 1, 0), (1843, .laload, 1, 0), (1844, .iload 6, 2, 0), (1846, .i2l, 1, 0), (1847, .lcmp, 1, 0), (1848, .ifCond .eq 1853, 3, 0), (1851, .sipush 0, 1, 0), (1852, .ireturn, 1, 0), (1853, .goto 3162, 3, 0), (1856, .aload 1, 1, 0), (1857, .aload 3, 1, 0), (1858, .invokestatic 380, 3, 248), (1861, .istore 5, 2, 0), (1863, .aload 2, 1, 0), (1864, .invokevirtual 308, 3, 250), (1867, .istore 6, 2, 0), (1869, .aload 2, 1, 0), (1870, .invokevirtual 186, 3, 152), (1873, .iload 5, 2, 0), (1875, .if_icmp .eq 1880, 3, 0), (1878, .sipush 0, 1, 0), (1879, .ireturn, 1, 0), (1880, .iload 5, 2, 0), (1882, .ifCond .ne 1897, 3, 0), (1885, .aload 3, 1, 0), (1886, .sipush 0, 1, 0), (1887, .laload, 1, 0), (1888, .iload 6, 2, 0), (1890, .i2l, 1, 0), (1891, .lcmp, 1, 0), (1892, .ifCond .eq 1897, 3, 0), (1895, .sipush 0, 1, 0), (1896, .ireturn, 1, 0), (1897, .goto 3162, 3, 0), (1900, .aload 1, 1, 0), (1901, .aload 0, 1, 0), (1902, .iload 4, 2, 0), (1904, .sipush 1, 1, 0), (1905, .iadd, 1, 0), (1906, .iaload, 1, 0), (1907, .aload 3, 1, 0), (1908, .invokestatic 381, 3, 251), (1911, .istore 5, 2, 0), (1913, .aload 2, 1, 0), (1914, .aload 0, 1, 0), (1915, .iload 4, 2, 0), (1917, .sipush 1, 1, 0), (1918, .iadd, 1, 0), (1919, .iaload, 1, 0), (1920, .invokevirtual 310, 3, 253), (1923, .istore 6, 2, 0), (1925, .aload 2, 1, 0), (1926, .invokevirtual 186, 3, 152), (1929, .iload 5, 2, 0), (1931, .if_icmp .eq 1936, 3, 0), (1934, .sipush 0, 1, 0), (1935, .ireturn, 1, 0), (1936, .iload 5, 2, 0), (1938, .ifCond .ne 1953, 3, 0), (1941, .aload 3, 1, 0), (1942, .sipush 0, 1, 0), (1943, .laload, 1, 0), (1944, .iload 6, 2, 0), (1946, .i2l, 1, 0)]
def tO_395_9 : List (Nat × av_O) := [(1947, .lcmp, 1, 0), (1948, .ifCond .eq 1953, 3, 0), (1951, .sipush 0, 1, 0), (1952, .ireturn, 1, 0), (1953, .goto 3162, 3, 0), (1956, .aload 1, 1, 0), (1957, .invokevirtual 141, 3, 254), (1960, .aload 2, 1, 0), (1961, .invokevirtual 311, 3, 257), (1964, .if_icmp .eq 3162, 3, 0), (1967, .sipush 0, 1, 0), (1968, .ireturn, 1, 0), (1969, .aload 1, 1, 0), (1970, .invokevirtual 143, 3, 258), (1973, .aload 2, 1, 0), (1974, .invokevirtual 312, 3, 261), (1977, .if_icmp .eq 3162, 3, 0), (1980, .sipush 0, 1, 0), (1981, .ireturn, 1, 0), (1982, .aload 1, 1, 0), (1983, .aload 0, 1, 0), (1984, .iload 4, 2, 0), (1986, .sipush 1, 1, 0), (1987, .iadd, 1, 0), (1988, .iaload, 1, 0), (1989, .aload 0, 1, 0), (1990, .iload 4, 2, 0), (1992, .sipush 2, 1, 0), (1993, .iadd, 1, 0), (1994, .iaload, 1, 0), (1995, .aload 3, 1, 0), (1996, .invokestatic 382, 3, 262), (1999, .istore 5, 2, 0), (2001, .aload 2, 1, 0), (2002, .aload 0, 1, 0), (2003, .iload 4, 2, 0), (2005, .sipush 1, 1, 0), (2006, .iadd, 1, 0), (2007, .iaload, 1, 0), (2008, .aload 0, 1, 0), (2009, .iload 4, 2, 0), (2011, .sipush 2, 1, 0), (2012, .iadd, 1, 0), (2013, .iaload, 1, 0), (2014, .invokevirtual 313, 3, 264), (2017, .istore 6, 2, 0), (2019, .aload 2, 1, 0), (2020, .invokevirtual 186, 3, 152), (2023, .iload 5, 2, 0), (2025, .if_icmp .eq 2030, 3, 0), (2028, .sipush 0, 1, 0), (2029, .ireturn, 1, 0), (2030, .iload 5, 2, 0), (2032, .ifCond .ne 2054, 3, 0), (2035, .aload 3, 1, 0), (2036, .sipush 0, 1, 0), (2037, .laload, 1, 0), (2038, .iload 6, 2, 0), (2040, .ifCond .eq 2047, 3, 0), (2043, .lconst 1, 1, 0), (2044, .goto 2048, 3, 0), (2047, .lconst 0, 1, 0), (2048, .lcmp, 1, 0), (2049, .ifCond .eq 2054, 3, 0), (2052, .sipush 0, 1, 0), (2053, .ireturn, 1, 0), (2054, .goto 3162, 3, 0), (2057, .aload 1, 1, 0), (2058, .aload 0, 1, 0), (2059, .iload 4, 2, 0), (2061, .sipush 1, 1, 0), (2062, .iadd, 1, 0), (2063, .iaload, 1, 0), (2064, .aload 3, 1, 0), (2065, .invokestatic 383, 3, 265), (2068, .istore 5, 2, 0), (2070, .aload 2, 1, 0), (2071, .aload 0, 1, 0), (2072, .iload 4, 2, 0), (2074, .sipush 1, 1, 0), (2075, .iadd, 1, 0), (2076, .iaload, 1, 0), (2077, .invokevirtual 317, 3, 267), (2080, .istore 6, 2, 0), (2082, .aload 2, 1, 0), (2083, .invokevirtual 186, 3, 152), (2086, .iload 5, 2, 0), (2088, .if_icmp .eq 2093, 3, 0), (2091, .sipush 0, 1, 0), (2092, .ireturn, 1, 0), (2093, .iload 5, 2, 0), (2095, .ifCond .ne 2110, 3, 0), (2098, .aload 3, 1, 0), (2099, .sipush 0, 1, 0), (2100, .laload, 1, 0), (2101, .iload 6, 2, 0), (2103, .i2l, 1, 0), (2104, .lcmp, 1, 0), (2105, .ifCond .eq 2110, 3, 0), (2108, .sipush 0, 1, 0), (2109, .ireturn, 1, 0), (2110, .goto 3162, 3, 0), (2113, .aload 1, 1, 0), (2114, .invokevirtual 146, 3, 268), (2117, .aload 2, 1, 0), (2118, .invokevirtual 320, 3, 271), (2121, .if_icmp .eq 3162, 3, 0), (2124, .sipush 0, 1, 0), (2125, .ireturn, 1, 0), (2126, .aload 1, 1, 0), (2127, .aload 0, 1, 0), (2128, .iload 4, 2, 0), (2130, .sipush 1, 1, 0), (2131, .iadd, 1, 0), (2132, .iaload, 1, 0), (2133, .aload 0, 1, 0), (2134, .iload 4, 2, 0), (2136, .sipush 2, 1, 0), (2137, .iadd, 1, 0), (2138, .iaload, 1, 0)]
def tO_395_10 : List (Nat × av_O) := [(2139, .ifCond .eq 2146, 3, 0), (2142, .sipush 1, 1, 0), (2143, .goto 2147, 3, 0), (2146, .sipush 0, 1, 0), (2147, .aload 3, 1, 0), (2148, .invokestatic 384, 3, 272), (2151, .istore 5, 2, 0), (2153, .aload 2, 1, 0), (2154, .aload 0, 1, 0), (2155, .iload 4, 2, 0), (2157, .sipush 1, 1, 0), (2158, .iadd, 1, 0), (2159, .iaload, 1, 0), (2160, .aload 0, 1, 0), (2161, .iload 4, 2, 0), (2163, .sipush 2, 1, 0), (2164, .iadd, 1, 0), (2165, .iaload, 1, 0), (2166, .ifCond .eq 2173, 3, 0), (2169, .sipush 1, 1, 0), (2170, .goto 2174, 3, 0), (2173, .sipush 0, 1, 0), (2174, .invokevirtual 324, 3, 275), (2177, .istore 6, 2, 0), (2179, .aload 2, 1, 0), (2180, .invokevirtual 186, 3, 152), (2183, .iload 5, 2, 0), (2185, .if_icmp .eq 2190, 3, 0), (2188, .sipush 0, 1, 0), (2189, .ireturn, 1, 0), (2190, .iload 5, 2, 0), (2192, .ifCond .ne 2207, 3, 0), (2195, .aload 3, 1, 0), (2196, .sipush 0, 1, 0), (2197, .laload, 1, 0), (2198, .iload 6, 2, 0), (2200, .i2l, 1, 0), (2201, .lcmp, 1, 0), (2202, .ifCond .eq 2207, 3, 0), (2205, .sipush 0, 1, 0), (2206, .ireturn, 1, 0), (2207, .goto 3162, 3, 0), (2210, .aload 1, 1, 0), (2211, .invokevirtual 148, 3, 276), (2214, .aload 2, 1, 0), (2215, .invokevirtual 325, 3, 279), (2218, .if_icmp .eq 3162, 3, 0), (2221, .sipush 0, 1, 0), (2222, .ireturn, 1, 0), (2223, .aload 1, 1, 0), (2224, .aload 0, 1, 0), (2225, .iload 4, 2, 0), (2227, .sipush 1, 1, 0), (2228, .iadd, 1, 0), (2229, .iaload, 1, 0), (2230, .aload 3, 1, 0), (2231, .invokestatic 385, 3, 280), (2234, .istore 5, 2, 0), (2236, .aload 2, 1, 0), (2237, .aload 0, 1, 0), (2238, .iload 4, 2, 0), (2240, .sipush 1, 1, 0), (2241, .iadd, 1, 0), (2242, .iaload, 1, 0), (2243, .invokevirtual 326, 3, 282), (2246, .istore 6, 2, 0), (2248, .aload 2, 1, 0), (2249, .invokevirtual 186, 3, 152), (2252, .iload 5, 2, 0), (2254, .if_icmp .eq 2259, 3, 0), (2257, .sipush 0, 1, 0), (2258, .ireturn, 1, 0), (2259, .iload 5, 2, 0), (2261, .ifCond .ne 2276, 3, 0), (2264, .aload 3, 1, 0), (2265, .sipush 0, 1, 0), (2266, .laload, 1, 0), (2267, .iload 6, 2, 0), (2269, .i2l, 1, 0), (2270, .lcmp, 1, 0), (2271, .ifCond .eq 2276, 3, 0), (2274, .sipush 0, 1, 0), (2275, .ireturn, 1, 0), (2276, .goto 3162, 3, 0), (2279, .aload 1, 1, 0), (2280, .aload 0, 1, 0), (2281, .iload 4, 2, 0), (2283, .sipush 1, 1, 0), (2284, .iadd, 1, 0), (2285, .iaload, 1, 0), (2286, .aload 0, 1, 0), (2287, .iload 4, 2, 0), (2289, .sipush 2, 1, 0), (2290, .iadd, 1, 0), (2291, .iaload, 1, 0), (2292, .ifCond .eq 2299, 3, 0), (2295, .sipush 1, 1, 0), (2296, .goto 2300, 3, 0), (2299, .sipush 0, 1, 0), (2300, .invokevirtual 152, 3, 283), (2303, .aload 2, 1, 0), (2304, .aload 0, 1, 0), (2305, .iload 4, 2, 0), (2307, .sipush 1, 1, 0), (2308, .iadd, 1, 0), (2309, .iaload, 1, 0), (2310, .aload 0, 1, 0), (2311, .iload 4, 2, 0), (2313, .sipush 2, 1, 0), (2314, .iadd, 1, 0), (2315, .iaload, 1, 0), (2316, .ifCond .eq 2323, 3, 0), (2319, .sipush 1, 1, 0), (2320, .goto 2324, 3, 0), (2323, .sipush 0, 1, 0), (2324, .invokevirtual 328, 3, 286), (2327, .if_icmp .eq 3162, 3, 0), (2330, .sipush 0, 1, 0), (2331, .ireturn, 1, 0), (2332, .aload 1, 1, 0)]
def tO_395_11 : List (Nat × av_O) := [(2333, .aload 0, 1, 0), (2334, .iload 4, 2, 0), (2336, .sipush 1, 1, 0), (2337, .iadd, 1, 0), (2338, .iaload, 1, 0), (2339, .aload 0, 1, 0), (2340, .iload 4, 2, 0), (2342, .sipush 2, 1, 0), (2343, .iadd, 1, 0), (2344, .iaload, 1, 0), (2345, .ifCond .eq 2352, 3, 0), (2348, .sipush 1, 1, 0), (2349, .goto 2353, 3, 0), (2352, .sipush 0, 1, 0), (2353, .aload 3, 1, 0), (2354, .invokestatic 386, 3, 287), (2357, .istore 5, 2, 0), (2359, .aload 2, 1, 0), (2360, .aload 0, 1, 0), (2361, .iload 4, 2, 0), (2363, .sipush 1, 1, 0), (2364, .iadd, 1, 0), (2365, .iaload, 1, 0), (2366, .aload 0, 1, 0), (2367, .iload 4, 2, 0), (2369, .sipush 2, 1, 0), (2370, .iadd, 1, 0), (2371, .iaload, 1, 0), (2372, .ifCond .eq 2379, 3, 0), (2375, .sipush 1, 1, 0), (2376, .goto 2380, 3, 0), (2379, .sipush 0, 1, 0), (2380, .invokevirtual 330, 3, 289), (2383, .istore 6, 2, 0), (2385, .aload 2, 1, 0), (2386, .invokevirtual 186, 3, 152), (2389, .iload 5, 2, 0), (2391, .if_icmp .eq 2396, 3, 0), (2394, .sipush 0, 1, 0), (2395, .ireturn, 1, 0), (2396, .iload 5, 2, 0), (2398, .ifCond .ne 2413, 3, 0), (2401, .aload 3, 1, 0), (2402, .sipush 0, 1, 0), (2403, .laload, 1, 0), (2404, .iload 6, 2, 0), (2406, .i2l, 1, 0), (2407, .lcmp, 1, 0), (2408, .ifCond .eq 2413, 3, 0), (2411, .sipush 0, 1, 0), (2412, .ireturn, 1, 0), (2413, .goto 3162, 3, 0), (2416, .aload 1, 1, 0), (2417, .aload 0, 1, 0), (2418, .iload 4, 2, 0), (2420, .sipush 1, 1, 0), (2421, .iadd, 1, 0), (2422, .iaload, 1, 0), (2423, .aload 3, 1, 0), (2424, .invokestatic 387, 3, 290), (2427, .istore 5, 2, 0), (2429, .aload 2, 1, 0), (2430, .aload 0, 1, 0), (2431, .iload 4, 2, 0), (2433, .sipush 1, 1, 0), (2434, .iadd, 1, 0), (2435, .iaload, 1, 0), (2436, .invokevirtual 335, 3, 292), (2439, .istore 6, 2, 0), (2441, .aload 2, 1, 0), (2442, .invokevirtual 186, 3, 152), (2445, .iload 5, 2, 0), (2447, .if_icmp .eq 2452, 3, 0), (2450, .sipush 0, 1, 0), (2451, .ireturn, 1, 0), (2452, .iload 5, 2, 0), (2454, .ifCond .ne 2469, 3, 0), (2457, .aload 3, 1, 0), (2458, .sipush 0, 1, 0), (2459, .laload, 1, 0), (2460, .iload 6, 2, 0), (2462, .i2l, 1, 0), (2463, .lcmp, 1, 0), (2464, .ifCond .eq 2469, 3, 0), (2467, .sipush 0, 1, 0), (2468, .ireturn, 1, 0), (2469, .goto 3162, 3, 0), (2472, .aload 1, 1, 0), (2473, .aload 0, 1, 0), (2474, .iload 4, 2, 0), (2476, .sipush 1, 1, 0), (2477, .iadd, 1, 0), (2478, .iaload, 1, 0), (2479, .aload 3, 1, 0), (2480, .invokestatic 388, 3, 293), (2483, .istore 5, 2, 0), (2485, .aload 2, 1, 0), (2486, .aload 0, 1, 0), (2487, .iload 4, 2, 0), (2489, .sipush 1, 1, 0), (2490, .iadd, 1, 0), (2491, .iaload, 1, 0), (2492, .invokevirtual 338, 3, 295), (2495, .istore 6, 2, 0), (2497, .aload 2, 1, 0), (2498, .invokevirtual 186, 3, 152), (2501, .iload 5, 2, 0), (2503, .if_icmp .eq 2508, 3, 0), (2506, .sipush 0, 1, 0), (2507, .ireturn, 1, 0), (2508, .iload 5, 2, 0), (2510, .ifCond .ne 2525, 3, 0), (2513, .aload 3, 1, 0), (2514, .sipush 0, 1, 0), (2515, .laload, 1, 0), (2516, .iload 6, 2, 0), (2518, .i2l, 1, 0), (2519, .lcmp, 1, 0), (2520, .ifCond .eq 2525, 3, 0), (2523, .sipush 0, 1, 0)]
def tO_395_12 : List (Nat × av_O) := [(2524, .ireturn, 1, 0), (2525, .goto 3162, 3, 0), (2528, .aload 1, 1, 0), (2529, .aload 0, 1, 0), (2530, .iload 4, 2, 0), (2532, .sipush 1, 1, 0), (2533, .iadd, 1, 0), (2534, .iaload, 1, 0), (2535, .aload 0, 1, 0), (2536, .iload 4, 2, 0), (2538, .sipush 2, 1, 0), (2539, .iadd, 1, 0), (2540, .iaload, 1, 0), (2541, .aload 3, 1, 0), (2542, .invokestatic 389, 3, 296), (2545, .istore 5, 2, 0), (2547, .aload 2, 1, 0), (2548, .aload 0, 1, 0), (2549, .iload 4, 2, 0), (2551, .sipush 1, 1, 0), (2552, .iadd, 1, 0), (2553, .iaload, 1, 0), (2554, .aload 0, 1, 0), (2555, .iload 4, 2, 0), (2557, .sipush 2, 1, 0), (2558, .iadd, 1, 0), (2559, .iaload, 1, 0), (2560, .invokevirtual 339, 3, 298), (2563, .istore 6, 2, 0), (2565, .aload 2, 1, 0), (2566, .invokevirtual 186, 3, 152), (2569, .iload 5, 2, 0), (2571, .if_icmp .eq 2576, 3, 0), (2574, .sipush 0, 1, 0), (2575, .ireturn, 1, 0), (2576, .iload 5, 2, 0), (2578, .ifCond .ne 2593, 3, 0), (2581, .aload 3, 1, 0), (2582, .sipush 0, 1, 0), (2583, .laload, 1, 0), (2584, .iload 6, 2, 0), (2586, .i2l, 1, 0), (2587, .lcmp, 1, 0), (2588, .ifCond .eq 2593, 3, 0), (2591, .sipush 0, 1, 0), (2592, .ireturn, 1, 0), (2593, .goto 3162, 3, 0), (2596, .aload 1, 1, 0), (2597, .invokevirtual 162, 3, 299), (2600, .aload 2, 1, 0), (2601, .invokevirtual 340, 3, 302), (2604, .if_icmp .eq 3162, 3, 0), (2607, .sipush 0, 1, 0), (2608, .ireturn, 1, 0), (2609, .aload 1, 1, 0), (2610, .invokevirtual 163, 3, 303), (2613, .aload 2, 1, 0), (2614, .invokevirtual 341, 3, 306), (2617, .if_icmp .eq 3162, 3, 0), (2620, .sipush 0, 1, 0), (2621, .ireturn, 1, 0), (2622, .aload 1, 1, 0), (2623, .invokevirtual 164, 3, 307), (2626, .aload 2, 1, 0), (2627, .invokevirtual 342, 3, 310), (2630, .if_icmp .eq 3162, 3, 0), (2633, .sipush 0, 1, 0), (2634, .ireturn, 1, 0), (2635, .aload 1, 1, 0), (2636, .invokevirtual 165, 3, 311), (2639, .aload 2, 1, 0), (2640, .invokevirtual 343, 3, 314), (2643, .if_icmp .eq 3162, 3, 0), (2646, .sipush 0, 1, 0), (2647, .ireturn, 1, 0), (2648, .aload 1, 1, 0), (2649, .invokevirtual 166, 3, 315), (2652, .aload 2, 1, 0), (2653, .invokevirtual 344, 3, 318), (2656, .if_icmp .eq 3162, 3, 0), (2659, .sipush 0, 1, 0), (2660, .ireturn, 1, 0), (2661, .aload 1, 1, 0), (2662, .invokevirtual 167, 3, 319), (2665, .aload 2, 1, 0), (2666, .invokevirtual 345, 3, 322), (2669, .if_icmp .eq 3162, 3, 0), (2672, .sipush 0, 1, 0), (2673, .ireturn, 1, 0), (2674, .aload 1, 1, 0), (2675, .invokevirtual 168, 3, 323), (2678, .aload 2, 1, 0), (2679, .invokevirtual 346, 3, 326), (2682, .if_icmp .eq 3162, 3, 0), (2685, .sipush 0, 1, 0), (2686, .ireturn, 1, 0), (2687, .aload 1, 1, 0), (2688, .aload 0, 1, 0), (2689, .iload 4, 2, 0), (2691, .sipush 1, 1, 0), (2692, .iadd, 1, 0), (2693, .iaload, 1, 0), (2694, .aload 0, 1, 0), (2695, .iload 4, 2, 0), (2697, .sipush 2, 1, 0), (2698, .iadd, 1, 0), (2699, .iaload, 1, 0), (2700, .aload 3, 1, 0), (2701, .invokestatic 390, 3, 327), (2704, .istore 5, 2, 0), (2706, .aload 2, 1, 0), (2707, .aload 0, 1, 0), (2708, .iload 4, 2, 0), (2710, .sipush 1, 1, 0), (2711, .iadd, 1, 0), (2712, .iaload, 1, 0), (2713, .aload 0, 1, 0), (2714, .iload 4, 2, 0), (2716, .sipush 2, 1, 0), (2717, .iadd, 1, 0)]
def tO_395_13 : List (Nat × av_O) := [(2718, .iaload, 1, 0), (2719, .invokevirtual 348, 3, 329), (2722, .istore 6, 2, 0), (2724, .aload 2, 1, 0), (2725, .invokevirtual 186, 3, 152), (2728, .iload 5, 2, 0), (2730, .if_icmp .eq 2735, 3, 0), (2733, .sipush 0, 1, 0), (2734, .ireturn, 1, 0), (2735, .iload 5, 2, 0), (2737, .ifCond .ne 2752, 3, 0), (2740, .aload 3, 1, 0), (2741, .sipush 0, 1, 0), (2742, .laload, 1, 0), (2743, .iload 6, 2, 0), (2745, .i2l, 1, 0), (2746, .lcmp, 1, 0), (2747, .ifCond .eq 2752, 3, 0), (2750, .sipush 0, 1, 0), (2751, .ireturn, 1, 0), (2752, .goto 3162, 3, 0), (2755, .aload 1, 1, 0), (2756, .aload 0, 1, 0), (2757, .iload 4, 2, 0), (2759, .sipush 1, 1, 0), (2760, .iadd, 1, 0), (2761, .iaload, 1, 0), (2762, .aload 0, 1, 0), (2763, .iload 4, 2, 0), (2765, .sipush 2, 1, 0), (2766, .iadd, 1, 0), (2767, .iaload, 1, 0), (2768, .ifCond .eq 2775, 3, 0), (2771, .sipush 1, 1, 0), (2772, .goto 2776, 3, 0), (2775, .sipush 0, 1, 0), (2776, .aload 3, 1, 0), (2777, .invokestatic 391, 3, 330), (2780, .istore 5, 2, 0), (2782, .aload 2, 1, 0), (2783, .aload 0, 1, 0), (2784, .iload 4, 2, 0), (2786, .sipush 1, 1, 0), (2787, .iadd, 1, 0), (2788, .iaload, 1, 0), (2789, .aload 0, 1, 0), (2790, .iload 4, 2, 0), (2792, .sipush 2, 1, 0), (2793, .iadd, 1, 0), (2794, .iaload, 1, 0), (2795, .ifCond .eq 2802, 3, 0), (2798, .sipush 1, 1, 0), (2799, .goto 2803, 3, 0), (2802, .sipush 0, 1, 0), (2803, .invokevirtual 349, 3, 332), (2806, .istore 6, 2, 0), (2808, .aload 2, 1, 0), (2809, .invokevirtual 186, 3, 152), (2812, .iload 5, 2, 0), (2814, .if_icmp .eq 2819, 3, 0), (2817, .sipush 0, 1, 0), (2818, .ireturn, 1, 0), (2819, .iload 5, 2, 0), (2821, .ifCond .ne 2836, 3, 0), (2824, .aload 3, 1, 0), (2825, .sipush 0, 1, 0), (2826, .laload, 1, 0), (2827, .iload 6, 2, 0), (2829, .i2l, 1, 0), (2830, .lcmp, 1, 0), (2831, .ifCond .eq 2836, 3, 0), (2834, .sipush 0, 1, 0), (2835, .ireturn, 1, 0), (2836, .goto 3162, 3, 0), (2839, .aload 1, 1, 0), (2840, .aload 0, 1, 0), (2841, .iload 4, 2, 0), (2843, .sipush 1, 1, 0), (2844, .iadd, 1, 0), (2845, .iaload, 1, 0), (2846, .aload 0, 1, 0), (2847, .iload 4, 2, 0), (2849, .sipush 2, 1, 0), (2850, .iadd, 1, 0), (2851, .iaload, 1, 0), (2852, .ifCond .eq 2859, 3, 0), (2855, .sipush 1, 1, 0), (2856, .goto 2860, 3, 0), (2859, .sipush 0, 1, 0), (2860, .aload 3, 1, 0), (2861, .invokestatic 392, 3, 333), (2864, .istore 5, 2, 0), (2866, .aload 2, 1, 0), (2867, .aload 0, 1, 0), (2868, .iload 4, 2, 0), (2870, .sipush 1, 1, 0), (2871, .iadd, 1, 0), (2872, .iaload, 1, 0), (2873, .aload 0, 1, 0), (2874, .iload 4, 2, 0), (2876, .sipush 2, 1, 0), (2877, .iadd, 1, 0), (2878, .iaload, 1, 0), (2879, .ifCond .eq 2886, 3, 0), (2882, .sipush 1, 1, 0), (2883, .goto 2887, 3, 0), (2886, .sipush 0, 1, 0), (2887, .invokevirtual 350, 3, 335), (2890, .istore 6, 2, 0), (2892, .aload 2, 1, 0), (2893, .invokevirtual 186, 3, 152), (2896, .iload 5, 2, 0), (2898, .if_icmp .eq 2903, 3, 0), (2901, .sipush 0, 1, 0), (2902, .ireturn, 1, 0), (2903, .iload 5, 2, 0), (2905, .ifCond .ne 2920, 3, 0), (2908, .aload 3, 1, 0), (2909, .sipush 0, 1, 0), (2910, .laload, 1, 0)]
def tO_395_14 : List (Nat × av_O) := [(2911, .iload 6, 2, 0), (2913, .i2l, 1, 0), (2914, .lcmp, 1, 0), (2915, .ifCond .eq 2920, 3, 0), (2918, .sipush 0, 1, 0), (2919, .ireturn, 1, 0), (2920, .goto 3162, 3, 0), (2923, .aload 1, 1, 0), (2924, .aload 0, 1, 0), (2925, .iload 4, 2, 0), (2927, .sipush 1, 1, 0), (2928, .iadd, 1, 0), (2929, .iaload, 1, 0), (2930, .aload 0, 1, 0), (2931, .iload 4, 2, 0), (2933, .sipush 2, 1, 0), (2934, .iadd, 1, 0), (2935, .iaload, 1, 0), (2936, .ifCond .eq 2943, 3, 0), (2939, .sipush 1, 1, 0), (2940, .goto 2944, 3, 0), (2943, .sipush 0, 1, 0), (2944, .aload 3, 1, 0), (2945, .invokestatic 393, 3, 336), (2948, .istore 5, 2, 0), (2950, .aload 2, 1, 0), (2951, .aload 0, 1, 0), (2952, .iload 4, 2, 0), (2954, .sipush 1, 1, 0), (2955, .iadd, 1, 0), (2956, .iaload, 1, 0), (2957, .aload 0, 1, 0), (2958, .iload 4, 2, 0), (2960, .sipush 2, 1, 0), (2961, .iadd, 1, 0), (2962, .iaload, 1, 0), (2963, .ifCond .eq 2970, 3, 0), (2966, .sipush 1, 1, 0), (2967, .goto 2971, 3, 0), (2970, .sipush 0, 1, 0), (2971, .invokevirtual 352, 3, 338), (2974, .istore 6, 2, 0), (2976, .aload 2, 1, 0), (2977, .invokevirtual 186, 3, 152), (2980, .iload 5, 2, 0), (2982, .if_icmp .eq 2987, 3, 0), (2985, .sipush 0, 1, 0), (2986, .ireturn, 1, 0), (2987, .iload 5, 2, 0), (2989, .ifCond .ne 3004, 3, 0), (2992, .aload 3, 1, 0), (2993, .sipush 0, 1, 0), (2994, .laload, 1, 0), (2995, .iload 6, 2, 0), (2997, .i2l, 1, 0), (2998, .lcmp, 1, 0), (2999, .ifCond .eq 3004, 3, 0), (3002, .sipush 0, 1, 0), (3003, .ireturn, 1, 0), (3004, .goto 3162, 3, 0), (3007, .aload 1, 1, 0), (3008, .aload 0, 1, 0), (3009, .iload 4, 2, 0), (3011, .sipush 1, 1, 0), (3012, .iadd, 1, 0), (3013, .iaload, 1, 0), (3014, .aload 0, 1, 0), (3015, .iload 4, 2, 0), (3017, .sipush 2, 1, 0), (3018, .iadd, 1, 0), (3019, .iaload, 1, 0), (3020, .aload 3, 1, 0), (3021, .invokestatic 394, 3, 339), (3024, .istore 5, 2, 0), (3026, .aload 2, 1, 0), (3027, .aload 0, 1, 0), (3028, .iload 4, 2, 0), (3030, .sipush 1, 1, 0), (3031, .iadd, 1, 0), (3032, .iaload, 1, 0), (3033, .aload 0, 1, 0), (3034, .iload 4, 2, 0), (3036, .sipush 2, 1, 0), (3037, .iadd, 1, 0), (3038, .iaload, 1, 0), (3039, .invokevirtual 353, 3, 341), (3042, .istore 6, 2, 0), (3044, .aload 2, 1, 0), (3045, .invokevirtual 186, 3, 152), (3048, .iload 5, 2, 0), (3050, .if_icmp .eq 3055, 3, 0), (3053, .sipush 0, 1, 0), (3054, .ireturn, 1, 0), (3055, .iload 5, 2, 0), (3057, .ifCond .ne 3072, 3, 0), (3060, .aload 3, 1, 0), (3061, .sipush 0, 1, 0), (3062, .laload, 1, 0), (3063, .iload 6, 2, 0), (3065, .i2l, 1, 0), (3066, .lcmp, 1, 0), (3067, .ifCond .eq 3072, 3, 0), (3070, .sipush 0, 1, 0), (3071, .ireturn, 1, 0), (3072, .goto 3162, 3, 0), (3075, .aload 1, 1, 0), (3076, .aload 0, 1, 0), (3077, .iload 4, 2, 0), (3079, .sipush 1, 1, 0), (3080, .iadd, 1, 0), (3081, .iaload, 1, 0), (3082, .invokevirtual 174, 3, 342), (3085, .aload 2, 1, 0), (3086, .aload 0, 1, 0), (3087, .iload 4, 2, 0), (3089, .sipush 1, 1, 0), (3090, .iadd, 1, 0), (3091, .iaload, 1, 0), (3092, .invokevirtual 354, 3, 345), (3095, .if_icmp .eq 3162, 3, 0)]
def tO_395_15 : List (Nat × av_O) := [(3098, .sipush 0, 1, 0), (3099, .ireturn, 1, 0), (3100, .aload 1, 1, 0), (3101, .invokevirtual 175, 3, 346), (3104, .aload 2, 1, 0), (3105, .invokevirtual 194, 3, 350), (3108, .if_icmp .eq 3162, 3, 0), (3111, .sipush 0, 1, 0), (3112, .ireturn, 1, 0), (3113, .aload 1, 1, 0), (3114, .invokevirtual 176, 3, 351), (3117, .aload 2, 1, 0), (3118, .invokevirtual 191, 3, 354), (3121, .goto 3162, 3, 0), (3124, .aload 1, 1, 0), (3125, .invokevirtual 177, 3, 355), (3128, .aload 2, 1, 0), (3129, .invokevirtual 192, 3, 358), (3132, .if_icmp .eq 3162, 3, 0), (3135, .sipush 0, 1, 0), (3136, .ireturn, 1, 0), (3137, .aload 1, 1, 0), (3138, .aload 0, 1, 0), (3139, .iload 4, 2, 0), (3141, .sipush 1, 1, 0), (3142, .iadd, 1, 0), (3143, .iaload, 1, 0), (3144, .invokevirtual 178, 3, 359), (3147, .aload 2, 1, 0), (3148, .aload 0, 1, 0), (3149, .iload 4, 2, 0), (3151, .sipush 1, 1, 0), (3152, .iadd, 1, 0), (3153, .iaload, 1, 0), (3154, .invokevirtual 355, 3, 362), (3157, .if_icmp .eq 3162, 3, 0), (3160, .sipush 0, 1, 0), (3161, .ireturn, 1, 0), (3162, .iinc 4 6, 3, 0), (3165, .goto 23, 3, 0), (3168, .sipush 1, 1, 0), (3169, .ireturn, 1, 0)]
def tO_395 : List (Nat × av_O) := tO_395_0 ++ (tO_395_1 ++ (tO_395_2 ++ (tO_395_3 ++ (tO_395_4 ++ (tO_395_5 ++ (tO_395_6 ++ (tO_395_7 ++ (tO_395_8 ++ (tO_395_9 ++ (tO_395_10 ++ (tO_395_11 ++ (tO_395_12 ++ (tO_395_13 ++ (tO_395_14 ++ (tO_395_15)))))))))))))))
def tOp : List (List (Nat × av_O)) := [tO_0, tO_1, tO_2, tO_3, tO_4, tO_5, tO_6, tO_7, tO_8, tO_9, tO_10, tO_11, tO_12, tO_13, tO_14, tO_15, tO_16, tO_17, tO_18, tO_19, tO_20, tO_21, tO_22, tO_23, tO_24, tO_25, tO_26, tO_27, tO_28, tO_29, tO_30, tO_31, tO_32, tO_33, tO_34, tO_35, tO_36, tO_37, tO_38, tO_39, tO_40, tO_41, tO_42, tO_43, tO_44, tO_45, tO_46, tO_47, tO_48, tO_49, tO_50, tO_51, tO_52, tO_53, tO_54, tO_55, tO_56, tO_57, tO_58, tO_59, tO_60, tO_61, tO_62, tO_63, tO_64, tO_65, tO_66, tO_67, tO_68, tO_69, tO_70, tO_71, tO_72, tO_73, tO_74, tO_75, tO_76, tO_77, tO_78, tO_79, tO_80, tO_81, tO_82, tO_83, tO_84, tO_85, tO_86, tO_87, tO_88, tO_89, tO_90, tO_91, tO_92, tO_93, tO_94, tO_95, tO_96, tO_97, tO_98, tO_99, tO_100, tO_101, tO_102, tO_103, tO_104, tO_105, tO_106, tO_107, tO_108, tO_109, tO_110, tO_111, tO_112, tO_113, tO_114, tO_115, tO_116, tO_117, tO_118, tO_119, tO_120, tO_121, tO_122, tO_123, tO_124, tO_125, tO_126, tO_127, tO_128, tO_129, tO_130, tO_131, tO_132, tO_133, tO_134, tO_135, tO_136, tO_137, tO_138, tO_139, tO_140, tO_141, tO_142, tO_143, tO_144, tO_145, tO_146, tO_147, tO_148, tO_149, tO_150, tO_151, tO_152, tO_153, tO_154, tO_155, tO_156, tO_157, tO_158, tO_159, tO_160, tO_161, tO_162, tO_163, tO_164, tO_165, tO_166, tO_167, tO_168, tO_169, tO_170, tO_171, tO_172, tO_173, tO_174, tO_175, tO_176, tO_177, tO_178, tO_179, tO_180, tO_181, tO_182, tO_183, tO_184, tO_185, tO_186, tO_187, tO_188, tO_189, tO_190, tO_191, tO_192, tO_193, tO_194, tO_195, tO_196, tO_197, tO_198, tO_199, tO_200, tO_201, tO_202, tO_203, tO_204, tO_205, tO_206, tO_207, tO_208, tO_209, tO_210, tO_211, tO_212, tO_213, tO_214, tO_215, tO_216, tO_217, tO_218, tO_219, tO_220, tO_221, tO_222, tO_223, tO_224, tO_225, tO_226, tO_227, tO_228, tO_229, tO_230, tO_231, tO_232, tO_233, tO_234, tO_235, tO_236, tO_237, tO_238, tO_239, tO_240, tO_241, tO_242, tO_243, tO_244, tO_245, tO_246, tO_247, tO_248, tO_249, tO_250, tO_251, tO_252, tO_253, tO_254, tO_255, tO_256, tO_257, tO_258, tO_259, tO_260, tO_261, tO_262, tO_263, tO_264, tO_265, tO_266, tO_267, tO_268, tO_269, tO_270, tO_271, tO_272, tO_273, tO_274, tO_275, tO_276, tO_277, tO_278, tO_279, tO_280, tO_281, tO_282, tO_283, tO_284, tO_285, tO_286, tO_287, tO_288, tO_289, tO_290, tO_291, tO_292, tO_293, tO_294, tO_295, tO_296, tO_297, tO_298, tO_299, tO_300, tO_301, tO_302, tO_303, tO_304, tO_305, tO_306, tO_307, tO_308, tO_309, tO_310, tO_311, tO_312, tO_313, tO_314, tO_315, tO_316, tO_317, tO_318, tO_319, tO_320, tO_321, tO_322, tO_323, tO_324, tO_325, tO_326, tO_327, tO_328, tO_329, tO_330, tO_331, tO_332, tO_333, tO_334, tO_335, tO_336, tO_337, tO_338, tO_339, tO_340, tO_341, tO_342, tO_343, tO_344, tO_345, tO_346, tO_347, tO_348, tO_349, tO_350, tO_351, tO_352, tO_353, tO_354, tO_355, tO_356, tO_357, tO_358, tO_359, tO_360, tO_361, tO_362, tO_363, tO_364, tO_365, tO_366, tO_367, tO_368, tO_369, tO_370, tO_371, tO_372, tO_373, tO_374, tO_375, tO_376, tO_377, tO_378, tO_379, tO_380, tO_381, tO_382, tO_383, tO_384, tO_385, tO_386, tO_387, tO_388, tO_389, tO_390, tO_391, tO_392, tO_393, tO_394, tO_395]
/-- the program, for a script of nx ints xs -/
def tP (nx : Nat) (xs : Nat → Int32) : av_P := (fun mi pc => (tOp.getD mi []).lookup pc, fun mi => (tAll.getD mi (99, 9, tM0)).2.2, fun ci => tTy.getD ci [], fun k => tTh.getD k "", fun i => tTx.getD i [], nx, xs)
end
section
/-! ===== LAYER 2: reasoning over the abstract machine ===== -/
theorem av_rn_more {P : av_P} : ∀ (n d mi pc : Nat) (L : av_L) (st : List Value) (h : av_H) (c s : Nat) (x : av_R), av_rn P n d mi pc L st h c s = some x → ∀ m, n ≤ m → av_rn P m d mi pc L st h c s = some x
  | 0, _, _, _, _, _, _, _, _, _, hr, _, _ => by simp [av_rn] at hr
  | n + 1, d, mi, pc, L, st, h, c, s, x, hr, 0, hm => by omega
  | n + 1, d, mi, pc, L, st, h, c, s, x, hr, m + 1, hm => by
    have hnm : n ≤ m := by omega
    simp only [av_rn] at hr ⊢
    split at hr
    · cases hr
    · exact av_rn_more n _ _ _ _ _ _ _ _ _ hr m hnm
    · exact hr
    · exact hr
    · split at hr
      · cases hr
      · split at hr
        · cases hr
        · next hc =>
          rw [av_rn_more n _ _ _ _ _ _ _ _ _ hc m hnm]
          exact av_rn_more n _ _ _ _ _ _ _ _ _ hr m hnm
        · next hc =>
          rw [av_rn_more n _ _ _ _ _ _ _ _ _ hc m hnm]
          simp only
          split at hr
          · cases hr
          · next h1 =>
            rw [if_neg h1]
            split at hr
            · next h2 => rw [if_pos h2]; exact hr
            · next h2 =>
              rw [if_neg h2]
              split at hr
              · cases hr
              · next h3 =>
                rw [if_neg h3]
                split at hr
                · cases hr
                · next t ht =>
                  split at hr
                  · next i len ix hop =>
                    split at hr
                    · next hi => simp only [hi, if_true]; exact av_rn_more n _ _ _ _ _ _ _ _ _ hr m hnm
                    · cases hr
                  · cases hr
/-- the run from here ends, and its end is one of Q -/
def AW (P : av_P) (d mi pc : Nat) (L : av_L) (st : List Value) (h : av_H) (c s : Nat) (Q : Option Value ⊕ String → av_H → Nat → Nat → Prop) : Prop := ∃ n o h' c' s', av_rn P n d mi pc L st h c s = some (o, h', c', s') ∧ Q o h' c' s'
section AWS
variable {P : av_P} {d mi pc : Nat} {L : av_L} {st : List Value} {h : av_H} {c s : Nat} {Q : Option Value ⊕ String → av_H → Nat → Nat → Prop}
theorem AW.step {pc' : Nat} {L' : av_L} {st' : List Value} {h' : av_H} {c' s' : Nat} (hs : av_stp P mi pc L st h c s = some (.inl (pc', L', st', h', c', s'))) (k : AW P d mi pc' L' st' h' c' s' Q) : AW P d mi pc L st h c s Q := by
  obtain ⟨n, o, h1, c1, s1, hr, hq⟩ := k
  exact ⟨n + 1, o, h1, c1, s1, by simp only [av_rn, hs]; exact hr, hq⟩
theorem AW.ret {v : Option Value} (hs : av_stp P mi pc L st h c s = some (.inr (.inl v))) (hq : Q (.inl v) h c s) : AW P d mi pc L st h c s Q := ⟨1, .inl v, h, c, s, by simp only [av_rn, hs], hq⟩
theorem AW.thr {E : String} (hs : av_stp P mi pc L st h c s = some (.inr (.inr (.inr E)))) (hq : Q (.inr E) h (c + 1) (s + 6)) : AW P d mi pc L st h c s Q := ⟨1, .inr E, h, c + 1, s + 6, by simp only [av_rn, hs], hq⟩
/-- a call, whatever comes of it -/
theorem AW.call {mj : Nat} {as r : List Value} (hs : av_stp P mi pc L st h c s = some (.inr (.inr (.inl (mj, as, r)))))
    (k : AW P d mj 0 (av_ent P mj as) [] h 0 0 (fun o h' c' s' => match o with
      | .inl v => AW P (d + 1) mi (pc + 3) L (v.toList ++ r) h' (c + c') (s + s') Q
      | .inr E => (av_me P mj).2.2.2.2.2.2.2.2 = true ∧ (((av_me P mi).2.2.2.2.2.1 = [] ∧ Q (.inr E) h' (c + c') (s + s')) ∨ ((av_me P mi).2.2.2.2.2.1 ≠ [] ∧ E ∈ av_es ∧ ∃ t i len ix, av_hnd pc E (av_me P mi).2.2.2.2.2.1 (av_me P mi).2.2.2.2.2.2.1 = some t ∧ av_op P mi t = some (.astore i, len, ix) ∧ i < L.length ∧ AW P (d + 1) mi (t + len) (L.set i none) [] h' (c + c') (s + s') Q)))) :
    AW P (d + 1) mi pc L st h c s Q := by
  obtain ⟨n, o, h1, c1, s1, hr, hq⟩ := k
  rcases o with v | E
  · obtain ⟨n2, o2, h2, c2, s2, hr2, hq2⟩ := hq
    refine ⟨max n n2 + 1, o2, h2, c2, s2, ?_, hq2⟩
    simp only [av_rn, hs, av_rn_more n _ _ _ _ _ _ _ _ _ hr _ (Nat.le_max_left n n2)]
    exact av_rn_more n2 _ _ _ _ _ _ _ _ _ hr2 _ (Nat.le_max_right n n2)
  · obtain ⟨hmt, hq⟩ := hq
    rcases hq with ⟨hh, hq⟩ | ⟨hh, hE, t, i, len, ix, ht, hop, hi, n2, o2, h2, c2, s2, hr2, hq2⟩
    · refine ⟨n + 1, .inr E, h1, c + c1, s + s1, ?_, hq⟩
      simp only [av_rn, hs, hr, hmt, hh]
      simp
    · refine ⟨max n n2 + 1, o2, h2, c2, s2, ?_, hq2⟩
      simp only [av_rn, hs, av_rn_more n _ _ _ _ _ _ _ _ _ hr _ (Nat.le_max_left n n2), hmt, ht, hop, hi]
      simp only [hh, hE, not_true_eq_false, if_false, if_true, Bool.true_eq_false]
      exact av_rn_more n2 _ _ _ _ _ _ _ _ _ hr2 _ (Nat.le_max_right n n2)
/-- some plain instructions -/
def av_go (P : av_P) (mi : Nat) : Nat → av_F → Option av_F
  | 0, F => some F
  | k + 1, (pc, L, st, h, c, s) => match av_stp P mi pc L st h c s with
    | some (.inl F) => av_go P mi k F
    | _ => none
theorem AW.go (k : Nat) {pc' : Nat} {L' : av_L} {st' : List Value} {h' : av_H} {c' s' : Nat} (hg : av_go P mi k (pc, L, st, h, c, s) = some (pc', L', st', h', c', s')) (kk : AW P d mi pc' L' st' h' c' s' Q) : AW P d mi pc L st h c s Q := by
  induction k generalizing pc L st h c s with
  | zero => cases hg; exact kk
  | succ k ih =>
    simp only [av_go] at hg
    split at hg
    · next F hs =>
      obtain ⟨pc1, L1, st1, h1, c1, s1⟩ := F
      exact AW.step hs (ih hg)
    · cases hg
theorem AW.ite {b : Prop} [Decidable b] {p1 p2 : Nat} {L1 L2 : av_L} {t1 t2 : List Value} {h1 h2 : av_H} {c1 c2 s1 s2 : Nat} (hs : av_stp P mi pc L st h c s = if b then some (.inl (p1, L1, t1, h1, c1, s1)) else some (.inl (p2, L2, t2, h2, c2, s2)))
    (k1 : b → AW P d mi p1 L1 t1 h1 c1 s1 Q) (k2 : ¬ b → AW P d mi p2 L2 t2 h2 c2 s2 Q) : AW P d mi pc L st h c s Q := by
  by_cases hb : b
  · exact AW.step (hs.trans (if_pos hb)) (k1 hb)
  · exact AW.step (hs.trans (if_neg hb)) (k2 hb)
theorem AW.mono {Q' : Option Value ⊕ String → av_H → Nat → Nat → Prop} (k : AW P d mi pc L st h c s Q) (hq : ∀ o h c s, Q o h c s → Q' o h c s) : AW P d mi pc L st h c s Q' := by
  obtain ⟨n, o, h1, c1, s1, hr, h9⟩ := k
  exact ⟨n, o, h1, c1, s1, hr, hq _ _ _ _ h9⟩
end AWS
end
section
/-! ===== LAYER 2: weakest preconditions over a typed store. The heap is mk sh D: sh the cells' shapes, D the numbers in them ===== -/
abbrev av_Q : Type := Option Value ⊕ String → av_H → Nat → Nat → Prop
def Wx (P : av_P) (d mi pc : Nat) (L : av_L) (st : List Value) (h : av_H) (c s : Nat) (Q : av_Q) : Prop := ∃ n o h' c' s', av_rn P n d mi pc L st h c s = some (o, h', c', s') ∧ Q o h' c' s'
/-- a cell's shape: an array (kind, length), or an object (class, fields: 0 an int, 1 a pointer kept as a number, 2 null, n + 3 the cell n) -/
abbrev sC : Type := (Nat × Nat) ⊕ (Nat × List Nat)
abbrev sD : Type := Nat → Nat → Int32
def dec (x : Int32) : Value := match x.toNatClampNeg with
  | 0 => .null
  | n + 1 => .ref n
def fdv (x : Int32) (f : Nat) : Value := match f with
  | 0 => .int x
  | 1 => dec x
  | 2 => .null
  | n + 3 => .ref n
def sRf (x : Int32) : Option Nat := match x.toNatClampNeg with
  | 0 => none
  | n + 1 => some n
def cellF (g : Nat → Int32) (s : sC) : va_E := match s with
  | .inl (t, n) => if t = 0 then .inl (0, n, .inl g) else if t = 1 then .inl (1, n, .inl g) else if t = 2 then .inl (2, n, .inr (.inl fun i => (g i).toInt64)) else .inl (t, n, .inr (.inr (.inr (.inr fun i => sRf (g i)))))
  | .inr (ci, fs) => .inr (ci, fs.mapIdx fun k f => fdv (g k) f)
def cell (D : sD) (a : Nat) (s : sC) : va_E := cellF (D a) s
def mk (sh : List sC) (D : sD) : av_H := sh.mapIdx fun a s => cell D a s
def u2 (D : sD) (a k : Nat) (v : Int32) : sD := fun b i => if b = a ∧ i = k then v else D b i
def clr (D : sD) (a : Nat) : sD := fun b i => if b = a then 0 else D b i
def cp2 (D : sD) (a sp b dp n : Nat) : sD := fun e i => if e = b ∧ dp ≤ i ∧ i < dp + n then D a (sp + (i - dp)) else D e i
theorem mk_get (sh : List sC) (D : sD) (a : Nat) : (mk sh D)[a]? = (sh[a]?).map (cell D a) := by simp [mk]
theorem mk_len (sh : List sC) (D : sD) : (mk sh D).length = sh.length := by simp [mk]
theorem mk_set {sh : List sC} {D D' : sD} {a : Nat} {x : sC} (hx : sh[a]? = some x) (hD : ∀ b, b ≠ a → D' b = D b) : (mk sh D).set a (cell D' a x) = mk sh D' := by
  apply List.ext_getElem?
  intro i
  rw [List.getElem?_set, mk_get, mk_get, mk_len]
  by_cases h : a = i
  · subst h
    have hl : a < sh.length := by
      rcases Nat.lt_or_ge a sh.length with h | h
      · exact h
      · rw [List.getElem?_eq_none h] at hx; cases hx
    rw [hx]
    simp only [if_true, hl, Option.map_some]
  · simp only [h, if_false]
    cases hs : sh[i]? with
    | none => simp only [Option.map_none]
    | some y =>
      have e := hD i (fun e => h e.symm)
      simp only [Option.map_some, Option.some.injEq]
      unfold cell
      rw [e]
theorem mk_setS {sh : List sC} {D : sD} {a : Nat} {x : sC} : (mk sh D).set a (cell D a x) = mk (sh.set a x) D := by
  apply List.ext_getElem?
  intro i
  rw [List.getElem?_set, mk_get, mk_get, mk_len, List.getElem?_set]
  by_cases h : a = i
  · subst h
    simp only [if_true]
    split <;> rfl
  · simp only [h, if_false]
theorem mk_app {sh : List sC} {D : sD} {x : sC} : mk sh D ++ [cell (clr D sh.length) sh.length x] = mk (sh ++ [x]) (clr D sh.length) := by
  apply List.ext_getElem?
  intro i
  rcases Nat.lt_trichotomy i sh.length with h | h | h
  · rw [List.getElem?_append_left (by rw [mk_len]; exact h), mk_get, mk_get, List.getElem?_append_left h]
    cases hs : sh[i]? with
    | none => simp only [Option.map_none]
    | some y =>
      have hne : i ≠ sh.length := by omega
      have e : clr D sh.length i = D i := by funext j; simp [clr, hne]
      simp only [Option.map_some, Option.some.injEq]
      unfold cell
      rw [e]
  · subst h
    rw [List.getElem?_append_right (by rw [mk_len]; exact Nat.le_refl _), mk_get, List.getElem?_append_right (Nat.le_refl _)]
    simp [mk_len]
  · rw [List.getElem?_eq_none (by simp [mk_len]; omega), List.getElem?_eq_none (by simp [mk_len]; omega)]
/-! the reading of cells -/
def wi {α : Type} (o : Option α) (f : α → Prop) : Prop := match o with
  | some x => f x
  | none => False
theorem wi_some {α : Type} (x : α) (f : α → Prop) : wi (some x) f = f x := rfl
theorem wi_none {α : Type} (f : α → Prop) : wi none f = False := rfl
theorem wi_congr {α : Type} {o : Option α} {f g : α → Prop} (h : ∀ x, f x = g x) : wi o f = wi o g := by cases o with
  | none => rfl
  | some x => exact h x
theorem and_cong {p q r : Prop} (h : q = r) : (p ∧ q) = (p ∧ r) := by rw [h]
theorem ite_cong {p : Prop} [Decidable p] {a b c d : Prop} (h : a = b) (h2 : c = d) : (if p then a else c) = (if p then b else d) := by rw [h, h2]
def fI (sh : List sC) (D : sD) (a q : Nat) : Option Int32 := match sh[a]? with
  | some (.inr (ci, fs)) => if ci = q / 64 ∧ q % 64 < fs.length then some (D a (q % 64)) else none
  | _ => none
def fR (sh : List sC) (a q : Nat) : Option Nat := match sh[a]? with
  | some (.inr (ci, fs)) => if ci = q / 64 then (match fs[q % 64]? with
    | some (n + 3) => some n
    | _ => none) else none
  | _ => none
def aN (sh : List sC) (t a : Nat) : Option Nat := match sh[a]? with
  | some (.inl (t', n)) => if t' = t then some n else none
  | _ => none
def aI (sh : List sC) (D : sD) (a : Nat) (i : Int32) : Option Int32 := match aN sh 0 a with
  | some n => if av_in i n then some (D a i.toNatClampNeg) else none
  | none => none
def aB (sh : List sC) (D : sD) (a : Nat) (i : Int32) : Option Int32 := match aN sh 1 a with
  | some n => if av_in i n then some (D a i.toNatClampNeg) else none
  | none => none
def aJ (sh : List sC) (D : sD) (a : Nat) (i : Int32) : Option Int64 := match aN sh 2 a with
  | some n => if av_in i n then some (D a i.toNatClampNeg).toInt64 else none
  | none => none
/-- an array's length -/
def aL (sh : List sC) (a : Nat) : Option Nat := match sh[a]? with
  | some (.inl (t, n)) => if t < 4 then some n else none
  | _ => none
def oF (sh : List sC) (a q : Nat) : Bool := match sh[a]? with
  | some (.inr (ci, fs)) => decide (ci = q / 64 ∧ q % 64 < fs.length)
  | _ => false
def oA (sh : List sC) (t a : Nat) (i : Int32) : Bool := match aN sh t a with
  | some n => av_in i n
  | none => false
def isO (sh : List sC) (a ci : Nat) : Bool := match sh[a]? with
  | some (.inr (k, _)) => decide (k = ci)
  | _ => false
def oC (sh : List sC) (a : Nat) (sp : Int32) (b : Nat) (dp n : Int32) : Bool := match aN sh 0 a, aN sh 0 b with
  | some n0, some n1 => decide (¬ sp < 0 ∧ ¬ dp < 0 ∧ ¬ n < 0 ∧ sp.toNatClampNeg + n.toNatClampNeg ≤ n0 ∧ dp.toNatClampNeg + n.toNatClampNeg ≤ n1)
  | _, _ => false
/-- what a field is: 0 an int, 1 the pointer of State.law, 2 another one -/
def qk (q : Nat) : Nat := if q = 398 then 1 else match (tTy.getD (q / 64) [])[q % 64]? with
  | some .int => 0
  | some .boolean => 0
  | some _ => 2
  | none => 3
/-- the shapes are of their classes' types; of Law's fields some may be null yet -/
def WT1 (sh : List sC) : Prop := ∀ (a ci : Nat) (fs : List Nat), sh[a]? = some (Sum.inr (ci, fs)) → ∀ k f, fs[k]? = some f → (qk (ci * 64 + k) = 0 → f = 0) ∧ (qk (ci * 64 + k) = 1 → f = 1) ∧ (qk (ci * 64 + k) = 2 → ci ≠ 0 → 3 ≤ f)
def WT (sh : List sC) : Prop := WT1 sh ∧ ∀ (a : Nat) (fs : List Nat), sh[a]? = some (Sum.inr (0, fs)) → ∀ k f, fs[k]? = some f → qk k = 2 → 3 ≤ f
def jshl (x y : Int32) : Int32 := x <<< (y &&& 31)
def jshr (x y : Int32) : Int32 := x >>> (y &&& 31)
def jushr (x y : Int32) : Int32 := (x.toUInt32 >>> (y.toUInt32 &&& Int32.toUInt32 31)).toInt32
def jrem (x y : Int32) : Int32 := x - x / y * y
def mx (x y : Int32) : Int32 := if x < y then y else x
def mn (x y : Int32) : Int32 := if y < x then y else x
/-! the machine's steps as equations -/
section WXS
variable {P : av_P} {d mi pc : Nat} {L : av_L} {st : List Value} {h : av_H} {c s : Nat} {Q : av_Q}
theorem Wx.step {pc' : Nat} {L' : av_L} {st' : List Value} {h' : av_H} {c' s' : Nat} (hs : av_stp P mi pc L st h c s = some (.inl (pc', L', st', h', c', s'))) : Wx P d mi pc L st h c s Q = Wx P d mi pc' L' st' h' c' s' Q := by
  apply propext
  constructor
  · rintro ⟨n, o, h1, c1, s1, hr, hq⟩
    cases n with
    | zero => simp [av_rn] at hr
    | succ n => simp only [av_rn, hs] at hr; exact ⟨n, o, h1, c1, s1, hr, hq⟩
  · rintro ⟨n, o, h1, c1, s1, hr, hq⟩
    exact ⟨n + 1, o, h1, c1, s1, by simp only [av_rn, hs]; exact hr, hq⟩
theorem Wx.bad (hs : av_stp P mi pc L st h c s = none) : Wx P d mi pc L st h c s Q = False := by
  apply propext
  constructor
  · rintro ⟨n, o, h1, c1, s1, hr, hq⟩
    cases n with
    | zero => simp [av_rn] at hr
    | succ n => simp [av_rn, hs] at hr
  · intro h; exact h.elim
theorem Wx.ret {v : Option Value} (hs : av_stp P mi pc L st h c s = some (.inr (.inl v))) : Wx P d mi pc L st h c s Q = Q (.inl v) h c s := by
  apply propext
  constructor
  · rintro ⟨n, o, h1, c1, s1, hr, hq⟩
    cases n with
    | zero => simp [av_rn] at hr
    | succ n =>
      simp only [av_rn, hs, Option.some.injEq, Prod.mk.injEq] at hr
      obtain ⟨rfl, rfl, rfl, rfl⟩ := hr
      exact hq
  · intro hq; exact ⟨1, .inl v, h, c, s, by simp only [av_rn, hs], hq⟩
theorem Wx.thr {E : String} (hs : av_stp P mi pc L st h c s = some (.inr (.inr (.inr E)))) : Wx P d mi pc L st h c s Q = Q (.inr E) h (c + 1) (s + 6) := by
  apply propext
  constructor
  · rintro ⟨n, o, h1, c1, s1, hr, hq⟩
    cases n with
    | zero => simp [av_rn] at hr
    | succ n =>
      simp only [av_rn, hs, Option.some.injEq, Prod.mk.injEq] at hr
      obtain ⟨rfl, rfl, rfl, rfl⟩ := hr
      exact hq
  · intro hq; exact ⟨1, .inr E, h, c + 1, s + 6, by simp only [av_rn, hs], hq⟩
theorem Wx.go (k : Nat) {pc' : Nat} {L' : av_L} {st' : List Value} {h' : av_H} {c' s' : Nat} (hg : av_go P mi k (pc, L, st, h, c, s) = some (pc', L', st', h', c', s')) : Wx P d mi pc L st h c s Q = Wx P d mi pc' L' st' h' c' s' Q := by
  induction k generalizing pc L st h c s with
  | zero => cases hg; rfl
  | succ k ih =>
    simp only [av_go] at hg
    split at hg
    · next F hs =>
      obtain ⟨pc1, L1, st1, h1, c1, s1⟩ := F
      rw [Wx.step hs]; exact ih hg
    · cases hg
/-- what comes behind a call: of a method that doesn't throw; that may, in one without handlers; in one with handlers -/
def kN (P : av_P) (d mi pc : Nat) (L : av_L) (r : List Value) (c s : Nat) (Q : av_Q) : av_Q := fun o h' c' s' => match o with
  | .inl v => Wx P d mi pc L (v.toList ++ r) h' (c + c') (s + s') Q
  | .inr _ => False
def kT (P : av_P) (d mi pc : Nat) (L : av_L) (r : List Value) (c s : Nat) (Q : av_Q) : av_Q := fun o h' c' s' => match o with
  | .inl v => Wx P d mi pc L (v.toList ++ r) h' (c + c') (s + s') Q
  | .inr E => Q (.inr E) h' (c + c') (s + s')
def kH (P : av_P) (d mi pc : Nat) (L : av_L) (c s : Nat) (Q : av_Q) (E : String) (h' : av_H) (c' s' : Nat) : Prop := E ∈ av_es ∧ (match av_hnd pc E (av_me P mi).2.2.2.2.2.1 (av_me P mi).2.2.2.2.2.2.1 with
  | none => False
  | some t => (match av_op P mi t with
    | some (.astore i, len, _) => i < L.length ∧ Wx P d mi (t + len) (L.set i none) [] h' (c + c') (s + s') Q
    | _ => False))
def kC (P : av_P) (d mi pc : Nat) (L : av_L) (r : List Value) (c s : Nat) (Q : av_Q) : av_Q := fun o h' c' s' => match o with
  | .inl v => Wx P d mi (pc + 3) L (v.toList ++ r) h' (c + c') (s + s') Q
  | .inr E => kH P d mi pc L c s Q E h' c' s'
def kA (P : av_P) (d mi mj pc : Nat) (L : av_L) (r : List Value) (c s : Nat) (Q : av_Q) : av_Q := fun o h' c' s' => match o with
  | .inl v => Wx P d mi (pc + 3) L (v.toList ++ r) h' (c + c') (s + s') Q
  | .inr E => (av_me P mj).2.2.2.2.2.2.2.2 = true ∧ (if (av_me P mi).2.2.2.2.2.1 = [] then Q (.inr E) h' (c + c') (s + s') else kH P d mi pc L c s Q E h' c' s')
theorem Wx.call {mj : Nat} {as r : List Value} (hs : av_stp P mi pc L st h c s = some (.inr (.inr (.inl (mj, as, r))))) : Wx P (d + 1) mi pc L st h c s Q = Wx P d mj 0 (av_ent P mj as) [] h 0 0 (kA P (d + 1) mi mj pc L r c s Q) := by
  apply propext
  constructor
  · rintro ⟨n, o, h1, c1, s1, hr, hq⟩
    cases n with
    | zero => simp [av_rn] at hr
    | succ n =>
      simp only [av_rn, hs] at hr
      split at hr
      · cases hr
      · next v h' c' s' hc => exact ⟨n, .inl v, h', c', s', hc, ⟨n, o, h1, c1, s1, hr, hq⟩⟩
      · next E h' c' s' hc =>
        refine ⟨n, .inr E, h', c', s', hc, ?_⟩
        simp only [kA]
        split at hr
        · cases hr
        · next hf =>
          refine ⟨by simpa using hf, ?_⟩
          split at hr
          · next hh =>
            rw [if_pos hh]
            simp only [Option.some.injEq, Prod.mk.injEq] at hr
            obtain ⟨rfl, rfl, rfl, rfl⟩ := hr
            exact hq
          · next hh =>
            rw [if_neg hh]
            split at hr
            · cases hr
            · next hE =>
              refine ⟨by simpa using hE, ?_⟩
              split at hr
              · cases hr
              · next t ht =>
                rw [ht]
                simp only
                split at hr
                · next i len ix hop =>
                  rw [hop]
                  simp only
                  split at hr
                  · next hi => exact ⟨hi, ⟨n, o, h1, c1, s1, hr, hq⟩⟩
                  · cases hr
                · cases hr
  · rintro ⟨n, o, h1, c1, s1, hr, hq⟩
    rcases o with v | E
    · obtain ⟨n2, o2, h2, c2, s2, hr2, hq2⟩ := hq
      refine ⟨max n n2 + 1, o2, h2, c2, s2, ?_, hq2⟩
      simp only [av_rn, hs, av_rn_more n _ _ _ _ _ _ _ _ _ hr _ (Nat.le_max_left n n2)]
      exact av_rn_more n2 _ _ _ _ _ _ _ _ _ hr2 _ (Nat.le_max_right n n2)
    · obtain ⟨hmt, hq⟩ := hq
      split at hq
      · next hh =>
        refine ⟨n + 1, .inr E, h1, c + c1, s + s1, ?_, hq⟩
        simp only [av_rn, hs, hr, hmt, hh]
        simp
      · next hh =>
        obtain ⟨hE, hq⟩ := hq
        split at hq
        · exact hq.elim
        · next t ht =>
          split at hq
          · next i len ix hop =>
            obtain ⟨hi, n2, o2, h2, c2, s2, hr2, hq2⟩ := hq
            refine ⟨max n n2 + 1, o2, h2, c2, s2, ?_, hq2⟩
            simp only [av_rn, hs, av_rn_more n _ _ _ _ _ _ _ _ _ hr _ (Nat.le_max_left n n2), hmt, ht, hop, hi]
            simp only [hh, hE, not_true_eq_false, if_false, if_true, Bool.true_eq_false]
            exact av_rn_more n2 _ _ _ _ _ _ _ _ _ hr2 _ (Nat.le_max_right n n2)
          · exact hq.elim
theorem Wx.callN {mj : Nat} {as r : List Value} {Lj : av_L} (hs : av_stp P mi pc L st h c s = some (.inr (.inr (.inl (mj, as, r))))) (hf : (av_me P mj).2.2.2.2.2.2.2.2 = false) (hL : av_ent P mj as = Lj) : Wx P (d + 1) mi pc L st h c s Q = Wx P d mj 0 Lj [] h 0 0 (kN P (d + 1) mi (pc + 3) L r c s Q) := by
  rw [Wx.call hs, hL]
  congr 1
  funext o h' c' s'
  cases o with
  | inl v => rfl
  | inr E => simp [kA, kN, hf]
theorem Wx.callT {mj : Nat} {as r : List Value} {Lj : av_L} (hs : av_stp P mi pc L st h c s = some (.inr (.inr (.inl (mj, as, r))))) (hf : (av_me P mj).2.2.2.2.2.2.2.2 = true) (hh : (av_me P mi).2.2.2.2.2.1 = []) (hL : av_ent P mj as = Lj) : Wx P (d + 1) mi pc L st h c s Q = Wx P d mj 0 Lj [] h 0 0 (kT P (d + 1) mi (pc + 3) L r c s Q) := by
  rw [Wx.call hs, hL]
  congr 1
  funext o h' c' s'
  cases o with
  | inl v => rfl
  | inr E => simp [kA, kT, hf, hh]
theorem Wx.callC {mj : Nat} {as r : List Value} {Lj : av_L} (hs : av_stp P mi pc L st h c s = some (.inr (.inr (.inl (mj, as, r))))) (hf : (av_me P mj).2.2.2.2.2.2.2.2 = true) (hh : (av_me P mi).2.2.2.2.2.1 ≠ []) (hL : av_ent P mj as = Lj) : Wx P (d + 1) mi pc L st h c s Q = Wx P d mj 0 Lj [] h 0 0 (kC P (d + 1) mi pc L r c s Q) := by
  rw [Wx.call hs, hL]
  congr 1
  funext o h' c' s'
  cases o with
  | inl v => rfl
  | inr E => simp [kA, kC, hf, hh]
end WXS
end
section
/-! ===== LAYER 2: each instruction over the store ===== -/
theorem cell_obj (D : sD) (a ci : Nat) (fs : List Nat) : cell D a (.inr (ci, fs)) = .inr (ci, fs.mapIdx fun k f => fdv (D a k) f) := rfl
theorem cell_arr (D : sD) (a t n : Nat) : ∃ e, cell D a (.inl (t, n)) = .inl e := by
  unfold cell cellF
  by_cases h0 : t = 0
  · exact ⟨_, by simp only [h0, if_true]; rfl⟩
  · by_cases h1 : t = 1
    · exact ⟨_, by simp only [h1]; rfl⟩
    · by_cases h2 : t = 2
      · exact ⟨_, by simp only [h2]; rfl⟩
      · exact ⟨_, by simp only [h0, h1, h2, if_false]; rfl⟩
theorem cell_a0 (D : sD) (a n : Nat) : cell D a (.inl (0, n)) = .inl (0, n, .inl (D a)) := rfl
theorem cell_a1 (D : sD) (a n : Nat) : cell D a (.inl (1, n)) = .inl (1, n, .inl (D a)) := rfl
theorem cell_a2 (D : sD) (a n : Nat) : cell D a (.inl (2, n)) = .inl (2, n, .inr (.inl fun i => (D a i).toInt64)) := rfl
theorem cell_a3 (D : sD) (a t n : Nat) : cell D a (.inl (t + 3, n)) = .inl (t + 3, n, .inr (.inr (.inr (.inr fun i => sRf (D a i))))) := by
  unfold cell cellF
  have h0 : ¬ t + 3 = 0 := by omega
  have h1 : ¬ t + 3 = 1 := by omega
  have h2 : ¬ t + 3 = 2 := by omega
  simp only [h0, h1, h2, if_false]
theorem dec_eq (x : Int32) : dec x = va_rf (sRf x) := by
  unfold dec sRf
  split <;> rfl
section EVS
variable {P : av_P} {d mi pc len ix : Nat} {L : av_L} {r : List Value} {sh : List sC} {D : sD} {c s : Nat} {Q : av_Q}
theorem fs_of {a q : Nat} {ci : Nat} {fs : List Nat} {f : Nat} (hw : WT1 sh) (hs : sh[a]? = some (Sum.inr (ci, fs))) (hc : ci = q / 64) (hf : fs[q % 64]? = some f) : (qk q = 0 → f = 0) ∧ (qk q = 1 → f = 1) ∧ (qk q = 2 → ci ≠ 0 → 3 ≤ f) := by
  have h := hw a ci fs hs (q % 64) f hf
  rw [hc, Nat.mul_comm, Nat.div_add_mod] at h
  rw [hc]
  exact h
theorem ev_getI {q a : Nat} (hop : av_op P mi pc = some (.getfield q, len, ix)) (hw : WT1 sh) (hk : qk q = 0) : Wx P d mi pc L (.ref a :: r) (mk sh D) c s Q = wi (fI sh D a q) fun x => Wx P d mi (pc + len) L (.int x :: r) (mk sh D) c s Q := by
  unfold fI
  cases hs : sh[a]? with
  | none => exact Wx.bad (by simp [av_stp, hop, av_one, mk_get, hs])
  | some x =>
    obtain ⟨t, n⟩ | ⟨ci, fs⟩ := x
    · obtain ⟨e, he⟩ := cell_arr D a t n
      exact Wx.bad (by simp [av_stp, hop, av_one, mk_get, hs, he])
    · by_cases hc : ci = q / 64
      · cases hf : fs[q % 64]? with
        | none =>
          have hl : ¬ q % 64 < fs.length := fun h => by rw [List.getElem?_eq_getElem h] at hf; cases hf
          simp only [hc, hl, and_false, if_false]
          exact Wx.bad (by simp [av_stp, hop, av_one, mk_get, hs, cell_obj, hc, hf])
        | some f =>
          have hl : q % 64 < fs.length := by
            rcases Nat.lt_or_ge (q % 64) fs.length with h | h
            · exact h
            · rw [List.getElem?_eq_none h] at hf; cases hf
          have e0 := (fs_of hw hs hc hf).1 hk
          subst e0
          simp only [hc, hl, and_self, if_true, wi]
          exact Wx.step (by simp [av_stp, hop, av_one, mk_get, hs, cell_obj, hc, hf, fdv])
      · simp only [hc, false_and, if_false]
        exact Wx.bad (by simp [av_stp, hop, av_one, mk_get, hs, cell_obj, hc])
theorem ev_getR {q a : Nat} (hop : av_op P mi pc = some (.getfield q, len, ix)) (hk : qk q = 2) (hw : if q / 64 = 0 then WT sh else WT1 sh) : Wx P d mi pc L (.ref a :: r) (mk sh D) c s Q = wi (fR sh a q) fun x => Wx P d mi (pc + len) L (.ref x :: r) (mk sh D) c s Q := by
  unfold fR
  cases hs : sh[a]? with
  | none => exact Wx.bad (by simp [av_stp, hop, av_one, mk_get, hs])
  | some x =>
    obtain ⟨t, n⟩ | ⟨ci, fs⟩ := x
    · obtain ⟨e, he⟩ := cell_arr D a t n
      exact Wx.bad (by simp [av_stp, hop, av_one, mk_get, hs, he])
    · by_cases hc : ci = q / 64
      · cases hf : fs[q % 64]? with
        | none =>
          simp only [hc, if_true, hf]
          exact Wx.bad (by simp [av_stp, hop, av_one, mk_get, hs, cell_obj, hc, hf])
        | some f =>
          have h3 : 3 ≤ f := by
            by_cases h0 : q / 64 = 0
            · rw [if_pos h0] at hw
              have hq : q % 64 = q := by omega
              rw [hc, h0] at hs
              rw [hq] at hf
              exact hw.2 a fs hs q f hf hk
            · rw [if_neg h0] at hw
              exact (fs_of hw hs hc hf).2.2 hk (by rw [hc]; exact h0)
          obtain ⟨n, rfl⟩ : ∃ n, f = n + 3 := ⟨f - 3, by omega⟩
          simp only [hc, if_true, hf, wi]
          exact Wx.step (by simp [av_stp, hop, av_one, mk_get, hs, cell_obj, hc, hf, fdv])
      · simp only [hc, if_false]
        exact Wx.bad (by simp [av_stp, hop, av_one, mk_get, hs, cell_obj, hc])
/-- the pointer of State.law: looked at -/
theorem ev_nnl {a : Nat} {t : Int} {len2 ix2 : Nat} (hop : av_op P mi pc = some (.getfield 398, len, ix)) (hop2 : av_op P mi (pc + len) = some (.ifnonnull t, len2, ix2)) (hw : WT1 sh) : Wx P d mi pc L (.ref a :: r) (mk sh D) c s Q = wi (fI sh D a 398) fun x => if x.toNatClampNeg = 0 then Wx P d mi (pc + len + len2) L r (mk sh D) c s Q else Wx P d mi t.toNat L r (mk sh D) c s Q := by
  unfold fI
  cases hs : sh[a]? with
  | none => exact Wx.bad (by simp [av_stp, hop, av_one, mk_get, hs])
  | some x =>
    obtain ⟨t', n⟩ | ⟨ci, fs⟩ := x
    · obtain ⟨e, he⟩ := cell_arr D a t' n
      exact Wx.bad (by simp [av_stp, hop, av_one, mk_get, hs, he])
    · by_cases hc : ci = 398 / 64
      · cases hf : fs[398 % 64]? with
        | none =>
          have hl : ¬ 398 % 64 < fs.length := fun h => by rw [List.getElem?_eq_getElem h] at hf; cases hf
          simp only [hc, hl, and_false, if_false]
          exact Wx.bad (by simp at hf; simp [av_stp, hop, av_one, mk_get, hs, cell_obj, hc, hf])
        | some f =>
          have hl : 398 % 64 < fs.length := by
            rcases Nat.lt_or_ge (398 % 64) fs.length with h | h
            · exact h
            · rw [List.getElem?_eq_none h] at hf; cases hf
          have e0 := (fs_of hw hs hc hf).2.1 rfl
          subst e0
          simp only [hc, hl, and_self, if_true, wi]
          rw [Wx.step (pc' := pc + len) (L' := L) (st' := dec (D a 14) :: r) (h' := mk sh D) (c' := c) (s' := s) (by simp at hf; simp [av_stp, hop, av_one, mk_get, hs, cell_obj, hc, hf, fdv])]
          cases hx : (D a 14).toNatClampNeg with
          | zero =>
            have hd : dec (D a 14) = .null := by unfold dec; rw [hx]
            rw [hd]
            simp only [Nat.reduceMod, hx, if_true]
            exact Wx.step (by simp [av_stp, hop2, av_one])
          | succ m =>
            have hd : dec (D a 14) = .ref m := by unfold dec; rw [hx]
            rw [hd]
            simp only [Nat.reduceMod, hx, Nat.succ_ne_zero, if_false]
            exact Wx.step (by simp [av_stp, hop2, av_one, av_goto])
      · simp only [hc, false_and, if_false]
        exact Wx.bad (by simp [av_stp, hop, av_one, mk_get, hs, cell_obj]; intro h; exact absurd h hc)
theorem ev_getP {a p : Nat} (hop : av_op P mi pc = some (.getfield 398, len, ix)) (hw : WT1 sh) (hp : sRf (D a 14) = some p) : Wx P d mi pc L (.ref a :: r) (mk sh D) c s Q = (oF sh a 398 = true ∧ Wx P d mi (pc + len) L (.ref p :: r) (mk sh D) c s Q) := by
  unfold oF
  cases hs : sh[a]? with
  | none => simp only [Bool.false_eq_true, false_and]; exact Wx.bad (by simp [av_stp, hop, av_one, mk_get, hs])
  | some x =>
    obtain ⟨t', n⟩ | ⟨ci, fs⟩ := x
    · obtain ⟨e, he⟩ := cell_arr D a t' n
      simp only [Bool.false_eq_true, false_and]
      exact Wx.bad (by simp [av_stp, hop, av_one, mk_get, hs, he])
    · by_cases hc : ci = 398 / 64
      · cases hf : fs[398 % 64]? with
        | none =>
          have hl : ¬ 398 % 64 < fs.length := fun h => by rw [List.getElem?_eq_getElem h] at hf; cases hf
          simp only [hc, hl, and_false, decide_false, Bool.false_eq_true, false_and]
          exact Wx.bad (by simp at hf; simp [av_stp, hop, av_one, mk_get, hs, cell_obj, hc, hf])
        | some f =>
          have hl : 398 % 64 < fs.length := by
            rcases Nat.lt_or_ge (398 % 64) fs.length with h | h
            · exact h
            · rw [List.getElem?_eq_none h] at hf; cases hf
          have e0 := (fs_of hw hs hc hf).2.1 rfl
          subst e0
          simp only [hc, hl, and_self, decide_true, true_and]
          have hd : dec (D a 14) = .ref p := by rw [dec_eq, hp]; rfl
          exact Wx.step (by simp at hf; simp [av_stp, hop, av_one, mk_get, hs, cell_obj, hc, hf, fdv, hd])
      · simp only [hc, false_and, decide_false, Bool.false_eq_true]
        exact Wx.bad (by simp [av_stp, hop, av_one, mk_get, hs, cell_obj]; intro h; exact absurd h hc)
theorem ev_put {q a : Nat} {v : Int32} (hop : av_op P mi pc = some (.putfield q, len, ix)) (hw : WT1 sh) (hk : qk q = 0) (hfit : ∀ ci, av_fit ((av_ty P ci).getD (q % 64) .float) (.int v) = true ∨ ci ≠ q / 64) : Wx P d mi pc L (.int v :: .ref a :: r) (mk sh D) c s Q = (oF sh a q = true ∧ Wx P d mi (pc + len) L r (mk sh (u2 D a (q % 64) v)) c s Q) := by
  unfold oF
  cases hs : sh[a]? with
  | none => simp only [Bool.false_eq_true, false_and]; exact Wx.bad (by simp [av_stp, hop, av_one, mk_get, hs])
  | some x =>
    obtain ⟨t', n⟩ | ⟨ci, fs⟩ := x
    · obtain ⟨e, he⟩ := cell_arr D a t' n
      simp only [Bool.false_eq_true, false_and]
      exact Wx.bad (by simp [av_stp, hop, av_one, mk_get, hs, he])
    · by_cases hc : ci = q / 64
      · by_cases hl : q % 64 < fs.length
        · have hf : fs[q % 64]? = some (fs[q % 64]) := List.getElem?_eq_getElem hl
          have e0 := (fs_of hw hs hc hf).1 hk
          rw [e0] at hf
          have hft : av_fit ((av_ty P ci).getD (q % 64) .float) (.int v) = true := by
            rcases hfit ci with h | h
            · exact h
            · exact absurd hc h
          simp only [hc, hl, and_self, decide_true, true_and]
          rw [← mk_set (D := D) (D' := u2 D a (q % 64) v) hs (by intro b hb; funext i; simp [u2, hb])]
          have hcell : cell (u2 D a (q % 64) v) a (.inr (ci, fs)) = .inr (ci, (fs.mapIdx fun k f => fdv (D a k) f).set (q % 64) (.int v)) := by
            rw [cell_obj]
            congr 2
            apply List.ext_getElem?
            intro i
            rw [List.getElem?_set, List.getElem?_mapIdx, List.getElem?_mapIdx, List.length_mapIdx]
            by_cases hi : q % 64 = i
            · subst hi
              simp only [hf, u2, fdv, hl, Option.map_some, and_self, if_true]
            · simp only [hi, if_false]
              have : ¬ i = q % 64 := fun e => hi e.symm
              simp [u2, this]
          rw [hcell]
          exact Wx.step (by simp [av_stp, hop, av_one, mk_get, hs, cell_obj, hc, hl]; rw [hc] at hft; simpa using hft)
        · simp only [hc, hl, and_false, decide_false, Bool.false_eq_true, false_and]
          exact Wx.bad (by simp [av_stp, hop, av_one, mk_get, hs, cell_obj, hc]; intro h; omega)
      · simp only [hc, false_and, decide_false, Bool.false_eq_true]
        exact Wx.bad (by simp [av_stp, hop, av_one, mk_get, hs, cell_obj, hc])
theorem ev_putI {q a : Nat} {v : Int32} (hop : av_op P mi pc = some (.putfield q, len, ix)) (hw : WT1 sh) (hk : qk q = 0) (hty : (av_ty P (q / 64)).getD (q % 64) .float = .int) : Wx P d mi pc L (.int v :: .ref a :: r) (mk sh D) c s Q = (oF sh a q = true ∧ Wx P d mi (pc + len) L r (mk sh (u2 D a (q % 64) v)) c s Q) := ev_put hop hw hk (fun ci => by
  by_cases h : ci = q / 64
  · left; rw [h, hty]; rfl
  · right; exact h)
theorem ev_putZ {q a : Nat} {v : Int32} (hop : av_op P mi pc = some (.putfield q, len, ix)) (hw : WT1 sh) (hk : qk q = 0) (hty : (av_ty P (q / 64)).getD (q % 64) .float = .boolean) : Wx P d mi pc L (.int v :: .ref a :: r) (mk sh D) c s Q = ((v = 0 ∨ v = 1) ∧ oF sh a q = true ∧ Wx P d mi (pc + len) L r (mk sh (u2 D a (q % 64) v)) c s Q) := by
  by_cases hv : v = 0 ∨ v = 1
  · rw [ev_put hop hw hk (fun ci => by
      by_cases h : ci = q / 64
      · left; rw [h, hty]; simpa [av_fit] using hv
      · right; exact h)]
    simp [hv]
  · simp only [hv, false_and]
    apply Wx.bad
    cases hs : sh[a]? with
    | none => simp [av_stp, hop, av_one, mk_get, hs]
    | some x =>
      obtain ⟨t', n⟩ | ⟨ci, fs⟩ := x
      · obtain ⟨e, he⟩ := cell_arr D a t' n
        simp [av_stp, hop, av_one, mk_get, hs, he]
      · simp only [av_stp, hop, av_one, mk_get, hs, cell_obj, Option.map_some]
        by_cases hc : ci = q / 64
        · rw [hc, hty]
          have : av_fit .boolean (.int v) = false := by
            simp only [not_or] at hv
            simp [av_fit, hv.1, hv.2]
          simp [this]
        · simp [hc]
/-- the pointer of State.law: another's -/
theorem ev_cpP {a b : Nat} {len2 ix2 : Nat} (hop : av_op P mi pc = some (.getfield 398, len, ix)) (hop2 : av_op P mi (pc + len) = some (.putfield 398, len2, ix2)) (hw : WT1 sh) (hty : (av_ty P 6).getD 14 .float = .object "SinglesPast$Law") : Wx P d mi pc L (.ref b :: .ref a :: r) (mk sh D) c s Q = (oF sh b 398 = true ∧ oF sh a 398 = true ∧ Wx P d mi (pc + len + len2) L r (mk sh (u2 D a 14 (D b 14))) c s Q) := by
  have hgen : ∀ v : Int32, Wx P d mi (pc + len) L (dec v :: .ref a :: r) (mk sh D) c s Q = (oF sh a 398 = true ∧ Wx P d mi (pc + len + len2) L r (mk sh (u2 D a 14 v)) c s Q) := by
    intro v
    unfold oF
    cases hs : sh[a]? with
    | none => simp only [Bool.false_eq_true, false_and]; exact Wx.bad (by simp [av_stp, hop2, av_one, mk_get, hs])
    | some x =>
      obtain ⟨t', n⟩ | ⟨ci, fs⟩ := x
      · obtain ⟨e, he⟩ := cell_arr D a t' n
        simp only [Bool.false_eq_true, false_and]
        exact Wx.bad (by simp [av_stp, hop2, av_one, mk_get, hs, he])
      · by_cases hc : ci = 398 / 64
        · by_cases hl : 398 % 64 < fs.length
          · have hf : fs[398 % 64]? = some (fs[398 % 64]) := List.getElem?_eq_getElem hl
            have e0 := (fs_of hw hs hc hf).2.1 rfl
            rw [e0] at hf
            simp only [hc, hl, and_self, decide_true, true_and]
            rw [← mk_set (D := D) (D' := u2 D a 14 v) hs (by intro b hb; funext i; simp [u2, hb])]
            have hcell : cell (u2 D a 14 v) a (.inr (ci, fs)) = .inr (ci, (fs.mapIdx fun k f => fdv (D a k) f).set 14 (dec v)) := by
              rw [cell_obj]
              congr 2
              apply List.ext_getElem?
              intro i
              rw [List.getElem?_set, List.getElem?_mapIdx, List.getElem?_mapIdx, List.length_mapIdx]
              by_cases hi : 14 = i
              · subst hi
                simp at hf hl
                simp only [hf, u2, fdv, hl, Option.map_some, and_self, if_true]
              · simp only [hi, if_false]
                have : ¬ i = 14 := fun e => hi e.symm
                simp [u2, this]
            rw [hcell]
            have hft : av_fit ((av_ty P 6).getD 14 .float) (dec v) = true := by
              rw [hty]
              unfold dec
              split <;> rfl
            exact Wx.step (by simp at hl; simp [av_stp, hop2, av_one, mk_get, hs, cell_obj, hc, hl]; simpa using hft)
          · simp only [hc, hl, and_false, decide_false, Bool.false_eq_true, false_and]
            exact Wx.bad (by simp at hl; simp [av_stp, hop2, av_one, mk_get, hs, cell_obj, hc]; intro h; omega)
        · simp only [hc, false_and, decide_false, Bool.false_eq_true]
          exact Wx.bad (by simp [av_stp, hop2, av_one, mk_get, hs, cell_obj]; intro h; exact absurd h hc)
  rw [← hgen]
  unfold oF
  cases hs : sh[b]? with
  | none => simp only [Bool.false_eq_true, false_and]; exact Wx.bad (by simp [av_stp, hop, av_one, mk_get, hs])
  | some x =>
    obtain ⟨t', n⟩ | ⟨ci, fs⟩ := x
    · obtain ⟨e, he⟩ := cell_arr D b t' n
      simp only [Bool.false_eq_true, false_and]
      exact Wx.bad (by simp [av_stp, hop, av_one, mk_get, hs, he])
    · by_cases hc : ci = 398 / 64
      · cases hf : fs[398 % 64]? with
        | none =>
          have hl : ¬ 398 % 64 < fs.length := fun h => by rw [List.getElem?_eq_getElem h] at hf; cases hf
          simp only [hc, hl, and_false, decide_false, Bool.false_eq_true, false_and]
          exact Wx.bad (by simp at hf; simp [av_stp, hop, av_one, mk_get, hs, cell_obj, hc, hf])
        | some f =>
          have hl : 398 % 64 < fs.length := by
            rcases Nat.lt_or_ge (398 % 64) fs.length with h | h
            · exact h
            · rw [List.getElem?_eq_none h] at hf; cases hf
          have e0 := (fs_of hw hs hc hf).2.1 rfl
          subst e0
          simp only [hc, hl, and_self, decide_true, true_and]
          exact Wx.step (by simp at hf; simp [av_stp, hop, av_one, mk_get, hs, cell_obj, hc, hf, fdv])
      · simp only [hc, false_and, decide_false, Bool.false_eq_true]
        exact Wx.bad (by simp [av_stp, hop, av_one, mk_get, hs, cell_obj]; intro h; exact absurd h hc)
theorem ev_putP {a p : Nat} (hop : av_op P mi pc = some (.putfield 398, len, ix)) (hw : WT1 sh) (hty : (av_ty P 6).getD 14 .float = .object "SinglesPast$Law") (hp : p + 1 < 2147483648) : Wx P d mi pc L (.ref p :: .ref a :: r) (mk sh D) c s Q = (oF sh a 398 = true ∧ Wx P d mi (pc + len) L r (mk sh (u2 D a 14 (Int32.ofNat (p + 1)))) c s Q) := by
  have hd : dec (Int32.ofNat (p + 1)) = .ref p := by
    unfold dec
    rw [Int32.toNatClampNeg_ofNat_of_lt (by simpa using hp)]
  unfold oF
  cases hs : sh[a]? with
  | none => simp only [Bool.false_eq_true, false_and]; exact Wx.bad (by simp [av_stp, hop, av_one, mk_get, hs])
  | some x =>
    obtain ⟨t', n⟩ | ⟨ci, fs⟩ := x
    · obtain ⟨e, he⟩ := cell_arr D a t' n
      simp only [Bool.false_eq_true, false_and]
      exact Wx.bad (by simp [av_stp, hop, av_one, mk_get, hs, he])
    · by_cases hc : ci = 398 / 64
      · by_cases hl : 398 % 64 < fs.length
        · have hf : fs[398 % 64]? = some (fs[398 % 64]) := List.getElem?_eq_getElem hl
          have e0 := (fs_of hw hs hc hf).2.1 rfl
          rw [e0] at hf
          simp only [hc, hl, and_self, decide_true, true_and]
          rw [← mk_set (D := D) (D' := u2 D a 14 (Int32.ofNat (p + 1))) hs (by intro b hb; funext i; simp [u2, hb])]
          have hcell : cell (u2 D a 14 (Int32.ofNat (p + 1))) a (.inr (ci, fs)) = .inr (ci, (fs.mapIdx fun k f => fdv (D a k) f).set 14 (.ref p)) := by
            rw [cell_obj]
            congr 2
            apply List.ext_getElem?
            intro i
            rw [List.getElem?_set, List.getElem?_mapIdx, List.getElem?_mapIdx, List.length_mapIdx]
            by_cases hi : 14 = i
            · subst hi
              simp at hf hl
              simp only [hf, u2, fdv, hl, Option.map_some, and_self, if_true, hd]
            · simp only [hi, if_false]
              have : ¬ i = 14 := fun e => hi e.symm
              simp [u2, this]
          rw [hcell]
          exact Wx.step (by simp at hl hty; simp [av_stp, hop, av_one, mk_get, hs, cell_obj, hc, hl, hty, av_fit])
        · simp only [hc, hl, and_false, decide_false, Bool.false_eq_true, false_and]
          exact Wx.bad (by simp at hl; simp [av_stp, hop, av_one, mk_get, hs, cell_obj, hc]; intro h; omega)
      · simp only [hc, false_and, decide_false, Bool.false_eq_true]
        exact Wx.bad (by simp [av_stp, hop, av_one, mk_get, hs, cell_obj]; intro h; exact absurd h hc)
theorem ev_ial {a : Nat} {i : Int32} (hop : av_op P mi pc = some (.iaload, len, ix)) : Wx P d mi pc L (.int i :: .ref a :: r) (mk sh D) c s Q = wi (aI sh D a i) fun x => Wx P d mi (pc + len) L (.int x :: r) (mk sh D) c s Q := by
  unfold aI aN
  cases hs : sh[a]? with
  | none => exact Wx.bad (by simp [av_stp, hop, av_one, mk_get, hs, av_iaload])
  | some x =>
    obtain ⟨t, n⟩ | ⟨ci, fs⟩ := x
    · obtain _ | _ | _ | t := t
      · simp only [if_true]
        by_cases hi : av_in i n = true
        · simp only [hi, if_true, wi]
          exact Wx.step (by simp [av_stp, hop, av_one, mk_get, hs, av_iaload, cell_a0, hi])
        · simp only [hi, if_false, wi]
          exact Wx.bad (by simp [av_stp, hop, av_one, mk_get, hs, av_iaload, cell_a0, hi])
      · exact (Wx.bad (by simp [av_stp, hop, av_one, mk_get, hs, av_iaload, cell_a1])).trans (by simp [wi])
      · exact (Wx.bad (by simp [av_stp, hop, av_one, mk_get, hs, av_iaload, cell_a2])).trans (by simp [wi])
      · exact (Wx.bad (by simp [av_stp, hop, av_one, mk_get, hs, av_iaload, cell_a3])).trans (by simp [wi])
    · exact Wx.bad (by simp [av_stp, hop, av_one, mk_get, hs, av_iaload, cell_obj])
theorem ev_bal {a : Nat} {i : Int32} (hop : av_op P mi pc = some (.baload, len, ix)) : Wx P d mi pc L (.int i :: .ref a :: r) (mk sh D) c s Q = wi (aB sh D a i) fun x => Wx P d mi (pc + len) L (.int x :: r) (mk sh D) c s Q := by
  unfold aB aN
  cases hs : sh[a]? with
  | none => exact Wx.bad (by simp [av_stp, hop, av_one, mk_get, hs])
  | some x =>
    obtain ⟨t, n⟩ | ⟨ci, fs⟩ := x
    · obtain _ | _ | _ | t := t
      · exact (Wx.bad (by simp [av_stp, hop, av_one, mk_get, hs, cell_a0])).trans (by simp [wi])
      · simp only [Nat.zero_add, if_true]
        by_cases hi : av_in i n = true
        · simp only [hi, if_true, wi]
          exact Wx.step (by simp [av_stp, hop, av_one, mk_get, hs, cell_a1, hi])
        · simp only [hi, if_false, wi]
          exact Wx.bad (by simp [av_stp, hop, av_one, mk_get, hs, cell_a1, hi])
      · exact (Wx.bad (by simp [av_stp, hop, av_one, mk_get, hs, cell_a2])).trans (by simp [wi])
      · exact (Wx.bad (by simp [av_stp, hop, av_one, mk_get, hs, cell_a3])).trans (by simp [wi])
    · exact Wx.bad (by simp [av_stp, hop, av_one, mk_get, hs, cell_obj])
theorem ev_jal {a : Nat} {i : Int32} (hop : av_op P mi pc = some (.laload, len, ix)) : Wx P d mi pc L (.int i :: .ref a :: r) (mk sh D) c s Q = wi (aJ sh D a i) fun x => Wx P d mi (pc + len) L (.long x :: r) (mk sh D) c s Q := by
  unfold aJ aN
  cases hs : sh[a]? with
  | none => exact Wx.bad (by simp [av_stp, hop, av_one, mk_get, hs])
  | some x =>
    obtain ⟨t, n⟩ | ⟨ci, fs⟩ := x
    · obtain _ | _ | _ | t := t
      · exact (Wx.bad (by simp [av_stp, hop, av_one, mk_get, hs, cell_a0])).trans (by simp [wi])
      · exact (Wx.bad (by simp [av_stp, hop, av_one, mk_get, hs, cell_a1])).trans (by simp [wi])
      · simp only [Nat.zero_add, if_true]
        by_cases hi : av_in i n = true
        · simp only [hi, if_true, wi]
          exact Wx.step (by simp [av_stp, hop, av_one, mk_get, hs, cell_a2, hi])
        · simp only [hi, if_false, wi]
          exact Wx.bad (by simp [av_stp, hop, av_one, mk_get, hs, cell_a2, hi])
      · exact (Wx.bad (by simp [av_stp, hop, av_one, mk_get, hs, cell_a3])).trans (by simp [wi])
    · exact Wx.bad (by simp [av_stp, hop, av_one, mk_get, hs, cell_obj])
end EVS
end
section
/-! ===== LAYER 2: each instruction over the store (2) ===== -/
section EVT
variable {P : av_P} {d mi pc len ix : Nat} {L : av_L} {r : List Value} {sh : List sC} {D : sD} {c s : Nat} {Q : av_Q}
theorem ev_aal {a p : Nat} {i : Int32} (hop : av_op P mi pc = some (.aaload, len, ix)) (hp : sRf (D a i.toNatClampNeg) = some p) : Wx P d mi pc L (.int i :: .ref a :: r) (mk sh D) c s Q = (oA sh 3 a i = true ∧ Wx P d mi (pc + len) L (.ref p :: r) (mk sh D) c s Q) := by
  unfold oA aN
  cases hs : sh[a]? with
  | none => exact (Wx.bad (by simp [av_stp, hop, av_one, mk_get, hs])).trans (by simp)
  | some x =>
    obtain ⟨t, n⟩ | ⟨ci, fs⟩ := x
    · obtain _ | _ | _ | t := t
      · exact (Wx.bad (by simp [av_stp, hop, av_one, mk_get, hs, cell_a0])).trans (by simp)
      · exact (Wx.bad (by simp [av_stp, hop, av_one, mk_get, hs, cell_a1])).trans (by simp)
      · exact (Wx.bad (by simp [av_stp, hop, av_one, mk_get, hs, cell_a2])).trans (by simp)
      · by_cases ht : t = 0
        · subst ht
          simp only [Nat.zero_add, if_true]
          by_cases hi : av_in i n = true
          · simp only [hi, true_and]
            exact Wx.step (by simp [av_stp, hop, av_one, mk_get, hs, cell_a3, hi, hp, va_rf])
          · simp only [hi, false_and]
            exact (Wx.bad (by simp [av_stp, hop, av_one, mk_get, hs, cell_a3, hi])).trans (by simp)
        · have h3 : ¬ t + 3 = 3 := by omega
          exact (Wx.bad (by simp [av_stp, hop, av_one, mk_get, hs, cell_a3]; split <;> simp_all)).trans (by simp [h3])
    · exact (Wx.bad (by simp [av_stp, hop, av_one, mk_get, hs, cell_obj])).trans (by simp)
theorem ev_alen {a : Nat} (hop : av_op P mi pc = some (.arraylength, len, ix)) : Wx P d mi pc L (.ref a :: r) (mk sh D) c s Q = wi (aL sh a) fun n => Wx P d mi (pc + len) L (.int (Int32.ofNat n) :: r) (mk sh D) c s Q := by
  unfold aL
  cases hs : sh[a]? with
  | none => exact Wx.bad (by simp [av_stp, hop, av_one, mk_get, hs, av_alen])
  | some x =>
    obtain ⟨t, n⟩ | ⟨ci, fs⟩ := x
    · simp only
      obtain _ | _ | _ | t := t
      · simp only [wi]; exact Wx.step (by simp [av_stp, hop, av_one, mk_get, hs, av_alen, cell_a0])
      · simp only [wi]; exact Wx.step (by simp [av_stp, hop, av_one, mk_get, hs, av_alen, cell_a1])
      · simp only [wi]; exact Wx.step (by simp [av_stp, hop, av_one, mk_get, hs, av_alen, cell_a2])
      · by_cases ht : t + 3 < 4
        · simp only [ht, if_true, wi]
          exact Wx.step (by simp only [av_stp, hop, av_one, mk_get, hs, av_alen, cell_a3, Option.map_some]; rw [if_pos ht])
        · simp only [ht, if_false, wi]
          exact Wx.bad (by simp only [av_stp, hop, av_one, mk_get, hs, av_alen, cell_a3, Option.map_some]; rw [if_neg ht])
    · exact Wx.bad (by simp [av_stp, hop, av_one, mk_get, hs, av_alen, cell_obj])
theorem ev_ias {a : Nat} {i v : Int32} (hop : av_op P mi pc = some (.iastore, len, ix)) : Wx P d mi pc L (.int v :: .int i :: .ref a :: r) (mk sh D) c s Q = (oA sh 0 a i = true ∧ Wx P d mi (pc + len) L r (mk sh (u2 D a i.toNatClampNeg v)) c s Q) := by
  unfold oA aN
  cases hs : sh[a]? with
  | none => exact (Wx.bad (by simp [av_stp, hop, av_one, mk_get, hs])).trans (by simp)
  | some x =>
    obtain ⟨t, n⟩ | ⟨ci, fs⟩ := x
    · obtain _ | _ | _ | t := t
      · simp only [if_true]
        by_cases hi : av_in i n = true
        · simp only [hi, true_and]
          rw [← mk_set (D := D) (D' := u2 D a i.toNatClampNeg v) hs (by intro b hb; funext i; simp [u2, hb])]
          have hcell : cell (u2 D a i.toNatClampNeg v) a (.inl (0, n)) = .inl (0, n, .inl (upd (D a) i.toNatClampNeg v)) := by
            have hfun : ∀ w, u2 D a i.toNatClampNeg w a = upd (D a) i.toNatClampNeg w := fun w => by funext j; simp [u2, upd]
            first | rw [cell_a0, hfun] | rw [cell_a1, hfun]
          try simp only [Nat.zero_add]
          rw [hcell]
          exact Wx.step (by simp [av_stp, hop, av_one, mk_get, hs, cell_a0, hi])
        · simp only [hi, false_and]
          exact (Wx.bad (by simp [av_stp, hop, av_one, mk_get, hs, cell_a0, hi])).trans (by simp)
      · exact (Wx.bad (by simp [av_stp, hop, av_one, mk_get, hs, cell_a1])).trans (by simp)
      · exact (Wx.bad (by simp [av_stp, hop, av_one, mk_get, hs, cell_a2])).trans (by simp)
      · exact (Wx.bad (by simp [av_stp, hop, av_one, mk_get, hs, cell_a3])).trans (by simp)
    · exact (Wx.bad (by simp [av_stp, hop, av_one, mk_get, hs, cell_obj])).trans (by simp)
theorem ev_bas {a : Nat} {i v : Int32} (hop : av_op P mi pc = some (.bastore, len, ix)) : Wx P d mi pc L (.int v :: .int i :: .ref a :: r) (mk sh D) c s Q = (oA sh 1 a i = true ∧ Wx P d mi (pc + len) L r (mk sh (u2 D a i.toNatClampNeg (vp_nar .byte v))) c s Q) := by
  unfold oA aN
  cases hs : sh[a]? with
  | none => exact (Wx.bad (by simp [av_stp, hop, av_one, mk_get, hs])).trans (by simp)
  | some x =>
    obtain ⟨t, n⟩ | ⟨ci, fs⟩ := x
    · obtain _ | _ | _ | t := t
      · exact (Wx.bad (by simp [av_stp, hop, av_one, mk_get, hs, cell_a0])).trans (by simp)
      · simp only [Nat.zero_add, if_true]
        by_cases hi : av_in i n = true
        · simp only [hi, true_and]
          rw [← mk_set (D := D) (D' := u2 D a i.toNatClampNeg (vp_nar .byte v)) hs (by intro b hb; funext i; simp [u2, hb])]
          have hcell : cell (u2 D a i.toNatClampNeg (vp_nar .byte v)) a (.inl (1, n)) = .inl (1, n, .inl (upd (D a) i.toNatClampNeg (vp_nar .byte v))) := by
            have hfun : ∀ w, u2 D a i.toNatClampNeg w a = upd (D a) i.toNatClampNeg w := fun w => by funext j; simp [u2, upd]
            first | rw [cell_a0, hfun] | rw [cell_a1, hfun]
          simp only [Nat.zero_add]
          rw [hcell]
          exact Wx.step (by simp [av_stp, hop, av_one, mk_get, hs, cell_a1, hi])
        · simp only [hi, false_and]
          exact (Wx.bad (by simp [av_stp, hop, av_one, mk_get, hs, cell_a1, hi])).trans (by simp)
      · exact (Wx.bad (by simp [av_stp, hop, av_one, mk_get, hs, cell_a2])).trans (by simp)
      · exact (Wx.bad (by simp [av_stp, hop, av_one, mk_get, hs, cell_a3])).trans (by simp)
    · exact (Wx.bad (by simp [av_stp, hop, av_one, mk_get, hs, cell_obj])).trans (by simp)
theorem ev_jas {a : Nat} {i v : Int32} (hop : av_op P mi pc = some (.lastore, len, ix)) : Wx P d mi pc L (.long (Int32.toInt64 v) :: .int i :: .ref a :: r) (mk sh D) c s Q = (oA sh 2 a i = true ∧ Wx P d mi (pc + len) L r (mk sh (u2 D a i.toNatClampNeg v)) c s Q) := by
  unfold oA aN
  cases hs : sh[a]? with
  | none => exact (Wx.bad (by simp [av_stp, hop, av_one, mk_get, hs])).trans (by simp)
  | some x =>
    obtain ⟨t, n⟩ | ⟨ci, fs⟩ := x
    · obtain _ | _ | _ | t := t
      · exact (Wx.bad (by simp [av_stp, hop, av_one, mk_get, hs, cell_a0])).trans (by simp)
      · exact (Wx.bad (by simp [av_stp, hop, av_one, mk_get, hs, cell_a1])).trans (by simp)
      · simp only [Nat.zero_add, if_true]
        by_cases hi : av_in i n = true
        · simp only [hi, true_and]
          rw [← mk_set (D := D) (D' := u2 D a i.toNatClampNeg v) hs (by intro b hb; funext i; simp [u2, hb])]
          have hcell : cell (u2 D a i.toNatClampNeg v) a (.inl (2, n)) = .inl (2, n, .inr (.inl (vp_updL (fun i => (D a i).toInt64) i.toNatClampNeg (Int32.toInt64 v)))) := by
            have hfun : (fun k => (u2 D a i.toNatClampNeg v a k).toInt64) = vp_updL (fun i => (D a i).toInt64) i.toNatClampNeg (Int32.toInt64 v) := by funext j; simp only [u2, vp_updL, true_and]; split <;> rfl
            rw [cell_a2, hfun]
          simp only [Nat.zero_add]
          rw [hcell]
          exact Wx.step (by simp [av_stp, hop, av_one, mk_get, hs, cell_a2, hi])
        · simp only [hi, false_and]
          exact (Wx.bad (by simp [av_stp, hop, av_one, mk_get, hs, cell_a2, hi])).trans (by simp)
      · exact (Wx.bad (by simp [av_stp, hop, av_one, mk_get, hs, cell_a3])).trans (by simp)
    · exact (Wx.bad (by simp [av_stp, hop, av_one, mk_get, hs, cell_obj])).trans (by simp)
theorem ev_copy {a b : Nat} {sp dp n : Int32} (hop : av_op P mi pc = some (.invokedynamic 0, len, ix)) (hcat : (r.map fun v => v.category).sum ≤ 8) : Wx P d mi pc L (.int n :: .int dp :: .ref b :: .int sp :: .ref a :: r) (mk sh D) c s Q = (oC sh a sp b dp n = true ∧ Wx P d mi (pc + len) L r (mk sh (cp2 D a sp.toNatClampNeg b dp.toNatClampNeg n.toNatClampNeg)) c s Q) := by
  have h1 : ∀ x : Nat, aN sh 0 x = none → ∀ m f, (mk sh D)[x]? ≠ some (.inl (0, m, .inl f)) := by
    intro x hx m f
    unfold aN at hx
    rw [mk_get]
    cases hs : sh[x]? with
    | none => simp
    | some y =>
      rw [hs] at hx
      obtain ⟨t, n⟩ | ⟨ci, fs⟩ := y
      · obtain _ | _ | _ | t := t
        · simp at hx
        · simp [cell_a1]
        · simp [cell_a2]
        · simp [cell_a3]
      · simp [cell_obj]
  have h2 : ∀ x m : Nat, aN sh 0 x = some m → sh[x]? = some (Sum.inl (0, m)) := by
    intro x m hx
    unfold aN at hx
    cases hs : sh[x]? with
    | none => rw [hs] at hx; cases hx
    | some y =>
      rw [hs] at hx
      obtain ⟨t, n⟩ | ⟨ci, fs⟩ := y
      · simp only at hx
        split at hx
        · next h => cases hx; rw [h]
        · cases hx
      · cases hx
  unfold oC
  cases ha : aN sh 0 a with
  | none =>
    simp only [Bool.false_eq_true, false_and]
    apply Wx.bad
    simp only [av_stp, hop, av_one, av_copy]
    split
    · next n0 f n1 g e1 e2 => exact absurd e1 (h1 a ha _ _)
    · rfl
  | some n0 =>
    cases hb : aN sh 0 b with
    | none =>
      simp only [Bool.false_eq_true, false_and]
      apply Wx.bad
      simp only [av_stp, hop, av_one, av_copy]
      split
      · next n0 f n1 g e1 e2 => exact absurd e2 (h1 b hb _ _)
      · rfl
    | some n1 =>
      have sa := h2 a n0 ha
      have sb := h2 b n1 hb
      simp only [decide_eq_true_eq]
      by_cases hcnd : ¬ sp < 0 ∧ ¬ dp < 0 ∧ ¬ n < 0 ∧ sp.toNatClampNeg + n.toNatClampNeg ≤ n0 ∧ dp.toNatClampNeg + n.toNatClampNeg ≤ n1
      · simp only [hcnd, true_and, not_false_eq_true, and_self]
        rw [← mk_set (D := D) (D' := cp2 D a sp.toNatClampNeg b dp.toNatClampNeg n.toNatClampNeg) sb (by intro e he; funext i; simp [cp2, he])]
        have hcell : cell (cp2 D a sp.toNatClampNeg b dp.toNatClampNeg n.toNatClampNeg) b (.inl (0, n1)) = .inl (0, n1, .inl (va_cpy (D a) (D b) sp.toNatClampNeg dp.toNatClampNeg n.toNatClampNeg)) := by
          have hfun : cp2 D a sp.toNatClampNeg b dp.toNatClampNeg n.toNatClampNeg b = va_cpy (D a) (D b) sp.toNatClampNeg dp.toNatClampNeg n.toNatClampNeg := by funext j; simp [cp2, va_cpy]
          rw [cell_a0, hfun]
        rw [hcell]
        obtain ⟨q1, q2, q3, q4, q5⟩ := hcnd
        exact Wx.step (by simp [av_stp, hop, av_one, av_copy, mk_get, sa, sb, cell_a0, q1, q2, q3, q4, q5, hcat])
      · simp only [hcnd, false_and]
        apply Wx.bad
        simp only [av_stp, hop, av_one, av_copy, mk_get, sa, sb, cell_a0, Option.map_some]
        rw [if_neg (fun h => hcnd ⟨h.1, h.2.1, h.2.2.1, h.2.2.2.1, h.2.2.2.2.1⟩)]
theorem ev_slen {a : Nat} (hop : av_op P mi pc = some (.invokedynamic 1, len, ix)) (hcat : (r.map fun v => v.category).sum ≤ 8) : Wx P d mi pc L (.retAddr (a + 1) :: r) (mk sh D) c s Q = (0 < (av_tx P a).length ∧ Wx P d mi (pc + len) L (.int (Int32.ofNat (av_tx P a).length) :: r) (mk sh D) c s Q) := by
  by_cases h : 0 < (av_tx P a).length
  · simp only [h, true_and]
    exact Wx.step (by simp only [av_stp, hop, av_one]; rw [if_pos ⟨hcat, h⟩])
  · refine (Wx.bad ?_).trans (by simp [h])
    simp only [av_stp, hop, av_one]
    rw [if_neg (fun q => h q.2)]
theorem ev_char {a : Nat} {i : Int32} (hop : av_op P mi pc = some (.invokedynamic 2, len, ix)) (hcat : (r.map fun v => v.category).sum ≤ 8) : Wx P d mi pc L (.int i :: .retAddr (a + 1) :: r) (mk sh D) c s Q = (av_in i (av_tx P a).length = true ∧ Wx P d mi (pc + len) L (.int ((av_tx P a).getD i.toNatClampNeg 0) :: r) (mk sh D) c s Q) := by
  by_cases h : av_in i (av_tx P a).length = true
  · simp only [h, true_and]
    exact Wx.step (by simp only [av_stp, hop, av_one]; rw [if_pos ⟨hcat, h⟩])
  · refine (Wx.bad ?_).trans (by simp [h])
    simp only [av_stp, hop, av_one]
    rw [if_neg (fun q => h q.2)]
theorem ev_div {x y : Int32} (hop : av_op P mi pc = some (.idiv, len, ix)) : Wx P d mi pc L (.int y :: .int x :: r) (mk sh D) c s Q = (y ≠ 0 ∧ Wx P d mi (pc + len) L (.int (x / y) :: r) (mk sh D) c s Q) := by
  by_cases h : y = 0
  · simp only [h, ne_eq, not_true_eq_false, false_and]
    exact Wx.bad (by simp [av_stp, hop, av_one, av_bin])
  · simp only [ne_eq, h, not_false_eq_true, true_and]
    exact Wx.step (by simp [av_stp, hop, av_one, av_bin, h])
theorem ev_rem {x y : Int32} (hop : av_op P mi pc = some (.irem, len, ix)) : Wx P d mi pc L (.int y :: .int x :: r) (mk sh D) c s Q = (y ≠ 0 ∧ Wx P d mi (pc + len) L (.int (jrem x y) :: r) (mk sh D) c s Q) := by
  by_cases h : y = 0
  · simp only [h, ne_eq, not_true_eq_false, false_and]
    exact Wx.bad (by simp [av_stp, hop, av_one, av_bin])
  · simp only [ne_eq, h, not_false_eq_true, true_and]
    exact Wx.step (by simp [av_stp, hop, av_one, av_bin, h, jrem])
theorem ev_xal {i : Int32} (hop : av_op P mi pc = some (.iaload, len, ix)) : Wx P d mi pc L (.int i :: .retAddr 0 :: r) (mk sh D) c s Q = (av_in i (av_nx P) = true ∧ Wx P d mi (pc + len) L (.int (av_xs P i.toNatClampNeg) :: r) (mk sh D) c s Q) := by
  by_cases h : av_in i (av_nx P) = true
  · simp only [h, true_and]
    exact Wx.step (by simp [av_stp, hop, av_one, av_iaload, h])
  · simp only [h, false_and]
    exact (Wx.bad (by simp [av_stp, hop, av_one, av_iaload, h])).trans (by simp)
theorem ev_lt {t : Int} {x y : Int32} (hop : av_op P mi pc = some (.if_icmp .lt t, len, ix)) : Wx P d mi pc L (.int y :: .int x :: r) (mk sh D) c s Q = if x < y then Wx P d mi t.toNat L r (mk sh D) c s Q else Wx P d mi (pc + len) L r (mk sh D) c s Q := by
  by_cases h : x < y
  · rw [if_pos h]
    exact Wx.step (by have h1 : av_cmp .lt x y = true := by (simp [av_cmp, h])
                      simp [av_stp, hop, av_one, h1, av_goto])
  · rw [if_neg h]
    exact Wx.step (by have h1 : av_cmp .lt x y = false := by (simp [av_cmp, h])
                      simp [av_stp, hop, av_one, h1, av_goto])
theorem ev_lt0 {t : Int} {x : Int32} (hop : av_op P mi pc = some (.ifCond .lt t, len, ix)) : Wx P d mi pc L (.int x :: r) (mk sh D) c s Q = if x < 0 then Wx P d mi t.toNat L r (mk sh D) c s Q else Wx P d mi (pc + len) L r (mk sh D) c s Q := by
  by_cases h : x < 0
  · rw [if_pos h]
    exact Wx.step (by have h1 : av_cmp .lt x 0 = true := by (simp [av_cmp, h])
                      simp [av_stp, hop, av_one, h1, av_goto])
  · rw [if_neg h]
    exact Wx.step (by have h1 : av_cmp .lt x 0 = false := by (simp [av_cmp, h])
                      simp [av_stp, hop, av_one, h1, av_goto])
theorem ev_ge {t : Int} {x y : Int32} (hop : av_op P mi pc = some (.if_icmp .ge t, len, ix)) : Wx P d mi pc L (.int y :: .int x :: r) (mk sh D) c s Q = if x < y then Wx P d mi (pc + len) L r (mk sh D) c s Q else Wx P d mi t.toNat L r (mk sh D) c s Q := by
  by_cases h : x < y
  · rw [if_pos h]
    exact Wx.step (by have h1 : av_cmp .ge x y = false := by (simp [av_cmp, h])
                      simp [av_stp, hop, av_one, h1, av_goto])
  · rw [if_neg h]
    exact Wx.step (by have h1 : av_cmp .ge x y = true := by (simp [av_cmp]; exact Int32.not_lt.mp h)
                      simp [av_stp, hop, av_one, h1, av_goto])
theorem ev_ge0 {t : Int} {x : Int32} (hop : av_op P mi pc = some (.ifCond .ge t, len, ix)) : Wx P d mi pc L (.int x :: r) (mk sh D) c s Q = if x < 0 then Wx P d mi (pc + len) L r (mk sh D) c s Q else Wx P d mi t.toNat L r (mk sh D) c s Q := by
  by_cases h : x < 0
  · rw [if_pos h]
    exact Wx.step (by have h1 : av_cmp .ge x 0 = false := by (simp [av_cmp, h])
                      simp [av_stp, hop, av_one, h1, av_goto])
  · rw [if_neg h]
    exact Wx.step (by have h1 : av_cmp .ge x 0 = true := by (simp [av_cmp]; exact Int32.not_lt.mp h)
                      simp [av_stp, hop, av_one, h1, av_goto])
theorem ev_gt {t : Int} {x y : Int32} (hop : av_op P mi pc = some (.if_icmp .gt t, len, ix)) : Wx P d mi pc L (.int y :: .int x :: r) (mk sh D) c s Q = if y < x then Wx P d mi t.toNat L r (mk sh D) c s Q else Wx P d mi (pc + len) L r (mk sh D) c s Q := by
  by_cases h : y < x
  · rw [if_pos h]
    exact Wx.step (by have h1 : av_cmp .gt x y = true := by (simp [av_cmp, h])
                      simp [av_stp, hop, av_one, h1, av_goto])
  · rw [if_neg h]
    exact Wx.step (by have h1 : av_cmp .gt x y = false := by (simp [av_cmp, h])
                      simp [av_stp, hop, av_one, h1, av_goto])
theorem ev_gt0 {t : Int} {x : Int32} (hop : av_op P mi pc = some (.ifCond .gt t, len, ix)) : Wx P d mi pc L (.int x :: r) (mk sh D) c s Q = if 0 < x then Wx P d mi t.toNat L r (mk sh D) c s Q else Wx P d mi (pc + len) L r (mk sh D) c s Q := by
  by_cases h : 0 < x
  · rw [if_pos h]
    exact Wx.step (by have h1 : av_cmp .gt x 0 = true := by (simp [av_cmp, h])
                      simp [av_stp, hop, av_one, h1, av_goto])
  · rw [if_neg h]
    exact Wx.step (by have h1 : av_cmp .gt x 0 = false := by (simp [av_cmp, h])
                      simp [av_stp, hop, av_one, h1, av_goto])
theorem ev_le {t : Int} {x y : Int32} (hop : av_op P mi pc = some (.if_icmp .le t, len, ix)) : Wx P d mi pc L (.int y :: .int x :: r) (mk sh D) c s Q = if y < x then Wx P d mi (pc + len) L r (mk sh D) c s Q else Wx P d mi t.toNat L r (mk sh D) c s Q := by
  by_cases h : y < x
  · rw [if_pos h]
    exact Wx.step (by have h1 : av_cmp .le x y = false := by (simp [av_cmp, h])
                      simp [av_stp, hop, av_one, h1, av_goto])
  · rw [if_neg h]
    exact Wx.step (by have h1 : av_cmp .le x y = true := by (simp [av_cmp]; exact Int32.not_lt.mp h)
                      simp [av_stp, hop, av_one, h1, av_goto])
theorem ev_le0 {t : Int} {x : Int32} (hop : av_op P mi pc = some (.ifCond .le t, len, ix)) : Wx P d mi pc L (.int x :: r) (mk sh D) c s Q = if 0 < x then Wx P d mi (pc + len) L r (mk sh D) c s Q else Wx P d mi t.toNat L r (mk sh D) c s Q := by
  by_cases h : 0 < x
  · rw [if_pos h]
    exact Wx.step (by have h1 : av_cmp .le x 0 = false := by (simp [av_cmp, h])
                      simp [av_stp, hop, av_one, h1, av_goto])
  · rw [if_neg h]
    exact Wx.step (by have h1 : av_cmp .le x 0 = true := by (simp [av_cmp]; exact Int32.not_lt.mp h)
                      simp [av_stp, hop, av_one, h1, av_goto])
theorem ev_eq {t : Int} {x y : Int32} (hop : av_op P mi pc = some (.if_icmp .eq t, len, ix)) : Wx P d mi pc L (.int y :: .int x :: r) (mk sh D) c s Q = if x = y then Wx P d mi t.toNat L r (mk sh D) c s Q else Wx P d mi (pc + len) L r (mk sh D) c s Q := by
  by_cases h : x = y
  · rw [if_pos h]
    exact Wx.step (by have h1 : av_cmp .eq x y = true := by (simp [av_cmp, h])
                      simp [av_stp, hop, av_one, h1, av_goto])
  · rw [if_neg h]
    exact Wx.step (by have h1 : av_cmp .eq x y = false := by (simp [av_cmp, h])
                      simp [av_stp, hop, av_one, h1, av_goto])
theorem ev_eq0 {t : Int} {x : Int32} (hop : av_op P mi pc = some (.ifCond .eq t, len, ix)) : Wx P d mi pc L (.int x :: r) (mk sh D) c s Q = if x = 0 then Wx P d mi t.toNat L r (mk sh D) c s Q else Wx P d mi (pc + len) L r (mk sh D) c s Q := by
  by_cases h : x = 0
  · rw [if_pos h]
    exact Wx.step (by have h1 : av_cmp .eq x 0 = true := by (simp [av_cmp, h])
                      simp [av_stp, hop, av_one, h1, av_goto])
  · rw [if_neg h]
    exact Wx.step (by have h1 : av_cmp .eq x 0 = false := by (simp [av_cmp, h])
                      simp [av_stp, hop, av_one, h1, av_goto])
theorem ev_ne {t : Int} {x y : Int32} (hop : av_op P mi pc = some (.if_icmp .ne t, len, ix)) : Wx P d mi pc L (.int y :: .int x :: r) (mk sh D) c s Q = if x = y then Wx P d mi (pc + len) L r (mk sh D) c s Q else Wx P d mi t.toNat L r (mk sh D) c s Q := by
  by_cases h : x = y
  · rw [if_pos h]
    exact Wx.step (by have h1 : av_cmp .ne x y = false := by (simp [av_cmp, h])
                      simp [av_stp, hop, av_one, h1, av_goto])
  · rw [if_neg h]
    exact Wx.step (by have h1 : av_cmp .ne x y = true := by (simp [av_cmp, h])
                      simp [av_stp, hop, av_one, h1, av_goto])
theorem ev_ne0 {t : Int} {x : Int32} (hop : av_op P mi pc = some (.ifCond .ne t, len, ix)) : Wx P d mi pc L (.int x :: r) (mk sh D) c s Q = if x = 0 then Wx P d mi (pc + len) L r (mk sh D) c s Q else Wx P d mi t.toNat L r (mk sh D) c s Q := by
  by_cases h : x = 0
  · rw [if_pos h]
    exact Wx.step (by have h1 : av_cmp .ne x 0 = false := by (simp [av_cmp, h])
                      simp [av_stp, hop, av_one, h1, av_goto])
  · rw [if_neg h]
    exact Wx.step (by have h1 : av_cmp .ne x 0 = true := by (simp [av_cmp, h])
                      simp [av_stp, hop, av_one, h1, av_goto])
/-- the t-th of some -/
def tsw (ts : Array Int) (n : Nat) (f : Int → Prop) : Prop := wi ts[n]? f
theorem ev_sw {dd lo hi : Int} {ts : Array Int} {x : Int32} (hop : av_op P mi pc = some (.tableswitch dd lo hi ts, len, ix)) : Wx P d mi pc L (.int x :: r) (mk sh D) c s Q = if x.toInt < lo ∨ hi < x.toInt then Wx P d mi dd.toNat L r (mk sh D) c s Q else tsw ts (x.toInt - lo).toNat fun t => Wx P d mi t.toNat L r (mk sh D) c s Q := by
  by_cases h : x.toInt < lo ∨ hi < x.toInt
  · rw [if_pos h]
    exact Wx.step (by simp only [av_stp, hop, av_one]; rw [if_pos h]; rfl)
  · rw [if_neg h]
    unfold tsw
    cases ht : ts[(x.toInt - lo).toNat]? with
    | none => exact Wx.bad (by simp only [av_stp, hop, av_one]; rw [if_neg h, ht])
    | some t => exact Wx.step (by simp only [av_stp, hop, av_one]; rw [if_neg h, ht]; rfl)
theorem ev_retZ {x : Int32} (hop : av_op P mi pc = some (.ireturn, len, ix)) (hr : (av_me P mi).2.2.2.1 = some .boolean) : Wx P d mi pc L [.int x] (mk sh D) c s Q = ((x = 0 ∨ x = 1) ∧ Q (.inl (some (.int x))) (mk sh D) c s) := by
  by_cases h : x = 0 ∨ x = 1
  · simp only [h, true_and]
    exact Wx.ret (by simp only [av_stp, hop, av_one, hr]; rw [if_pos h])
  · simp only [h, false_and]
    exact Wx.bad (by simp only [av_stp, hop, av_one, hr]; rw [if_neg h])
theorem rcv_mk {a ci : Nat} {as : List Value} : av_rcv (mk sh D) ci (.ref a :: as) = isO sh a ci := by
  unfold av_rcv isO
  simp only
  rw [mk_get]
  cases hs : sh[a]? with
  | none => rfl
  | some x =>
    obtain ⟨t, n⟩ | ⟨k, fs⟩ := x
    · obtain ⟨e, he⟩ := cell_arr D a t n
      simp [he]
    · simp [cell_obj]
theorem vir_stp {mj a : Nat} {as st : List Value} (hop : av_op P mi pc = some (.invokevirtual mj, len, ix)) (hn : (av_me P mj).2.2.2.2.1 ≤ st.length) (ht : (st.take (av_me P mj).2.2.2.2.1).reverse = .ref a :: as) (hr : st.drop (av_me P mj).2.2.2.2.1 = r) (h1 : (r.map fun v => v.category).sum ≤ 8) (h2 : ((st.take (av_me P mj).2.2.2.2.1).all fun v => v.category == 1) = true) : av_stp P mi pc L st (mk sh D) c s = if isO sh a (av_me P mj).2.2.2.2.2.2.2.1 = true then some (.inr (.inr (.inl (mj, .ref a :: as, r)))) else none := by
  simp only [av_stp, hop, av_one, ht, hr, rcv_mk]
  by_cases h : isO sh a (av_me P mj).2.2.2.2.2.2.2.1 = true
  · rw [if_pos h, if_pos ⟨hn, h1, h2, h⟩]
  · rw [if_neg h, if_neg (fun q => h q.2.2.2)]
theorem ev_virN {mj a ci : Nat} {as st : List Value} {Lj : av_L} (hop : av_op P mi pc = some (.invokevirtual mj, len, ix)) (hf : (av_me P mj).2.2.2.2.2.2.2.2 = false) (hL : av_ent P mj (.ref a :: as) = Lj) (hci : (av_me P mj).2.2.2.2.2.2.2.1 = ci) (hn : (av_me P mj).2.2.2.2.1 ≤ st.length) (ht : (st.take (av_me P mj).2.2.2.2.1).reverse = .ref a :: as) (hr : st.drop (av_me P mj).2.2.2.2.1 = r) (h1 : (r.map fun v => v.category).sum ≤ 8) (h2 : ((st.take (av_me P mj).2.2.2.2.1).all fun v => v.category == 1) = true) : Wx P (d + 1) mi pc L st (mk sh D) c s Q = (isO sh a ci = true ∧ Wx P d mj 0 Lj [] (mk sh D) 0 0 (kN P (d + 1) mi (pc + 3) L r c s Q)) := by
  have hst := vir_stp (L := L) (D := D) (sh := sh) (c := c) (s := s) hop hn ht hr h1 h2
  rw [hci] at hst
  by_cases h : isO sh a ci = true
  · rw [if_pos h] at hst
    simp only [h, true_and]
    exact Wx.callN hst hf hL
  · rw [if_neg h] at hst
    simp only [h, false_and]
    exact (Wx.bad hst).trans (by simp)
theorem ev_virT {mj a ci : Nat} {as st : List Value} {Lj : av_L} (hop : av_op P mi pc = some (.invokevirtual mj, len, ix)) (hf : (av_me P mj).2.2.2.2.2.2.2.2 = true) (hh : (av_me P mi).2.2.2.2.2.1 = []) (hL : av_ent P mj (.ref a :: as) = Lj) (hci : (av_me P mj).2.2.2.2.2.2.2.1 = ci) (hn : (av_me P mj).2.2.2.2.1 ≤ st.length) (ht : (st.take (av_me P mj).2.2.2.2.1).reverse = .ref a :: as) (hr : st.drop (av_me P mj).2.2.2.2.1 = r) (h1 : (r.map fun v => v.category).sum ≤ 8) (h2 : ((st.take (av_me P mj).2.2.2.2.1).all fun v => v.category == 1) = true) : Wx P (d + 1) mi pc L st (mk sh D) c s Q = (isO sh a ci = true ∧ Wx P d mj 0 Lj [] (mk sh D) 0 0 (kT P (d + 1) mi (pc + 3) L r c s Q)) := by
  have hst := vir_stp (L := L) (D := D) (sh := sh) (c := c) (s := s) hop hn ht hr h1 h2
  rw [hci] at hst
  by_cases h : isO sh a ci = true
  · rw [if_pos h] at hst
    simp only [h, true_and]
    exact Wx.callT hst hf hh hL
  · rw [if_neg h] at hst
    simp only [h, false_and]
    exact (Wx.bad hst).trans (by simp)
theorem ev_virC {mj a ci : Nat} {as st : List Value} {Lj : av_L} (hop : av_op P mi pc = some (.invokevirtual mj, len, ix)) (hf : (av_me P mj).2.2.2.2.2.2.2.2 = true) (hh : (av_me P mi).2.2.2.2.2.1 ≠ []) (hL : av_ent P mj (.ref a :: as) = Lj) (hci : (av_me P mj).2.2.2.2.2.2.2.1 = ci) (hn : (av_me P mj).2.2.2.2.1 ≤ st.length) (ht : (st.take (av_me P mj).2.2.2.2.1).reverse = .ref a :: as) (hr : st.drop (av_me P mj).2.2.2.2.1 = r) (h1 : (r.map fun v => v.category).sum ≤ 8) (h2 : ((st.take (av_me P mj).2.2.2.2.1).all fun v => v.category == 1) = true) : Wx P (d + 1) mi pc L st (mk sh D) c s Q = (isO sh a ci = true ∧ Wx P d mj 0 Lj [] (mk sh D) 0 0 (kC P (d + 1) mi pc L r c s Q)) := by
  have hst := vir_stp (L := L) (D := D) (sh := sh) (c := c) (s := s) hop hn ht hr h1 h2
  rw [hci] at hst
  by_cases h : isO sh a ci = true
  · rw [if_pos h] at hst
    simp only [h, true_and]
    exact Wx.callC hst hf hh hL
  · rw [if_neg h] at hst
    simp only [h, false_and]
    exact (Wx.bad hst).trans (by simp)
theorem kN_v {L : av_L} {v : Value} {h' : av_H} {c' s' : Nat} : kN P d mi pc L r c s Q (.inl (some v)) h' c' s' = Wx P d mi pc L (v :: r) h' (c + c') (s + s') Q := rfl
theorem kN_n {L : av_L} {h' : av_H} {c' s' : Nat} : kN P d mi pc L r c s Q (.inl none) h' c' s' = Wx P d mi pc L r h' (c + c') (s + s') Q := rfl
theorem kT_v {L : av_L} {v : Value} {h' : av_H} {c' s' : Nat} : kT P d mi pc L r c s Q (.inl (some v)) h' c' s' = Wx P d mi pc L (v :: r) h' (c + c') (s + s') Q := rfl
theorem kT_n {L : av_L} {h' : av_H} {c' s' : Nat} : kT P d mi pc L r c s Q (.inl none) h' c' s' = Wx P d mi pc L r h' (c + c') (s + s') Q := rfl
theorem kT_e {L : av_L} {E : String} {h' : av_H} {c' s' : Nat} : kT P d mi pc L r c s Q (.inr E) h' c' s' = Q (.inr E) h' (c + c') (s + s') := rfl
theorem kC_v {L : av_L} {v : Value} {h' : av_H} {c' s' : Nat} : kC P d mi pc L r c s Q (.inl (some v)) h' c' s' = Wx P d mi (pc + 3) L (v :: r) h' (c + c') (s + s') Q := rfl
theorem kC_n {L : av_L} {h' : av_H} {c' s' : Nat} : kC P d mi pc L r c s Q (.inl none) h' c' s' = Wx P d mi (pc + 3) L r h' (c + c') (s + s') Q := rfl
theorem kC_e {L : av_L} {E : String} {h' : av_H} {c' s' : Nat} : kC P d mi pc L r c s Q (.inr E) h' c' s' = kH P d mi pc L c s Q E h' c' s' := rfl
end EVT
end
