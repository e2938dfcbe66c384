/-! ===== THE ABSTRACT MACHINE: the bytecode over a heap of numbered cells; a reference is a cell's number; the script is retAddr 0, the texts are retAddr 1 and on ===== -/
abbrev av_O : Type := Instr × Nat × Nat
abbrev av_L : Type := List (Option Value)
abbrev av_H : Type := List va_E
abbrev av_F : Type := Nat × av_L × List Value × av_H × Nat × Nat
abbrev av_S : Type := av_F ⊕ (Option Value ⊕ ((Nat × List Value × List Value) ⊕ String))
abbrev av_R : Type := (Option Value ⊕ String) × av_H × Nat × Nat
/-- a method: its name, its bytes, its locals, what it answers, how many values it takes off the stack, its handlers (from, to, at, the entry of the class), their classes, its class's number, whether it may throw -/
abbrev av_M : Type := MethodName × ByteArray × Nat × Option FieldType × Nat × List (Nat × Nat × Nat × Nat) × List String × Nat × Bool
/-- a program: its instructions, its methods, the types of each class's fields, the throws (class), the texts, the script's length and ints -/
abbrev av_P : Type := (Nat → Nat → Option av_O) × (Nat → av_M) × (Nat → List FieldType) × (Nat → String) × (Nat → List Int32) × Nat × (Nat → Int32)
def av_op (P : av_P) : Nat → Nat → Option av_O := P.1
def av_me (P : av_P) : Nat → av_M := P.2.1
def av_ty (P : av_P) : Nat → List FieldType := P.2.2.1
def av_th (P : av_P) : Nat → String := P.2.2.2.1
def av_tx (P : av_P) : Nat → List Int32 := P.2.2.2.2.1
def av_nx (P : av_P) : Nat := P.2.2.2.2.2.1
def av_xs (P : av_P) : Nat → Int32 := P.2.2.2.2.2.2
def av_cmp (k : Jvm.ClassFile.Cond) (x y : Int32) : Bool := match k with
  | .eq => decide (x = y)
  | .ne => decide (x ≠ y)
  | .lt => decide (x < y)
  | .ge => decide (y ≤ x)
  | .gt => decide (y < x)
  | .le => decide (x ≤ y)
def av_goto (t : Int) (L : av_L) (st : List Value) (h : av_H) (c s : Nat) : Option av_S := some (.inl (t.toNat, L, st, h, c, s))
def av_def (t : FieldType) : Value := defaultValue t
/-- may the value be put into a field of that type -/
def av_fit (t : FieldType) (v : Value) : Bool := match t, v with
  | .int, .int _ => true
  | .boolean, .int x => decide (x = 0) || decide (x = 1)
  | .object _, .ref _ => true
  | .object _, .null => true
  | .array _, .ref _ => true
  | .array _, .null => true
  | _, _ => false
def av_in (i : Int32) (n : Nat) : Bool := decide (¬ i < 0) && decide (i.toNatClampNeg < n)
def av_bin (pc len : Nat) (L : av_L) (st : List Value) (h : av_H) (c s : Nat) (f : Int32 → Int32 → Option Int32) : Option av_S := match st with
  | .int y :: .int x :: r => match f x y with
    | some z => some (.inl (pc + len, L, .int z :: r, h, c, s))
    | none => none
  | _ => none
def av_iaload (P : av_P) (pc len : Nat) (L : av_L) (st : List Value) (h : av_H) (c s : Nat) : Option av_S := match st with
  | .int i :: .ref a :: r => match h[a]? with
    | some (.inl (0, n, .inl f)) => if av_in i n then some (.inl (pc + len, L, .int (f i.toNatClampNeg) :: r, h, c, s)) else none
    | _ => none
  | .int i :: .retAddr 0 :: r => if av_in i (av_nx P) then some (.inl (pc + len, L, .int (av_xs P i.toNatClampNeg) :: r, h, c, s)) else none
  | _ => none
def av_alen (P : av_P) (pc len : Nat) (L : av_L) (st : List Value) (h : av_H) (c s : Nat) : Option av_S := match st with
  | .ref a :: r => match h[a]? with
    | some (.inl (t, n, _)) => if t < 4 then some (.inl (pc + len, L, .int (Int32.ofNat n) :: r, h, c, s)) else none
    | _ => none
  | .retAddr 0 :: r => some (.inl (pc + len, L, .int (Int32.ofNat (av_nx P)) :: r, h, c, s))
  | _ => none
def av_copy (pc len : Nat) (L : av_L) (st : List Value) (h : av_H) (c s : Nat) : Option av_S := match st with
  | .int n :: .int dp :: .ref b :: .int sp :: .ref a :: r => match h[a]?, h[b]? with
    | some (.inl (0, n0, .inl f)), some (.inl (0, n1, .inl g)) =>
      if ¬ sp < 0 ∧ ¬ dp < 0 ∧ ¬ n < 0 ∧ sp.toNatClampNeg + n.toNatClampNeg ≤ n0 ∧ dp.toNatClampNeg + n.toNatClampNeg ≤ n1 ∧ (r.map fun v => v.category).sum ≤ 8
      then some (.inl (pc + len, L, r, h.set b (.inl (0, n1, .inl (va_cpy f g sp.toNatClampNeg dp.toNatClampNeg n.toNatClampNeg))), c, s)) else none
    | _, _ => none
  | _ => none
/-- the arrays that are made: ints, bytes, longs -/
def av_newa (k : ArrayType) (n : Nat) : Option va_E := match k with
  | .int => some (.inl (0, n, .inl (fun _ => 0)))
  | .byte => some (.inl (1, n, .inl (fun _ => 0)))
  | .long => some (.inl (2, n, .inr (.inl (fun _ => 0))))
  | _ => none
/-- the receiver is an object of that class -/
def av_rcv (h : av_H) (ci : Nat) (as : List Value) : Bool := match as with
  | .ref b :: _ => match h[b]? with
    | some (.inr (k, _)) => decide (k = ci)
    | _ => false
  | _ => false
def av_isr (as : List Value) : Bool := match as with
  | .ref _ :: _ => true
  | _ => false
/-- one instruction -/
def av_one (P : av_P) (mi pc : Nat) (ins : Instr) (len : Nat) (L : av_L) (st : List Value) (h : av_H) (c s : Nat) : Option av_S := match ins with
  | .sipush v => some (.inl (pc + len, L, .int (Int32.ofInt v) :: st, h, c, s))
  | .lconst n => some (.inl (pc + len, L, .long (Int64.ofNat (n : Nat)) :: st, h, c, s))
  | .ldc i => some (.inl (pc + len, L, .retAddr (i + 1) :: st, h, c, s))
  | .iload i => match L[i]? with
    | some (some (.int x)) => some (.inl (pc + len, L, .int x :: st, h, c, s))
    | _ => none
  | .aload i => match L[i]? with
    | some (some (.ref x)) => some (.inl (pc + len, L, .ref x :: st, h, c, s))
    | some (some (.retAddr x)) => some (.inl (pc + len, L, .retAddr x :: st, h, c, s))
    | _ => none
  | .istore i => match st with
    | .int x :: r => if i < L.length then some (.inl (pc + len, L.set i (some (.int x)), r, h, c, s)) else none
    | _ => none
  | .astore i => match st with
    | .ref x :: r => if i < L.length then some (.inl (pc + len, L.set i (some (.ref x)), r, h, c, s)) else none
    | .retAddr x :: r => if i < L.length then some (.inl (pc + len, L.set i (some (.retAddr x)), r, h, c, s)) else none
    | _ => none
  | .iinc i n => match L[i]? with
    | some (some (.int x)) => some (.inl (pc + len, L.set i (some (.int (x + Int32.ofInt n))), st, h, c, s))
    | _ => none
  | .dup => match st with
    | v :: r => if v.category = 1 then some (.inl (pc + len, L, v :: v :: r, h, c, s)) else none
    | _ => none
  | .dup2 => match st with
    | v :: w :: r => if v.category = 1 ∧ w.category = 1 then some (.inl (pc + len, L, v :: w :: v :: w :: r, h, c, s)) else none
    | _ => none
  | .pop => match st with
    | v :: r => if v.category = 1 then some (.inl (pc + len, L, r, h, c, s)) else none
    | _ => none
  | .iadd => av_bin pc len L st h c s fun x y => some (x + y)
  | .isub => av_bin pc len L st h c s fun x y => some (x - y)
  | .imul => av_bin pc len L st h c s fun x y => some (x * y)
  | .idiv => av_bin pc len L st h c s fun x y => if y = 0 then none else some (x / y)
  | .irem => av_bin pc len L st h c s fun x y => if y = 0 then none else some (x - x / y * y)
  | .iand => av_bin pc len L st h c s fun x y => some (x &&& y)
  | .ior => av_bin pc len L st h c s fun x y => some (x ||| y)
  | .ixor => av_bin pc len L st h c s fun x y => some (x ^^^ y)
  | .ishl => av_bin pc len L st h c s fun x y => some (x <<< (y &&& 31))
  | .ishr => av_bin pc len L st h c s fun x y => some (x >>> (y &&& 31))
  | .iushr => av_bin pc len L st h c s fun x y => some ((x.toUInt32 >>> (y.toUInt32 &&& Int32.toUInt32 31)).toInt32)
  | .i2l => match st with
    | .int x :: r => some (.inl (pc + len, L, .long x.toInt64 :: r, h, c, s))
    | _ => none
  | .i2b => match st with
    | .int x :: r => some (.inl (pc + len, L, .int x.toInt8.toInt32 :: r, h, c, s))
    | _ => none
  | .lcmp => match st with
    | .long y :: .long x :: r => some (.inl (pc + len, L, .int (lg_cmp x y) :: r, h, c, s))
    | _ => none
  | .if_icmp k t => match st with
    | .int y :: .int x :: r => if av_cmp k x y then av_goto t L r h c s else some (.inl (pc + len, L, r, h, c, s))
    | _ => none
  | .ifCond k t => match st with
    | .int x :: r => if av_cmp k x 0 then av_goto t L r h c s else some (.inl (pc + len, L, r, h, c, s))
    | _ => none
  | .ifnonnull t => match st with
    | .ref _ :: r => av_goto t L r h c s
    | .null :: r => some (.inl (pc + len, L, r, h, c, s))
    | _ => none
  | .goto t => av_goto t L st h c s
  | .tableswitch d lo hi ts => match st with
    | .int x :: r => if x.toInt < lo ∨ hi < x.toInt then av_goto d L r h c s else match ts[(x.toInt - lo).toNat]? with
      | some t => av_goto t L r h c s
      | none => none
    | _ => none
  | .getfield q => match st with
    | .ref a :: r => match h[a]? with
      | some (.inr (ci, fs)) => if ci = q / 64 then match fs[q % 64]? with
        | some v => some (.inl (pc + len, L, v :: r, h, c, s))
        | none => none
        else none
      | _ => none
    | _ => none
  | .putfield q => match st with
    | v :: .ref a :: r => match h[a]? with
      | some (.inr (ci, fs)) => if ci = q / 64 ∧ q % 64 < fs.length ∧ av_fit ((av_ty P ci).getD (q % 64) .float) v = true then some (.inl (pc + len, L, r, h.set a (.inr (ci, fs.set (q % 64) v)), c, s)) else none
      | _ => none
    | _ => none
  | .iaload => av_iaload P pc len L st h c s
  | .baload => match st with
    | .int i :: .ref a :: r => match h[a]? with
      | some (.inl (1, n, .inl f)) => if av_in i n then some (.inl (pc + len, L, .int (f i.toNatClampNeg) :: r, h, c, s)) else none
      | _ => none
    | _ => none
  | .laload => match st with
    | .int i :: .ref a :: r => match h[a]? with
      | some (.inl (2, n, .inr (.inl f))) => if av_in i n then some (.inl (pc + len, L, .long (f i.toNatClampNeg) :: r, h, c, s)) else none
      | _ => none
    | _ => none
  | .aaload => match st with
    | .int i :: .ref a :: r => match h[a]? with
      | some (.inl (3, n, .inr (.inr (.inr (.inr f))))) => if av_in i n then some (.inl (pc + len, L, va_rf (f i.toNatClampNeg) :: r, h, c, s)) else none
      | _ => none
    | _ => none
  | .iastore => match st with
    | .int x :: .int i :: .ref a :: r => match h[a]? with
      | some (.inl (0, n, .inl f)) => if av_in i n then some (.inl (pc + len, L, r, h.set a (.inl (0, n, .inl (upd f i.toNatClampNeg x))), c, s)) else none
      | _ => none
    | _ => none
  | .bastore => match st with
    | .int x :: .int i :: .ref a :: r => match h[a]? with
      | some (.inl (1, n, .inl f)) => if av_in i n then some (.inl (pc + len, L, r, h.set a (.inl (1, n, .inl (upd f i.toNatClampNeg (vp_nar .byte x)))), c, s)) else none
      | _ => none
    | _ => none
  | .lastore => match st with
    | .long x :: .int i :: .ref a :: r => match h[a]? with
      | some (.inl (2, n, .inr (.inl f))) => if av_in i n then some (.inl (pc + len, L, r, h.set a (.inl (2, n, .inr (.inl (vp_updL f i.toNatClampNeg x)))), c, s)) else none
      | _ => none
    | _ => none
  | .aastore => match st with
    | .ref b :: .int i :: .ref a :: r => match h[a]?, h[b]? with
      | some (.inl (3, n, .inr (.inr (.inr (.inr f))))), some (.inr (6, _)) => if av_in i n then some (.inl (pc + len, L, r, h.set a (.inl (3, n, .inr (.inr (.inr (.inr (va_up f i.toNatClampNeg (some b))))))), c, s)) else none
      | _, _ => none
    | _ => none
  | .arraylength => av_alen P pc len L st h c s
  | .newarray k => match st with
    | .int n :: r => if ¬ n < 0 ∧ n.toNatClampNeg ≤ 60000 then match av_newa k n.toNatClampNeg with
      | some e => some (.inl (pc + len, L, .ref h.length :: r, h ++ [e], c + 1, s + n.toNatClampNeg))
      | none => none
      else none
    | _ => none
  | .anewarray _ => match st with
    | .int n :: r => if ¬ n < 0 ∧ n.toNatClampNeg ≤ 60000 then some (.inl (pc + len, L, .ref h.length :: r, h ++ [.inl (3, n.toNatClampNeg, .inr (.inr (.inr (.inr (fun _ => none)))))], c + 1, s + n.toNatClampNeg)) else none
    | _ => none
  | .new ci => some (.inl (pc + len, L, .ref h.length :: st, h ++ [.inr (ci, (av_ty P ci).map av_def)], c + 1, s + (av_ty P ci).length))
  | .monitorenter => match st with
    | .ref _ :: r => if (r.map fun v => v.category).sum ≤ 8 then some (.inl (pc + len, L, r, h, c, s)) else none
    | _ => none
  | .invokedynamic 0 => av_copy pc len L st h c s
  | .invokedynamic 1 => match st with
    | .retAddr (a + 1) :: r => if (r.map fun v => v.category).sum ≤ 8 ∧ 0 < (av_tx P a).length then some (.inl (pc + len, L, .int (Int32.ofNat (av_tx P a).length) :: r, h, c, s)) else none
    | _ => none
  | .invokedynamic 2 => match st with
    | .int i :: .retAddr (a + 1) :: r => if (r.map fun v => v.category).sum ≤ 8 ∧ av_in i (av_tx P a).length = true then some (.inl (pc + len, L, .int ((av_tx P a).getD i.toNatClampNeg 0) :: r, h, c, s)) else none
    | _ => none
  | .invokedynamic 3 => match st with
    | .ref a :: r => match h[a]? with
      | some (.inl (0, n, .inl f)) => if (r.map fun v => v.category).sum ≤ 8 ∧ n ≤ 60000 then some (.inl (pc + len, L, .ref h.length :: r, h ++ [.inl (0, n, .inl f)], c + 1, s + n)) else none
      | _ => none
    | _ => none
  | .invokedynamic 4 => match st with
    | .int y :: .int x :: r => if (r.map fun v => v.category).sum ≤ 8 then some (.inl (pc + len, L, .int (if x < y then y else x) :: r, h, c, s)) else none
    | _ => none
  | .invokedynamic 5 => match st with
    | .int y :: .int x :: r => if (r.map fun v => v.category).sum ≤ 8 then some (.inl (pc + len, L, .int (if y < x then y else x) :: r, h, c, s)) else none
    | _ => none
  | .checkcast _ => match st with
    | .ref a :: r => match h[a]? with
      | some (.inl (0, n, .inl _)) => some (.inl (pc + len, L, .ref a :: r, h, c, s))
      | _ => none
    | _ => none
  | .instanceof k => if (st.map fun v => v.category).sum ≤ 8 then some (.inr (.inr (.inr (av_th P k)))) else none
  | .ireturn => match st with
    | [.int x] => match (av_me P mi).2.2.2.1 with
      | some .int => some (.inr (.inl (some (.int x))))
      | some .boolean => if x = 0 ∨ x = 1 then some (.inr (.inl (some (.int x)))) else none
      | _ => none
    | _ => none
  | .areturn => match st with
    | [.ref x] => match (av_me P mi).2.2.2.1 with
      | some (.object _) => some (.inr (.inl (some (.ref x))))
      | some (.array _) => some (.inr (.inl (some (.ref x))))
      | _ => none
    | _ => none
  | .return_ => match st, (av_me P mi).2.2.2.1 with
    | [], none => some (.inr (.inl none))
    | _, _ => none
  | .invokestatic mj => let a := (av_me P mj).2.2.2.2.1
    if a ≤ st.length ∧ ((st.drop a).map fun v => v.category).sum ≤ 8 ∧ ((st.take a).all fun v => v.category == 1) = true then some (.inr (.inr (.inl (mj, (st.take a).reverse, st.drop a)))) else none
  | .invokevirtual mj => let a := (av_me P mj).2.2.2.2.1
    if a ≤ st.length ∧ ((st.drop a).map fun v => v.category).sum ≤ 8 ∧ ((st.take a).all fun v => v.category == 1) = true ∧ av_rcv h (av_me P mj).2.2.2.2.2.2.2.1 (st.take a).reverse = true then some (.inr (.inr (.inl (mj, (st.take a).reverse, st.drop a)))) else none
  | .invokespecial mj => let a := (av_me P mj).2.2.2.2.1
    if a ≤ st.length ∧ ((st.drop a).map fun v => v.category).sum ≤ 8 ∧ ((st.take a).all fun v => v.category == 1) = true ∧ av_isr (st.take a).reverse = true then some (.inr (.inr (.inl (mj, (st.take a).reverse, st.drop a)))) else none
  | _ => none
def av_stp (P : av_P) (mi pc : Nat) (L : av_L) (st : List Value) (h : av_H) (c s : Nat) : Option av_S := match av_op P mi pc with
  | some (ins, len, _) => av_one P mi pc ins len L st h c s
  | none => none
/-- the locals with which a method begins -/
def av_ent (P : av_P) (mj : Nat) (as : List Value) : av_L := as.map some ++ List.replicate ((av_me P mj).2.2.1 - as.length) none
/-- the classes that are thrown and caught -/
def av_es : List String := ["java/lang/IllegalArgumentException", "java/lang/IllegalStateException", "java/lang/IndexOutOfBoundsException", "java/lang/UnsupportedOperationException", "java/util/NoSuchElementException"]
/-- where a thrown E is caught: the first row over pc that names E -/
def av_hnd (pc : Nat) (E : String) : List (Nat × Nat × Nat × Nat) → List String → Option Nat
  | (a, b, t, _) :: hh, nm :: nms => if a ≤ pc ∧ pc < b ∧ nm = E then some t else av_hnd pc E hh nms
  | _, _ => none
/-- the machine: n steps at most, d calls deep at most -/
def av_rn (P : av_P) : Nat → Nat → Nat → Nat → av_L → List Value → av_H → Nat → Nat → Option av_R
  | 0, _, _, _, _, _, _, _, _ => none
  | n + 1, d, mi, pc, L, st, h, c, s => match av_stp P mi pc L st h c s with
    | none => none
    | some (.inl (pc', L', st', h', c', s')) => av_rn P n d mi pc' L' st' h' c' s'
    | some (.inr (.inl v)) => some (.inl v, h, c, s)
    | some (.inr (.inr (.inr E))) => some (.inr E, h, c + 1, s + 6)
    | some (.inr (.inr (.inl (mj, as, r)))) => match d with
      | 0 => none
      | d' + 1 => match av_rn P n d' mj 0 (av_ent P mj as) [] h 0 0 with
        | none => none
        | some (.inl v, h', c', s') => av_rn P n (d' + 1) mi (pc + 3) L (v.toList ++ r) h' (c + c') (s + s')
        | some (.inr E, h', c', s') => if (av_me P mj).2.2.2.2.2.2.2.2 = false then none else if (av_me P mi).2.2.2.2.2.1 = [] then some (.inr E, h', c + c', s + s') else if E ∉ av_es then none else match av_hnd pc E (av_me P mi).2.2.2.2.2.1 (av_me P mi).2.2.2.2.2.2.1 with
          | none => none
          | some t => match av_op P mi t with
            | some (.astore i, len, _) => if i < L.length then av_rn P n (d' + 1) mi (t + len) (L.set i none) [] h' (c + c') (s + s') else none
            | _ => none
