/-! A small machine of our own: cells by numbers, locals and stack as lists. Below it is shown that the real machine follows it. -/
abbrev xE : Type := Nat × Nat × Instr × Nat × List Nat × Value
abbrev xL : Type := List (Nat × Value)
abbrev xA : Type := FieldType × Nat × (Nat → Value)
abbrev xC : Type := xA ⊕ (Nat × List Value)
abbrev xH : Type := Nat × Nat × (Nat → Option xC)
abbrev xO : Type := Option Value ⊕ Nat
abbrev xR : Type := Nat × xL × List Value × xH
/-- the numbers below this one are cells that were there at the start -/
def xNC : Nat := 28
def xup (f : Nat → Option xC) (k : Nat) (c : xC) : Nat → Option xC := fun j => if j = k then some c else f j
def xput (hp : xH) (k : Nat) (c : xC) : xH := (hp.1, hp.2.1, xup hp.2.2 k c)
def xnew (hp : xH) (c : xC) (w : Nat) : xH := (hp.1 + 1, hp.2.1 + w, xup hp.2.2 hp.1 c)
/-- a cell of which nothing is known -/
def xbare (hp : xH) (w : Nat) : xH := (hp.1 + 1, hp.2.1 + w, hp.2.2)
def xget : xL → Nat → Option Value
  | [], _ => none
  | (k, v) :: l, i => if k = i then some v else xget l i
def xdel (lv : xL) (i : Nat) : xL := lv.filter (fun q => !(q.1 == i) && !(q.1 + 1 == i && q.2.category == 2))
def xst1 (lv : xL) (i : Nat) (v : Value) : xL := (i, v) :: xdel lv i
def xst2 (lv : xL) (i : Nat) (v : Value) : xL := (i, v) :: lv.filter (fun q => !(q.1 == i) && (!(q.1 == i + 1) && !(q.1 + 1 == i && q.2.category == 2)))
def xcI (c : ClassFile.Cond) (x y : Int32) : Bool := match c with
  | .eq => decide (x = y)
  | .ne => decide (¬ x = y)
  | .lt => decide (x < y)
  | .ge => decide (y ≤ x)
  | .gt => decide (y < x)
  | .le => decide (x ≤ y)
/-- a field's kind: 0 int, 1 boolean, 2 long, 3 a reference -/
def xfit (t : Nat) (v : Value) : Bool := match t, v with
  | 0, .int _ => true
  | 1, .int x => decide (x = 0) || decide (x = 1)
  | 2, .long _ => true
  | 3, .ref _ => true
  | 3, .null => true
  | _, _ => false
/-- an index within -/
def xin (i : Int32) (n : Nat) : Bool := decide (¬ (i < 0 ∨ n ≤ i.toNatClampNeg))
def xld (j i : Nat) (lv : xL) (st : List Value) (hp : xH) : Option xR := match xget lv i with
  | some v => some (j + 1, lv, v :: st, hp)
  | none => none
def xjmp (t j : Nat) (b : Bool) (lv : xL) (st : List Value) (hp : xH) : Option xR := if b = true then some (t, lv, st, hp) else some (j + 1, lv, st, hp)
/-- loads, constants, arithmetic: nothing of the heap -/
def xsA (nL j : Nat) (i : Instr) (ax : List Nat) (cv : Value) (lv : xL) (st : List Value) (hp : xH) : Option xR := match i, st with
  | .iconst _, st => some (j + 1, lv, cv :: st, hp)
  | .bipush _, st => some (j + 1, lv, cv :: st, hp)
  | .sipush _, st => some (j + 1, lv, cv :: st, hp)
  | .lconst _, st => some (j + 1, lv, cv :: st, hp)
  | .dconst _, st => some (j + 1, lv, cv :: st, hp)
  | .ldc _, st => some (j + 1, lv, cv :: st, hp)
  | .ldc_w _, st => some (j + 1, lv, cv :: st, hp)
  | .ldc2_w _, st => some (j + 1, lv, cv :: st, hp)
  | .aconst_null, st => some (j + 1, lv, .null :: st, hp)
  | .iload_n k, st => match xget lv k with
    | some (.int x) => some (j + 1, lv, .int x :: st, hp)
    | _ => none
  | .iload k, st => match xget lv k with
    | some (.int x) => some (j + 1, lv, .int x :: st, hp)
    | _ => none
  | .lload_n k, st => match xget lv k with
    | some (.long x) => some (j + 1, lv, .long x :: st, hp)
    | _ => none
  | .lload k, st => match xget lv k with
    | some (.long x) => some (j + 1, lv, .long x :: st, hp)
    | _ => none
  | .dload_n k, st => match xget lv k with
    | some (.double x) => some (j + 1, lv, .double x :: st, hp)
    | _ => none
  | .dload k, st => match xget lv k with
    | some (.double x) => some (j + 1, lv, .double x :: st, hp)
    | _ => none
  | .aload_n k, st => match xget lv k with
    | some (.ref x) => some (j + 1, lv, .ref x :: st, hp)
    | _ => none
  | .aload k, st => match xget lv k with
    | some (.ref x) => some (j + 1, lv, .ref x :: st, hp)
    | _ => none
  | .istore_n k, .int x :: st => if (k : Nat) < nL then some (j + 1, xst1 lv k (.int x), st, hp) else none
  | .istore k, .int x :: st => if k < nL then some (j + 1, xst1 lv k (.int x), st, hp) else none
  | .astore_n k, .ref x :: st => if (k : Nat) < nL then some (j + 1, xst1 lv k (.ref x), st, hp) else none
  | .astore k, .ref x :: st => if k < nL then some (j + 1, xst1 lv k (.ref x), st, hp) else none
  | .lstore_n k, .long x :: st => if (k : Nat) + 1 < nL then some (j + 1, xst2 lv k (.long x), st, hp) else none
  | .lstore k, .long x :: st => if k + 1 < nL then some (j + 1, xst2 lv k (.long x), st, hp) else none
  | .dstore_n k, .double x :: st => if (k : Nat) + 1 < nL then some (j + 1, xst2 lv k (.double x), st, hp) else none
  | .dstore k, .double x :: st => if k + 1 < nL then some (j + 1, xst2 lv k (.double x), st, hp) else none
  | .iinc k _, st => match xget lv k, cv with
    | some (.int x), .int d => if k < nL then some (j + 1, xst1 lv k (.int (x + d)), st, hp) else none
    | _, _ => none
  | .iadd, .int y :: .int x :: st => some (j + 1, lv, .int (x + y) :: st, hp)
  | .isub, .int y :: .int x :: st => some (j + 1, lv, .int (x - y) :: st, hp)
  | .imul, .int y :: .int x :: st => some (j + 1, lv, .int (x * y) :: st, hp)
  | .iand, .int y :: .int x :: st => some (j + 1, lv, .int (x &&& y) :: st, hp)
  | .ior, .int y :: .int x :: st => some (j + 1, lv, .int (x ||| y) :: st, hp)
  | .idiv, .int y :: .int x :: st => if y = 0 then none else some (j + 1, lv, .int (x / y) :: st, hp)
  | .irem, .int y :: .int x :: st => if y = 0 then none else some (j + 1, lv, .int (x - x / y * y) :: st, hp)
  | .ineg, .int x :: st => some (j + 1, lv, .int (-x) :: st, hp)
  | .ishl, .int y :: .int x :: st => some (j + 1, lv, .int (x <<< (y &&& 31)) :: st, hp)
  | .ishr, .int y :: .int x :: st => some (j + 1, lv, .int (x >>> (y &&& 31)) :: st, hp)
  | .ladd, .long y :: .long x :: st => some (j + 1, lv, .long (x + y) :: st, hp)
  | .lsub, .long y :: .long x :: st => some (j + 1, lv, .long (x - y) :: st, hp)
  | .lmul, .long y :: .long x :: st => some (j + 1, lv, .long (x * y) :: st, hp)
  | .lshl, .int y :: .long x :: st => some (j + 1, lv, .long (x <<< (y.toInt64 &&& 63)) :: st, hp)
  | .lcmp, .long y :: .long x :: st => some (j + 1, lv, .int (lg_cmp x y) :: st, hp)
  | .i2l, .int x :: st => some (j + 1, lv, .long x.toInt64 :: st, hp)
  | .i2c, .int x :: st => some (j + 1, lv, .int (x.toUInt32 % 65536).toInt32 :: st, hp)
  | .i2d, .int x :: st => some (j + 1, lv, .double (FP.i2d x) :: st, hp)
  | .d2l, .double x :: st => some (j + 1, lv, .long (FP.d2l x) :: st, hp)
  | .dsub, .double y :: .double x :: st => if FP.dsub x y &&& 0x7fffffffffffffff ≤ 0x7ff0000000000000 then some (j + 1, lv, .double (FP.dsub x y) :: st, hp) else none
  | .dmul, .double y :: .double x :: st => if FP.dmul x y &&& 0x7fffffffffffffff ≤ 0x7ff0000000000000 then some (j + 1, lv, .double (FP.dmul x y) :: st, hp) else none
  | .ddiv, .double y :: .double x :: st => if FP.ddiv x y &&& 0x7fffffffffffffff ≤ 0x7ff0000000000000 then some (j + 1, lv, .double (FP.ddiv x y) :: st, hp) else none
  | .dcmp op, .double y :: .double x :: st => some (j + 1, lv, .int (Op.cmpValue (FP.dcmp x y) op) :: st, hp)
  | .dup, v :: st => if v.category = 1 then some (j + 1, lv, v :: v :: st, hp) else none
  | .pop, v :: st => if v.category = 1 then some (j + 1, lv, st, hp) else none
  | .dup_x1, v :: w :: st => if v.category = 1 ∧ w.category = 1 then some (j + 1, lv, v :: w :: v :: st, hp) else none
  | .dup2, v :: w :: st => if v.category = 1 ∧ w.category = 1 then some (j + 1, lv, v :: w :: v :: w :: st, hp) else none
  | .ifCond c _, .int x :: st => xjmp (ax.headD 0) j (xcI c x 0) lv st hp
  | .if_icmp c _, .int y :: .int x :: st => xjmp (ax.headD 0) j (xcI c x y) lv st hp
  | .goto _, st => some (ax.headD 0, lv, st, hp)
  | .tableswitch _ lo hi _, .int x :: st => if x.toInt < lo ∨ hi < x.toInt then some (ax.headD 0, lv, st, hp) else some (ax.getD ((x.toInt - lo).toNat + 1) 0, lv, st, hp)
  | _, _ => none
/-- the fields of a new object, by its class's number -/
def xdef (ci : Nat) : List Value := match ci with
  | 0 => [.int 0, .null, .int 0]
  | 1 => [.null]
  | 2 => [.null]
  | 3 => [.null, .null, .null, .null, .null, .null, .null, .null, .int 0, .int 0, .int 0]
  | 4 => [.null, .null, .int 0, .int 0, .int 0, .int 0, .int 0]
  | 5 => [.null, .int 0, .int 0, .null, .int 0, .int 0]
  | 6 => [.null, .null, .int 0, .int 0, .int 0, .int 0, .int 0]
  | 7 => [.null, .int 0]
  | 8 => [.null, .null, .null, .int 0, .null, .int 0, .null, .null, .int 0, .null, .null]
  | 9 => [.null]
  | _ => []
def xObj : String := "java/lang/Object"
/-- what a place of an array of objects may take: null, or a state -/
def xisS (hp : xH) (v : Value) : Bool := match v with
  | .null => true
  | .ref a => match hp.2.2 a with
    | some (.inr (ci, _)) => ci == 6
    | _ => false
  | _ => false
def xisI (v : Value) : Bool := match v with
  | .int _ => true
  | _ => false
/-- fields, arrays, new cells -/
def xsB (j : Nat) (i : Instr) (ax : List Nat) (cv : Value) (lv : xL) (st : List Value) (hp : xH) : Option xR := match i, st with
  | .getstatic _, st => some (j + 1, lv, cv :: st, hp)
  | .getfield _, .ref a :: st => match hp.2.2 a with
    | some (.inr (ci, fs)) => if ci = ax.headD 0 then (match fs[ax.getD 1 0]? with
      | some v => some (j + 1, lv, v :: st, hp)
      | none => none) else none
    | _ => none
  | .putfield _, v :: .ref a :: st => match hp.2.2 a with
    | some (.inr (ci, fs)) => if ci = ax.headD 0 ∧ xNC ≤ a ∧ ax.getD 1 0 < fs.length ∧ xfit (ax.getD 2 0) v = true then some (j + 1, lv, st, xput hp a (.inr (ci, fs.set (ax.getD 1 0) v))) else none
    | _ => none
  | .arraylength, .ref a :: st => match hp.2.2 a with
    | some (.inl (_, n, _)) => some (j + 1, lv, .int (Int32.ofNat n) :: st, hp)
    | _ => none
  | .iaload, .int i :: .ref a :: st => match hp.2.2 a with
    | some (.inl (.int, n, f)) => if xin i n = true then some (j + 1, lv, f i.toNatClampNeg :: st, hp) else none
    | _ => none
  | .laload, .int i :: .ref a :: st => match hp.2.2 a with
    | some (.inl (.long, n, f)) => if xin i n = true then some (j + 1, lv, f i.toNatClampNeg :: st, hp) else none
    | _ => none
  | .baload, .int i :: .ref a :: st => match hp.2.2 a with
    | some (.inl (.byte, n, f)) => if xin i n = true then some (j + 1, lv, f i.toNatClampNeg :: st, hp) else none
    | _ => none
  | .aaload, .int i :: .ref a :: st => match hp.2.2 a with
    | some (.inl (.object _, n, f)) => if xin i n = true then some (j + 1, lv, f i.toNatClampNeg :: st, hp) else none
    | _ => none
  | .iastore, .int x :: .int i :: .ref a :: st => match hp.2.2 a with
    | some (.inl (.int, n, f)) => if xin i n = true ∧ xNC ≤ a then some (j + 1, lv, st, xput hp a (.inl (.int, n, updV f i.toNatClampNeg (.int x)))) else none
    | _ => none
  | .lastore, .long x :: .int i :: .ref a :: st => match hp.2.2 a with
    | some (.inl (.long, n, f)) => if xin i n = true ∧ xNC ≤ a then some (j + 1, lv, st, xput hp a (.inl (.long, n, updV f i.toNatClampNeg (.long x)))) else none
    | _ => none
  | .aastore, v :: .int i :: .ref a :: st => match hp.2.2 a with
    | some (.inl (.object C, n, f)) => if xin i n = true ∧ xNC ≤ a ∧ C = xObj ∧ xisS hp v = true then some (j + 1, lv, st, xput hp a (.inl (.object C, n, updV f i.toNatClampNeg v))) else none
    | _ => none
  | .if_acmp c _, .ref b :: .ref a :: st => if a = b ∨ (a < 8 ∧ b < 8 ∧ (hp.2.2 a).isSome = true ∧ (hp.2.2 b).isSome = true) then xjmp (ax.headD 0) j (match c with
      | .eq => decide (a = b)
      | .ne => decide (¬ a = b)) lv st hp else none
  | .new _, st => some (j + 1, lv, .ref hp.1 :: st, xnew hp (.inr (ax.headD 0, xdef (ax.headD 0))) (ax.getD 1 0))
  | .newarray .int, .int n :: st => if n < 0 ∨ 1000 < n.toNatClampNeg then none else some (j + 1, lv, .ref hp.1 :: st, xnew hp (.inl (.int, n.toNatClampNeg, fun _ => .int 0)) n.toNatClampNeg)
  | .newarray .long, .int n :: st => if n < 0 ∨ 1000 < n.toNatClampNeg then none else some (j + 1, lv, .ref hp.1 :: st, xnew hp (.inl (.long, n.toNatClampNeg, fun _ => .long 0)) n.toNatClampNeg)
  | .anewarray _, .int n :: st => if n < 0 ∨ 1000 < n.toNatClampNeg then none else some (j + 1, lv, .ref hp.1 :: st, xnew hp (.inl (.object xObj, n.toNatClampNeg, fun _ => .null)) n.toNatClampNeg)
  | .checkcast _, .ref a :: st => match hp.2.2 a with
    | some (.inr (ci, _)) => if ci = ax.headD 0 then some (j + 1, lv, .ref a :: st, hp) else none
    | _ => none
  | _, _ => none
/-- System.arraycopy of ints, or of states -/
def xcopy (j : Nat) (lv : xL) (st : List Value) (hp : xH) : Option xR := match st with
  | .int n :: .int dp :: .ref b :: .int sp :: .ref a :: st => match hp.2.2 a, hp.2.2 b with
    | some (.inl (.int, n0, f)), some (.inl (.int, n1, g)) => if ¬ sp < 0 ∧ ¬ dp < 0 ∧ ¬ n < 0 ∧ sp.toNatClampNeg + n.toNatClampNeg ≤ n0 ∧ dp.toNatClampNeg + n.toNatClampNeg ≤ n1 ∧ xNC ≤ a ∧ xNC ≤ b ∧ (st.map fun v => v.category).sum ≤ 8 ∧ (List.range n.toNatClampNeg).all (fun i => xisI (f (sp.toNatClampNeg + i))) = true
      then some (j + 1, lv, st, xput hp b (.inl (.int, n1, va_cpy f g sp.toNatClampNeg dp.toNatClampNeg n.toNatClampNeg))) else none
    | some (.inl (.object C, n0, f)), some (.inl (.object D, n1, g)) => if ¬ sp < 0 ∧ ¬ dp < 0 ∧ ¬ n < 0 ∧ sp.toNatClampNeg + n.toNatClampNeg ≤ n0 ∧ dp.toNatClampNeg + n.toNatClampNeg ≤ n1 ∧ xNC ≤ a ∧ xNC ≤ b ∧ (st.map fun v => v.category).sum ≤ 8 ∧ D = xObj ∧ (List.range n.toNatClampNeg).all (fun i => xisS hp (f (sp.toNatClampNeg + i))) = true
      then some (j + 1, lv, st, xput hp b (.inl (.object D, n1, va_cpy f g sp.toNatClampNeg dp.toNatClampNeg n.toNatClampNeg))) else none
    | _, _ => none
  | _ => none
/-- one instruction that calls nothing of ours: kind 0; Object.<init>: kind 4; arraycopy: kind 5; doubleToRawLongBits: kind 6; kind 7: of the heap; Math.max, min, abs: kind 8 -/
def xstp (nL kd j : Nat) (i : Instr) (ax : List Nat) (cv : Value) (lv : xL) (st : List Value) (hp : xH) : Option xR := match kd with
  | 0 => xsA nL j i ax cv lv st hp
  | 7 => xsB j i ax cv lv st hp
  | 4 => match st with
    | .ref a :: st => if (hp.2.2 a).isSome = true ∧ (st.map fun v => v.category).sum ≤ 8 then some (j + 1, lv, st, hp) else none
    | _ => none
  | 5 => xcopy j lv st hp
  | 8 => match ax.headD 9, st with
    | 0, .int y :: .int x :: st => if (st.map fun v => v.category).sum ≤ 8 then some (j + 1, lv, .int (if x < y then y else x) :: st, hp) else none
    | 1, .int y :: .int x :: st => if (st.map fun v => v.category).sum ≤ 8 then some (j + 1, lv, .int (if y < x then y else x) :: st, hp) else none
    | 2, .int x :: st => if (st.map fun v => v.category).sum ≤ 8 then some (j + 1, lv, .int (if 0 ≤ x then x else 0 - x) :: st, hp) else none
    | _, _ => none
  | _ => none
/-- what a return hands back: the kind of the method's answer: 0 none, 1 int, 2 boolean, 3 long, 4 double, 5 a reference, 6 byte, 7 char -/
def xret (rk : Nat) (i : Instr) (st : List Value) : Option (Option Value) := match i, rk, st with
  | .return_, 0, [] => some none
  | .ireturn, 1, [.int x] => some (some (.int x))
  | .ireturn, 2, [.int x] => if x = 0 ∨ x = 1 then some (some (.int x)) else none
  | .ireturn, 6, [.int x] => if x.toInt8.toInt32 = x then some (some (.int x)) else none
  | .ireturn, 7, [.int x] => if (x.toUInt32 % 65536).toInt32 = x then some (some (.int x)) else none
  | .lreturn, 3, [.long x] => some (some (.long x))
  | .dreturn, 4, [.double x] => some (some (.double x))
  | .areturn, 5, [.ref x] => some (some (.ref x))
  | _, _, _ => none
/-- the receiver of a call is an object of the class that is expected -/
def xrcv (md ci : Nat) (as : List Value) (hp : xH) : Bool := match md, as with
  | 0, .ref a :: _ => match hp.2.2 a with
    | some (.inr (c, _)) => c == ci
    | _ => false
  | 1, _ => true
  | 2, .ref a :: _ => (hp.2.2 a).isSome
  | 3, .ref a :: _ => (hp.2.2 a).isSome
  | _, _ => false
/-- a handler of a method: from pc, to pc, the class's number, the local that takes what was thrown, the instruction behind -/
abbrev xX : Type := Nat × Nat × Nat × Nat × Nat
def xcatch (hs : List xX) (pc E : Nat) : Option (Nat × Nat) := match hs with
  | [] => none
  | (a, b, c, v, t) :: hs => if a ≤ pc ∧ pc < b ∧ c = E then some (v, t) else xcatch hs pc E
/-- a method: its code, how many locals, its answer's kind, its handlers -/
abbrev xM : Type := List xE × Nat × Nat × List xX
