/-! THE SMALL MACHINE: what the rows of 03.code do over objects by number. A reference is an object's number (0..148: made by the run in this order; 1000 and on: constants; 2000: the script). -/
abbrev mv_V : Type := List (Nat × Value)
abbrev mv_H : Type := Nat → Nat → Value
/-- how often something was thrown, how many objects there are, what they hold -/
abbrev mv_S : Type := Nat × Nat × mv_H
abbrev mv_R : Type := (Option Value ⊕ Nat) × mv_S
abbrev mv_A : Type := (Nat × mv_V × List Value × mv_S) ⊕ (mv_R ⊕ (Nat × List Value × List Value))
def mv_ck (x : Nat) : Nat × Nat := if x % 8 = 0 then (1, 8) else if x % 8 = 1 then (24, 5) else if x % 8 = 2 then (20, 12) else (0, 9)
/-- the kind of each object, by its number, and its length -/
def mv_kd (o : Nat) : Nat × Nat :=
  if o < 33 then (if o = 0 then (7, 12) else mv_ck (o - 1)) else if o < 99 then (if o = 33 then (2, 3) else if o = 34 then (25, 8) else mv_ck (o - 35))
  else if o < 133 then (if o = 99 then (4, 1) else if o = 100 then (25, 4) else mv_ck (o - 101))
  else if o = 133 then (6, 4) else if o = 134 then (20, 5) else if o = 135 then (20, 5) else if o = 136 then (20, 100)
  else if o = 137 then (5, 6) else if o = 138 then (21, 60) else if o = 139 then (20, 3) else if o = 140 then (3, 2) else if o = 141 then (21, 54)
  else if o = 142 then (8, 16) else if o = 143 then (20, 1071) else if o = 144 then (21, 60) else if o = 145 then (20, 244) else if o = 146 then (21, 120)
  else if o = 147 then (22, 1) else (23, 1)
def mv_up (h : mv_H) (o k : Nat) (v : Value) : mv_H := fun p j => if p = o ∧ j = k then v else h p j
def mv_upo (h : mv_H) (o : Nat) (f : Nat → Value) : mv_H := fun p j => if p = o then f j else h p j
def mv_is (n o c : Nat) : Bool := decide (o < n) && decide ((mv_kd o).1 = c)
def mv_ix (i : Int32) (n : Nat) : Bool := decide (¬ (i < 0 ∨ n ≤ i.toNatClampNeg))
def mv_f1 (i : Nat) (ls : mv_V) : mv_V := ls.filter (fun q => !(q.1 == i) && !(q.1 + 1 == i && q.2.category == 2))
def mv_f2 (i : Nat) (ls : mv_V) : mv_V := ls.filter (fun q => !(q.1 == i) && (!(q.1 == i + 1) && !(q.1 + 1 == i && q.2.category == 2)))
def mv_lk (i : Nat) : mv_V → Option Value
  | [] => none
  | (j, v) :: l => if j = i then some v else mv_lk i l
def mv_nx (pc : Nat) (ls : mv_V) (st : List Value) (σ : mv_S) : Option mv_A := some (.inl (pc, ls, st, σ))
/-- the type of each slot -/
def mv_ty (a k : Nat) : FieldType := match a with
  | 0 => tyX1 k | 1 => tyX2 k | 2 => tyX5 k | 3 => tyX6 k | 4 => tyX7 k | 5 => tyX8 k | 6 => tyX9 k | 7 => tyX10 k | 8 => tyJ4 k | _ => tyJ0 k
def mv_fin (a k : Nat) : Bool := match a with
  | 0 => (TX1 k).2.2.2 | 1 => (TX2 k).2.2.2 | 2 => (TX5 k).2.2.2 | 3 => (TX6 k).2.2.2 | 4 => (TX7 k).2.2.2 | 5 => (TX8 k).2.2.2 | 6 => (TX9 k).2.2.2 | 7 => (TX10 k).2.2.2 | 8 => (TJ4 k).2.2.2 | _ => (TJ0 k).2.2.2
/-- a value fits its slot -/
def mv_fit (ty : FieldType) (v : Value) : Bool := match ty, v with
  | .int, .int _ => true
  | .boolean, .int x => decide (x = 0) || decide (x = 1)
  | .long, .long _ => true
  | .object _, .ref _ => true
  | .array _, .ref _ => true
  | _, _ => false
def mv_ch (x : Int32) : Int32 := (x.toUInt32 % 65536).toInt32
/-- the compiler's row for a switch over the commands -/
def mv_sm (i : Nat) : Nat := if i < 5 then i + 1 else if i = 5 then 0 else i
def mv_cmp (c : ClassFile.Cond) (x y : Int32) : Bool := match c with
  | .eq => decide (x = y) | .ne => decide (¬ x = y) | .lt => decide (x < y) | .ge => decide (y ≤ x) | .gt => decide (y < x) | .le => decide (x ≤ y)
/-- the kind of the objects of each method's class (99: the law's own) -/
noncomputable def mv_cns : List Nat := [0, 0, 0, 0, 0, 0, 1, 1, 1, 1, 1, 1, 1, 1, 1, 1, 1, 1, 1, 1, 1, 1, 1, 1, 1, 1, 1, 1, 1, 1, 1, 1, 1, 1, 1, 1, 1, 1, 1, 2, 2, 3, 3, 3, 3, 4, 4, 4, 4, 4, 4, 5, 6, 6, 6, 6, 6, 6, 6, 6, 7, 7, 7, 7, 7, 7, 7, 7, 7, 7, 7, 7, 7, 7, 7, 7, 7, 7, 7, 7, 7, 7, 7, 7, 7, 7, 7, 7, 7, 7, 7, 7, 7, 7, 7, 7, 7, 7, 7, 7, 7, 7, 7, 7, 7, 7, 7, 7, 7, 7, 7, 99, 99, 99, 99, 99, 99, 99, 99, 99, 99, 99, 99, 99, 99, 99, 99, 99]
noncomputable def mv_cn (M : Nat) : Nat := mv_cns.getD M 99
noncomputable def mv_rcv (as : List Value) (n a : Nat) : Bool := match as with
  | .ref o :: _ => mv_is n o (mv_cn a)
  | _ => false
def mv_ac (c : ClassFile.ACond) (x y : Nat) : Bool := match c with | .eq => decide (x = y) | .ne => decide (¬ x = y)
section MV
variable (L : Nat) (xs : Nat → Int32)
/-- a load: of ints, longs, floats, doubles, references (null too) -/
def mv_ld (t : Nat) (v : Option Value) (nx : Nat) (ls : mv_V) (st : List Value) (σ : mv_S) : Option mv_A := match t, v with
  | 0, some (.int x) => mv_nx nx ls (.int x :: st) σ
  | 1, some (.long x) => mv_nx nx ls (.long x :: st) σ
  | 2, some (.float x) => mv_nx nx ls (.float x :: st) σ
  | 3, some (.double x) => mv_nx nx ls (.double x :: st) σ
  | 4, some (.ref x) => mv_nx nx ls (.ref x :: st) σ
  | 4, some .null => mv_nx nx ls (.null :: st) σ
  | _, _ => none
def mv_so (t i nx : Nat) (ls : mv_V) (st : List Value) (σ : mv_S) : Option mv_A := match t, st with
  | 0, .int x :: st => mv_nx nx ((i, .int x) :: mv_f1 i ls) st σ
  | 1, .long x :: st => mv_nx nx ((i, .long x) :: mv_f2 i ls) st σ
  | 2, .float x :: st => mv_nx nx ((i, .float x) :: mv_f1 i ls) st σ
  | 3, .double x :: st => mv_nx nx ((i, .double x) :: mv_f2 i ls) st σ
  | 4, .ref x :: st => mv_nx nx ((i, .ref x) :: mv_f1 i ls) st σ
  | 4, .null :: st => mv_nx nx ((i, .null) :: mv_f1 i ls) st σ
  | _, _ => none
def mv_get (a b nx : Nat) (ls : mv_V) (st : List Value) (σ : mv_S) : Option mv_A := match st with
  | .ref o :: st => if mv_is σ.2.1 o a = true then mv_nx nx ls (σ.2.2 o b :: st) σ else none
  | _ => none
def mv_put (a b nx : Nat) (ls : mv_V) (st : List Value) (σ : mv_S) : Option mv_A := match st with
  | v :: .ref o :: st => if mv_is σ.2.1 o a = true ∧ mv_fit (mv_ty a b) v = true then mv_nx nx ls st (σ.1, σ.2.1, mv_up σ.2.2 o b v) else none
  | _ => none
/-- a load out of an array of kind t -/
def mv_al (t nx : Nat) (ls : mv_V) (st : List Value) (σ : mv_S) : Option mv_A := match st with
  | .int i :: .ref o :: st =>
    if o < 142 then
      (if mv_is σ.2.1 o t = true ∧ mv_ix i (mv_kd o).2 = true then match t, σ.2.2 o i.toNatClampNeg with
        | 20, .int x => mv_nx nx ls (.int x :: st) σ
        | 21, .int x => mv_nx nx ls (.int x :: st) σ
        | 24, .ref x => mv_nx nx ls (.ref x :: st) σ
        | 25, .ref x => mv_nx nx ls (.ref x :: st) σ
        | _, _ => none else none)
    else if o = 1021 then (if t = 20 ∧ mv_ix i 8 = true then mv_nx nx ls (.int (nI (mv_sm i.toNatClampNeg)) :: st) σ else none)
    else if o = 2000 then (if t = 20 ∧ mv_ix i L = true then mv_nx nx ls (.int (xs i.toNatClampNeg) :: st) σ else none)
    else none
  | _ => none
/-- an aaload: the kind by the object -/
def mv_aa (nx : Nat) (ls : mv_V) (st : List Value) (σ : mv_S) : Option mv_A := match st with
  | .int _ :: .ref o :: _ => if o < 142 ∧ ¬ (mv_kd o).1 = 24 ∧ ¬ (mv_kd o).1 = 25 then none else mv_al L xs (if o < 142 then (mv_kd o).1 else 24) nx ls st σ
  | _ => none
def mv_as (t nx : Nat) (ls : mv_V) (st : List Value) (σ : mv_S) : Option mv_A := match st with
  | v :: .int i :: .ref o :: st =>
    if σ.2.1 = 142 ∧ mv_is σ.2.1 o t = true ∧ mv_ix i (mv_kd o).2 = true then match t, v with
      | 20, .int x => mv_nx nx ls st (σ.1, σ.2.1, mv_up σ.2.2 o i.toNatClampNeg (.int x))
      | 21, .int x => mv_nx nx ls st (σ.1, σ.2.1, mv_up σ.2.2 o i.toNatClampNeg (.int (mv_ch x)))
      | _, _ => none else none
  | _ => none
/-- an aastore: of a Basin into a row of Basins, of a Chain into a row of Chains -/
def mv_aas (nx : Nat) (ls : mv_V) (st : List Value) (σ : mv_S) : Option mv_A := match st with
  | .ref v :: .int i :: .ref o :: st =>
    if o < σ.2.1 ∧ v < σ.2.1 ∧ mv_ix i (mv_kd o).2 = true ∧ (((mv_kd o).1 = 24 ∧ (mv_kd v).1 = 0) ∨ ((mv_kd o).1 = 25 ∧ (mv_kd v).1 = 1)) then mv_nx nx ls st (σ.1, σ.2.1, mv_up σ.2.2 o i.toNatClampNeg (.ref v)) else none
  | _ => none
def mv_len (nx : Nat) (ls : mv_V) (st : List Value) (σ : mv_S) : Option mv_A := match st with
  | .ref o :: st => if o < 142 then (if o < σ.2.1 ∧ 20 ≤ (mv_kd o).1 then mv_nx nx ls (.int (nI (mv_kd o).2) :: st) σ else none)
    else if o = 2000 then mv_nx nx ls (.int (nI L) :: st) σ else none
  | _ => none
def mv_new (a nx : Nat) (ls : mv_V) (st : List Value) (σ : mv_S) : Option mv_A :=
  if a = 99 then none else if σ.2.1 < 142 ∧ a < 8 ∧ (mv_kd σ.2.1).1 = a then mv_nx nx ls (.ref σ.2.1 :: st) (σ.1, σ.2.1 + 1, mv_upo σ.2.2 σ.2.1 (fun k => defaultValue (mv_ty a k))) else none
def mv_dv (a : Nat) : Value := if a = 22 then .long 0 else if a = 23 then .double 0 else if a = 24 then .null else if a = 25 then .null else .int 0
def mv_nwa (a nx : Nat) (ls : mv_V) (st : List Value) (σ : mv_S) : Option mv_A := match st with
  | .int x :: st => if σ.2.1 < 142 ∧ ¬ x < 0 ∧ (a = 20 ∨ a = 21 ∨ a = 24 ∨ a = 25) ∧ mv_kd σ.2.1 = (a, x.toNatClampNeg) then mv_nx nx ls (.ref σ.2.1 :: st) (σ.1, σ.2.1 + 1, mv_upo σ.2.2 σ.2.1 (fun _ => mv_dv a)) else none
  | _ => none
def mv_sw2 (p nx : Nat) (d lo hi : Int) (offs : Array Int) (ls : mv_V) (st : List Value) (σ : mv_S) : Option mv_A := match st with
  | .int x :: st => if x.toInt < lo ∨ hi < x.toInt then (if 0 ≤ (p : Int) + d then mv_nx ((p : Int) + d).toNat ls st σ else none)
    else match offs[(x.toInt - lo).toNat]? with
      | some off => if 0 ≤ (p : Int) + off then mv_nx ((p : Int) + off).toNat ls st σ else none
      | none => none
  | _ => none
/-- a call: of a method of 03.code, or of one of the JDK's -/
noncomputable def mv_call (kk : Nat) (a b nx : Nat) (ls : mv_V) (st : List Value) (σ : mv_S) : Option mv_A :=
  if a < 900 then (if b ≤ st.length ∧ ((st.drop b).map (fun v => v.category)).sum ≤ 8 ∧ ((st.take b).all (fun v => decide (v.category = 1))) = true ∧ (kk = 0 ∨ mv_rcv ((st.take b).reverse) σ.2.1 a = true)
    then some (.inr (.inr (a, (st.take b).reverse, st.drop b))) else none)
  else match kk, a, st with
  | 0, 900, .int y :: .int x :: st => if (st.map (fun v => v.category)).sum ≤ 8 then mv_nx nx ls (.int (if y < x then y else x) :: st) σ else none
  | 0, 901, .int y :: .int x :: st => if (st.map (fun v => v.category)).sum ≤ 8 then mv_nx nx ls (.int (if x < y then y else x) :: st) σ else none
  | 1, 902, .ref o :: st => if 1000 ≤ o ∧ o < 1008 ∧ (st.map (fun v => v.category)).sum ≤ 8 then mv_nx nx ls (.int (nI (o - 1000)) :: st) σ else none
  | 2, 905, .ref _ :: st => if (st.map (fun v => v.category)).sum ≤ 8 then mv_nx nx ls st σ else none
  | _, _, _ => none
def mv_r1 (a : Nat) (st : List Value) (σ : mv_S) : Option mv_A := match st with
  | [.int v] => if a = 0 ∨ (a = 1 ∧ (v = 0 ∨ v = 1)) ∨ (a = 2 ∧ mv_ch v = v) then some (.inr (.inl (.inl (some (.int v)), σ))) else none
  | _ => none
def mv_rt (v : Option Value) (σ : mv_S) : Option mv_A := some (.inr (.inl (.inl v, σ)))
def mv_n64 (x : UInt64) : Bool := decide (x &&& 0x7fffffffffffffff ≤ 0x7ff0000000000000)
def mv_n32 (x : UInt32) : Bool := decide (x &&& 0x7fffffff ≤ 0x7f800000)
/-- one row -/
noncomputable def mv_stp (r : mv_I) (ls : mv_V) (st : List Value) (σ : mv_S) : Option mv_A := match r with
  | (i, nx, a, b, _) => match i, st with
    | .iconst n, st => mv_nx nx ls (.int (Int32.ofInt n) :: st) σ
    | .bipush n, st => mv_nx nx ls (.int (Int8.ofInt n).toInt32 :: st) σ
    | .sipush n, st => mv_nx nx ls (.int (Int16.ofInt n).toInt32 :: st) σ
    | .ldc _, st => if a = 1 then mv_nx nx ls (.int (Int32.ofNat b) :: st) σ else none
    | .lconst n, st => mv_nx nx ls (.long (Int64.ofNat (n : Nat)) :: st) σ
    | .dconst n, st => if n = 0 then mv_nx nx ls (.double 0 :: st) σ else none
    | .fconst n, st => if n = 0 then mv_nx nx ls (.float 0 :: st) σ else none
    | .aconst_null, st => mv_nx nx ls (.null :: st) σ
    | .iload_n k, st => mv_ld 0 (mv_lk k ls) nx ls st σ
    | .iload k, st => mv_ld 0 (mv_lk k ls) nx ls st σ
    | .lload_n k, st => mv_ld 1 (mv_lk k ls) nx ls st σ
    | .fload k, st => mv_ld 2 (mv_lk k ls) nx ls st σ
    | .dload_n k, st => mv_ld 3 (mv_lk k ls) nx ls st σ
    | .dload k, st => mv_ld 3 (mv_lk k ls) nx ls st σ
    | .aload_n k, st => mv_ld 4 (mv_lk k ls) nx ls st σ
    | .aload k, st => mv_ld 4 (mv_lk k ls) nx ls st σ
    | .istore_n k, st => mv_so 0 k nx ls st σ
    | .istore k, st => mv_so 0 k nx ls st σ
    | .lstore_n k, st => mv_so 1 k nx ls st σ
    | .fstore k, st => mv_so 2 k nx ls st σ
    | .dstore_n k, st => mv_so 3 k nx ls st σ
    | .dstore k, st => mv_so 3 k nx ls st σ
    | .astore_n k, st => mv_so 4 k nx ls st σ
    | .astore k, st => mv_so 4 k nx ls st σ
    | .iinc k n, st => match mv_lk k ls with
      | some (.int x) => mv_nx nx ((k, .int (x + Int32.ofInt n)) :: mv_f1 k ls) st σ
      | _ => none
    | .iadd, .int y :: .int x :: st => mv_nx nx ls (.int (x + y) :: st) σ
    | .isub, .int y :: .int x :: st => mv_nx nx ls (.int (x - y) :: st) σ
    | .imul, .int y :: .int x :: st => mv_nx nx ls (.int (x * y) :: st) σ
    | .idiv, .int y :: .int x :: st => if y = 0 then none else mv_nx nx ls (.int (x / y) :: st) σ
    | .irem, .int y :: .int x :: st => if y = 0 then none else mv_nx nx ls (.int (x - x / y * y) :: st) σ
    | .ineg, .int x :: st => mv_nx nx ls (.int (-x) :: st) σ
    | .iand, .int y :: .int x :: st => mv_nx nx ls (.int (x &&& y) :: st) σ
    | .ishl, .int y :: .int x :: st => mv_nx nx ls (.int (x <<< (y &&& 31)) :: st) σ
    | .ishr, .int y :: .int x :: st => mv_nx nx ls (.int (x >>> (y &&& 31)) :: st) σ
    | .iushr, .int y :: .int x :: st => mv_nx nx ls (.int (x.toUInt32 >>> (y.toUInt32 &&& (31 : Int32).toUInt32)).toInt32 :: st) σ
    | .ladd, .long y :: .long x :: st => mv_nx nx ls (.long (x + y) :: st) σ
    | .lsub, .long y :: .long x :: st => mv_nx nx ls (.long (x - y) :: st) σ
    | .lcmp, .long y :: .long x :: st => mv_nx nx ls (.int (lg_cmp x y) :: st) σ
    | .i2l, .int x :: st => mv_nx nx ls (.long x.toInt64 :: st) σ
    | .l2i, .long x :: st => mv_nx nx ls (.int x.toInt32 :: st) σ
    | .i2c, .int x :: st => mv_nx nx ls (.int (mv_ch x) :: st) σ
    | .i2d, .int x :: st => mv_nx nx ls (.double (FP.i2d x) :: st) σ
    | .i2f, .int x :: st => mv_nx nx ls (.float (FP.i2f x) :: st) σ
    | .f2d, .float x :: st => if mv_n64 (FP.f2d x) = true then mv_nx nx ls (.double (FP.f2d x) :: st) σ else none
    | .dadd, .double y :: .double x :: st => if mv_n64 (FP.dadd x y) = true then mv_nx nx ls (.double (FP.dadd x y) :: st) σ else none
    | .ddiv, .double y :: .double x :: st => if mv_n64 (FP.ddiv x y) = true then mv_nx nx ls (.double (FP.ddiv x y) :: st) σ else none
    | .fdiv, .float y :: .float x :: st => if mv_n32 (FP.fdiv x y) = true then mv_nx nx ls (.float (FP.fdiv x y) :: st) σ else none
    | .dcmp o, .double y :: .double x :: st => mv_nx nx ls (.int (Op.cmpValue (FP.dcmp x y) o) :: st) σ
    | .fcmp o, .float y :: .float x :: st => mv_nx nx ls (.int (Op.cmpValue (FP.fcmp x y) o) :: st) σ
    | .dup, v :: st => if v.category = 1 then mv_nx nx ls (v :: v :: st) σ else none
    | .dup2, v :: u :: st => if v.category = 1 ∧ u.category = 1 then mv_nx nx ls (v :: u :: v :: u :: st) σ else none
    | .pop, v :: st => if v.category = 1 then mv_nx nx ls st σ else none
    | .goto _, st => mv_nx a ls st σ
    | .if_icmp c _, .int y :: .int x :: st => mv_nx (if mv_cmp c x y = true then a else nx) ls st σ
    | .ifCond c _, .int x :: st => mv_nx (if mv_cmp c x 0 = true then a else nx) ls st σ
    | .if_acmp c _, .ref y :: .ref x :: st => if 1000 ≤ x ∧ x < 1014 ∧ 1000 ≤ y ∧ y < 1014 then mv_nx (if mv_ac c x y = true then a else nx) ls st σ else none
    | .ifnonnull _, .ref _ :: st => mv_nx a ls st σ
    | .ifnonnull _, .null :: st => mv_nx nx ls st σ
    | .getfield _, st => mv_get a b nx ls st σ
    | .putfield _, st => mv_put a b nx ls st σ
    | .getstatic _, st => mv_nx nx ls (.ref a :: st) σ
    | .iaload, st => mv_al L xs 20 nx ls st σ
    | .caload, st => mv_al L xs 21 nx ls st σ
    | .aaload, st => mv_aa L xs nx ls st σ
    | .iastore, st => mv_as 20 nx ls st σ
    | .castore, st => mv_as 21 nx ls st σ
    | .aastore, st => mv_aas nx ls st σ
    | .arraylength, st => mv_len L nx ls st σ
    | .new _, st => if a = 99 then (if σ.2.1 = 142 ∧ (st.map (fun v => v.category)).sum ≤ 8 then some (.inr (.inl (.inr b, (σ.1 + 1, σ.2)))) else none) else mv_new a nx ls st σ
    | .newarray _, st => mv_nwa a nx ls st σ
    | .anewarray _, st => mv_nwa a nx ls st σ
    | .tableswitch d lo hi offs, st => mv_sw2 a nx d lo hi offs ls st σ
    | .invokevirtual _, st => mv_call 1 a b nx ls st σ
    | .invokestatic _, st => mv_call 0 a b nx ls st σ
    | .invokespecial _, st => mv_call 2 a b nx ls st σ
    | .ireturn, st => mv_r1 a st σ
    | .lreturn, [.long v] => mv_rt (some (.long v)) σ
    | .freturn, [.float v] => mv_rt (some (.float v)) σ
    | .dreturn, [.double v] => mv_rt (some (.double v)) σ
    | .areturn, [.ref v] => mv_rt (some (.ref v)) σ
    | .areturn, [.null] => mv_rt (some .null) σ
    | .return_, [] => mv_rt none σ
    | _, _ => none
/-- where a throw of E at pc goes on in M: behind the store of the thrown thing, and the local that held it -/
def mv_hd1 (pc E : Nat) : List (Nat × Nat × Nat × Nat × Nat × Nat) → Option Nat
  | [] => none
  | (f, t, g, _, e, _) :: l => if f ≤ pc ∧ pc < t ∧ e = E then some g else mv_hd1 pc E l
def mv_hl (M : Nat) : List (Nat × List (Nat × Nat × Nat × Nat × Nat × Nat)) → List (Nat × Nat × Nat × Nat × Nat × Nat)
  | [] => []
  | (k, h) :: l => if k = M then h else mv_hl M l
noncomputable def mv_hd (M pc E : Nat) : Option (Nat × Nat) := match mv_hd1 pc E (mv_hl M mv_hs) with
  | none => none
  | some g => match mv_in M g with
    | some (.astore i, nx, _) => some (nx, i)
    | some (.astore_n i, nx, _) => some (nx, i)
    | _ => none
noncomputable def mv_nh (M : Nat) : Bool := (mv_hl M mv_hs).isEmpty
/-- what follows a call -/
def mv_af (o : Option mv_R) (kv : Option Value → mv_S → Option mv_R) (kx : Nat → mv_S → Option mv_R) : Option mv_R := match o with
  | none => none
  | some (.inl v, σ) => kv v σ
  | some (.inr E, σ) => kx E σ
noncomputable def mv_ex (C : Nat → List Value → mv_S → Option mv_R) : Nat → Nat → Nat → mv_V → List Value → mv_S → Option mv_R
  | 0, _, _, _, _, _ => none
  | f + 1, M, pc, ls, st, σ => match mv_in M pc with
    | none => none
    | some r => match mv_stp L xs r ls st σ with
      | none => none
      | some (.inl (pc', ls', st', σ')) => mv_ex C f M pc' ls' st' σ'
      | some (.inr (.inl q)) => some q
      | some (.inr (.inr (M', as, rest))) => mv_af (C M' as σ) (fun v σ' => mv_ex C f M r.2.1 ls (v.toList ++ rest) σ')
          (fun E σ' => if mv_nh M = true then some (.inr E, σ') else match mv_hd M pc E with
            | some (g, i) => mv_ex C f M g (mv_f1 i ls) [] σ'
            | none => none)
/-- the locals of a frame at its entry: a long or a double takes two places -/
def mv_il : Nat → List Value → mv_V
  | _, [] => []
  | i, v :: l => (i, v) :: mv_il (i + v.category) l
noncomputable def mv_cl : Nat → Nat → List Value → mv_S → Option mv_R
  | 0 => fun _ _ _ => none
  | d + 1 => fun M as σ => @dite _ (∃ r, ∃ f, mv_ex L xs (mv_cl d) f M 0 (mv_il 0 as) [] σ = some r) (Classical.propDecidable _) (fun h => some (Classical.choose h)) (fun _ => none)
end MV
