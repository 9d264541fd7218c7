/-! MORE ROWS FOR REWRITING -/
section EA
variable {L : Nat} {xs : Nat → Int32} {C : Nat → List Value → mv_S → Option mv_R} {M pc nx a b w : Nat} {ls : mv_V} {st : List Value} {σ : mv_S} {res : mv_R} {c n : Nat} {h : mv_H}
theorem ea_ldc {i : Nat} : mv_stp L xs (.ldc i, nx, 1, b, w) ls st σ = some (.inl (nx, ls, .int (Int32.ofNat b) :: st, σ)) := rfl
theorem ea_lconst {k : Fin 2} : mv_stp L xs (.lconst k, nx, a, b, w) ls st σ = some (.inl (nx, ls, .long (Int64.ofNat (k : Nat)) :: st, σ)) := rfl
theorem ea_dconst : mv_stp L xs (.dconst 0, nx, a, b, w) ls st σ = some (.inl (nx, ls, .double 0 :: st, σ)) := rfl
theorem ea_fconst : mv_stp L xs (.fconst 0, nx, a, b, w) ls st σ = some (.inl (nx, ls, .float 0 :: st, σ)) := rfl
theorem ea_null : mv_stp L xs (.aconst_null, nx, a, b, w) ls st σ = some (.inl (nx, ls, .null :: st, σ)) := rfl
theorem ea_lload_n {k : Fin 4} : mv_stp L xs (.lload_n k, nx, a, b, w) ls st σ = mv_ld 1 (mv_lk k ls) nx ls st σ := rfl
theorem ea_fload {k : Nat} : mv_stp L xs (.fload k, nx, a, b, w) ls st σ = mv_ld 2 (mv_lk k ls) nx ls st σ := rfl
theorem ea_dload_n {k : Fin 4} : mv_stp L xs (.dload_n k, nx, a, b, w) ls st σ = mv_ld 3 (mv_lk k ls) nx ls st σ := rfl
theorem ea_dload {k : Nat} : mv_stp L xs (.dload k, nx, a, b, w) ls st σ = mv_ld 3 (mv_lk k ls) nx ls st σ := rfl
theorem ea_aload {k : Nat} : mv_stp L xs (.aload k, nx, a, b, w) ls st σ = mv_ld 4 (mv_lk k ls) nx ls st σ := rfl
theorem ea_istore_n {k : Fin 4} : mv_stp L xs (.istore_n k, nx, a, b, w) ls st σ = mv_so 0 k nx ls st σ := rfl
theorem ea_istore {k : Nat} : mv_stp L xs (.istore k, nx, a, b, w) ls st σ = mv_so 0 k nx ls st σ := rfl
theorem ea_lstore_n {k : Fin 4} : mv_stp L xs (.lstore_n k, nx, a, b, w) ls st σ = mv_so 1 k nx ls st σ := rfl
theorem ea_fstore {k : Nat} : mv_stp L xs (.fstore k, nx, a, b, w) ls st σ = mv_so 2 k nx ls st σ := rfl
theorem ea_dstore_n {k : Fin 4} : mv_stp L xs (.dstore_n k, nx, a, b, w) ls st σ = mv_so 3 k nx ls st σ := rfl
theorem ea_dstore {k : Nat} : mv_stp L xs (.dstore k, nx, a, b, w) ls st σ = mv_so 3 k nx ls st σ := rfl
theorem ea_astore_n {k : Fin 4} : mv_stp L xs (.astore_n k, nx, a, b, w) ls st σ = mv_so 4 k nx ls st σ := rfl
theorem ea_astore {k : Nat} : mv_stp L xs (.astore k, nx, a, b, w) ls st σ = mv_so 4 k nx ls st σ := rfl
def mv_inc (k : Nat) (m : Int) (nx : Nat) (ls : mv_V) (st : List Value) (σ : mv_S) (v : Option Value) : Option mv_A := match v with
  | some (.int x) => mv_nx nx ((k, .int (x + Int32.ofInt m)) :: mv_f1 k ls) st σ
  | _ => none
theorem ea_iinc {k : Nat} {m : Int} : mv_stp L xs (.iinc k m, nx, a, b, w) ls st σ = mv_inc k m nx ls st σ (mv_lk k ls) := by
  simp only [mv_stp, mv_inc] <;>
  (cases mv_lk k ls with
  | none => rfl
  | some v => cases v <;> rfl)
theorem eb_inc {k : Nat} {m : Int} {x : Int32} : mv_inc k m nx ls st σ (some (.int x)) = some (.inl (nx, (k, .int (x + Int32.ofInt m)) :: mv_f1 k ls, st, σ)) := rfl
theorem ea_iadd {x y : Int32} : mv_stp L xs (.iadd, nx, a, b, w) ls (.int y :: .int x :: st) σ = some (.inl (nx, ls, .int (x + y) :: st, σ)) := rfl
theorem ea_isub {x y : Int32} : mv_stp L xs (.isub, nx, a, b, w) ls (.int y :: .int x :: st) σ = some (.inl (nx, ls, .int (x - y) :: st, σ)) := rfl
theorem ea_imul {x y : Int32} : mv_stp L xs (.imul, nx, a, b, w) ls (.int y :: .int x :: st) σ = some (.inl (nx, ls, .int (x * y) :: st, σ)) := rfl
theorem ea_idiv {x y : Int32} (h : ¬ y = 0) : mv_stp L xs (.idiv, nx, a, b, w) ls (.int y :: .int x :: st) σ = some (.inl (nx, ls, .int (x / y) :: st, σ)) := by simp [mv_stp, h, mv_nx]
theorem ea_irem {x y : Int32} (h : ¬ y = 0) : mv_stp L xs (.irem, nx, a, b, w) ls (.int y :: .int x :: st) σ = some (.inl (nx, ls, .int (x - x / y * y) :: st, σ)) := by simp [mv_stp, h, mv_nx]
theorem ea_ineg {x : Int32} : mv_stp L xs (.ineg, nx, a, b, w) ls (.int x :: st) σ = some (.inl (nx, ls, .int (-x) :: st, σ)) := rfl
theorem ea_iand {x y : Int32} : mv_stp L xs (.iand, nx, a, b, w) ls (.int y :: .int x :: st) σ = some (.inl (nx, ls, .int (x &&& y) :: st, σ)) := rfl
theorem ea_ishl {x y : Int32} : mv_stp L xs (.ishl, nx, a, b, w) ls (.int y :: .int x :: st) σ = some (.inl (nx, ls, .int (x <<< (y &&& 31)) :: st, σ)) := rfl
theorem ea_ishr {x y : Int32} : mv_stp L xs (.ishr, nx, a, b, w) ls (.int y :: .int x :: st) σ = some (.inl (nx, ls, .int (x >>> (y &&& 31)) :: st, σ)) := rfl
theorem ea_iushr {x y : Int32} : mv_stp L xs (.iushr, nx, a, b, w) ls (.int y :: .int x :: st) σ = some (.inl (nx, ls, .int (x.toUInt32 >>> (y.toUInt32 &&& (31 : Int32).toUInt32)).toInt32 :: st, σ)) := rfl
theorem ea_ladd {x y : Int64} : mv_stp L xs (.ladd, nx, a, b, w) ls (.long y :: .long x :: st) σ = some (.inl (nx, ls, .long (x + y) :: st, σ)) := rfl
theorem ea_lsub {x y : Int64} : mv_stp L xs (.lsub, nx, a, b, w) ls (.long y :: .long x :: st) σ = some (.inl (nx, ls, .long (x - y) :: st, σ)) := rfl
theorem ea_lcmp {x y : Int64} : mv_stp L xs (.lcmp, nx, a, b, w) ls (.long y :: .long x :: st) σ = some (.inl (nx, ls, .int (lg_cmp x y) :: st, σ)) := rfl
theorem ea_i2l {x : Int32} : mv_stp L xs (.i2l, nx, a, b, w) ls (.int x :: st) σ = some (.inl (nx, ls, .long x.toInt64 :: st, σ)) := rfl
theorem ea_l2i {x : Int64} : mv_stp L xs (.l2i, nx, a, b, w) ls (.long x :: st) σ = some (.inl (nx, ls, .int x.toInt32 :: st, σ)) := rfl
theorem ea_i2c {x : Int32} : mv_stp L xs (.i2c, nx, a, b, w) ls (.int x :: st) σ = some (.inl (nx, ls, .int (mv_ch x) :: st, σ)) := rfl
theorem ea_i2d {x : Int32} : mv_stp L xs (.i2d, nx, a, b, w) ls (.int x :: st) σ = some (.inl (nx, ls, .double (FP.i2d x) :: st, σ)) := rfl
theorem ea_i2f {x : Int32} : mv_stp L xs (.i2f, nx, a, b, w) ls (.int x :: st) σ = some (.inl (nx, ls, .float (FP.i2f x) :: st, σ)) := rfl
theorem ea_f2d {x : UInt32} (h : mv_n64 (FP.f2d x) = true) : mv_stp L xs (.f2d, nx, a, b, w) ls (.float x :: st) σ = some (.inl (nx, ls, .double (FP.f2d x) :: st, σ)) := by simp [mv_stp, h, mv_nx]
theorem ea_dadd {x y : UInt64} (h : mv_n64 (FP.dadd x y) = true) : mv_stp L xs (.dadd, nx, a, b, w) ls (.double y :: .double x :: st) σ = some (.inl (nx, ls, .double (FP.dadd x y) :: st, σ)) := by simp [mv_stp, h, mv_nx]
theorem ea_ddiv {x y : UInt64} (h : mv_n64 (FP.ddiv x y) = true) : mv_stp L xs (.ddiv, nx, a, b, w) ls (.double y :: .double x :: st) σ = some (.inl (nx, ls, .double (FP.ddiv x y) :: st, σ)) := by simp [mv_stp, h, mv_nx]
theorem ea_fdiv {x y : UInt32} (h : mv_n32 (FP.fdiv x y) = true) : mv_stp L xs (.fdiv, nx, a, b, w) ls (.float y :: .float x :: st) σ = some (.inl (nx, ls, .float (FP.fdiv x y) :: st, σ)) := by simp [mv_stp, h, mv_nx]
theorem ea_dcmp {x y : UInt64} {o : CmpOp} : mv_stp L xs (.dcmp o, nx, a, b, w) ls (.double y :: .double x :: st) σ = some (.inl (nx, ls, .int (Op.cmpValue (FP.dcmp x y) o) :: st, σ)) := rfl
theorem ea_fcmp {x y : UInt32} {o : CmpOp} : mv_stp L xs (.fcmp o, nx, a, b, w) ls (.float y :: .float x :: st) σ = some (.inl (nx, ls, .int (Op.cmpValue (FP.fcmp x y) o) :: st, σ)) := rfl
theorem ea_dup_i {x : Int32} : mv_stp L xs (.dup, nx, a, b, w) ls (.int x :: st) σ = some (.inl (nx, ls, .int x :: .int x :: st, σ)) := rfl
theorem ea_dup_r {x : Nat} : mv_stp L xs (.dup, nx, a, b, w) ls (.ref x :: st) σ = some (.inl (nx, ls, .ref x :: .ref x :: st, σ)) := rfl
theorem ea_dup2 {x : Int32} {o : Nat} : mv_stp L xs (.dup2, nx, a, b, w) ls (.int x :: .ref o :: st) σ = some (.inl (nx, ls, .int x :: .ref o :: .int x :: .ref o :: st, σ)) := rfl
theorem ea_pop_i {x : Int32} : mv_stp L xs (.pop, nx, a, b, w) ls (.int x :: st) σ = some (.inl (nx, ls, st, σ)) := rfl
theorem ea_ifc {cd : ClassFile.Cond} {off : Int} {x : Int32} : mv_stp L xs (.ifCond cd off, nx, a, b, w) ls (.int x :: st) σ = some (.inl (if mv_cmp cd x 0 = true then a else nx, ls, st, σ)) := rfl
theorem ea_nnr {off : Int} {o : Nat} : mv_stp L xs (.ifnonnull off, nx, a, b, w) ls (.ref o :: st) σ = some (.inl (a, ls, st, σ)) := rfl
theorem ea_nnn {off : Int} : mv_stp L xs (.ifnonnull off, nx, a, b, w) ls (.null :: st) σ = some (.inl (nx, ls, st, σ)) := rfl
theorem ea_get {i o : Nat} (ha : ¬ a = 30) (hi : mv_is n o a = true) : mv_stp L xs (.getfield i, nx, a, b, w) ls (.ref o :: st) (c, n, h) = some (.inl (nx, ls, h o b :: st, (c, n, h))) := by
  show mv_get a b nx ls (.ref o :: st) (c, n, h) = _
  simp [mv_get, ha, hi, mv_nx]
theorem ea_put {i o : Nat} {v : Value} (hi : mv_is n o a = true) (hf : mv_fit (mv_ty a b) v = true) : mv_stp L xs (.putfield i, nx, a, b, w) ls (v :: .ref o :: st) (c, n, h) = some (.inl (nx, ls, st, (c, n, mv_up h o b v))) := by
  show mv_put a b nx ls (v :: .ref o :: st) (c, n, h) = _
  simp [mv_put, hf, hi, mv_nx]
theorem ea_putI {i o : Nat} {x : Int32} (hi : mv_is n o a = true) (ht : mv_ty a b = .int) : mv_stp L xs (.putfield i, nx, a, b, w) ls (.int x :: .ref o :: st) (c, n, h) = some (.inl (nx, ls, st, (c, n, mv_up h o b (.int x)))) := ea_put hi (by rw [ht]; rfl)
theorem ea_putZ {i o : Nat} {x : Int32} (hi : mv_is n o a = true) (ht : mv_ty a b = .boolean) (hx : x = 0 ∨ x = 1) : mv_stp L xs (.putfield i, nx, a, b, w) ls (.int x :: .ref o :: st) (c, n, h) = some (.inl (nx, ls, st, (c, n, mv_up h o b (.int x)))) := ea_put hi (by rw [ht]; rcases hx with rfl | rfl <;> decide)
theorem ea_putJ {i o : Nat} {x : Int64} (hi : mv_is n o a = true) (ht : mv_ty a b = .long) : mv_stp L xs (.putfield i, nx, a, b, w) ls (.long x :: .ref o :: st) (c, n, h) = some (.inl (nx, ls, st, (c, n, mv_up h o b (.long x)))) := ea_put hi (by rw [ht]; rfl)
theorem ea_putR {i o r : Nat} {C : String} (hi : mv_is n o a = true) (ht : mv_ty a b = .object C) : mv_stp L xs (.putfield i, nx, a, b, w) ls (.ref r :: .ref o :: st) (c, n, h) = some (.inl (nx, ls, st, (c, n, mv_up h o b (.ref r)))) := ea_put hi (by rw [ht]; rfl)
theorem ea_static {i : Nat} : mv_stp L xs (.getstatic i, nx, a, b, w) ls st σ = some (.inl (nx, ls, .ref a :: st, σ)) := rfl
theorem ea_lret {v : Int64} : mv_stp L xs (.lreturn, nx, a, b, w) ls [.long v] σ = some (.inr (.inl (.inl (some (.long v)), σ))) := rfl
theorem ea_fret {v : UInt32} : mv_stp L xs (.freturn, nx, a, b, w) ls [.float v] σ = some (.inr (.inl (.inl (some (.float v)), σ))) := rfl
theorem ea_dret {v : UInt64} : mv_stp L xs (.dreturn, nx, a, b, w) ls [.double v] σ = some (.inr (.inl (.inl (some (.double v)), σ))) := rfl
theorem ea_aret {v : Nat} : mv_stp L xs (.areturn, nx, a, b, w) ls [.ref v] σ = some (.inr (.inl (.inl (some (.ref v)), σ))) := rfl
theorem ea_aretN : mv_stp L xs (.areturn, nx, a, b, w) ls [.null] σ = some (.inr (.inl (.inl (some .null), σ))) := rfl
theorem ea_vret : mv_stp L xs (.return_, nx, a, b, w) ls [] σ = some (.inr (.inl (.inl none, σ))) := rfl
theorem ea_thr {i : Nat} (hn : n = 142) (hs : (st.map (fun v => v.category)).sum ≤ 8) : mv_stp L xs (.new i, nx, 99, b, w) ls st (c, n, h) = some (.inr (.inl (.inr b, (c + 1, n, h)))) := by
  simp [mv_stp, hn, hs]
end EA
