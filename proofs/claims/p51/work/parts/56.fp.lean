/-! DOUBLES AND FLOATS: no NaN is made; means and shares -/
theorem tb_X10_meanFill : mv_tb k_X10_meanFill = t_X10_meanFill := rfl
theorem r_X10_meanFill_0 : mv_in k_X10_meanFill 0 = some (.aload_n 0, 1, 0, 0, 0) := by unfold mv_in; rw [tb_X10_meanFill]; rfl
theorem r_X10_meanFill_1 : mv_in k_X10_meanFill 1 = some (.getfield 10, 4, 7, 0, 285) := by unfold mv_in; rw [tb_X10_meanFill]; rfl
theorem r_X10_meanFill_4 : mv_in k_X10_meanFill 4 = some (.getfield 117, 7, 1, 1, 163) := by unfold mv_in; rw [tb_X10_meanFill]; rfl
theorem r_X10_meanFill_7 : mv_in k_X10_meanFill 7 = some (.ifCond .ne 13, 10, 20, 0, 0) := by unfold mv_in; rw [tb_X10_meanFill]; rfl
theorem r_X10_meanFill_10 : mv_in k_X10_meanFill 10 = some (.new 192, 13, 99, 3, 498) := by unfold mv_in; rw [tb_X10_meanFill]; rfl
theorem r_X10_meanFill_13 : mv_in k_X10_meanFill 13 = some (.dup, 14, 0, 0, 0) := by unfold mv_in; rw [tb_X10_meanFill]; rfl
theorem r_X10_meanFill_14 : mv_in k_X10_meanFill 14 = some (.ldc 194, 16, 0, 0, 507) := by unfold mv_in; rw [tb_X10_meanFill]; rfl
theorem r_X10_meanFill_16 : mv_in k_X10_meanFill 16 = some (.invokespecial 196, 19, 999, 2, 508) := by unfold mv_in; rw [tb_X10_meanFill]; rfl
theorem r_X10_meanFill_19 : mv_in k_X10_meanFill 19 = some (.athrow, 20, 0, 0, 0) := by unfold mv_in; rw [tb_X10_meanFill]; rfl
theorem r_X10_meanFill_20 : mv_in k_X10_meanFill 20 = some (.dconst 0, 21, 0, 0, 0) := by unfold mv_in; rw [tb_X10_meanFill]; rfl
theorem r_X10_meanFill_21 : mv_in k_X10_meanFill 21 = some (.dstore_n 1, 22, 0, 0, 0) := by unfold mv_in; rw [tb_X10_meanFill]; rfl
theorem r_X10_meanFill_22 : mv_in k_X10_meanFill 22 = some (.iconst 0, 23, 0, 0, 0) := by unfold mv_in; rw [tb_X10_meanFill]; rfl
theorem r_X10_meanFill_23 : mv_in k_X10_meanFill 23 = some (.istore_n 3, 24, 0, 0, 0) := by unfold mv_in; rw [tb_X10_meanFill]; rfl
theorem r_X10_meanFill_24 : mv_in k_X10_meanFill 24 = some (.iload_n 3, 25, 0, 0, 0) := by unfold mv_in; rw [tb_X10_meanFill]; rfl
theorem r_X10_meanFill_25 : mv_in k_X10_meanFill 25 = some (.aload_n 0, 26, 0, 0, 0) := by unfold mv_in; rw [tb_X10_meanFill]; rfl
theorem r_X10_meanFill_26 : mv_in k_X10_meanFill 26 = some (.getfield 10, 29, 7, 0, 285) := by unfold mv_in; rw [tb_X10_meanFill]; rfl
theorem r_X10_meanFill_29 : mv_in k_X10_meanFill 29 = some (.getfield 117, 32, 1, 1, 163) := by unfold mv_in; rw [tb_X10_meanFill]; rfl
theorem r_X10_meanFill_32 : mv_in k_X10_meanFill 32 = some (.if_icmp .ge 36, 35, 68, 0, 0) := by unfold mv_in; rw [tb_X10_meanFill]; rfl
theorem r_X10_meanFill_35 : mv_in k_X10_meanFill 35 = some (.aload_n 0, 36, 0, 0, 0) := by unfold mv_in; rw [tb_X10_meanFill]; rfl
theorem r_X10_meanFill_36 : mv_in k_X10_meanFill 36 = some (.getfield 10, 39, 7, 0, 285) := by unfold mv_in; rw [tb_X10_meanFill]; rfl
theorem r_X10_meanFill_39 : mv_in k_X10_meanFill 39 = some (.getfield 197, 42, 1, 0, 161) := by unfold mv_in; rw [tb_X10_meanFill]; rfl
theorem r_X10_meanFill_42 : mv_in k_X10_meanFill 42 = some (.iload_n 3, 43, 0, 0, 0) := by unfold mv_in; rw [tb_X10_meanFill]; rfl
theorem r_X10_meanFill_43 : mv_in k_X10_meanFill 43 = some (.aaload, 44, 0, 0, 0) := by unfold mv_in; rw [tb_X10_meanFill]; rfl
theorem r_X10_meanFill_44 : mv_in k_X10_meanFill 44 = some (.astore 4, 46, 0, 0, 0) := by unfold mv_in; rw [tb_X10_meanFill]; rfl
theorem r_X10_meanFill_46 : mv_in k_X10_meanFill 46 = some (.dload_n 1, 47, 0, 0, 0) := by unfold mv_in; rw [tb_X10_meanFill]; rfl
theorem r_X10_meanFill_47 : mv_in k_X10_meanFill 47 = some (.aload 4, 49, 0, 0, 0) := by unfold mv_in; rw [tb_X10_meanFill]; rfl
theorem r_X10_meanFill_49 : mv_in k_X10_meanFill 49 = some (.getfield 129, 52, 0, 3, 124) := by unfold mv_in; rw [tb_X10_meanFill]; rfl
theorem r_X10_meanFill_52 : mv_in k_X10_meanFill 52 = some (.i2d, 53, 0, 0, 0) := by unfold mv_in; rw [tb_X10_meanFill]; rfl
theorem r_X10_meanFill_53 : mv_in k_X10_meanFill 53 = some (.aload 4, 55, 0, 0, 0) := by unfold mv_in; rw [tb_X10_meanFill]; rfl
theorem r_X10_meanFill_55 : mv_in k_X10_meanFill 55 = some (.getfield 124, 58, 0, 0, 117) := by unfold mv_in; rw [tb_X10_meanFill]; rfl
theorem r_X10_meanFill_58 : mv_in k_X10_meanFill 58 = some (.i2d, 59, 0, 0, 0) := by unfold mv_in; rw [tb_X10_meanFill]; rfl
theorem r_X10_meanFill_59 : mv_in k_X10_meanFill 59 = some (.ddiv, 60, 0, 0, 0) := by unfold mv_in; rw [tb_X10_meanFill]; rfl
theorem r_X10_meanFill_60 : mv_in k_X10_meanFill 60 = some (.dadd, 61, 0, 0, 0) := by unfold mv_in; rw [tb_X10_meanFill]; rfl
theorem r_X10_meanFill_61 : mv_in k_X10_meanFill 61 = some (.dstore_n 1, 62, 0, 0, 0) := by unfold mv_in; rw [tb_X10_meanFill]; rfl
theorem r_X10_meanFill_62 : mv_in k_X10_meanFill 62 = some (.iinc 3 1, 65, 0, 0, 0) := by unfold mv_in; rw [tb_X10_meanFill]; rfl
theorem r_X10_meanFill_65 : mv_in k_X10_meanFill 65 = some (.goto (-41), 68, 24, 0, 0) := by unfold mv_in; rw [tb_X10_meanFill]; rfl
theorem r_X10_meanFill_68 : mv_in k_X10_meanFill 68 = some (.dload_n 1, 69, 0, 0, 0) := by unfold mv_in; rw [tb_X10_meanFill]; rfl
theorem r_X10_meanFill_69 : mv_in k_X10_meanFill 69 = some (.aload_n 0, 70, 0, 0, 0) := by unfold mv_in; rw [tb_X10_meanFill]; rfl
theorem r_X10_meanFill_70 : mv_in k_X10_meanFill 70 = some (.getfield 10, 73, 7, 0, 285) := by unfold mv_in; rw [tb_X10_meanFill]; rfl
theorem r_X10_meanFill_73 : mv_in k_X10_meanFill 73 = some (.getfield 117, 76, 1, 1, 163) := by unfold mv_in; rw [tb_X10_meanFill]; rfl
theorem r_X10_meanFill_76 : mv_in k_X10_meanFill 76 = some (.i2d, 77, 0, 0, 0) := by unfold mv_in; rw [tb_X10_meanFill]; rfl
theorem r_X10_meanFill_77 : mv_in k_X10_meanFill 77 = some (.ddiv, 78, 0, 0, 0) := by unfold mv_in; rw [tb_X10_meanFill]; rfl
theorem r_X10_meanFill_78 : mv_in k_X10_meanFill 78 = some (.dreturn, 79, 0, 0, 0) := by unfold mv_in; rw [tb_X10_meanFill]; rfl
theorem nh_X10_meanFill : mv_nh k_X10_meanFill = true := rfl
theorem tb_X10_floodShare : mv_tb k_X10_floodShare = t_X10_floodShare := rfl
theorem r_X10_floodShare_0 : mv_in k_X10_floodShare 0 = some (.aload_n 0, 1, 0, 0, 0) := by unfold mv_in; rw [tb_X10_floodShare]; rfl
theorem r_X10_floodShare_1 : mv_in k_X10_floodShare 1 = some (.getfield 10, 4, 7, 0, 285) := by unfold mv_in; rw [tb_X10_floodShare]; rfl
theorem r_X10_floodShare_4 : mv_in k_X10_floodShare 4 = some (.getfield 166, 7, 1, 4, 169) := by unfold mv_in; rw [tb_X10_floodShare]; rfl
theorem r_X10_floodShare_7 : mv_in k_X10_floodShare 7 = some (.ifCond .ne 13, 10, 20, 0, 0) := by unfold mv_in; rw [tb_X10_floodShare]; rfl
theorem r_X10_floodShare_10 : mv_in k_X10_floodShare 10 = some (.new 192, 13, 99, 3, 498) := by unfold mv_in; rw [tb_X10_floodShare]; rfl
theorem r_X10_floodShare_13 : mv_in k_X10_floodShare 13 = some (.dup, 14, 0, 0, 0) := by unfold mv_in; rw [tb_X10_floodShare]; rfl
theorem r_X10_floodShare_14 : mv_in k_X10_floodShare 14 = some (.ldc 201, 16, 0, 0, 518) := by unfold mv_in; rw [tb_X10_floodShare]; rfl
theorem r_X10_floodShare_16 : mv_in k_X10_floodShare 16 = some (.invokespecial 196, 19, 999, 2, 508) := by unfold mv_in; rw [tb_X10_floodShare]; rfl
theorem r_X10_floodShare_19 : mv_in k_X10_floodShare 19 = some (.athrow, 20, 0, 0, 0) := by unfold mv_in; rw [tb_X10_floodShare]; rfl
theorem r_X10_floodShare_20 : mv_in k_X10_floodShare 20 = some (.aload_n 0, 21, 0, 0, 0) := by unfold mv_in; rw [tb_X10_floodShare]; rfl
theorem r_X10_floodShare_21 : mv_in k_X10_floodShare 21 = some (.getfield 10, 24, 7, 0, 285) := by unfold mv_in; rw [tb_X10_floodShare]; rfl
theorem r_X10_floodShare_24 : mv_in k_X10_floodShare 24 = some (.invokevirtual 203, 27, k_X2_sumOfFloodedSteps, 1, 519) := by unfold mv_in; rw [tb_X10_floodShare]; rfl
theorem r_X10_floodShare_27 : mv_in k_X10_floodShare 27 = some (.i2f, 28, 0, 0, 0) := by unfold mv_in; rw [tb_X10_floodShare]; rfl
theorem r_X10_floodShare_28 : mv_in k_X10_floodShare 28 = some (.aload_n 0, 29, 0, 0, 0) := by unfold mv_in; rw [tb_X10_floodShare]; rfl
theorem r_X10_floodShare_29 : mv_in k_X10_floodShare 29 = some (.getfield 10, 32, 7, 0, 285) := by unfold mv_in; rw [tb_X10_floodShare]; rfl
theorem r_X10_floodShare_32 : mv_in k_X10_floodShare 32 = some (.getfield 166, 35, 1, 4, 169) := by unfold mv_in; rw [tb_X10_floodShare]; rfl
theorem r_X10_floodShare_35 : mv_in k_X10_floodShare 35 = some (.i2f, 36, 0, 0, 0) := by unfold mv_in; rw [tb_X10_floodShare]; rfl
theorem r_X10_floodShare_36 : mv_in k_X10_floodShare 36 = some (.fdiv, 37, 0, 0, 0) := by unfold mv_in; rw [tb_X10_floodShare]; rfl
theorem r_X10_floodShare_37 : mv_in k_X10_floodShare 37 = some (.freturn, 38, 0, 0, 0) := by unfold mv_in; rw [tb_X10_floodShare]; rfl
theorem nh_X10_floodShare : mv_nh k_X10_floodShare = true := rfl
section KV
variable {L : Nat} {xs : Nat → Int32}
theorem kv_X10_meanFill  {q nx w : Nat} {ls : mv_V} {st : List Value} {t : Nat} {h : mv_H} : mv_stp L xs (.invokevirtual q, nx, k_X10_meanFill, 1, w) ls (.ref 0 :: st) (t, 142, h) = if mv_cs st ≤ 8 then some (.inr (.inr (k_X10_meanFill, [.ref 0], st))) else none := by
  exact cl_any (nx := nx) (ls := ls) (kk := 1) (as := [.ref 0]) (by decide) rfl rfl (.inr ((by decide : mv_is 142 0 7 = true)))
theorem kv_X10_floodShare  {q nx w : Nat} {ls : mv_V} {st : List Value} {t : Nat} {h : mv_H} : mv_stp L xs (.invokevirtual q, nx, k_X10_floodShare, 1, w) ls (.ref 0 :: st) (t, 142, h) = if mv_cs st ≤ 8 then some (.inr (.inr (k_X10_floodShare, [.ref 0], st))) else none := by
  exact cl_any (nx := nx) (ls := ls) (kk := 1) (as := [.ref 0]) (by decide) rfl rfl (.inr ((by decide : mv_is 142 0 7 = true)))
end KV
theorem n64_of {x : UInt64} (h : Jvm.FP.Core.dIsNaN x = false) : mv_n64 x = true := by
  have h1 : ¬ 9218868437227405312 < x.toNat % 2 ^ 63 := fun q => by
    have := (Jvm.FP.Core.isNaN_bits x).mpr q
    rw [h] at this
    cases this
  unfold mv_n64
  apply decide_eq_true
  rw [UInt64.le_iff_toNat_le, UInt64.toNat_and]
  show x.toNat &&& 9223372036854775807 ≤ 9218868437227405312
  rw [show (9223372036854775807 : Nat) = 2 ^ 63 - 1 from rfl, Nat.and_two_pow_sub_one_eq_mod]
  omega
theorem n32_of {x : UInt32} (h : Jvm.FP.Core.fIsNaN x = false) : mv_n32 x = true := by
  have h1 : ¬ 2139095040 < x.toNat % 2 ^ 31 := fun q => by
    have := (Jvm.FP.Core.isNaN_bits32 x).mpr q
    rw [h] at this
    cases this
  unfold mv_n32
  apply decide_eq_true
  rw [UInt32.le_iff_toNat_le, UInt32.toNat_and]
  show x.toNat &&& 2147483647 ≤ 2139095040
  rw [show (2147483647 : Nat) = 2 ^ 31 - 1 from rfl, Nat.and_two_pow_sub_one_eq_mod]
  omega
theorem i32_ne {c : Int} (h0 : 0 < c) (h1 : c < 2147483648) : Int32.ofInt c ≠ 0 := oz_b0 h0 h1
theorem fp_nz {c : Int} (h0 : 0 < c) (h1 : c < 2147483648) : ¬ Jvm.FP.Core.DZero (Jvm.FP.Core.i2d (Int32.ofInt c)) := fun h => Jvm.FP.Core.i2d_ne_zero (i32_ne h0 h1) ((Jvm.FP.Core.zero_bits2 _).mp h)
theorem fp_q {c : Int} (x : Int32) (h0 : 0 < c) (h1 : c < 2147483648) : Jvm.FP.Core.dIsNaN (Jvm.FP.Core.ddiv (Jvm.FP.Core.i2d x) (Jvm.FP.Core.i2d (Int32.ofInt c))) = false ∧ Jvm.FP.Core.DFin (Jvm.FP.Core.ddiv (Jvm.FP.Core.i2d x) (Jvm.FP.Core.i2d (Int32.ofInt c))) := by
  refine ⟨Jvm.FP.Core.ddiv_out (Jvm.FP.Core.i2d_fin x).notNaN (Jvm.FP.Core.i2d_fin _) (fp_nz h0 h1), ?_⟩
  have hb := Jvm.FP.Core.i2d_big (v := Int32.ofInt c) (Jvm.FP.Core.int32_ne (i32_ne h0 h1))
  have := Jvm.FP.Core.ddiv_mag (K := 1056) (L := 1023) (Jvm.FP.Core.i2d_mag x) hb.1 hb.2 (by omega) (by omega)
  exact Jvm.FP.Core.fin_of_lt (K := 1057) this (by omega)
def zMf (A : Int → Int) : Nat → Int → UInt64 → UInt64
  | 0, _, s => s
  | n + 1, k, s => zMf A n (k + 1) (FP.dadd s (FP.ddiv (FP.i2d (Int32.ofInt (A (6 + 9 * k + 1)))) (FP.i2d (Int32.ofInt (A (6 + 9 * k + 0))))))
def zMn64 (A : Int → Int) : UInt64 := FP.ddiv (zMf A (A 0).toNat 0 0) (FP.i2d (Int32.ofInt (A 0)))
def zFs32 (A : Int → Int) : UInt32 := FP.fdiv (FP.i2f (Int32.ofInt (zSm 8 (A 0).toNat 0 0 A))) (FP.i2f (Int32.ofInt (A 1)))
theorem zMf_nan {A : Int → Int} : ∀ (n : Nat) (k : Int) (s : UInt64), Jvm.FP.Core.dIsNaN s = false → (∀ j, k ≤ j → j < k + n → 10 ≤ A (6 + 9 * j + 0) ∧ A (6 + 9 * j + 0) ≤ 99) → Jvm.FP.Core.dIsNaN (zMf A n k s) = false
  | 0, _, _, h, _ => h
  | n + 1, k, s, h, hk => by
    rw [zMf]
    have h1 := hk k (by omega) (by omega)
    exact zMf_nan n (k + 1) _ (Jvm.FP.Core.dadd_out h (fp_q _ (by omega) (by omega)).2) (fun j h2 h3 => hk j (by omega) (by omega))
theorem fp_0 : Jvm.FP.Core.dIsNaN 0 = false := by decide +kernel
theorem fp_s {s : Int} {c : Int} (h0 : 0 < c) (h1 : c < 2147483648) : Jvm.FP.Core.fIsNaN (FP.fdiv (FP.i2f (Int32.ofInt s)) (FP.i2f (Int32.ofInt c))) = false ∧ Jvm.FP.Core.FFin (FP.fdiv (FP.i2f (Int32.ofInt s)) (FP.i2f (Int32.ofInt c))) := by
  have hz : ¬ Jvm.FP.Core.FZero (Jvm.FP.Core.i2f (Int32.ofInt c)) := fun h => Jvm.FP.Core.i2f_ne_zero (i32_ne h0 h1) ((Jvm.FP.Core.zero_bits232 _).mp h)
  refine ⟨Jvm.FP.Core.fdiv_out (Jvm.FP.Core.i2f_fin _).notNaN (Jvm.FP.Core.i2f_fin _) hz, ?_⟩
  have hb := Jvm.FP.Core.i2f_big (v := Int32.ofInt c) (Jvm.FP.Core.int32_ne (i32_ne h0 h1))
  have := Jvm.FP.Core.fdiv_mag (K := 160) (L := 127) (Jvm.FP.Core.i2f_mag (Int32.ofInt s)) hb.1 hb.2 (by omega) (by omega)
  exact Jvm.FP.Core.fin_of_lt32 (K := 161) this (by omega)
theorem fp_w {x : UInt32} (h : Jvm.FP.Core.fIsNaN x = false) (h2 : Jvm.FP.Core.FFin x) : Jvm.FP.Core.dIsNaN (FP.f2d x) = false := by
  have e : FP.f2d x = Jvm.FP.Core.f2d x := by unfold FP.f2d; rw [h]; rfl
  rw [e]
  exact (Jvm.FP.Core.f2d_fin h2).notNaN
theorem fp_c {x : UInt64} (h : Jvm.FP.Core.dIsNaN x = false) (o : CmpOp) : Op.cmpValue (FP.dcmp x x) o = Int32.ofInt 0 := by
  rw [show FP.dcmp x x = some .eq from Jvm.FP.Core.dcmp_refl h]
  cases o <;> rfl
section FPS
variable {L : Nat} {xs : Nat → Int32} {d t : Nat} {T : zT} {A B F : Int → Int}
end FPS
