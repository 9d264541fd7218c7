/-! THE LAW RUNS: the last of a turn -/
def mo_s_15 : Nat → Bool := fun pc => Nat.beq pc 15
section LWI
variable {z : Nat} {kad0 : Nat → Nat} {dC : Nat → ClassId} {dI : Nat → Nat → Nat} {cA : Nat → ClassId} {L : Nat} {xs : Nat → Int32}
variable {p : Program} {l : Launch} {e : Env} {R : Room} {s0 : State} {m : MethodId} {args : Array Value} {below : List Frame} {meth : Method} {c : Code} {D : va_G} {cB : ClassId} {d1 d2 : Nat} {ka kv : Nat → Nat}
variable {t u w : Nat} {F : Nat → mo_T} {T : zT} {A : Int → Int} {M : Int}
theorem l64_ti {x : Int} (h0 : -9223372036854775808 ≤ x) (h1 : x < 9223372036854775808) : (Int64.ofInt x).toInt = x := by
  rw [Int64.toInt_ofInt, show Int64.size = 18446744073709551616 from rfl]
  exact Int.bmod_eq_of_le (by omega) (by omega)
theorem lcm_z {x : Int} (h0 : 0 ≤ x) (h1 : x < 1000000000) : ∃ c : Int, 0 ≤ c ∧ c ≤ 1 ∧ lg_cmp (Int64.ofInt x) (Int64.ofInt 0) = Int32.ofInt c := by
  unfold lg_cmp
  simp only [gt_iff_lt, Int64.lt_iff_toInt_lt, ← Int64.toInt_inj, l64_ti (show -9223372036854775808 ≤ x by omega) (by omega), l64_ti (show (-9223372036854775808 : Int) ≤ 0 by omega) (by omega)]
  by_cases h : 0 < x
  · exact ⟨1, by omega, by omega, by rw [if_pos h]; rfl⟩
  · have e : x = 0 := by omega
    exact ⟨0, by omega, by omega, by rw [if_neg h, if_pos e]; rfl⟩
theorem fp_c32 {x : UInt32} (h : Jvm.FP.Core.fIsNaN x = false) (o : CmpOp) : Op.cmpValue (FP.fcmp x x) o = Int32.ofInt 0 := by
  rw [show FP.fcmp x x = some .eq from Jvm.FP.Core.fcmp_refl h]
  cases o <;> rfl
theorem lw_980 {tu sp bg : Int} {v : Int} (hG : mo_G z kad0 dC dI cA L xs p s0 m args meth c D cB d1 d2 ka kv) (hlt : l.stackTraces = false) (hL : L < 2147483648) (hI : zI T M A) (hM : M ≤ 1000000) (ht : t ≤ 900) (hw : w ≤ 1400) (sp0 : 1 ≤ sp) (sp1 : sp ≤ 9) (bg0 : 0 ≤ bg) (bg1 : bg ≤ 99) (hn : 1 ≤ A 0) (tu0 : 0 ≤ tu) (tu1 : tu < 3) (k9 : ∀ (t' : Nat) (T1 : zT), t ≤ t' → t' ≤ t + 3 → zIn T1 (M + 30) → 1 ≤ T1.1 o1 0 → mo_W z kad0 dC dI cA p l e s0 m args below meth c D cB (0, w, F) 15 [(2, .int (Int32.ofInt (tu + 1))), (1, .ref 0), (0, .ref 2000)] [] (t', 142, mz T1)) : mo_W z kad0 dC dI cA p l e s0 m args below meth c D cB (3, w, F) 980 [(17, .int (Int32.ofInt v)), (16, .int (Int32.ofInt (zSf (fun k => if 0 < zX A sp.toNat k then 1 else 0) (A 0).toNat 0 0))), (15, .int (Int32.ofInt (zSf (zX A sp.toNat) (A 0).toNat 0 0))), (14, .int (Int32.ofInt (zMx (zX A sp.toNat) (fun k => A (6 + 9 * k + 3)) bg (A 0).toNat (zp2 (A 0)).toNat 0 0))), (9, .double (zMf A (A 0).toNat 0 0)), (5, .int (Int32.ofInt (zSm 8 (A 0).toNat 0 0 A))), (4, .int (Int32.ofInt (zSm 1 (A 0).toNat 0 0 A))), (13, .ref 3002), (12, .ref 3001), (11, .ref 3000), (8, .int (Int32.ofInt bg)), (7, .int (Int32.ofInt sp)), (6, .int (Int32.ofInt (A 2))), (3, .int (Int32.ofInt (A 0))), (2, .int (Int32.ofInt tu)), (1, .ref 0), (0, .ref 2000)] [.int 1] (t, 142, mz T) := by
  have h5 := zI_5 hI
  have hT := zI_tb hI
  have e1 := q_rainEnd (L := L) (xs := xs) (d := 20) (t := t) hI (by omega)
  have e2 := q_rankEnd (L := L) (xs := xs) (d := 20) (t := t + 1) hI (by omega)
  obtain ⟨T1, i1, e3⟩ := q_cons (L := L) (xs := xs) (d := 20) (t := t + 1 + 1) hI (by omega) hM
  have e4 := q_riverTotal (L := L) (xs := xs) (d := 20) (t := t + 1 + 1) i1 (by omega)
  obtain ⟨b0, b1, b2, b3, -⟩ := hT
  obtain ⟨c9, c0, c1, ec⟩ := lcm_z (x := A 3) b2 (by omega)
  obtain ⟨t2, T2, ⟨u1, u2, u3, u4⟩, e5⟩ := c_L_acts (L := L) (xs := xs) (d := 20) (t := t + 1 + 1) (by omega) hL i1.1 (by rw [i1.2]; exact hn) (k := 110 + 3 * tu) (by omega) (by omega)
  rw [i1.2] at u4
  have l0 : Int64.ofNat ((0 : Fin 2) : Nat) = Int64.ofInt 0 := rfl
  have o1i : Value.int 1 = .int (Int32.ofInt 1) := rfl
  rw [o1i]
  have k8 := k9 t2 T2 (by omega) (by omega) u3 (by omega)
  refine (mo_go hG hlt (d := 20) (by omega) (by dsimp only; omega) mo_s_15 ?_).2
  simp (disch := omega) only [mo_Ev_stop (S := mo_s_15) (pc := 15) rfl, mo_Ev_row (S := mo_s_15) rfl r_L_law_980, mo_Ev_row (S := mo_s_15) rfl r_L_law_983, mo_Ev_row (S := mo_s_15) rfl r_L_law_984, mo_Ev_row (S := mo_s_15) rfl r_L_law_986, mo_Ev_row (S := mo_s_15) rfl r_L_law_989, mo_Ev_row (S := mo_s_15) rfl r_L_law_992, mo_Ev_row (S := mo_s_15) rfl r_L_law_995, mo_Ev_row (S := mo_s_15) rfl r_L_law_996, mo_Ev_row (S := mo_s_15) rfl r_L_law_997, mo_Ev_row (S := mo_s_15) rfl r_L_law_1000, mo_Ev_row (S := mo_s_15) rfl r_L_law_1003, mo_Ev_row (S := mo_s_15) rfl r_L_law_1006, mo_Ev_row (S := mo_s_15) rfl r_L_law_1007, mo_Ev_row (S := mo_s_15) rfl r_L_law_1010, mo_Ev_row (S := mo_s_15) rfl r_L_law_1013, mo_Ev_row (S := mo_s_15) rfl r_L_law_1014, mo_Ev_row (S := mo_s_15) rfl r_L_law_1017, mo_Ev_row (S := mo_s_15) rfl r_L_law_1018, mo_Ev_row (S := mo_s_15) rfl r_L_law_1019, mo_Ev_row (S := mo_s_15) rfl r_L_law_1024, mo_Ev_row (S := mo_s_15) rfl r_L_law_1025, mo_Ev_row (S := mo_s_15) rfl r_L_law_1026, mo_Ev_row (S := mo_s_15) rfl r_L_law_1028, mo_Ev_row (S := mo_s_15) rfl r_L_law_1029, mo_Ev_row (S := mo_s_15) rfl r_L_law_1030, mo_Ev_row (S := mo_s_15) rfl r_L_law_1031, mo_Ev_row (S := mo_s_15) rfl r_L_law_1032, mo_Ev_row (S := mo_s_15) rfl r_L_law_1035, mo_Ev_row (S := mo_s_15) rfl r_L_law_1038, ea_ifc, ea_aload_n, ea_iload, kv_L_rainAt, ea_sipush, ea_icmp, ea_iload_n, kv_L_basinAtRank, kv_X10_isConsistent, kv_X10_riverTotal, ea_lconst, ea_lcmp, ea_bipush, ea_iconst, ea_imul, ea_iadd, kv_L_acts, ea_iinc, eb_inc, ea_goto, bz_110, sz_m30000, sz_m25000, cz_eq, cz_ne, cz_lt, cz_ge, cz_gt, cz_le, c0_eq, c0_ne, c0_lt, c0_ge, c0_gt, c0_le, mv_ac, decide_eq_true_eq, not_true_eq_false, and_self, and_true, true_and, oa_2n, oa_2f, oa_2c, oa_if, if_pos, if_neg, mv_lk, mv_f1, mv_f2, Value.category, List.filter, ↓reduceIte, Nat.reduceEqDiff, Nat.reduceAdd, Nat.reduceLT, Nat.reduceBEq, Nat.zero_add, Nat.add_zero, Nat.zero_ne_one, Nat.one_ne_zero, Bool.not_true, Bool.not_false, Bool.and_true, Bool.true_and, Bool.and_false, Bool.false_and, BEq.rfl, beq_self_eq_true, Bool.false_eq_true, reduceCtorEq, not_false_eq_true, fv0, fv1, fv2, fv3, eb_l0, eb_l1, eb_l2, eb_l3, eb_l4, eb_l5, eb_s0, eb_s1, eb_s2, eb_s3, eb_s4, eb_s5, oz_add, oz_sub, oz_mul, oz_neg, ol_add, ol_sub, sD_eq, sD_sD, sD_ne, sD_in, sD_in2, sD_in3, upR_is, upR_ne, ok_v, ok_n, ok_i, mv_cs, Nat.reduceLeDiff, mv_ch_z, e1, e2, e3, e4, e5, ec, l0, ge_iff_le, gt_iff_lt]
  exact ⟨mo_bdt (by omega), mo_pm (mo_pc rfl (mo_pc rfl (mo_pc rfl (mo_p0)))) (mo_drop k8)⟩
end LWI
