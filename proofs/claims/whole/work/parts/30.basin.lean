/-! THE BASIN'S METHODS -/
theorem tb_X1_letOut : mv_tb k_X1_letOut = t_X1_letOut := rfl
theorem r_X1_letOut_0 : mv_in k_X1_letOut 0 = some (.iconst 4, 1, 0, 0, 0) := by unfold mv_in; rw [tb_X1_letOut]; rfl
theorem r_X1_letOut_1 : mv_in k_X1_letOut 1 = some (.aload_n 0, 2, 0, 0, 0) := by unfold mv_in; rw [tb_X1_letOut]; rfl
theorem r_X1_letOut_2 : mv_in k_X1_letOut 2 = some (.getfield 24, 5, 0, 4, 173) := by unfold mv_in; rw [tb_X1_letOut]; rfl
theorem r_X1_letOut_5 : mv_in k_X1_letOut 5 = some (.imul, 6, 0, 0, 0) := by unfold mv_in; rw [tb_X1_letOut]; rfl
theorem r_X1_letOut_6 : mv_in k_X1_letOut 6 = some (.istore_n 1, 7, 0, 0, 0) := by unfold mv_in; rw [tb_X1_letOut]; rfl
theorem r_X1_letOut_7 : mv_in k_X1_letOut 7 = some (.iload_n 1, 8, 0, 0, 0) := by unfold mv_in; rw [tb_X1_letOut]; rfl
theorem r_X1_letOut_8 : mv_in k_X1_letOut 8 = some (.aload_n 0, 9, 0, 0, 0) := by unfold mv_in; rw [tb_X1_letOut]; rfl
theorem r_X1_letOut_9 : mv_in k_X1_letOut 9 = some (.getfield 21, 12, 0, 3, 170) := by unfold mv_in; rw [tb_X1_letOut]; rfl
theorem r_X1_letOut_12 : mv_in k_X1_letOut 12 = some (.if_icmp .ge 7, 15, 19, 0, 0) := by unfold mv_in; rw [tb_X1_letOut]; rfl
theorem r_X1_letOut_15 : mv_in k_X1_letOut 15 = some (.iload_n 1, 16, 0, 0, 0) := by unfold mv_in; rw [tb_X1_letOut]; rfl
theorem r_X1_letOut_16 : mv_in k_X1_letOut 16 = some (.goto 7, 19, 23, 0, 0) := by unfold mv_in; rw [tb_X1_letOut]; rfl
theorem r_X1_letOut_19 : mv_in k_X1_letOut 19 = some (.aload_n 0, 20, 0, 0, 0) := by unfold mv_in; rw [tb_X1_letOut]; rfl
theorem r_X1_letOut_20 : mv_in k_X1_letOut 20 = some (.getfield 21, 23, 0, 3, 170) := by unfold mv_in; rw [tb_X1_letOut]; rfl
theorem r_X1_letOut_23 : mv_in k_X1_letOut 23 = some (.istore_n 2, 24, 0, 0, 0) := by unfold mv_in; rw [tb_X1_letOut]; rfl
theorem r_X1_letOut_24 : mv_in k_X1_letOut 24 = some (.aload_n 0, 25, 0, 0, 0) := by unfold mv_in; rw [tb_X1_letOut]; rfl
theorem r_X1_letOut_25 : mv_in k_X1_letOut 25 = some (.dup, 26, 0, 0, 0) := by unfold mv_in; rw [tb_X1_letOut]; rfl
theorem r_X1_letOut_26 : mv_in k_X1_letOut 26 = some (.getfield 21, 29, 0, 3, 170) := by unfold mv_in; rw [tb_X1_letOut]; rfl
theorem r_X1_letOut_29 : mv_in k_X1_letOut 29 = some (.iload_n 2, 30, 0, 0, 0) := by unfold mv_in; rw [tb_X1_letOut]; rfl
theorem r_X1_letOut_30 : mv_in k_X1_letOut 30 = some (.isub, 31, 0, 0, 0) := by unfold mv_in; rw [tb_X1_letOut]; rfl
theorem r_X1_letOut_31 : mv_in k_X1_letOut 31 = some (.putfield 21, 34, 0, 3, 170) := by unfold mv_in; rw [tb_X1_letOut]; rfl
theorem r_X1_letOut_34 : mv_in k_X1_letOut 34 = some (.iload_n 2, 35, 0, 0, 0) := by unfold mv_in; rw [tb_X1_letOut]; rfl
theorem r_X1_letOut_35 : mv_in k_X1_letOut 35 = some (.ireturn, 36, 0, 0, 0) := by unfold mv_in; rw [tb_X1_letOut]; rfl
theorem tb_X1_spillOver : mv_tb k_X1_spillOver = t_X1_spillOver := rfl
theorem r_X1_spillOver_0 : mv_in k_X1_spillOver 0 = some (.aload_n 0, 1, 0, 0, 0) := by unfold mv_in; rw [tb_X1_spillOver]; rfl
theorem r_X1_spillOver_1 : mv_in k_X1_spillOver 1 = some (.getfield 21, 4, 0, 3, 170) := by unfold mv_in; rw [tb_X1_spillOver]; rfl
theorem r_X1_spillOver_4 : mv_in k_X1_spillOver 4 = some (.aload_n 0, 5, 0, 0, 0) := by unfold mv_in; rw [tb_X1_spillOver]; rfl
theorem r_X1_spillOver_5 : mv_in k_X1_spillOver 5 = some (.getfield 9, 8, 0, 0, 162) := by unfold mv_in; rw [tb_X1_spillOver]; rfl
theorem r_X1_spillOver_8 : mv_in k_X1_spillOver 8 = some (.if_icmp .gt 5, 11, 13, 0, 0) := by unfold mv_in; rw [tb_X1_spillOver]; rfl
theorem r_X1_spillOver_11 : mv_in k_X1_spillOver 11 = some (.iconst 0, 12, 0, 0, 0) := by unfold mv_in; rw [tb_X1_spillOver]; rfl
theorem r_X1_spillOver_12 : mv_in k_X1_spillOver 12 = some (.ireturn, 13, 0, 0, 0) := by unfold mv_in; rw [tb_X1_spillOver]; rfl
theorem r_X1_spillOver_13 : mv_in k_X1_spillOver 13 = some (.aload_n 0, 14, 0, 0, 0) := by unfold mv_in; rw [tb_X1_spillOver]; rfl
theorem r_X1_spillOver_14 : mv_in k_X1_spillOver 14 = some (.getfield 21, 17, 0, 3, 170) := by unfold mv_in; rw [tb_X1_spillOver]; rfl
theorem r_X1_spillOver_17 : mv_in k_X1_spillOver 17 = some (.aload_n 0, 18, 0, 0, 0) := by unfold mv_in; rw [tb_X1_spillOver]; rfl
theorem r_X1_spillOver_18 : mv_in k_X1_spillOver 18 = some (.getfield 9, 21, 0, 0, 162) := by unfold mv_in; rw [tb_X1_spillOver]; rfl
theorem r_X1_spillOver_21 : mv_in k_X1_spillOver 21 = some (.isub, 22, 0, 0, 0) := by unfold mv_in; rw [tb_X1_spillOver]; rfl
theorem r_X1_spillOver_22 : mv_in k_X1_spillOver 22 = some (.istore_n 1, 23, 0, 0, 0) := by unfold mv_in; rw [tb_X1_spillOver]; rfl
theorem r_X1_spillOver_23 : mv_in k_X1_spillOver 23 = some (.aload_n 0, 24, 0, 0, 0) := by unfold mv_in; rw [tb_X1_spillOver]; rfl
theorem r_X1_spillOver_24 : mv_in k_X1_spillOver 24 = some (.aload_n 0, 25, 0, 0, 0) := by unfold mv_in; rw [tb_X1_spillOver]; rfl
theorem r_X1_spillOver_25 : mv_in k_X1_spillOver 25 = some (.getfield 9, 28, 0, 0, 162) := by unfold mv_in; rw [tb_X1_spillOver]; rfl
theorem r_X1_spillOver_28 : mv_in k_X1_spillOver 28 = some (.putfield 21, 31, 0, 3, 170) := by unfold mv_in; rw [tb_X1_spillOver]; rfl
theorem r_X1_spillOver_31 : mv_in k_X1_spillOver 31 = some (.aload_n 0, 32, 0, 0, 0) := by unfold mv_in; rw [tb_X1_spillOver]; rfl
theorem r_X1_spillOver_32 : mv_in k_X1_spillOver 32 = some (.dup, 33, 0, 0, 0) := by unfold mv_in; rw [tb_X1_spillOver]; rfl
theorem r_X1_spillOver_33 : mv_in k_X1_spillOver 33 = some (.getfield 34, 36, 0, 7, 182) := by unfold mv_in; rw [tb_X1_spillOver]; rfl
theorem r_X1_spillOver_36 : mv_in k_X1_spillOver 36 = some (.iload_n 1, 37, 0, 0, 0) := by unfold mv_in; rw [tb_X1_spillOver]; rfl
theorem r_X1_spillOver_37 : mv_in k_X1_spillOver 37 = some (.iadd, 38, 0, 0, 0) := by unfold mv_in; rw [tb_X1_spillOver]; rfl
theorem r_X1_spillOver_38 : mv_in k_X1_spillOver 38 = some (.putfield 34, 41, 0, 7, 182) := by unfold mv_in; rw [tb_X1_spillOver]; rfl
theorem r_X1_spillOver_41 : mv_in k_X1_spillOver 41 = some (.aload_n 0, 42, 0, 0, 0) := by unfold mv_in; rw [tb_X1_spillOver]; rfl
theorem r_X1_spillOver_42 : mv_in k_X1_spillOver 42 = some (.dup, 43, 0, 0, 0) := by unfold mv_in; rw [tb_X1_spillOver]; rfl
theorem r_X1_spillOver_43 : mv_in k_X1_spillOver 43 = some (.getfield 37, 46, 0, 8, 185) := by unfold mv_in; rw [tb_X1_spillOver]; rfl
theorem r_X1_spillOver_46 : mv_in k_X1_spillOver 46 = some (.iconst 1, 47, 0, 0, 0) := by unfold mv_in; rw [tb_X1_spillOver]; rfl
theorem r_X1_spillOver_47 : mv_in k_X1_spillOver 47 = some (.iadd, 48, 0, 0, 0) := by unfold mv_in; rw [tb_X1_spillOver]; rfl
theorem r_X1_spillOver_48 : mv_in k_X1_spillOver 48 = some (.putfield 37, 51, 0, 8, 185) := by unfold mv_in; rw [tb_X1_spillOver]; rfl
theorem r_X1_spillOver_51 : mv_in k_X1_spillOver 51 = some (.iload_n 1, 52, 0, 0, 0) := by unfold mv_in; rw [tb_X1_spillOver]; rfl
theorem r_X1_spillOver_52 : mv_in k_X1_spillOver 52 = some (.ireturn, 53, 0, 0, 0) := by unfold mv_in; rw [tb_X1_spillOver]; rfl
theorem tb_X1_moveAutomaticGate : mv_tb k_X1_moveAutomaticGate = t_X1_moveAutomaticGate := rfl
theorem r_X1_moveAutomaticGate_0 : mv_in k_X1_moveAutomaticGate 0 = some (.aload_n 0, 1, 0, 0, 0) := by unfold mv_in; rw [tb_X1_moveAutomaticGate]; rfl
theorem r_X1_moveAutomaticGate_1 : mv_in k_X1_moveAutomaticGate 1 = some (.getfield 27, 4, 0, 5, 176) := by unfold mv_in; rw [tb_X1_moveAutomaticGate]; rfl
theorem r_X1_moveAutomaticGate_4 : mv_in k_X1_moveAutomaticGate 4 = some (.ifCond .eq 44, 7, 48, 0, 0) := by unfold mv_in; rw [tb_X1_moveAutomaticGate]; rfl
theorem r_X1_moveAutomaticGate_7 : mv_in k_X1_moveAutomaticGate 7 = some (.aload_n 0, 8, 0, 0, 0) := by unfold mv_in; rw [tb_X1_moveAutomaticGate]; rfl
theorem r_X1_moveAutomaticGate_8 : mv_in k_X1_moveAutomaticGate 8 = some (.getfield 21, 11, 0, 3, 170) := by unfold mv_in; rw [tb_X1_moveAutomaticGate]; rfl
theorem r_X1_moveAutomaticGate_11 : mv_in k_X1_moveAutomaticGate 11 = some (.aload_n 0, 12, 0, 0, 0) := by unfold mv_in; rw [tb_X1_moveAutomaticGate]; rfl
theorem r_X1_moveAutomaticGate_12 : mv_in k_X1_moveAutomaticGate 12 = some (.getfield 31, 15, 0, 6, 179) := by unfold mv_in; rw [tb_X1_moveAutomaticGate]; rfl
theorem r_X1_moveAutomaticGate_15 : mv_in k_X1_moveAutomaticGate 15 = some (.if_icmp .le 17, 18, 32, 0, 0) := by unfold mv_in; rw [tb_X1_moveAutomaticGate]; rfl
theorem r_X1_moveAutomaticGate_18 : mv_in k_X1_moveAutomaticGate 18 = some (.aload_n 0, 19, 0, 0, 0) := by unfold mv_in; rw [tb_X1_moveAutomaticGate]; rfl
theorem r_X1_moveAutomaticGate_19 : mv_in k_X1_moveAutomaticGate 19 = some (.getfield 21, 22, 0, 3, 170) := by unfold mv_in; rw [tb_X1_moveAutomaticGate]; rfl
theorem r_X1_moveAutomaticGate_22 : mv_in k_X1_moveAutomaticGate 22 = some (.aload_n 0, 23, 0, 0, 0) := by unfold mv_in; rw [tb_X1_moveAutomaticGate]; rfl
theorem r_X1_moveAutomaticGate_23 : mv_in k_X1_moveAutomaticGate 23 = some (.getfield 31, 26, 0, 6, 179) := by unfold mv_in; rw [tb_X1_moveAutomaticGate]; rfl
theorem r_X1_moveAutomaticGate_26 : mv_in k_X1_moveAutomaticGate 26 = some (.isub, 27, 0, 0, 0) := by unfold mv_in; rw [tb_X1_moveAutomaticGate]; rfl
theorem r_X1_moveAutomaticGate_27 : mv_in k_X1_moveAutomaticGate 27 = some (.iconst 4, 28, 0, 0, 0) := by unfold mv_in; rw [tb_X1_moveAutomaticGate]; rfl
theorem r_X1_moveAutomaticGate_28 : mv_in k_X1_moveAutomaticGate 28 = some (.idiv, 29, 0, 0, 0) := by unfold mv_in; rw [tb_X1_moveAutomaticGate]; rfl
theorem r_X1_moveAutomaticGate_29 : mv_in k_X1_moveAutomaticGate 29 = some (.goto 4, 32, 33, 0, 0) := by unfold mv_in; rw [tb_X1_moveAutomaticGate]; rfl
theorem r_X1_moveAutomaticGate_32 : mv_in k_X1_moveAutomaticGate 32 = some (.iconst 0, 33, 0, 0, 0) := by unfold mv_in; rw [tb_X1_moveAutomaticGate]; rfl
theorem r_X1_moveAutomaticGate_33 : mv_in k_X1_moveAutomaticGate 33 = some (.istore_n 1, 34, 0, 0, 0) := by unfold mv_in; rw [tb_X1_moveAutomaticGate]; rfl
theorem r_X1_moveAutomaticGate_34 : mv_in k_X1_moveAutomaticGate 34 = some (.aload_n 0, 35, 0, 0, 0) := by unfold mv_in; rw [tb_X1_moveAutomaticGate]; rfl
theorem r_X1_moveAutomaticGate_35 : mv_in k_X1_moveAutomaticGate 35 = some (.iload_n 1, 36, 0, 0, 0) := by unfold mv_in; rw [tb_X1_moveAutomaticGate]; rfl
theorem r_X1_moveAutomaticGate_36 : mv_in k_X1_moveAutomaticGate 36 = some (.iconst 5, 37, 0, 0, 0) := by unfold mv_in; rw [tb_X1_moveAutomaticGate]; rfl
theorem r_X1_moveAutomaticGate_37 : mv_in k_X1_moveAutomaticGate 37 = some (.if_icmp .ge 7, 40, 44, 0, 0) := by unfold mv_in; rw [tb_X1_moveAutomaticGate]; rfl
theorem r_X1_moveAutomaticGate_40 : mv_in k_X1_moveAutomaticGate 40 = some (.iload_n 1, 41, 0, 0, 0) := by unfold mv_in; rw [tb_X1_moveAutomaticGate]; rfl
theorem r_X1_moveAutomaticGate_41 : mv_in k_X1_moveAutomaticGate 41 = some (.goto 4, 44, 45, 0, 0) := by unfold mv_in; rw [tb_X1_moveAutomaticGate]; rfl
theorem r_X1_moveAutomaticGate_44 : mv_in k_X1_moveAutomaticGate 44 = some (.iconst 5, 45, 0, 0, 0) := by unfold mv_in; rw [tb_X1_moveAutomaticGate]; rfl
theorem r_X1_moveAutomaticGate_45 : mv_in k_X1_moveAutomaticGate 45 = some (.putfield 24, 48, 0, 4, 173) := by unfold mv_in; rw [tb_X1_moveAutomaticGate]; rfl
theorem r_X1_moveAutomaticGate_48 : mv_in k_X1_moveAutomaticGate 48 = some (.return_, 49, 0, 0, 0) := by unfold mv_in; rw [tb_X1_moveAutomaticGate]; rfl
section BAS
variable {L : Nat} {xs : Nat → Int32}
theorem c_X1_spillOver (d c o : Nat) (S : mS) (hB : Ba o) : mv_cl L xs (d + 1) k_X1_spillOver [.ref o] (c, 149, mk S) = if ¬ S.1 o 0 < S.1 o 3 then some (.inl (some (.int 0)), (c, 149, mk S)) else
    some (.inl (some (.int (S.1 o 3 - S.1 o 0))), (c, 149, mk (up2 (up2 (up2 S.1 o 3 (S.1 o 0)) o 7 (S.1 o 7 + (S.1 o 3 - S.1 o 0))) o 8 (S.1 o 8 + 1), S.2))) := by
  have hi := hB.is
  have hg := fun (S : mS) (k : Nat) (hk : k < 9) => hB.get (S := S) hk
  have hp := fun (S : mS) (k : Nat) (v : Int32) (hk : k < 9) => hB.put (S := S) (v := v) hk
  by_cases hc : S.1 o 0 < S.1 o 3
  case neg =>
    rw [if_pos hc]
    apply mv_cl_of
    simp only [mv_Ev_row r_X1_spillOver_0, mv_Ev_row r_X1_spillOver_1, mv_Ev_row r_X1_spillOver_4, mv_Ev_row r_X1_spillOver_5, mv_Ev_row r_X1_spillOver_8, mv_Ev_row r_X1_spillOver_11, mv_Ev_row r_X1_spillOver_12, mv_Ev_row r_X1_spillOver_13, mv_Ev_row r_X1_spillOver_14, mv_Ev_row r_X1_spillOver_17, mv_Ev_row r_X1_spillOver_18, mv_Ev_row r_X1_spillOver_21, mv_Ev_row r_X1_spillOver_22, mv_Ev_row r_X1_spillOver_23, mv_Ev_row r_X1_spillOver_24, mv_Ev_row r_X1_spillOver_25, mv_Ev_row r_X1_spillOver_28, mv_Ev_row r_X1_spillOver_31, mv_Ev_row r_X1_spillOver_32, mv_Ev_row r_X1_spillOver_33, mv_Ev_row r_X1_spillOver_36, mv_Ev_row r_X1_spillOver_37, mv_Ev_row r_X1_spillOver_38, mv_Ev_row r_X1_spillOver_41, mv_Ev_row r_X1_spillOver_42, mv_Ev_row r_X1_spillOver_43, mv_Ev_row r_X1_spillOver_46, mv_Ev_row r_X1_spillOver_47, mv_Ev_row r_X1_spillOver_48, mv_Ev_row r_X1_spillOver_51, mv_Ev_row r_X1_spillOver_52, ea_aload_n, ea_get, ea_icmp, ea_iconst, ea_ireturn, ea_ireturnZ, ea_isub, ea_istore_n, ea_putI, ea_putZ, ea_putJ, ea_dup_i, ea_dup_r, ea_iload_n, ea_iadd, ea_2n, ea_2f, ea_2c, eb_l0, eb_l1, eb_l2, eb_l3, eb_l4, eb_l5, eb_s0, eb_s1, eb_s2, eb_s3, eb_s4, eb_s5, fv0, fv1, fv2, fv3, ft_0_3, ft_0_7, ft_0_8, ea_if, mv_lk, mv_f1, mv_f2, mv_cmp, mv_il, Value.category, List.filter, ↓reduceIte, Nat.reduceEqDiff, Nat.reduceAdd, Nat.reduceLT, Nat.reduceBEq, Nat.zero_add, Nat.add_zero, Nat.zero_ne_one, Nat.one_ne_zero, decide_eq_true_eq, Bool.not_true, Bool.not_false, Bool.and_true, Bool.true_and, Bool.and_false, Bool.false_and, BEq.rfl, beq_self_eq_true, Bool.false_eq_true, reduceCtorEq, not_false_eq_true, i_m1, i_0, i_1, i_2, i_3, i_4, i_5, hi, hg, hp, hc, up2_k, up2_eq, and_self]
    done
  case pos =>
    rw [if_neg (not_not_intro hc)]
    apply mv_cl_of
    simp only [mv_Ev_row r_X1_spillOver_0, mv_Ev_row r_X1_spillOver_1, mv_Ev_row r_X1_spillOver_4, mv_Ev_row r_X1_spillOver_5, mv_Ev_row r_X1_spillOver_8, mv_Ev_row r_X1_spillOver_11, mv_Ev_row r_X1_spillOver_12, mv_Ev_row r_X1_spillOver_13, mv_Ev_row r_X1_spillOver_14, mv_Ev_row r_X1_spillOver_17, mv_Ev_row r_X1_spillOver_18, mv_Ev_row r_X1_spillOver_21, mv_Ev_row r_X1_spillOver_22, mv_Ev_row r_X1_spillOver_23, mv_Ev_row r_X1_spillOver_24, mv_Ev_row r_X1_spillOver_25, mv_Ev_row r_X1_spillOver_28, mv_Ev_row r_X1_spillOver_31, mv_Ev_row r_X1_spillOver_32, mv_Ev_row r_X1_spillOver_33, mv_Ev_row r_X1_spillOver_36, mv_Ev_row r_X1_spillOver_37, mv_Ev_row r_X1_spillOver_38, mv_Ev_row r_X1_spillOver_41, mv_Ev_row r_X1_spillOver_42, mv_Ev_row r_X1_spillOver_43, mv_Ev_row r_X1_spillOver_46, mv_Ev_row r_X1_spillOver_47, mv_Ev_row r_X1_spillOver_48, mv_Ev_row r_X1_spillOver_51, mv_Ev_row r_X1_spillOver_52, ea_aload_n, ea_get, ea_icmp, ea_iconst, ea_ireturn, ea_ireturnZ, ea_isub, ea_istore_n, ea_putI, ea_putZ, ea_putJ, ea_dup_i, ea_dup_r, ea_iload_n, ea_iadd, ea_2n, ea_2f, ea_2c, eb_l0, eb_l1, eb_l2, eb_l3, eb_l4, eb_l5, eb_s0, eb_s1, eb_s2, eb_s3, eb_s4, eb_s5, fv0, fv1, fv2, fv3, ft_0_3, ft_0_7, ft_0_8, ea_if, mv_lk, mv_f1, mv_f2, mv_cmp, mv_il, Value.category, List.filter, ↓reduceIte, Nat.reduceEqDiff, Nat.reduceAdd, Nat.reduceLT, Nat.reduceBEq, Nat.zero_add, Nat.add_zero, Nat.zero_ne_one, Nat.one_ne_zero, decide_eq_true_eq, Bool.not_true, Bool.not_false, Bool.and_true, Bool.true_and, Bool.and_false, Bool.false_and, BEq.rfl, beq_self_eq_true, Bool.false_eq_true, reduceCtorEq, not_false_eq_true, i_m1, i_0, i_1, i_2, i_3, i_4, i_5, hi, hg, hp, hc, up2_k, up2_eq, and_self]
    done
end BAS
