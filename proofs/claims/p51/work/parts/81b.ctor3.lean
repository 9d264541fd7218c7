/-! THE CLASS'S CONSTRUCTOR -/
section CL
variable {L : Nat} {xs : Nat → Int32} {d t n : Nat} {h : mv_H}
theorem c_X10_init (hd : 5 ≤ d) : zCt L xs d k_X10_init 0 142 := by
  intro t h
  obtain ⟨d, rfl⟩ : ∃ e, d = e + 1 := ⟨d - 1, by omega⟩
  obtain ⟨h1, e1, v1, k1, s1⟩ := c_X2_init (L := L) (xs := xs) (d := d) (by omega) Ch.c1 t (mv_upo h 0 (fun k => defaultValue (mv_ty (mv_kd 0).1 k)))
  rw [show (mv_kd 1).1 = 1 from rfl] at e1
  simp only [Nat.reduceAdd] at e1
  obtain ⟨h2, e2, v2, k2, s2⟩ := c_X2_init (L := L) (xs := xs) (d := d) (by omega) Ch.c9 t (mv_up h1 0 0 (.ref 1))
  rw [show (mv_kd 9).1 = 1 from rfl] at e2
  simp only [Nat.reduceAdd] at e2
  obtain ⟨h3, e3, v3, k3, s3⟩ := c_X2_init (L := L) (xs := xs) (d := d) (by omega) Ch.c17 t (mv_up h2 0 1 (.ref 9))
  rw [show (mv_kd 17).1 = 1 from rfl] at e3
  simp only [Nat.reduceAdd] at e3
  obtain ⟨h4, e4, v4, k4, s4⟩ := c_X2_init (L := L) (xs := xs) (d := d) (by omega) Ch.c25 t (mv_up h3 0 2 (.ref 17))
  rw [show (mv_kd 25).1 = 1 from rfl] at e4
  simp only [Nat.reduceAdd] at e4
  obtain ⟨h5, e5, v5, k5, s5⟩ := c_X5_init (L := L) (xs := xs) (d := d) (by omega) t (mv_up h4 0 3 (.ref 25))
  rw [show (mv_kd 33).1 = 2 from rfl] at e5
  simp only [Nat.reduceAdd] at e5
  obtain ⟨h6, e6, v6, k6, s6⟩ := c_X7_init (L := L) (xs := xs) (d := d) (by omega) t (mv_up h5 0 4 (.ref 33))
  rw [show (mv_kd 99).1 = 4 from rfl] at e6
  simp only [Nat.reduceAdd] at e6
  obtain ⟨h7, e7, v7, k7, s7⟩ := c_X9_init (L := L) (xs := xs) (d := d) (by omega) t (mv_up h6 0 5 (.ref 99))
  rw [show (mv_kd 133).1 = 6 from rfl] at e7
  simp only [Nat.reduceAdd] at e7
  obtain ⟨h8, e8, v8, k8, s8⟩ := c_X8_init (L := L) (xs := xs) (d := d) (by omega) t (mv_up h7 0 6 (.ref 133))
  rw [show (mv_kd 137).1 = 5 from rfl] at e8
  simp only [Nat.reduceAdd] at e8
  obtain ⟨h9, e9, v9, k9, s9⟩ := c_X6_init (L := L) (xs := xs) (d := d) (by omega) t (mv_up h8 0 7 (.ref 137))
  rw [show (mv_kd 140).1 = 3 from rfl] at e9
  simp only [Nat.reduceAdd] at e9
  rw [show (mv_kd 0).1 = 7 from rfl] at e1 k1
  have z1 : Int32.ofInt (-1) = Int32.ofInt (-1) := rfl
  refine ⟨mv_up (mv_up (mv_up (mv_up h9 0 8 (.ref 140)) 0 9 (.int (Int32.ofInt 0))) 0 10 (.int (Int32.ofInt (-1)))) 0 11 (.int (Int32.ofInt (-1))), ?_, ?_, fun p a => by omega, fun hh => ?_⟩
  · rw [show (mv_kd 0).1 = 7 from rfl]
    apply mv_cl_of
    simp only [mv_il, Value.category, Nat.zero_add, Nat.reduceAdd]
    simp (disch := first | assumption | omega | rfl | decide) only [mv_Ev_row r_X10_init_0, mv_Ev_row r_X10_init_1, mv_Ev_row r_X10_init_4, mv_Ev_row r_X10_init_5, mv_Ev_row r_X10_init_8, mv_Ev_row r_X10_init_9, mv_Ev_row r_X10_init_12, mv_Ev_row r_X10_init_15, mv_Ev_row r_X10_init_16, mv_Ev_row r_X10_init_19, mv_Ev_row r_X10_init_20, mv_Ev_row r_X10_init_23, mv_Ev_row r_X10_init_26, mv_Ev_row r_X10_init_27, mv_Ev_row r_X10_init_30, mv_Ev_row r_X10_init_31, mv_Ev_row r_X10_init_34, mv_Ev_row r_X10_init_37, mv_Ev_row r_X10_init_38, mv_Ev_row r_X10_init_41, mv_Ev_row r_X10_init_42, mv_Ev_row r_X10_init_45, mv_Ev_row r_X10_init_48, mv_Ev_row r_X10_init_49, mv_Ev_row r_X10_init_52, mv_Ev_row r_X10_init_53, mv_Ev_row r_X10_init_56, mv_Ev_row r_X10_init_59, mv_Ev_row r_X10_init_60, mv_Ev_row r_X10_init_63, mv_Ev_row r_X10_init_64, mv_Ev_row r_X10_init_67, mv_Ev_row r_X10_init_70, mv_Ev_row r_X10_init_71, mv_Ev_row r_X10_init_74, mv_Ev_row r_X10_init_75, mv_Ev_row r_X10_init_78, mv_Ev_row r_X10_init_81, mv_Ev_row r_X10_init_82, mv_Ev_row r_X10_init_85, mv_Ev_row r_X10_init_86, mv_Ev_row r_X10_init_89, mv_Ev_row r_X10_init_92, mv_Ev_row r_X10_init_93, mv_Ev_row r_X10_init_96, mv_Ev_row r_X10_init_97, mv_Ev_row r_X10_init_100, mv_Ev_row r_X10_init_103, mv_Ev_row r_X10_init_104, mv_Ev_row r_X10_init_105, mv_Ev_row r_X10_init_108, mv_Ev_row r_X10_init_109, mv_Ev_row r_X10_init_110, mv_Ev_row r_X10_init_113, mv_Ev_row r_X10_init_114, mv_Ev_row r_X10_init_115, mv_Ev_row r_X10_init_118, ea_aload_n, ci_obj, ci_new, ea_dup_i, ea_dup_r, ck_X2_init, cp_7_0, cp_7_1, cp_7_2, cp_7_3, ck_X5_init, cp_7_4, ck_X7_init, cp_7_5, ck_X9_init, cp_7_6, ck_X8_init, cp_7_7, ck_X6_init, cp_7_8, ea_iconst, cp_7_9, cp_7_10, cp_7_11, ea_vret, cz_eq, cz_ne, cz_lt, cz_ge, cz_gt, cz_le, mv_ac, decide_eq_true_eq, not_true_eq_false, and_self, and_true, true_and, ea_2n, ea_2f, ea_2c, ea_if, if_pos, if_neg, mv_lk, mv_f1, mv_f2, Value.category, List.filter, ↓reduceIte, Nat.reduceEqDiff, Nat.reduceAdd, Nat.reduceLT, Nat.reduceBEq, Nat.zero_add, Nat.add_zero, Nat.zero_ne_one, Nat.one_ne_zero, Bool.not_true, Bool.not_false, Bool.and_true, Bool.true_and, Bool.and_false, Bool.false_and, BEq.rfl, beq_self_eq_true, Bool.false_eq_true, reduceCtorEq, not_false_eq_true, fv0, fv1, fv2, fv3, eb_l0, eb_l1, eb_l2, eb_l3, eb_l4, eb_l5, eb_s0, eb_s1, eb_s2, eb_s3, eb_s4, eb_s5, oz_add, oz_sub, oz_mul, oz_neg, ol_add, ol_sub, sD_eq, sD_sD, sD_ne, sD_in, sD_in2, sD_in3, upR_is, upR_ne, mk_v, mk_n, mk_x, mk_i, mv_cs, Nat.reduceLeDiff, mv_ch_z, nh_X10_init, e1, e2, e3, e4, e5, e6, e7, e8, e9]
  · intro p k hp hp8 hz
    obtain ⟨hk1, hk2⟩ := zk_in hz
    by_cases q0 : p = 0
    · subst q0
      have hk2 : k < 12 := hk2
      rcases (by omega : k = 0 ∨ k = 1 ∨ k = 2 ∨ k = 3 ∨ k = 4 ∨ k = 5 ∨ k = 6 ∨ k = 7 ∨ k = 8 ∨ k = 9 ∨ k = 10 ∨ k = 11) with rfl | rfl | rfl | rfl | rfl | rfl | rfl | rfl | rfl | rfl | rfl | rfl
      · simp (disch := omega) only [up_eq, up_nk, k9 0 (by omega), k8 0 (by omega), k7 0 (by omega), k6 0 (by omega), k5 0 (by omega), k4 0 (by omega), k3 0 (by omega), k2 0 (by omega)]
        try rfl
      · simp (disch := omega) only [up_eq, up_nk, k9 0 (by omega), k8 0 (by omega), k7 0 (by omega), k6 0 (by omega), k5 0 (by omega), k4 0 (by omega), k3 0 (by omega), k2 0 (by omega)]
        try rfl
      · simp (disch := omega) only [up_eq, up_nk, k9 0 (by omega), k8 0 (by omega), k7 0 (by omega), k6 0 (by omega), k5 0 (by omega), k4 0 (by omega), k3 0 (by omega), k2 0 (by omega)]
        try rfl
      · simp (disch := omega) only [up_eq, up_nk, k9 0 (by omega), k8 0 (by omega), k7 0 (by omega), k6 0 (by omega), k5 0 (by omega), k4 0 (by omega), k3 0 (by omega), k2 0 (by omega)]
        try rfl
      · simp (disch := omega) only [up_eq, up_nk, k9 0 (by omega), k8 0 (by omega), k7 0 (by omega), k6 0 (by omega), k5 0 (by omega), k4 0 (by omega), k3 0 (by omega), k2 0 (by omega)]
        try rfl
      · simp (disch := omega) only [up_eq, up_nk, k9 0 (by omega), k8 0 (by omega), k7 0 (by omega), k6 0 (by omega), k5 0 (by omega), k4 0 (by omega), k3 0 (by omega), k2 0 (by omega)]
        try rfl
      · simp (disch := omega) only [up_eq, up_nk, k9 0 (by omega), k8 0 (by omega), k7 0 (by omega), k6 0 (by omega), k5 0 (by omega), k4 0 (by omega), k3 0 (by omega), k2 0 (by omega)]
        try rfl
      · simp (disch := omega) only [up_eq, up_nk, k9 0 (by omega), k8 0 (by omega), k7 0 (by omega), k6 0 (by omega), k5 0 (by omega), k4 0 (by omega), k3 0 (by omega), k2 0 (by omega)]
        try rfl
      · simp (disch := omega) only [up_eq, up_nk, k9 0 (by omega), k8 0 (by omega), k7 0 (by omega), k6 0 (by omega), k5 0 (by omega), k4 0 (by omega), k3 0 (by omega), k2 0 (by omega)]
        try rfl
      · simp (disch := omega) only [up_eq, up_nk, k9 0 (by omega), k8 0 (by omega), k7 0 (by omega), k6 0 (by omega), k5 0 (by omega), k4 0 (by omega), k3 0 (by omega), k2 0 (by omega)]
        try rfl
      · simp (disch := omega) only [up_eq, up_nk, k9 0 (by omega), k8 0 (by omega), k7 0 (by omega), k6 0 (by omega), k5 0 (by omega), k4 0 (by omega), k3 0 (by omega), k2 0 (by omega)]
        try rfl
      · simp (disch := omega) only [up_eq, up_nk, k9 0 (by omega), k8 0 (by omega), k7 0 (by omega), k6 0 (by omega), k5 0 (by omega), k4 0 (by omega), k3 0 (by omega), k2 0 (by omega)]
        try rfl
    · rw [up_ne q0, up_ne q0, up_ne q0, up_ne q0]
      by_cases q9 : 140 ≤ p
      · exact v9 p k q9 (by omega) hz
      rw [k9 p (by omega), up_ne q0]
      by_cases q8 : 137 ≤ p
      · exact v8 p k q8 (by omega) hz
      rw [k8 p (by omega), up_ne q0]
      by_cases q7 : 133 ≤ p
      · exact v7 p k q7 (by omega) hz
      rw [k7 p (by omega), up_ne q0]
      by_cases q6 : 99 ≤ p
      · exact v6 p k q6 (by omega) hz
      rw [k6 p (by omega), up_ne q0]
      by_cases q5 : 33 ≤ p
      · exact v5 p k q5 (by omega) hz
      rw [k5 p (by omega), up_ne q0]
      by_cases q4 : 25 ≤ p
      · exact v4 p k q4 (by omega) hz
      rw [k4 p (by omega), up_ne q0]
      by_cases q3 : 17 ≤ p
      · exact v3 p k q3 (by omega) hz
      rw [k3 p (by omega), up_ne q0]
      by_cases q2 : 9 ≤ p
      · exact v2 p k q2 (by omega) hz
      rw [k2 p (by omega), up_ne q0]
      exact v1 p k (by omega) (by omega) hz
  · exact sm_up trivial (sm_up trivial (sm_up trivial (sm_up (sm_r (by omega)) (s9 (sm_up (sm_r (by omega)) (s8 (sm_up (sm_r (by omega)) (s7 (sm_up (sm_r (by omega)) (s6 (sm_up (sm_r (by omega)) (s5 (sm_up (sm_r (by omega)) (s4 (sm_up (sm_r (by omega)) (s3 (sm_up (sm_r (by omega)) (s2 (sm_up (sm_r (by omega)) (s1 (sm_upo (fun _ => sm_dv) hh)))))))))))))))))))))
end CL
