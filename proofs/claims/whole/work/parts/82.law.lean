/-! THE LAW RUNS -/
section CL
variable {L : Nat} {xs : Nat → Int32} {d t n : Nat} {h : mv_H}
theorem c_X10_init (hd : 5 ≤ d) : zCt L xs d k_X10_init 0 142 := by
  intro t h
  obtain ⟨d, rfl⟩ : ∃ e, d = e + 1 := ⟨d - 1, by omega⟩
  obtain ⟨h1, e1, v1, k1⟩ := c_X2_init (L := L) (xs := xs) (d := d) (by omega) Ch.c1 t (mv_upo h 0 (fun k => defaultValue (mv_ty (mv_kd 0).1 k)))
  rw [show (mv_kd 1).1 = 1 from rfl] at e1
  simp only [Nat.reduceAdd] at e1
  obtain ⟨h2, e2, v2, k2⟩ := c_X2_init (L := L) (xs := xs) (d := d) (by omega) Ch.c9 t (mv_up h1 0 0 (.ref 1))
  rw [show (mv_kd 9).1 = 1 from rfl] at e2
  simp only [Nat.reduceAdd] at e2
  obtain ⟨h3, e3, v3, k3⟩ := c_X2_init (L := L) (xs := xs) (d := d) (by omega) Ch.c17 t (mv_up h2 0 1 (.ref 9))
  rw [show (mv_kd 17).1 = 1 from rfl] at e3
  simp only [Nat.reduceAdd] at e3
  obtain ⟨h4, e4, v4, k4⟩ := c_X2_init (L := L) (xs := xs) (d := d) (by omega) Ch.c25 t (mv_up h3 0 2 (.ref 17))
  rw [show (mv_kd 25).1 = 1 from rfl] at e4
  simp only [Nat.reduceAdd] at e4
  obtain ⟨h5, e5, v5, k5⟩ := c_X5_init (L := L) (xs := xs) (d := d) (by omega) t (mv_up h4 0 3 (.ref 25))
  rw [show (mv_kd 33).1 = 2 from rfl] at e5
  simp only [Nat.reduceAdd] at e5
  obtain ⟨h6, e6, v6, k6⟩ := c_X7_init (L := L) (xs := xs) (d := d) (by omega) t (mv_up h5 0 4 (.ref 33))
  rw [show (mv_kd 99).1 = 4 from rfl] at e6
  simp only [Nat.reduceAdd] at e6
  obtain ⟨h7, e7, v7, k7⟩ := c_X9_init (L := L) (xs := xs) (d := d) (by omega) t (mv_up h6 0 5 (.ref 99))
  rw [show (mv_kd 133).1 = 6 from rfl] at e7
  simp only [Nat.reduceAdd] at e7
  obtain ⟨h8, e8, v8, k8⟩ := c_X8_init (L := L) (xs := xs) (d := d) (by omega) t (mv_up h7 0 6 (.ref 133))
  rw [show (mv_kd 137).1 = 5 from rfl] at e8
  simp only [Nat.reduceAdd] at e8
  obtain ⟨h9, e9, v9, k9⟩ := c_X6_init (L := L) (xs := xs) (d := d) (by omega) t (mv_up h8 0 7 (.ref 137))
  rw [show (mv_kd 140).1 = 3 from rfl] at e9
  simp only [Nat.reduceAdd] at e9
  rw [show (mv_kd 0).1 = 7 from rfl] at e1 k1
  have z1 : Int32.ofInt (-1) = Int32.ofInt (-1) := rfl
  refine ⟨mv_up (mv_up (mv_up (mv_up h9 0 8 (.ref 140)) 0 9 (.int (Int32.ofInt 0))) 0 10 (.int (Int32.ofInt (-1)))) 0 11 (.int (Int32.ofInt (-1))), ?_, ?_, fun p a => by omega⟩
  · rw [show (mv_kd 0).1 = 7 from rfl]
    apply mv_cl_of
    simp only [mv_il, Value.category, Nat.zero_add, Nat.reduceAdd]
    simp (disch := first | assumption | omega | rfl | decide) only [mv_Ev_row r_X10_init_0, mv_Ev_row r_X10_init_1, mv_Ev_row r_X10_init_4, mv_Ev_row r_X10_init_5, mv_Ev_row r_X10_init_8, mv_Ev_row r_X10_init_9, mv_Ev_row r_X10_init_12, mv_Ev_row r_X10_init_15, mv_Ev_row r_X10_init_16, mv_Ev_row r_X10_init_19, mv_Ev_row r_X10_init_20, mv_Ev_row r_X10_init_23, mv_Ev_row r_X10_init_26, mv_Ev_row r_X10_init_27, mv_Ev_row r_X10_init_30, mv_Ev_row r_X10_init_31, mv_Ev_row r_X10_init_34, mv_Ev_row r_X10_init_37, mv_Ev_row r_X10_init_38, mv_Ev_row r_X10_init_41, mv_Ev_row r_X10_init_42, mv_Ev_row r_X10_init_45, mv_Ev_row r_X10_init_48, mv_Ev_row r_X10_init_49, mv_Ev_row r_X10_init_52, mv_Ev_row r_X10_init_53, mv_Ev_row r_X10_init_56, mv_Ev_row r_X10_init_59, mv_Ev_row r_X10_init_60, mv_Ev_row r_X10_init_63, mv_Ev_row r_X10_init_64, mv_Ev_row r_X10_init_67, mv_Ev_row r_X10_init_70, mv_Ev_row r_X10_init_71, mv_Ev_row r_X10_init_74, mv_Ev_row r_X10_init_75, mv_Ev_row r_X10_init_78, mv_Ev_row r_X10_init_81, mv_Ev_row r_X10_init_82, mv_Ev_row r_X10_init_85, mv_Ev_row r_X10_init_86, mv_Ev_row r_X10_init_89, mv_Ev_row r_X10_init_92, mv_Ev_row r_X10_init_93, mv_Ev_row r_X10_init_96, mv_Ev_row r_X10_init_97, mv_Ev_row r_X10_init_100, mv_Ev_row r_X10_init_103, mv_Ev_row r_X10_init_104, mv_Ev_row r_X10_init_105, mv_Ev_row r_X10_init_108, mv_Ev_row r_X10_init_109, mv_Ev_row r_X10_init_110, mv_Ev_row r_X10_init_113, mv_Ev_row r_X10_init_114, mv_Ev_row r_X10_init_115, mv_Ev_row r_X10_init_118, ea_aload_n, ci_obj, ci_new, ea_dup_i, ea_dup_r, ck_X2_init, cp_7_0, cp_7_1, cp_7_2, cp_7_3, ck_X5_init, cp_7_4, ck_X7_init, cp_7_5, ck_X9_init, cp_7_6, ck_X8_init, cp_7_7, ck_X6_init, cp_7_8, ea_iconst, cp_7_9, cp_7_10, cp_7_11, ea_vret, cz_eq, cz_ne, cz_lt, cz_ge, cz_gt, cz_le, mv_ac, decide_eq_true_eq, not_true_eq_false, and_self, and_true, true_and, ea_2n, ea_2f, ea_2c, ea_if, if_pos, if_neg, mv_lk, mv_f1, mv_f2, Value.category, List.filter, ↓reduceIte, Nat.reduceEqDiff, Nat.reduceAdd, Nat.reduceLT, Nat.reduceBEq, Nat.zero_add, Nat.add_zero, Nat.zero_ne_one, Nat.one_ne_zero, Bool.not_true, Bool.not_false, Bool.and_true, Bool.true_and, Bool.and_false, Bool.false_and, BEq.rfl, beq_self_eq_true, Bool.false_eq_true, reduceCtorEq, not_false_eq_true, fv0, fv1, fv2, fv3, eb_l0, eb_l1, eb_l2, eb_l3, eb_l4, eb_l5, eb_s0, eb_s1, eb_s2, eb_s3, eb_s4, eb_s5, oz_add, oz_sub, oz_mul, oz_neg, ol_add, ol_sub, sD_eq, sD_sD, sD_ne, sD_in, sD_in2, sD_in3, upR_is, upR_ne, mk_v, mk_n, mk_x, mk_i, mv_cs, Nat.reduceLeDiff, mv_ch_z, nh_X10_init, e1, e2, e3, e4, e5, e6, e7, e8, e9]
  · intro p k hp hp8 hz
    obtain ⟨hk1, hk2⟩ := zk_in hz
    by_cases q0 : p = 0
    · subst q0
      have hk2 : k < 12 := hk2
      rcases (by omega : k = 0 ∨ k = 1 ∨ k = 2 ∨ k = 3 ∨ k = 4 ∨ k = 5 ∨ k = 6 ∨ k = 7 ∨ k = 8 ∨ k = 9 ∨ k = 10 ∨ k = 11) with rfl | rfl | rfl | rfl | rfl | rfl | rfl | rfl | rfl | rfl | rfl | rfl
      · simp (disch := omega) only [up_eq, up_nk, k9 0 (by omega), k8 0 (by omega), k7 0 (by omega), k6 0 (by omega), k5 0 (by omega), k4 0 (by omega), k3 0 (by omega), k2 0 (by omega)]
        try rfl
      · simp (disch := omega) only [up_eq, up_nk, k9 0 (by omega), k8 0 (by omega), k7 0 (by omega), k6 0 (by omega), k5 0 (by omega), k4 0 (by omega), k3 0 (by omega), k2 0 (by omega)]
        try rfl
      · simp (disch := omega) only [up_eq, up_nk, k9 0 (by omega), k8 0 (by omega), k7 0 (by omega), k6 0 (by omega), k5 0 (by omega), k4 0 (by omega), k3 0 (by omega), k2 0 (by omega)]
        try rfl
      · simp (disch := omega) only [up_eq, up_nk, k9 0 (by omega), k8 0 (by omega), k7 0 (by omega), k6 0 (by omega), k5 0 (by omega), k4 0 (by omega), k3 0 (by omega), k2 0 (by omega)]
        try rfl
      · simp (disch := omega) only [up_eq, up_nk, k9 0 (by omega), k8 0 (by omega), k7 0 (by omega), k6 0 (by omega), k5 0 (by omega), k4 0 (by omega), k3 0 (by omega), k2 0 (by omega)]
        try rfl
      · simp (disch := omega) only [up_eq, up_nk, k9 0 (by omega), k8 0 (by omega), k7 0 (by omega), k6 0 (by omega), k5 0 (by omega), k4 0 (by omega), k3 0 (by omega), k2 0 (by omega)]
        try rfl
      · simp (disch := omega) only [up_eq, up_nk, k9 0 (by omega), k8 0 (by omega), k7 0 (by omega), k6 0 (by omega), k5 0 (by omega), k4 0 (by omega), k3 0 (by omega), k2 0 (by omega)]
        try rfl
      · simp (disch := omega) only [up_eq, up_nk, k9 0 (by omega), k8 0 (by omega), k7 0 (by omega), k6 0 (by omega), k5 0 (by omega), k4 0 (by omega), k3 0 (by omega), k2 0 (by omega)]
        try rfl
      · simp (disch := omega) only [up_eq, up_nk, k9 0 (by omega), k8 0 (by omega), k7 0 (by omega), k6 0 (by omega), k5 0 (by omega), k4 0 (by omega), k3 0 (by omega), k2 0 (by omega)]
        try rfl
      · simp (disch := omega) only [up_eq, up_nk, k9 0 (by omega), k8 0 (by omega), k7 0 (by omega), k6 0 (by omega), k5 0 (by omega), k4 0 (by omega), k3 0 (by omega), k2 0 (by omega)]
        try rfl
      · simp (disch := omega) only [up_eq, up_nk, k9 0 (by omega), k8 0 (by omega), k7 0 (by omega), k6 0 (by omega), k5 0 (by omega), k4 0 (by omega), k3 0 (by omega), k2 0 (by omega)]
        try rfl
      · simp (disch := omega) only [up_eq, up_nk, k9 0 (by omega), k8 0 (by omega), k7 0 (by omega), k6 0 (by omega), k5 0 (by omega), k4 0 (by omega), k3 0 (by omega), k2 0 (by omega)]
        try rfl
    · rw [up_ne q0, up_ne q0, up_ne q0, up_ne q0]
      by_cases q9 : 140 ≤ p
      · exact v9 p k q9 (by omega) hz
      rw [k9 p (by omega), up_ne q0]
      by_cases q8 : 137 ≤ p
      · exact v8 p k q8 (by omega) hz
      rw [k8 p (by omega), up_ne q0]
      by_cases q7 : 133 ≤ p
      · exact v7 p k q7 (by omega) hz
      rw [k7 p (by omega), up_ne q0]
      by_cases q6 : 99 ≤ p
      · exact v6 p k q6 (by omega) hz
      rw [k6 p (by omega), up_ne q0]
      by_cases q5 : 33 ≤ p
      · exact v5 p k q5 (by omega) hz
      rw [k5 p (by omega), up_ne q0]
      by_cases q4 : 25 ≤ p
      · exact v4 p k q4 (by omega) hz
      rw [k4 p (by omega), up_ne q0]
      by_cases q3 : 17 ≤ p
      · exact v3 p k q3 (by omega) hz
      rw [k3 p (by omega), up_ne q0]
      by_cases q2 : 9 ≤ p
      · exact v2 p k q2 (by omega) hz
      rw [k2 p (by omega), up_ne q0]
      exact v1 p k (by omega) (by omega) hz
theorem mz_junk {D : Nat → Int → Int} {c : Nat} {x : UInt64} {j1 j2 : mv_H} {o k : Nat} (hz : ¬ zk o k = 4) : mz (D, c, x, j1) o k = mz (D, c, x, j2) o k := by
  unfold mz
  rw [if_neg (c := zk o k = 4) hz, if_neg (c := zk o k = 4) hz]
theorem zIv_0 (j : mv_H) : zIv (zT0.1, 5, 0, j) 0 := by
  have hD : ∀ o k, ¬ o = 0 → ¬ o = 142 → zT0.1 o k = 0 := fun o k h1 h2 => by
    show (if (o = 0 ∨ o = 142) ∧ (k = 10 ∨ k = 11) then (-1 : Int) else 0) = 0
    rw [if_neg (fun q => by rcases q.1 with e | e; exact h1 e; exact h2 e)]
  have hE : ∀ o k, ¬ k = 10 → ¬ k = 11 → zT0.1 o k = 0 := fun o k h1 h2 => by
    show (if (o = 0 ∨ o = 142) ∧ (k = 10 ∨ k = 11) then (-1 : Int) else 0) = 0
    rw [if_neg (fun q => by rcases q.2 with e | e; exact h1 e; exact h2 e)]
  have h143 : ∀ k, zT0.1 143 k = 0 := fun k => hD 143 k (by decide) (by decide)
  have ho1 : ∀ k, zT0.1 o1 k = 0 := fun k => hD o1 k (by decide) (by decide)
  have z10 : zT0.1 0 10 = -1 := rfl
  have z11 : zT0.1 0 11 = -1 := rfl
  have y10 : zT0.1 142 10 = -1 := rfl
  have y11 : zT0.1 142 11 = -1 := rfl
  have hw : ∀ A : Int → Int, (∀ k, A k = 0) → zWF A 99 := fun A hA => by
    unfold zWF
    rw [hA 0, hA 2]
    exact ⟨by omega, by omega, by omega, by omega, fun k a b => by omega, fun k a b => by omega⟩
  refine ⟨⟨hw _ ho1, hw _ h143, ?_, ?_, ?_⟩, ⟨⟨?_, ?_, ?_, ?_⟩, ?_, ?_⟩, ⟨?_, ?_, ?_⟩, ⟨?_, ?_, ?_, ?_, ?_⟩, ⟨?_, ?_, ⟨?_, ?_⟩, ?_, ?_⟩, ⟨?_, ?_, ?_, ?_, ?_⟩, ?_, ?_⟩
  · refine ⟨by show zT0.1 o1 0 = zT0.1 143 0; rw [ho1, h143], by show zT0.1 o1 1 = zT0.1 143 1; rw [ho1, h143], by show zT0.1 o1 2 = zT0.1 143 2; rw [ho1, h143], by show zT0.1 o1 3 = zT0.1 143 3; rw [ho1, h143], fun k w _ _ _ _ _ => (ho1 (6 + 9 * k + w)).trans (h143 (6 + 9 * k + w)).symm, fun k _ _ => (ho1 (51 + k)).trans (h143 (51 + k)).symm⟩
  · unfold zCon
    show zT0.1 o1 4 + zT0.1 o1 5 - zT0.1 o1 3 - zS 7 (zT0.1 o1 0).toNat 0 (zT0.1 o1) = zS 1 (zT0.1 o1 0).toNat 0 (zT0.1 o1)
    rw [ho1 0, ho1 4, ho1 5, ho1 3]
    rfl
  · unfold zTb
    show 0 ≤ zT0.1 o1 1 ∧ zT0.1 o1 1 ≤ 0 ∧ 0 ≤ zT0.1 o1 3 ∧ zT0.1 o1 3 ≤ 20 * zT0.1 o1 1 ∧ ∀ k, 0 ≤ k → k < zT0.1 o1 0 → _
    rw [ho1 1, ho1 3, ho1 0]
    exact ⟨by omega, by omega, by omega, by omega, fun k a b => by omega⟩
  · show 0 ≤ zT0.1 33 1; rw [hD 33 1 (by decide) (by decide)]; omega
  · show zT0.1 33 1 < 8; rw [hD 33 1 (by decide) (by decide)]; omega
  · show 0 ≤ zT0.1 33 2; rw [hD 33 2 (by decide) (by decide)]; omega
  · show zT0.1 33 2 ≤ 8; rw [hD 33 2 (by decide) (by decide)]; omega
  · show zT0.1 142 2 = zT0.1 33 2; rw [hE 142 2 (by decide) (by decide), hE 33 2 (by decide) (by decide)]
  · intro i i0 i1
    have i1 : i < zT0.1 33 2 := i1
    rw [hE 33 2 (by decide) (by decide)] at i1
    omega
  · show zT0.1 142 3 = zT0.1 0 9; rw [hE 142 3 (by decide) (by decide), hE 0 9 (by decide) (by decide)]
  · show zT0.1 0 9 = 0 ∨ zT0.1 0 9 = 1; rw [hE 0 9 (by decide) (by decide)]; exact .inl rfl
  · intro a
    have a : zT0.1 0 9 = 1 := a
    rw [hE 0 9 (by decide) (by decide)] at a
    omega
  · show zT0.1 142 7 = zT0.1 137 1; rw [hE 142 7 (by decide) (by decide), hE 137 1 (by decide) (by decide)]
  · show 0 ≤ zT0.1 137 1; rw [hE 137 1 (by decide) (by decide)]; omega
  · show zT0.1 137 1 ≤ 60; rw [hE 137 1 (by decide) (by decide)]; omega
  · funext k
    show zT0.1 144 k = zT0.1 138 k
    rw [hD 144 k (by decide) (by decide), hD 138 k (by decide) (by decide)]
  · intro k k0 k1
    have k1 : k < zT0.1 137 1 := k1
    rw [hE 137 1 (by decide) (by decide)] at k1
    omega
  · show zT0.1 142 10 = zT0.1 0 10; rw [y10, z10]
  · show zT0.1 142 11 = zT0.1 0 11; rw [y11, z11]
  · show -1 ≤ zT0.1 0 10; rw [z10]; omega
  · show zT0.1 0 10 ≤ 100; rw [z10]; omega
  · show -1 ≤ zT0.1 0 11; rw [z11]; omega
  · show zT0.1 0 11 ≤ 100; rw [z11]; omega
  · show zT0.1 142 15 = zT0.1 140 1; rw [hE 142 15 (by decide) (by decide), hE 140 1 (by decide) (by decide)]
  · show 0 ≤ zT0.1 140 1; rw [hE 140 1 (by decide) (by decide)]; omega
  · show zT0.1 140 1 ≤ 54; rw [hE 140 1 (by decide) (by decide)]; omega
  · funext k
    show zT0.1 146 k = zT0.1 141 k
    rw [hD 146 k (by decide) (by decide), hD 141 k (by decide) (by decide)]
  · intro k k0 k1
    have k1 : k < zT0.1 140 1 := k1
    rw [hE 140 1 (by decide) (by decide)] at k1
    omega
  · show 5 < 8; decide
  · intro k k0 k1
    show 0 ≤ zT0.1 139 k ∧ zT0.1 139 k ≤ 99
    rw [hD 139 k (by decide) (by decide)]
    omega
theorem law_run (L9 : L ≤ 2048) : ∃ (t2 : Nat) (T2 : zT), t2 ≤ 512 ∧ mv_Ev L xs (mv_cl L xs 13) k_L_law 0 [(0, .ref 2000)] [] (0, 0, fun _ _ => .null) (.inl (some (.int (Int32.ofInt 1))), (t2, 149, mz T2)) := by
  obtain ⟨h1, e1, v1, -⟩ := c_X10_init (L := L) (xs := xs) (d := 13) (by omega) 0 (fun _ _ => .null)
  rw [show (mv_kd 0).1 = 7 from rfl] at e1
  simp only [Nat.reduceAdd] at e1
  obtain ⟨h2, e2, v2, k2⟩ := c_X11_init (L := L) (xs := xs) (d := 13) (by omega) 0 h1
  rw [show (mv_kd 142).1 = 8 from rfl] at e2
  simp only [Nat.reduceAdd] at e2
  have hz : mv_upo (mv_upo h2 147 (fun _ => mv_dv 22)) 148 (fun _ => mv_dv 23) = mz (zT0.1, 5, 0, mv_upo (mv_upo h2 147 (fun _ => mv_dv 22)) 148 (fun _ => mv_dv 23)) := by
    funext o k
    by_cases hz : zk o k = 4
    · unfold mz
      rw [if_neg (by omega), if_neg (by omega), if_neg (by omega), if_neg (by omega), if_pos hz]
    · rw [mz_junk (j2 := fun _ _ => .null) hz]
      obtain ⟨ho, hk⟩ := zk_in hz
      by_cases q8 : o = 148
      · subst q8
        have hk : k < 1 := hk
        have : k = 0 := by omega
        subst this
        rw [upo_eq]
        rfl
      · rw [upo_ne q8]
        by_cases q7 : o = 147
        · subst q7
          have hk : k < 1 := hk
          have : k = 0 := by omega
          subst this
          rw [upo_eq]
          rfl
        · rw [upo_ne q7]
          by_cases q : 142 ≤ o
          · exact v2 o k q (by omega) hz
          · rw [k2 o (by omega)]
            exact v1 o k (by omega) (by omega) hz
  obtain ⟨t2, T2, ht, hE⟩ := lp_L_law (L := L) (xs := xs) (d := 13) L9 (by omega) 512 0 0 (zT0.1, 5, 0, mv_upo (mv_upo h2 147 (fun _ => mv_dv 22)) 148 (fun _ => mv_dv 23)) 0 (by omega) (by omega) (by omega) (by omega) (zIv_0 _)
  rw [← hz] at hE
  unfold lw_ls at hE
  refine ⟨t2, T2, by omega, ?_⟩
  simp (disch := first | assumption | omega | rfl | decide) only [mv_Ev_row r_L_law_0, mv_Ev_row r_L_law_3, mv_Ev_row r_L_law_4, mv_Ev_row r_L_law_7, mv_Ev_row r_L_law_8, mv_Ev_row r_L_law_11, mv_Ev_row r_L_law_12, mv_Ev_row r_L_law_15, mv_Ev_row r_L_law_16, mv_Ev_row r_L_law_17, mv_Ev_row r_L_law_19, mv_Ev_row r_L_law_20, mv_Ev_row r_L_law_21, mv_Ev_row r_L_law_23, mv_Ev_row r_L_law_25, mv_Ev_row r_L_law_26, ea_aload_n, ci_obj, ea_sipush, ci_nw1, cp_8_1, ea_bipush, cp_8_6, ea_iconst, cp_8_10, cp_8_11, cp_8_12, cp_8_14, ea_vret, bz_60, bz_120, sz_244, sz_1071, cz_eq, cz_ne, cz_lt, cz_ge, cz_gt, cz_le, mv_ac, decide_eq_true_eq, not_true_eq_false, and_self, and_true, true_and, ea_2n, ea_2f, ea_2c, ea_if, if_pos, if_neg, mv_lk, mv_f1, mv_f2, Value.category, List.filter, ↓reduceIte, Nat.reduceEqDiff, Nat.reduceAdd, Nat.reduceLT, Nat.reduceBEq, Nat.zero_add, Nat.add_zero, Nat.zero_ne_one, Nat.one_ne_zero, Bool.not_true, Bool.not_false, Bool.and_true, Bool.true_and, Bool.and_false, Bool.false_and, BEq.rfl, beq_self_eq_true, Bool.false_eq_true, reduceCtorEq, not_false_eq_true, fv0, fv1, fv2, fv3, eb_l0, eb_l1, eb_l2, eb_l3, eb_l4, eb_l5, eb_s0, eb_s1, eb_s2, eb_s3, eb_s4, eb_s5, oz_add, oz_sub, oz_mul, oz_neg, ol_add, ol_sub, sD_eq, sD_sD, sD_ne, sD_in, sD_in2, sD_in3, upR_is, upR_ne, mk_v, mk_n, mk_x, mk_i, mv_cs, Nat.reduceLeDiff, mv_ch_z, ci_new, ck_X10_init, ck_X11_init, ea_dup_r, ea_astore_n, ea_astore, ea_istore, e1, e2]
  exact hE
end CL
