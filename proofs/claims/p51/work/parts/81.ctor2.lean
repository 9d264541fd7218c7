/-! THE CONSTRUCTORS OF THE CLASS AND OF THE REFERENCE -/
section CJ
variable {L : Nat} {xs : Nat → Int32} {d t n : Nat} {h : mv_H}
theorem lp_X5_init (hd : 3 ≤ d) : ∀ (m j : Nat) (h : mv_H), j + m = 8 → h 33 0 = .ref 34 → ∃ h', mv_Ev L xs (mv_cl L xs d) k_X5_init 25 [(1, .int (Int32.ofInt (j : Int))), (0, .ref 33)] [] (t, 35 + 8 * j, h) (.inl none, (t, 99, h')) ∧ (∀ p k, 35 + 8 * j ≤ p → p < 99 → ¬ zk p k = 4 → h' p k = mz zT0 p k) ∧ (∀ k, j ≤ k → k < 8 → h' 34 k = .ref (35 + 8 * k)) ∧ (∀ k, k < j → h' 34 k = h 34 k) ∧ (∀ p, p < 35 + 8 * j → ¬ p = 34 → h' p = h p) ∧ ((∀ p k, mo_rf 3000 (h p k)) → ∀ p k, mo_rf 3000 (h' p k)) := by
  intro m
  induction m with
  | zero =>
    intro j h hj h0
    have hj : j = 8 := by omega
    subst hj
    refine ⟨h, ?_, fun p k a b => by omega, fun k a b => by omega, fun k _ => rfl, fun p _ _ => rfl, fun hh => hh⟩
    have hlen : ∀ {a b nx w n : Nat} {ls : mv_V} {st : List Value} {h : mv_H}, 34 < n → mv_stp L xs (.arraylength, nx, a, b, w) ls (.ref 34 :: st) (t, n, h) = some (.inl (nx, ls, .int (Int32.ofInt 8) :: st, (t, n, h))) := fun hn => ci_len hn (by decide) (by decide)
    have hc : (((8 : Nat) : Int)) = 8 := rfl
    rw [hc]
    simp (disch := first | assumption | omega | rfl | decide) only [mv_Ev_row r_X5_init_0, mv_Ev_row r_X5_init_1, mv_Ev_row r_X5_init_4, mv_Ev_row r_X5_init_5, mv_Ev_row r_X5_init_7, mv_Ev_row r_X5_init_10, mv_Ev_row r_X5_init_13, mv_Ev_row r_X5_init_14, mv_Ev_row r_X5_init_15, mv_Ev_row r_X5_init_18, mv_Ev_row r_X5_init_19, mv_Ev_row r_X5_init_20, mv_Ev_row r_X5_init_23, mv_Ev_row r_X5_init_24, mv_Ev_row r_X5_init_25, mv_Ev_row r_X5_init_26, mv_Ev_row r_X5_init_27, mv_Ev_row r_X5_init_30, mv_Ev_row r_X5_init_31, mv_Ev_row r_X5_init_34, mv_Ev_row r_X5_init_35, mv_Ev_row r_X5_init_38, mv_Ev_row r_X5_init_39, mv_Ev_row r_X5_init_42, mv_Ev_row r_X5_init_43, mv_Ev_row r_X5_init_46, mv_Ev_row r_X5_init_47, mv_Ev_row r_X5_init_50, mv_Ev_row r_X5_init_53, ea_aload_n, ci_obj, ea_bipush, ci_nw2, cp_2_0, ea_iconst, cp_2_1, cp_2_2, ea_istore_n, ea_iload_n, ci_get, ea_icmp, ci_new, ea_dup_i, ea_dup_r, ck_X2_init, ci_aas, ea_iinc, eb_inc, ea_goto, ea_vret, bz_8, cz_eq, cz_ne, cz_lt, cz_ge, cz_gt, cz_le, mv_ac, decide_eq_true_eq, not_true_eq_false, and_self, and_true, true_and, ea_2n, ea_2f, ea_2c, ea_if, if_pos, if_neg, mv_lk, mv_f1, mv_f2, Value.category, List.filter, ↓reduceIte, Nat.reduceEqDiff, Nat.reduceAdd, Nat.reduceLT, Nat.reduceBEq, Nat.zero_add, Nat.add_zero, Nat.zero_ne_one, Nat.one_ne_zero, Bool.not_true, Bool.not_false, Bool.and_true, Bool.true_and, Bool.and_false, Bool.false_and, BEq.rfl, beq_self_eq_true, Bool.false_eq_true, reduceCtorEq, not_false_eq_true, fv0, fv1, fv2, fv3, eb_l0, eb_l1, eb_l2, eb_l3, eb_l4, eb_l5, eb_s0, eb_s1, eb_s2, eb_s3, eb_s4, eb_s5, oz_add, oz_sub, oz_mul, oz_neg, ol_add, ol_sub, sD_eq, sD_sD, sD_ne, sD_in, sD_in2, sD_in3, upR_is, upR_ne, mk_v, mk_n, mk_x, mk_i, mv_cs, Nat.reduceLeDiff, mv_ch_z, nh_X5_init, up_same, up_diff, upo_eq, upo_ne, u1_eq, u1_ne, up_eq, up_nk, up_ne, hlen, h0]
  | succ m ih =>
    intro j h hj h0
    have hCh : Ch (35 + 8 * j) := Ch.hs (by omega)
    obtain ⟨h1, e1, v1, k1, s1⟩ := c_X2_init (L := L) (xs := xs) (d := d) (by omega) hCh t h
    rw [hCh.2] at e1
    have hkd : (mv_kd (35 + 8 * j)).1 = 1 := by rw [hCh.2]
    obtain ⟨h', g1, g2, g3, g4, g5, g6⟩ := ih (j + 1) (mv_up h1 34 j (.ref (35 + 8 * j))) (by omega) (by rw [up_ne (by omega), k1 33 (by omega)]; exact h0)
    refine ⟨h', ?_, fun p k a b z => ?_, fun k a b => ?_, fun k a => ?_, fun p a b => ?_, fun hh => g6 (sm_up (sm_r (by omega)) (s1 hh))⟩
    · have hlen : ∀ {a b nx w n : Nat} {ls : mv_V} {st : List Value} {h : mv_H}, 34 < n → mv_stp L xs (.arraylength, nx, a, b, w) ls (.ref 34 :: st) (t, n, h) = some (.inl (nx, ls, .int (Int32.ofInt 8) :: st, (t, n, h))) := fun hn => ci_len hn (by decide) (by decide)
      have haas : ∀ {a b nx w n : Nat} {ls : mv_V} {st : List Value} {h : mv_H}, 35 + 8 * j < n → mv_stp L xs (.aastore, nx, a, b, w) ls (.ref (35 + 8 * j) :: .int (Int32.ofInt (j : Int)) :: .ref 34 :: st) (t, n, h) = some (.inl (nx, ls, st, (t, n, mv_up h 34 j (.ref (35 + 8 * j))))) := fun hn => ci_aas (by omega) hn (by omega) (by show (j : Int) < ((8 : Nat) : Int); omega) (by decide) (.inr ⟨rfl, hkd⟩)
      have hs : (((j + 1 : Nat)) : Int) = (j : Int) + 1 := by omega
      have hn8 : 35 + 8 * (j + 1) = 35 + 8 * j + 8 := by omega
      rw [hs, hn8] at g1
      rw [mv_Ev_row r_X5_init_25]
      simp (disch := first | assumption | omega | rfl | decide) only [mv_Ev_row r_X5_init_0, mv_Ev_row r_X5_init_1, mv_Ev_row r_X5_init_4, mv_Ev_row r_X5_init_5, mv_Ev_row r_X5_init_7, mv_Ev_row r_X5_init_10, mv_Ev_row r_X5_init_13, mv_Ev_row r_X5_init_14, mv_Ev_row r_X5_init_15, mv_Ev_row r_X5_init_18, mv_Ev_row r_X5_init_19, mv_Ev_row r_X5_init_20, mv_Ev_row r_X5_init_23, mv_Ev_row r_X5_init_24, mv_Ev_row r_X5_init_26, mv_Ev_row r_X5_init_27, mv_Ev_row r_X5_init_30, mv_Ev_row r_X5_init_31, mv_Ev_row r_X5_init_34, mv_Ev_row r_X5_init_35, mv_Ev_row r_X5_init_38, mv_Ev_row r_X5_init_39, mv_Ev_row r_X5_init_42, mv_Ev_row r_X5_init_43, mv_Ev_row r_X5_init_46, mv_Ev_row r_X5_init_47, mv_Ev_row r_X5_init_50, mv_Ev_row r_X5_init_53, ea_aload_n, ci_obj, ea_bipush, ci_nw2, cp_2_0, ea_iconst, cp_2_1, cp_2_2, ea_istore_n, ea_iload_n, ci_get, ea_icmp, ci_new, ea_dup_i, ea_dup_r, ck_X2_init, ea_iinc, eb_inc, ea_goto, ea_vret, bz_8, cz_eq, cz_ne, cz_lt, cz_ge, cz_gt, cz_le, mv_ac, decide_eq_true_eq, not_true_eq_false, and_self, and_true, true_and, ea_2n, ea_2f, ea_2c, ea_if, if_pos, if_neg, mv_lk, mv_f1, mv_f2, Value.category, List.filter, ↓reduceIte, Nat.reduceEqDiff, Nat.reduceAdd, Nat.reduceLT, Nat.reduceBEq, Nat.zero_add, Nat.add_zero, Nat.zero_ne_one, Nat.one_ne_zero, Bool.not_true, Bool.not_false, Bool.and_true, Bool.true_and, Bool.and_false, Bool.false_and, BEq.rfl, beq_self_eq_true, Bool.false_eq_true, reduceCtorEq, not_false_eq_true, fv0, fv1, fv2, fv3, eb_l0, eb_l1, eb_l2, eb_l3, eb_l4, eb_l5, eb_s0, eb_s1, eb_s2, eb_s3, eb_s4, eb_s5, oz_add, oz_sub, oz_mul, oz_neg, ol_add, ol_sub, sD_eq, sD_sD, sD_ne, sD_in, sD_in2, sD_in3, upR_is, upR_ne, mk_v, mk_n, mk_x, mk_i, mv_cs, Nat.reduceLeDiff, mv_ch_z, nh_X5_init, up_same, up_diff, upo_eq, upo_ne, u1_eq, u1_ne, up_eq, up_nk, up_ne, hlen, haas, h0, e1]
      exact mv_Es g1
    · by_cases q : 35 + 8 * (j + 1) ≤ p
      · exact g2 p k q b z
      · rw [g5 p (by omega) (by omega), up_ne (by omega)]
        exact v1 p k a (by omega) z
    · by_cases q : j + 1 ≤ k
      · exact g3 k q b
      · have : k = j := by omega
        subst this
        rw [g4 k (by omega), up_eq]
    · rw [g4 k (by omega), up_nk (by omega), k1 34 (by omega)]
    · rw [g5 p (by omega) b, up_ne b, k1 p a]
theorem lp_X7_init (hd : 3 ≤ d) : ∀ (m j : Nat) (h : mv_H), j + m = 4 → h 99 0 = .ref 100 → ∃ h', mv_Ev L xs (mv_cl L xs d) k_X7_init 14 [(1, .int (Int32.ofInt (j : Int))), (0, .ref 99)] [] (t, 101 + 8 * j, h) (.inl none, (t, 133, h')) ∧ (∀ p k, 101 + 8 * j ≤ p → p < 133 → ¬ zk p k = 4 → h' p k = mz zT0 p k) ∧ (∀ k, j ≤ k → k < 4 → h' 100 k = .ref (101 + 8 * k)) ∧ (∀ k, k < j → h' 100 k = h 100 k) ∧ (∀ p, p < 101 + 8 * j → ¬ p = 100 → h' p = h p) ∧ ((∀ p k, mo_rf 3000 (h p k)) → ∀ p k, mo_rf 3000 (h' p k)) := by
  intro m
  induction m with
  | zero =>
    intro j h hj h0
    have hj : j = 4 := by omega
    subst hj
    refine ⟨h, ?_, fun p k a b => by omega, fun k a b => by omega, fun k _ => rfl, fun p _ _ => rfl, fun hh => hh⟩
    have hlen : ∀ {a b nx w n : Nat} {ls : mv_V} {st : List Value} {h : mv_H}, 100 < n → mv_stp L xs (.arraylength, nx, a, b, w) ls (.ref 100 :: st) (t, n, h) = some (.inl (nx, ls, .int (Int32.ofInt 4) :: st, (t, n, h))) := fun hn => ci_len hn (by decide) (by decide)
    have hc : (((4 : Nat) : Int)) = 4 := rfl
    rw [hc]
    simp (disch := first | assumption | omega | rfl | decide) only [mv_Ev_row r_X7_init_0, mv_Ev_row r_X7_init_1, mv_Ev_row r_X7_init_4, mv_Ev_row r_X7_init_5, mv_Ev_row r_X7_init_6, mv_Ev_row r_X7_init_9, mv_Ev_row r_X7_init_12, mv_Ev_row r_X7_init_13, mv_Ev_row r_X7_init_14, mv_Ev_row r_X7_init_15, mv_Ev_row r_X7_init_16, mv_Ev_row r_X7_init_19, mv_Ev_row r_X7_init_20, mv_Ev_row r_X7_init_23, mv_Ev_row r_X7_init_24, mv_Ev_row r_X7_init_27, mv_Ev_row r_X7_init_28, mv_Ev_row r_X7_init_31, mv_Ev_row r_X7_init_32, mv_Ev_row r_X7_init_35, mv_Ev_row r_X7_init_36, mv_Ev_row r_X7_init_39, mv_Ev_row r_X7_init_42, ea_aload_n, ci_obj, ea_iconst, ci_nw2, cp_4_0, ea_istore_n, ea_iload_n, ci_get, ea_icmp, ci_new, ea_dup_i, ea_dup_r, ck_X2_init, ci_aas, ea_iinc, eb_inc, ea_goto, ea_vret, cz_eq, cz_ne, cz_lt, cz_ge, cz_gt, cz_le, mv_ac, decide_eq_true_eq, not_true_eq_false, and_self, and_true, true_and, ea_2n, ea_2f, ea_2c, ea_if, if_pos, if_neg, mv_lk, mv_f1, mv_f2, Value.category, List.filter, ↓reduceIte, Nat.reduceEqDiff, Nat.reduceAdd, Nat.reduceLT, Nat.reduceBEq, Nat.zero_add, Nat.add_zero, Nat.zero_ne_one, Nat.one_ne_zero, Bool.not_true, Bool.not_false, Bool.and_true, Bool.true_and, Bool.and_false, Bool.false_and, BEq.rfl, beq_self_eq_true, Bool.false_eq_true, reduceCtorEq, not_false_eq_true, fv0, fv1, fv2, fv3, eb_l0, eb_l1, eb_l2, eb_l3, eb_l4, eb_l5, eb_s0, eb_s1, eb_s2, eb_s3, eb_s4, eb_s5, oz_add, oz_sub, oz_mul, oz_neg, ol_add, ol_sub, sD_eq, sD_sD, sD_ne, sD_in, sD_in2, sD_in3, upR_is, upR_ne, mk_v, mk_n, mk_x, mk_i, mv_cs, Nat.reduceLeDiff, mv_ch_z, nh_X7_init, up_same, up_diff, upo_eq, upo_ne, u1_eq, u1_ne, up_eq, up_nk, up_ne, hlen, h0]
  | succ m ih =>
    intro j h hj h0
    have hCh : Ch (101 + 8 * j) := Ch.ts (by omega)
    obtain ⟨h1, e1, v1, k1, s1⟩ := c_X2_init (L := L) (xs := xs) (d := d) (by omega) hCh t h
    rw [hCh.2] at e1
    have hkd : (mv_kd (101 + 8 * j)).1 = 1 := by rw [hCh.2]
    obtain ⟨h', g1, g2, g3, g4, g5, g6⟩ := ih (j + 1) (mv_up h1 100 j (.ref (101 + 8 * j))) (by omega) (by rw [up_ne (by omega), k1 99 (by omega)]; exact h0)
    refine ⟨h', ?_, fun p k a b z => ?_, fun k a b => ?_, fun k a => ?_, fun p a b => ?_, fun hh => g6 (sm_up (sm_r (by omega)) (s1 hh))⟩
    · have hlen : ∀ {a b nx w n : Nat} {ls : mv_V} {st : List Value} {h : mv_H}, 100 < n → mv_stp L xs (.arraylength, nx, a, b, w) ls (.ref 100 :: st) (t, n, h) = some (.inl (nx, ls, .int (Int32.ofInt 4) :: st, (t, n, h))) := fun hn => ci_len hn (by decide) (by decide)
      have haas : ∀ {a b nx w n : Nat} {ls : mv_V} {st : List Value} {h : mv_H}, 101 + 8 * j < n → mv_stp L xs (.aastore, nx, a, b, w) ls (.ref (101 + 8 * j) :: .int (Int32.ofInt (j : Int)) :: .ref 100 :: st) (t, n, h) = some (.inl (nx, ls, st, (t, n, mv_up h 100 j (.ref (101 + 8 * j))))) := fun hn => ci_aas (by omega) hn (by omega) (by show (j : Int) < ((4 : Nat) : Int); omega) (by decide) (.inr ⟨rfl, hkd⟩)
      have hs : (((j + 1 : Nat)) : Int) = (j : Int) + 1 := by omega
      have hn8 : 101 + 8 * (j + 1) = 101 + 8 * j + 8 := by omega
      rw [hs, hn8] at g1
      rw [mv_Ev_row r_X7_init_14]
      simp (disch := first | assumption | omega | rfl | decide) only [mv_Ev_row r_X7_init_0, mv_Ev_row r_X7_init_1, mv_Ev_row r_X7_init_4, mv_Ev_row r_X7_init_5, mv_Ev_row r_X7_init_6, mv_Ev_row r_X7_init_9, mv_Ev_row r_X7_init_12, mv_Ev_row r_X7_init_13, mv_Ev_row r_X7_init_15, mv_Ev_row r_X7_init_16, mv_Ev_row r_X7_init_19, mv_Ev_row r_X7_init_20, mv_Ev_row r_X7_init_23, mv_Ev_row r_X7_init_24, mv_Ev_row r_X7_init_27, mv_Ev_row r_X7_init_28, mv_Ev_row r_X7_init_31, mv_Ev_row r_X7_init_32, mv_Ev_row r_X7_init_35, mv_Ev_row r_X7_init_36, mv_Ev_row r_X7_init_39, mv_Ev_row r_X7_init_42, ea_aload_n, ci_obj, ea_iconst, ci_nw2, cp_4_0, ea_istore_n, ea_iload_n, ci_get, ea_icmp, ci_new, ea_dup_i, ea_dup_r, ck_X2_init, ea_iinc, eb_inc, ea_goto, ea_vret, cz_eq, cz_ne, cz_lt, cz_ge, cz_gt, cz_le, mv_ac, decide_eq_true_eq, not_true_eq_false, and_self, and_true, true_and, ea_2n, ea_2f, ea_2c, ea_if, if_pos, if_neg, mv_lk, mv_f1, mv_f2, Value.category, List.filter, ↓reduceIte, Nat.reduceEqDiff, Nat.reduceAdd, Nat.reduceLT, Nat.reduceBEq, Nat.zero_add, Nat.add_zero, Nat.zero_ne_one, Nat.one_ne_zero, Bool.not_true, Bool.not_false, Bool.and_true, Bool.true_and, Bool.and_false, Bool.false_and, BEq.rfl, beq_self_eq_true, Bool.false_eq_true, reduceCtorEq, not_false_eq_true, fv0, fv1, fv2, fv3, eb_l0, eb_l1, eb_l2, eb_l3, eb_l4, eb_l5, eb_s0, eb_s1, eb_s2, eb_s3, eb_s4, eb_s5, oz_add, oz_sub, oz_mul, oz_neg, ol_add, ol_sub, sD_eq, sD_sD, sD_ne, sD_in, sD_in2, sD_in3, upR_is, upR_ne, mk_v, mk_n, mk_x, mk_i, mv_cs, Nat.reduceLeDiff, mv_ch_z, nh_X7_init, up_same, up_diff, upo_eq, upo_ne, u1_eq, u1_ne, up_eq, up_nk, up_ne, hlen, haas, h0, e1]
      exact mv_Es g1
    · by_cases q : 101 + 8 * (j + 1) ≤ p
      · exact g2 p k q b z
      · rw [g5 p (by omega) (by omega), up_ne (by omega)]
        exact v1 p k a (by omega) z
    · by_cases q : j + 1 ≤ k
      · exact g3 k q b
      · have : k = j := by omega
        subst this
        rw [g4 k (by omega), up_eq]
    · rw [g4 k (by omega), up_nk (by omega), k1 100 (by omega)]
    · rw [g5 p (by omega) b, up_ne b, k1 p a]
theorem c_X6_init (hd : 1 ≤ d) : zCt L xs d k_X6_init 140 142 := by
  intro t h
  obtain ⟨d, rfl⟩ : ∃ e, d = e + 1 := ⟨d - 1, by omega⟩
  refine ⟨?gw, ?ge, ?gp, ?gq⟩
  case ge =>
    rw [show (mv_kd 140).1 = 3 from rfl]
    apply mv_cl_of
    simp only [mv_il, Value.category, Nat.zero_add, Nat.reduceAdd]
    simp (disch := first | assumption | omega | rfl | decide) only [mv_Ev_row r_X6_init_0, mv_Ev_row r_X6_init_1, mv_Ev_row r_X6_init_4, mv_Ev_row r_X6_init_5, mv_Ev_row r_X6_init_7, mv_Ev_row r_X6_init_9, mv_Ev_row r_X6_init_12, mv_Ev_row r_X6_init_13, mv_Ev_row r_X6_init_14, mv_Ev_row r_X6_init_17, ea_aload_n, ci_obj, ea_bipush, ci_nw1, cp_3_0, ea_iconst, cp_3_1, ea_vret, bz_54, cz_eq, cz_ne, cz_lt, cz_ge, cz_gt, cz_le, mv_ac, decide_eq_true_eq, not_true_eq_false, and_self, and_true, true_and, ea_2n, ea_2f, ea_2c, ea_if, if_pos, if_neg, mv_lk, mv_f1, mv_f2, Value.category, List.filter, ↓reduceIte, Nat.reduceEqDiff, Nat.reduceAdd, Nat.reduceLT, Nat.reduceBEq, Nat.zero_add, Nat.add_zero, Nat.zero_ne_one, Nat.one_ne_zero, Bool.not_true, Bool.not_false, Bool.and_true, Bool.true_and, Bool.and_false, Bool.false_and, BEq.rfl, beq_self_eq_true, Bool.false_eq_true, reduceCtorEq, not_false_eq_true, fv0, fv1, fv2, fv3, eb_l0, eb_l1, eb_l2, eb_l3, eb_l4, eb_l5, eb_s0, eb_s1, eb_s2, eb_s3, eb_s4, eb_s5, oz_add, oz_sub, oz_mul, oz_neg, ol_add, ol_sub, sD_eq, sD_sD, sD_ne, sD_in, sD_in2, sD_in3, upR_is, upR_ne, mk_v, mk_n, mk_x, mk_i, mv_cs, Nat.reduceLeDiff, mv_ch_z, nh_X6_init, up_same, up_diff, upo_eq, upo_ne, u1_eq, u1_ne, up_eq, up_nk, up_ne]
    rfl
  case gp =>
    intro p k hp hp8 hz
    obtain ⟨hk1, hk2⟩ := zk_in hz
    rcases (by omega : p = 140 ∨ p = 141) with rfl | rfl
    · have hk2 : k < 2 := hk2
      simp (disch := omega) only [upo_ne, upo_eq]
      rcases (by omega : k = 0 ∨ k = 1) with rfl | rfl <;> rfl
    · have hk2 : k < 54 := hk2
      simp (disch := omega) only [upo_ne, upo_eq]
      rw [zk_0 ((by decide +kernel : ∀ k, k < 54 → zk 141 k = 0) k hk2) (by decide) (by decide)]
      rfl
  case gq =>
    refine ⟨?_, fun hh => ?_⟩
    · intro p hp
      simp (disch := omega) only [upo_ne]
    · repeat' (first | exact hh | exact trivial | exact sm_dv | exact sm_dd | exact sm_r (by omega) | refine sm_up ?_ ?_ | refine sm_upo ?_ ?_ | refine sm_u1 ?_ ?_ | intro _)
theorem c_X8_init (hd : 1 ≤ d) : zCt L xs d k_X8_init 137 140 := by
  intro t h
  obtain ⟨d, rfl⟩ : ∃ e, d = e + 1 := ⟨d - 1, by omega⟩
  refine ⟨?gw, ?ge, ?gp, ?gq⟩
  case ge =>
    rw [show (mv_kd 137).1 = 5 from rfl]
    apply mv_cl_of
    simp only [mv_il, Value.category, Nat.zero_add, Nat.reduceAdd]
    simp (disch := first | assumption | omega | rfl | decide) only [mv_Ev_row r_X8_init_0, mv_Ev_row r_X8_init_1, mv_Ev_row r_X8_init_4, mv_Ev_row r_X8_init_5, mv_Ev_row r_X8_init_7, mv_Ev_row r_X8_init_9, mv_Ev_row r_X8_init_12, mv_Ev_row r_X8_init_13, mv_Ev_row r_X8_init_14, mv_Ev_row r_X8_init_17, mv_Ev_row r_X8_init_18, mv_Ev_row r_X8_init_19, mv_Ev_row r_X8_init_22, mv_Ev_row r_X8_init_23, mv_Ev_row r_X8_init_26, mv_Ev_row r_X8_init_29, mv_Ev_row r_X8_init_30, mv_Ev_row r_X8_init_31, mv_Ev_row r_X8_init_33, mv_Ev_row r_X8_init_36, mv_Ev_row r_X8_init_37, mv_Ev_row r_X8_init_38, mv_Ev_row r_X8_init_41, ea_aload_n, ci_obj, ea_bipush, ci_nw1, cp_5_0, ea_iconst, cp_5_1, cp_5_2, ea_static, cp_5_3, cp_5_4, cp_5_5, ea_vret, bz_60, cz_eq, cz_ne, cz_lt, cz_ge, cz_gt, cz_le, mv_ac, decide_eq_true_eq, not_true_eq_false, and_self, and_true, true_and, ea_2n, ea_2f, ea_2c, ea_if, if_pos, if_neg, mv_lk, mv_f1, mv_f2, Value.category, List.filter, ↓reduceIte, Nat.reduceEqDiff, Nat.reduceAdd, Nat.reduceLT, Nat.reduceBEq, Nat.zero_add, Nat.add_zero, Nat.zero_ne_one, Nat.one_ne_zero, Bool.not_true, Bool.not_false, Bool.and_true, Bool.true_and, Bool.and_false, Bool.false_and, BEq.rfl, beq_self_eq_true, Bool.false_eq_true, reduceCtorEq, not_false_eq_true, fv0, fv1, fv2, fv3, eb_l0, eb_l1, eb_l2, eb_l3, eb_l4, eb_l5, eb_s0, eb_s1, eb_s2, eb_s3, eb_s4, eb_s5, oz_add, oz_sub, oz_mul, oz_neg, ol_add, ol_sub, sD_eq, sD_sD, sD_ne, sD_in, sD_in2, sD_in3, upR_is, upR_ne, mk_v, mk_n, mk_x, mk_i, mv_cs, Nat.reduceLeDiff, mv_ch_z, nh_X8_init, up_same, up_diff, upo_eq, upo_ne, u1_eq, u1_ne, up_eq, up_nk, up_ne]
    rfl
  case gp =>
    intro p k hp hp8 hz
    obtain ⟨hk1, hk2⟩ := zk_in hz
    rcases (by omega : p = 137 ∨ p = 138 ∨ p = 139) with rfl | rfl | rfl
    · have hk2 : k < 6 := hk2
      simp (disch := omega) only [upo_ne, upo_eq]
      rcases (by omega : k = 0 ∨ k = 1 ∨ k = 2 ∨ k = 3 ∨ k = 4 ∨ k = 5) with rfl | rfl | rfl | rfl | rfl | rfl <;> rfl
    · have hk2 : k < 60 := hk2
      simp (disch := omega) only [upo_ne, upo_eq]
      rw [zk_0 ((by decide +kernel : ∀ k, k < 60 → zk 138 k = 0) k hk2) (by decide) (by decide)]
      rfl
    · have hk2 : k < 3 := hk2
      simp (disch := omega) only [upo_ne, upo_eq]
      rw [zk_0 ((by decide +kernel : ∀ k, k < 3 → zk 139 k = 0) k hk2) (by decide) (by decide)]
      rfl
  case gq =>
    refine ⟨?_, fun hh => ?_⟩
    · intro p hp
      simp (disch := omega) only [upo_ne]
    · repeat' (first | exact hh | exact trivial | exact sm_dv | exact sm_dd | exact sm_r (by omega) | refine sm_up ?_ ?_ | refine sm_upo ?_ ?_ | refine sm_u1 ?_ ?_ | intro _)
theorem c_X9_init (hd : 1 ≤ d) : zCt L xs d k_X9_init 133 137 := by
  intro t h
  obtain ⟨d, rfl⟩ : ∃ e, d = e + 1 := ⟨d - 1, by omega⟩
  refine ⟨?gw, ?ge, ?gp, ?gq⟩
  case ge =>
    rw [show (mv_kd 133).1 = 6 from rfl]
    apply mv_cl_of
    simp only [mv_il, Value.category, Nat.zero_add, Nat.reduceAdd]
    simp (disch := first | assumption | omega | rfl | decide) only [mv_Ev_row r_X9_init_0, mv_Ev_row r_X9_init_1, mv_Ev_row r_X9_init_4, mv_Ev_row r_X9_init_5, mv_Ev_row r_X9_init_6, mv_Ev_row r_X9_init_8, mv_Ev_row r_X9_init_11, mv_Ev_row r_X9_init_12, mv_Ev_row r_X9_init_13, mv_Ev_row r_X9_init_15, mv_Ev_row r_X9_init_18, mv_Ev_row r_X9_init_19, mv_Ev_row r_X9_init_20, mv_Ev_row r_X9_init_23, mv_Ev_row r_X9_init_24, mv_Ev_row r_X9_init_26, mv_Ev_row r_X9_init_28, mv_Ev_row r_X9_init_31, ea_aload_n, ci_obj, ea_iconst, ci_nw1, cp_6_0, cp_6_1, cp_6_2, ea_bipush, cp_6_3, ea_vret, bz_100, cz_eq, cz_ne, cz_lt, cz_ge, cz_gt, cz_le, mv_ac, decide_eq_true_eq, not_true_eq_false, and_self, and_true, true_and, ea_2n, ea_2f, ea_2c, ea_if, if_pos, if_neg, mv_lk, mv_f1, mv_f2, Value.category, List.filter, ↓reduceIte, Nat.reduceEqDiff, Nat.reduceAdd, Nat.reduceLT, Nat.reduceBEq, Nat.zero_add, Nat.add_zero, Nat.zero_ne_one, Nat.one_ne_zero, Bool.not_true, Bool.not_false, Bool.and_true, Bool.true_and, Bool.and_false, Bool.false_and, BEq.rfl, beq_self_eq_true, Bool.false_eq_true, reduceCtorEq, not_false_eq_true, fv0, fv1, fv2, fv3, eb_l0, eb_l1, eb_l2, eb_l3, eb_l4, eb_l5, eb_s0, eb_s1, eb_s2, eb_s3, eb_s4, eb_s5, oz_add, oz_sub, oz_mul, oz_neg, ol_add, ol_sub, sD_eq, sD_sD, sD_ne, sD_in, sD_in2, sD_in3, upR_is, upR_ne, mk_v, mk_n, mk_x, mk_i, mv_cs, Nat.reduceLeDiff, mv_ch_z, nh_X9_init, up_same, up_diff, upo_eq, upo_ne, u1_eq, u1_ne, up_eq, up_nk, up_ne]
    rfl
  case gp =>
    intro p k hp hp8 hz
    obtain ⟨hk1, hk2⟩ := zk_in hz
    rcases (by omega : p = 133 ∨ p = 134 ∨ p = 135 ∨ p = 136) with rfl | rfl | rfl | rfl
    · have hk2 : k < 4 := hk2
      simp (disch := omega) only [upo_ne, upo_eq]
      rcases (by omega : k = 0 ∨ k = 1 ∨ k = 2 ∨ k = 3) with rfl | rfl | rfl | rfl <;> rfl
    · have hk2 : k < 5 := hk2
      simp (disch := omega) only [upo_ne, upo_eq]
      rw [zk_0 ((by decide +kernel : ∀ k, k < 5 → zk 134 k = 0) k hk2) (by decide) (by decide)]
      rfl
    · have hk2 : k < 5 := hk2
      simp (disch := omega) only [upo_ne, upo_eq]
      rw [zk_0 ((by decide +kernel : ∀ k, k < 5 → zk 135 k = 0) k hk2) (by decide) (by decide)]
      rfl
    · have hk2 : k < 100 := hk2
      simp (disch := omega) only [upo_ne, upo_eq]
      rw [zk_0 ((by decide +kernel : ∀ k, k < 100 → zk 136 k = 0) k hk2) (by decide) (by decide)]
      rfl
  case gq =>
    refine ⟨?_, fun hh => ?_⟩
    · intro p hp
      simp (disch := omega) only [upo_ne]
    · repeat' (first | exact hh | exact trivial | exact sm_dv | exact sm_dd | exact sm_r (by omega) | refine sm_up ?_ ?_ | refine sm_upo ?_ ?_ | refine sm_u1 ?_ ?_ | intro _)
theorem c_X5_init (hd : 4 ≤ d) : zCt L xs d k_X5_init 33 99 := by
  intro t h
  obtain ⟨d, rfl⟩ : ∃ e, d = e + 1 := ⟨d - 1, by omega⟩
  obtain ⟨h', g1, g2, g3, g4, g5, g6⟩ := lp_X5_init (L := L) (xs := xs) (d := d) (t := t) (by omega) 8 0 (mv_upo (mv_upo h 33 (mv_u1 (mv_u1 (mv_u1 (fun k => defaultValue (mv_ty 2 k)) 0 (.ref 34)) 1 (.int (Int32.ofInt 0))) 2 (.int (Int32.ofInt 0)))) 34 (fun _ => mv_dv 25)) (by omega) (by rw [upo_ne (by decide), upo_eq]; rfl)
  refine ⟨h', ?_, fun p k a b z => ?_, fun p a => ?_, fun hh => g6 (by repeat' (first | exact hh | exact trivial | exact sm_dv | exact sm_dd | exact sm_r (by omega) | refine sm_up ?_ ?_ | refine sm_upo ?_ ?_ | refine sm_u1 ?_ ?_ | intro _))⟩
  · rw [show (mv_kd 33).1 = 2 from rfl]
    apply mv_cl_of
    simp only [mv_il, Value.category, Nat.zero_add, Nat.reduceAdd]
    simp (disch := first | assumption | omega | rfl | decide) only [mv_Ev_row r_X5_init_0, mv_Ev_row r_X5_init_1, mv_Ev_row r_X5_init_4, mv_Ev_row r_X5_init_5, mv_Ev_row r_X5_init_7, mv_Ev_row r_X5_init_10, mv_Ev_row r_X5_init_13, mv_Ev_row r_X5_init_14, mv_Ev_row r_X5_init_15, mv_Ev_row r_X5_init_18, mv_Ev_row r_X5_init_19, mv_Ev_row r_X5_init_20, mv_Ev_row r_X5_init_23, mv_Ev_row r_X5_init_24, mv_Ev_row r_X5_init_26, mv_Ev_row r_X5_init_27, mv_Ev_row r_X5_init_30, mv_Ev_row r_X5_init_31, mv_Ev_row r_X5_init_34, mv_Ev_row r_X5_init_35, mv_Ev_row r_X5_init_38, mv_Ev_row r_X5_init_39, mv_Ev_row r_X5_init_42, mv_Ev_row r_X5_init_43, mv_Ev_row r_X5_init_46, mv_Ev_row r_X5_init_47, mv_Ev_row r_X5_init_50, mv_Ev_row r_X5_init_53, ea_aload_n, ci_obj, ea_bipush, ci_nw2, cp_2_0, ea_iconst, cp_2_1, cp_2_2, ea_istore_n, ea_iload_n, ci_get, ci_len, ea_icmp, ci_new, ea_dup_i, ea_dup_r, ck_X2_init, ci_aas, ea_iinc, eb_inc, ea_goto, ea_vret, bz_8, cz_eq, cz_ne, cz_lt, cz_ge, cz_gt, cz_le, mv_ac, decide_eq_true_eq, not_true_eq_false, and_self, and_true, true_and, ea_2n, ea_2f, ea_2c, ea_if, if_pos, if_neg, mv_lk, mv_f1, mv_f2, Value.category, List.filter, ↓reduceIte, Nat.reduceEqDiff, Nat.reduceAdd, Nat.reduceLT, Nat.reduceBEq, Nat.zero_add, Nat.add_zero, Nat.zero_ne_one, Nat.one_ne_zero, Bool.not_true, Bool.not_false, Bool.and_true, Bool.true_and, Bool.and_false, Bool.false_and, BEq.rfl, beq_self_eq_true, Bool.false_eq_true, reduceCtorEq, not_false_eq_true, fv0, fv1, fv2, fv3, eb_l0, eb_l1, eb_l2, eb_l3, eb_l4, eb_l5, eb_s0, eb_s1, eb_s2, eb_s3, eb_s4, eb_s5, oz_add, oz_sub, oz_mul, oz_neg, ol_add, ol_sub, sD_eq, sD_sD, sD_ne, sD_in, sD_in2, sD_in3, upR_is, upR_ne, mk_v, mk_n, mk_x, mk_i, mv_cs, Nat.reduceLeDiff, mv_ch_z, nh_X5_init, up_same, up_diff, upo_eq, upo_ne, u1_eq, u1_ne, up_eq, up_nk, up_ne]
    exact mv_Es g1
  · obtain ⟨hk1, hk2⟩ := zk_in z
    by_cases q : 35 ≤ p
    · exact g2 p k q b z
    · rcases (by omega : p = 33 ∨ p = 34) with rfl | rfl
      · have hk2 : k < 3 := hk2
        rw [g5 33 (by omega) (by omega), upo_ne (by decide), upo_eq]
        rcases (by omega : k = 0 ∨ k = 1 ∨ k = 2) with rfl | rfl | rfl <;> rfl
      · have hk2 : k < 8 := hk2
        rw [g3 k (by omega) hk2, zk_r ((by decide +kernel : ∀ k, k < 8 → zk 34 k = 10 + (35 + 8 * k)) k hk2) (by decide) (by decide)]
  · rw [g5 p (by omega) (by omega), upo_ne (by omega), upo_ne (by omega)]
theorem c_X7_init (hd : 4 ≤ d) : zCt L xs d k_X7_init 99 133 := by
  intro t h
  obtain ⟨d, rfl⟩ : ∃ e, d = e + 1 := ⟨d - 1, by omega⟩
  obtain ⟨h', g1, g2, g3, g4, g5, g6⟩ := lp_X7_init (L := L) (xs := xs) (d := d) (t := t) (by omega) 4 0 (mv_upo (mv_upo h 99 (mv_u1 (fun k => defaultValue (mv_ty 4 k)) 0 (.ref 100))) 100 (fun _ => mv_dv 25)) (by omega) (by rw [upo_ne (by decide), upo_eq]; rfl)
  refine ⟨h', ?_, fun p k a b z => ?_, fun p a => ?_, fun hh => g6 (by repeat' (first | exact hh | exact trivial | exact sm_dv | exact sm_dd | exact sm_r (by omega) | refine sm_up ?_ ?_ | refine sm_upo ?_ ?_ | refine sm_u1 ?_ ?_ | intro _))⟩
  · rw [show (mv_kd 99).1 = 4 from rfl]
    apply mv_cl_of
    simp only [mv_il, Value.category, Nat.zero_add, Nat.reduceAdd]
    simp (disch := first | assumption | omega | rfl | decide) only [mv_Ev_row r_X7_init_0, mv_Ev_row r_X7_init_1, mv_Ev_row r_X7_init_4, mv_Ev_row r_X7_init_5, mv_Ev_row r_X7_init_6, mv_Ev_row r_X7_init_9, mv_Ev_row r_X7_init_12, mv_Ev_row r_X7_init_13, mv_Ev_row r_X7_init_15, mv_Ev_row r_X7_init_16, mv_Ev_row r_X7_init_19, mv_Ev_row r_X7_init_20, mv_Ev_row r_X7_init_23, mv_Ev_row r_X7_init_24, mv_Ev_row r_X7_init_27, mv_Ev_row r_X7_init_28, mv_Ev_row r_X7_init_31, mv_Ev_row r_X7_init_32, mv_Ev_row r_X7_init_35, mv_Ev_row r_X7_init_36, mv_Ev_row r_X7_init_39, mv_Ev_row r_X7_init_42, ea_aload_n, ci_obj, ea_iconst, ci_nw2, cp_4_0, ea_istore_n, ea_iload_n, ci_get, ci_len, ea_icmp, ci_new, ea_dup_i, ea_dup_r, ck_X2_init, ci_aas, ea_iinc, eb_inc, ea_goto, ea_vret, cz_eq, cz_ne, cz_lt, cz_ge, cz_gt, cz_le, mv_ac, decide_eq_true_eq, not_true_eq_false, and_self, and_true, true_and, ea_2n, ea_2f, ea_2c, ea_if, if_pos, if_neg, mv_lk, mv_f1, mv_f2, Value.category, List.filter, ↓reduceIte, Nat.reduceEqDiff, Nat.reduceAdd, Nat.reduceLT, Nat.reduceBEq, Nat.zero_add, Nat.add_zero, Nat.zero_ne_one, Nat.one_ne_zero, Bool.not_true, Bool.not_false, Bool.and_true, Bool.true_and, Bool.and_false, Bool.false_and, BEq.rfl, beq_self_eq_true, Bool.false_eq_true, reduceCtorEq, not_false_eq_true, fv0, fv1, fv2, fv3, eb_l0, eb_l1, eb_l2, eb_l3, eb_l4, eb_l5, eb_s0, eb_s1, eb_s2, eb_s3, eb_s4, eb_s5, oz_add, oz_sub, oz_mul, oz_neg, ol_add, ol_sub, sD_eq, sD_sD, sD_ne, sD_in, sD_in2, sD_in3, upR_is, upR_ne, mk_v, mk_n, mk_x, mk_i, mv_cs, Nat.reduceLeDiff, mv_ch_z, nh_X7_init, up_same, up_diff, upo_eq, upo_ne, u1_eq, u1_ne, up_eq, up_nk, up_ne]
    exact mv_Es g1
  · obtain ⟨hk1, hk2⟩ := zk_in z
    by_cases q : 101 ≤ p
    · exact g2 p k q b z
    · rcases (by omega : p = 99 ∨ p = 100) with rfl | rfl
      · have hk2 : k < 1 := hk2
        rw [g5 99 (by omega) (by omega), upo_ne (by decide), upo_eq]
        rcases (by omega : k = 0) with rfl <;> rfl
      · have hk2 : k < 4 := hk2
        rw [g3 k (by omega) hk2, zk_r ((by decide +kernel : ∀ k, k < 4 → zk 100 k = 10 + (101 + 8 * k)) k hk2) (by decide) (by decide)]
  · rw [g5 p (by omega) (by omega), upo_ne (by omega), upo_ne (by omega)]
end CJ
