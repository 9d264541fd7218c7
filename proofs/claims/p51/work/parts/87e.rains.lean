/-! THE LAW RUNS: rains, ranks -/
def mo_s_581 : Nat → Bool := fun pc => Nat.beq pc 581
def mo_s_534 : Nat → Bool := fun pc => Nat.beq pc 534
def mo_s_527 : Nat → Bool := fun pc => Nat.beq pc 527
def mo_s_662 : Nat → Bool := fun pc => Nat.beq pc 662
def mo_s_584 : Nat → Bool := fun pc => Nat.beq pc 584
def mo_s_656 : Nat → Bool := fun pc => Nat.beq pc 656
section LWF
variable {z : Nat} {kad0 : Nat → Nat} {dC : Nat → ClassId} {dI : Nat → Nat → Nat} {cA : Nat → ClassId} {L : Nat} {xs : Nat → Int32}
variable {p : Program} {l : Launch} {e : Env} {R : Room} {s0 : State} {m : MethodId} {args : Array Value} {below : List Frame} {meth : Method} {c : Code} {D : va_G} {cB : ClassId} {d1 d2 : Nat} {ka kv : Nat → Nat}
variable {t u w : Nat} {F : Nat → mo_T} {T : zT} {A : Int → Int} {M : Int}
/-- what the things are when k rains are told -/
def zFb (A : Int → Int) (sp : Int) (F : Nat → mo_T) (k : Int) : Prop := F 0 = .inl (zTc3 A (A 0).toNat) ∧ F 1 = .inl (zTf3 A k.toNat) ∧ ∃ g, F 2 = .inr (.inr (.inl ((A 0).toNat, g))) ∧ (∀ j : Int, 0 ≤ j → j < A 0 → g j.toNat = Int32.ofInt (zX A sp.toNat j))
theorem lw_rains {tu sp bg : Int} (hG : mo_G z kad0 dC dI cA L xs p s0 m args meth c D cB d1 d2 ka kv) (hlt : l.stackTraces = false) : ∀ (n : Nat) (k : Int) (w : Nat) (F : Nat → mo_T), zI T M A → 0 ≤ k → k + n = A 2 → t ≤ 900 → w + 10 * n ≤ 1390 → zFb A sp F k → (∀ F1 : Nat → mo_T, zFb A sp F1 (A 2) → mo_W z kad0 dC dI cA p l e s0 m args below meth c D cB (3, w + 10 * n, F1) 581 [(14, .int (Int32.ofInt (A 2))), (9, .double (zMf A (A 0).toNat 0 0)), (5, .int (Int32.ofInt (zSm 8 (A 0).toNat 0 0 A))), (4, .int (Int32.ofInt (zSm 1 (A 0).toNat 0 0 A))), (13, .ref 3002), (12, .ref 3001), (11, .ref 3000), (8, .int (Int32.ofInt bg)), (7, .int (Int32.ofInt sp)), (6, .int (Int32.ofInt (A 2))), (3, .int (Int32.ofInt (A 0))), (2, .int (Int32.ofInt tu)), (1, .ref 0), (0, .ref 2000)] [] (t, 142, mz T)) → mo_W z kad0 dC dI cA p l e s0 m args below meth c D cB (3, w, F) 527 [(14, .int (Int32.ofInt k)), (9, .double (zMf A (A 0).toNat 0 0)), (5, .int (Int32.ofInt (zSm 8 (A 0).toNat 0 0 A))), (4, .int (Int32.ofInt (zSm 1 (A 0).toNat 0 0 A))), (13, .ref 3002), (12, .ref 3001), (11, .ref 3000), (8, .int (Int32.ofInt bg)), (7, .int (Int32.ofInt sp)), (6, .int (Int32.ofInt (A 2))), (3, .int (Int32.ofInt (A 0))), (2, .int (Int32.ofInt tu)), (1, .ref 0), (0, .ref 2000)] [] (t, 142, mz T) := by
  intro n
  induction n with
  | zero =>
    intro k w F hI k0 hn ht hw hF k9
    have h5 := zI_5 hI
    have hj : k = A 2 := by omega
    subst hj
    have k8 := k9 F hF
    refine (mo_go hG hlt (d := 20) (by omega) (by dsimp only; omega) mo_s_581 ?_).2
    simp (disch := omega) only [mo_Ev_stop (S := mo_s_581) (pc := 581) rfl, mo_Ev_row (S := mo_s_581) rfl r_L_law_527, mo_Ev_row (S := mo_s_581) rfl r_L_law_529, mo_Ev_row (S := mo_s_581) rfl r_L_law_531, ea_iload, ea_icmp, cz_eq, cz_ne, cz_lt, cz_ge, cz_gt, cz_le, mv_ac, decide_eq_true_eq, not_true_eq_false, and_self, and_true, true_and, oa_2n, oa_2f, oa_2c, oa_if, if_pos, if_neg, mv_lk, mv_f1, mv_f2, Value.category, List.filter, ↓reduceIte, Nat.reduceEqDiff, Nat.reduceAdd, Nat.reduceLT, Nat.reduceBEq, Nat.zero_add, Nat.add_zero, Nat.zero_ne_one, Nat.one_ne_zero, Bool.not_true, Bool.not_false, Bool.and_true, Bool.true_and, Bool.and_false, Bool.false_and, BEq.rfl, beq_self_eq_true, Bool.false_eq_true, reduceCtorEq, not_false_eq_true, fv0, fv1, fv2, fv3, eb_l0, eb_l1, eb_l2, eb_l3, eb_l4, eb_l5, eb_s0, eb_s1, eb_s2, eb_s3, eb_s4, eb_s5, oz_add, oz_sub, oz_mul, oz_neg, ol_add, ol_sub, sD_eq, sD_sD, sD_ne, sD_in, sD_in2, sD_in3, upR_is, upR_ne, ok_v, ok_n, ok_i, mv_cs, Nat.reduceLeDiff, mv_ch_z, ge_iff_le]
    exact ⟨mo_bdt (by omega), k8⟩
  | succ n ih =>
    intro k w F hI k0 hn ht hw hF k9
    have h5 := zI_5 hI
    have k1 : k < A 2 := by omega
    have hl := zTf3_ln (zI_wf hI) k.toNat (by omega)
    obtain ⟨f0, f1, g, f2, f3⟩ := hF
    obtain ⟨e1, r9⟩ := q_rain (L := L) (xs := xs) (d := 20) (t := t) hI (by omega) k0 k1
    refine (mo_go hG hlt (d := 20) (by omega) (by dsimp only; omega) mo_s_534 ?_).2
    simp (disch := omega) only [mo_Ev_stop (S := mo_s_534) (pc := 534) rfl, mo_Ev_row (S := mo_s_534) rfl r_L_law_527, mo_Ev_row (S := mo_s_534) rfl r_L_law_529, mo_Ev_row (S := mo_s_534) rfl r_L_law_531, ea_iload, ea_icmp, cz_eq, cz_ne, cz_lt, cz_ge, cz_gt, cz_le, mv_ac, decide_eq_true_eq, not_true_eq_false, and_self, and_true, true_and, oa_2n, oa_2f, oa_2c, oa_if, if_pos, if_neg, mv_lk, mv_f1, mv_f2, Value.category, List.filter, ↓reduceIte, Nat.reduceEqDiff, Nat.reduceAdd, Nat.reduceLT, Nat.reduceBEq, Nat.zero_add, Nat.add_zero, Nat.zero_ne_one, Nat.one_ne_zero, Bool.not_true, Bool.not_false, Bool.and_true, Bool.true_and, Bool.and_false, Bool.false_and, BEq.rfl, beq_self_eq_true, Bool.false_eq_true, reduceCtorEq, not_false_eq_true, fv0, fv1, fv2, fv3, eb_l0, eb_l1, eb_l2, eb_l3, eb_l4, eb_l5, eb_s0, eb_s1, eb_s2, eb_s3, eb_s4, eb_s5, oz_add, oz_sub, oz_mul, oz_neg, ol_add, ol_sub, sD_eq, sD_sD, sD_ne, sD_in, sD_in2, sD_in3, upR_is, upR_ne, ok_v, ok_n, ok_i, mv_cs, Nat.reduceLeDiff, mv_ch_z, ge_iff_le]
    refine ⟨mo_bdt (by omega), ?_⟩
    have hsl : mv_cc (t, 142, mz T) ≤ 500000 ∧ mv_ss (t, 142, mz T) ≤ 5000000 := mo_bdt (by omega)
    refine mc_rain hG hlt (zI_sm hI) (zI_sm hI) f0 f1 f2 ⟨hsl.1, hsl.2, by omega⟩ ⟨hsl.1, hsl.2, by omega⟩ ?_ ?_ (by omega) (k := k) rfl rfl rfl ⟨k0, by omega⟩ r9 (by omega : 20 ≤ 30) e1 ?_
    · repeat' (first | exact mo_nl | refine mo_cns ?_ ?_ | exact trivial | exact Nat.le_of_ble_eq_true rfl)
    · repeat' (first | exact mo_nn | refine mo_nc ?_ ?_ | exact .inl rfl | exact .inr in_ne | exact .inr db_ne | exact .inr (rf_ne (by decide)))
    rw [List.append_assoc]
    refine mo_pm (ls' := [(14, .int (Int32.ofInt k)), (9, .double (zMf A (A 0).toNat 0 0)), (5, .int (Int32.ofInt (zSm 8 (A 0).toNat 0 0 A))), (4, .int (Int32.ofInt (zSm 1 (A 0).toNat 0 0 A))), (13, .ref 3002), (12, .ref 3001), (11, .ref 3000), (8, .int (Int32.ofInt bg)), (7, .int (Int32.ofInt sp)), (6, .int (Int32.ofInt (A 2))), (3, .int (Int32.ofInt (A 0))), (2, .int (Int32.ofInt tu)), (1, .ref 0), (0, .ref 2000)]) (mo_pc rfl (mo_pc rfl (mo_pc rfl (mo_pc rfl (mo_pc rfl (mo_pc rfl (mo_pc rfl (mo_pc rfl (mo_pc rfl (mo_pc rfl (mo_pc rfl (mo_pc rfl (mo_pc rfl (mo_pc rfl (mo_p0))))))))))))))) ?_
    refine (mo_go hG hlt (d := 20) (by omega) (by dsimp only; omega) mo_s_527 ?_).2
    simp (disch := omega) only [mo_Ev_stop (S := mo_s_527) (pc := 527) rfl, mo_Ev_row (S := mo_s_527) rfl r_L_law_575, mo_Ev_row (S := mo_s_527) rfl r_L_law_578, ea_iinc, eb_inc, ea_goto, mv_ac, decide_eq_true_eq, not_true_eq_false, and_self, and_true, true_and, oa_2n, oa_2f, oa_2c, oa_if, if_pos, if_neg, mv_lk, mv_f1, mv_f2, Value.category, List.filter, ↓reduceIte, Nat.reduceEqDiff, Nat.reduceAdd, Nat.reduceLT, Nat.reduceBEq, Nat.zero_add, Nat.add_zero, Nat.zero_ne_one, Nat.one_ne_zero, Bool.not_true, Bool.not_false, Bool.and_true, Bool.true_and, Bool.and_false, Bool.false_and, BEq.rfl, beq_self_eq_true, Bool.false_eq_true, reduceCtorEq, not_false_eq_true, fv0, fv1, fv2, fv3, eb_l0, eb_l1, eb_l2, eb_l3, eb_l4, eb_l5, eb_s0, eb_s1, eb_s2, eb_s3, eb_s4, eb_s5, oz_add, oz_sub, oz_mul, oz_neg, ol_add, ol_sub, sD_eq, sD_sD, sD_ne, sD_in, sD_in2, sD_in3, upR_is, upR_ne, ok_v, ok_n, ok_i, mv_cs, Nat.reduceLeDiff, mv_ch_z]
    refine ⟨mo_bdt (by omega), ?_⟩
    refine ih (k + 1) (w + 10) _ hI (by omega) (by omega) ht (by omega) ⟨f0, ?_, g, f2, f3⟩ (fun F1 h1 => ?_)
    · show Sum.inl _ = _
      rw [show (k + 1).toNat = k.toNat + 1 by omega, zTf3, Int.toNat_of_nonneg k0]
      rfl
    · have k8 := k9 F1 h1
      rw [show w + 10 + 10 * n = w + 10 * (n + 1) by omega]
      exact k8
theorem rk_two (hA : zWF A 99) {k : Int} (k0 : 1 ≤ k) (k1 : k < A 0) : ∃ a b : Int, 0 ≤ a ∧ a < A 0 ∧ 0 ≤ b ∧ b < A 0 ∧ rBr (k - 1) (A 0) A (A 0).toNat 0 = a ∧ rBr k (A 0) A (A 0).toNat 0 = b ∧ A (6 + 9 * b + 1) * A (6 + 9 * a + 0) ≤ A (6 + 9 * a + 1) * A (6 + 9 * b + 0) ∧ (A (6 + 9 * a + 1) * A (6 + 9 * b + 0) = A (6 + 9 * b + 1) * A (6 + 9 * a + 0) → a < b) := by
  obtain ⟨a0, a1, -⟩ := rk_ok hA (r := k - 1) (by omega) (by omega)
  obtain ⟨b0, b1, -⟩ := rk_ok hA (r := k) (by omega) (by omega)
  have h := rk_next hA (r := k - 1) (by omega) (by omega) rfl rfl
  rw [show k - 1 + 1 = k by omega] at h
  exact ⟨_, _, a0, a1, b0, b1, rfl, rfl, h.1, h.2⟩
theorem lw_ranks {tu sp bg : Int} (hG : mo_G z kad0 dC dI cA L xs p s0 m args meth c D cB d1 d2 ka kv) (hlt : l.stackTraces = false) (hI : zI T M A) (ht : t ≤ 900) (hw : w ≤ 1400) (k9 : mo_W z kad0 dC dI cA p l e s0 m args below meth c D cB (3, w, F) 662 [(14, .int (Int32.ofInt (A 0))), (9, .double (zMf A (A 0).toNat 0 0)), (5, .int (Int32.ofInt (zSm 8 (A 0).toNat 0 0 A))), (4, .int (Int32.ofInt (zSm 1 (A 0).toNat 0 0 A))), (13, .ref 3002), (12, .ref 3001), (11, .ref 3000), (8, .int (Int32.ofInt bg)), (7, .int (Int32.ofInt sp)), (6, .int (Int32.ofInt (A 2))), (3, .int (Int32.ofInt (A 0))), (2, .int (Int32.ofInt tu)), (1, .ref 0), (0, .ref 2000)] [] (t, 142, mz T)) : ∀ (n : Nat) (k : Int), 1 ≤ k → k + n = A 0 → mo_W z kad0 dC dI cA p l e s0 m args below meth c D cB (3, w, F) 584 [(14, .int (Int32.ofInt k)), (9, .double (zMf A (A 0).toNat 0 0)), (5, .int (Int32.ofInt (zSm 8 (A 0).toNat 0 0 A))), (4, .int (Int32.ofInt (zSm 1 (A 0).toNat 0 0 A))), (13, .ref 3002), (12, .ref 3001), (11, .ref 3000), (8, .int (Int32.ofInt bg)), (7, .int (Int32.ofInt sp)), (6, .int (Int32.ofInt (A 2))), (3, .int (Int32.ofInt (A 0))), (2, .int (Int32.ofInt tu)), (1, .ref 0), (0, .ref 2000)] [] (t, 142, mz T) := by
  have h5 := zI_5 hI
  intro n
  induction n with
  | zero =>
    intro k k0 hn
    have hj : k = A 0 := by omega
    subst hj
    refine (mo_go hG hlt (d := 20) (by omega) (by dsimp only; omega) mo_s_662 ?_).2
    simp (disch := omega) only [mo_Ev_stop (S := mo_s_662) (pc := 662) rfl, mo_Ev_row (S := mo_s_662) rfl r_L_law_584, mo_Ev_row (S := mo_s_662) rfl r_L_law_586, mo_Ev_row (S := mo_s_662) rfl r_L_law_587, ea_iload, ea_iload_n, ea_icmp, cz_eq, cz_ne, cz_lt, cz_ge, cz_gt, cz_le, mv_ac, decide_eq_true_eq, not_true_eq_false, and_self, and_true, true_and, oa_2n, oa_2f, oa_2c, oa_if, if_pos, if_neg, mv_lk, mv_f1, mv_f2, Value.category, List.filter, ↓reduceIte, Nat.reduceEqDiff, Nat.reduceAdd, Nat.reduceLT, Nat.reduceBEq, Nat.zero_add, Nat.add_zero, Nat.zero_ne_one, Nat.one_ne_zero, Bool.not_true, Bool.not_false, Bool.and_true, Bool.true_and, Bool.and_false, Bool.false_and, BEq.rfl, beq_self_eq_true, Bool.false_eq_true, reduceCtorEq, not_false_eq_true, fv0, fv1, fv2, fv3, eb_l0, eb_l1, eb_l2, eb_l3, eb_l4, eb_l5, eb_s0, eb_s1, eb_s2, eb_s3, eb_s4, eb_s5, oz_add, oz_sub, oz_mul, oz_neg, ol_add, ol_sub, sD_eq, sD_sD, sD_ne, sD_in, sD_in2, sD_in3, upR_is, upR_ne, ok_v, ok_n, ok_i, mv_cs, Nat.reduceLeDiff, mv_ch_z, ge_iff_le]
    exact ⟨mo_bdt (by omega), k9⟩
  | succ n ih =>
    intro k k0 hn
    have k1 : k < A 0 := by omega
    obtain ⟨a, b, a0, a1, b0, b1, ea, eb, h1, h2⟩ := rk_two (zI_wf hI) k0 k1
    have ka := zI_ok hI a0 a1
    have kb := zI_ok hI b0 b1
    have tb := (zI_tb hI).2.2.2.2
    unfold zOK at ka kb
    have m1 := zmul_bd (x := A (6 + 9 * a + 1)) (y := A (6 + 9 * b + 0)) (a := 99) (b := 99) (by omega) (by omega) (by omega) (by omega)
    have m2 := zmul_bd (x := A (6 + 9 * b + 1)) (y := A (6 + 9 * a + 0)) (a := 99) (b := 99) (by omega) (by omega) (by omega) (by omega)
    have e1 := q_rank (L := L) (xs := xs) (d := 20) (t := t) (k := k - 1) hI (by omega) (by omega) (by omega)
    have e2 := q_rank (L := L) (xs := xs) (d := 20) (t := t) (k := k) hI (by omega) (by omega) (by omega)
    rw [ea] at e1
    rw [eb] at e2
    have e3 := q_level (L := L) (xs := xs) (d := 20) (t := t) hI (by omega) a0 a1
    have e4 := q_capacity (L := L) (xs := xs) (d := 20) (t := t) hI (by omega) b0 b1
    have e5 := q_level (L := L) (xs := xs) (d := 20) (t := t) hI (by omega) b0 b1
    have e6 := q_capacity (L := L) (xs := xs) (d := 20) (t := t) hI (by omega) a0 a1
    have k8 := ih (k + 1) (by omega) (by omega)
    have key : mo_W z kad0 dC dI cA p l e s0 m args below meth c D cB (3, w, F) 656 [(17, .int (Int32.ofInt (A (6 + 9 * a + 1) * A (6 + 9 * b + 0) - A (6 + 9 * b + 1) * A (6 + 9 * a + 0)))), (16, .int (Int32.ofInt b)), (15, .int (Int32.ofInt a)), (14, .int (Int32.ofInt k)), (9, .double (zMf A (A 0).toNat 0 0)), (5, .int (Int32.ofInt (zSm 8 (A 0).toNat 0 0 A))), (4, .int (Int32.ofInt (zSm 1 (A 0).toNat 0 0 A))), (13, .ref 3002), (12, .ref 3001), (11, .ref 3000), (8, .int (Int32.ofInt bg)), (7, .int (Int32.ofInt sp)), (6, .int (Int32.ofInt (A 2))), (3, .int (Int32.ofInt (A 0))), (2, .int (Int32.ofInt tu)), (1, .ref 0), (0, .ref 2000)] [] (t, 142, mz T) := by
      refine (mo_go hG hlt (d := 20) (by omega) (by dsimp only; omega) mo_s_584 ?_).2
      simp (disch := omega) only [mo_Ev_stop (S := mo_s_584) (pc := 584) rfl, mo_Ev_row (S := mo_s_584) rfl r_L_law_656, mo_Ev_row (S := mo_s_584) rfl r_L_law_659, ea_iinc, eb_inc, ea_goto, mv_ac, decide_eq_true_eq, not_true_eq_false, and_self, and_true, true_and, oa_2n, oa_2f, oa_2c, oa_if, if_pos, if_neg, mv_lk, mv_f1, mv_f2, Value.category, List.filter, ↓reduceIte, Nat.reduceEqDiff, Nat.reduceAdd, Nat.reduceLT, Nat.reduceBEq, Nat.zero_add, Nat.add_zero, Nat.zero_ne_one, Nat.one_ne_zero, Bool.not_true, Bool.not_false, Bool.and_true, Bool.true_and, Bool.and_false, Bool.false_and, BEq.rfl, beq_self_eq_true, Bool.false_eq_true, reduceCtorEq, not_false_eq_true, fv0, fv1, fv2, fv3, eb_l0, eb_l1, eb_l2, eb_l3, eb_l4, eb_l5, eb_s0, eb_s1, eb_s2, eb_s3, eb_s4, eb_s5, oz_add, oz_sub, oz_mul, oz_neg, ol_add, ol_sub, sD_eq, sD_sD, sD_ne, sD_in, sD_in2, sD_in3, upR_is, upR_ne, ok_v, ok_n, ok_i, mv_cs, Nat.reduceLeDiff, mv_ch_z]
      exact ⟨mo_bdt (by omega), mo_pm (mo_pc rfl (mo_pc rfl (mo_pc rfl (mo_pc rfl (mo_pc rfl (mo_pc rfl (mo_pc rfl (mo_pc rfl (mo_pc rfl (mo_pc rfl (mo_pc rfl (mo_pc rfl (mo_pc rfl (mo_pc rfl (mo_p0))))))))))))))) k8⟩
    by_cases hq : A (6 + 9 * a + 1) * A (6 + 9 * b + 0) = A (6 + 9 * b + 1) * A (6 + 9 * a + 0)
    · have hab := h2 hq
      refine (mo_go hG hlt (d := 20) (by omega) (by dsimp only; omega) mo_s_656 ?_).2
      simp (disch := omega) only [mo_Ev_stop (S := mo_s_656) (pc := 656) rfl, mo_Ev_row (S := mo_s_656) rfl r_L_law_584, mo_Ev_row (S := mo_s_656) rfl r_L_law_586, mo_Ev_row (S := mo_s_656) rfl r_L_law_587, mo_Ev_row (S := mo_s_656) rfl r_L_law_590, mo_Ev_row (S := mo_s_656) rfl r_L_law_591, mo_Ev_row (S := mo_s_656) rfl r_L_law_593, mo_Ev_row (S := mo_s_656) rfl r_L_law_594, mo_Ev_row (S := mo_s_656) rfl r_L_law_595, mo_Ev_row (S := mo_s_656) rfl r_L_law_598, mo_Ev_row (S := mo_s_656) rfl r_L_law_600, mo_Ev_row (S := mo_s_656) rfl r_L_law_601, mo_Ev_row (S := mo_s_656) rfl r_L_law_603, mo_Ev_row (S := mo_s_656) rfl r_L_law_606, mo_Ev_row (S := mo_s_656) rfl r_L_law_608, mo_Ev_row (S := mo_s_656) rfl r_L_law_609, mo_Ev_row (S := mo_s_656) rfl r_L_law_611, mo_Ev_row (S := mo_s_656) rfl r_L_law_614, mo_Ev_row (S := mo_s_656) rfl r_L_law_615, mo_Ev_row (S := mo_s_656) rfl r_L_law_617, mo_Ev_row (S := mo_s_656) rfl r_L_law_620, mo_Ev_row (S := mo_s_656) rfl r_L_law_621, mo_Ev_row (S := mo_s_656) rfl r_L_law_622, mo_Ev_row (S := mo_s_656) rfl r_L_law_624, mo_Ev_row (S := mo_s_656) rfl r_L_law_627, mo_Ev_row (S := mo_s_656) rfl r_L_law_628, mo_Ev_row (S := mo_s_656) rfl r_L_law_630, mo_Ev_row (S := mo_s_656) rfl r_L_law_633, mo_Ev_row (S := mo_s_656) rfl r_L_law_634, mo_Ev_row (S := mo_s_656) rfl r_L_law_635, mo_Ev_row (S := mo_s_656) rfl r_L_law_637, mo_Ev_row (S := mo_s_656) rfl r_L_law_639, mo_Ev_row (S := mo_s_656) rfl r_L_law_642, mo_Ev_row (S := mo_s_656) rfl r_L_law_644, mo_Ev_row (S := mo_s_656) rfl r_L_law_647, mo_Ev_row (S := mo_s_656) rfl r_L_law_649, mo_Ev_row (S := mo_s_656) rfl r_L_law_651, ea_iload, ea_iload_n, ea_icmp, ea_aload_n, ea_iconst, ea_isub, kv_X10_basinAtRank, ea_istore, kv_X10_level, kv_X10_capacity, ea_imul, ea_ifc, cz_eq, cz_ne, cz_lt, cz_ge, cz_gt, cz_le, c0_eq, c0_ne, c0_lt, c0_ge, c0_gt, c0_le, mv_ac, decide_eq_true_eq, not_true_eq_false, and_self, and_true, true_and, oa_2n, oa_2f, oa_2c, oa_if, if_pos, if_neg, mv_lk, mv_f1, mv_f2, Value.category, List.filter, ↓reduceIte, Nat.reduceEqDiff, Nat.reduceAdd, Nat.reduceLT, Nat.reduceBEq, Nat.zero_add, Nat.add_zero, Nat.zero_ne_one, Nat.one_ne_zero, Bool.not_true, Bool.not_false, Bool.and_true, Bool.true_and, Bool.and_false, Bool.false_and, BEq.rfl, beq_self_eq_true, Bool.false_eq_true, reduceCtorEq, not_false_eq_true, fv0, fv1, fv2, fv3, eb_l0, eb_l1, eb_l2, eb_l3, eb_l4, eb_l5, eb_s0, eb_s1, eb_s2, eb_s3, eb_s4, eb_s5, oz_add, oz_sub, oz_mul, oz_neg, ol_add, ol_sub, sD_eq, sD_sD, sD_ne, sD_in, sD_in2, sD_in3, upR_is, upR_ne, ok_v, ok_n, ok_i, mv_cs, Nat.reduceLeDiff, mv_ch_z, e1, e2, e3, e4, e5, e6, ge_iff_le, gt_iff_lt]
      exact ⟨mo_bdt (by omega), key⟩
    · refine (mo_go hG hlt (d := 20) (by omega) (by dsimp only; omega) mo_s_656 ?_).2
      simp (disch := omega) only [mo_Ev_stop (S := mo_s_656) (pc := 656) rfl, mo_Ev_row (S := mo_s_656) rfl r_L_law_584, mo_Ev_row (S := mo_s_656) rfl r_L_law_586, mo_Ev_row (S := mo_s_656) rfl r_L_law_587, mo_Ev_row (S := mo_s_656) rfl r_L_law_590, mo_Ev_row (S := mo_s_656) rfl r_L_law_591, mo_Ev_row (S := mo_s_656) rfl r_L_law_593, mo_Ev_row (S := mo_s_656) rfl r_L_law_594, mo_Ev_row (S := mo_s_656) rfl r_L_law_595, mo_Ev_row (S := mo_s_656) rfl r_L_law_598, mo_Ev_row (S := mo_s_656) rfl r_L_law_600, mo_Ev_row (S := mo_s_656) rfl r_L_law_601, mo_Ev_row (S := mo_s_656) rfl r_L_law_603, mo_Ev_row (S := mo_s_656) rfl r_L_law_606, mo_Ev_row (S := mo_s_656) rfl r_L_law_608, mo_Ev_row (S := mo_s_656) rfl r_L_law_609, mo_Ev_row (S := mo_s_656) rfl r_L_law_611, mo_Ev_row (S := mo_s_656) rfl r_L_law_614, mo_Ev_row (S := mo_s_656) rfl r_L_law_615, mo_Ev_row (S := mo_s_656) rfl r_L_law_617, mo_Ev_row (S := mo_s_656) rfl r_L_law_620, mo_Ev_row (S := mo_s_656) rfl r_L_law_621, mo_Ev_row (S := mo_s_656) rfl r_L_law_622, mo_Ev_row (S := mo_s_656) rfl r_L_law_624, mo_Ev_row (S := mo_s_656) rfl r_L_law_627, mo_Ev_row (S := mo_s_656) rfl r_L_law_628, mo_Ev_row (S := mo_s_656) rfl r_L_law_630, mo_Ev_row (S := mo_s_656) rfl r_L_law_633, mo_Ev_row (S := mo_s_656) rfl r_L_law_634, mo_Ev_row (S := mo_s_656) rfl r_L_law_635, mo_Ev_row (S := mo_s_656) rfl r_L_law_637, mo_Ev_row (S := mo_s_656) rfl r_L_law_639, mo_Ev_row (S := mo_s_656) rfl r_L_law_642, mo_Ev_row (S := mo_s_656) rfl r_L_law_644, mo_Ev_row (S := mo_s_656) rfl r_L_law_647, mo_Ev_row (S := mo_s_656) rfl r_L_law_649, mo_Ev_row (S := mo_s_656) rfl r_L_law_651, ea_iload, ea_iload_n, ea_icmp, ea_aload_n, ea_iconst, ea_isub, kv_X10_basinAtRank, ea_istore, kv_X10_level, kv_X10_capacity, ea_imul, ea_ifc, cz_eq, cz_ne, cz_lt, cz_ge, cz_gt, cz_le, c0_eq, c0_ne, c0_lt, c0_ge, c0_gt, c0_le, mv_ac, decide_eq_true_eq, not_true_eq_false, and_self, and_true, true_and, oa_2n, oa_2f, oa_2c, oa_if, if_pos, if_neg, mv_lk, mv_f1, mv_f2, Value.category, List.filter, ↓reduceIte, Nat.reduceEqDiff, Nat.reduceAdd, Nat.reduceLT, Nat.reduceBEq, Nat.zero_add, Nat.add_zero, Nat.zero_ne_one, Nat.one_ne_zero, Bool.not_true, Bool.not_false, Bool.and_true, Bool.true_and, Bool.and_false, Bool.false_and, BEq.rfl, beq_self_eq_true, Bool.false_eq_true, reduceCtorEq, not_false_eq_true, fv0, fv1, fv2, fv3, eb_l0, eb_l1, eb_l2, eb_l3, eb_l4, eb_l5, eb_s0, eb_s1, eb_s2, eb_s3, eb_s4, eb_s5, oz_add, oz_sub, oz_mul, oz_neg, ol_add, ol_sub, sD_eq, sD_sD, sD_ne, sD_in, sD_in2, sD_in3, upR_is, upR_ne, ok_v, ok_n, ok_i, mv_cs, Nat.reduceLeDiff, mv_ch_z, e1, e2, e3, e4, e5, e6, ge_iff_le, gt_iff_lt]
      exact ⟨mo_bdt (by omega), key⟩
end LWF
