/-! THE LAW RUNS: all sets, the sums -/
def mo_s_691_772 : Nat → Bool := fun pc => Nat.beq pc 691 || Nat.beq pc 772
def mo_s_674 : Nat → Bool := fun pc => Nat.beq pc 674
def mo_s_815 : Nat → Bool := fun pc => Nat.beq pc 815
def mo_s_787_815 : Nat → Bool := fun pc => Nat.beq pc 787 || Nat.beq pc 815
def mo_s_797 : Nat → Bool := fun pc => Nat.beq pc 797
def mo_s_775 : Nat → Bool := fun pc => Nat.beq pc 775
section LWH
variable {z : Nat} {kad0 : Nat → Nat} {dC : Nat → ClassId} {dI : Nat → Nat → Nat} {cA : Nat → ClassId} {L : Nat} {xs : Nat → Int32}
variable {p : Program} {l : Launch} {e : Env} {R : Room} {s0 : State} {m : MethodId} {args : Array Value} {below : List Frame} {meth : Method} {c : Code} {D : va_G} {cB : ClassId} {d1 d2 : Nat} {ka kv : Nat → Nat}
variable {t u w : Nat} {F : Nat → mo_T} {T : zT} {A : Int → Int} {M : Int}
theorem lw_sets {tu sp bg : Int} (hG : mo_G z kad0 dC dI cA L xs p s0 m args meth c D cB d1 d2 ka kv) (hlt : l.stackTraces = false) (hI : zI T M A) (ht : t ≤ 900) (hw : w ≤ 1400) (hF : zFb A sp F (A 2)) (sp0 : 0 ≤ sp) (sp1 : sp ≤ 30) (bg0 : 0 ≤ bg) (bg1 : bg ≤ 99) (k9 : mo_W z kad0 dC dI cA p l e s0 m args below meth c D cB (3, w, F) 772 [(17, .int (Int32.ofInt (zp2 (A 0)))), (16, .int (Int32.ofInt 0)), (15, .int (Int32.ofInt 0)), (14, .int (Int32.ofInt (zMx (zX A sp.toNat) (fun k => A (6 + 9 * k + 3)) bg (A 0).toNat (zp2 (A 0)).toNat 0 0))), (9, .double (zMf A (A 0).toNat 0 0)), (5, .int (Int32.ofInt (zSm 8 (A 0).toNat 0 0 A))), (4, .int (Int32.ofInt (zSm 1 (A 0).toNat 0 0 A))), (13, .ref 3002), (12, .ref 3001), (11, .ref 3000), (8, .int (Int32.ofInt bg)), (7, .int (Int32.ofInt sp)), (6, .int (Int32.ofInt (A 2))), (3, .int (Int32.ofInt (A 0))), (2, .int (Int32.ofInt tu)), (1, .ref 0), (0, .ref 2000)] [] (t, 142, mz T)) : ∀ (n : Nat) (s best : Int), 0 ≤ s → s + n = zp2 (A 0) → 0 ≤ best → best ≤ 495 → zMx (zX A sp.toNat) (fun k => A (6 + 9 * k + 3)) bg (A 0).toNat n s best = (zMx (zX A sp.toNat) (fun k => A (6 + 9 * k + 3)) bg (A 0).toNat (zp2 (A 0)).toNat 0 0) → mo_W z kad0 dC dI cA p l e s0 m args below meth c D cB (3, w, F) 674 [(17, .int (Int32.ofInt s)), (16, .int (Int32.ofInt 0)), (15, .int (Int32.ofInt 0)), (14, .int (Int32.ofInt best)), (9, .double (zMf A (A 0).toNat 0 0)), (5, .int (Int32.ofInt (zSm 8 (A 0).toNat 0 0 A))), (4, .int (Int32.ofInt (zSm 1 (A 0).toNat 0 0 A))), (13, .ref 3002), (12, .ref 3001), (11, .ref 3000), (8, .int (Int32.ofInt bg)), (7, .int (Int32.ofInt sp)), (6, .int (Int32.ofInt (A 2))), (3, .int (Int32.ofInt (A 0))), (2, .int (Int32.ofInt tu)), (1, .ref 0), (0, .ref 2000)] [] (t, 142, mz T) := by
  have h5 := zI_5 hI
  have hp := zp2_bd h5.1 h5.2.1
  have hs := bz_shl h5.1 h5.2.1
  intro n
  induction n with
  | zero =>
    intro s best se0 hn b0 b1 hz
    rw [zMx] at hz
    have hj : s = zp2 (A 0) := by omega
    rw [← hz, ← hj] at k9
    rw [← hj] at hs
    refine (mo_go hG hlt (d := 20) (by omega) (by dsimp only; omega) mo_s_691_772 ?_).2
    simp (disch := omega) only [mo_Ev_stop (S := mo_s_691_772) (pc := 691) rfl, mo_Ev_stop (S := mo_s_691_772) (pc := 772) rfl, mo_Ev_row (S := mo_s_691_772) rfl r_L_law_674, mo_Ev_row (S := mo_s_691_772) rfl r_L_law_676, mo_Ev_row (S := mo_s_691_772) rfl r_L_law_677, mo_Ev_row (S := mo_s_691_772) rfl r_L_law_678, mo_Ev_row (S := mo_s_691_772) rfl r_L_law_679, ea_iload, ea_iconst, ea_iload_n, ea_ishl, ea_icmp, cz_eq, cz_ne, cz_lt, cz_ge, cz_gt, cz_le, mv_ac, decide_eq_true_eq, not_true_eq_false, and_self, and_true, true_and, oa_2n, oa_2f, oa_2c, oa_if, if_pos, if_neg, mv_lk, mv_f1, mv_f2, Value.category, List.filter, ↓reduceIte, Nat.reduceEqDiff, Nat.reduceAdd, Nat.reduceLT, Nat.reduceBEq, Nat.zero_add, Nat.add_zero, Nat.zero_ne_one, Nat.one_ne_zero, Bool.not_true, Bool.not_false, Bool.and_true, Bool.true_and, Bool.and_false, Bool.false_and, BEq.rfl, beq_self_eq_true, Bool.false_eq_true, reduceCtorEq, not_false_eq_true, fv0, fv1, fv2, fv3, eb_l0, eb_l1, eb_l2, eb_l3, eb_l4, eb_l5, eb_s0, eb_s1, eb_s2, eb_s3, eb_s4, eb_s5, oz_add, oz_sub, oz_mul, oz_neg, ol_add, ol_sub, sD_eq, sD_sD, sD_ne, sD_in, sD_in2, sD_in3, upR_is, upR_ne, ok_v, ok_n, ok_i, mv_cs, Nat.reduceLeDiff, mv_ch_z, hs, ge_iff_le]
    exact ⟨mo_bdt (by omega), k9⟩
  | succ n ih =>
    intro s best se0 hn b0 b1 hz
    rw [zMx] at hz
    have hc : 0 ≤ (zCst (zX A sp.toNat) s (A 0).toNat) ∧ (zCst (zX A sp.toNat) s (A 0).toNat) ≤ 30000 := by
      have := zSf_bd (f := (fun k => if zbt s k = 1 then zX A sp.toNat k else 0)) (M := 6000) (A 0).toNat 0 0 (fun j a b => by
        have := zX_bd (zI_wf hI) sp.toNat a (by omega : j < A 0)
        show 0 ≤ (if zbt s j = 1 then zX A sp.toNat j else 0) ∧ (if zbt s j = 1 then zX A sp.toNat j else 0) ≤ 6000
        split <;> omega)
      unfold zCst
      omega
    have hv : 0 ≤ (zWth (zX A sp.toNat) (fun k => A (6 + 9 * k + 3)) s (A 0).toNat) ∧ (zWth (zX A sp.toNat) (fun k => A (6 + 9 * k + 3)) s (A 0).toNat) ≤ 495 := by
      have := zSf_bd (f := (fun k => if zbt s k = 1 ∧ 0 < zX A sp.toNat k then A (6 + 9 * k + 3) else 0)) (M := 99) (A 0).toNat 0 0 (fun j a b => by
        have := zI_ok hI a (by omega : j < A 0)
        unfold zOK at this
        show 0 ≤ (if zbt s j = 1 ∧ 0 < zX A sp.toNat j then A (6 + 9 * j + 3) else 0) ∧ (if zbt s j = 1 ∧ 0 < zX A sp.toNat j then A (6 + 9 * j + 3) else 0) ≤ 99
        split <;> omega)
      rw [show (zWth (zX A sp.toNat) (fun k => A (6 + 9 * k + 3)) s (A 0).toNat) = zSf (fun k => if zbt s k = 1 ∧ 0 < zX A sp.toNat k then A (6 + 9 * k + 3) else 0) (A 0).toNat 0 0 from rfl]
      omega
    refine (mo_go hG hlt (d := 20) (by omega) (by dsimp only; omega) mo_s_691_772 ?_).2
    simp (disch := omega) only [mo_Ev_stop (S := mo_s_691_772) (pc := 691) rfl, mo_Ev_stop (S := mo_s_691_772) (pc := 772) rfl, mo_Ev_row (S := mo_s_691_772) rfl r_L_law_674, mo_Ev_row (S := mo_s_691_772) rfl r_L_law_676, mo_Ev_row (S := mo_s_691_772) rfl r_L_law_677, mo_Ev_row (S := mo_s_691_772) rfl r_L_law_678, mo_Ev_row (S := mo_s_691_772) rfl r_L_law_679, mo_Ev_row (S := mo_s_691_772) rfl r_L_law_682, mo_Ev_row (S := mo_s_691_772) rfl r_L_law_683, mo_Ev_row (S := mo_s_691_772) rfl r_L_law_685, mo_Ev_row (S := mo_s_691_772) rfl r_L_law_686, mo_Ev_row (S := mo_s_691_772) rfl r_L_law_688, mo_Ev_row (S := mo_s_691_772) rfl r_L_law_689, ea_iload, ea_iconst, ea_iload_n, ea_ishl, ea_icmp, ea_istore, cz_eq, cz_ne, cz_lt, cz_ge, cz_gt, cz_le, mv_ac, decide_eq_true_eq, not_true_eq_false, and_self, and_true, true_and, oa_2n, oa_2f, oa_2c, oa_if, if_pos, if_neg, mv_lk, mv_f1, mv_f2, Value.category, List.filter, ↓reduceIte, Nat.reduceEqDiff, Nat.reduceAdd, Nat.reduceLT, Nat.reduceBEq, Nat.zero_add, Nat.add_zero, Nat.zero_ne_one, Nat.one_ne_zero, Bool.not_true, Bool.not_false, Bool.and_true, Bool.true_and, Bool.and_false, Bool.false_and, BEq.rfl, beq_self_eq_true, Bool.false_eq_true, reduceCtorEq, not_false_eq_true, fv0, fv1, fv2, fv3, eb_l0, eb_l1, eb_l2, eb_l3, eb_l4, eb_l5, eb_s0, eb_s1, eb_s2, eb_s3, eb_s4, eb_s5, oz_add, oz_sub, oz_mul, oz_neg, ol_add, ol_sub, sD_eq, sD_sD, sD_ne, sD_in, sD_in2, sD_in3, upR_is, upR_ne, ok_v, ok_n, ok_i, mv_cs, Nat.reduceLeDiff, mv_ch_z, hs, ge_iff_le]
    refine ⟨mo_bdt (by omega), ?_⟩
    refine lw_in hG hlt hI ht hw hF sp0 sp1 se0 (by omega) ?_ (A 0).toNat 0 0 0 (by omega) (by omega) rfl rfl
    generalize (zCst (zX A sp.toNat) s (A 0).toNat) = cs at hc hz ⊢
    generalize (zWth (zX A sp.toNat) (fun k => A (6 + 9 * k + 3)) s (A 0).toNat) = wt at hv hz ⊢
    by_cases q : cs ≤ bg
    · have e9 : (if cs ≤ bg ∧ best < wt then wt else best) = max best wt := by
        by_cases q2 : best < wt
        · rw [if_pos ⟨q, q2⟩]; omega
        · rw [if_neg (fun h => q2 h.2)]; omega
      rw [e9] at hz
      have k8 := ih (s + 1) (max best wt) (by omega) (by omega) (by omega) (by omega) hz
      refine (mo_go hG hlt (d := 20) (by omega) (by dsimp only; omega) mo_s_674 ?_).2
      simp (disch := omega) only [mo_Ev_stop (S := mo_s_674) (pc := 674) rfl, mo_Ev_row (S := mo_s_674) rfl r_L_law_745, mo_Ev_row (S := mo_s_674) rfl r_L_law_747, mo_Ev_row (S := mo_s_674) rfl r_L_law_749, mo_Ev_row (S := mo_s_674) rfl r_L_law_752, mo_Ev_row (S := mo_s_674) rfl r_L_law_754, mo_Ev_row (S := mo_s_674) rfl r_L_law_756, mo_Ev_row (S := mo_s_674) rfl r_L_law_759, mo_Ev_row (S := mo_s_674) rfl r_L_law_762, mo_Ev_row (S := mo_s_674) rfl r_L_law_764, mo_Ev_row (S := mo_s_674) rfl r_L_law_766, mo_Ev_row (S := mo_s_674) rfl r_L_law_769, ea_iload, ea_icmp, ez_max, ea_goto, ea_istore, ea_iinc, eb_inc, cz_eq, cz_ne, cz_lt, cz_ge, cz_gt, cz_le, mv_ac, decide_eq_true_eq, not_true_eq_false, and_self, and_true, true_and, oa_2n, oa_2f, oa_2c, oa_if, if_pos, if_neg, mv_lk, mv_f1, mv_f2, Value.category, List.filter, ↓reduceIte, Nat.reduceEqDiff, Nat.reduceAdd, Nat.reduceLT, Nat.reduceBEq, Nat.zero_add, Nat.add_zero, Nat.zero_ne_one, Nat.one_ne_zero, Bool.not_true, Bool.not_false, Bool.and_true, Bool.true_and, Bool.and_false, Bool.false_and, BEq.rfl, beq_self_eq_true, Bool.false_eq_true, reduceCtorEq, not_false_eq_true, fv0, fv1, fv2, fv3, eb_l0, eb_l1, eb_l2, eb_l3, eb_l4, eb_l5, eb_s0, eb_s1, eb_s2, eb_s3, eb_s4, eb_s5, oz_add, oz_sub, oz_mul, oz_neg, ol_add, ol_sub, sD_eq, sD_sD, sD_ne, sD_in, sD_in2, sD_in3, upR_is, upR_ne, ok_v, ok_n, ok_i, mv_cs, Nat.reduceLeDiff, mv_ch_z, ge_iff_le, gt_iff_lt]
      exact ⟨mo_bdt (by omega), mo_pm (mo_pc rfl (mo_pc rfl (mo_pc rfl (mo_pc rfl (mo_pc rfl (mo_pc rfl (mo_pc rfl (mo_pc rfl (mo_pc rfl (mo_pc rfl (mo_pc rfl (mo_pc rfl (mo_pc rfl (mo_pc rfl (mo_pc rfl (mo_pc rfl (mo_pc rfl (mo_p0)))))))))))))))))) k8⟩
    · rw [if_neg (fun h => q h.1)] at hz
      have k8 := ih (s + 1) best (by omega) (by omega) (by omega) (by omega) hz
      refine (mo_go hG hlt (d := 20) (by omega) (by dsimp only; omega) mo_s_674 ?_).2
      simp (disch := omega) only [mo_Ev_stop (S := mo_s_674) (pc := 674) rfl, mo_Ev_row (S := mo_s_674) rfl r_L_law_745, mo_Ev_row (S := mo_s_674) rfl r_L_law_747, mo_Ev_row (S := mo_s_674) rfl r_L_law_749, mo_Ev_row (S := mo_s_674) rfl r_L_law_762, mo_Ev_row (S := mo_s_674) rfl r_L_law_764, mo_Ev_row (S := mo_s_674) rfl r_L_law_766, mo_Ev_row (S := mo_s_674) rfl r_L_law_769, ea_iload, ea_icmp, ea_istore, ea_iinc, eb_inc, ea_goto, cz_eq, cz_ne, cz_lt, cz_ge, cz_gt, cz_le, mv_ac, decide_eq_true_eq, not_true_eq_false, and_self, and_true, true_and, oa_2n, oa_2f, oa_2c, oa_if, if_pos, if_neg, mv_lk, mv_f1, mv_f2, Value.category, List.filter, ↓reduceIte, Nat.reduceEqDiff, Nat.reduceAdd, Nat.reduceLT, Nat.reduceBEq, Nat.zero_add, Nat.add_zero, Nat.zero_ne_one, Nat.one_ne_zero, Bool.not_true, Bool.not_false, Bool.and_true, Bool.true_and, Bool.and_false, Bool.false_and, BEq.rfl, beq_self_eq_true, Bool.false_eq_true, reduceCtorEq, not_false_eq_true, fv0, fv1, fv2, fv3, eb_l0, eb_l1, eb_l2, eb_l3, eb_l4, eb_l5, eb_s0, eb_s1, eb_s2, eb_s3, eb_s4, eb_s5, oz_add, oz_sub, oz_mul, oz_neg, ol_add, ol_sub, sD_eq, sD_sD, sD_ne, sD_in, sD_in2, sD_in3, upR_is, upR_ne, ok_v, ok_n, ok_i, mv_cs, Nat.reduceLeDiff, mv_ch_z, ge_iff_le, gt_iff_lt]
      exact ⟨mo_bdt (by omega), mo_pm (mo_pc rfl (mo_pc rfl (mo_pc rfl (mo_pc rfl (mo_pc rfl (mo_pc rfl (mo_pc rfl (mo_pc rfl (mo_pc rfl (mo_pc rfl (mo_pc rfl (mo_pc rfl (mo_pc rfl (mo_pc rfl (mo_pc rfl (mo_pc rfl (mo_pc rfl (mo_p0)))))))))))))))))) k8⟩
theorem lw_sums {tu sp bg : Int} (hG : mo_G z kad0 dC dI cA L xs p s0 m args meth c D cB d1 d2 ka kv) (hlt : l.stackTraces = false) (hI : zI T M A) (ht : t ≤ 900) (hw : w ≤ 1400) (hF : zFb A sp F (A 2)) (sp0 : 0 ≤ sp) (sp1 : sp ≤ 30) (k9 : mo_W z kad0 dC dI cA p l e s0 m args below meth c D cB (3, w, F) 815 [(17, .int (Int32.ofInt (A 0))), (16, .int (Int32.ofInt (zSf (fun k => if 0 < zX A sp.toNat k then 1 else 0) (A 0).toNat 0 0))), (15, .int (Int32.ofInt (zSf (zX A sp.toNat) (A 0).toNat 0 0))), (14, .int (Int32.ofInt (zMx (zX A sp.toNat) (fun k => A (6 + 9 * k + 3)) bg (A 0).toNat (zp2 (A 0)).toNat 0 0))), (9, .double (zMf A (A 0).toNat 0 0)), (5, .int (Int32.ofInt (zSm 8 (A 0).toNat 0 0 A))), (4, .int (Int32.ofInt (zSm 1 (A 0).toNat 0 0 A))), (13, .ref 3002), (12, .ref 3001), (11, .ref 3000), (8, .int (Int32.ofInt bg)), (7, .int (Int32.ofInt sp)), (6, .int (Int32.ofInt (A 2))), (3, .int (Int32.ofInt (A 0))), (2, .int (Int32.ofInt tu)), (1, .ref 0), (0, .ref 2000)] [] (t, 142, mz T)) : ∀ (n : Nat) (k many al : Int), 0 ≤ k → k + n = A 0 → zSf (zX A sp.toNat) n k al = (zSf (zX A sp.toNat) (A 0).toNat 0 0) → zSf (fun k => if 0 < zX A sp.toNat k then 1 else 0) n k many = (zSf (fun k => if 0 < zX A sp.toNat k then 1 else 0) (A 0).toNat 0 0) → mo_W z kad0 dC dI cA p l e s0 m args below meth c D cB (3, w, F) 775 [(17, .int (Int32.ofInt k)), (16, .int (Int32.ofInt many)), (15, .int (Int32.ofInt al)), (14, .int (Int32.ofInt (zMx (zX A sp.toNat) (fun k => A (6 + 9 * k + 3)) bg (A 0).toNat (zp2 (A 0)).toNat 0 0))), (9, .double (zMf A (A 0).toNat 0 0)), (5, .int (Int32.ofInt (zSm 8 (A 0).toNat 0 0 A))), (4, .int (Int32.ofInt (zSm 1 (A 0).toNat 0 0 A))), (13, .ref 3002), (12, .ref 3001), (11, .ref 3000), (8, .int (Int32.ofInt bg)), (7, .int (Int32.ofInt sp)), (6, .int (Int32.ofInt (A 2))), (3, .int (Int32.ofInt (A 0))), (2, .int (Int32.ofInt tu)), (1, .ref 0), (0, .ref 2000)] [] (t, 142, mz T) := by
  have h5 := zI_5 hI
  obtain ⟨f0, f1, g, f2, f3⟩ := hF
  intro n
  induction n with
  | zero =>
    intro k many al k0 hn za zm
    rw [zSf] at za zm
    have hj : k = A 0 := by omega
    subst hj
    rw [← za, ← zm] at k9
    refine (mo_go hG hlt (d := 20) (by omega) (by dsimp only; omega) mo_s_815 ?_).2
    simp (disch := omega) only [mo_Ev_stop (S := mo_s_815) (pc := 815) rfl, mo_Ev_row (S := mo_s_815) rfl r_L_law_775, mo_Ev_row (S := mo_s_815) rfl r_L_law_777, mo_Ev_row (S := mo_s_815) rfl r_L_law_778, ea_iload, ea_iload_n, ea_icmp, cz_eq, cz_ne, cz_lt, cz_ge, cz_gt, cz_le, mv_ac, decide_eq_true_eq, not_true_eq_false, and_self, and_true, true_and, oa_2n, oa_2f, oa_2c, oa_if, if_pos, if_neg, mv_lk, mv_f1, mv_f2, Value.category, List.filter, ↓reduceIte, Nat.reduceEqDiff, Nat.reduceAdd, Nat.reduceLT, Nat.reduceBEq, Nat.zero_add, Nat.add_zero, Nat.zero_ne_one, Nat.one_ne_zero, Bool.not_true, Bool.not_false, Bool.and_true, Bool.true_and, Bool.and_false, Bool.false_and, BEq.rfl, beq_self_eq_true, Bool.false_eq_true, reduceCtorEq, not_false_eq_true, fv0, fv1, fv2, fv3, eb_l0, eb_l1, eb_l2, eb_l3, eb_l4, eb_l5, eb_s0, eb_s1, eb_s2, eb_s3, eb_s4, eb_s5, oz_add, oz_sub, oz_mul, oz_neg, ol_add, ol_sub, sD_eq, sD_sD, sD_ne, sD_in, sD_in2, sD_in3, upR_is, upR_ne, ok_v, ok_n, ok_i, mv_cs, Nat.reduceLeDiff, mv_ch_z, ge_iff_le]
    exact ⟨mo_bdt (by omega), k9⟩
  | succ n ih =>
    intro k many al k0 hn za zm
    have k1 : k < A 0 := by omega
    rw [zSf] at za zm
    have hx := zX_bd (zI_wf hI) sp.toNat k0 k1
    have hg := f3 k k0 k1
    have k8 := ih (k + 1) _ _ (by omega) (by omega) za zm
    refine (mo_go hG hlt (d := 20) (by omega) (by dsimp only; omega) mo_s_787_815 ?_).2
    simp (disch := omega) only [mo_Ev_stop (S := mo_s_787_815) (pc := 787) rfl, mo_Ev_stop (S := mo_s_787_815) (pc := 815) rfl, mo_Ev_row (S := mo_s_787_815) rfl r_L_law_775, mo_Ev_row (S := mo_s_787_815) rfl r_L_law_777, mo_Ev_row (S := mo_s_787_815) rfl r_L_law_778, mo_Ev_row (S := mo_s_787_815) rfl r_L_law_781, mo_Ev_row (S := mo_s_787_815) rfl r_L_law_783, mo_Ev_row (S := mo_s_787_815) rfl r_L_law_785, ea_iload, ea_iload_n, ea_icmp, ea_aload, cz_eq, cz_ne, cz_lt, cz_ge, cz_gt, cz_le, mv_ac, decide_eq_true_eq, not_true_eq_false, and_self, and_true, true_and, oa_2n, oa_2f, oa_2c, oa_if, if_pos, if_neg, mv_lk, mv_f1, mv_f2, Value.category, List.filter, ↓reduceIte, Nat.reduceEqDiff, Nat.reduceAdd, Nat.reduceLT, Nat.reduceBEq, Nat.zero_add, Nat.add_zero, Nat.zero_ne_one, Nat.one_ne_zero, Bool.not_true, Bool.not_false, Bool.and_true, Bool.true_and, Bool.and_false, Bool.false_and, BEq.rfl, beq_self_eq_true, Bool.false_eq_true, reduceCtorEq, not_false_eq_true, fv0, fv1, fv2, fv3, eb_l0, eb_l1, eb_l2, eb_l3, eb_l4, eb_l5, eb_s0, eb_s1, eb_s2, eb_s3, eb_s4, eb_s5, oz_add, oz_sub, oz_mul, oz_neg, ol_add, ol_sub, sD_eq, sD_sD, sD_ne, sD_in, sD_in2, sD_in3, upR_is, upR_ne, ok_v, ok_n, ok_i, mv_cs, Nat.reduceLeDiff, mv_ch_z, ge_iff_le]
    refine ⟨mo_bdt (by omega), ?_⟩
    refine mo_ial (τ := (3, w, F)) hG r_L_law_787 (ib := 2) (n := (A 0).toNat) (g := g) (show 2 < 3 by decide) f2 (nZ_in k0 (by omega) (by omega)) ?_
    rw [nZ_at k0 (by omega), hg]
    refine (mo_go hG hlt (d := 20) (by omega) (by dsimp only; omega) mo_s_797 ?_).2
    simp (disch := omega) only [mo_Ev_stop (S := mo_s_797) (pc := 797) rfl, mo_Ev_row (S := mo_s_797) rfl r_L_law_788, mo_Ev_row (S := mo_s_797) rfl r_L_law_789, mo_Ev_row (S := mo_s_797) rfl r_L_law_791, mo_Ev_row (S := mo_s_797) rfl r_L_law_793, mo_Ev_row (S := mo_s_797) rfl r_L_law_795, ea_iadd, ea_istore, ea_iload, ea_aload, mv_ac, decide_eq_true_eq, not_true_eq_false, and_self, and_true, true_and, oa_2n, oa_2f, oa_2c, oa_if, if_pos, if_neg, mv_lk, mv_f1, mv_f2, Value.category, List.filter, ↓reduceIte, Nat.reduceEqDiff, Nat.reduceAdd, Nat.reduceLT, Nat.reduceBEq, Nat.zero_add, Nat.add_zero, Nat.zero_ne_one, Nat.one_ne_zero, Bool.not_true, Bool.not_false, Bool.and_true, Bool.true_and, Bool.and_false, Bool.false_and, BEq.rfl, beq_self_eq_true, Bool.false_eq_true, reduceCtorEq, not_false_eq_true, fv0, fv1, fv2, fv3, eb_l0, eb_l1, eb_l2, eb_l3, eb_l4, eb_l5, eb_s0, eb_s1, eb_s2, eb_s3, eb_s4, eb_s5, oz_add, oz_sub, oz_mul, oz_neg, ol_add, ol_sub, sD_eq, sD_sD, sD_ne, sD_in, sD_in2, sD_in3, upR_is, upR_ne, ok_v, ok_n, ok_i, mv_cs, Nat.reduceLeDiff, mv_ch_z]
    refine ⟨mo_bdt (by omega), ?_⟩
    refine mo_ial (τ := (3, w, F)) hG r_L_law_797 (ib := 2) (n := (A 0).toNat) (g := g) (show 2 < 3 by decide) f2 (nZ_in k0 (by omega) (by omega)) ?_
    rw [nZ_at k0 (by omega), hg]
    by_cases q : 0 < zX A sp.toNat k
    · rw [if_pos q] at k8
      refine (mo_go hG hlt (d := 20) (by omega) (by dsimp only; omega) mo_s_775 ?_).2
      simp (disch := omega) only [mo_Ev_stop (S := mo_s_775) (pc := 775) rfl, mo_Ev_row (S := mo_s_775) rfl r_L_law_798, mo_Ev_row (S := mo_s_775) rfl r_L_law_801, mo_Ev_row (S := mo_s_775) rfl r_L_law_802, mo_Ev_row (S := mo_s_775) rfl r_L_law_805, mo_Ev_row (S := mo_s_775) rfl r_L_law_806, mo_Ev_row (S := mo_s_775) rfl r_L_law_807, mo_Ev_row (S := mo_s_775) rfl r_L_law_809, mo_Ev_row (S := mo_s_775) rfl r_L_law_812, ea_ifc, ea_iconst, ea_goto, ea_iadd, ea_istore, ea_iinc, eb_inc, c0_eq, c0_ne, c0_lt, c0_ge, c0_gt, c0_le, mv_ac, decide_eq_true_eq, not_true_eq_false, and_self, and_true, true_and, oa_2n, oa_2f, oa_2c, oa_if, if_pos, if_neg, mv_lk, mv_f1, mv_f2, Value.category, List.filter, ↓reduceIte, Nat.reduceEqDiff, Nat.reduceAdd, Nat.reduceLT, Nat.reduceBEq, Nat.zero_add, Nat.add_zero, Nat.zero_ne_one, Nat.one_ne_zero, Bool.not_true, Bool.not_false, Bool.and_true, Bool.true_and, Bool.and_false, Bool.false_and, BEq.rfl, beq_self_eq_true, Bool.false_eq_true, reduceCtorEq, not_false_eq_true, fv0, fv1, fv2, fv3, eb_l0, eb_l1, eb_l2, eb_l3, eb_l4, eb_l5, eb_s0, eb_s1, eb_s2, eb_s3, eb_s4, eb_s5, oz_add, oz_sub, oz_mul, oz_neg, ol_add, ol_sub, sD_eq, sD_sD, sD_ne, sD_in, sD_in2, sD_in3, upR_is, upR_ne, ok_v, ok_n, ok_i, mv_cs, Nat.reduceLeDiff, mv_ch_z, ge_iff_le, gt_iff_lt]
      exact ⟨mo_bdt (by omega), k8⟩
    · rw [if_neg q] at k8
      refine (mo_go hG hlt (d := 20) (by omega) (by dsimp only; omega) mo_s_775 ?_).2
      simp (disch := omega) only [mo_Ev_stop (S := mo_s_775) (pc := 775) rfl, mo_Ev_row (S := mo_s_775) rfl r_L_law_798, mo_Ev_row (S := mo_s_775) rfl r_L_law_801, mo_Ev_row (S := mo_s_775) rfl r_L_law_802, mo_Ev_row (S := mo_s_775) rfl r_L_law_805, mo_Ev_row (S := mo_s_775) rfl r_L_law_806, mo_Ev_row (S := mo_s_775) rfl r_L_law_807, mo_Ev_row (S := mo_s_775) rfl r_L_law_809, mo_Ev_row (S := mo_s_775) rfl r_L_law_812, ea_ifc, ea_iconst, ea_goto, ea_iadd, ea_istore, ea_iinc, eb_inc, c0_eq, c0_ne, c0_lt, c0_ge, c0_gt, c0_le, mv_ac, decide_eq_true_eq, not_true_eq_false, and_self, and_true, true_and, oa_2n, oa_2f, oa_2c, oa_if, if_pos, if_neg, mv_lk, mv_f1, mv_f2, Value.category, List.filter, ↓reduceIte, Nat.reduceEqDiff, Nat.reduceAdd, Nat.reduceLT, Nat.reduceBEq, Nat.zero_add, Nat.add_zero, Nat.zero_ne_one, Nat.one_ne_zero, Bool.not_true, Bool.not_false, Bool.and_true, Bool.true_and, Bool.and_false, Bool.false_and, BEq.rfl, beq_self_eq_true, Bool.false_eq_true, reduceCtorEq, not_false_eq_true, fv0, fv1, fv2, fv3, eb_l0, eb_l1, eb_l2, eb_l3, eb_l4, eb_l5, eb_s0, eb_s1, eb_s2, eb_s3, eb_s4, eb_s5, oz_add, oz_sub, oz_mul, oz_neg, ol_add, ol_sub, sD_eq, sD_sD, sD_ne, sD_in, sD_in2, sD_in3, upR_is, upR_ne, ok_v, ok_n, ok_i, mv_cs, Nat.reduceLeDiff, mv_ch_z, ge_iff_le, gt_iff_lt]
      exact ⟨mo_bdt (by omega), k8⟩
end LWH
