/-! THE LAW RUNS: all basins -/
def mo_s_524 : Nat → Bool := fun pc => Nat.beq pc 524
section LWE
variable {z : Nat} {kad0 : Nat → Nat} {dC : Nat → ClassId} {dI : Nat → Nat → Nat} {cA : Nat → ClassId} {L : Nat} {xs : Nat → Int32}
variable {p : Program} {l : Launch} {e : Env} {R : Room} {s0 : State} {m : MethodId} {args : Array Value} {below : List Frame} {meth : Method} {c : Code} {D : va_G} {cB : ClassId} {d1 d2 : Nat} {ka kv : Nat → Nat}
variable {t u w : Nat} {F : Nat → mo_T} {T : zT} {A : Int → Int} {M : Int}
/-- what the things are when the basins are told -/
def zFa (A : Int → Int) (sp : Int) (F : Nat → mo_T) (k : Int) : Prop := F 0 = .inl (zTc3 A k.toNat) ∧ F 1 = .inl [] ∧ ∃ g, F 2 = .inr (.inr (.inl ((A 0).toNat, g))) ∧ (∀ j : Int, 0 ≤ j → j < k → g j.toNat = Int32.ofInt (zX A sp.toNat j))
theorem lw_basins {tu sp bg : Int} (hG : mo_G z kad0 dC dI cA L xs p s0 m args meth c D cB d1 d2 ka kv) (hlt : l.stackTraces = false) (hM : M ≤ 1000000) (sp0 : 0 ≤ sp) (sp1 : sp ≤ 30) : ∀ (n : Nat) (k sd fl : Int) (fi : UInt64) (t w : Nat) (F : Nat → mo_T) (T : zT), zI T M A → 0 ≤ k → k + n = A 0 → t + n ≤ 900 → w + 31 * n ≤ 1300 → zSm 1 n k sd A = (zSm 1 (A 0).toNat 0 0 A) → zSm 8 n k fl A = (zSm 8 (A 0).toNat 0 0 A) → zMf A n k fi = (zMf A (A 0).toNat 0 0) → Jvm.FP.Core.dIsNaN fi = false → zFa A sp F k → (∀ (t' : Nat) (T1 : zT) (F1 : Nat → mo_T), t ≤ t' → t' ≤ t + n → zI T1 M A → zFa A sp F1 (A 0) → Jvm.FP.Core.dIsNaN (zMf A (A 0).toNat 0 0) = false → mo_W z kad0 dC dI cA p l e s0 m args below meth c D cB (3, w + 31 * n, F1) 524 [(14, .int (Int32.ofInt (A 0))), (9, .double (zMf A (A 0).toNat 0 0)), (5, .int (Int32.ofInt (zSm 8 (A 0).toNat 0 0 A))), (4, .int (Int32.ofInt (zSm 1 (A 0).toNat 0 0 A))), (13, .ref 3002), (12, .ref 3001), (11, .ref 3000), (8, .int (Int32.ofInt bg)), (7, .int (Int32.ofInt sp)), (6, .int (Int32.ofInt (A 2))), (3, .int (Int32.ofInt (A 0))), (2, .int (Int32.ofInt tu)), (1, .ref 0), (0, .ref 2000)] [] (t', 142, mz T1)) → mo_W z kad0 dC dI cA p l e s0 m args below meth c D cB (3, w, F) 82 [(14, .int (Int32.ofInt k)), (9, .double fi), (5, .int (Int32.ofInt fl)), (4, .int (Int32.ofInt sd)), (13, .ref 3002), (12, .ref 3001), (11, .ref 3000), (8, .int (Int32.ofInt bg)), (7, .int (Int32.ofInt sp)), (6, .int (Int32.ofInt (A 2))), (3, .int (Int32.ofInt (A 0))), (2, .int (Int32.ofInt tu)), (1, .ref 0), (0, .ref 2000)] [] (t, 142, mz T) := by
  intro n
  induction n with
  | zero =>
    intro k sd fl fi t w F T hI k0 hn ht hw z1 z8 zf hfi hF k9
    have h5 := zI_5 hI
    rw [zSm] at z1 z8
    rw [zMf] at zf
    have hj : k = A 0 := by omega
    subst hj
    subst z1
    subst z8
    rw [zf] at hfi
    have k8 := k9 t T F (Nat.le_refl _) (Nat.le_refl _) hI hF hfi
    rw [← zf] at k8
    refine (mo_go hG hlt (d := 20) (by omega) (by dsimp only; omega) mo_s_524 ?_).2
    simp (disch := omega) only [mo_Ev_stop (S := mo_s_524) (pc := 524) rfl, mo_Ev_row (S := mo_s_524) rfl r_L_law_82, mo_Ev_row (S := mo_s_524) rfl r_L_law_84, mo_Ev_row (S := mo_s_524) rfl r_L_law_85, ea_iload, ea_iload_n, ea_icmp, cz_eq, cz_ne, cz_lt, cz_ge, cz_gt, cz_le, mv_ac, decide_eq_true_eq, not_true_eq_false, and_self, and_true, true_and, oa_2n, oa_2f, oa_2c, oa_if, if_pos, if_neg, mv_lk, mv_f1, mv_f2, Value.category, List.filter, ↓reduceIte, Nat.reduceEqDiff, Nat.reduceAdd, Nat.reduceLT, Nat.reduceBEq, Nat.zero_add, Nat.add_zero, Nat.zero_ne_one, Nat.one_ne_zero, Bool.not_true, Bool.not_false, Bool.and_true, Bool.true_and, Bool.and_false, Bool.false_and, BEq.rfl, beq_self_eq_true, Bool.false_eq_true, reduceCtorEq, not_false_eq_true, fv0, fv1, fv2, fv3, eb_l0, eb_l1, eb_l2, eb_l3, eb_l4, eb_l5, eb_s0, eb_s1, eb_s2, eb_s3, eb_s4, eb_s5, oz_add, oz_sub, oz_mul, oz_neg, ol_add, ol_sub, sD_eq, sD_sD, sD_ne, sD_in, sD_in2, sD_in3, upR_is, upR_ne, ok_v, ok_n, ok_i, mv_cs, Nat.reduceLeDiff, mv_ch_z, ge_iff_le]
    exact ⟨mo_bdt (by omega), k8⟩
  | succ n ih =>
    intro k sd fl fi t w F T hI k0 hn ht hw z1 z8 zf hfi hF k9
    have h5 := zI_5 hI
    rw [zSm] at z1 z8
    rw [zMf] at zf
    have k1 : k < A 0 := by omega
    have hl := (zTc3_ln (zI_wf hI) k.toNat (by omega)).1
    obtain ⟨f0, f1, g, f2, f3⟩ := hF
    refine lw_82 hG hlt hI hM k0 k1 (by omega) (by omega) hfi (fun bd t1 u1 u2 hbd hf2 => ?_)
    refine lw_225 hG hlt hI hM k0 k1 (by omega) (by omega) sp0 sp1 hbd f0 f1 f2 (by omega) (fun T1 F1 i1 y0 y1 y2 => ?_)
    refine lw_376 hG hlt i1 hM k0 k1 (by omega) (by omega) sp0 sp1 hbd (fun T2 i2 => ?_)
    have hn9 : 31 * (n + 1) = 31 * n + 31 := by omega
    refine ih (k + 1) _ _ _ t1 (w + 31) F1 T2 i2 (by omega) (by omega) (by omega) (by omega) z1 z8 zf hf2 ⟨?_, y1, _, y2, fun j j0 j1 => ?_⟩ (fun t' T3 F3 v1 v2 i3 w1 w2 => ?_)
    · rw [y0, show (k + 1).toNat = k.toNat + 1 by omega, zTc3, Int.toNat_of_nonneg k0]
    · by_cases q : j = k
      · rw [q]
        exact upd_at
      · show (if j.toNat = k.toNat then _ else g j.toNat) = _
        rw [if_neg (by omega)]
        exact f3 j j0 (by omega)
    · have k8 := k9 t' T3 F3 (by omega) (by omega) i3 w1 w2
      rw [show w + 31 + 31 * n = w + 31 * (n + 1) by omega]
      exact k8
end LWE
