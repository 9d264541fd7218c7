/-! THE LAW RUNS, from its first row -/
section LWL
variable {z : Nat} {kad0 : Nat → Nat} {dC : Nat → ClassId} {dI : Nat → Nat → Nat} {cA : Nat → ClassId} {L : Nat} {xs : Nat → Int32}
variable {p : Program} {l : Launch} {e : Env} {R : Room} {s0 : State} {m : MethodId} {args : Array Value} {below : List Frame} {meth : Method} {c : Code} {D : va_G} {cB : ClassId} {d1 d2 : Nat} {ka kv : Nat → Nat}
variable {t u w : Nat} {F : Nat → mo_T} {T : zT} {A : Int → Int} {M : Int}
theorem zT0_at {o : Nat} (h : ¬ o = 0) (h2 : ¬ o = 142) (k : Int) : zT0.1 o k = 0 := by
  show (if (o = 0 ∨ o = 142) ∧ (k = 10 ∨ k = 11) then (-1 : Int) else 0) = 0
  rw [if_neg (fun q => by rcases q.1 with e | e; exact h e; exact h2 e)]
theorem zIn_0 {h : mv_H} (hh : ∀ p k, mo_rf 3000 (h p k)) : zIn (zT0.1, 5, 0, h) 0 := by
  have ho1 : ∀ k, zT0.1 o1 k = 0 := fun k => zT0_at (by decide) (by decide) k
  have h33 : ∀ k, zT0.1 33 k = 0 := fun k => zT0_at (by decide) (by decide) k
  refine ⟨?_, ?_, ?_, ?_, ?_, by show 5 < 2000; decide, hh⟩
  · unfold zWF
    show 0 ≤ zT0.1 o1 0 ∧ zT0.1 o1 0 ≤ 5 ∧ 0 ≤ zT0.1 o1 2 ∧ zT0.1 o1 2 ≤ 12 ∧ (∀ k, 0 ≤ k → k < zT0.1 o1 0 → zOK (zT0.1 o1) 99 k) ∧ ∀ j, 0 ≤ j → j < zT0.1 o1 2 → _
    rw [ho1 0, ho1 2]
    exact ⟨by omega, by omega, by omega, by omega, fun k a b => by omega, fun k a b => by omega⟩
  · unfold zCon
    show zT0.1 o1 4 + zT0.1 o1 5 - zT0.1 o1 3 - zS 7 (zT0.1 o1 0).toNat 0 (zT0.1 o1) = zS 1 (zT0.1 o1 0).toNat 0 (zT0.1 o1)
    rw [ho1 0, ho1 4, ho1 5, ho1 3]
    rfl
  · unfold zTb
    show 0 ≤ zT0.1 o1 1 ∧ zT0.1 o1 1 ≤ 0 ∧ 0 ≤ zT0.1 o1 3 ∧ zT0.1 o1 3 ≤ 20 * zT0.1 o1 1 ∧ ∀ k, 0 ≤ k → k < zT0.1 o1 0 → _
    rw [ho1 1, ho1 3, ho1 0]
    exact ⟨by omega, by omega, by omega, by omega, fun k a b => by omega⟩
  · intro k a b
    have b : k < zT0.1 o1 0 := b
    rw [ho1 0] at b
    omega
  · show 0 ≤ zT0.1 33 1 ∧ zT0.1 33 1 < 8 ∧ 0 ≤ zT0.1 33 2 ∧ zT0.1 33 2 ≤ 8
    rw [h33, h33]
    omega
theorem lw_0 (hG : mo_G z kad0 dC dI cA L xs p s0 m args meth c D cB d1 d2 ka kv) (hlt : l.stackTraces = false) (hL : L < 2147483648) : mo_W z kad0 dC dI cA p l e s0 m args below meth c D cB (0, 0, F) 0 [(0, .ref 2000)] [] (0, 0, fun _ _ => .null) := by
  obtain ⟨h1, e1, v1, -, s1⟩ := c_X10_init (L := L) (xs := xs) (d := 20) (by omega) 0 (fun _ _ => .null)
  rw [show (mv_kd 0).1 = 7 from rfl] at e1
  simp only [Nat.reduceAdd] at e1
  have hz : h1 = mz (zT0.1, 5, 0, h1) := by
    funext o k
    by_cases hz : zk o k = 4
    · unfold mz
      rw [if_neg (by omega), if_neg (by omega), if_neg (by omega), if_neg (by omega), if_pos hz]
    · have e9 : mz (zT0.1, 5, 0, h1) o k = mz zT0 o k := by
        unfold mz
        rw [if_neg (c := zk o k = 4) hz, if_neg (c := zk o k = 4) hz]
        rfl
      rw [e9]
      exact v1 o k (by omega) (zk_in hz).1 hz
  have hI := zIn_0 (s1 (fun _ _ => trivial))
  have h0 : (zT0.1, 5, 0, h1).1 o1 0 = 0 := zT0_at (o := o1) (by decide) (by decide) 0
  obtain ⟨t2, T2, u1, i2, n2, e2⟩ := c_L_build (L := L) (xs := xs) (d := 20) (by omega) hL (t := 0) hI h0
  rw [← hz] at e2
  have k8 := lw_turns (e := e) (below := below) hG hlt hL 3 0 t2 0 F T2 810 (by omega) (by omega) (by omega) (by omega) (by omega) i2 n2
  refine (mo_go hG hlt (d := 20) (by omega) (by dsimp only; omega) mo_s_15 ?_).2
  simp (disch := first | assumption | omega | rfl | decide) only [mo_Ev_stop (S := mo_s_15) (pc := 15) rfl, mo_Ev_row (S := mo_s_15) rfl r_L_law_0, mo_Ev_row (S := mo_s_15) rfl r_L_law_3, mo_Ev_row (S := mo_s_15) rfl r_L_law_4, mo_Ev_row (S := mo_s_15) rfl r_L_law_7, mo_Ev_row (S := mo_s_15) rfl r_L_law_8, mo_Ev_row (S := mo_s_15) rfl r_L_law_9, mo_Ev_row (S := mo_s_15) rfl r_L_law_10, mo_Ev_row (S := mo_s_15) rfl r_L_law_13, mo_Ev_row (S := mo_s_15) rfl r_L_law_14, ea_dup_i, ea_dup_r, ea_astore_n, ea_aload_n, kv_L_build, ea_iconst, ea_istore_n, mv_ac, decide_eq_true_eq, not_true_eq_false, and_self, and_true, true_and, oa_2n, oa_2f, oa_2c, oa_if, if_pos, if_neg, mv_lk, mv_f1, mv_f2, Value.category, List.filter, ↓reduceIte, Nat.reduceEqDiff, Nat.reduceAdd, Nat.reduceLT, Nat.reduceBEq, Nat.zero_add, Nat.add_zero, Nat.zero_ne_one, Nat.one_ne_zero, Bool.not_true, Bool.not_false, Bool.and_true, Bool.true_and, Bool.and_false, Bool.false_and, BEq.rfl, beq_self_eq_true, Bool.false_eq_true, reduceCtorEq, not_false_eq_true, fv0, fv1, fv2, fv3, eb_l0, eb_l1, eb_l2, eb_l3, eb_l4, eb_l5, eb_s0, eb_s1, eb_s2, eb_s3, eb_s4, eb_s5, oz_add, oz_sub, oz_mul, oz_neg, ol_add, ol_sub, sD_eq, sD_sD, sD_ne, sD_in, sD_in2, sD_in3, upR_is, upR_ne, ok_v, ok_n, ok_i, mv_cs, Nat.reduceLeDiff, mv_ch_z, ci_new, ck_X10_init, e1, e2]
  exact ⟨mo_bdt (by omega), k8⟩
end LWL
