/-! THE LAW RUNS: a basin's text and its spills -/
def mo_s_348 : Nat → Bool := fun pc => Nat.beq pc 348
def mo_s_375 : Nat → Bool := fun pc => Nat.beq pc 375
section LWC
variable {z : Nat} {kad0 : Nat → Nat} {dC : Nat → ClassId} {dI : Nat → Nat → Nat} {cA : Nat → ClassId} {L : Nat} {xs : Nat → Int32}
variable {p : Program} {l : Launch} {e : Env} {R : Room} {s0 : State} {m : MethodId} {args : Array Value} {below : List Frame} {meth : Method} {c : Code} {D : va_G} {cB : ClassId} {d1 d2 : Nat} {ka kv : Nat → Nat}
variable {t u w : Nat} {F : Nat → mo_T} {T : zT} {A : Int → Int} {M : Int}

theorem nI_z {x : Int} (h : 0 ≤ x) : nI x.toNat = Int32.ofInt x := by
  show Int32.ofInt (x.toNat : Int) = _
  rw [Int.toNat_of_nonneg h]
theorem nZ_in {x : Int} {N : Nat} (h0 : 0 ≤ x) (h1 : x < N) (h2 : N < 1000000) : vp_in (Int32.ofInt x) N := by
  rw [← nI_z h0]
  exact vp_in_nI (by omega) (by omega)
theorem nZ_at {x : Int} (h0 : 0 ≤ x) (h1 : x < 1000000) : (Int32.ofInt x).toNatClampNeg = x.toNat := oz_nc h0 (by omega)
theorem mo_pc {i : Nat} {v : Value} {ls ls' : mv_V} (hv : mv_lk i ls = some v) (h : ∀ q ∈ ls', mv_lk q.1 ls = some q.2) : ∀ q ∈ (i, v) :: ls', mv_lk q.1 ls = some q.2 := fun q hq => by
  rcases List.mem_cons.mp hq with e | e
  · rw [e]; exact hv
  · exact h q e
theorem mo_p0 {ls : mv_V} : ∀ q ∈ ([] : mv_V), mv_lk q.1 ls = some q.2 := fun q hq => by cases hq
/-- the locals in another order, or fewer -/
theorem mo_pm {pc : Nat} {ls ls' : mv_V} {st : List Value} {σ : mv_S} {τ : mo_S} (h : ∀ q ∈ ls', mv_lk q.1 ls = some q.2) (k : mo_W z kad0 dC dI cA p l e s0 m args below meth c D cB τ pc ls' st σ) : mo_W z kad0 dC dI cA p l e s0 m args below meth c D cB τ pc ls st σ := by
  intro kad sec s R lsA Q hk hB hM hX hl hR hQ
  refine k kad sec s R lsA Q hk hB hM hX ⟨hl.1, hl.2.1, fun q hq => ?_⟩ hR hQ
  obtain ⟨q0, m0, rfl⟩ := List.mem_map.mp hq
  exact hl.2.2 _ (List.mem_map.mpr ⟨q0, mv_lk_mem (h q0 m0), rfl⟩)
theorem mo_nl {n : Nat} : ∀ q ∈ ([] : mv_V), mo_rf n q.2 := fun q h => by cases h
theorem mo_nc {r i j : Nat} {v : Value} {ls : mv_V} (hv : i = j ∨ v ≠ .ref r) (h : ∀ q ∈ ls, q.1 ≠ j → q.2 ≠ .ref r) : ∀ q ∈ (i, v) :: ls, q.1 ≠ j → q.2 ≠ .ref r := fun q hq => by
  rcases List.mem_cons.mp hq with e | e
  · rw [e]
    intro h1 h2
    rcases hv with hv | hv
    · exact h1 hv
    · exact hv h2
  · exact h q e
theorem mo_nn {r j : Nat} : ∀ q ∈ ([] : mv_V), q.1 ≠ j → q.2 ≠ .ref r := fun q h => by cases h
theorem rf_ne {a b : Nat} (h : ¬ a = b) : Value.ref a ≠ .ref b := fun e => h (Value.ref.inj e)
theorem in_ne {x : Int32} {b : Nat} : Value.int x ≠ .ref b := fun e => by cases e
theorem db_ne {x : UInt64} {b : Nat} : Value.double x ≠ .ref b := fun e => by cases e
theorem lw_225 {tu sp bg k sd fl : Int} {fi : UInt64} {bd : Int} {x0 x1 : List Int} {g : Nat → Int32} (hG : mo_G z kad0 dC dI cA L xs p s0 m args meth c D cB d1 d2 ka kv) (hlt : l.stackTraces = false) (hI : zI T M A) (hM : M ≤ 1000000) (k0 : 0 ≤ k) (k1 : k < A 0) (ht : t ≤ 901) (hw : w ≤ 1300) (sp0 : 0 ≤ sp) (sp1 : sp ≤ 30) (hbd : (A (6 + 9 * k + 5) = 1 ∧ bd = A (6 + 9 * k + 6)) ∨ (A (6 + 9 * k + 5) = 0 ∧ bd = -30000)) (hF0 : F 0 = .inl x0) (hF1 : F 1 = .inl x1) (hF2 : F 2 = .inr (.inr (.inl ((A 0).toNat, g)))) (hx0 : x0.length ≤ 60) (k9 : ∀ (T1 : zT) (F1 : Nat → mo_T), zI T1 M A → F1 0 = .inl (x0 ++ zTb3 A k) → F1 1 = .inl x1 → F1 2 = .inr (.inr (.inl ((A 0).toNat, upd g k.toNat (Int32.ofInt (zX A sp.toNat k))))) → mo_W z kad0 dC dI cA p l e s0 m args below meth c D cB (3, w + 31, F1) 376 [(9, .double (FP.dadd fi (FP.ddiv (FP.i2d (Int32.ofInt (A (6 + 9 * k + 1)))) (FP.i2d (Int32.ofInt (A (6 + 9 * k + 0))))))), (5, .int (Int32.ofInt (fl + (A (6 + 9 * k + 8))))), (4, .int (Int32.ofInt (sd + (A (6 + 9 * k + 1))))), (18, .int (Int32.ofInt (A (6 + 9 * k + 4)))), (17, .int (Int32.ofInt bd)), (16, .int (Int32.ofInt (A (6 + 9 * k + 0)))), (15, .int (Int32.ofInt (A (6 + 9 * k + 1)))), (14, .int (Int32.ofInt k)), (13, .ref 3002), (12, .ref 3001), (11, .ref 3000), (8, .int (Int32.ofInt bg)), (7, .int (Int32.ofInt sp)), (6, .int (Int32.ofInt (A 2))), (3, .int (Int32.ofInt (A 0))), (2, .int (Int32.ofInt tu)), (1, .ref 0), (0, .ref 2000)] [.int (Int32.ofInt (zX A sp.toNat k))] (t, 142, mz T1)) : mo_W z kad0 dC dI cA p l e s0 m args below meth c D cB (3, w, F) 225 [(9, .double (FP.dadd fi (FP.ddiv (FP.i2d (Int32.ofInt (A (6 + 9 * k + 1)))) (FP.i2d (Int32.ofInt (A (6 + 9 * k + 0))))))), (5, .int (Int32.ofInt (fl + (A (6 + 9 * k + 8))))), (4, .int (Int32.ofInt (sd + (A (6 + 9 * k + 1))))), (18, .int (Int32.ofInt (A (6 + 9 * k + 4)))), (17, .int (Int32.ofInt bd)), (16, .int (Int32.ofInt (A (6 + 9 * k + 0)))), (15, .int (Int32.ofInt (A (6 + 9 * k + 1)))), (14, .int (Int32.ofInt k)), (13, .ref 3002), (12, .ref 3001), (11, .ref 3000), (8, .int (Int32.ofInt bg)), (7, .int (Int32.ofInt sp)), (6, .int (Int32.ofInt (A 2))), (3, .int (Int32.ofInt (A 0))), (2, .int (Int32.ofInt tu)), (1, .ref 0), (0, .ref 2000)] [] (t, 142, mz T) := by
  have hk := zI_ok hI k0 k1
  have h5 := zI_5 hI
  unfold zOK at hk
  have hsl : mv_cc (t, 142, mz T) ≤ 500000 ∧ mv_ss (t, 142, mz T) ≤ 5000000 := mo_bdt (by omega)
  have hi : ∀ x : Int, 0 ≤ x → (some (Value.int (Int32.ofInt x)) = some (.int (nI x.toNat))) := fun x hx => by rw [nI_z hx]
  refine mc_basin hG (zI_sm hI) hF0 hF1 hF2 ⟨hsl.1, hsl.2, by omega⟩ ?_ ?_ (by omega) (k := k) (lv := (A (6 + 9 * k + 1)).toNat) (rm := (A (6 + 9 * k + 0)).toNat) (op := (A (6 + 9 * k + 4)).toNat) (bd := Int32.ofInt bd) rfl rfl ⟨k0, by omega⟩ (hi _ (by omega)) (by omega) (hi _ (by omega)) (by omega) rfl ?_ (hi _ (by omega)) (by omega) ?_
  · repeat' (first | exact mo_nl | refine mo_cns ?_ ?_ | exact trivial | exact Nat.le_of_ble_eq_true rfl)
  · repeat' (first | exact mo_nn | refine mo_nc ?_ ?_ | exact .inl rfl | exact .inr in_ne | exact .inr db_ne | exact .inr (rf_ne (by decide)))
  · intro h
    rcases hbd with ⟨b1, b2⟩ | ⟨b1, b2⟩
    · exact ⟨bd.toNat, (nI_z (by omega)).symm, by omega⟩
    · exact absurd (by rw [b2]) h
  intro tl htl
  have etl : tl = zTl3 A k := by
    unfold zTl3
    rcases hbd with ⟨b1, b2⟩ | ⟨b1, b2⟩
    · have hne : ¬ Int32.ofInt bd = Int32.ofInt (-30000) := fun h => by
        have := congrArg Int32.toInt h
        rw [oz_ti (by omega) (by omega), oz_ti (by omega) (by omega)] at this
        omega
      rw [if_neg hne] at htl
      obtain ⟨bv, c1, c2, c3⟩ := htl
      have : bv = (A (6 + 9 * k + 6)).toNat := by
        have c1 : Int32.ofInt bd = Int32.ofInt (bv : Int) := c1
        have := congrArg Int32.toInt c1
        rw [oz_ti (by omega) (by omega), oz_ti (by omega) (by omega)] at this
        omega
      rw [if_pos b1, c3, this]
    · rw [b2, if_pos rfl] at htl
      rw [if_neg (by omega), htl]
  have ex : x0 ++ (if 0 < k then [32] else []) ++ zDg (A (6 + 9 * k + 1)).toNat ++ [47] ++ zDg (A (6 + 9 * k + 0)).toNat ++ tl = x0 ++ zTb3 A k := by
    rw [etl]
    unfold zTb3
    simp only [List.append_assoc]
  rw [ex]
  refine mo_pm (ls' := [(9, .double (FP.dadd fi (FP.ddiv (FP.i2d (Int32.ofInt (A (6 + 9 * k + 1)))) (FP.i2d (Int32.ofInt (A (6 + 9 * k + 0))))))), (5, .int (Int32.ofInt (fl + (A (6 + 9 * k + 8))))), (4, .int (Int32.ofInt (sd + (A (6 + 9 * k + 1))))), (18, .int (Int32.ofInt (A (6 + 9 * k + 4)))), (17, .int (Int32.ofInt bd)), (16, .int (Int32.ofInt (A (6 + 9 * k + 0)))), (15, .int (Int32.ofInt (A (6 + 9 * k + 1)))), (14, .int (Int32.ofInt k)), (13, .ref 3002), (12, .ref 3001), (11, .ref 3000), (8, .int (Int32.ofInt bg)), (7, .int (Int32.ofInt sp)), (6, .int (Int32.ofInt (A 2))), (3, .int (Int32.ofInt (A 0))), (2, .int (Int32.ofInt tu)), (1, .ref 0), (0, .ref 2000)]) (mo_pc rfl (mo_pc rfl (mo_pc rfl (mo_pc rfl (mo_pc rfl (mo_pc rfl (mo_pc rfl (mo_pc rfl (mo_pc rfl (mo_pc rfl (mo_pc rfl (mo_pc rfl (mo_pc rfl (mo_pc rfl (mo_pc rfl (mo_pc rfl (mo_pc rfl (mo_pc rfl (mo_p0))))))))))))))))))) ?_
  obtain ⟨T1, i1, e1⟩ := q_spillOf (L := L) (xs := xs) (d := 20) (t := t) hI (by omega) k0 k1 sp0 sp1
  obtain ⟨T2, i2, e2⟩ := q_levelAfter0 (L := L) (xs := xs) (d := 20) (t := t) i1 (by omega) k0 k1
  obtain ⟨T3, i3, e3⟩ := q_spillOf (L := L) (xs := xs) (d := 20) (t := t) i2 (by omega) k0 k1 (m := 0) (by omega) (by omega)
  rw [show (0 : Int).toNat = 0 from rfl, zX_0 (zI_wf hI) k0 k1] at e3
  refine (mo_go hG hlt (d := 20) (by omega) (by dsimp only; omega) mo_s_348 ?_).2
  simp (disch := omega) only [mo_Ev_stop (S := mo_s_348) (pc := 348) rfl, mo_Ev_row (S := mo_s_348) rfl r_L_law_336, mo_Ev_row (S := mo_s_348) rfl r_L_law_338, mo_Ev_row (S := mo_s_348) rfl r_L_law_340, mo_Ev_row (S := mo_s_348) rfl r_L_law_341, mo_Ev_row (S := mo_s_348) rfl r_L_law_343, mo_Ev_row (S := mo_s_348) rfl r_L_law_345, ea_aload, ea_iload, ea_aload_n, kv_X10_spillOf, mv_ac, decide_eq_true_eq, not_true_eq_false, and_self, and_true, true_and, oa_2n, oa_2f, oa_2c, oa_if, if_pos, if_neg, mv_lk, mv_f1, mv_f2, Value.category, List.filter, ↓reduceIte, Nat.reduceEqDiff, Nat.reduceAdd, Nat.reduceLT, Nat.reduceBEq, Nat.zero_add, Nat.add_zero, Nat.zero_ne_one, Nat.one_ne_zero, Bool.not_true, Bool.not_false, Bool.and_true, Bool.true_and, Bool.and_false, Bool.false_and, BEq.rfl, beq_self_eq_true, Bool.false_eq_true, reduceCtorEq, not_false_eq_true, fv0, fv1, fv2, fv3, eb_l0, eb_l1, eb_l2, eb_l3, eb_l4, eb_l5, eb_s0, eb_s1, eb_s2, eb_s3, eb_s4, eb_s5, oz_add, oz_sub, oz_mul, oz_neg, ol_add, ol_sub, sD_eq, sD_sD, sD_ne, sD_in, sD_in2, sD_in3, upR_is, upR_ne, ok_v, ok_n, ok_i, mv_cs, Nat.reduceLeDiff, mv_ch_z, e1]
  refine ⟨mo_bdt (by omega), ?_⟩
  have hsl1 : mv_cc (t, 142, mz T1) ≤ 500000 ∧ mv_ss (t, 142, mz T1) ≤ 5000000 := mo_bdt (by omega)
  refine mo_ias (τ := (3, w + 30, mo_up F 0 (.inl (x0 ++ zTb3 A k)))) hG r_L_law_348 rfl (zI_sm i1) ⟨hsl1.1, hsl1.2, by dsimp only; omega⟩ (ib := 2) (n := (A 0).toNat) (g := g) (show 2 < 3 by decide) hF2 (nZ_in k0 (by omega) (by omega)) ?_
  rw [nZ_at k0 (by omega)]
  show mo_W z kad0 dC dI cA p l e s0 m args below meth c D cB (3, w + 31, mo_up (mo_up F 0 (.inl (x0 ++ zTb3 A k))) 2 (.inr (.inr (.inl ((A 0).toNat, upd g k.toNat (Int32.ofInt (zX A sp.toNat k))))))) 349 [(9, .double (FP.dadd fi (FP.ddiv (FP.i2d (Int32.ofInt (A (6 + 9 * k + 1)))) (FP.i2d (Int32.ofInt (A (6 + 9 * k + 0))))))), (5, .int (Int32.ofInt (fl + (A (6 + 9 * k + 8))))), (4, .int (Int32.ofInt (sd + (A (6 + 9 * k + 1))))), (18, .int (Int32.ofInt (A (6 + 9 * k + 4)))), (17, .int (Int32.ofInt bd)), (16, .int (Int32.ofInt (A (6 + 9 * k + 0)))), (15, .int (Int32.ofInt (A (6 + 9 * k + 1)))), (14, .int (Int32.ofInt k)), (13, .ref 3002), (12, .ref 3001), (11, .ref 3000), (8, .int (Int32.ofInt bg)), (7, .int (Int32.ofInt sp)), (6, .int (Int32.ofInt (A 2))), (3, .int (Int32.ofInt (A 0))), (2, .int (Int32.ofInt tu)), (1, .ref 0), (0, .ref 2000)] [] (t, 142, mz T1)
  refine (mo_go hG hlt (d := 20) (by omega) (by dsimp only; omega) mo_s_375 ?_).2
  simp (disch := omega) only [mo_Ev_stop (S := mo_s_375) (pc := 375) rfl, mo_Ev_row (S := mo_s_375) rfl r_L_law_349, mo_Ev_row (S := mo_s_375) rfl r_L_law_350, mo_Ev_row (S := mo_s_375) rfl r_L_law_352, mo_Ev_row (S := mo_s_375) rfl r_L_law_353, mo_Ev_row (S := mo_s_375) rfl r_L_law_356, mo_Ev_row (S := mo_s_375) rfl r_L_law_358, mo_Ev_row (S := mo_s_375) rfl r_L_law_361, mo_Ev_row (S := mo_s_375) rfl r_L_law_362, mo_Ev_row (S := mo_s_375) rfl r_L_law_364, mo_Ev_row (S := mo_s_375) rfl r_L_law_365, mo_Ev_row (S := mo_s_375) rfl r_L_law_368, mo_Ev_row (S := mo_s_375) rfl r_L_law_371, mo_Ev_row (S := mo_s_375) rfl r_L_law_373, ea_aload_n, ea_iload, ea_iconst, kv_X10_levelAfter, ea_icmp, kv_X10_spillOf, ea_ifc, ea_aload, cz_eq, cz_ne, cz_lt, cz_ge, cz_gt, cz_le, c0_eq, c0_ne, c0_lt, c0_ge, c0_gt, c0_le, mv_ac, decide_eq_true_eq, not_true_eq_false, and_self, and_true, true_and, oa_2n, oa_2f, oa_2c, oa_if, if_pos, if_neg, mv_lk, mv_f1, mv_f2, Value.category, List.filter, ↓reduceIte, Nat.reduceEqDiff, Nat.reduceAdd, Nat.reduceLT, Nat.reduceBEq, Nat.zero_add, Nat.add_zero, Nat.zero_ne_one, Nat.one_ne_zero, Bool.not_true, Bool.not_false, Bool.and_true, Bool.true_and, Bool.and_false, Bool.false_and, BEq.rfl, beq_self_eq_true, Bool.false_eq_true, reduceCtorEq, not_false_eq_true, fv0, fv1, fv2, fv3, eb_l0, eb_l1, eb_l2, eb_l3, eb_l4, eb_l5, eb_s0, eb_s1, eb_s2, eb_s3, eb_s4, eb_s5, oz_add, oz_sub, oz_mul, oz_neg, ol_add, ol_sub, sD_eq, sD_sD, sD_ne, sD_in, sD_in2, sD_in3, upR_is, upR_ne, ok_v, ok_n, ok_i, mv_cs, Nat.reduceLeDiff, mv_ch_z, e2, e3]
  refine ⟨mo_bdt (by omega), ?_⟩
  refine mo_ial (τ := (3, w + 31, mo_up (mo_up F 0 (.inl (x0 ++ zTb3 A k))) 2 (.inr (.inr (.inl ((A 0).toNat, upd g k.toNat (Int32.ofInt (zX A sp.toNat k)))))))) hG r_L_law_375 (ib := 2) (n := (A 0).toNat) (g := upd g k.toNat (Int32.ofInt (zX A sp.toNat k))) (show 2 < 3 by decide) rfl (nZ_in k0 (by omega) (by omega)) ?_
  rw [nZ_at k0 (by omega), upd_at]
  exact k9 T3 _ i3 rfl hF1 rfl
end LWC
