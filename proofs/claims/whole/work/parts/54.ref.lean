/-! THE REFERENCE: a program is run -/
/-- commands one after the other, in the reference: how many succeed, the row behind them -/
def rRun : List (Nat × List Int) → (Int → Int) → Nat × (Int → Int)
  | [], A => (0, A)
  | c :: cs, A => if zfOf c.1 A (c.2.getD 0 0) (c.2.getD 1 0) (c.2.getD 2 0) = 1010 then ((rRun cs (rCo c.1 A (c.2.getD 0 0) (c.2.getD 1 0) (c.2.getD 2 0))).1 + 1, (rRun cs (rCo c.1 A (c.2.getD 0 0) (c.2.getD 1 0) (c.2.getD 2 0))).2) else (0, A)
def zRun : List (Nat × List Int) → (Int → Int) → Nat × (Int → Int)
  | [], A => (0, A)
  | c :: cs, A => if zfOf c.1 A (c.2.getD 0 0) (c.2.getD 1 0) (c.2.getD 2 0) = 1010 then ((zRun cs (zCo c.1 A (c.2.getD 0 0) (c.2.getD 1 0) (c.2.getD 2 0))).1 + 1, (zRun cs (zCo c.1 A (c.2.getD 0 0) (c.2.getD 1 0) (c.2.getD 2 0))).2) else (0, A)
def zArg (as : List Int) : Prop := ∀ i : Nat, 0 ≤ as.getD i 0 ∧ as.getD i 0 ≤ 99
theorem zArg_nil : zArg [] := fun i => by simp
theorem zArg_app {as : List Int} {v : Int} (h : zArg as) (h0 : 0 ≤ v) (h1 : v ≤ 99) : zArg (as ++ [v]) := by
  intro i
  by_cases q : i < as.length
  · have := h i
    rw [List.getD_eq_getElem?_getD, List.getElem?_append_left q, ← List.getD_eq_getElem?_getD]
    exact this
  · rw [List.getD_eq_getElem?_getD, List.getElem?_append_right (by omega)]
    by_cases e : i - as.length = 0
    · rw [e]; exact ⟨h0, h1⟩
    · have : ([v] : List Int)[i - as.length]? = none := by rw [List.getElem?_eq_none_iff, List.length_singleton]; omega
      rw [this]
      exact ⟨Int.le_refl 0, by decide⟩
theorem zPat_arg (X : Int → Int) (len : Int) : ∀ (cs : List Nat) (p : Int) (as : List Int), zArg as → zArg (zPat X len cs p as).2.2
  | [], p, as, h => h
  | c :: cs, p, as, h => by
    rw [zPat]
    split
    · split
      · next q =>
        have := zDigB_iff.mp q
        exact zPat_arg X len cs _ _ (zArg_app h (by omega) (by omega))
      · exact h
    · split
      · split
        · next q =>
          have := zDigB_iff.mp q
          split
          · next q2 =>
            have := zDigB_iff.mp q2
            exact zPat_arg X len cs _ _ (zArg_app h (by omega) (by omega))
          · exact zPat_arg X len cs _ _ (zArg_app h (by omega) (by omega))
        · exact h
      · split
        · exact zPat_arg X len cs _ _ h
        · exact h
theorem zLet8_le (v : Int) : zLet8 v ≤ 8 := by
  unfold zLet8
  repeat' split
  all_goals omega
theorem zOne_k {X : Int → Int} {len p : Int} (h : (zOne X len p).1 = true) : zFst X len p < 8 ∧ zArg (zOne X len p).2.2 := by
  unfold zOne at h ⊢
  split at h
  · cases h
  · next q =>
    rw [if_neg q]
    refine ⟨?_, zPat_arg X len _ _ _ zArg_nil⟩
    have : zFst X len p ≤ 8 := by
      unfold zFst
      split
      · exact zLet8_le _
      · omega
    omega
theorem zRc_k {X : Int → Int} {len p : Int} (h : (zRc X len p).1 = true) : zFst X len (zRcp X len p) < 8 ∧ zArg (zRc X len p).2.2 := by
  unfold zRc at h ⊢
  split at h
  · cases h
  · next q => rw [if_neg q]; exact zOne_k h
theorem zPg_k (X : Int → Int) (len : Int) : ∀ (n : Nat) (p : Int), ∀ c ∈ (zPg X len n p).2.2, c.1 < 8 ∧ zArg c.2
  | 0, p, c, h => by rw [zPg] at h; cases h
  | n + 1, p, c, h => by
    rw [zPg] at h
    split at h
    · next q =>
      split at h
      · rcases List.mem_singleton.mp h with rfl
        exact zRc_k q
      · rcases List.mem_cons.mp h with rfl | h
        · exact zRc_k q
        · exact zPg_k X len n _ c h
    · cases h
theorem zPg_len (X : Int → Int) (len : Int) : ∀ (n : Nat) (p : Int), (zPg X len n p).2.2.length ≤ n
  | 0, p => by rw [zPg]; exact Nat.le_refl 0
  | n + 1, p => by
    rw [zPg]
    split
    · split
      · simp
      · have := zPg_len X len n (zRc X len p).2.1
        rw [List.length_cons]
        omega
    · simp
theorem sD_rot (T : zT) {a b c : Nat} (A B D : Int → Int) (h1 : ¬ a = b) (h2 : ¬ b = c) (h3 : ¬ a = c) : sD (sD (sD T a A) b B) c D = sD (sD (sD T c D) b B) a A := by
  rw [sD_comm T A B h1, sD_comm (sD T b B) A D h3, sD_comm T B D h2]
section RF11
variable {L : Nat} {xs : Nat → Int32} {d t : Nat} {T : zT} {A B X F C : Int → Int}
theorem c_X11_does_0 {m : Int} {as : List Int} (hm0 : 0 ≤ m) (hm : m ≤ 60) (hC : T.1 145 = C) (hr : rRow C m 0 as) (ha : zArg as) (hA : zWF A 99) (hd : 5 ≤ d) : mv_cl L xs d k_X11_does [.ref 142, .int (Int32.ofInt (4 * m))] (t, 149, mz (sD (sD T 142 F) 143 A)) = some (.inl (some (.int (Int32.ofInt ((zfOf 0 A (as.getD 0 0) (as.getD 1 0) (as.getD 2 0) : Nat) - 1010)))), (t, 149, mz (if zfOf 0 A (as.getD 0 0) (as.getD 1 0) (as.getD 2 0) = 1010 then sD (sD T 142 (upR F 4 (rCv 0 A (as.getD 0 0) (as.getD 1 0) (as.getD 2 0)))) 143 (rCo 0 A (as.getD 0 0) (as.getD 1 0) (as.getD 2 0)) else sD (sD T 142 F) 143 A))) := by
  obtain ⟨r0, r1, r2, r3⟩ := hr
  rw [show zChr 0 = 98 from rfl] at r0
  have a0 := ha 0
  have a1 := ha 1
  have a2 := ha 2
  have q := c_X11_op_0 (L := L) (xs := xs) (t := t) (T := T) (F := F) (d := d - 1) (p := as.getD 0 0) (q := as.getD 1 0) (r := as.getD 2 0) (by omega) hA (by omega) (by omega) (by omega) (by omega) (by omega) (by omega)
  obtain ⟨d, rfl⟩ : ∃ e, d = e + 1 := ⟨d - 1, by omega⟩
  apply mv_cl_of
  simp only [mv_il, Value.category, Nat.zero_add, Nat.reduceAdd]
  simp only [Nat.add_sub_cancel] at q
  simp (disch := omega) only [mv_Ev_row r_X11_does_0, mv_Ev_row r_X11_does_1, mv_Ev_row r_X11_does_4, mv_Ev_row r_X11_does_5, mv_Ev_row r_X11_does_6, mv_Ev_row r_X11_does_7, mv_Ev_row r_X11_does_8, mv_Ev_row r_X11_does_9, mv_Ev_row r_X11_does_10, mv_Ev_row r_X11_does_13, mv_Ev_row r_X11_does_14, mv_Ev_row r_X11_does_15, mv_Ev_row r_X11_does_16, mv_Ev_row r_X11_does_17, mv_Ev_row r_X11_does_18, mv_Ev_row r_X11_does_19, mv_Ev_row r_X11_does_22, mv_Ev_row r_X11_does_23, mv_Ev_row r_X11_does_24, mv_Ev_row r_X11_does_112, mv_Ev_row r_X11_does_113, mv_Ev_row r_X11_does_114, mv_Ev_row r_X11_does_115, mv_Ev_row r_X11_does_116, mv_Ev_row r_X11_does_119, mv_Ev_row r_X11_does_120, mv_Ev_row r_X11_does_121, mv_Ev_row r_X11_does_122, mv_Ev_row r_X11_does_123, mv_Ev_row r_X11_does_126, mv_Ev_row r_X11_does_127, mv_Ev_row r_X11_does_128, mv_Ev_row r_X11_does_129, mv_Ev_row r_X11_does_130, mv_Ev_row r_X11_does_133, mv_Ev_row r_X11_does_134, mv_Ev_row r_X11_does_135, mv_Ev_row r_X11_does_136, mv_Ev_row r_X11_does_137, mv_Ev_row r_X11_does_140, mv_Ev_row r_X11_does_141, mv_Ev_row r_X11_does_142, mv_Ev_row r_X11_does_143, mv_Ev_row r_X11_does_146, mv_Ev_row r_X11_does_147, mv_Ev_row r_X11_does_148, mv_Ev_row r_X11_does_149, mv_Ev_row r_X11_does_152, mv_Ev_row r_X11_does_153, mv_Ev_row r_X11_does_154, mv_Ev_row r_X11_does_157, mv_Ev_row r_X11_does_158, mv_Ev_row r_X11_does_159, mv_Ev_row r_X11_does_160, mv_Ev_row r_X11_does_161, mv_Ev_row r_X11_does_164, mv_Ev_row r_X11_does_165, mv_Ev_row r_X11_does_166, mv_Ev_row r_X11_does_167, mv_Ev_row r_X11_does_170, ea_aload_n, gg_8_12, ea_iload_n, ea_iconst, ea_iadd, ea_istore_n, kv_X11_builds, ea_ireturn, ez_ret, ez_retc, kv_X11_opens, kv_X11_guards, kv_X11_frees, kv_X11_expects, kv_X11_clears, kv_X11_pours, kv_X11_goesOn, ar_ld0 ai_145, mv_ac, decide_eq_true_eq, not_true_eq_false, and_self, and_true, true_and, ea_2n, ea_2f, ea_2c, ea_if, mv_lk, mv_f1, mv_f2, Value.category, List.filter, ↓reduceIte, Nat.reduceEqDiff, Nat.reduceAdd, Nat.reduceLT, Nat.reduceBEq, Nat.zero_add, Nat.add_zero, Nat.zero_ne_one, Nat.one_ne_zero, Bool.not_true, Bool.not_false, Bool.and_true, Bool.true_and, Bool.and_false, Bool.false_and, BEq.rfl, beq_self_eq_true, Bool.false_eq_true, reduceCtorEq, not_false_eq_true, fv0, fv1, fv2, fv3, eb_l0, eb_l1, eb_l2, eb_l3, eb_l4, eb_l5, eb_s0, eb_s1, eb_s2, eb_s3, eb_s4, eb_s5, oz_add, oz_sub, oz_mul, oz_neg, ol_add, ol_sub, sD_eq, sD_sD, sD_ne, sD_in, sD_in2, sD_in3, upR_is, upR_ne, mk_v, mk_n, mk_x, mk_i, mv_cs, Nat.reduceLeDiff, mv_ch_z, nh_X11_does, hC, r0, r1, r2, r3, swd_98, q]
theorem c_X11_does_1 {m : Int} {as : List Int} (hm0 : 0 ≤ m) (hm : m ≤ 60) (hC : T.1 145 = C) (hr : rRow C m 1 as) (ha : zArg as) (hA : zWF A 99) (hd : 5 ≤ d) : mv_cl L xs d k_X11_does [.ref 142, .int (Int32.ofInt (4 * m))] (t, 149, mz (sD (sD T 142 F) 143 A)) = some (.inl (some (.int (Int32.ofInt ((zfOf 1 A (as.getD 0 0) (as.getD 1 0) (as.getD 2 0) : Nat) - 1010)))), (t, 149, mz (if zfOf 1 A (as.getD 0 0) (as.getD 1 0) (as.getD 2 0) = 1010 then sD (sD T 142 (upR F 4 (rCv 1 A (as.getD 0 0) (as.getD 1 0) (as.getD 2 0)))) 143 (rCo 1 A (as.getD 0 0) (as.getD 1 0) (as.getD 2 0)) else sD (sD T 142 F) 143 A))) := by
  obtain ⟨r0, r1, r2, r3⟩ := hr
  rw [show zChr 1 = 103 from rfl] at r0
  have a0 := ha 0
  have a1 := ha 1
  have a2 := ha 2
  have q := c_X11_op_1 (L := L) (xs := xs) (t := t) (T := T) (F := F) (d := d - 1) (p := as.getD 0 0) (q := as.getD 1 0) (r := as.getD 2 0) (by omega) hA (by omega) (by omega) (by omega) (by omega) (by omega) (by omega)
  obtain ⟨d, rfl⟩ : ∃ e, d = e + 1 := ⟨d - 1, by omega⟩
  apply mv_cl_of
  simp only [mv_il, Value.category, Nat.zero_add, Nat.reduceAdd]
  simp only [Nat.add_sub_cancel] at q
  simp (disch := omega) only [mv_Ev_row r_X11_does_0, mv_Ev_row r_X11_does_1, mv_Ev_row r_X11_does_4, mv_Ev_row r_X11_does_5, mv_Ev_row r_X11_does_6, mv_Ev_row r_X11_does_7, mv_Ev_row r_X11_does_8, mv_Ev_row r_X11_does_9, mv_Ev_row r_X11_does_10, mv_Ev_row r_X11_does_13, mv_Ev_row r_X11_does_14, mv_Ev_row r_X11_does_15, mv_Ev_row r_X11_does_16, mv_Ev_row r_X11_does_17, mv_Ev_row r_X11_does_18, mv_Ev_row r_X11_does_19, mv_Ev_row r_X11_does_22, mv_Ev_row r_X11_does_23, mv_Ev_row r_X11_does_24, mv_Ev_row r_X11_does_112, mv_Ev_row r_X11_does_113, mv_Ev_row r_X11_does_114, mv_Ev_row r_X11_does_115, mv_Ev_row r_X11_does_116, mv_Ev_row r_X11_does_119, mv_Ev_row r_X11_does_120, mv_Ev_row r_X11_does_121, mv_Ev_row r_X11_does_122, mv_Ev_row r_X11_does_123, mv_Ev_row r_X11_does_126, mv_Ev_row r_X11_does_127, mv_Ev_row r_X11_does_128, mv_Ev_row r_X11_does_129, mv_Ev_row r_X11_does_130, mv_Ev_row r_X11_does_133, mv_Ev_row r_X11_does_134, mv_Ev_row r_X11_does_135, mv_Ev_row r_X11_does_136, mv_Ev_row r_X11_does_137, mv_Ev_row r_X11_does_140, mv_Ev_row r_X11_does_141, mv_Ev_row r_X11_does_142, mv_Ev_row r_X11_does_143, mv_Ev_row r_X11_does_146, mv_Ev_row r_X11_does_147, mv_Ev_row r_X11_does_148, mv_Ev_row r_X11_does_149, mv_Ev_row r_X11_does_152, mv_Ev_row r_X11_does_153, mv_Ev_row r_X11_does_154, mv_Ev_row r_X11_does_157, mv_Ev_row r_X11_does_158, mv_Ev_row r_X11_does_159, mv_Ev_row r_X11_does_160, mv_Ev_row r_X11_does_161, mv_Ev_row r_X11_does_164, mv_Ev_row r_X11_does_165, mv_Ev_row r_X11_does_166, mv_Ev_row r_X11_does_167, mv_Ev_row r_X11_does_170, ea_aload_n, gg_8_12, ea_iload_n, ea_iconst, ea_iadd, ea_istore_n, kv_X11_builds, ea_ireturn, ez_ret, ez_retc, kv_X11_opens, kv_X11_guards, kv_X11_frees, kv_X11_expects, kv_X11_clears, kv_X11_pours, kv_X11_goesOn, ar_ld0 ai_145, mv_ac, decide_eq_true_eq, not_true_eq_false, and_self, and_true, true_and, ea_2n, ea_2f, ea_2c, ea_if, mv_lk, mv_f1, mv_f2, Value.category, List.filter, ↓reduceIte, Nat.reduceEqDiff, Nat.reduceAdd, Nat.reduceLT, Nat.reduceBEq, Nat.zero_add, Nat.add_zero, Nat.zero_ne_one, Nat.one_ne_zero, Bool.not_true, Bool.not_false, Bool.and_true, Bool.true_and, Bool.and_false, Bool.false_and, BEq.rfl, beq_self_eq_true, Bool.false_eq_true, reduceCtorEq, not_false_eq_true, fv0, fv1, fv2, fv3, eb_l0, eb_l1, eb_l2, eb_l3, eb_l4, eb_l5, eb_s0, eb_s1, eb_s2, eb_s3, eb_s4, eb_s5, oz_add, oz_sub, oz_mul, oz_neg, ol_add, ol_sub, sD_eq, sD_sD, sD_ne, sD_in, sD_in2, sD_in3, upR_is, upR_ne, mk_v, mk_n, mk_x, mk_i, mv_cs, Nat.reduceLeDiff, mv_ch_z, nh_X11_does, hC, r0, r1, r2, r3, swd_103, q]
theorem c_X11_does_2 {m : Int} {as : List Int} (hm0 : 0 ≤ m) (hm : m ≤ 60) (hC : T.1 145 = C) (hr : rRow C m 2 as) (ha : zArg as) (hA : zWF A 99) (hd : 5 ≤ d) : mv_cl L xs d k_X11_does [.ref 142, .int (Int32.ofInt (4 * m))] (t, 149, mz (sD (sD T 142 F) 143 A)) = some (.inl (some (.int (Int32.ofInt ((zfOf 2 A (as.getD 0 0) (as.getD 1 0) (as.getD 2 0) : Nat) - 1010)))), (t, 149, mz (if zfOf 2 A (as.getD 0 0) (as.getD 1 0) (as.getD 2 0) = 1010 then sD (sD T 142 (upR F 4 (rCv 2 A (as.getD 0 0) (as.getD 1 0) (as.getD 2 0)))) 143 (rCo 2 A (as.getD 0 0) (as.getD 1 0) (as.getD 2 0)) else sD (sD T 142 F) 143 A))) := by
  obtain ⟨r0, r1, r2, r3⟩ := hr
  rw [show zChr 2 = 97 from rfl] at r0
  have a0 := ha 0
  have a1 := ha 1
  have a2 := ha 2
  have q := c_X11_op_2 (L := L) (xs := xs) (t := t) (T := T) (F := F) (d := d - 1) (p := as.getD 0 0) (q := as.getD 1 0) (r := as.getD 2 0) (by omega) hA (by omega) (by omega) (by omega) (by omega) (by omega) (by omega)
  obtain ⟨d, rfl⟩ : ∃ e, d = e + 1 := ⟨d - 1, by omega⟩
  apply mv_cl_of
  simp only [mv_il, Value.category, Nat.zero_add, Nat.reduceAdd]
  simp only [Nat.add_sub_cancel] at q
  simp (disch := omega) only [mv_Ev_row r_X11_does_0, mv_Ev_row r_X11_does_1, mv_Ev_row r_X11_does_4, mv_Ev_row r_X11_does_5, mv_Ev_row r_X11_does_6, mv_Ev_row r_X11_does_7, mv_Ev_row r_X11_does_8, mv_Ev_row r_X11_does_9, mv_Ev_row r_X11_does_10, mv_Ev_row r_X11_does_13, mv_Ev_row r_X11_does_14, mv_Ev_row r_X11_does_15, mv_Ev_row r_X11_does_16, mv_Ev_row r_X11_does_17, mv_Ev_row r_X11_does_18, mv_Ev_row r_X11_does_19, mv_Ev_row r_X11_does_22, mv_Ev_row r_X11_does_23, mv_Ev_row r_X11_does_24, mv_Ev_row r_X11_does_112, mv_Ev_row r_X11_does_113, mv_Ev_row r_X11_does_114, mv_Ev_row r_X11_does_115, mv_Ev_row r_X11_does_116, mv_Ev_row r_X11_does_119, mv_Ev_row r_X11_does_120, mv_Ev_row r_X11_does_121, mv_Ev_row r_X11_does_122, mv_Ev_row r_X11_does_123, mv_Ev_row r_X11_does_126, mv_Ev_row r_X11_does_127, mv_Ev_row r_X11_does_128, mv_Ev_row r_X11_does_129, mv_Ev_row r_X11_does_130, mv_Ev_row r_X11_does_133, mv_Ev_row r_X11_does_134, mv_Ev_row r_X11_does_135, mv_Ev_row r_X11_does_136, mv_Ev_row r_X11_does_137, mv_Ev_row r_X11_does_140, mv_Ev_row r_X11_does_141, mv_Ev_row r_X11_does_142, mv_Ev_row r_X11_does_143, mv_Ev_row r_X11_does_146, mv_Ev_row r_X11_does_147, mv_Ev_row r_X11_does_148, mv_Ev_row r_X11_does_149, mv_Ev_row r_X11_does_152, mv_Ev_row r_X11_does_153, mv_Ev_row r_X11_does_154, mv_Ev_row r_X11_does_157, mv_Ev_row r_X11_does_158, mv_Ev_row r_X11_does_159, mv_Ev_row r_X11_does_160, mv_Ev_row r_X11_does_161, mv_Ev_row r_X11_does_164, mv_Ev_row r_X11_does_165, mv_Ev_row r_X11_does_166, mv_Ev_row r_X11_does_167, mv_Ev_row r_X11_does_170, ea_aload_n, gg_8_12, ea_iload_n, ea_iconst, ea_iadd, ea_istore_n, kv_X11_builds, ea_ireturn, ez_ret, ez_retc, kv_X11_opens, kv_X11_guards, kv_X11_frees, kv_X11_expects, kv_X11_clears, kv_X11_pours, kv_X11_goesOn, ar_ld0 ai_145, mv_ac, decide_eq_true_eq, not_true_eq_false, and_self, and_true, true_and, ea_2n, ea_2f, ea_2c, ea_if, mv_lk, mv_f1, mv_f2, Value.category, List.filter, ↓reduceIte, Nat.reduceEqDiff, Nat.reduceAdd, Nat.reduceLT, Nat.reduceBEq, Nat.zero_add, Nat.add_zero, Nat.zero_ne_one, Nat.one_ne_zero, Bool.not_true, Bool.not_false, Bool.and_true, Bool.true_and, Bool.and_false, Bool.false_and, BEq.rfl, beq_self_eq_true, Bool.false_eq_true, reduceCtorEq, not_false_eq_true, fv0, fv1, fv2, fv3, eb_l0, eb_l1, eb_l2, eb_l3, eb_l4, eb_l5, eb_s0, eb_s1, eb_s2, eb_s3, eb_s4, eb_s5, oz_add, oz_sub, oz_mul, oz_neg, ol_add, ol_sub, sD_eq, sD_sD, sD_ne, sD_in, sD_in2, sD_in3, upR_is, upR_ne, mk_v, mk_n, mk_x, mk_i, mv_cs, Nat.reduceLeDiff, mv_ch_z, nh_X11_does, hC, r0, r1, r2, r3, swd_97, q]
theorem c_X11_does_3 {m : Int} {as : List Int} (hm0 : 0 ≤ m) (hm : m ≤ 60) (hC : T.1 145 = C) (hr : rRow C m 3 as) (ha : zArg as) (hA : zWF A 99) (hd : 5 ≤ d) : mv_cl L xs d k_X11_does [.ref 142, .int (Int32.ofInt (4 * m))] (t, 149, mz (sD (sD T 142 F) 143 A)) = some (.inl (some (.int (Int32.ofInt ((zfOf 3 A (as.getD 0 0) (as.getD 1 0) (as.getD 2 0) : Nat) - 1010)))), (t, 149, mz (if zfOf 3 A (as.getD 0 0) (as.getD 1 0) (as.getD 2 0) = 1010 then sD (sD T 142 (upR F 4 (rCv 3 A (as.getD 0 0) (as.getD 1 0) (as.getD 2 0)))) 143 (rCo 3 A (as.getD 0 0) (as.getD 1 0) (as.getD 2 0)) else sD (sD T 142 F) 143 A))) := by
  obtain ⟨r0, r1, r2, r3⟩ := hr
  rw [show zChr 3 = 104 from rfl] at r0
  have a0 := ha 0
  have a1 := ha 1
  have a2 := ha 2
  have q := c_X11_op_3 (L := L) (xs := xs) (t := t) (T := T) (F := F) (d := d - 1) (p := as.getD 0 0) (q := as.getD 1 0) (r := as.getD 2 0) (by omega) hA (by omega) (by omega) (by omega) (by omega) (by omega) (by omega)
  obtain ⟨d, rfl⟩ : ∃ e, d = e + 1 := ⟨d - 1, by omega⟩
  apply mv_cl_of
  simp only [mv_il, Value.category, Nat.zero_add, Nat.reduceAdd]
  simp only [Nat.add_sub_cancel] at q
  simp (disch := omega) only [mv_Ev_row r_X11_does_0, mv_Ev_row r_X11_does_1, mv_Ev_row r_X11_does_4, mv_Ev_row r_X11_does_5, mv_Ev_row r_X11_does_6, mv_Ev_row r_X11_does_7, mv_Ev_row r_X11_does_8, mv_Ev_row r_X11_does_9, mv_Ev_row r_X11_does_10, mv_Ev_row r_X11_does_13, mv_Ev_row r_X11_does_14, mv_Ev_row r_X11_does_15, mv_Ev_row r_X11_does_16, mv_Ev_row r_X11_does_17, mv_Ev_row r_X11_does_18, mv_Ev_row r_X11_does_19, mv_Ev_row r_X11_does_22, mv_Ev_row r_X11_does_23, mv_Ev_row r_X11_does_24, mv_Ev_row r_X11_does_112, mv_Ev_row r_X11_does_113, mv_Ev_row r_X11_does_114, mv_Ev_row r_X11_does_115, mv_Ev_row r_X11_does_116, mv_Ev_row r_X11_does_119, mv_Ev_row r_X11_does_120, mv_Ev_row r_X11_does_121, mv_Ev_row r_X11_does_122, mv_Ev_row r_X11_does_123, mv_Ev_row r_X11_does_126, mv_Ev_row r_X11_does_127, mv_Ev_row r_X11_does_128, mv_Ev_row r_X11_does_129, mv_Ev_row r_X11_does_130, mv_Ev_row r_X11_does_133, mv_Ev_row r_X11_does_134, mv_Ev_row r_X11_does_135, mv_Ev_row r_X11_does_136, mv_Ev_row r_X11_does_137, mv_Ev_row r_X11_does_140, mv_Ev_row r_X11_does_141, mv_Ev_row r_X11_does_142, mv_Ev_row r_X11_does_143, mv_Ev_row r_X11_does_146, mv_Ev_row r_X11_does_147, mv_Ev_row r_X11_does_148, mv_Ev_row r_X11_does_149, mv_Ev_row r_X11_does_152, mv_Ev_row r_X11_does_153, mv_Ev_row r_X11_does_154, mv_Ev_row r_X11_does_157, mv_Ev_row r_X11_does_158, mv_Ev_row r_X11_does_159, mv_Ev_row r_X11_does_160, mv_Ev_row r_X11_does_161, mv_Ev_row r_X11_does_164, mv_Ev_row r_X11_does_165, mv_Ev_row r_X11_does_166, mv_Ev_row r_X11_does_167, mv_Ev_row r_X11_does_170, ea_aload_n, gg_8_12, ea_iload_n, ea_iconst, ea_iadd, ea_istore_n, kv_X11_builds, ea_ireturn, ez_ret, ez_retc, kv_X11_opens, kv_X11_guards, kv_X11_frees, kv_X11_expects, kv_X11_clears, kv_X11_pours, kv_X11_goesOn, ar_ld0 ai_145, mv_ac, decide_eq_true_eq, not_true_eq_false, and_self, and_true, true_and, ea_2n, ea_2f, ea_2c, ea_if, mv_lk, mv_f1, mv_f2, Value.category, List.filter, ↓reduceIte, Nat.reduceEqDiff, Nat.reduceAdd, Nat.reduceLT, Nat.reduceBEq, Nat.zero_add, Nat.add_zero, Nat.zero_ne_one, Nat.one_ne_zero, Bool.not_true, Bool.not_false, Bool.and_true, Bool.true_and, Bool.and_false, Bool.false_and, BEq.rfl, beq_self_eq_true, Bool.false_eq_true, reduceCtorEq, not_false_eq_true, fv0, fv1, fv2, fv3, eb_l0, eb_l1, eb_l2, eb_l3, eb_l4, eb_l5, eb_s0, eb_s1, eb_s2, eb_s3, eb_s4, eb_s5, oz_add, oz_sub, oz_mul, oz_neg, ol_add, ol_sub, sD_eq, sD_sD, sD_ne, sD_in, sD_in2, sD_in3, upR_is, upR_ne, mk_v, mk_n, mk_x, mk_i, mv_cs, Nat.reduceLeDiff, mv_ch_z, nh_X11_does, hC, r0, r1, r2, r3, swd_104, q]
theorem c_X11_does_4 {m : Int} {as : List Int} (hm0 : 0 ≤ m) (hm : m ≤ 60) (hC : T.1 145 = C) (hr : rRow C m 4 as) (ha : zArg as) (hA : zWF A 99) (hd : 5 ≤ d) : mv_cl L xs d k_X11_does [.ref 142, .int (Int32.ofInt (4 * m))] (t, 149, mz (sD (sD T 142 F) 143 A)) = some (.inl (some (.int (Int32.ofInt ((zfOf 4 A (as.getD 0 0) (as.getD 1 0) (as.getD 2 0) : Nat) - 1010)))), (t, 149, mz (if zfOf 4 A (as.getD 0 0) (as.getD 1 0) (as.getD 2 0) = 1010 then sD (sD T 142 (upR F 4 (rCv 4 A (as.getD 0 0) (as.getD 1 0) (as.getD 2 0)))) 143 (rCo 4 A (as.getD 0 0) (as.getD 1 0) (as.getD 2 0)) else sD (sD T 142 F) 143 A))) := by
  obtain ⟨r0, r1, r2, r3⟩ := hr
  rw [show zChr 4 = 114 from rfl] at r0
  have a0 := ha 0
  have a1 := ha 1
  have a2 := ha 2
  have q := c_X11_op_4 (L := L) (xs := xs) (t := t) (T := T) (F := F) (d := d - 1) (p := as.getD 0 0) (q := as.getD 1 0) (r := as.getD 2 0) (by omega) hA (by omega) (by omega) (by omega) (by omega) (by omega) (by omega)
  obtain ⟨d, rfl⟩ : ∃ e, d = e + 1 := ⟨d - 1, by omega⟩
  apply mv_cl_of
  simp only [mv_il, Value.category, Nat.zero_add, Nat.reduceAdd]
  simp only [Nat.add_sub_cancel] at q
  simp (disch := omega) only [mv_Ev_row r_X11_does_0, mv_Ev_row r_X11_does_1, mv_Ev_row r_X11_does_4, mv_Ev_row r_X11_does_5, mv_Ev_row r_X11_does_6, mv_Ev_row r_X11_does_7, mv_Ev_row r_X11_does_8, mv_Ev_row r_X11_does_9, mv_Ev_row r_X11_does_10, mv_Ev_row r_X11_does_13, mv_Ev_row r_X11_does_14, mv_Ev_row r_X11_does_15, mv_Ev_row r_X11_does_16, mv_Ev_row r_X11_does_17, mv_Ev_row r_X11_does_18, mv_Ev_row r_X11_does_19, mv_Ev_row r_X11_does_22, mv_Ev_row r_X11_does_23, mv_Ev_row r_X11_does_24, mv_Ev_row r_X11_does_112, mv_Ev_row r_X11_does_113, mv_Ev_row r_X11_does_114, mv_Ev_row r_X11_does_115, mv_Ev_row r_X11_does_116, mv_Ev_row r_X11_does_119, mv_Ev_row r_X11_does_120, mv_Ev_row r_X11_does_121, mv_Ev_row r_X11_does_122, mv_Ev_row r_X11_does_123, mv_Ev_row r_X11_does_126, mv_Ev_row r_X11_does_127, mv_Ev_row r_X11_does_128, mv_Ev_row r_X11_does_129, mv_Ev_row r_X11_does_130, mv_Ev_row r_X11_does_133, mv_Ev_row r_X11_does_134, mv_Ev_row r_X11_does_135, mv_Ev_row r_X11_does_136, mv_Ev_row r_X11_does_137, mv_Ev_row r_X11_does_140, mv_Ev_row r_X11_does_141, mv_Ev_row r_X11_does_142, mv_Ev_row r_X11_does_143, mv_Ev_row r_X11_does_146, mv_Ev_row r_X11_does_147, mv_Ev_row r_X11_does_148, mv_Ev_row r_X11_does_149, mv_Ev_row r_X11_does_152, mv_Ev_row r_X11_does_153, mv_Ev_row r_X11_does_154, mv_Ev_row r_X11_does_157, mv_Ev_row r_X11_does_158, mv_Ev_row r_X11_does_159, mv_Ev_row r_X11_does_160, mv_Ev_row r_X11_does_161, mv_Ev_row r_X11_does_164, mv_Ev_row r_X11_does_165, mv_Ev_row r_X11_does_166, mv_Ev_row r_X11_does_167, mv_Ev_row r_X11_does_170, ea_aload_n, gg_8_12, ea_iload_n, ea_iconst, ea_iadd, ea_istore_n, kv_X11_builds, ea_ireturn, ez_ret, ez_retc, kv_X11_opens, kv_X11_guards, kv_X11_frees, kv_X11_expects, kv_X11_clears, kv_X11_pours, kv_X11_goesOn, ar_ld0 ai_145, mv_ac, decide_eq_true_eq, not_true_eq_false, and_self, and_true, true_and, ea_2n, ea_2f, ea_2c, ea_if, mv_lk, mv_f1, mv_f2, Value.category, List.filter, ↓reduceIte, Nat.reduceEqDiff, Nat.reduceAdd, Nat.reduceLT, Nat.reduceBEq, Nat.zero_add, Nat.add_zero, Nat.zero_ne_one, Nat.one_ne_zero, Bool.not_true, Bool.not_false, Bool.and_true, Bool.true_and, Bool.and_false, Bool.false_and, BEq.rfl, beq_self_eq_true, Bool.false_eq_true, reduceCtorEq, not_false_eq_true, fv0, fv1, fv2, fv3, eb_l0, eb_l1, eb_l2, eb_l3, eb_l4, eb_l5, eb_s0, eb_s1, eb_s2, eb_s3, eb_s4, eb_s5, oz_add, oz_sub, oz_mul, oz_neg, ol_add, ol_sub, sD_eq, sD_sD, sD_ne, sD_in, sD_in2, sD_in3, upR_is, upR_ne, mk_v, mk_n, mk_x, mk_i, mv_cs, Nat.reduceLeDiff, mv_ch_z, nh_X11_does, hC, r0, r1, r2, r3, swd_114, q]
theorem c_X11_does_5 {m : Int} {as : List Int} (hm0 : 0 ≤ m) (hm : m ≤ 60) (hC : T.1 145 = C) (hr : rRow C m 5 as) (ha : zArg as) (hA : zWF A 99) (hd : 5 ≤ d) : mv_cl L xs d k_X11_does [.ref 142, .int (Int32.ofInt (4 * m))] (t, 149, mz (sD (sD T 142 F) 143 A)) = some (.inl (some (.int (Int32.ofInt ((zfOf 5 A (as.getD 0 0) (as.getD 1 0) (as.getD 2 0) : Nat) - 1010)))), (t, 149, mz (if zfOf 5 A (as.getD 0 0) (as.getD 1 0) (as.getD 2 0) = 1010 then sD (sD T 142 (upR F 4 (rCv 5 A (as.getD 0 0) (as.getD 1 0) (as.getD 2 0)))) 143 (rCo 5 A (as.getD 0 0) (as.getD 1 0) (as.getD 2 0)) else sD (sD T 142 F) 143 A))) := by
  obtain ⟨r0, r1, r2, r3⟩ := hr
  rw [show zChr 5 = 99 from rfl] at r0
  have a0 := ha 0
  have a1 := ha 1
  have a2 := ha 2
  have q := c_X11_op_5 (L := L) (xs := xs) (t := t) (T := T) (F := F) (d := d - 1) (p := as.getD 0 0) (q := as.getD 1 0) (r := as.getD 2 0) (by omega) hA (by omega) (by omega) (by omega) (by omega) (by omega) (by omega)
  obtain ⟨d, rfl⟩ : ∃ e, d = e + 1 := ⟨d - 1, by omega⟩
  apply mv_cl_of
  simp only [mv_il, Value.category, Nat.zero_add, Nat.reduceAdd]
  simp only [Nat.add_sub_cancel] at q
  simp (disch := omega) only [mv_Ev_row r_X11_does_0, mv_Ev_row r_X11_does_1, mv_Ev_row r_X11_does_4, mv_Ev_row r_X11_does_5, mv_Ev_row r_X11_does_6, mv_Ev_row r_X11_does_7, mv_Ev_row r_X11_does_8, mv_Ev_row r_X11_does_9, mv_Ev_row r_X11_does_10, mv_Ev_row r_X11_does_13, mv_Ev_row r_X11_does_14, mv_Ev_row r_X11_does_15, mv_Ev_row r_X11_does_16, mv_Ev_row r_X11_does_17, mv_Ev_row r_X11_does_18, mv_Ev_row r_X11_does_19, mv_Ev_row r_X11_does_22, mv_Ev_row r_X11_does_23, mv_Ev_row r_X11_does_24, mv_Ev_row r_X11_does_112, mv_Ev_row r_X11_does_113, mv_Ev_row r_X11_does_114, mv_Ev_row r_X11_does_115, mv_Ev_row r_X11_does_116, mv_Ev_row r_X11_does_119, mv_Ev_row r_X11_does_120, mv_Ev_row r_X11_does_121, mv_Ev_row r_X11_does_122, mv_Ev_row r_X11_does_123, mv_Ev_row r_X11_does_126, mv_Ev_row r_X11_does_127, mv_Ev_row r_X11_does_128, mv_Ev_row r_X11_does_129, mv_Ev_row r_X11_does_130, mv_Ev_row r_X11_does_133, mv_Ev_row r_X11_does_134, mv_Ev_row r_X11_does_135, mv_Ev_row r_X11_does_136, mv_Ev_row r_X11_does_137, mv_Ev_row r_X11_does_140, mv_Ev_row r_X11_does_141, mv_Ev_row r_X11_does_142, mv_Ev_row r_X11_does_143, mv_Ev_row r_X11_does_146, mv_Ev_row r_X11_does_147, mv_Ev_row r_X11_does_148, mv_Ev_row r_X11_does_149, mv_Ev_row r_X11_does_152, mv_Ev_row r_X11_does_153, mv_Ev_row r_X11_does_154, mv_Ev_row r_X11_does_157, mv_Ev_row r_X11_does_158, mv_Ev_row r_X11_does_159, mv_Ev_row r_X11_does_160, mv_Ev_row r_X11_does_161, mv_Ev_row r_X11_does_164, mv_Ev_row r_X11_does_165, mv_Ev_row r_X11_does_166, mv_Ev_row r_X11_does_167, mv_Ev_row r_X11_does_170, ea_aload_n, gg_8_12, ea_iload_n, ea_iconst, ea_iadd, ea_istore_n, kv_X11_builds, ea_ireturn, ez_ret, ez_retc, kv_X11_opens, kv_X11_guards, kv_X11_frees, kv_X11_expects, kv_X11_clears, kv_X11_pours, kv_X11_goesOn, ar_ld0 ai_145, mv_ac, decide_eq_true_eq, not_true_eq_false, and_self, and_true, true_and, ea_2n, ea_2f, ea_2c, ea_if, mv_lk, mv_f1, mv_f2, Value.category, List.filter, ↓reduceIte, Nat.reduceEqDiff, Nat.reduceAdd, Nat.reduceLT, Nat.reduceBEq, Nat.zero_add, Nat.add_zero, Nat.zero_ne_one, Nat.one_ne_zero, Bool.not_true, Bool.not_false, Bool.and_true, Bool.true_and, Bool.and_false, Bool.false_and, BEq.rfl, beq_self_eq_true, Bool.false_eq_true, reduceCtorEq, not_false_eq_true, fv0, fv1, fv2, fv3, eb_l0, eb_l1, eb_l2, eb_l3, eb_l4, eb_l5, eb_s0, eb_s1, eb_s2, eb_s3, eb_s4, eb_s5, oz_add, oz_sub, oz_mul, oz_neg, ol_add, ol_sub, sD_eq, sD_sD, sD_ne, sD_in, sD_in2, sD_in3, upR_is, upR_ne, mk_v, mk_n, mk_x, mk_i, mv_cs, Nat.reduceLeDiff, mv_ch_z, nh_X11_does, hC, r0, r1, r2, r3, swd_99, q]
theorem c_X11_does_6 {m : Int} {as : List Int} (hm0 : 0 ≤ m) (hm : m ≤ 60) (hC : T.1 145 = C) (hr : rRow C m 6 as) (ha : zArg as) (hA : zWF A 99) (hd : 5 ≤ d) : mv_cl L xs d k_X11_does [.ref 142, .int (Int32.ofInt (4 * m))] (t, 149, mz (sD (sD T 142 F) 143 A)) = some (.inl (some (.int (Int32.ofInt ((zfOf 6 A (as.getD 0 0) (as.getD 1 0) (as.getD 2 0) : Nat) - 1010)))), (t, 149, mz (if zfOf 6 A (as.getD 0 0) (as.getD 1 0) (as.getD 2 0) = 1010 then sD (sD T 142 (upR F 4 (rCv 6 A (as.getD 0 0) (as.getD 1 0) (as.getD 2 0)))) 143 (rCo 6 A (as.getD 0 0) (as.getD 1 0) (as.getD 2 0)) else sD (sD T 142 F) 143 A))) := by
  obtain ⟨r0, r1, r2, r3⟩ := hr
  rw [show zChr 6 = 112 from rfl] at r0
  have a0 := ha 0
  have a1 := ha 1
  have a2 := ha 2
  have q := c_X11_op_6 (L := L) (xs := xs) (t := t) (T := T) (F := F) (d := d - 1) (p := as.getD 0 0) (q := as.getD 1 0) (r := as.getD 2 0) (by omega) hA (by omega) (by omega) (by omega) (by omega) (by omega) (by omega)
  obtain ⟨d, rfl⟩ : ∃ e, d = e + 1 := ⟨d - 1, by omega⟩
  apply mv_cl_of
  simp only [mv_il, Value.category, Nat.zero_add, Nat.reduceAdd]
  simp only [Nat.add_sub_cancel] at q
  simp (disch := omega) only [mv_Ev_row r_X11_does_0, mv_Ev_row r_X11_does_1, mv_Ev_row r_X11_does_4, mv_Ev_row r_X11_does_5, mv_Ev_row r_X11_does_6, mv_Ev_row r_X11_does_7, mv_Ev_row r_X11_does_8, mv_Ev_row r_X11_does_9, mv_Ev_row r_X11_does_10, mv_Ev_row r_X11_does_13, mv_Ev_row r_X11_does_14, mv_Ev_row r_X11_does_15, mv_Ev_row r_X11_does_16, mv_Ev_row r_X11_does_17, mv_Ev_row r_X11_does_18, mv_Ev_row r_X11_does_19, mv_Ev_row r_X11_does_22, mv_Ev_row r_X11_does_23, mv_Ev_row r_X11_does_24, mv_Ev_row r_X11_does_112, mv_Ev_row r_X11_does_113, mv_Ev_row r_X11_does_114, mv_Ev_row r_X11_does_115, mv_Ev_row r_X11_does_116, mv_Ev_row r_X11_does_119, mv_Ev_row r_X11_does_120, mv_Ev_row r_X11_does_121, mv_Ev_row r_X11_does_122, mv_Ev_row r_X11_does_123, mv_Ev_row r_X11_does_126, mv_Ev_row r_X11_does_127, mv_Ev_row r_X11_does_128, mv_Ev_row r_X11_does_129, mv_Ev_row r_X11_does_130, mv_Ev_row r_X11_does_133, mv_Ev_row r_X11_does_134, mv_Ev_row r_X11_does_135, mv_Ev_row r_X11_does_136, mv_Ev_row r_X11_does_137, mv_Ev_row r_X11_does_140, mv_Ev_row r_X11_does_141, mv_Ev_row r_X11_does_142, mv_Ev_row r_X11_does_143, mv_Ev_row r_X11_does_146, mv_Ev_row r_X11_does_147, mv_Ev_row r_X11_does_148, mv_Ev_row r_X11_does_149, mv_Ev_row r_X11_does_152, mv_Ev_row r_X11_does_153, mv_Ev_row r_X11_does_154, mv_Ev_row r_X11_does_157, mv_Ev_row r_X11_does_158, mv_Ev_row r_X11_does_159, mv_Ev_row r_X11_does_160, mv_Ev_row r_X11_does_161, mv_Ev_row r_X11_does_164, mv_Ev_row r_X11_does_165, mv_Ev_row r_X11_does_166, mv_Ev_row r_X11_does_167, mv_Ev_row r_X11_does_170, ea_aload_n, gg_8_12, ea_iload_n, ea_iconst, ea_iadd, ea_istore_n, kv_X11_builds, ea_ireturn, ez_ret, ez_retc, kv_X11_opens, kv_X11_guards, kv_X11_frees, kv_X11_expects, kv_X11_clears, kv_X11_pours, kv_X11_goesOn, ar_ld0 ai_145, mv_ac, decide_eq_true_eq, not_true_eq_false, and_self, and_true, true_and, ea_2n, ea_2f, ea_2c, ea_if, mv_lk, mv_f1, mv_f2, Value.category, List.filter, ↓reduceIte, Nat.reduceEqDiff, Nat.reduceAdd, Nat.reduceLT, Nat.reduceBEq, Nat.zero_add, Nat.add_zero, Nat.zero_ne_one, Nat.one_ne_zero, Bool.not_true, Bool.not_false, Bool.and_true, Bool.true_and, Bool.and_false, Bool.false_and, BEq.rfl, beq_self_eq_true, Bool.false_eq_true, reduceCtorEq, not_false_eq_true, fv0, fv1, fv2, fv3, eb_l0, eb_l1, eb_l2, eb_l3, eb_l4, eb_l5, eb_s0, eb_s1, eb_s2, eb_s3, eb_s4, eb_s5, oz_add, oz_sub, oz_mul, oz_neg, ol_add, ol_sub, sD_eq, sD_sD, sD_ne, sD_in, sD_in2, sD_in3, upR_is, upR_ne, mk_v, mk_n, mk_x, mk_i, mv_cs, Nat.reduceLeDiff, mv_ch_z, nh_X11_does, hC, r0, r1, r2, r3, swd_112, q]
theorem c_X11_does_7 {m : Int} {as : List Int} (hm0 : 0 ≤ m) (hm : m ≤ 60) (hC : T.1 145 = C) (hr : rRow C m 7 as) (ha : zArg as) (hA : zWF A 99) (hd : 5 ≤ d) : mv_cl L xs d k_X11_does [.ref 142, .int (Int32.ofInt (4 * m))] (t, 149, mz (sD (sD T 142 F) 143 A)) = some (.inl (some (.int (Int32.ofInt ((zfOf 7 A (as.getD 0 0) (as.getD 1 0) (as.getD 2 0) : Nat) - 1010)))), (t, 149, mz (if zfOf 7 A (as.getD 0 0) (as.getD 1 0) (as.getD 2 0) = 1010 then sD (sD T 142 (upR F 4 (rCv 7 A (as.getD 0 0) (as.getD 1 0) (as.getD 2 0)))) 143 (rCo 7 A (as.getD 0 0) (as.getD 1 0) (as.getD 2 0)) else sD (sD T 142 F) 143 A))) := by
  obtain ⟨r0, r1, r2, r3⟩ := hr
  rw [show zChr 7 = 115 from rfl] at r0
  have a0 := ha 0
  have a1 := ha 1
  have a2 := ha 2
  have q := c_X11_op_7 (L := L) (xs := xs) (t := t) (T := T) (F := F) (d := d - 1) (p := as.getD 0 0) (q := as.getD 1 0) (r := as.getD 2 0) (by omega) hA (fun m _ => rPs_wf m hA) (by omega) (by omega) (by omega) (by omega) (by omega) (by omega)
  obtain ⟨d, rfl⟩ : ∃ e, d = e + 1 := ⟨d - 1, by omega⟩
  apply mv_cl_of
  simp only [mv_il, Value.category, Nat.zero_add, Nat.reduceAdd]
  simp only [Nat.add_sub_cancel] at q
  simp (disch := omega) only [mv_Ev_row r_X11_does_0, mv_Ev_row r_X11_does_1, mv_Ev_row r_X11_does_4, mv_Ev_row r_X11_does_5, mv_Ev_row r_X11_does_6, mv_Ev_row r_X11_does_7, mv_Ev_row r_X11_does_8, mv_Ev_row r_X11_does_9, mv_Ev_row r_X11_does_10, mv_Ev_row r_X11_does_13, mv_Ev_row r_X11_does_14, mv_Ev_row r_X11_does_15, mv_Ev_row r_X11_does_16, mv_Ev_row r_X11_does_17, mv_Ev_row r_X11_does_18, mv_Ev_row r_X11_does_19, mv_Ev_row r_X11_does_22, mv_Ev_row r_X11_does_23, mv_Ev_row r_X11_does_24, mv_Ev_row r_X11_does_112, mv_Ev_row r_X11_does_113, mv_Ev_row r_X11_does_114, mv_Ev_row r_X11_does_115, mv_Ev_row r_X11_does_116, mv_Ev_row r_X11_does_119, mv_Ev_row r_X11_does_120, mv_Ev_row r_X11_does_121, mv_Ev_row r_X11_does_122, mv_Ev_row r_X11_does_123, mv_Ev_row r_X11_does_126, mv_Ev_row r_X11_does_127, mv_Ev_row r_X11_does_128, mv_Ev_row r_X11_does_129, mv_Ev_row r_X11_does_130, mv_Ev_row r_X11_does_133, mv_Ev_row r_X11_does_134, mv_Ev_row r_X11_does_135, mv_Ev_row r_X11_does_136, mv_Ev_row r_X11_does_137, mv_Ev_row r_X11_does_140, mv_Ev_row r_X11_does_141, mv_Ev_row r_X11_does_142, mv_Ev_row r_X11_does_143, mv_Ev_row r_X11_does_146, mv_Ev_row r_X11_does_147, mv_Ev_row r_X11_does_148, mv_Ev_row r_X11_does_149, mv_Ev_row r_X11_does_152, mv_Ev_row r_X11_does_153, mv_Ev_row r_X11_does_154, mv_Ev_row r_X11_does_157, mv_Ev_row r_X11_does_158, mv_Ev_row r_X11_does_159, mv_Ev_row r_X11_does_160, mv_Ev_row r_X11_does_161, mv_Ev_row r_X11_does_164, mv_Ev_row r_X11_does_165, mv_Ev_row r_X11_does_166, mv_Ev_row r_X11_does_167, mv_Ev_row r_X11_does_170, ea_aload_n, gg_8_12, ea_iload_n, ea_iconst, ea_iadd, ea_istore_n, kv_X11_builds, ea_ireturn, ez_ret, ez_retc, kv_X11_opens, kv_X11_guards, kv_X11_frees, kv_X11_expects, kv_X11_clears, kv_X11_pours, kv_X11_goesOn, ar_ld0 ai_145, mv_ac, decide_eq_true_eq, not_true_eq_false, and_self, and_true, true_and, ea_2n, ea_2f, ea_2c, ea_if, mv_lk, mv_f1, mv_f2, Value.category, List.filter, ↓reduceIte, Nat.reduceEqDiff, Nat.reduceAdd, Nat.reduceLT, Nat.reduceBEq, Nat.zero_add, Nat.add_zero, Nat.zero_ne_one, Nat.one_ne_zero, Bool.not_true, Bool.not_false, Bool.and_true, Bool.true_and, Bool.and_false, Bool.false_and, BEq.rfl, beq_self_eq_true, Bool.false_eq_true, reduceCtorEq, not_false_eq_true, fv0, fv1, fv2, fv3, eb_l0, eb_l1, eb_l2, eb_l3, eb_l4, eb_l5, eb_s0, eb_s1, eb_s2, eb_s3, eb_s4, eb_s5, oz_add, oz_sub, oz_mul, oz_neg, ol_add, ol_sub, sD_eq, sD_sD, sD_ne, sD_in, sD_in2, sD_in3, upR_is, upR_ne, mk_v, mk_n, mk_x, mk_i, mv_cs, Nat.reduceLeDiff, mv_ch_z, nh_X11_does, hC, r0, r1, r2, r3, swd_115, q]
theorem c_X11_does {k : Nat} {m : Int} {as : List Int} (hk : k < 8) (hm0 : 0 ≤ m) (hm : m ≤ 60) (hC : T.1 145 = C) (hr : rRow C m k as) (ha : zArg as) (hA : zWF A 99) (hd : 5 ≤ d) : mv_cl L xs d k_X11_does [.ref 142, .int (Int32.ofInt (4 * m))] (t, 149, mz (sD (sD T 142 F) 143 A)) = some (.inl (some (.int (Int32.ofInt ((zfOf k A (as.getD 0 0) (as.getD 1 0) (as.getD 2 0) : Nat) - 1010)))), (t, 149, mz (if zfOf k A (as.getD 0 0) (as.getD 1 0) (as.getD 2 0) = 1010 then sD (sD T 142 (upR F 4 (rCv k A (as.getD 0 0) (as.getD 1 0) (as.getD 2 0)))) 143 (rCo k A (as.getD 0 0) (as.getD 1 0) (as.getD 2 0)) else sD (sD T 142 F) 143 A))) := by
  match k, hk with
  | 0, _ => exact c_X11_does_0 hm0 hm hC hr ha hA hd
  | 1, _ => exact c_X11_does_1 hm0 hm hC hr ha hA hd
  | 2, _ => exact c_X11_does_2 hm0 hm hC hr ha hA hd
  | 3, _ => exact c_X11_does_3 hm0 hm hC hr ha hA hd
  | 4, _ => exact c_X11_does_4 hm0 hm hC hr ha hA hd
  | 5, _ => exact c_X11_does_5 hm0 hm hC hr ha hA hd
  | 6, _ => exact c_X11_does_6 hm0 hm hC hr ha hA hd
  | 7, _ => exact c_X11_does_7 hm0 hm hC hr ha hA hd
theorem lp_X11_run (hC : T.1 145 = C) (hd : 5 ≤ d) {N : Int} (hN : N ≤ 60) : ∀ (cs : List (Nat × List Int)) (i : Int) (F A : Int → Int), 0 ≤ i → i + cs.length = N → F 13 = N → zWF A 99 → (∀ c ∈ cs, c.1 < 8 ∧ zArg c.2) → (∀ j : Nat, j < cs.length → rRow C (i + j) (cs.getD j (0, [])).1 (cs.getD j (0, [])).2) →
    ∃ F', (∀ v, upR F' 4 v = upR F 4 v) ∧ zWF (rRun cs A).2 99 ∧ (rRun cs A).1 ≤ cs.length ∧ ∀ res, mv_Ev L xs (mv_cl L xs d) k_X11_run 61 [(1, .int (Int32.ofInt (i + (rRun cs A).1))), (0, .ref 142)] [] (t, 149, mz (sD (sD T 142 F') 143 (rRun cs A).2)) res → mv_Ev L xs (mv_cl L xs d) k_X11_run 37 [(1, .int (Int32.ofInt i)), (0, .ref 142)] [] (t, 149, mz (sD (sD T 142 F) 143 A)) res := by
  intro cs
  induction cs with
  | nil =>
    intro i F A h0 hi h13 hA hc hr
    refine ⟨F, fun _ => rfl, hA, Nat.le_refl 0, fun res h => ?_⟩
    have hi : i + ((0 : Nat) : Int) = N := hi
    rw [rRun, show i + (((0, A) : Nat × (Int → Int)).1 : Int) = i from (by show i + ((0 : Nat) : Int) = i; omega)] at h
    rw [mv_Ev_row r_X11_run_37]
    simp (disch := omega) only [mv_Ev_row r_X11_run_0, mv_Ev_row r_X11_run_1, mv_Ev_row r_X11_run_4, mv_Ev_row r_X11_run_5, mv_Ev_row r_X11_run_6, mv_Ev_row r_X11_run_9, mv_Ev_row r_X11_run_10, mv_Ev_row r_X11_run_13, mv_Ev_row r_X11_run_16, mv_Ev_row r_X11_run_17, mv_Ev_row r_X11_run_18, mv_Ev_row r_X11_run_21, mv_Ev_row r_X11_run_24, mv_Ev_row r_X11_run_25, mv_Ev_row r_X11_run_26, mv_Ev_row r_X11_run_29, mv_Ev_row r_X11_run_30, mv_Ev_row r_X11_run_31, mv_Ev_row r_X11_run_32, mv_Ev_row r_X11_run_35, mv_Ev_row r_X11_run_36, mv_Ev_row r_X11_run_38, mv_Ev_row r_X11_run_39, mv_Ev_row r_X11_run_42, mv_Ev_row r_X11_run_45, mv_Ev_row r_X11_run_46, mv_Ev_row r_X11_run_47, mv_Ev_row r_X11_run_48, mv_Ev_row r_X11_run_49, mv_Ev_row r_X11_run_52, mv_Ev_row r_X11_run_55, mv_Ev_row r_X11_run_58, mv_Ev_row r_X11_run_62, mv_Ev_row r_X11_run_63, mv_Ev_row r_X11_run_66, mv_Ev_row r_X11_run_69, mv_Ev_row r_X11_run_70, mv_Ev_row r_X11_run_73, mv_Ev_row r_X11_run_74, mv_Ev_row r_X11_run_75, mv_Ev_row r_X11_run_76, mv_Ev_row r_X11_run_77, mv_Ev_row r_X11_run_80, mv_Ev_row r_X11_run_81, mv_Ev_row r_X11_run_84, mv_Ev_row r_X11_run_87, mv_Ev_row r_X11_run_88, mv_Ev_row r_X11_run_91, mv_Ev_row r_X11_run_92, mv_Ev_row r_X11_run_93, mv_Ev_row r_X11_run_96, mv_Ev_row r_X11_run_99, mv_Ev_row r_X11_run_100, mv_Ev_row r_X11_run_101, mv_Ev_row r_X11_run_104, mv_Ev_row r_X11_run_105, mv_Ev_row r_X11_run_108, mv_Ev_row r_X11_run_109, mv_Ev_row r_X11_run_110, mv_Ev_row r_X11_run_111, mv_Ev_row r_X11_run_112, mv_Ev_row r_X11_run_113, mv_Ev_row r_X11_run_116, ea_aload_n, kv_X11_parse, ea_iconst, pp_8_7, gg_8_9, ea_ifc, pp_8_10, pp_8_0, ea_ireturn, ez_ret, ez_retc, kv_X11_begins, ea_istore_n, ea_iload_n, gg_8_13, ea_icmp, ea_imul, kv_X11_does, ea_iinc, eb_inc, ea_goto, gg_8_11, pp_8_11, pp_8_4, kv_X11_ends, cz_eq, cz_ne, cz_lt, cz_ge, cz_gt, cz_le, c0_eq, c0_ne, c0_lt, c0_ge, c0_gt, c0_le, mv_ac, decide_eq_true_eq, not_true_eq_false, and_self, and_true, true_and, ea_2n, ea_2f, ea_2c, ea_if, if_pos, if_neg, mv_lk, mv_f1, mv_f2, Value.category, List.filter, ↓reduceIte, Nat.reduceEqDiff, Nat.reduceAdd, Nat.reduceLT, Nat.reduceBEq, Nat.zero_add, Nat.add_zero, Nat.zero_ne_one, Nat.one_ne_zero, Bool.not_true, Bool.not_false, Bool.and_true, Bool.true_and, Bool.and_false, Bool.false_and, BEq.rfl, beq_self_eq_true, Bool.false_eq_true, reduceCtorEq, not_false_eq_true, fv0, fv1, fv2, fv3, eb_l0, eb_l1, eb_l2, eb_l3, eb_l4, eb_l5, eb_s0, eb_s1, eb_s2, eb_s3, eb_s4, eb_s5, oz_add, oz_sub, oz_mul, oz_neg, ol_add, ol_sub, sD_eq, sD_sD, sD_ne, sD_in, sD_in2, sD_in3, upR_is, upR_ne, mk_v, mk_n, mk_x, mk_i, mv_cs, Nat.reduceLeDiff, mv_ch_z, nh_X11_run]
    exact mv_Es h
  | cons c cs ih =>
    intro i F A h0 hi h13 hA hc hr
    rw [List.length_cons] at hi
    have hc0 := hc c List.mem_cons_self
    have hr0 : rRow C i c.1 c.2 := by
      have := hr 0 (by rw [List.length_cons]; omega)
      rw [show i + ((0 : Nat) : Int) = i by omega] at this
      exact this
    have q := c_X11_does (L := L) (xs := xs) (t := t) (T := T) (F := F) (d := d) hc0.1 h0 (by omega) hC hr0 hc0.2 hA hd
    have zb := zfOf_bd c.1 A (c.2.getD 0 0) (c.2.getD 1 0) (c.2.getD 2 0)
    by_cases hf : zfOf c.1 A (c.2.getD 0 0) (c.2.getD 1 0) (c.2.getD 2 0) = 1010
    · rw [hf, if_pos rfl, zr_0] at q
      obtain ⟨F', e1, e2, e3, e4⟩ := ih (i + 1) (upR F 4 (rCv c.1 A (c.2.getD 0 0) (c.2.getD 1 0) (c.2.getD 2 0))) (rCo c.1 A (c.2.getD 0 0) (c.2.getD 1 0) (c.2.getD 2 0)) (by omega) (by omega) (by rw [upR_ne _ _ (by omega)]; exact h13) (rCo_wf hc0.1 hA hf) (fun x hx => hc x (List.mem_cons_of_mem _ hx)) (fun j hj => by
        have := hr (j + 1) (by rw [List.length_cons]; omega)
        rw [show i + 1 + (j : Int) = i + ((j + 1 : Nat) : Int) by omega]
        exact this)
      have er : rRun (c :: cs) A = ((rRun cs (rCo c.1 A (c.2.getD 0 0) (c.2.getD 1 0) (c.2.getD 2 0))).1 + 1, (rRun cs (rCo c.1 A (c.2.getD 0 0) (c.2.getD 1 0) (c.2.getD 2 0))).2) := by rw [rRun, if_pos hf]
      refine ⟨F', fun v => by rw [e1 v, upR_up], by rw [er]; exact e2, by rw [er, List.length_cons]; show (rRun cs _).1 + 1 ≤ cs.length + 1; omega, fun res h => ?_⟩
      rw [er] at h
      have h := e4 res (by rw [show i + 1 + ((rRun cs (rCo c.1 A (c.2.getD 0 0) (c.2.getD 1 0) (c.2.getD 2 0))).1 : Int) = i + (((rRun cs (rCo c.1 A (c.2.getD 0 0) (c.2.getD 1 0) (c.2.getD 2 0))).1 + 1 : Nat) : Int) by omega]; exact h)
      rw [mv_Ev_row r_X11_run_37]
      simp (disch := omega) only [mv_Ev_row r_X11_run_0, mv_Ev_row r_X11_run_1, mv_Ev_row r_X11_run_4, mv_Ev_row r_X11_run_5, mv_Ev_row r_X11_run_6, mv_Ev_row r_X11_run_9, mv_Ev_row r_X11_run_10, mv_Ev_row r_X11_run_13, mv_Ev_row r_X11_run_16, mv_Ev_row r_X11_run_17, mv_Ev_row r_X11_run_18, mv_Ev_row r_X11_run_21, mv_Ev_row r_X11_run_24, mv_Ev_row r_X11_run_25, mv_Ev_row r_X11_run_26, mv_Ev_row r_X11_run_29, mv_Ev_row r_X11_run_30, mv_Ev_row r_X11_run_31, mv_Ev_row r_X11_run_32, mv_Ev_row r_X11_run_35, mv_Ev_row r_X11_run_36, mv_Ev_row r_X11_run_38, mv_Ev_row r_X11_run_39, mv_Ev_row r_X11_run_42, mv_Ev_row r_X11_run_45, mv_Ev_row r_X11_run_46, mv_Ev_row r_X11_run_47, mv_Ev_row r_X11_run_48, mv_Ev_row r_X11_run_49, mv_Ev_row r_X11_run_52, mv_Ev_row r_X11_run_55, mv_Ev_row r_X11_run_58, mv_Ev_row r_X11_run_62, mv_Ev_row r_X11_run_63, mv_Ev_row r_X11_run_66, mv_Ev_row r_X11_run_69, mv_Ev_row r_X11_run_70, mv_Ev_row r_X11_run_73, mv_Ev_row r_X11_run_74, mv_Ev_row r_X11_run_75, mv_Ev_row r_X11_run_76, mv_Ev_row r_X11_run_77, mv_Ev_row r_X11_run_80, mv_Ev_row r_X11_run_81, mv_Ev_row r_X11_run_84, mv_Ev_row r_X11_run_87, mv_Ev_row r_X11_run_88, mv_Ev_row r_X11_run_91, mv_Ev_row r_X11_run_92, mv_Ev_row r_X11_run_93, mv_Ev_row r_X11_run_96, mv_Ev_row r_X11_run_99, mv_Ev_row r_X11_run_100, mv_Ev_row r_X11_run_101, mv_Ev_row r_X11_run_104, mv_Ev_row r_X11_run_105, mv_Ev_row r_X11_run_108, mv_Ev_row r_X11_run_109, mv_Ev_row r_X11_run_110, mv_Ev_row r_X11_run_111, mv_Ev_row r_X11_run_112, mv_Ev_row r_X11_run_113, mv_Ev_row r_X11_run_116, ea_aload_n, kv_X11_parse, ea_iconst, pp_8_7, gg_8_9, ea_ifc, pp_8_10, pp_8_0, ea_ireturn, ez_ret, ez_retc, kv_X11_begins, ea_istore_n, ea_iload_n, gg_8_13, ea_icmp, ea_imul, kv_X11_does, ea_iinc, eb_inc, ea_goto, gg_8_11, pp_8_11, pp_8_4, kv_X11_ends, cz_eq, cz_ne, cz_lt, cz_ge, cz_gt, cz_le, c0_eq, c0_ne, c0_lt, c0_ge, c0_gt, c0_le, mv_ac, decide_eq_true_eq, not_true_eq_false, and_self, and_true, true_and, ea_2n, ea_2f, ea_2c, ea_if, if_pos, if_neg, mv_lk, mv_f1, mv_f2, Value.category, List.filter, ↓reduceIte, Nat.reduceEqDiff, Nat.reduceAdd, Nat.reduceLT, Nat.reduceBEq, Nat.zero_add, Nat.add_zero, Nat.zero_ne_one, Nat.one_ne_zero, Bool.not_true, Bool.not_false, Bool.and_true, Bool.true_and, Bool.and_false, Bool.false_and, BEq.rfl, beq_self_eq_true, Bool.false_eq_true, reduceCtorEq, not_false_eq_true, fv0, fv1, fv2, fv3, eb_l0, eb_l1, eb_l2, eb_l3, eb_l4, eb_l5, eb_s0, eb_s1, eb_s2, eb_s3, eb_s4, eb_s5, oz_add, oz_sub, oz_mul, oz_neg, ol_add, ol_sub, sD_eq, sD_sD, sD_ne, sD_in, sD_in2, sD_in3, upR_is, upR_ne, mk_v, mk_n, mk_x, mk_i, mv_cs, Nat.reduceLeDiff, mv_ch_z, nh_X11_run, q]
      exact mv_Es h
    · rw [if_neg hf] at q
      have er : rRun (c :: cs) A = (0, A) := by rw [rRun, if_neg hf]
      refine ⟨F, fun _ => rfl, by rw [er]; exact hA, by rw [er]; exact Nat.zero_le _, fun res h => ?_⟩
      rw [er, show i + (((0, A) : Nat × (Int → Int)).1 : Int) = i from (by show i + ((0 : Nat) : Int) = i; omega)] at h
      rw [mv_Ev_row r_X11_run_37]
      simp (disch := omega) only [mv_Ev_row r_X11_run_0, mv_Ev_row r_X11_run_1, mv_Ev_row r_X11_run_4, mv_Ev_row r_X11_run_5, mv_Ev_row r_X11_run_6, mv_Ev_row r_X11_run_9, mv_Ev_row r_X11_run_10, mv_Ev_row r_X11_run_13, mv_Ev_row r_X11_run_16, mv_Ev_row r_X11_run_17, mv_Ev_row r_X11_run_18, mv_Ev_row r_X11_run_21, mv_Ev_row r_X11_run_24, mv_Ev_row r_X11_run_25, mv_Ev_row r_X11_run_26, mv_Ev_row r_X11_run_29, mv_Ev_row r_X11_run_30, mv_Ev_row r_X11_run_31, mv_Ev_row r_X11_run_32, mv_Ev_row r_X11_run_35, mv_Ev_row r_X11_run_36, mv_Ev_row r_X11_run_38, mv_Ev_row r_X11_run_39, mv_Ev_row r_X11_run_42, mv_Ev_row r_X11_run_45, mv_Ev_row r_X11_run_46, mv_Ev_row r_X11_run_47, mv_Ev_row r_X11_run_48, mv_Ev_row r_X11_run_49, mv_Ev_row r_X11_run_52, mv_Ev_row r_X11_run_55, mv_Ev_row r_X11_run_58, mv_Ev_row r_X11_run_62, mv_Ev_row r_X11_run_63, mv_Ev_row r_X11_run_66, mv_Ev_row r_X11_run_69, mv_Ev_row r_X11_run_70, mv_Ev_row r_X11_run_73, mv_Ev_row r_X11_run_74, mv_Ev_row r_X11_run_75, mv_Ev_row r_X11_run_76, mv_Ev_row r_X11_run_77, mv_Ev_row r_X11_run_80, mv_Ev_row r_X11_run_81, mv_Ev_row r_X11_run_84, mv_Ev_row r_X11_run_87, mv_Ev_row r_X11_run_88, mv_Ev_row r_X11_run_91, mv_Ev_row r_X11_run_92, mv_Ev_row r_X11_run_93, mv_Ev_row r_X11_run_96, mv_Ev_row r_X11_run_99, mv_Ev_row r_X11_run_100, mv_Ev_row r_X11_run_101, mv_Ev_row r_X11_run_104, mv_Ev_row r_X11_run_105, mv_Ev_row r_X11_run_108, mv_Ev_row r_X11_run_109, mv_Ev_row r_X11_run_110, mv_Ev_row r_X11_run_111, mv_Ev_row r_X11_run_112, mv_Ev_row r_X11_run_113, mv_Ev_row r_X11_run_116, ea_aload_n, kv_X11_parse, ea_iconst, pp_8_7, gg_8_9, ea_ifc, pp_8_10, pp_8_0, ea_ireturn, ez_ret, ez_retc, kv_X11_begins, ea_istore_n, ea_iload_n, gg_8_13, ea_icmp, ea_imul, kv_X11_does, ea_iinc, eb_inc, ea_goto, gg_8_11, pp_8_11, pp_8_4, kv_X11_ends, cz_eq, cz_ne, cz_lt, cz_ge, cz_gt, cz_le, c0_eq, c0_ne, c0_lt, c0_ge, c0_gt, c0_le, mv_ac, decide_eq_true_eq, not_true_eq_false, and_self, and_true, true_and, ea_2n, ea_2f, ea_2c, ea_if, if_pos, if_neg, mv_lk, mv_f1, mv_f2, Value.category, List.filter, ↓reduceIte, Nat.reduceEqDiff, Nat.reduceAdd, Nat.reduceLT, Nat.reduceBEq, Nat.zero_add, Nat.add_zero, Nat.zero_ne_one, Nat.one_ne_zero, Bool.not_true, Bool.not_false, Bool.and_true, Bool.true_and, Bool.and_false, Bool.false_and, BEq.rfl, beq_self_eq_true, Bool.false_eq_true, reduceCtorEq, not_false_eq_true, fv0, fv1, fv2, fv3, eb_l0, eb_l1, eb_l2, eb_l3, eb_l4, eb_l5, eb_s0, eb_s1, eb_s2, eb_s3, eb_s4, eb_s5, oz_add, oz_sub, oz_mul, oz_neg, ol_add, ol_sub, sD_eq, sD_sD, sD_ne, sD_in, sD_in2, sD_in3, upR_is, upR_ne, mk_v, mk_n, mk_x, mk_i, mv_cs, Nat.reduceLeDiff, mv_ch_z, nh_X11_run, q]
      exact mv_Es h
theorem rTh_0 {a b c e : Int} : rTh 0 a b c e = 0 := by unfold rTh; simp
theorem rTh_4 {a b c e : Int} : rTh 4 a b c e = e := by unfold rTh; simp
/-- what run leaves -/
theorem c_X11_run (hX : T.1 144 = X) (hd : 7 ≤ d) (h7 : 0 ≤ F 7) (h60 : F 7 ≤ 60) (hx : ∀ j, 0 ≤ j → j < F 7 → 0 ≤ X j ∧ X j < 65536) (h2 : 0 ≤ F 2) (h8 : F 2 ≤ 8) (h11 : -1 ≤ F 11) (h11b : F 11 ≤ 1000) (hA : zWF A 99) : ∃ F' C' A' v, mv_cl L xs d k_X11_run [.ref 142] (t, 149, mz (sD (sD T 142 F) 143 A)) = some (.inl (some (.int (Int32.ofInt v))), (t, 149, mz (sD (sD (sD T 145 C') 142 F') 143 A'))) ∧
    F' 7 = 0 ∧ F' 3 = F 3 ∧ F' 15 = F 15 ∧
    ((zPg X (F 7) 60 0).1 = false → F' 0 = 1 ∧ F' 2 = F 2 ∧ F' 10 = (zPg X (F 7) 60 0).2.1 ∧ 0 ≤ F' 10 ∧ F' 10 ≤ 61 ∧ F' 11 = F 11 ∧ A' = A) ∧
    ((zPg X (F 7) 60 0).1 = true → F' 10 = F 10 ∧
      ((rRun (zPg X (F 7) 60 0).2.2 (rCp 0 10 A)).1 = (zPg X (F 7) 60 0).2.2.length → v = (zPg X (F 7) 60 0).2.2.length ∧ F' 0 = 0 ∧ F' 2 = (if F 2 = 8 then 8 else F 2 + 1) ∧ F' 11 = F 11 ∧ A' = rEnA 0 F (rRun (zPg X (F 7) 60 0).2.2 (rCp 0 10 A)).2) ∧
      (¬ (rRun (zPg X (F 7) 60 0).2.2 (rCp 0 10 A)).1 = (zPg X (F 7) 60 0).2.2.length → F' 0 = 2 ∧ F' 2 = F 2 ∧ F' 11 = (rRun (zPg X (F 7) 60 0).2.2 (rCp 0 10 A)).1 ∧ A' = rCp 10 0 (rRun (zPg X (F 7) 60 0).2.2 (rCp 0 10 A)).2)) := by
  have hX1 : (sD T 143 A).1 144 = X := by rw [sD_ne T A (by decide)]; exact hX
  obtain ⟨F1, C1, hr, hcl⟩ := c_X11_parse (L := L) (xs := xs) (t := t) (T := sD T 143 A) (F := F) (C := T.1 145) (d := d - 1) hX1 (by omega) h7 h60 hx
  rw [sD_rot T A F _ (by decide) (by decide) (by decide), sD_rot T A F1 C1 (by decide) (by decide) (by decide), sD_id] at hcl
  obtain ⟨hP1, hj, hok, hno⟩ := hr
  have j2 := hj 2 (by omega) (by omega) (by omega)
  have j3 := hj 3 (by omega) (by omega) (by omega)
  have j7 := hj 7 (by omega) (by omega) (by omega)
  have j10 := hj 10 (by omega) (by omega) (by omega)
  have j11 := hj 11 (by omega) (by omega) (by omega)
  have j15 := hj 15 (by omega) (by omega) (by omega)
  have hb9 := hP1.2.2.2.2.1
  have hb9' := hP1.2.2.2.2.2.1
  cases hq : (zPg X (F 7) 60 0).1 with
  | false =>
    obtain ⟨k9, k0⟩ := hno hq
    refine ⟨upR (upR (upR F1 7 0) 10 (F1 9)) 0 1, C1, A, 0, ?_, ?_, ?_, ?_, fun _ => ⟨?_, ?_, ?_, ?_, ?_, ?_, rfl⟩, fun h => (by cases h)⟩
    · obtain ⟨d, rfl⟩ : ∃ e, d = e + 1 := ⟨d - 1, by omega⟩
      apply mv_cl_of
      simp only [mv_il, Value.category, Nat.zero_add, Nat.reduceAdd]
      simp only [Nat.add_sub_cancel] at hcl
      simp (disch := omega) only [mv_Ev_row r_X11_run_0, mv_Ev_row r_X11_run_1, mv_Ev_row r_X11_run_4, mv_Ev_row r_X11_run_5, mv_Ev_row r_X11_run_6, mv_Ev_row r_X11_run_9, mv_Ev_row r_X11_run_10, mv_Ev_row r_X11_run_13, mv_Ev_row r_X11_run_16, mv_Ev_row r_X11_run_17, mv_Ev_row r_X11_run_18, mv_Ev_row r_X11_run_21, mv_Ev_row r_X11_run_24, mv_Ev_row r_X11_run_25, mv_Ev_row r_X11_run_26, mv_Ev_row r_X11_run_29, mv_Ev_row r_X11_run_30, mv_Ev_row r_X11_run_31, mv_Ev_row r_X11_run_32, mv_Ev_row r_X11_run_35, mv_Ev_row r_X11_run_36, mv_Ev_row r_X11_run_38, mv_Ev_row r_X11_run_39, mv_Ev_row r_X11_run_42, mv_Ev_row r_X11_run_45, mv_Ev_row r_X11_run_46, mv_Ev_row r_X11_run_47, mv_Ev_row r_X11_run_48, mv_Ev_row r_X11_run_49, mv_Ev_row r_X11_run_52, mv_Ev_row r_X11_run_55, mv_Ev_row r_X11_run_58, mv_Ev_row r_X11_run_62, mv_Ev_row r_X11_run_63, mv_Ev_row r_X11_run_66, mv_Ev_row r_X11_run_69, mv_Ev_row r_X11_run_70, mv_Ev_row r_X11_run_73, mv_Ev_row r_X11_run_74, mv_Ev_row r_X11_run_75, mv_Ev_row r_X11_run_76, mv_Ev_row r_X11_run_77, mv_Ev_row r_X11_run_80, mv_Ev_row r_X11_run_81, mv_Ev_row r_X11_run_84, mv_Ev_row r_X11_run_87, mv_Ev_row r_X11_run_88, mv_Ev_row r_X11_run_91, mv_Ev_row r_X11_run_92, mv_Ev_row r_X11_run_93, mv_Ev_row r_X11_run_96, mv_Ev_row r_X11_run_99, mv_Ev_row r_X11_run_100, mv_Ev_row r_X11_run_101, mv_Ev_row r_X11_run_104, mv_Ev_row r_X11_run_105, mv_Ev_row r_X11_run_108, mv_Ev_row r_X11_run_109, mv_Ev_row r_X11_run_110, mv_Ev_row r_X11_run_111, mv_Ev_row r_X11_run_112, mv_Ev_row r_X11_run_113, mv_Ev_row r_X11_run_116, ea_aload_n, kv_X11_parse, ea_iconst, pp_8_7, gg_8_9, ea_ifc, pp_8_10, pp_8_0, ea_ireturn, ez_ret, ez_retc, kv_X11_begins, ea_istore_n, ea_iload_n, gg_8_13, ea_icmp, ea_imul, kv_X11_does, ea_iinc, eb_inc, ea_goto, gg_8_11, pp_8_11, pp_8_4, kv_X11_ends, cz_eq, cz_ne, cz_lt, cz_ge, cz_gt, cz_le, c0_eq, c0_ne, c0_lt, c0_ge, c0_gt, c0_le, mv_ac, decide_eq_true_eq, not_true_eq_false, and_self, and_true, true_and, ea_2n, ea_2f, ea_2c, ea_if, if_pos, if_neg, mv_lk, mv_f1, mv_f2, Value.category, List.filter, ↓reduceIte, Nat.reduceEqDiff, Nat.reduceAdd, Nat.reduceLT, Nat.reduceBEq, Nat.zero_add, Nat.add_zero, Nat.zero_ne_one, Nat.one_ne_zero, Bool.not_true, Bool.not_false, Bool.and_true, Bool.true_and, Bool.and_false, Bool.false_and, BEq.rfl, beq_self_eq_true, Bool.false_eq_true, reduceCtorEq, not_false_eq_true, fv0, fv1, fv2, fv3, eb_l0, eb_l1, eb_l2, eb_l3, eb_l4, eb_l5, eb_s0, eb_s1, eb_s2, eb_s3, eb_s4, eb_s5, oz_add, oz_sub, oz_mul, oz_neg, ol_add, ol_sub, sD_eq, sD_sD, sD_ne, sD_in, sD_in2, sD_in3, upR_is, upR_ne, mk_v, mk_n, mk_x, mk_i, mv_cs, Nat.reduceLeDiff, mv_ch_z, nh_X11_run, hcl]
    · rw [upR_ne _ _ (by omega), upR_ne _ _ (by omega), upR_eq]
    · rw [upR_ne _ _ (by omega), upR_ne _ _ (by omega), upR_ne _ _ (by omega)]; exact j3
    · rw [upR_ne _ _ (by omega), upR_ne _ _ (by omega), upR_ne _ _ (by omega)]; exact j15
    · rw [upR_eq]
    · rw [upR_ne _ _ (by omega), upR_ne _ _ (by omega), upR_ne _ _ (by omega)]; exact j2
    · rw [upR_ne _ _ (by omega), upR_eq]; exact k9
    · rw [upR_ne _ _ (by omega), upR_eq]; exact k0
    · rw [upR_ne _ _ (by omega), upR_eq]; exact hb9'
    · rw [upR_ne _ _ (by omega), upR_ne _ _ (by omega), upR_ne _ _ (by omega)]; exact j11
  | true =>
    obtain ⟨k9, k13, kC, krow⟩ := hok hq
    have hlen := zPg_len X (F 7) 60 0
    have hCT : (sD T 145 C1).1 145 = C1 := sD_eq _ _ _
    have hA1 : zWF (rCp 0 10 A) 99 := zWF_cp (by omega) hA
    obtain ⟨F2, e1, e2, e3, e4⟩ := lp_X11_run (L := L) (xs := xs) (t := t) (T := sD T 145 C1) (d := d - 1) hCT (by omega) (N := F1 13) (by omega) (zPg X (F 7) 60 0).2.2 0 (upR F1 7 0) (rCp 0 10 A) (by omega) (by omega) (upR_ne _ _ (by omega)) hA1 (zPg_k X (F 7) 60 0) (fun j hj => krow j hj)
    have f2 : ∀ j, ¬ j = 4 → F2 j = upR F1 7 0 j := fun j h4 => by
      have := congrFun (e1 0) j
      rw [upR_ne _ _ h4, upR_ne _ _ h4] at this
      exact this
    have g2 : F2 2 = F 2 := by rw [f2 2 (by omega), upR_ne _ _ (by omega)]; exact j2
    have g3 : F2 3 = F 3 := by rw [f2 3 (by omega), upR_ne _ _ (by omega)]; exact j3
    have g7 : F2 7 = 0 := by rw [f2 7 (by omega), upR_eq]
    have g10 : F2 10 = F 10 := by rw [f2 10 (by omega), upR_ne _ _ (by omega)]; exact j10
    have g11 : F2 11 = F 11 := by rw [f2 11 (by omega), upR_ne _ _ (by omega)]; exact j11
    have g13 : F2 13 = F1 13 := by rw [f2 13 (by omega), upR_ne _ _ (by omega)]
    have g15 : F2 15 = F 15 := by rw [f2 15 (by omega), upR_ne _ _ (by omega)]; exact j15
    by_cases hdn : (rRun (zPg X (F 7) 60 0).2.2 (rCp 0 10 A)).1 = (zPg X (F 7) 60 0).2.2.length
    · have e0 : (0 : Int) + ((rRun (zPg X (F 7) 60 0).2.2 (rCp 0 10 A)).1 : Int) = F1 13 := by omega
      rw [e0] at e4
      have q := c_X11_ends (L := L) (xs := xs) (t := t) (T := sD T 145 C1) (F := upR (upR F2 11 (F 11)) 4 (F1 13)) (A := (rRun (zPg X (F 7) 60 0).2.2 (rCp 0 10 A)).2) (d := d - 1) (v := 0) (a := 0) (b := 0) (c := 0) (e := 2) (by omega) (by omega) (by omega) (by omega) (by omega) (by omega) (by omega) (by omega) (by omega) (by omega) (by omega) (by rw [upR_ne _ _ (by omega), upR_ne _ _ (by omega), g2]; exact h2) (by rw [upR_ne _ _ (by omega), upR_ne _ _ (by omega), g2]; exact h8)
      rw [rTh_0, if_pos rfl, upR_eq] at q
      have c2 : upR (upR F2 11 (F 11)) 4 (F1 13) 2 = F 2 := by rw [upR_ne _ _ (by omega), upR_ne _ _ (by omega)]; exact g2
      have eA : rEnA 0 (upR (upR F2 11 (F 11)) 4 (F1 13)) (rRun (zPg X (F 7) 60 0).2.2 (rCp 0 10 A)).2 = rEnA 0 F (rRun (zPg X (F 7) 60 0).2.2 (rCp 0 10 A)).2 := by unfold rEnA; rw [c2]
      have hj' : ∀ j, ¬ j = 0 → ¬ j = 2 → ¬ j = 4 → ¬ j = 11 → rEnF 0 (upR (upR F2 11 (F 11)) 4 (F1 13)) j = F2 j := fun j h0 h2 h4 h11 => by
        unfold rEnF
        rw [if_pos rfl]
        split
        · rw [upR_ne _ _ h2, upR_ne _ _ h0, upR_ne _ _ h4, upR_ne _ _ h11]
        · rw [upR_ne _ _ h2, upR_ne _ _ h0, upR_ne _ _ h4, upR_ne _ _ h11]
      refine ⟨rEnF 0 (upR (upR F2 11 (F 11)) 4 (F1 13)), C1, rEnA 0 F (rRun (zPg X (F 7) 60 0).2.2 (rCp 0 10 A)).2, F1 13, ?_, ?_, ?_, ?_, fun h => (by cases h), fun _ => ⟨?_, fun _ => ⟨by omega, ?_, ?_, ?_, rfl⟩, fun h => absurd hdn h⟩⟩
      · rw [eA] at q
        obtain ⟨d, rfl⟩ : ∃ e, d = e + 1 := ⟨d - 1, by omega⟩
        apply mv_cl_of
        simp only [mv_il, Value.category, Nat.zero_add, Nat.reduceAdd]
        simp only [Nat.add_sub_cancel] at hcl e4 q
        simp (disch := omega) only [mv_Ev_row r_X11_run_0, mv_Ev_row r_X11_run_1, mv_Ev_row r_X11_run_4, mv_Ev_row r_X11_run_5, mv_Ev_row r_X11_run_6, mv_Ev_row r_X11_run_9, mv_Ev_row r_X11_run_10, mv_Ev_row r_X11_run_13, mv_Ev_row r_X11_run_16, mv_Ev_row r_X11_run_17, mv_Ev_row r_X11_run_18, mv_Ev_row r_X11_run_21, mv_Ev_row r_X11_run_24, mv_Ev_row r_X11_run_25, mv_Ev_row r_X11_run_26, mv_Ev_row r_X11_run_29, mv_Ev_row r_X11_run_30, mv_Ev_row r_X11_run_31, mv_Ev_row r_X11_run_32, mv_Ev_row r_X11_run_35, mv_Ev_row r_X11_run_36, mv_Ev_row r_X11_run_38, mv_Ev_row r_X11_run_39, mv_Ev_row r_X11_run_42, mv_Ev_row r_X11_run_45, mv_Ev_row r_X11_run_46, mv_Ev_row r_X11_run_47, mv_Ev_row r_X11_run_48, mv_Ev_row r_X11_run_49, mv_Ev_row r_X11_run_52, mv_Ev_row r_X11_run_55, mv_Ev_row r_X11_run_58, mv_Ev_row r_X11_run_62, mv_Ev_row r_X11_run_63, mv_Ev_row r_X11_run_66, mv_Ev_row r_X11_run_69, mv_Ev_row r_X11_run_70, mv_Ev_row r_X11_run_73, mv_Ev_row r_X11_run_74, mv_Ev_row r_X11_run_75, mv_Ev_row r_X11_run_76, mv_Ev_row r_X11_run_77, mv_Ev_row r_X11_run_80, mv_Ev_row r_X11_run_81, mv_Ev_row r_X11_run_84, mv_Ev_row r_X11_run_87, mv_Ev_row r_X11_run_88, mv_Ev_row r_X11_run_91, mv_Ev_row r_X11_run_92, mv_Ev_row r_X11_run_93, mv_Ev_row r_X11_run_96, mv_Ev_row r_X11_run_99, mv_Ev_row r_X11_run_100, mv_Ev_row r_X11_run_101, mv_Ev_row r_X11_run_104, mv_Ev_row r_X11_run_105, mv_Ev_row r_X11_run_108, mv_Ev_row r_X11_run_109, mv_Ev_row r_X11_run_110, mv_Ev_row r_X11_run_111, mv_Ev_row r_X11_run_112, mv_Ev_row r_X11_run_113, mv_Ev_row r_X11_run_116, ea_aload_n, kv_X11_parse, ea_iconst, pp_8_7, gg_8_9, ea_ifc, pp_8_10, pp_8_0, ea_ireturn, ez_ret, ez_retc, kv_X11_begins, ea_istore_n, ea_iload_n, gg_8_13, ea_icmp, ea_imul, kv_X11_does, ea_iinc, eb_inc, ea_goto, gg_8_11, pp_8_11, pp_8_4, kv_X11_ends, cz_eq, cz_ne, cz_lt, cz_ge, cz_gt, cz_le, c0_eq, c0_ne, c0_lt, c0_ge, c0_gt, c0_le, mv_ac, decide_eq_true_eq, not_true_eq_false, and_self, and_true, true_and, ea_2n, ea_2f, ea_2c, ea_if, mv_lk, mv_f1, mv_f2, Value.category, List.filter, ↓reduceIte, Nat.reduceEqDiff, Nat.reduceAdd, Nat.reduceLT, Nat.reduceBEq, Nat.zero_add, Nat.add_zero, Nat.zero_ne_one, Nat.one_ne_zero, Bool.not_true, Bool.not_false, Bool.and_true, Bool.true_and, Bool.and_false, Bool.false_and, BEq.rfl, beq_self_eq_true, Bool.false_eq_true, reduceCtorEq, not_false_eq_true, fv0, fv1, fv2, fv3, eb_l0, eb_l1, eb_l2, eb_l3, eb_l4, eb_l5, eb_s0, eb_s1, eb_s2, eb_s3, eb_s4, eb_s5, oz_add, oz_sub, oz_mul, oz_neg, ol_add, ol_sub, sD_eq, sD_sD, sD_ne, sD_in, sD_in2, sD_in3, upR_is, upR_ne, mk_v, mk_n, mk_x, mk_i, mv_cs, Nat.reduceLeDiff, mv_ch_z, nh_X11_run, hcl, c_X11_begins, k9, if_pos (show (-1 : Int) < 0 by decide)]
        refine mv_Es (e4 _ ?_)
        simp (disch := omega) only [mv_Ev_row r_X11_run_0, mv_Ev_row r_X11_run_1, mv_Ev_row r_X11_run_4, mv_Ev_row r_X11_run_5, mv_Ev_row r_X11_run_6, mv_Ev_row r_X11_run_9, mv_Ev_row r_X11_run_10, mv_Ev_row r_X11_run_13, mv_Ev_row r_X11_run_16, mv_Ev_row r_X11_run_17, mv_Ev_row r_X11_run_18, mv_Ev_row r_X11_run_21, mv_Ev_row r_X11_run_24, mv_Ev_row r_X11_run_25, mv_Ev_row r_X11_run_26, mv_Ev_row r_X11_run_29, mv_Ev_row r_X11_run_30, mv_Ev_row r_X11_run_31, mv_Ev_row r_X11_run_32, mv_Ev_row r_X11_run_35, mv_Ev_row r_X11_run_36, mv_Ev_row r_X11_run_38, mv_Ev_row r_X11_run_39, mv_Ev_row r_X11_run_42, mv_Ev_row r_X11_run_45, mv_Ev_row r_X11_run_46, mv_Ev_row r_X11_run_47, mv_Ev_row r_X11_run_48, mv_Ev_row r_X11_run_49, mv_Ev_row r_X11_run_52, mv_Ev_row r_X11_run_55, mv_Ev_row r_X11_run_58, mv_Ev_row r_X11_run_61, mv_Ev_row r_X11_run_62, mv_Ev_row r_X11_run_63, mv_Ev_row r_X11_run_66, mv_Ev_row r_X11_run_69, mv_Ev_row r_X11_run_70, mv_Ev_row r_X11_run_73, mv_Ev_row r_X11_run_74, mv_Ev_row r_X11_run_75, mv_Ev_row r_X11_run_76, mv_Ev_row r_X11_run_77, mv_Ev_row r_X11_run_80, mv_Ev_row r_X11_run_81, mv_Ev_row r_X11_run_84, mv_Ev_row r_X11_run_87, mv_Ev_row r_X11_run_88, mv_Ev_row r_X11_run_91, mv_Ev_row r_X11_run_92, mv_Ev_row r_X11_run_93, mv_Ev_row r_X11_run_96, mv_Ev_row r_X11_run_99, mv_Ev_row r_X11_run_100, mv_Ev_row r_X11_run_101, mv_Ev_row r_X11_run_104, mv_Ev_row r_X11_run_105, mv_Ev_row r_X11_run_108, mv_Ev_row r_X11_run_109, mv_Ev_row r_X11_run_110, mv_Ev_row r_X11_run_111, mv_Ev_row r_X11_run_112, mv_Ev_row r_X11_run_113, mv_Ev_row r_X11_run_116, ea_aload_n, kv_X11_parse, ea_iconst, pp_8_7, gg_8_9, ea_ifc, pp_8_10, pp_8_0, ea_ireturn, ez_ret, ez_retc, kv_X11_begins, ea_istore_n, ea_iload_n, gg_8_13, ea_icmp, ea_imul, kv_X11_does, ea_iinc, eb_inc, ea_goto, gg_8_11, pp_8_11, pp_8_4, kv_X11_ends, cz_eq, cz_ne, cz_lt, cz_ge, cz_gt, cz_le, c0_eq, c0_ne, c0_lt, c0_ge, c0_gt, c0_le, mv_ac, decide_eq_true_eq, not_true_eq_false, and_self, and_true, true_and, ea_2n, ea_2f, ea_2c, ea_if, if_pos, if_neg, mv_lk, mv_f1, mv_f2, Value.category, List.filter, ↓reduceIte, Nat.reduceEqDiff, Nat.reduceAdd, Nat.reduceLT, Nat.reduceBEq, Nat.zero_add, Nat.add_zero, Nat.zero_ne_one, Nat.one_ne_zero, Bool.not_true, Bool.not_false, Bool.and_true, Bool.true_and, Bool.and_false, Bool.false_and, BEq.rfl, beq_self_eq_true, Bool.false_eq_true, reduceCtorEq, not_false_eq_true, fv0, fv1, fv2, fv3, eb_l0, eb_l1, eb_l2, eb_l3, eb_l4, eb_l5, eb_s0, eb_s1, eb_s2, eb_s3, eb_s4, eb_s5, oz_add, oz_sub, oz_mul, oz_neg, ol_add, ol_sub, sD_eq, sD_sD, sD_ne, sD_in, sD_in2, sD_in3, upR_is, upR_ne, mk_v, mk_n, mk_x, mk_i, mv_cs, Nat.reduceLeDiff, mv_ch_z, nh_X11_run, g13, g11, q]
      · rw [hj' 7 (by omega) (by omega) (by omega) (by omega)]; exact g7
      · rw [hj' 3 (by omega) (by omega) (by omega) (by omega)]; exact g3
      · rw [hj' 15 (by omega) (by omega) (by omega) (by omega)]; exact g15
      · rw [hj' 10 (by omega) (by omega) (by omega) (by omega)]; exact g10
      · unfold rEnF; rw [if_pos rfl]; split <;> rw [upR_ne _ _ (by omega), upR_eq]
      · unfold rEnF; rw [if_pos rfl, c2]; split <;> rw [upR_eq]
      · unfold rEnF; rw [if_pos rfl]; split <;> rw [upR_ne _ _ (by omega), upR_ne _ _ (by omega), upR_ne _ _ (by omega), upR_eq]
    · have e0 : ¬ (0 : Int) + ((rRun (zPg X (F 7) 60 0).2.2 (rCp 0 10 A)).1 : Int) = F1 13 := by omega
      have q := c_X11_ends (L := L) (xs := xs) (t := t) (T := sD T 145 C1) (F := upR (upR F2 11 (0 + ((rRun (zPg X (F 7) 60 0).2.2 (rCp 0 10 A)).1 : Int))) 4 (F1 13)) (A := (rRun (zPg X (F 7) 60 0).2.2 (rCp 0 10 A)).2) (d := d - 1) (v := 4) (a := 0) (b := 0) (c := 0) (e := 2) (by omega) (by omega) (by omega) (by omega) (by omega) (by omega) (by omega) (by omega) (by omega) (by omega) (by omega) (by rw [upR_ne _ _ (by omega), upR_ne _ _ (by omega), g2]; exact h2) (by rw [upR_ne _ _ (by omega), upR_ne _ _ (by omega), g2]; exact h8)
      rw [rTh_4, if_neg (by decide), show rEnA 2 (upR (upR F2 11 (0 + ((rRun (zPg X (F 7) 60 0).2.2 (rCp 0 10 A)).1 : Int))) 4 (F1 13)) (rRun (zPg X (F 7) 60 0).2.2 (rCp 0 10 A)).2 = rCp 10 0 (rRun (zPg X (F 7) 60 0).2.2 (rCp 0 10 A)).2 from rfl, show rEnF 2 (upR (upR F2 11 (0 + ((rRun (zPg X (F 7) 60 0).2.2 (rCp 0 10 A)).1 : Int))) 4 (F1 13)) = upR (upR (upR F2 11 (0 + ((rRun (zPg X (F 7) 60 0).2.2 (rCp 0 10 A)).1 : Int))) 4 (F1 13)) 0 2 from rfl] at q
      refine ⟨upR (upR (upR F2 11 (0 + ((rRun (zPg X (F 7) 60 0).2.2 (rCp 0 10 A)).1 : Int))) 4 (F1 13)) 0 2, C1, rCp 10 0 (rRun (zPg X (F 7) 60 0).2.2 (rCp 0 10 A)).2, 0, ?_, ?_, ?_, ?_, fun h => (by cases h), fun _ => ⟨?_, fun h => absurd h hdn, fun _ => ⟨upR_eq _ _ _, ?_, ?_, rfl⟩⟩⟩
      · obtain ⟨d, rfl⟩ : ∃ e, d = e + 1 := ⟨d - 1, by omega⟩
        apply mv_cl_of
        simp only [mv_il, Value.category, Nat.zero_add, Nat.reduceAdd]
        simp only [Nat.add_sub_cancel] at hcl e4 q
        simp (disch := omega) only [mv_Ev_row r_X11_run_0, mv_Ev_row r_X11_run_1, mv_Ev_row r_X11_run_4, mv_Ev_row r_X11_run_5, mv_Ev_row r_X11_run_6, mv_Ev_row r_X11_run_9, mv_Ev_row r_X11_run_10, mv_Ev_row r_X11_run_13, mv_Ev_row r_X11_run_16, mv_Ev_row r_X11_run_17, mv_Ev_row r_X11_run_18, mv_Ev_row r_X11_run_21, mv_Ev_row r_X11_run_24, mv_Ev_row r_X11_run_25, mv_Ev_row r_X11_run_26, mv_Ev_row r_X11_run_29, mv_Ev_row r_X11_run_30, mv_Ev_row r_X11_run_31, mv_Ev_row r_X11_run_32, mv_Ev_row r_X11_run_35, mv_Ev_row r_X11_run_36, mv_Ev_row r_X11_run_38, mv_Ev_row r_X11_run_39, mv_Ev_row r_X11_run_42, mv_Ev_row r_X11_run_45, mv_Ev_row r_X11_run_46, mv_Ev_row r_X11_run_47, mv_Ev_row r_X11_run_48, mv_Ev_row r_X11_run_49, mv_Ev_row r_X11_run_52, mv_Ev_row r_X11_run_55, mv_Ev_row r_X11_run_58, mv_Ev_row r_X11_run_62, mv_Ev_row r_X11_run_63, mv_Ev_row r_X11_run_66, mv_Ev_row r_X11_run_69, mv_Ev_row r_X11_run_70, mv_Ev_row r_X11_run_73, mv_Ev_row r_X11_run_74, mv_Ev_row r_X11_run_75, mv_Ev_row r_X11_run_76, mv_Ev_row r_X11_run_77, mv_Ev_row r_X11_run_80, mv_Ev_row r_X11_run_81, mv_Ev_row r_X11_run_84, mv_Ev_row r_X11_run_87, mv_Ev_row r_X11_run_88, mv_Ev_row r_X11_run_91, mv_Ev_row r_X11_run_92, mv_Ev_row r_X11_run_93, mv_Ev_row r_X11_run_96, mv_Ev_row r_X11_run_99, mv_Ev_row r_X11_run_100, mv_Ev_row r_X11_run_101, mv_Ev_row r_X11_run_104, mv_Ev_row r_X11_run_105, mv_Ev_row r_X11_run_108, mv_Ev_row r_X11_run_109, mv_Ev_row r_X11_run_110, mv_Ev_row r_X11_run_111, mv_Ev_row r_X11_run_112, mv_Ev_row r_X11_run_113, mv_Ev_row r_X11_run_116, ea_aload_n, kv_X11_parse, ea_iconst, pp_8_7, gg_8_9, ea_ifc, pp_8_10, pp_8_0, ea_ireturn, ez_ret, ez_retc, kv_X11_begins, ea_istore_n, ea_iload_n, gg_8_13, ea_icmp, ea_imul, kv_X11_does, ea_iinc, eb_inc, ea_goto, gg_8_11, pp_8_11, pp_8_4, kv_X11_ends, cz_eq, cz_ne, cz_lt, cz_ge, cz_gt, cz_le, c0_eq, c0_ne, c0_lt, c0_ge, c0_gt, c0_le, mv_ac, decide_eq_true_eq, not_true_eq_false, and_self, and_true, true_and, ea_2n, ea_2f, ea_2c, ea_if, mv_lk, mv_f1, mv_f2, Value.category, List.filter, ↓reduceIte, Nat.reduceEqDiff, Nat.reduceAdd, Nat.reduceLT, Nat.reduceBEq, Nat.zero_add, Nat.add_zero, Nat.zero_ne_one, Nat.one_ne_zero, Bool.not_true, Bool.not_false, Bool.and_true, Bool.true_and, Bool.and_false, Bool.false_and, BEq.rfl, beq_self_eq_true, Bool.false_eq_true, reduceCtorEq, not_false_eq_true, fv0, fv1, fv2, fv3, eb_l0, eb_l1, eb_l2, eb_l3, eb_l4, eb_l5, eb_s0, eb_s1, eb_s2, eb_s3, eb_s4, eb_s5, oz_add, oz_sub, oz_mul, oz_neg, ol_add, ol_sub, sD_eq, sD_sD, sD_ne, sD_in, sD_in2, sD_in3, upR_is, upR_ne, mk_v, mk_n, mk_x, mk_i, mv_cs, Nat.reduceLeDiff, mv_ch_z, nh_X11_run, hcl, c_X11_begins, k9, if_pos (show (-1 : Int) < 0 by decide)]
        refine mv_Es (e4 _ ?_)
        simp (disch := omega) only [mv_Ev_row r_X11_run_0, mv_Ev_row r_X11_run_1, mv_Ev_row r_X11_run_4, mv_Ev_row r_X11_run_5, mv_Ev_row r_X11_run_6, mv_Ev_row r_X11_run_9, mv_Ev_row r_X11_run_10, mv_Ev_row r_X11_run_13, mv_Ev_row r_X11_run_16, mv_Ev_row r_X11_run_17, mv_Ev_row r_X11_run_18, mv_Ev_row r_X11_run_21, mv_Ev_row r_X11_run_24, mv_Ev_row r_X11_run_25, mv_Ev_row r_X11_run_26, mv_Ev_row r_X11_run_29, mv_Ev_row r_X11_run_30, mv_Ev_row r_X11_run_31, mv_Ev_row r_X11_run_32, mv_Ev_row r_X11_run_35, mv_Ev_row r_X11_run_36, mv_Ev_row r_X11_run_38, mv_Ev_row r_X11_run_39, mv_Ev_row r_X11_run_42, mv_Ev_row r_X11_run_45, mv_Ev_row r_X11_run_46, mv_Ev_row r_X11_run_47, mv_Ev_row r_X11_run_48, mv_Ev_row r_X11_run_49, mv_Ev_row r_X11_run_52, mv_Ev_row r_X11_run_55, mv_Ev_row r_X11_run_58, mv_Ev_row r_X11_run_61, mv_Ev_row r_X11_run_62, mv_Ev_row r_X11_run_63, mv_Ev_row r_X11_run_66, mv_Ev_row r_X11_run_69, mv_Ev_row r_X11_run_70, mv_Ev_row r_X11_run_73, mv_Ev_row r_X11_run_74, mv_Ev_row r_X11_run_75, mv_Ev_row r_X11_run_76, mv_Ev_row r_X11_run_77, mv_Ev_row r_X11_run_80, mv_Ev_row r_X11_run_81, mv_Ev_row r_X11_run_84, mv_Ev_row r_X11_run_87, mv_Ev_row r_X11_run_88, mv_Ev_row r_X11_run_91, mv_Ev_row r_X11_run_92, mv_Ev_row r_X11_run_93, mv_Ev_row r_X11_run_96, mv_Ev_row r_X11_run_99, mv_Ev_row r_X11_run_100, mv_Ev_row r_X11_run_101, mv_Ev_row r_X11_run_104, mv_Ev_row r_X11_run_105, mv_Ev_row r_X11_run_108, mv_Ev_row r_X11_run_109, mv_Ev_row r_X11_run_110, mv_Ev_row r_X11_run_111, mv_Ev_row r_X11_run_112, mv_Ev_row r_X11_run_113, mv_Ev_row r_X11_run_116, ea_aload_n, kv_X11_parse, ea_iconst, pp_8_7, gg_8_9, ea_ifc, pp_8_10, pp_8_0, ea_ireturn, ez_ret, ez_retc, kv_X11_begins, ea_istore_n, ea_iload_n, gg_8_13, ea_icmp, ea_imul, kv_X11_does, ea_iinc, eb_inc, ea_goto, gg_8_11, pp_8_11, pp_8_4, kv_X11_ends, cz_eq, cz_ne, cz_lt, cz_ge, cz_gt, cz_le, c0_eq, c0_ne, c0_lt, c0_ge, c0_gt, c0_le, mv_ac, decide_eq_true_eq, not_true_eq_false, and_self, and_true, true_and, ea_2n, ea_2f, ea_2c, ea_if, if_pos, if_neg, mv_lk, mv_f1, mv_f2, Value.category, List.filter, ↓reduceIte, Nat.reduceEqDiff, Nat.reduceAdd, Nat.reduceLT, Nat.reduceBEq, Nat.zero_add, Nat.add_zero, Nat.zero_ne_one, Nat.one_ne_zero, Bool.not_true, Bool.not_false, Bool.and_true, Bool.true_and, Bool.and_false, Bool.false_and, BEq.rfl, beq_self_eq_true, Bool.false_eq_true, reduceCtorEq, not_false_eq_true, fv0, fv1, fv2, fv3, eb_l0, eb_l1, eb_l2, eb_l3, eb_l4, eb_l5, eb_s0, eb_s1, eb_s2, eb_s3, eb_s4, eb_s5, oz_add, oz_sub, oz_mul, oz_neg, ol_add, ol_sub, sD_eq, sD_sD, sD_ne, sD_in, sD_in2, sD_in3, upR_is, upR_ne, mk_v, mk_n, mk_x, mk_i, mv_cs, Nat.reduceLeDiff, mv_ch_z, nh_X11_run, g13, q]
      · rw [upR_ne _ _ (by omega), upR_ne _ _ (by omega), upR_ne _ _ (by omega)]; exact g7
      · rw [upR_ne _ _ (by omega), upR_ne _ _ (by omega), upR_ne _ _ (by omega)]; exact g3
      · rw [upR_ne _ _ (by omega), upR_ne _ _ (by omega), upR_ne _ _ (by omega)]; exact g15
      · rw [upR_ne _ _ (by omega), upR_ne _ _ (by omega), upR_ne _ _ (by omega)]; exact g10
      · rw [upR_ne _ _ (by omega), upR_ne _ _ (by omega), upR_ne _ _ (by omega)]; exact g2
      · rw [upR_ne _ _ (by omega), upR_ne _ _ (by omega), upR_eq]; omega
end RF11
