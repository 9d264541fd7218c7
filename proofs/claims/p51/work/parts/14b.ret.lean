/-! HOW EACH METHOD RETURNS; THE TABLES OF HANDLERS -/
def mv_rck (j : mv_J) (q : Nat × mv_I) : Bool := match q.2 with
  | (.ireturn, _, a, _, _) => decide (j.2.2.2.1 = some (if a = 0 then .int else if a = 1 then .boolean else .char))
  | (.lreturn, _) => decide (j.2.2.2.1 = some .long)
  | (.freturn, _) => decide (j.2.2.2.1 = some .float)
  | (.dreturn, _) => decide (j.2.2.2.1 = some .double)
  | (.areturn, _) => (match j.2.2.2.1 with | some (.object _) => true | _ => false)
  | (.return_, _) => decide (j.2.2.2.1 = none)
  | _ => true
def mv_allR : List (List (Nat × mv_I)) → List mv_J → Prop
  | t :: ts, j :: js => t.all (mv_rck j) = true ∧ mv_allR ts js
  | [], [] => True
  | _, _ => False
theorem mv_allR_app : ∀ {a : List (List (Nat × mv_I))} {b : List mv_J} {c : List (List (Nat × mv_I))} {d : List mv_J}, mv_allR a b → mv_allR c d → mv_allR (a ++ c) (b ++ d)
  | [], [], _, _, _, h => h
  | [], _ :: _, _, _, h, _ => h.elim
  | _ :: _, [], _, _, h, _ => h.elim
  | _ :: _, _ :: _, _, _, h, h' => ⟨h.1, mv_allR_app h.2 h'⟩
theorem rt_L_law_0 : t_L_law_0.all (mv_rck (code, ⟨"SluiceChainLaw", "law", "([I)Z"⟩, 23, some .boolean, 0, 0, 0, 0, 0)) = true := by decide +kernel
theorem rt_L_law_1 : t_L_law_1.all (mv_rck (code, ⟨"SluiceChainLaw", "law", "([I)Z"⟩, 23, some .boolean, 0, 0, 0, 0, 0)) = true := by decide +kernel
theorem rt_L_law_2 : t_L_law_2.all (mv_rck (code, ⟨"SluiceChainLaw", "law", "([I)Z"⟩, 23, some .boolean, 0, 0, 0, 0, 0)) = true := by decide +kernel
theorem rt_L_law_3 : t_L_law_3.all (mv_rck (code, ⟨"SluiceChainLaw", "law", "([I)Z"⟩, 23, some .boolean, 0, 0, 0, 0, 0)) = true := by decide +kernel
theorem rt_L_law_4 : t_L_law_4.all (mv_rck (code, ⟨"SluiceChainLaw", "law", "([I)Z"⟩, 23, some .boolean, 0, 0, 0, 0, 0)) = true := by decide +kernel
theorem rt_L_law_5 : t_L_law_5.all (mv_rck (code, ⟨"SluiceChainLaw", "law", "([I)Z"⟩, 23, some .boolean, 0, 0, 0, 0, 0)) = true := by decide +kernel
theorem rt_L_law_6 : t_L_law_6.all (mv_rck (code, ⟨"SluiceChainLaw", "law", "([I)Z"⟩, 23, some .boolean, 0, 0, 0, 0, 0)) = true := by decide +kernel
theorem rt_L_law_7 : t_L_law_7.all (mv_rck (code, ⟨"SluiceChainLaw", "law", "([I)Z"⟩, 23, some .boolean, 0, 0, 0, 0, 0)) = true := by decide +kernel
theorem rt_L_law_8 : t_L_law_8.all (mv_rck (code, ⟨"SluiceChainLaw", "law", "([I)Z"⟩, 23, some .boolean, 0, 0, 0, 0, 0)) = true := by decide +kernel
theorem rt_L_law : t_L_law.all (mv_rck (code, ⟨"SluiceChainLaw", "law", "([I)Z"⟩, 23, some .boolean, 0, 0, 0, 0, 0)) = true := (mv_alla rt_L_law_0 (mv_alla rt_L_law_1 (mv_alla rt_L_law_2 (mv_alla rt_L_law_3 (mv_alla rt_L_law_4 (mv_alla rt_L_law_5 (mv_alla rt_L_law_6 (mv_alla rt_L_law_7 rt_L_law_8))))))))
theorem mv_allR_0 : mv_allR mv_tb0 mv_ms0 := ⟨(by decide +kernel), ⟨(by decide +kernel), ⟨(by decide +kernel), ⟨(by decide +kernel), ⟨(by decide +kernel), ⟨(by decide +kernel), ⟨(by decide +kernel), ⟨(by decide +kernel), ⟨(by decide +kernel), ⟨(by decide +kernel), ⟨(by decide +kernel), ⟨(by decide +kernel), ⟨(by decide +kernel), ⟨(by decide +kernel), ⟨(by decide +kernel), ⟨(by decide +kernel), ⟨(by decide +kernel), ⟨(by decide +kernel), ⟨(by decide +kernel), ⟨(by decide +kernel), ⟨(by decide +kernel), ⟨(by decide +kernel), ⟨(by decide +kernel), ⟨(by decide +kernel), ⟨(by decide +kernel), ⟨(by decide +kernel), ⟨(by decide +kernel), ⟨(by decide +kernel), ⟨(by decide +kernel), ⟨(by decide +kernel), ⟨(by decide +kernel), ⟨(by decide +kernel), ⟨(by decide +kernel), ⟨(by decide +kernel), ⟨(by decide +kernel), ⟨(by decide +kernel), ⟨(by decide +kernel), ⟨(by decide +kernel), ⟨(by decide +kernel), ⟨(by decide +kernel), trivial⟩⟩⟩⟩⟩⟩⟩⟩⟩⟩⟩⟩⟩⟩⟩⟩⟩⟩⟩⟩⟩⟩⟩⟩⟩⟩⟩⟩⟩⟩⟩⟩⟩⟩⟩⟩⟩⟩⟩⟩
theorem mv_allR_1 : mv_allR mv_tb1 mv_ms1 := ⟨(by decide +kernel), ⟨(by decide +kernel), ⟨(by decide +kernel), ⟨(by decide +kernel), ⟨(by decide +kernel), ⟨(by decide +kernel), ⟨(by decide +kernel), ⟨(by decide +kernel), ⟨(by decide +kernel), ⟨(by decide +kernel), ⟨(by decide +kernel), ⟨(by decide +kernel), ⟨(by decide +kernel), ⟨(by decide +kernel), ⟨(by decide +kernel), ⟨(by decide +kernel), ⟨(by decide +kernel), ⟨(by decide +kernel), ⟨(by decide +kernel), ⟨(by decide +kernel), ⟨(by decide +kernel), ⟨(by decide +kernel), ⟨(by decide +kernel), ⟨(by decide +kernel), ⟨(by decide +kernel), ⟨(by decide +kernel), ⟨(by decide +kernel), ⟨(by decide +kernel), ⟨(by decide +kernel), ⟨(by decide +kernel), ⟨(by decide +kernel), ⟨(by decide +kernel), ⟨(by decide +kernel), ⟨(by decide +kernel), ⟨(by decide +kernel), ⟨(by decide +kernel), ⟨(by decide +kernel), ⟨(by decide +kernel), ⟨(by decide +kernel), ⟨(by decide +kernel), trivial⟩⟩⟩⟩⟩⟩⟩⟩⟩⟩⟩⟩⟩⟩⟩⟩⟩⟩⟩⟩⟩⟩⟩⟩⟩⟩⟩⟩⟩⟩⟩⟩⟩⟩⟩⟩⟩⟩⟩⟩
theorem mv_allR_2 : mv_allR mv_tb2 mv_ms2 := ⟨(by decide +kernel), ⟨(by decide +kernel), ⟨(by decide +kernel), ⟨(by decide +kernel), ⟨(by decide +kernel), ⟨(by decide +kernel), ⟨(by decide +kernel), ⟨(by decide +kernel), ⟨(by decide +kernel), ⟨(by decide +kernel), ⟨(by decide +kernel), ⟨(by decide +kernel), ⟨(by decide +kernel), ⟨(by decide +kernel), ⟨(by decide +kernel), ⟨(by decide +kernel), ⟨(by decide +kernel), ⟨(by decide +kernel), ⟨(by decide +kernel), ⟨(by decide +kernel), ⟨(by decide +kernel), ⟨(by decide +kernel), ⟨(by decide +kernel), ⟨(by decide +kernel), ⟨(by decide +kernel), ⟨(by decide +kernel), ⟨(by decide +kernel), ⟨(by decide +kernel), ⟨(by decide +kernel), ⟨(by decide +kernel), ⟨(by decide +kernel), ⟨(by decide +kernel), ⟨(by decide +kernel), ⟨(by decide +kernel), ⟨(by decide +kernel), ⟨(by decide +kernel), ⟨(by decide +kernel), ⟨(by decide +kernel), ⟨(by decide +kernel), ⟨(by decide +kernel), trivial⟩⟩⟩⟩⟩⟩⟩⟩⟩⟩⟩⟩⟩⟩⟩⟩⟩⟩⟩⟩⟩⟩⟩⟩⟩⟩⟩⟩⟩⟩⟩⟩⟩⟩⟩⟩⟩⟩⟩⟩
theorem mv_allR_3 : mv_allR mv_tb3 mv_ms3 := ⟨(by decide +kernel), ⟨(by decide +kernel), ⟨(by decide +kernel), ⟨(by decide +kernel), ⟨(by decide +kernel), ⟨(by decide +kernel), ⟨(by decide +kernel), ⟨rt_L_law, trivial⟩⟩⟩⟩⟩⟩⟩⟩
theorem mv_allRs : mv_allR mv_tbs mv_ms := mv_allR_app mv_allR_0 (mv_allR_app mv_allR_1 (mv_allR_app mv_allR_2 (mv_allR_3)))
theorem mv_allR_at : ∀ {a : List (List (Nat × mv_I))} {b : List mv_J} {M : Nat} {t : List (Nat × mv_I)}, mv_allR a b → a[M]? = some t → ∃ j, b[M]? = some j ∧ t.all (mv_rck j) = true
  | [], [], _, _, _, h => by simp at h
  | [], _ :: _, _, _, h, _ => h.elim
  | _ :: _, [], _, _, h, _ => h.elim
  | _ :: _, j :: _, 0, _, h, h2 => by
    simp only [List.getElem?_cons_zero, Option.some.injEq] at h2
    subst h2
    exact ⟨j, rfl, h.1⟩
  | _ :: _, _ :: _, M + 1, _, h, h2 => by
    simp only [List.getElem?_cons_succ] at h2 ⊢
    exact mv_allR_at h.2 h2
theorem mv_row4 {M pc : Nat} {r : mv_I} (h : mv_in M pc = some r) : mv_rck (mv_mi M) (pc, r) = true := by
  unfold mv_in mv_tb at h
  have hm := mv_find_mem h
  cases ht : mv_tbs[M]? with
  | none => rw [List.getD_eq_getElem?_getD, ht] at hm; simp at hm
  | some t =>
    obtain ⟨j, hj, h1⟩ := mv_allR_at mv_allRs ht
    rw [List.getD_eq_getElem?_getD, ht] at hm
    have e : mv_mi M = j := by unfold mv_mi; rw [List.getD_eq_getElem?_getD, hj]; rfl
    rw [e]
    exact List.all_eq_true.mp h1 _ hm
theorem mv_hs_ok : (mv_hs.all (fun kh => decide ((mv_mi kh.1).2.1.cls = "SluiceChainLaw") && kh.2.all (fun q => match q with | (_, _, _, ct, e, w) => decide (mv_e5 e = true) && !decide (ct = 0) && decide (lw_tbl[w]? = some (.classLink "SluiceChainLaw" ct (mv_ec e)))))) = true := by decide +kernel
theorem mv_castw : ∀ k, mv_e6 k = true → lw_tbl.elem (Cond.castable (mv_ec k) (mv_ec k)) = true := fun k hk => (by decide +kernel : ∀ k, k < 6 → mv_e6 k = true → lw_tbl.elem (Cond.castable (mv_ec k) (mv_ec k)) = true) k (mv_e6_lt hk) hk
theorem mv_hl_mem : ∀ {l : List (Nat × List (Nat × Nat × Nat × Nat × Nat × Nat))} {M : Nat}, mv_hl M l ≠ [] → (M, mv_hl M l) ∈ l
  | [], _, h => absurd rfl h
  | (k, hh) :: l, M, h => by
    unfold mv_hl at h ⊢
    split
    · next e => subst e; exact List.mem_cons_self
    · next e => rw [if_neg e] at h; exact List.mem_cons_of_mem _ (mv_hl_mem h)
theorem mv_hd1_split : ∀ {l : List (Nat × Nat × Nat × Nat × Nat × Nat)} {pc E g : Nat}, mv_hd1 pc E l = some g → ∃ pre x suf, l = pre ++ x :: suf ∧ x.2.2.1 = g ∧ x.1 ≤ pc ∧ pc < x.2.1 ∧ x.2.2.2.2.1 = E ∧ ∀ y ∈ pre, ¬ (y.1 ≤ pc ∧ pc < y.2.1 ∧ y.2.2.2.2.1 = E)
  | [], _, _, _, h => by cases h
  | (f, t, g', ct, e, w) :: l, pc, E, g, h => by
    unfold mv_hd1 at h
    split at h
    · next hc =>
      cases h
      exact ⟨[], _, l, rfl, rfl, hc.1, hc.2.1, hc.2.2, fun y hy => by cases hy⟩
    · next hc =>
      obtain ⟨pre, x, suf, h1, h2, h3, h4, h5, h6⟩ := mv_hd1_split h
      refine ⟨(f, t, g', ct, e, w) :: pre, x, suf, by rw [h1]; rfl, h2, h3, h4, h5, fun y hy => ?_⟩
      rcases List.mem_cons.mp hy with rfl | hy
      · exact hc
      · exact h6 y hy
