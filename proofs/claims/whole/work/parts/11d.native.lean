/-! THE JDK'S OWN METHODS -/
theorem mv_n64k {x : UInt64} (h : mv_n64 x = true) : vf_n64 x := (of_decide_eq_true (show decide (x &&& 0x7fffffffffffffff ≤ 0x7ff0000000000000) = true from h) : x &&& 0x7fffffffffffffff ≤ 0x7ff0000000000000)
theorem mv_n32k {x : UInt32} (h : mv_n32 x = true) : vf_n32 x := (of_decide_eq_true (show decide (x &&& 0x7fffffff ≤ 0x7f800000) = true from h) : x &&& 0x7fffffff ≤ 0x7f800000)
section NAT
variable {z : Nat} {kad : Nat → Nat} {dC : Nat → ClassId} {dI : Nat → Nat → Nat} {cA : Nat → ClassId} {L : Nat} {xs : Nat → Int32}
variable {p : Program} {l : Launch} {e : Env} {R : Room} {s : State} {m : MethodId} {args : Array Value} {below : List Frame} {meth : Method} {c : Code} {Q : State → Prop} {c0 s0 M : Nat}
variable {pc pc' nx a b w : Nat} {ls ls' : mv_V} {st st' : List Value} {σ σ' : mv_S}
theorem mv_cat (ad : Nat → Nat) (st : List Value) : ((st.map (mv_cv ad)).map fun v => v.category).sum = (st.map fun v => v.category).sum := by
  rw [List.map_map]
  congr 1
  apply List.map_congr_left
  intro v _
  exact mv_cv_cat ad v
theorem mv_mwk {own : String} {i a w : Nat} (h : mv_mw own i a w = true) (ha : ¬ a < 900) : lw_tbl[w]? = some (.methodLink own i (mv_nat a)) := by
  unfold mv_mw at h
  split at h
  · next o j y e =>
    simp only [Bool.and_eq_true, decide_eq_true_eq] at h
    obtain ⟨⟨rfl, rfl⟩, h3⟩ := h
    rw [if_neg ha] at h3
    rw [← h3]; exact e
  · next o j y hh e =>
    simp only [Bool.and_eq_true, decide_eq_true_eq] at h
    exact absurd h.1.2 ha
  · cases h
theorem mv_wmin : lw_tbl[559]? = some (.static Lib.Math.min.name) ∧ lw_tbl[560]? = some (.code Lib.Math.min.name Lib.Math.min.code 2 (some .int)) ∧ lw_tbl[132]? = some (.initialized "java/lang/Math") := ⟨by decide +kernel, by decide +kernel, by decide +kernel⟩
theorem mv_wmax : lw_tbl[730]? = some (.static Lib.Math.max.name) ∧ lw_tbl[731]? = some (.code Lib.Math.max.name Lib.Math.max.code 2 (some .int)) := ⟨by decide +kernel, by decide +kernel⟩
theorem mv_wobj : lw_tbl[147]? = some (.instanceMethod objectInit) ∧ lw_tbl[148]? = some (.code objectInit ⟨#[0xb1]⟩ 1 none) := ⟨by decide +kernel, by decide +kernel⟩
theorem mv_s_stat {i : Nat} (hF : mv_Fx z kad dC dI cA L xs p R s m args meth c M) (hin : mv_in M pc = some (.invokestatic i, nx, a, b, w))
    (h : mv_call 0 a b nx ls st σ = some (.inl (pc', ls', st', σ'))) (hR : mv_cc σ' ≤ R.cells + c0 ∧ mv_ss σ' ≤ R.slots + s0) (k : mv_W z kad dC dI cA p l e R s m args below meth c Q c0 s0 pc' ls' st' σ') : mv_W z kad dC dI cA p l e R s m args below meth c Q c0 s0 pc ls st σ := by
  obtain ⟨hok, hlen⟩ := mv_row hin
  obtain ⟨hx, hb, hml, hown, hts, hE, -, hRf, hRl⟩ := id hF
  have hdec := mv_okd hok
  have hmw : mv_mw (mv_mi M).2.1.cls i a w = true := by
    unfold mv_ok at hok
    simp only [Bool.and_eq_true] at hok
    exact hok.2
  unfold mv_call at h
  split at h
  · split at h <;> cases h
  · next ha =>
    have hw := mv_mwk hmw ha
    split at h
    · next y x st1 =>
      split at h
      · next hg =>
        obtain ⟨rfl, rfl, rfl, rfl⟩ := mv_nx_inv h
        obtain ⟨hd, rfl⟩ := mv_dec hdec hlen (Nat.succ_ne_zero _)
        intro H locs cells slots lsA hM hS hl hc hs
        exact va_mmin hx hb hl.1.symm hown (hts _ (mv_TS_of hw rfl)) (hts _ (mv_TS_of mv_wmin.1 rfl)) (hts _ (mv_TS_of mv_wmin.2.2 rfl)) (hts _ (mv_TS_of mv_wmin.2.1 rfl)) (by omega) (by rw [mv_cat]; omega) (by omega) (by omega) hd (k _ _ _ _ _ hM hS hl hc hs)
      · cases h
    · next y x st1 =>
      split at h
      · next hg =>
        obtain ⟨rfl, rfl, rfl, rfl⟩ := mv_nx_inv h
        obtain ⟨hd, rfl⟩ := mv_dec hdec hlen (Nat.succ_ne_zero _)
        intro H locs cells slots lsA hM hS hl hc hs
        exact va_mmax hx hb hl.1.symm hown (hts _ (mv_TS_of hw rfl)) (hts _ (mv_TS_of mv_wmax.1 rfl)) (hts _ (mv_TS_of mv_wmin.2.2 rfl)) (hts _ (mv_TS_of mv_wmax.2 rfl)) (by omega) (by rw [mv_cat]; omega) (by omega) (by omega) hd (k _ _ _ _ _ hM hS hl hc hs)
      · cases h
    all_goals first | contradiction | cases h
theorem mv_s_spec {i : Nat} (hF : mv_Fx z kad dC dI cA L xs p R s m args meth c M) (hin : mv_in M pc = some (.invokespecial i, nx, a, b, w))
    (h : mv_call 2 a b nx ls st σ = some (.inl (pc', ls', st', σ'))) (hR : mv_cc σ' ≤ R.cells + c0 ∧ mv_ss σ' ≤ R.slots + s0) (k : mv_W z kad dC dI cA p l e R s m args below meth c Q c0 s0 pc' ls' st' σ') : mv_W z kad dC dI cA p l e R s m args below meth c Q c0 s0 pc ls st σ := by
  obtain ⟨hok, hlen⟩ := mv_row hin
  obtain ⟨hx, hb, hml, hown, hts, hE, -, hRf, hRl⟩ := id hF
  have hdec := mv_okd hok
  unfold mv_call at h
  split at h
  · split at h <;> cases h
  · next ha =>
    split at h
    any_goals contradiction
    · next o st1 =>
      split at h
      · next hg =>
        have hmw : mv_mw (mv_mi M).2.1.cls i 905 w = true := by
          unfold mv_ok at hok
          simp only [Bool.and_eq_true, Bool.or_eq_true] at hok
          rcases hok.2 with h0 | h0
          · exact absurd (of_decide_eq_true h0) (by decide)
          · exact h0
        have hw := mv_mwk hmw ha
        obtain ⟨rfl, rfl, rfl, rfl⟩ := mv_nx_inv h
        obtain ⟨hd, rfl⟩ := mv_dec hdec hlen (Nat.succ_ne_zero _)
        intro H locs cells slots lsA hM hS hl hc hs
        have hroom := lv_room (m := m) (pc := pc) (ls := lsA) (rest := st'.map (mv_cv (mv_ad z kad))) (st := st'.map (mv_cv (mv_ad z kad))) (by rw [mv_cat]; exact hg)
        exact W.objInit hx hb hown (hts _ (mv_TS_of hw rfl)) (hts _ (mv_TS_of mv_wobj.1 rfl)) (hts _ (mv_TS_of mv_wobj.2 rfl)) rfl hl.1 rfl hd (by omega) (Nat.le_trans (Nat.add_le_add_right hroom 12) (by omega)) (k _ _ _ _ _ hM hS hl hc hs)
      · cases h
theorem mv_s_virt {i : Nat} (hF : mv_Fx z kad dC dI cA L xs p R s m args meth c M) (hin : mv_in M pc = some (.invokevirtual i, nx, a, b, w))
    (h : mv_call 1 a b nx ls st σ = some (.inl (pc', ls', st', σ'))) (hR : mv_cc σ' ≤ R.cells + c0 ∧ mv_ss σ' ≤ R.slots + s0) (k : mv_W z kad dC dI cA p l e R s m args below meth c Q c0 s0 pc' ls' st' σ') : mv_W z kad dC dI cA p l e R s m args below meth c Q c0 s0 pc ls st σ := by
  sorry
end NAT
