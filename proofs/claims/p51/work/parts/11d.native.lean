/-! THE JDK'S OWN METHODS -/
theorem mv_n64k {x : UInt64} (h : mv_n64 x = true) : vf_n64 x := (of_decide_eq_true (show decide (x &&& 0x7fffffffffffffff ≤ 0x7ff0000000000000) = true from h) : x &&& 0x7fffffffffffffff ≤ 0x7ff0000000000000)
theorem mv_n32k {x : UInt32} (h : mv_n32 x = true) : vf_n32 x := (of_decide_eq_true (show decide (x &&& 0x7fffffff ≤ 0x7f800000) = true from h) : x &&& 0x7fffffff ≤ 0x7f800000)
section NAT
variable {z : Nat} {kad : Nat → Nat} {dC : Nat → ClassId} {dI : Nat → Nat → Nat} {cA : Nat → ClassId} {L : Nat} {xs : Nat → Int32}
variable {p : Program} {l : Launch} {e : Env} {R : Room} {s : State} {m : MethodId} {args : Array Value} {below : List Frame} {meth : Method} {c : Code} {Q : State → Prop} {c0 s0 M : Nat}
variable {pc pc' nx a b w : Nat} {ls ls' : mv_V} {st st' : List Value} {σ σ' : mv_S}
theorem mv_cat (ad : Nat → Nat) (st : List Value) : ((st.map (mv_cv ad)).map fun v => v.category).sum = (st.map fun v => v.category).sum := by
  rw [List.map_map]
  congr 1
  apply List.map_congr_left
  intro v _
  exact mv_cv_cat ad v
theorem mv_mwk {own : String} {i a w : Nat} (h : mv_mw own i a w = true) (ha : ¬ a < 900) : lw_tbl[w]? = some (.methodLink own i (mv_nat a)) := by
  unfold mv_mw at h
  split at h
  · next o j y e =>
    simp only [Bool.and_eq_true, decide_eq_true_eq] at h
    obtain ⟨⟨rfl, rfl⟩, h3⟩ := h
    rw [if_neg ha] at h3
    rw [← h3]; exact e
  · next o j y hh e =>
    simp only [Bool.and_eq_true, decide_eq_true_eq] at h
    exact absurd h.1.2 ha
  · cases h
theorem mv_wmin : lw_tbl[656]? = some (.static Lib.Math.min.name) ∧ lw_tbl[657]? = some (.code Lib.Math.min.name Lib.Math.min.code 2 (some .int)) ∧ lw_tbl[79]? = some (.initialized "java/lang/Math") := ⟨by decide +kernel, by decide +kernel, by decide +kernel⟩
theorem mv_wmax : lw_tbl[703]? = some (.static Lib.Math.max.name) ∧ lw_tbl[704]? = some (.code Lib.Math.max.name Lib.Math.max.code 2 (some .int)) := ⟨by decide +kernel, by decide +kernel⟩
theorem mv_wobj : lw_tbl[100]? = some (.instanceMethod objectInit) ∧ lw_tbl[101]? = some (.code objectInit ⟨#[0xb1]⟩ 1 none) := ⟨by decide +kernel, by decide +kernel⟩
theorem mv_s_stat {i : Nat} (hF : mv_Fx z kad dC dI cA L xs p R s m args meth c M) (hin : mv_in M pc = some (.invokestatic i, nx, a, b, w))
    (h : mv_call 0 a b nx ls st σ = some (.inl (pc', ls', st', σ'))) (hR : mv_cc σ' ≤ R.cells + c0 ∧ mv_ss σ' ≤ R.slots + s0) (k : mv_W z kad dC dI cA p l e R s m args below meth c Q c0 s0 pc' ls' st' σ') : mv_W z kad dC dI cA p l e R s m args below meth c Q c0 s0 pc ls st σ := by
  obtain ⟨hok, hlen⟩ := mv_row hin
  obtain ⟨hx, hb, hml, hown, hts, hE, -, hRf, hRl⟩ := id hF
  have hdec := mv_okd hok
  have hmw : mv_mw (mv_mi M).2.1.cls i a w = true := by
    unfold mv_ok at hok
    simp only [Bool.and_eq_true] at hok
    exact hok.2
  unfold mv_call at h
  split at h
  · split at h <;> cases h
  · next ha =>
    have hw := mv_mwk hmw ha
    split at h
    · next y x st1 =>
      split at h
      · next hg =>
        obtain ⟨rfl, rfl, rfl, rfl⟩ := mv_nx_inv h
        obtain ⟨hd, rfl⟩ := mv_dec hdec hlen (Nat.succ_ne_zero _)
        intro H locs cells slots lsA hM hS hl hc hs
        exact va_mmin hx hb hl.1.symm hown (hts _ (mv_TS_of hw rfl)) (hts _ (mv_TS_of mv_wmin.1 rfl)) (hts _ (mv_TS_of mv_wmin.2.2 rfl)) (hts _ (mv_TS_of mv_wmin.2.1 rfl)) (by omega) (by rw [mv_cat]; omega) (by omega) (by omega) hd (k _ _ _ _ _ hM hS hl hc hs)
      · cases h
    · next y x st1 =>
      split at h
      · next hg =>
        obtain ⟨rfl, rfl, rfl, rfl⟩ := mv_nx_inv h
        obtain ⟨hd, rfl⟩ := mv_dec hdec hlen (Nat.succ_ne_zero _)
        intro H locs cells slots lsA hM hS hl hc hs
        exact va_mmax hx hb hl.1.symm hown (hts _ (mv_TS_of hw rfl)) (hts _ (mv_TS_of mv_wmax.1 rfl)) (hts _ (mv_TS_of mv_wmin.2.2 rfl)) (hts _ (mv_TS_of mv_wmax.2 rfl)) (by omega) (by rw [mv_cat]; omega) (by omega) (by omega) hd (k _ _ _ _ _ hM hS hl hc hs)
      · cases h
    all_goals first | contradiction | cases h
theorem mv_s_spec {i : Nat} (hF : mv_Fx z kad dC dI cA L xs p R s m args meth c M) (hin : mv_in M pc = some (.invokespecial i, nx, a, b, w))
    (h : mv_call 2 a b nx ls st σ = some (.inl (pc', ls', st', σ'))) (hR : mv_cc σ' ≤ R.cells + c0 ∧ mv_ss σ' ≤ R.slots + s0) (k : mv_W z kad dC dI cA p l e R s m args below meth c Q c0 s0 pc' ls' st' σ') : mv_W z kad dC dI cA p l e R s m args below meth c Q c0 s0 pc ls st σ := by
  obtain ⟨hok, hlen⟩ := mv_row hin
  obtain ⟨hx, hb, hml, hown, hts, hE, -, hRf, hRl⟩ := id hF
  have hdec := mv_okd hok
  unfold mv_call at h
  split at h
  · split at h <;> cases h
  · next ha =>
    split at h
    any_goals contradiction
    · next o st1 =>
      split at h
      · next hg =>
        have hmw : mv_mw (mv_mi M).2.1.cls i 905 w = true := by
          unfold mv_ok at hok
          simp only [Bool.and_eq_true, Bool.or_eq_true] at hok
          rcases hok.2 with h0 | h0
          · exact absurd (of_decide_eq_true h0) (by decide)
          · exact h0
        have hw := mv_mwk hmw ha
        obtain ⟨rfl, rfl, rfl, rfl⟩ := mv_nx_inv h
        obtain ⟨hd, rfl⟩ := mv_dec hdec hlen (Nat.succ_ne_zero _)
        intro H locs cells slots lsA hM hS hl hc hs
        have hroom := lv_room (m := m) (pc := pc) (ls := lsA) (rest := st'.map (mv_cv (mv_ad z kad))) (st := st'.map (mv_cv (mv_ad z kad))) (by rw [mv_cat]; exact hg)
        exact W.objInit hx hb hown (hts _ (mv_TS_of hw rfl)) (hts _ (mv_TS_of mv_wobj.1 rfl)) (hts _ (mv_TS_of mv_wobj.2 rfl)) rfl hl.1 rfl hd (by omega) (Nat.le_trans (Nat.add_le_add_right hroom 12) (by omega)) (k _ _ _ _ _ hM hS hl hc hs)
      · cases h
theorem vj_n {k : Nat} (j : Nat) (h : 1000 ≤ k) : ¬ k + j < 1000 := by omega
theorem vj_j {o k : Nat} (h1 : k ≤ o) (h2 : o < k + 8) : ∃ j : Nat, j < 8 ∧ o = k + j ∧ o - k = j := ⟨o - k, by omega, by omega, rfl⟩
theorem mv_s_virt {i : Nat} (hF : mv_Fx z kad dC dI cA L xs p R s m args meth c M) (hin : mv_in M pc = some (.invokevirtual i, nx, a, b, w))
    (h : mv_call 1 a b nx ls st σ = some (.inl (pc', ls', st', σ'))) (hR : mv_cc σ' ≤ R.cells + c0 ∧ mv_ss σ' ≤ R.slots + s0) (k : mv_W z kad dC dI cA p l e R s m args below meth c Q c0 s0 pc' ls' st' σ') : mv_W z kad dC dI cA p l e R s m args below meth c Q c0 s0 pc ls st σ := by
  obtain ⟨hok, hlen⟩ := mv_row hin
  obtain ⟨hx, hb, hml, hown, hts, hE, -, hRf, hRl⟩ := id hF
  have hdec := mv_okd hok
  have hmw : mv_mw (mv_mi M).2.1.cls i a w = true := by
    unfold mv_ok at hok
    simp only [Bool.and_eq_true] at hok
    rcases (Bool.or_eq_true _ _).mp hok.2 with h0 | h0
    · rw [of_decide_eq_true h0] at h
      simp [mv_call] at h
    · exact h0
  unfold mv_call at h
  split at h
  · split at h <;> cases h
  · next ha =>
    have hw := mv_mwk hmw ha
    split at h
    any_goals contradiction
    · next o st1 _ =>
      split at h
      · next hg =>
        obtain ⟨rfl, rfl, rfl, rfl⟩ := mv_nx_inv h
        obtain ⟨hd, rfl⟩ := mv_dec hdec hlen (Nat.succ_ne_zero _)
        obtain ⟨j, hj, e8, e9⟩ := vj_j (k := 1000) hg.1 hg.2.1
        rw [e9] at k
        subst e8
        have had : mv_ad z kad (1000 + j) = kad (1000 + j) := if_neg (vj_n _ (by decide))
        obtain ⟨hO, hOF⟩ := hE.2.2.2.1 j hj
        intro H locs cells slots lsA hM hS hl hc hs
        have hgd : GoodIn mv_TS (va_wsU (mv_mi M).2.1.cls i "SluiceChain$Command" "java/lang/Enum" ⟨"SluiceChain$Command", "ordinal", "()I"⟩ yj_ord wl_ord) := gj_ts (l := [.methodLink (mv_mi M).2.1.cls i ⟨"SluiceChain$Command", "ordinal", "()I"⟩, .sameMethod "SluiceChain$Command" "java/lang/Enum" "ordinal" "()I", .selects "SluiceChain$Command" ⟨"SluiceChain$Command", "ordinal", "()I"⟩ yj_ord, .instanceMethod yj_ord, .initialized "java/lang/Enum", Cond.code yj_ord prog_22_method_2_code 1 (some .int)]) (by
          intro w9 hw9
          simp only [List.mem_cons, List.not_mem_nil, or_false] at hw9
          rcases hw9 with rfl | rfl | rfl | rfl | rfl | rfl
          · exact mv_TS_of hw rfl
          · exact wx_ord
          · exact ws_ord
          · exact wn_ord
          · exact wi_enu
          · exact wj_ord)
        show W p l e R s m args below meth c H locs cells slots Q (F0 m pc lsA (.ref (mv_ad z kad (1000 + j)) :: st1.map (mv_cv (mv_ad z kad))))
        rw [had]
        refine va_calli (va_runU (As := []) (rest := st1.map (mv_cv (mv_ad z kad))) ⟨hx, hb, hml, hown, hts⟩ (cj_ord l H (kad (1000 + j)) (nI j)) (va_cwU 0 hts hgd rfl rfl rfl rfl (by decide +kernel) ⟨by show 0 + 1 ≤ _; omega, by show 8 + (1 + 11) + 0 ≤ _; omega⟩) ⟨fun a U g mk q => by obtain ⟨q0, q1, q2⟩ := q; exact ⟨q0, q1, va_OF.moved (u := U) (U := U.calling g mk a) (Vm.Alike.refl U.vm) q2⟩, va_Orecv hO hS, fun U hU hW => ⟨rfl, hU, by rw [hU]; exact ((va_OF.moved hW.alike hOF).kept hS.2.1).narrow (fun _ h => h.elim)⟩⟩ rfl rfl (hl.1.trans hml) rfl (by rw [mv_cat]; exact lv_room (m := m) (pc := pc) (ls := lsA) (rest := st1) (st := st1) (by omega)) hd ⟨by omega, by omega⟩) hS (fun q _ h => h.elim) (fun q h => h.elim) (fun r u t H1 locs1 ht hvm hw hB hz1 hk1 hS1 => ?_)
        have hH : H1 = H := ht.symm.trans hB
        subst hH
        have hw : r = nI j := hw
        subst hw
        exact k _ _ _ _ _ hM hS1 hl (by omega) (by omega)
      · cases h
    all_goals first | contradiction | cases h
end NAT
