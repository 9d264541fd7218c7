/-! FRAMES: what a run of the small machine says of the JVM -/
theorem mv_pay {s : State} {args : Array Value} (hts : ∀ w ∈ mv_TS, w.before args s = true) : ∀ w ∈ mv_TS, ∀ (a' : Array Value) (U : State), s.WarmedH U.vm → w.before a' U = true :=
  fun w hw a' U hW => word_at hW (good_of_word (List.mem_filter.mp hw).2) (hts w hw)
theorem mv_cok_p {M : Nat} (h : mv_cok M = true) : mv_w1 M ∈ mv_TS ∧ plainName (mv_mi M).2.1.cls = true ∧ ((mv_mi M).2.1.cls ≠ "java/lang/invoke/MethodHandle" ∧ (mv_mi M).2.1.cls ≠ "java/lang/invoke/VarHandle") ∧ Cond.initialized (mv_mi M).2.1.cls ∈ mv_TS ∧
    (∀ sig, parseMethodDescriptor (mv_mi M).2.1.desc = some sig → (mv_cif M).1 = sig.parameters.length) ∧ (mv_mi M).2.2.1 ≤ 20 ∧ mv_nh M = decide (¬ (mv_cif M).2 = 3) ∧
    ((mv_cif M).2 = 0 → Cond.instanceMethod (mv_mi M).2.1 ∈ mv_TS ∧ Cond.selects (mv_mi M).2.1.cls (mv_mi M).2.1 (mv_mi M).2.1 ∈ mv_TS) ∧ ((mv_cif M).2 = 1 ∨ (mv_cif M).2 = 3 → Cond.static (mv_mi M).2.1 ∈ mv_TS) ∧
    ((mv_cif M).2 = 2 → Cond.instanceMethod (mv_mi M).2.1 ∈ mv_TS ∧ (mv_mi M).2.1.name = "<init>" ∧ (mv_mi M).2.2.2.1 = none) := by
  unfold mv_cok at h
  simp only [Bool.and_eq_true, decide_eq_true_eq] at h
  obtain ⟨⟨⟨⟨hm, hn⟩, hk⟩, hl⟩, hnh⟩ := h
  have hnh : mv_nh M = decide (¬ (mv_cif M).2 = 3) := by simpa using hnh
  generalize hJ : mv_mi M = J at *
  obtain ⟨bs, y, ml, rt, cw, iw, sl, ini, fl⟩ := J
  simp only [mv_mok, Bool.and_eq_true, decide_eq_true_eq] at hm
  obtain ⟨⟨⟨⟨⟨⟨m1, m2⟩, m3⟩, m4⟩, m5⟩, m6⟩, m7⟩ := hm
  have hpar : ∀ sig, parseMethodDescriptor y.desc = some sig → (mv_cif M).1 = sig.parameters.length := by
    intro sig hs
    have hn : (parseMethodDescriptor y.desc).map (fun d => d.parameters.length) = some (mv_cif M).1 := hn
    rw [hs] at hn
    exact (Option.some.inj hn).symm
  have hini : Cond.initialized y.cls ∈ mv_TS := mv_TS_of m4 rfl
  generalize hc9 : mv_cif M = ci9 at *
  obtain ⟨np, kd⟩ := ci9
  have hw1 : mv_w1 M = if mv_nh M = true then .code y bs ml rt else .codeWith y bs ml rt (mv_hh M) := by unfold mv_w1; rw [hJ]
  match kd, hk with
  | 0, hk =>
    simp only [Bool.and_eq_true, decide_eq_true_eq] at hk
    obtain ⟨rfl, hsl⟩ := hk
    refine ⟨?_, m5, ⟨m6, m7⟩, hini, hpar, hl, hnh, fun _ => ⟨mv_TS_of (of_decide_eq_true (show decide (lw_tbl[iw]? = some (Cond.instanceMethod y)) = true from m2)) rfl, mv_TS_of hsl rfl⟩, fun q => (by rcases q with q | q <;> cases q), fun q => by cases q⟩
    rw [hw1, hnh]
    exact mv_TS_of (of_decide_eq_true (show decide (lw_tbl[cw]? = some (Cond.code y bs ml rt)) = true from m1)) rfl
  | 1, hk =>
    have hk : fl = 1 := of_decide_eq_true hk
    subst hk
    refine ⟨?_, m5, ⟨m6, m7⟩, hini, hpar, hl, hnh, fun q => (by cases q), fun _ => mv_TS_of (of_decide_eq_true (show decide (lw_tbl[iw]? = some (Cond.static y)) = true from m2)) rfl, fun q => by cases q⟩
    rw [hw1, hnh]
    exact mv_TS_of (of_decide_eq_true (show decide (lw_tbl[cw]? = some (Cond.code y bs ml rt)) = true from m1)) rfl
  | 2, hk =>
    simp only [Bool.and_eq_true, decide_eq_true_eq] at hk
    obtain ⟨⟨rfl, hname⟩, hrt⟩ := hk
    refine ⟨?_, m5, ⟨m6, m7⟩, hini, hpar, hl, hnh, fun q => (by cases q), fun q => (by rcases q with q | q <;> cases q), fun _ => ⟨mv_TS_of (of_decide_eq_true (show decide (lw_tbl[iw]? = some (Cond.instanceMethod y)) = true from m2)) rfl, hname, hrt⟩⟩
    rw [hw1, hnh]
    exact mv_TS_of (of_decide_eq_true (show decide (lw_tbl[cw]? = some (Cond.code y bs ml rt)) = true from m1)) rfl
  | 3, hk =>
    simp only [Bool.and_eq_true, decide_eq_true_eq] at hk
    obtain ⟨rfl, hcw⟩ := hk
    refine ⟨?_, m5, ⟨m6, m7⟩, hini, hpar, hl, hnh, fun q => (by cases q), fun _ => mv_TS_of (of_decide_eq_true (show decide (lw_tbl[iw]? = some (Cond.static y)) = true from m2)) rfl, fun q => by cases q⟩
    refine mv_TS_of hcw ?_
    rw [hw1, hnh]
    rfl
  | n + 4, hk => cases hk
theorem mv_mwk2 {own : String} {i a w : Nat} (h : mv_mw own i a w = true) (ha : a < 900) : lw_tbl[w]? = some (.methodLink own i (mv_mi a).2.1) ∨ ∃ hh, lw_tbl[w]? = some (.methodLinkNest own i (mv_mi a).2.1 hh) := by
  unfold mv_mw at h
  split at h
  · next o j y e =>
    simp only [Bool.and_eq_true, decide_eq_true_eq] at h
    obtain ⟨⟨rfl, rfl⟩, h3⟩ := h
    rw [if_pos ha] at h3
    rw [← h3]; exact Or.inl e
  · next o j y hh e =>
    simp only [Bool.and_eq_true, decide_eq_true_eq] at h
    obtain ⟨⟨⟨rfl, rfl⟩, -⟩, h3⟩ := h
    rw [← h3]; exact Or.inr ⟨hh, e⟩
  · cases h
section FRAME
variable {z : Nat} {kad : Nat → Nat} {dC : Nat → ClassId} {dI : Nat → Nat → Nat} {cA : Nat → ClassId} {L : Nat} {xs : Nat → Int32}
variable {p : Program} {l : Launch} {e : Env} {R : Room} {s : State} {m : MethodId} {args : Array Value} {below : List Frame} {meth : Method} {c : Code} {Q : State → Prop} {c0 s0 M : Nat}
variable {pc pc' nx a b w d : Nat} {ls ls' : mv_V} {st st' : List Value} {σ σ' : mv_S}
/-- room for a callee at depth d -/
def mv_room (d : Nat) (R : Room) : Prop := 21 + d ≤ R.frames ∧ 345 + 60 * d ≤ R.locals
theorem mv_catsum {b : Nat} {st : List Value} (h : b ≤ st.length) (h2 : ((st.take b).all (fun v => decide (v.category = 1))) = true) : (((st.take b).reverse).map (fun v => v.category)).sum = b := by
  have h3 : ∀ v ∈ (st.take b).reverse, v.category = 1 := fun v hv => of_decide_eq_true (List.all_eq_true.mp h2 v (List.mem_reverse.mp hv))
  have h4 : ((st.take b).reverse).map (fun v => v.category) = ((st.take b).reverse).map (fun _ => 1) := List.map_congr_left h3
  rw [h4, List.map_const', List.sum_replicate_nat]
  simp [h]
theorem mv_callk {kk : Nat} {M' : Nat} {as rest : List Value} (h : mv_call kk a b nx ls st σ = some (.inr (.inr (M', as, rest)))) : a < 900 ∧ M' = a ∧ as = (st.take b).reverse ∧ rest = st.drop b ∧ b ≤ st.length ∧ ((st.drop b).map (fun v => v.category)).sum ≤ 8 ∧ (kk = 0 ∨ mv_rcv as σ.2.1 a = true) ∧ (as.map (fun v => v.category)).sum = b := by
  unfold mv_call at h
  split at h
  · next ha =>
    split at h
    · next hg =>
      cases h
      exact ⟨ha, rfl, rfl, rfl, hg.1, hg.2.1, hg.2.2.2, mv_catsum hg.1 hg.2.2.1⟩
    · cases h
  · exfalso
    split at h
    all_goals first | (split at h <;> cases h) | cases h
theorem mv_stack (ad : Nat → Nat) (b : Nat) (st : List Value) : st.map (mv_cv ad) = (((st.take b).reverse).map (mv_cv ad)).reverse ++ (st.drop b).map (mv_cv ad) := by
  rw [List.map_reverse, List.reverse_reverse, ← List.map_append, List.take_append_drop]
/-- a call by a receiver -/
theorem mv_c_virt {i M' : Nat} {as rest : List Value} {r : mv_R} (hF : mv_Fx z kad dC dI cA L xs p R s m args meth c M) (hin : mv_in M pc = some (.invokevirtual i, nx, a, b, w)) (h : mv_call 1 a b nx ls st σ = some (.inr (.inr (M', as, rest))))
    (hCt : mv_Ct z kad dC dI cA L xs l d M' as σ r) (hr : mv_room d R) {H : Heap} {locs : List Loc} {cells slots : Nat} {lsA : Array Slot} (hM : mv_Mo z kad dC dI cA σ H) (hS : va_S (mv_A1 z) s.heap H locs) (hl : lv_has lsA c.maxLocals (mv_lm (mv_ad z kad) ls))
    (hf : cells + (mv_cc r.2 - mv_cc σ) ≤ R.cells ∧ slots + (mv_ss r.2 - mv_ss σ) ≤ R.slots) :
    ∃ aa, vx_Run p l e R s m args below meth c H locs cells slots (mv_cc r.2 - mv_cc σ) (mv_ss r.2 - mv_ss σ) (F0 m pc lsA (st.map (mv_cv (mv_ad z kad)))) (rest.map (mv_cv (mv_ad z kad))) (mv_Qc z kad dC dI cA r aa) (mv_XC z kad dC dI cA r) (mv_A1 z) := by
  obtain ⟨hok, hlen⟩ := mv_row hin
  have hcr := mv_row3 hin
  obtain ⟨hx, hb, hml, hown, hts, hE, -, hRf, hRl⟩ := id hF
  obtain ⟨ha, rfl, rfl, rfl, hbl, hcat, hrc, -⟩ := mv_callk h
  obtain ⟨hd, -⟩ := mv_dec (mv_okd hok) hlen (Nat.succ_ne_zero _)
  have hmw : mv_mw (mv_mi M).2.1.cls i M' w = true := by
    unfold mv_ok at hok
    simp only [Bool.and_eq_true] at hok
    rcases (Bool.or_eq_true _ _).mp hok.2 with h0 | h0
    · have h9 : M' = 998 := of_decide_eq_true h0
      omega
    · exact h0
  simp only [mv_crow, Bool.or_eq_true, Bool.and_eq_true, Bool.not_eq_true', decide_eq_false_iff_not, decide_eq_true_eq] at hcr
  rcases hcr with hcr | ⟨⟨⟨h259, hci⟩, hb0⟩, hcn⟩
  · exact absurd ha hcr
  obtain ⟨p1, p2, p3, p4, p5, p6, p7, p8, -, -⟩ := mv_cok_p (mv_cok_at h259)
  rw [hci] at p5 p7 p8
  obtain ⟨p8, p9⟩ := p8 rfl
  have hw1 : mv_w1 M' = .code (mv_mi M').2.1 (mv_mi M').1 (mv_mi M').2.2.1 (mv_mi M').2.2.2.1 := by
    unfold mv_w1
    rw [if_pos (by rw [p7]; rfl)]
  rw [hw1] at p1
  -- the receiver
  have hrc : mv_rcv ((st.take b).reverse) σ.2.1 M' = true := by rcases hrc with h9 | h9; exact absurd h9 (by decide); exact h9
  generalize has : (st.take b).reverse = as at *
  unfold mv_rcv at hrc
  cases as with
  | nil => cases hrc
  | cons v As =>
    cases v <;> first | (simp at hrc; done) | skip
    rename_i o _
    obtain ⟨o, rfl⟩ : ∃ q : Nat, q = o := ⟨o, rfl⟩
    obtain ⟨ho, hk⟩ := mv_isk hrc
    have hcls : ∃ T N, mv_cls[mv_cn M']? = some ((mv_mi M').2.1.cls, T, N) := by
      have h1 := List.all_eq_true.mp mv_cn_ok M' (List.mem_range.mpr (by omega))
      simp only [Bool.or_eq_true, decide_eq_true_eq] at h1
      rcases h1 with h1 | h1
      · omega
      · cases h2 : mv_cls[mv_cn M']? with
        | none => rw [h2] at h1; cases h1
        | some q =>
          obtain ⟨C, T, N⟩ := q
          rw [h2] at h1
          cases h1
          exact ⟨T, N, rfl⟩
    obtain ⟨T, N, hcl⟩ := hcls
    have hn : o < 142 := Nat.lt_of_lt_of_le ho hM.2.2
    have hkd : mv_kd o = (mv_cn M', N) := by
      have h1 := mv_kN o hn (by rw [hk]; exact hcn)
      rw [hk, hcl] at h1
      exact Prod.ext hk (Option.some.inj h1).symm
    have he := mv_wl_get (ad := mv_ad z kad) (cA := cA) (h := σ.2.2) ho
    rw [mv_ce_o hkd hcn] at he
    have hlenA : As.length = b - 1 := by
      have : (st.take b).reverse.length = b := by simp [hbl]
      rw [has] at this
      simp at this
      omega
    have hst : st.map (mv_cv (mv_ad z kad)) = (As.map (mv_cv (mv_ad z kad))).reverse ++ .ref (mv_ad z kad o) :: (st.drop b).map (mv_cv (mv_ad z kad)) := by
      rw [mv_stack (mv_ad z kad) b st, has]
      simp [mv_cv]
    have hpre : PreV s H (mv_mi M').2.1.cls (mv_ad z kad o) (mv_Pc z kad dC dI cA L xs (.ref o :: As) σ) (As.map (mv_cv (mv_ad z kad))) :=
      ⟨mv_blind, va_recv hE.1 hM.1 hcl he, fun U hU hW => ⟨rfl, mv_En_to hE hW hS hU, by rw [hU]; exact hM⟩⟩
    have hfix : CallFix p m c (mv_mi M).1 c.maxLocals s args mv_TS (mv_mi M).2.1.cls := ⟨hx, hb, rfl, hown, hts⟩
    have hws : ∀ w ∈ mv_ws M', ∀ (a' : Array Value) (U : State), s.WarmedH U.vm → w.before a' U = true := by
      intro w hw
      rcases List.mem_cons.mp hw with rfl | hw
      · rw [hw1]; exact mv_pay hts _ p1
      · exact mv_pay hts _ hw
    have hcin : Cond.code (mv_mi M').2.1 (mv_mi M').1 (mv_mi M').2.2.1 (mv_mi M').2.2.2.1 ∈ mv_ws M' := by
      unfold mv_ws; rw [hw1]; exact List.mem_cons_self
    have hroom9 := lv_room (m := m) (pc := pc) (ls := lsA) (rest := st.map (mv_cv (mv_ad z kad))) (st := (st.drop b).map (mv_cv (mv_ad z kad))) (by rw [mv_cat]; exact hcat)
    rcases mv_mwk2 hmw ha with hw | ⟨hh, hw⟩
    · exact ⟨_, vx_runV (As := As.map (mv_cv (mv_ad z kad))) (b := mv_ad z kad o) hfix hCt ⟨⟨rfl, rfl, by show 20 + d + 1 ≤ _; have := hr.1; omega, by show 8 + (_ + 11) + (300 + 60 * d) ≤ _; have := hr.2; omega, hws, hcin, hts _ p1, hts _ p4, p3, p5, hts _ (mv_TS_of hw rfl)⟩, hts _ p8, hts _ p9⟩ hpre rfl (by rw [List.length_map]; exact hlenA) hl.1 hst hroom9 hd hf⟩
    · exact ⟨_, vx_runVN (As := As.map (mv_cv (mv_ad z kad))) (b := mv_ad z kad o) (host := hh) hfix hCt ⟨⟨⟨rfl, rfl, by show 20 + d + 1 ≤ _; have := hr.1; omega, by show 8 + (_ + 11) + (300 + 60 * d) ≤ _; have := hr.2; omega, hws, hcin⟩, hts _ p1, hts _ p4, p3, p5, va_Nw.use rfl (mv_EnN hE hw rfl)⟩, hts _ p8, hts _ p9⟩ hpre rfl (by rw [List.length_map]; exact hlenA) hl.1 hst hroom9 hd hf⟩
/-- a static call -/
theorem mv_c_stat {i M' : Nat} {as rest : List Value} {r : mv_R} (hF : mv_Fx z kad dC dI cA L xs p R s m args meth c M) (hin : mv_in M pc = some (.invokestatic i, nx, a, b, w)) (h : mv_call 0 a b nx ls st σ = some (.inr (.inr (M', as, rest))))
    (hCt : mv_Ct z kad dC dI cA L xs l d M' as σ r) (hr : mv_room d R) {H : Heap} {locs : List Loc} {cells slots : Nat} {lsA : Array Slot} (hM : mv_Mo z kad dC dI cA σ H) (hS : va_S (mv_A1 z) s.heap H locs) (hl : lv_has lsA c.maxLocals (mv_lm (mv_ad z kad) ls))
    (hf : cells + (mv_cc r.2 - mv_cc σ) ≤ R.cells ∧ slots + (mv_ss r.2 - mv_ss σ) ≤ R.slots) :
    ∃ aa, vx_Run p l e R s m args below meth c H locs cells slots (mv_cc r.2 - mv_cc σ) (mv_ss r.2 - mv_ss σ) (F0 m pc lsA (st.map (mv_cv (mv_ad z kad)))) (rest.map (mv_cv (mv_ad z kad))) (mv_Qc z kad dC dI cA r aa) (mv_XC z kad dC dI cA r) (mv_A1 z) := by
  obtain ⟨hok, hlen⟩ := mv_row hin
  have hcr := mv_row3 hin
  obtain ⟨hx, hb, hml, hown, hts, hE, -, hRf, hRl⟩ := id hF
  obtain ⟨ha, rfl, rfl, rfl, hbl, hcat, -, -⟩ := mv_callk h
  obtain ⟨hd, -⟩ := mv_dec (mv_okd hok) hlen (Nat.succ_ne_zero _)
  have hmw : mv_mw (mv_mi M).2.1.cls i M' w = true := by
    unfold mv_ok at hok
    simp only [Bool.and_eq_true] at hok
    exact hok.2
  simp only [mv_crow, Bool.or_eq_true, Bool.and_eq_true, Bool.not_eq_true', decide_eq_false_iff_not, decide_eq_true_eq] at hcr
  rcases hcr with hcr | ⟨h259, hci9⟩
  · exact absurd ha hcr
  have hci : mv_cif M' = (b, 1) ∨ mv_cif M' = (b, 3) := hci9.imp id (fun q => q.1)
  obtain ⟨p1, p2, p3, p4, p5, p6, p7, -, p8, -⟩ := mv_cok_p (mv_cok_at h259)
  have hkk : (mv_cif M').2 = 1 ∨ (mv_cif M').2 = 3 := by rcases hci with q | q <;> rw [q]; exact Or.inl rfl; exact Or.inr rfl
  have hnp : (mv_cif M').1 = b := by rcases hci with q | q <;> rw [q]
  have p8 := p8 hkk
  rw [hnp] at p5
  have hlenA : (((st.take b).reverse).map (mv_cv (mv_ad z kad))).length = b := by simp [hbl]
  have hpre : PreS s H (mv_Pc z kad dC dI cA L xs ((st.take b).reverse) σ) (((st.take b).reverse).map (mv_cv (mv_ad z kad))) :=
    ⟨mv_blind, fun U hU hW => ⟨rfl, mv_En_to hE hW hS hU, by rw [hU]; exact hM⟩⟩
  have hfix : CallFix p m c (mv_mi M).1 c.maxLocals s args mv_TS (mv_mi M).2.1.cls := ⟨hx, hb, rfl, hown, hts⟩
  have hws : ∀ w ∈ mv_ws M', ∀ (a' : Array Value) (U : State), s.WarmedH U.vm → w.before a' U = true := by
    intro w hw
    rcases List.mem_cons.mp hw with rfl | hw
    · exact mv_pay hts _ p1
    · exact mv_pay hts _ hw
  have hroom9 := lv_room (m := m) (pc := pc) (ls := lsA) (rest := st.map (mv_cv (mv_ad z kad))) (st := (st.drop b).map (mv_cv (mv_ad z kad))) (by rw [mv_cat]; exact hcat)
  have hst := mv_stack (mv_ad z kad) b st
  rcases hkk with hkk | hkk
  · have hw1 : mv_w1 M' = .code (mv_mi M').2.1 (mv_mi M').1 (mv_mi M').2.2.1 (mv_mi M').2.2.2.1 := by
      unfold mv_w1
      rw [if_pos (by rw [p7, hkk]; rfl)]
    have hcin : Cond.code (mv_mi M').2.1 (mv_mi M').1 (mv_mi M').2.2.1 (mv_mi M').2.2.2.1 ∈ mv_ws M' := by
      unfold mv_ws; rw [hw1]; exact List.mem_cons_self
    rw [hw1] at p1
    rcases mv_mwk2 hmw ha with hw | ⟨hh, hw⟩
    · exact ⟨_, vx_runS (As := ((st.take b).reverse).map (mv_cv (mv_ad z kad))) hfix hCt ⟨⟨rfl, rfl, by show 20 + d + 1 ≤ _; have := hr.1; omega, by show 8 + (_ + 11) + (300 + 60 * d) ≤ _; have := hr.2; omega, hws, hcin, hts _ p1, hts _ p4, p3, p5, hts _ (mv_TS_of hw rfl)⟩, hts _ p8⟩ hpre rfl hlenA hl.1 hst hroom9 hd hf⟩
    · exact ⟨_, vx_runSN (As := ((st.take b).reverse).map (mv_cv (mv_ad z kad))) (host := hh) hfix hCt ⟨⟨⟨rfl, rfl, by show 20 + d + 1 ≤ _; have := hr.1; omega, by show 8 + (_ + 11) + (300 + 60 * d) ≤ _; have := hr.2; omega, hws, hcin⟩, hts _ p1, hts _ p4, p3, p5, va_Nw.use rfl (mv_EnN hE hw rfl)⟩, hts _ p8, trivial⟩ hpre rfl hlenA hl.1 hst hroom9 hd hf⟩
  · have hw1 : mv_w1 M' = .codeWith (mv_mi M').2.1 (mv_mi M').1 (mv_mi M').2.2.1 (mv_mi M').2.2.2.1 (mv_hh M') := by
      unfold mv_w1
      rw [if_neg (by rw [p7, hkk]; decide)]
    have hcin : Cond.codeWith (mv_mi M').2.1 (mv_mi M').1 (mv_mi M').2.2.1 (mv_mi M').2.2.2.1 (mv_hh M') ∈ mv_ws M' := by
      unfold mv_ws; rw [hw1]; exact List.mem_cons_self
    rw [hw1] at p1
    rcases mv_mwk2 hmw ha with hw | ⟨hh, hw⟩
    · exact ⟨_, vx_runSX (As := ((st.take b).reverse).map (mv_cv (mv_ad z kad))) hfix hCt ⟨⟨rfl, rfl, by show 20 + d + 1 ≤ _; have := hr.1; omega, by show 8 + (_ + 11) + (300 + 60 * d) ≤ _; have := hr.2; omega, hws, hcin⟩, hts _ p1, hts _ p4, p3, p5, hts _ (mv_TS_of hw rfl), hts _ p8⟩ hpre rfl hlenA hl.1 hst hroom9 hd hf⟩
    · rcases hci9 with q | q
      · rw [q] at hkk; cases hkk
      · rw [hw] at q; cases q.2
/-- a constructor -/
theorem mv_c_spec {i M' : Nat} {as rest : List Value} {r : mv_R} (hF : mv_Fx z kad dC dI cA L xs p R s m args meth c M) (hin : mv_in M pc = some (.invokespecial i, nx, a, b, w)) (h : mv_call 2 a b nx ls st σ = some (.inr (.inr (M', as, rest))))
    (hCt : mv_Ct z kad dC dI cA L xs l d M' as σ r) (hr : mv_room d R) {H : Heap} {locs : List Loc} {cells slots : Nat} {lsA : Array Slot} (hM : mv_Mo z kad dC dI cA σ H) (hS : va_S (mv_A1 z) s.heap H locs) (hl : lv_has lsA c.maxLocals (mv_lm (mv_ad z kad) ls))
    (hf : cells + (mv_cc r.2 - mv_cc σ) ≤ R.cells ∧ slots + (mv_ss r.2 - mv_ss σ) ≤ R.slots) :
    ∃ aa, vx_Run p l e R s m args below meth c H locs cells slots (mv_cc r.2 - mv_cc σ) (mv_ss r.2 - mv_ss σ) (F0 m pc lsA (st.map (mv_cv (mv_ad z kad)))) (rest.map (mv_cv (mv_ad z kad))) (mv_Qc z kad dC dI cA r aa) (mv_XC z kad dC dI cA r) (mv_A1 z) := by
  obtain ⟨hok, hlen⟩ := mv_row hin
  have hcr := mv_row3 hin
  obtain ⟨hx, hb, hml, hown, hts, hE, -, hRf, hRl⟩ := id hF
  obtain ⟨ha, rfl, has, rfl, hbl, hcat, hrc, -⟩ := mv_callk h
  obtain ⟨hd, -⟩ := mv_dec (mv_okd hok) hlen (Nat.succ_ne_zero _)
  have hr1 : ∃ o As, as = .ref o :: As := by
    rcases hrc with h9 | h9
    · exact absurd h9 (by decide)
    · unfold mv_rcv at h9
      cases as with
      | nil => cases h9
      | cons v As => cases v <;> first | exact ⟨_, _, rfl⟩ | (simp at h9; done)
  obtain ⟨o, As, rfl⟩ := hr1
  have hmw : mv_mw (mv_mi M).2.1.cls i M' w = true := by
    unfold mv_ok at hok
    simp only [Bool.and_eq_true, Bool.or_eq_true] at hok
    rcases hok.2 with h0 | h0
    · have := of_decide_eq_true h0; omega
    · exact h0
  simp only [mv_crow, Bool.or_eq_true, Bool.and_eq_true, Bool.not_eq_true', decide_eq_false_iff_not, decide_eq_true_eq] at hcr
  rcases hcr with hcr | ⟨⟨h259, hci⟩, hb0⟩
  · exact absurd ha hcr
  obtain ⟨p1, p2, p3, p4, p5, p6, p7, -, -, p8⟩ := mv_cok_p (mv_cok_at h259)
  rw [hci] at p5 p7 p8
  obtain ⟨p8, p9, p10⟩ := p8 rfl
  have hw1 : mv_w1 M' = .code (mv_mi M').2.1 (mv_mi M').1 (mv_mi M').2.2.1 none := by
    unfold mv_w1
    rw [if_pos (by rw [p7]; rfl), p10]
  have hcin : Cond.code (mv_mi M').2.1 (mv_mi M').1 (mv_mi M').2.2.1 none ∈ mv_ws M' := by
    unfold mv_ws; rw [hw1]; exact List.mem_cons_self
  rw [hw1] at p1
  have hlenA : As.length = b - 1 := by
    have : (st.take b).reverse.length = b := by simp [hbl]
    rw [← has] at this
    simp at this
    omega
  have hst : st.map (mv_cv (mv_ad z kad)) = (As.map (mv_cv (mv_ad z kad))).reverse ++ .ref (mv_ad z kad o) :: (st.drop b).map (mv_cv (mv_ad z kad)) := by
    rw [mv_stack (mv_ad z kad) b st, ← has]
    simp [mv_cv]
  have hpre : PreS s H (mv_Pc z kad dC dI cA L xs (.ref o :: As) σ) (.ref (mv_ad z kad o) :: As.map (mv_cv (mv_ad z kad))) :=
    ⟨mv_blind, fun U hU hW => ⟨rfl, mv_En_to hE hW hS hU, by rw [hU]; exact hM⟩⟩
  have hfix : CallFix p m c (mv_mi M).1 c.maxLocals s args mv_TS (mv_mi M).2.1.cls := ⟨hx, hb, rfl, hown, hts⟩
  have hws : ∀ w ∈ mv_ws M', ∀ (a' : Array Value) (U : State), s.WarmedH U.vm → w.before a' U = true := by
    intro w hw
    rcases List.mem_cons.mp hw with rfl | hw
    · rw [hw1]; exact mv_pay hts _ p1
    · exact mv_pay hts _ hw
  have hroom9 := lv_room (m := m) (pc := pc) (ls := lsA) (rest := st.map (mv_cv (mv_ad z kad))) (st := (st.drop b).map (mv_cv (mv_ad z kad))) (by rw [mv_cat]; exact hcat)
  rcases mv_mwk2 hmw ha with hw | ⟨hh, hw⟩
  · exact ⟨_, vx_runI (As := As.map (mv_cv (mv_ad z kad))) (b := mv_ad z kad o) hfix hCt ⟨⟨rfl, rfl, by show 20 + d + 1 ≤ _; have := hr.1; omega, by show 8 + (_ + 11) + (300 + 60 * d) ≤ _; have := hr.2; omega, hws, hcin, hts _ p1, hts _ p4, p3, p5, hts _ (mv_TS_of hw rfl)⟩, p9, hts _ p8⟩ hpre rfl (by rw [List.length_map]; exact hlenA) hl.1 hst hroom9 hd hf⟩
  · exact ⟨_, vx_runIN (As := As.map (mv_cv (mv_ad z kad))) (b := mv_ad z kad o) (host := hh) hfix hCt ⟨⟨⟨rfl, rfl, by show 20 + d + 1 ≤ _; have := hr.1; omega, by show 8 + (_ + 11) + (300 + 60 * d) ≤ _; have := hr.2; omega, hws, hcin⟩, hts _ p1, hts _ p4, p3, p5, va_Nw.use rfl (mv_EnN hE hw rfl)⟩, p9, hts _ p8⟩ hpre rfl (by rw [List.length_map]; exact hlenA) hl.1 hst hroom9 hd hf⟩
end FRAME
