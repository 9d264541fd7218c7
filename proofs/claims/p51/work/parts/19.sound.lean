/-! THROWS, AND THE CONTRACT -/
section SOUND
variable {z : Nat} {kad : Nat → Nat} {dC : Nat → ClassId} {dI : Nat → Nat → Nat} {cA : Nat → ClassId} {L : Nat} {xs : Nat → Int32}
variable {p : Program} {l : Launch} {e : Env} {R : Room} {s : State} {m : MethodId} {args : Array Value} {below : List Frame} {meth : Method} {c : Code} {Q : State → Prop} {c0 s0 M d : Nat}
/-- the world with one throw more -/
theorem mv_Mo_thr {σ : mv_S} {H H1 : Heap} (hM : mv_Mo z kad dC dI cA σ H) (hn : σ.2.1 = 142) (ho : ∀ q : Nat, q < H.size → H1[q]? = H[q]?) : mv_Mo z kad dC dI cA (σ.1 + 1, σ.2) H1 :=
  ⟨hM.1.kept (fun k q hk => ho q.1 ((hM.1 k q hk).lt)), fun q => absurd hn (Nat.ne_of_lt q), hM.2.2⟩
set_option maxHeartbeats 4000000 in
/-- a method's own throw -/
theorem mv_thrown {k i nx w pc : Nat} {ls : mv_V} {st : List Value} {σ : mv_S} {mc ms : Nat} (hlt : l.stackTraces = false) (hM9 : M < 127) (hF : mv_Fx z kad dC dI cA L xs p R s m args meth c M) (hlocks : meth.locks = false) (htab : mv_nh M = true → ∀ x ∈ c.exceptionTable.toList, False)
    (hin : mv_in M pc = some (.new i, nx, 99, k, w)) (h149 : σ.2.1 = 142) (hcat : (st.map (fun v => v.category)).sum ≤ 8) {Qc : Array Value → State → Outcome → State → Prop} (hmc : mc + c0 = mv_cc (σ.1 + 1, σ.2)) (hms : ms + s0 = mv_ss (σ.1 + 1, σ.2))
    (hR : mv_cc (σ.1 + 1, σ.2) ≤ R.cells + c0 ∧ mv_ss (σ.1 + 1, σ.2) ≤ R.slots + s0) (hRl : 300 ≤ R.locals) :
    mv_W z kad dC dI cA p l e R s m args below meth c (vx_MQ below Qc (mv_XC z kad dC dI cA (.inr k, (σ.1 + 1, σ.2))) args s mc ms (mv_A1 z)) c0 s0 pc ls st σ := by
  have hck := mv_tck_at hM9 hin
  obtain ⟨hok, hlen⟩ := mv_row hin
  obtain ⟨hx, hb, hml, hown, hts, hE, -, hRf, -⟩ := id hF
  obtain ⟨hd0, -⟩ := mv_dec (mv_okd hok) hlen (Nat.succ_ne_zero _)
  simp only [mv_tck, Bool.or_eq_true, Bool.and_eq_true, Bool.not_eq_true', decide_eq_false_iff_not, decide_eq_true_eq] at hck
  rcases hck with hck | ⟨⟨⟨hnh, hk6⟩, hcw⟩, hck⟩
  · exact absurd trivial hck
  obtain ⟨x0, x1, x2, x5⟩ := mv_tw_rx k hk6
  have hIni : Cond.initialized (mv_ec k) ∈ lw_tbl := List.elem_iff.mp (mv_twI k hk6)
  have hIniS : Cond.initialized (mv_ec k) ∈ mv_TS := List.mem_filter.mpr ⟨hIni, rfl⟩
  have hB := fun w (hw : w ∈ (mv_ownB (mv_ec k) (mv_ixx k) (mv_rx k) mv_nms).filter vx_no) => List.all_eq_true.mp (mv_twB k hk6) w hw
  intro H locs cells slots lsA hM hS hl hc hs9
  have hcc : mv_cc (σ.1 + 1, σ.2) = mv_cc σ + 1 := rfl
  have hss : mv_ss (σ.1 + 1, σ.2) = mv_ss σ + 6 := by show mv_sl σ.2.1 + 6 * (σ.1 + 1) = mv_sl σ.2.1 + 6 * σ.1 + 6; omega
  rw [hcc] at hR hmc
  rw [hss] at hR hms
  obtain ⟨-, -, -, -, -, -, -, hU, hN, hNest, -, hStr⟩ := id hE
  have key : ∀ (ic w3 : Nat), lw_tbl[w3]? = some (.methodLink (mv_mi M).2.1.cls ic (Bundle.initS (mv_ec k))) →
      (∀ w ∈ (mv_ownA (mv_mi M).2.1.cls ic (mv_ec k) (mv_ixx k) (mv_rx k) mv_nms).filter vx_no, w.before args s = true) ∧ (∀ w ∈ Cond.classLink (mv_mi M).2.1.cls i (mv_ec k) :: Cond.initialized (mv_ec k) :: (mv_ownA (mv_mi M).2.1.cls ic (mv_ec k) (mv_ixx k) (mv_rx k) mv_nms).filter vx_no, vx_ot w = true) := by
    intro ic w3 hw3
    have one : ∀ w ∈ (mv_ownA (mv_mi M).2.1.cls ic (mv_ec k) (mv_ixx k) (mv_rx k) mv_nms).filter vx_no, w.before args s = true ∧ vx_ot w = true := by
      intro w hw
      obtain ⟨hw1, hw2⟩ := List.mem_filter.mp hw
      rcases mv_own_mem hw1 with rfl | hw1
      · exact ⟨hts _ (mv_TS_of hw3 rfl), rfl⟩
      · have h9 := hB w (List.mem_filter.mpr ⟨hw1, hw2⟩)
        simp only [Bool.and_eq_true, Bool.or_eq_true] at h9
        obtain ⟨⟨h8, h7⟩, h6⟩ := h9
        have hmem : w ∈ lw_tbl := List.elem_iff.mp h8
        refine ⟨?_, h6⟩
        rcases h7 with h7 | h7
        · exact hts _ (List.mem_filter.mpr ⟨hmem, h7⟩)
        · have h5 := hNest w hmem h7
          unfold mv_nest at h7
          split at h7
          · exact va_Nw.use rfl h5
          · exact va_Nw.use rfl h5
          · exact va_Nw.use rfl h5
          · exact va_Nw.use rfl h5
          · exact va_AO.use h5
          · cases h7
    refine ⟨fun w hw => (one w hw).1, fun w hw => ?_⟩
    rcases List.mem_cons.mp hw with rfl | hw
    · rfl
    · rcases List.mem_cons.mp hw with rfl | hw
      · rfl
      · exact (one w hw).2
  have hXC : ∀ t : State, s.vm.Alike t.vm → H.size ≤ t.heap.size → (∀ q : Nat, q < H.size → t.heap[q]? = H[q]?) → mv_XC z kad dC dI cA (.inr k, (σ.1 + 1, σ.2)) (mv_ec k) s t := by
    intro t ha hsz ho
    exact ⟨k, rfl, hk6, rfl, mv_Mo_thr hM h149 ho, Nat.le_trans hS.1 hsz, fun q hq hqA => (ho q (Nat.lt_of_lt_of_le hq hS.1)).trans (hS.2.1 q hq hqA)⟩
  have hcatA : ((st.map (mv_cv (mv_ad z kad))).map fun v => v.category).sum + (13 * (mv_nms.length + 1) + 43) ≤ R.locals := by
    rw [mv_cat]
    have : mv_nms.length = 2 := rfl
    omega
  have hfr : mv_nms.length + 3 < R.frames := by have : mv_nms.length = 2 := rfl; omega
  split at hck
  · next q3 is4 q4 w2 e3 e4 =>
    split at hck
    · next o j tx is nx4 ic nx6 a6 b6 w3 nx9 e5 e6 e7 e8 =>
      simp only [Bool.and_eq_true, decide_eq_true_eq] at hck
      obtain ⟨⟨rfl, rfl⟩, hw3⟩ := hck
      obtain ⟨ok3, len3⟩ := mv_row e3
      obtain ⟨ok4, len4⟩ := mv_row e6
      obtain ⟨ok6, len6⟩ := mv_row e7
      obtain ⟨ok9, len9⟩ := mv_row e8
      obtain ⟨hd3, -⟩ := mv_dec (mv_okd ok3) len3 (Nat.succ_ne_zero _)
      obtain ⟨hd4, -⟩ := mv_dec (mv_okd ok4) len4 (Nat.succ_ne_zero _)
      obtain ⟨hd6, -⟩ := mv_dec (mv_okd ok6) len6 (Nat.succ_ne_zero _)
      obtain ⟨hd9, -⟩ := mv_dec (mv_okd ok9) len9 (Nat.succ_ne_zero _)
      obtain ⟨sa, hsa⟩ := hStr _ _ _ (List.mem_of_getElem? e5)
      obtain ⟨k1, k2⟩ := key ic w3 hw3
      exact mv_throwS hx hb hlt x0 x1 x2 x5 hown (mv_tw_fit k hk6) mv_tw_nms (hts _ (mv_TS_of hcw rfl)) (hts _ hIniS) hsa k1 k2 hU hN hS hl.1 hd0 hd3 hd4 hd6 hd9 (fun x hx => (htab hnh x hx).elim) hfr hcatA (by omega) (by omega) hlocks hXC hS.2.2 (by omega) (by omega)
    · cases hck
  · next q3 is4 q4 w2 e3 e4 =>
    split at hck
    · next o j tx is nx4 ic nx6 a6 b6 w3 nx9 e5 e6 e7 e8 =>
      simp only [Bool.and_eq_true, decide_eq_true_eq] at hck
      obtain ⟨⟨rfl, rfl⟩, hw3⟩ := hck
      obtain ⟨ok3, len3⟩ := mv_row e3
      obtain ⟨ok4, len4⟩ := mv_row e6
      obtain ⟨ok6, len6⟩ := mv_row e7
      obtain ⟨ok9, len9⟩ := mv_row e8
      obtain ⟨hd3, -⟩ := mv_dec (mv_okd ok3) len3 (Nat.succ_ne_zero _)
      obtain ⟨hd4, -⟩ := mv_dec (mv_okd ok4) len4 (Nat.succ_ne_zero _)
      obtain ⟨hd6, -⟩ := mv_dec (mv_okd ok6) len6 (Nat.succ_ne_zero _)
      obtain ⟨hd9, -⟩ := mv_dec (mv_okd ok9) len9 (Nat.succ_ne_zero _)
      obtain ⟨sa, hsa⟩ := hStr _ _ _ (List.mem_of_getElem? e5)
      obtain ⟨k1, k2⟩ := key ic w3 hw3
      exact mv_throwSW hx hb hlt x0 x1 x2 x5 hown (mv_tw_fit k hk6) mv_tw_nms (hts _ (mv_TS_of hcw rfl)) (hts _ hIniS) hsa k1 k2 hU hN hS hl.1 hd0 hd3 hd4 hd6 hd9 (fun x hx => (htab hnh x hx).elim) hfr hcatA (by omega) (by omega) hlocks hXC hS.2.2 (by omega) (by omega)
    · cases hck
  · cases hck
/-- THE CONTRACT: what mv_cl says of a call, the JVM does -/
theorem mv_sound (hlt : l.stackTraces = false) : ∀ (d M : Nat) (as : List Value) (σ : mv_S) (r : mv_R), mv_asf M as → mv_cl L xs d M as σ = some r → mv_Ct z kad dC dI cA L xs l d M as σ r := by
  intro d
  induction d with
  | zero => intro M as σ r _ h; cases h
  | succ d ih =>
    intro M as σ r has h
    obtain ⟨f, hf⟩ := mv_cl_ex h
    have hmono := mv_le_c (mv_cl_mono (L := L) (xs := xs) (d + 1) M as σ r h)
    have hM9 := has.1
    obtain ⟨p1, p2, p3, p4, p5, p6, p7, -, -, -⟩ := mv_cok_p (mv_cok_at hM9)
    have body : ∀ (p : Program) (e : Env) (s : State) (m : MethodId) (args : Array Value) (below : List Frame) (meth : Method) (c : Code) (s₁ : State), BodyLoose p l (mv_mi M).2.1 (headSpec (mv_ws M) (mv_rm (d + 1) (mv_cc r.2 - mv_cc σ) (mv_ss r.2 - mv_ss σ))) (mv_mi M).1 (mv_mi M).2.2.1 (mv_mi M).2.2.2.1 e s m args below meth c s₁ → c.maxLocals = (mv_mi M).2.2.1 →
        (mv_nh M = true → ∀ x ∈ c.exceptionTable.toList, False) → (mv_nh M = false → c.exceptionTable.toList = tableOf (mv_hh M)) → mv_Pc z kad dC dI cA L xs as σ args s →
        W p l e (headSpec (mv_ws M) (mv_rm (d + 1) (mv_cc r.2 - mv_cc σ) (mv_ss r.2 - mv_ss σ))).room s m args below meth c s.heap [] 0 0 (vx_MQ below (mv_Qc z kad dC dI cA r) (mv_XC z kad dC dI cA r) args s (mv_cc r.2 - mv_cc σ) (mv_ss r.2 - mv_ss σ) (mv_A1 z)) (entryFrame m args (mv_mi M).2.2.1) := by
      intro p e s m args below meth c s₁ B hml ht0 ht1 hv
      obtain ⟨rfl, hE, hMo⟩ := hv
      have hF : mv_Fx z kad dC dI cA L xs p (headSpec (mv_ws M) (mv_rm (d + 1) (mv_cc r.2 - mv_cc σ) (mv_ss r.2 - mv_ss σ))).room s m (as.map (mv_cv (mv_ad z kad))).toArray meth c M :=
        ⟨B.exec, B.bytes, hml, findClass_of_methodNamed B.named, fun w hw => atoms_spec (ws := mv_ws M) B.pre w (List.mem_cons_of_mem _ hw), hE, fun hn => (name_of_methodNamed B.named B.method).1.trans hn, by show 12 ≤ 20 + (d + 1); omega, by show 200 ≤ 300 + 60 * (d + 1); omega⟩
      have hlocks := B.notSynchronized
      rw [lg_entry_eq]
      have hl := lv_entry (as.map (mv_cv (mv_ad z kad))) (n := (mv_mi M).2.2.1) (by rw [mv_sl_len]; exact has.2)
      rw [← mv_il_args, ← hml] at hl
      have hfr := mv_frame (Q := vx_MQ below (mv_Qc z kad dC dI cA r) (mv_XC z kad dC dI cA r) (as.map (mv_cv (mv_ad z kad))).toArray s (mv_cc r.2 - mv_cc σ) (mv_ss r.2 - mv_ss σ) (mv_A1 z)) (below := below) (l := l) (e := e) (c0 := mv_cc σ) (s0 := mv_ss σ) (d := d) (res := r) ih (mv_cl_mono (L := L) (xs := xs) d) hF
        ⟨by show 21 + d ≤ 20 + (d + 1); omega, by show 345 + 60 * d ≤ 300 + 60 * (d + 1); omega⟩ ht1 ⟨by show mv_cc r.2 ≤ mv_cc r.2 - mv_cc σ + mv_cc σ; omega, by show mv_ss r.2 ≤ mv_ss r.2 - mv_ss σ + mv_ss σ; omega⟩ ?_ ?_ ?_ f 0 (mv_il 0 as) [] σ hf
      · rw [← hml]
        exact hfr s.heap [] 0 0 _ hMo va_S.rf hl (by omega) (by omega)
      · intro v pc ls st σ1 row hin hs hres
        subst hres
        exact mv_end hF B.returns hlocks hin hs (by have := hmono.1; show mv_cc σ1 - mv_cc σ + mv_cc σ = mv_cc σ1; have : mv_cc σ ≤ mv_cc σ1 := hmono.1; omega) (by have : mv_ss σ ≤ mv_ss σ1 := hmono.2; show mv_ss σ1 - mv_ss σ + mv_ss σ = mv_ss σ1; omega)
      · intro k i nx w pc ls st σ1 hin h149 hcat hres
        subst hres
        have m1 : mv_cc σ ≤ mv_cc (σ1.1 + 1, σ1.2) := hmono.1
        have m2 : mv_ss σ ≤ mv_ss (σ1.1 + 1, σ1.2) := hmono.2
        exact mv_thrown hlt hM9 hF hlocks ht0 hin h149 hcat (by show mv_cc (σ1.1 + 1, σ1.2) - mv_cc σ + mv_cc σ = _; omega) (by show mv_ss (σ1.1 + 1, σ1.2) - mv_ss σ + mv_ss σ = _; omega) ⟨by show _ ≤ mv_cc (σ1.1 + 1, σ1.2) - mv_cc σ + mv_cc σ; omega, by show _ ≤ mv_ss (σ1.1 + 1, σ1.2) - mv_ss σ + mv_ss σ; omega⟩ (by show 300 ≤ 300 + 60 * (d + 1); omega)
      · intro k hnh hk hk6 pc H1 locs1 cells1 slots1 lsA rest q ce hM1 hS1 hc1 hs1 hce hcv hcl
        obtain ⟨r1, σ1⟩ := r
        have hk : r1 = .inr k := hk
        subst hk
        have hc1 : cells1 + mv_cc σ = mv_cc σ1 := hc1
        have hs1 : slots1 + mv_ss σ = mv_ss σ1 := hs1
        exact vx_out (fun x hx => (ht0 hnh x hx).elim) hlocks hce hcv hcl (fun t ht ha => ⟨k, rfl, hk6, rfl, by rw [ht]; exact hM1, hS1.F ht⟩) hS1.2.2 (by show cells1 ≤ mv_cc σ1 - mv_cc σ; omega) (by show slots1 ≤ mv_ss σ1 - mv_ss σ; omega)
    unfold mv_Ct
    by_cases hnh : mv_nh M = true
    · have hw1 : mv_w1 M = .code (mv_mi M).2.1 (mv_mi M).1 (mv_mi M).2.2.1 (mv_mi M).2.2.2.1 := by unfold mv_w1; rw [if_pos hnh]
      refine vx_ofW (cc := (mv_mi M).1) (maxL := (mv_mi M).2.2.1) (ret := (mv_mi M).2.2.2.1) (ws' := mv_TS) p2 (by unfold mv_ws; rw [hw1]) ?_
      intro p e s m args below meth c s₁ B hml ht hv
      exact body p e s m args below meth c s₁ B hml (fun _ => ht) (fun h9 => by rw [hnh] at h9; cases h9) hv
    · have hnf : mv_nh M = false := by cases h9 : mv_nh M; rfl; exact absurd h9 hnh
      have hw1 : mv_w1 M = .codeWith (mv_mi M).2.1 (mv_mi M).1 (mv_mi M).2.2.1 (mv_mi M).2.2.2.1 (mv_hh M) := by unfold mv_w1; rw [if_neg hnh]
      refine vx_ofWH (cc := (mv_mi M).1) (maxL := (mv_mi M).2.2.1) (ret := (mv_mi M).2.2.2.1) (hh := mv_hh M) (ws' := mv_TS) p2 (by unfold mv_ws; rw [hw1]) ?_
      intro p e s m args below meth c s₁ B hml hv
      have hcw : (Cond.codeWith (mv_mi M).2.1 (mv_mi M).1 (mv_mi M).2.2.1 (mv_mi M).2.2.2.1 (mv_hh M)).before args s = true := by
        rw [← hw1]
        exact atoms_spec (ws := mv_ws M) B.pre _ List.mem_cons_self
      exact body p e s m args below meth c s₁ B hml (fun h9 => absurd h9 hnh) (fun _ => vx_table (x := (mv_mi M).2.1) B hcw) hv
end SOUND
