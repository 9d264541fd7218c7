/-! ROWS OF INTS, AND THE LAW'S LINE CHECK -/
section ROWT
variable {z : Nat} {kad0 kad sec : Nat → Nat} {dC : Nat → ClassId} {dI : Nat → Nat → Nat} {cA : Nat → ClassId} {L : Nat} {xs : Nat → Int32}
variable {p : Program} {l : Launch} {e : Env} {R : Room} {s0 s : State} {m : MethodId} {args : Array Value} {below : List Frame} {meth : Method} {c : Code} {Q : State → Prop} {D : va_G} {cB : ClassId} {d1 d2 : Nat} {ka kv : Nat → Nat}
variable {pc pc' nx a b w : Nat} {ls ls' : mv_V} {st st' : List Value} {σ σ' : mv_S} {τ : mo_S}
/-- new int[n] -/
theorem mo_nwa (hG : mo_G z kad0 dC dI cA L xs p s0 m args meth c D cB d1 d2 ka kv) (hin : mv_in k_L_law pc = some (.newarray .int, nx, a, b, w)) (h142 : σ.2.1 = 142) (hsm : mo_sm σ) (hbd : mv_cc σ ≤ 500000 ∧ mv_ss σ ≤ 5000000 ∧ τ.2.1 ≤ 1500)
    (hls : ∀ q ∈ ls, mo_rf (3000 + τ.1) q.2) (hst : ∀ v ∈ st, mo_rf (3000 + τ.1) v) {x : Int32} {n : Nat} (hx9 : x = nI n) (hn9 : n ≤ 5)
    (k : mo_W z kad0 dC dI cA p l e s0 m args below meth c D cB (τ.1 + 1, τ.2.1 + 1, mo_up τ.2.2 τ.1 (.inr (.inr (.inl (n, fun _ => 0))))) nx ls (.ref (3000 + τ.1) :: st) σ) : mo_W z kad0 dC dI cA p l e s0 m args below meth c D cB τ pc ls (.int x :: st) σ := by
  intro kad sec s R lsA Q hk hB hM hX hl hR hQ
  subst hx9
  obtain ⟨hE1, hE2, hE3, hK, hE5, hT, hown⟩ := mo_env hG hB
  have hE := (mo_Fx hG hk hB hR).2.2.2.2.2.1
  obtain ⟨hd, rfl⟩ := mo_dec hin (Nat.succ_ne_zero _)
  obtain ⟨r1, r2, r3, r4⟩ := id hR
  have hz := mo_sz hM h142
  have hS : va_S (fun q => s.heap.size ≤ q) s.heap s.heap [] := va_S.rf
  refine va_newa (D := (dC, dI)) (cl := mv_cls) (tys := mv_tys cA) (ws := []) (A := fun q => s.heap.size ≤ q) (atype := .int) (ty := .int) hG.1 hG.2.1 (hT _ wz_13) rfl hE.1 (fun k q h => by cases h) ⟨fun i j p q h => by simp at h, fun k q h => by simp at h⟩ hS (fun q h => h) (n := nI n) (N' := n) (a0 := (n, .inl (fun _ => 0))) (fun cA => rfl) (nI_pos (by omega)) (nI_clamp (by omega)) (by show n * 4 ≤ _; omega) (show 0 + 1 ≤ R.cells by omega) (show 0 + n ≤ R.slots by omega) hd (fun q cA' H hK' hP hD hS1 => ?_)
  have ec : cA' = cA 20 := by
    have h1 := (hK'.2 0 _ rfl).2
    have h2 := (hK'.2 6 _ rfl).2
    exact Option.some.inj (Eq.trans (Eq.symm (show s.vm.findClass _ = some cA' from h2)) (show s.vm.findClass _ = some (cA 20) from h1))
  subst ec
  have hq : s.heap.size ≤ q := hD.2 0 _ rfl
  have e1 : mv_upn kad (3000 + τ.1) q (3000 + τ.1) = q := if_pos rfl
  have k9 := mo_fin (kad' := mv_upn kad (3000 + τ.1) q) (sec' := mv_upn sec τ.1 q) (st' := .ref (3000 + τ.1) :: st) (lsA := lsA) (ls' := ls) (fun o ho => (mo_upn_lt (by omega) o ho).trans (hk o ho)) hB hR hQ hM h142 hsm (fun o ho => mo_upn_lt (by omega) o ho) hbd (fun q h => Nat.le_trans hz h) hS1 (by omega : 0 + 1 ≤ 20) (by omega : 0 + n ≤ 1300) rfl
    (fun s' hvm hH => mo_X_push (t := .inr (.inr (.inl (n, fun _ => 0)))) hX hz (mo_X_old hX (by rw [hvm]; exact Vm.Alike.refl _) (fun x hx _ => by rw [hH]; exact hS1.2.1 x hx (Nat.not_le.mpr hx))) ⟨rfl, by rw [hH]; exact hP 0 _ rfl, hn9⟩ (Or.inl ⟨hq, hq⟩)) (by rw [mo_lm hls (mo_upn_lt (Nat.le_refl _))]; exact hl) k
  rw [List.map_cons, mo_sl hst (mo_upn_lt (Nat.le_refl _))] at k9
  have e2 : mv_cv (mv_ad z (mv_upn kad (3000 + τ.1) q)) (.ref (3000 + τ.1)) = .ref q := by
    show Value.ref (mv_ad z _ (3000 + τ.1)) = _
    rw [mo_ad, e1]
  rw [e2] at k9
  exact k9
/-- row[i] -/
theorem mo_ial (hG : mo_G z kad0 dC dI cA L xs p s0 m args meth c D cB d1 d2 ka kv) (hin : mv_in k_L_law pc = some (.iaload, nx, a, b, w)) {ib n : Nat} {g : Nat → Int32} {i : Int32} (hib : ib < τ.1) (hb9 : τ.2.2 ib = .inr (.inr (.inl (n, g)))) (hi : vp_in i n)
    (k : mo_W z kad0 dC dI cA p l e s0 m args below meth c D cB τ nx ls (.int (g i.toNatClampNeg) :: st) σ) : mo_W z kad0 dC dI cA p l e s0 m args below meth c D cB τ pc ls (.int i :: .ref (3000 + ib) :: st) σ := by
  intro kad sec s R lsA Q hk hB hM hX hl hR hQ
  have hE := (mo_Fx hG hk hB hR).2.2.2.2.2.1
  obtain ⟨hd, rfl⟩ := mo_dec hin (Nat.succ_ne_zero _)
  obtain ⟨⟨x1, x2, x3⟩, x4⟩ := hX ib hib
  rw [hb9] at x1
  obtain ⟨-, x5, -⟩ := x1
  have e0 : (Value.int i :: .ref (3000 + ib) :: st).map (mv_cv (mv_ad z kad)) = .int i :: .ref (kad (3000 + ib)) :: st.map (mv_cv (mv_ad z kad)) := by
    rw [List.map_cons, List.map_cons]
    show Value.int i :: Value.ref (mv_ad z kad (3000 + ib)) :: _ = _
    rw [mo_ad]
  rw [e0]
  refine va_iald (D := (dC, dI)) (cl := mv_cls) (tys := mv_tys cA) (ws := [(kad (3000 + ib), .inl (cA 20, n, .inl g))]) hG.1 hG.2.1 hE.1 (fun k q h => ?_) 0 0 rfl rfl hi hd ?_
  · match k, h with
    | 0, h => cases h; exact x5
  · exact k kad sec s R lsA Q hk hB hM hX hl hR hQ
/-- row[i] = y -/
theorem mo_ias (hG : mo_G z kad0 dC dI cA L xs p s0 m args meth c D cB d1 d2 ka kv) (hin : mv_in k_L_law pc = some (.iastore, nx, a, b, w)) (h142 : σ.2.1 = 142) (hsm : mo_sm σ) (hbd : mv_cc σ ≤ 500000 ∧ mv_ss σ ≤ 5000000 ∧ τ.2.1 ≤ 1500)
    {ib n : Nat} {g : Nat → Int32} {i y : Int32} (hib : ib < τ.1) (hb9 : τ.2.2 ib = .inr (.inr (.inl (n, g)))) (hi : vp_in i n)
    (k : mo_W z kad0 dC dI cA p l e s0 m args below meth c D cB (τ.1, τ.2.1 + 1, mo_up τ.2.2 ib (.inr (.inr (.inl (n, upd g i.toNatClampNeg y))))) nx ls st σ) : mo_W z kad0 dC dI cA p l e s0 m args below meth c D cB τ pc ls (.int y :: .int i :: .ref (3000 + ib) :: st) σ := by
  intro kad sec s R lsA Q hk hB hM hX hl hR hQ
  have hE := (mo_Fx hG hk hB hR).2.2.2.2.2.1
  obtain ⟨hd, rfl⟩ := mo_dec hin (Nat.succ_ne_zero _)
  have hz := mo_sz hM h142
  obtain ⟨⟨x1, x2, x3⟩, x4⟩ := hX ib hib
  rw [hb9] at x1 x4
  obtain ⟨⟨x6, -⟩, x7⟩ := x4 rfl
  obtain ⟨hlt, -⟩ := mo_O_lt x1
  obtain ⟨hsec, x5, hn5⟩ := x1
  have e0 : (Value.int y :: .int i :: .ref (3000 + ib) :: st).map (mv_cv (mv_ad z kad)) = .int y :: .int i :: .ref (kad (3000 + ib)) :: st.map (mv_cv (mv_ad z kad)) := by
    rw [List.map_cons, List.map_cons, List.map_cons]
    show Value.int y :: Value.int i :: Value.ref (mv_ad z kad (3000 + ib)) :: _ = _
    rw [mo_ad]
  rw [e0]
  have hS : va_S (fun q => q = kad (3000 + ib)) s.heap s.heap [] := va_S.rf
  refine va_iast (D := (dC, dI)) (cl := mv_cls) (tys := mv_tys cA) (ws := [(kad (3000 + ib), .inl (cA 20, n, .inl g))]) (A := fun q => q = kad (3000 + ib)) hG.1 hG.2.1 hE.1 (fun k q h => ?_) ⟨fun i j p q h1 h2 _ => ?_, fun k q h => ?_⟩ hS 0 0 rfl rfl hi hd (fun H locs hP hD hS1 => ?_)
  · match k, h with
    | 0, h => cases h; exact x5
  · match i, j, h1, h2 with
    | 0, 0, _, _ => rfl
  · match k, h with
    | 0, h => cases h; rfl
  have e9 : mv_upn sec ib (kad (3000 + ib)) = sec := by
    funext j
    unfold mv_upn
    split
    · next h => rw [h]; exact hsec.symm
    · rfl
  exact mo_fin (kad' := kad) (sec' := mv_upn sec ib (kad (3000 + ib))) (st' := st) (lsA := lsA) (ls' := ls) hk hB hR hQ hM h142 hsm (fun o ho => rfl) hbd (fun q h => by omega) hS1 (by omega : 0 ≤ 20) (by omega : 0 ≤ 1300) rfl
    (fun s' hvm hH => mo_X_set (t := .inr (.inr (.inl (n, upd g i.toNatClampNeg y)))) hX (by rw [hvm]; exact Vm.Alike.refl _) hz hib (by rw [hb9]; rfl) (fun q h1 h2 h3 => by rw [hH]; exact hS1.2.1 q h1 h2) ⟨rfl, by rw [hH]; exact hP 0 _ rfl, hn5⟩ (Or.inr (Or.inr rfl))) hl k
end ROWT
theorem tb_L_isLine : mv_tb k_L_isLine = t_L_isLine := rfl
theorem r_L_isLine_0 : mv_in k_L_isLine 0 = some (.iload_n 1, 1, 0, 0, 0) := by unfold mv_in; rw [tb_L_isLine]; rfl
theorem r_L_isLine_1 : mv_in k_L_isLine 1 = some (.aload_n 2, 2, 0, 0, 0) := by unfold mv_in; rw [tb_L_isLine]; rfl
theorem r_L_isLine_2 : mv_in k_L_isLine 2 = some (.invokevirtual 91, 5, 998, 1, 987) := by unfold mv_in; rw [tb_L_isLine]; rfl
theorem r_L_isLine_5 : mv_in k_L_isLine 5 = some (.if_icmp .eq 5, 8, 10, 0, 0) := by unfold mv_in; rw [tb_L_isLine]; rfl
theorem r_L_isLine_8 : mv_in k_L_isLine 8 = some (.iconst 0, 9, 0, 0, 0) := by unfold mv_in; rw [tb_L_isLine]; rfl
theorem r_L_isLine_9 : mv_in k_L_isLine 9 = some (.ireturn, 10, 1, 0, 0) := by unfold mv_in; rw [tb_L_isLine]; rfl
theorem r_L_isLine_10 : mv_in k_L_isLine 10 = some (.iconst 0, 11, 0, 0, 0) := by unfold mv_in; rw [tb_L_isLine]; rfl
theorem r_L_isLine_11 : mv_in k_L_isLine 11 = some (.istore_n 3, 12, 0, 0, 0) := by unfold mv_in; rw [tb_L_isLine]; rfl
theorem r_L_isLine_12 : mv_in k_L_isLine 12 = some (.iload_n 3, 13, 0, 0, 0) := by unfold mv_in; rw [tb_L_isLine]; rfl
theorem r_L_isLine_13 : mv_in k_L_isLine 13 = some (.iload_n 1, 14, 0, 0, 0) := by unfold mv_in; rw [tb_L_isLine]; rfl
theorem r_L_isLine_14 : mv_in k_L_isLine 14 = some (.if_icmp .ge 24, 17, 38, 0, 0) := by unfold mv_in; rw [tb_L_isLine]; rfl
theorem r_L_isLine_17 : mv_in k_L_isLine 17 = some (.aload_n 0, 18, 0, 0, 0) := by unfold mv_in; rw [tb_L_isLine]; rfl
theorem r_L_isLine_18 : mv_in k_L_isLine 18 = some (.iload_n 3, 19, 0, 0, 0) := by unfold mv_in; rw [tb_L_isLine]; rfl
theorem r_L_isLine_19 : mv_in k_L_isLine 19 = some (.invokevirtual 96, 22, k_X10_outputAt, 2, 997) := by unfold mv_in; rw [tb_L_isLine]; rfl
theorem r_L_isLine_22 : mv_in k_L_isLine 22 = some (.aload_n 2, 23, 0, 0, 0) := by unfold mv_in; rw [tb_L_isLine]; rfl
theorem r_L_isLine_23 : mv_in k_L_isLine 23 = some (.iload_n 3, 24, 0, 0, 0) := by unfold mv_in; rw [tb_L_isLine]; rfl
theorem r_L_isLine_24 : mv_in k_L_isLine 24 = some (.invokevirtual 100, 27, 998, 2, 1002) := by unfold mv_in; rw [tb_L_isLine]; rfl
theorem r_L_isLine_27 : mv_in k_L_isLine 27 = some (.if_icmp .eq 5, 30, 32, 0, 0) := by unfold mv_in; rw [tb_L_isLine]; rfl
theorem r_L_isLine_30 : mv_in k_L_isLine 30 = some (.iconst 0, 31, 0, 0, 0) := by unfold mv_in; rw [tb_L_isLine]; rfl
theorem r_L_isLine_31 : mv_in k_L_isLine 31 = some (.ireturn, 32, 1, 0, 0) := by unfold mv_in; rw [tb_L_isLine]; rfl
theorem r_L_isLine_32 : mv_in k_L_isLine 32 = some (.iinc 3 1, 35, 0, 0, 0) := by unfold mv_in; rw [tb_L_isLine]; rfl
theorem r_L_isLine_35 : mv_in k_L_isLine 35 = some (.goto (-23), 38, 12, 0, 0) := by unfold mv_in; rw [tb_L_isLine]; rfl
theorem r_L_isLine_38 : mv_in k_L_isLine 38 = some (.iconst 1, 39, 0, 0, 0) := by unfold mv_in; rw [tb_L_isLine]; rfl
theorem r_L_isLine_39 : mv_in k_L_isLine 39 = some (.ireturn, 40, 1, 0, 0) := by unfold mv_in; rw [tb_L_isLine]; rfl
theorem ln_m5 {a b c d e : Cond} (h1 : a ∈ mv_TS) (h2 : b ∈ mv_TS) (h3 : c ∈ mv_TS) (h4 : d ∈ mv_TS) (h5 : e ∈ mv_TS) : ∀ w ∈ [a, b, c, d, e], w ∈ mv_TS := List.forall_mem_cons.mpr ⟨h1, List.forall_mem_cons.mpr ⟨h2, List.forall_mem_cons.mpr ⟨h3, List.forall_mem_cons.mpr ⟨h4, List.forall_mem_cons.mpr ⟨h5, fun _ h => absurd h List.not_mem_nil⟩⟩⟩⟩⟩
section LINE
variable {z : Nat} {kad : Nat → Nat} {dC : Nat → ClassId} {dI : Nat → Nat → Nat} {cA : Nat → ClassId} {L : Nat} {xs : Nat → Int32}
variable {p : Program} {l : Launch} {e : Env} {R : Room} {s : State} {m : MethodId} {args : Array Value} {below : List Frame} {meth : Method} {c : Code} {Q : State → Prop} {c0 s0 : Nat}
variable {pc pc' nx a b w sd n : Nat} {f : Nat → Int32} {ls ls' : mv_V} {st st' : List Value} {σ σ' : mv_S}
theorem ln_decM {M : Nat} {i : Instr} {q : Nat × Nat × Nat} (hin : mv_in M pc = some (i, nx, q)) (hw : mv_w i ≠ 0) : decode (mv_mi M).1 pc = .ok (i, mv_w i) ∧ nx = pc + mv_w i := by
  obtain ⟨hok, hlen⟩ := mv_row hin
  obtain ⟨a, b, w⟩ := q
  exact mv_dec (mv_okd hok) hlen hw
theorem ln_own : (mv_mi k_L_isLine).2.1.cls = "SluiceChainLaw" := rfl
/-- text.length() -/
theorem ln_len (hF : mv_Fx z kad dC dI cA L xs p R s m args meth c k_L_isLine) (hE : tR (kad 3000) sd n f (mv_A1 z) s s.heap) (hin : mv_in k_L_isLine pc = some (.invokevirtual 91, nx, a, b, w)) (hcat : (st.map (fun v => v.category)).sum ≤ 8)
    (k : mv_W z kad dC dI cA p l e R s m args below meth c Q c0 s0 nx ls (.int (nI n) :: st) σ) (hR : mv_cc σ ≤ R.cells + c0 ∧ mv_ss σ ≤ R.slots + s0) (hfr : 21 ≤ R.frames ∧ 345 ≤ R.locals) : mv_W z kad dC dI cA p l e R s m args below meth c Q c0 s0 pc ls (.ref 3000 :: st) σ := by
  obtain ⟨hx, hb, hml, hown, hT, hEn, -, -, -⟩ := id hF
  obtain ⟨hd, rfl⟩ := ln_decM hin (Nat.succ_ne_zero _)
  intro H locs cells slots lsA hM hS hl hc hs
  have hts : ∀ w ∈ (Cond.initialized "java/lang/String" :: mv_TS), w.before args s = true := fun w h => by
    rcases List.mem_cons.mp h with rfl | h
    · exact hT _ wi_str
    · exact hT w h
  have e0 : (Value.ref 3000 :: st).map (mv_cv (mv_ad z kad)) = .ref (kad 3000) :: st.map (mv_cv (mv_ad z kad)) := rfl
  rw [e0]
  refine va_calli (va_runV (As := []) (rest := st.map (mv_cv (mv_ad z kad))) ⟨hx, hb, hml, hown, hts⟩ (cj_len l H (kad 3000) sd n _) (cwV (C := "java/lang/String") 0 hts (gj_of (l := [Cond.methodLink "SluiceChainLaw" 91 yj_len, Cond.instanceMethod yj_len, Cond.selects "java/lang/String" yj_len yj_len, Cond.initialized "java/lang/String", _]) (ln_m5 (mv_TS_of (k := 987) (by decide +kernel) rfl) wn_len ws_len wi_str wj_len)) rfl rfl rfl (by decide +kernel) ⟨Nat.le_trans (Nat.le_of_ble_eq_true rfl) hfr.1, Nat.le_trans (Nat.le_of_ble_eq_true rfl) hfr.2⟩) ⟨tBlindJ, tR_recv hE hS, fun U hU hW => ⟨rfl, hU, tR_j (tR_ok.to (A' := vj_N) hE hS (fun q h => h.elim) hU hW.alike)⟩⟩ rfl rfl (hl.1.trans hml) rfl (lv_room (by rw [mo_cats]; exact hcat)) hd ⟨(show cells + 0 ≤ R.cells by omega), (show slots + 0 ≤ R.slots by omega)⟩) hS (fun q _ h => h.elim) (fun q h => h.elim) (fun r u t H1 locs1 ht hvm hw hB hz1 hk1 hS1 => ?_)
  have hH := ht.symm.trans hB
  subst hH
  subst hw
  exact k _ _ _ _ _ hM hS1 hl hc hs
/-- text.charAt(i) -/
theorem ln_cha (hF : mv_Fx z kad dC dI cA L xs p R s m args meth c k_L_isLine) (hE : tR (kad 3000) sd n f (mv_A1 z) s s.heap) (hin : mv_in k_L_isLine pc = some (.invokevirtual 100, nx, a, b, w)) (hcat : (st.map (fun v => v.category)).sum ≤ 8) {i : Nat} (hi : i < n) (hn : n < 2 ^ 30)
    (k : mv_W z kad dC dI cA p l e R s m args below meth c Q c0 s0 nx ls (.int (f i &&& 255) :: st) σ) (hR : mv_cc σ ≤ R.cells + c0 ∧ mv_ss σ ≤ R.slots + s0) (hfr : 21 ≤ R.frames ∧ 345 ≤ R.locals) : mv_W z kad dC dI cA p l e R s m args below meth c Q c0 s0 pc ls (.int (nI i) :: .ref 3000 :: st) σ := by
  obtain ⟨hx, hb, hml, hown, hT, hEn, -, -, -⟩ := id hF
  obtain ⟨hd, rfl⟩ := ln_decM hin (Nat.succ_ne_zero _)
  intro H locs cells slots lsA hM hS hl hc hs
  have hts : ∀ w ∈ (Cond.initialized "java/lang/String" :: mv_TS), w.before args s = true := fun w h => by
    rcases List.mem_cons.mp h with rfl | h
    · exact hT _ wi_str
    · exact hT w h
  have e0 : (Value.int (nI i) :: .ref 3000 :: st).map (mv_cv (mv_ad z kad)) = .int (nI i) :: .ref (kad 3000) :: st.map (mv_cv (mv_ad z kad)) := rfl
  rw [e0]
  refine va_calli (va_runV (As := [.int (nI i)]) (rest := st.map (mv_cv (mv_ad z kad))) ⟨hx, hb, hml, hown, hts⟩ (cj_cha l H (kad 3000) sd n _ (nI i) (f i) (vp_in_nI hi (by omega)) ⟨nI_pos (by omega), nI_lt hi (by omega)⟩ (by rw [nI_clamp (by omega)])) (cwV (C := "java/lang/String") 1 hts (gj_of (l := [Cond.methodLink "SluiceChainLaw" 100 yj_cha, Cond.instanceMethod yj_cha, Cond.selects "java/lang/String" yj_cha yj_cha, Cond.initialized "java/lang/String", _]) (ln_m5 (mv_TS_of (k := 1002) (by decide +kernel) rfl) wn_cha ws_cha wi_str wj_cha)) rfl rfl rfl (by decide +kernel) ⟨Nat.le_trans (Nat.le_of_ble_eq_true rfl) hfr.1, Nat.le_trans (Nat.le_of_ble_eq_true rfl) hfr.2⟩) ⟨tBlindJ, tR_recv hE hS, fun U hU hW => ⟨rfl, hU, tR_j (tR_ok.to (A' := vj_N) hE hS (fun q h => h.elim) hU hW.alike)⟩⟩ rfl rfl (hl.1.trans hml) rfl (lv_room (by rw [mo_cats]; exact hcat)) hd ⟨(show cells + 0 ≤ R.cells by omega), (show slots + 0 ≤ R.slots by omega)⟩) hS (fun q _ h => h.elim) (fun q h => h.elim) (fun r u t H1 locs1 ht hvm hw hB hz1 hk1 hS1 => ?_)
  have hH := ht.symm.trans hB
  subst hH
  subst hw
  exact k _ _ _ _ _ hM hS1 hl hc hs
theorem ln_row (hF : mv_Fx z kad dC dI cA L xs p R s m args meth c k_L_isLine) {r : mv_I} (hR : mv_cc σ ≤ R.cells + c0 ∧ mv_ss σ ≤ R.slots + s0) (hin : mv_in k_L_isLine pc = some r) (hs : mv_stp L xs r ls st σ = some (.inl (pc', ls', st', σ)))
    (k : mv_W z kad dC dI cA p l e R s m args below meth c Q c0 s0 pc' ls' st' σ) : mv_W z kad dC dI cA p l e R s m args below meth c Q c0 s0 pc ls st σ := mv_step hF hin hs hR k
theorem ln_cmp (cd : ClassFile.Cond) (x y : Int32) {o : Int} {a9 nx9 b9 w9 q : Nat} (hc : mv_cmp cd x y = true ↔ q = a9) (hn : q = a9 ∨ q = nx9) (hne : a9 ≠ nx9) : mv_stp L xs (.if_icmp cd o, nx9, a9, b9, w9) ls (.int y :: .int x :: st) σ = some (.inl (q, ls, st, σ)) := by
  show mv_nx (if mv_cmp cd x y = true then a9 else nx9) ls st σ = _
  by_cases h : mv_cmp cd x y = true
  · rw [if_pos h, hc.mp h]; rfl
  · rw [if_neg h]
    rcases hn with e | e
    · exact absurd (hc.mpr e) h
    · rw [e]; rfl
theorem ln_call (hF : mv_Fx z kad dC dI cA L xs p R s m args meth c k_L_isLine) (hlt : l.stackTraces = false) (hR : mv_cc σ ≤ R.cells + c0 ∧ mv_ss σ ≤ R.slots + s0) (hfr : 40 ≤ R.frames ∧ 1000 ≤ R.locals) {r : mv_I} (hin : mv_in k_L_isLine pc = some r) {M' : Nat} {as rest : List Value} (hs : mv_stp L xs r ls st σ = some (.inr (.inr (M', as, rest)))) {v : Option Value} (hcl : mv_cl L xs 2 M' as σ = some (.inl v, σ))
    (k : mv_W z kad dC dI cA p l e R s m args below meth c Q c0 s0 r.2.1 ls (v.toList ++ rest) σ) : mv_W z kad dC dI cA p l e R s m args below meth c Q c0 s0 pc ls st σ := by
  have hr : mv_room 2 R := ⟨by omega, by omega⟩
  have hCt := mv_sound (z := z) (kad := kad) (dC := dC) (dI := dI) (cA := cA) hlt 2 M' as σ _ (mv_call_as hin hs) hcl
  intro H locs cells slots lsA hM hS hl hc hs9
  have hf : cells + (mv_cc σ - mv_cc σ) ≤ R.cells ∧ slots + (mv_ss σ - mv_ss σ) ≤ R.slots := by omega
  have hnx : r.2.1 = pc + 3 := by
    obtain ⟨i, nx, a, b, w, ⟨rfl, -⟩ | ⟨rfl, -⟩ | ⟨rfl, -⟩⟩ := mv_call_inv hs <;>
      (obtain ⟨hok, hlen⟩ := mv_row hin; obtain ⟨-, e9⟩ := mv_dec (mv_okd hok) hlen (Nat.succ_ne_zero _); exact e9)
  have hrun : ∃ aa, vx_Run p l e R s m args below meth c H locs cells slots (mv_cc σ - mv_cc σ) (mv_ss σ - mv_ss σ) (F0 m pc lsA (st.map (mv_cv (mv_ad z kad)))) (rest.map (mv_cv (mv_ad z kad))) (mv_Qc z kad dC dI cA (.inl v, σ) aa) (mv_XC z kad dC dI cA (.inl v, σ)) (mv_A1 z) := by
    obtain ⟨i, nx, a, b, w, ⟨rfl, h9⟩ | ⟨rfl, h9⟩ | ⟨rfl, h9⟩⟩ := mv_call_inv hs
    · exact mv_c_virt hF hin h9 hCt hr hM hS hl hf
    · exact mv_c_stat hF hin h9 hCt hr hM hS hl hf
    · exact mv_c_spec hF hin h9 hCt hr hM hS hl hf
  obtain ⟨aa, hrun⟩ := hrun
  refine mv_after (r := (.inl v, σ)) hrun hS hl hc hs9 ⟨Nat.le_refl _, Nat.le_refl _⟩ ?_ ?_
  · intro v2 hv H1 locs1 cells1 slots1 hM1 hS1 hc1 hs1
    have hv : v = v2 := Sum.inl.inj hv
    subst hv
    have k9 := k H1 locs1 cells1 slots1 lsA hM1 hS1 hl hc1 hs1
    rw [hnx, mv_tl] at k9
    exact k9
  · intro k2 hk2
    cases hk2
/-- the loop of isLine -/
theorem ln_loop (hF : mv_Fx z kad dC dI cA L xs p R s m args meth c k_L_isLine) (hlt : l.stackTraces = false) (hE : tR (kad 3000) sd n f (mv_A1 z) s s.heap) (hn : n ≤ 1000) (hR : mv_cc σ ≤ R.cells + c0 ∧ mv_ss σ ≤ R.slots + s0) (hfr : 40 ≤ R.frames ∧ 1000 ≤ R.locals) {g : Nat → Int32} {t : Nat} {h : mv_H} (hσ : σ = (t, 142, h))
    (hout : ∀ j, j < n → mv_cl L xs 2 k_X10_outputAt [.ref 0, .int (nI j)] σ = some (.inl (some (.int (g j))), σ)) (hfg : ∀ j, j < n → f j &&& 255 = g j)
    (hend : mv_W z kad dC dI cA p l e R s m args below meth c Q c0 s0 38 [(3, .int (nI n)), (0, .ref 0), (1, .int (nI n)), (2, .ref 3000)] [] σ) :
    ∀ (d j : Nat), j + d = n → mv_W z kad dC dI cA p l e R s m args below meth c Q c0 s0 12 [(3, .int (nI j)), (0, .ref 0), (1, .int (nI n)), (2, .ref 3000)] [] σ := by
  subst hσ
  intro d
  induction d with
  | zero =>
    intro j hj
    obtain rfl : j = n := by omega
    refine ln_row hF hR r_L_isLine_12 rfl (ln_row hF hR r_L_isLine_13 rfl (ln_row hF hR r_L_isLine_14 (ln_cmp (q := 38) .ge _ _ ⟨fun _ => rfl, fun _ => ?_⟩ (.inl rfl) (by decide)) hend))
    exact decide_eq_true (nI_le (Nat.le_refl _) (by omega))
  | succ d ih =>
    intro j hj
    refine ln_row hF hR r_L_isLine_12 rfl (ln_row hF hR r_L_isLine_13 rfl (ln_row hF hR r_L_isLine_14 (ln_cmp (q := 17) .ge _ _ ⟨fun h => ?_, fun h => by cases h⟩ (.inr rfl) (by decide)) (ln_row hF hR r_L_isLine_17 rfl (ln_row hF hR r_L_isLine_18 rfl ?_))))
    · exact absurd (of_decide_eq_true h) (nI_ge (by omega) (by omega))
    refine ln_call hF hlt hR hfr r_L_isLine_19 ((kv_X10_outputAt (v0 := nI j) (st := [])).trans (if_pos (by decide))) (hout j (by omega)) ?_
    refine ln_row hF hR r_L_isLine_22 rfl (ln_row hF hR r_L_isLine_23 rfl (ln_cha hF hE r_L_isLine_24 (by exact (show 1 ≤ 8 by decide)) (i := j) (by omega) (by omega) ?_ hR ⟨by omega, by omega⟩))
    rw [hfg j (by omega)]
    refine ln_row hF hR r_L_isLine_27 (ln_cmp (q := 32) .eq _ _ ⟨fun _ => rfl, fun _ => decide_eq_true rfl⟩ (.inl rfl) (by decide)) (ln_row hF hR r_L_isLine_32 rfl (ln_row hF hR r_L_isLine_35 rfl ?_))
    have h9 := ih (j + 1) (by omega)
    rw [nI_succ] at h9
    exact h9
/-- isLine: the output's letters are the text's -/
theorem ln_line (hlt : l.stackTraces = false) {t n sd : Nat} {h : mv_H} {f g : Nat → Int32} (hn : n ≤ 1000) (hout : ∀ j, j < n → mv_cl L xs 2 k_X10_outputAt [.ref 0, .int (nI j)] (t, 142, h) = some (.inl (some (.int (g j))), (t, 142, h))) (hfg : ∀ j, j < n → f j &&& 255 = g j) :
    Met l (mv_mi k_L_isLine).2.1 (mv_ws k_L_isLine) ({ frames := 50, cells := 0, slots := 0, locals := 2000 } : Room) (va_Pc [.ref z, .int (nI n), .ref (kad 3000)] (fun U => (mv_En z kad dC dI cA L xs U ∧ mv_Mo z kad dC dI cA (t, 142, h) U.heap) ∧ tR (kad 3000) sd n f (mv_A1 z) U U.heap)) (va_Qi (fun r (_ : Unit) => r = 1) (fun _ u => mv_Mo z kad dC dI cA (t, 142, h) u.heap) (mv_A1 z)) 0 0 (mv_A1 z) := by
  refine Met.ofW (cc := (mv_mi k_L_isLine).1) (maxL := 4) (ret := some .boolean) (by decide) rfl ?_
  intro p e s m args below meth c s₁ B hml hv
  obtain ⟨rfl, ⟨hE, hMo⟩, hR4⟩ := hv
  have hF : mv_Fx z kad dC dI cA L xs p (headSpec (mv_ws k_L_isLine) ({ frames := 50, cells := 0, slots := 0, locals := 2000 } : Room)).room s m #[.ref z, .int (nI n), .ref (kad 3000)] meth c k_L_isLine :=
    ⟨B.exec, B.bytes, hml, findClass_of_methodNamed B.named, fun w hw => atoms_spec (ws := mv_ws k_L_isLine) B.pre w (List.mem_cons_of_mem _ hw), hE, fun hn => (name_of_methodNamed B.named B.method).1.trans hn, by show 12 ≤ 50; decide, by show 200 ≤ 2000; decide⟩
  have hlocks := B.notSynchronized
  have hR9 : mv_cc (t, 142, h) ≤ (headSpec (mv_ws k_L_isLine) ({ frames := 50, cells := 0, slots := 0, locals := 2000 } : Room)).room.cells + mv_cc (t, 142, h) ∧ mv_ss (t, 142, h) ≤ (headSpec (mv_ws k_L_isLine) ({ frames := 50, cells := 0, slots := 0, locals := 2000 } : Room)).room.slots + mv_ss (t, 142, h) := ⟨Nat.le_add_left _ _, Nat.le_add_left _ _⟩
  have hfr9 : 40 ≤ (headSpec (mv_ws k_L_isLine) ({ frames := 50, cells := 0, slots := 0, locals := 2000 } : Room)).room.frames ∧ 1000 ≤ (headSpec (mv_ws k_L_isLine) ({ frames := 50, cells := 0, slots := 0, locals := 2000 } : Room)).room.locals := ⟨by show 40 ≤ 50; decide, by show 1000 ≤ 2000; decide⟩
  have hl := lv_entry ([Value.ref z, .int (nI n), .ref (kad 3000)]) (n := 4) (Nat.le_of_ble_eq_true rfl)
  rw [lg_entry_eq]
  generalize (lg_sl ([Value.ref z, .int (nI n), .ref (kad 3000)]) ++ List.replicate (4 - (lg_sl ([Value.ref z, .int (nI n), .ref (kad 3000)])).length) Slot.unset).toArray = ls at hl ⊢
  have hl : lv_has ls c.maxLocals (mv_lm (mv_ad z kad) [(0, .ref 0), (1, .int (nI n)), (2, .ref 3000)]) := by rw [hml]; exact hl
  have key : mv_W z kad dC dI cA p l e (headSpec (mv_ws k_L_isLine) ({ frames := 50, cells := 0, slots := 0, locals := 2000 } : Room)).room s m #[.ref z, .int (nI n), .ref (kad 3000)] below meth c (MQ below (va_Qi (fun r (_ : Unit) => r = 1) (fun _ u => mv_Mo z kad dC dI cA (t, 142, h) u.heap) (mv_A1 z)) #[.ref z, .int (nI n), .ref (kad 3000)] s 0 0 (mv_A1 z)) (mv_cc (t, 142, h)) (mv_ss (t, 142, h)) 0 [(0, .ref 0), (1, .int (nI n)), (2, .ref 3000)] [] (t, 142, h) := by
    refine ln_row hF hR9 r_L_isLine_0 rfl (ln_row hF hR9 r_L_isLine_1 rfl (ln_len hF hR4 r_L_isLine_2 (show 1 ≤ 8 by decide) ?_ hR9 ⟨by omega, by omega⟩))
    refine ln_row hF hR9 r_L_isLine_5 (ln_cmp (q := 10) .eq _ _ ⟨fun _ => rfl, fun _ => decide_eq_true rfl⟩ (.inl rfl) (by decide)) (ln_row hF hR9 r_L_isLine_10 rfl (ln_row hF hR9 r_L_isLine_11 rfl ?_))
    refine ln_loop hF hlt hR4 hn hR9 hfr9 rfl hout hfg ?_ n 0 (by omega)
    refine ln_row hF hR9 r_L_isLine_38 rfl ?_
    intro H locs cells slots lsA hM hS hl hc hs
    have e1 : cells = 0 := by omega
    have e2 : slots = 0 := by omega
    subst e1 e2
    exact W.zret (v := 1) B.exec B.bytes B.returns rfl (fun u ht hW => ⟨⟨1, (), rfl, rfl, by show mv_Mo z kad dC dI cA (t, 142, h) u.heap; rw [ht]; exact hM⟩, hS.F ht⟩) hS.2.2 (ln_decM r_L_isLine_39 (by decide)).1
  exact key s.heap [] 0 0 ls hMo va_S.rf hl (Nat.zero_add _) (Nat.zero_add _)
end LINE
