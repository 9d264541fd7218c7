/-! ROWS THAT MAKE; STORES OF REFERENCES; SWITCHES; THE JDK'S OWN METHODS -/
section MAKE
variable {z : Nat} {kad : Nat → Nat} {dC : Nat → ClassId} {dI : Nat → Nat → Nat} {cA : Nat → ClassId} {L : Nat} {xs : Nat → Int32}
variable {p : Program} {l : Launch} {e : Env} {R : Room} {s : State} {m : MethodId} {args : Array Value} {below : List Frame} {meth : Method} {c : Code} {Q : State → Prop} {c0 s0 M : Nat}
variable {pc pc' nx a b w : Nat} {ls ls' : mv_V} {st st' : List Value} {σ σ' : mv_S}
theorem mv_s_aast (hF : mv_Fx z kad dC dI cA L xs p R s m args meth c M) (hin : mv_in M pc = some (.aastore, nx, a, b, w))
    (h : mv_aas nx ls st σ = some (.inl (pc', ls', st', σ'))) (k : mv_W z kad dC dI cA p l e R s m args below meth c Q c0 s0 pc' ls' st' σ') : mv_W z kad dC dI cA p l e R s m args below meth c Q c0 s0 pc ls st σ := by
  obtain ⟨hok, hlen⟩ := mv_row hin
  obtain ⟨hx, hb, hml, hown, hts, hE, -, hRf, hRl⟩ := id hF
  have hdec := mv_okd hok
  unfold mv_aas at h
  split at h
  · next v i o st1 =>
    obtain ⟨o, rfl⟩ : ∃ q : Nat, q = o := ⟨o, rfl⟩
    obtain ⟨v, rfl⟩ : ∃ q : Nat, q = v := ⟨v, rfl⟩
    split at h
    · next hg =>
      obtain ⟨ho, hv, hix, hk⟩ := hg
      have hix := mv_ixk hix
      obtain ⟨rfl, rfl, rfl, rfl⟩ := mv_nx_inv h
      obtain ⟨hd, rfl⟩ := mv_dec hdec hlen (Nat.succ_ne_zero _)
      intro H locs cells slots lsA hM hS hl hc hs
      have ho : o < σ.2.1 := ho
      have hv : v < σ.2.1 := hv
      have he := mv_wl_get (ad := mv_ad z kad) (cA := cA) (h := σ.2.2) ho
      have hev := mv_wl_get (ad := mv_ad z kad) (cA := cA) (h := σ.2.2) hv
      have hD := mv_wl_D (z := z) (kad := kad) (cA := cA) (h := σ.2.2) hM.2.2
      have hn : v < 142 := Nat.lt_of_lt_of_le hv hM.2.2
      have hk' : ((mv_kd o).1 = 24 ∨ (mv_kd o).1 = 25) ∧ (mv_kd v).1 + 24 = (mv_kd o).1 := by omega
      obtain ⟨hk1, hk2⟩ := hk'
      have hkd : mv_kd o = ((mv_kd o).1, (mv_kd o).2) := rfl
      rw [mv_ce_q hkd hk1] at he
      have hkv : (mv_kd v).1 < 8 := by omega
      rw [mv_ce_o (show mv_kd v = ((mv_kd v).1, (mv_kd v).2) from rfl) hkv] at hev
      have hty : ∃ r : vw_C, mv_cls[(mv_kd v).1]? = some r ∧ (mv_tys cA)[(mv_kd o).1 - 20]? = some (cA (mv_kd o).1, .object r.1) := by
        generalize (mv_kd v).1 = tv at *
        generalize (mv_kd o).1 = t at *
        rcases hk1 with rfl | rfl
        · have : tv = 0 := by omega
          subst this; exact ⟨_, rfl, rfl⟩
        · have : tv = 1 := by omega
          subst this; exact ⟨_, rfl, rfl⟩
      obtain ⟨r, hr, hty⟩ := hty
      have h0 : ¬ i < 0 := fun q => hix (Or.inl q)
      have hlt : i.toNatClampNeg < (mv_kd o).2 := Nat.lt_of_not_le fun q => hix (Or.inr q)
      obtain ⟨r', hr', cellV, g1, g2, g3, -⟩ := hM.1 v _ hev
      have hcls := (hE.1.1 _ r hr).2
      obtain ⟨kA, comp, k1, k2, k3, -⟩ := (hE.1.2 _ _ hty).2
      have hcomp : comp = dC (mv_kd v).1 := Option.some.inj (k3.symm.trans hcls.1)
      subst hcomp
      obtain ⟨kC, hkC, -⟩ := hcls.2
      refine W.aast hx hb (hM.1 o _ he) (fun q h => by cases h) (fun h => by cases h) k1 k2 rfl hkC ⟨h0, by show _ < (arrV _ _ _).slots.size; rw [arrV_size]; exact hlt⟩ g1 (fun q h => by rw [g3] at h; cases h) (by rw [g2]; exact hkC) (by rw [g2]; exact va_assign hcls) rfl rfl hd fun H1 e1 z1 oq => ?_
      refine k _ _ _ _ _ ⟨?_, fun q => z1.trans (hM.2.1 q), hM.2.2⟩ (hS.put z1 oq (hD.2 o _ he)) hl hc hs
      show va_P (dC, dI) mv_cls (mv_wl (mv_ad z kad) cA σ.2.1 (mv_up σ.2.2 o i.toNatClampNeg (.ref v))) H1
      rw [mv_up_o, ← mv_wl_set, mv_ce_q hkd hk1]
      refine hM.1.set hD he ?_ oq
      show H1[mv_ad z kad o]? = some (vp_cell _ _)
      rw [e1, vp_cell_q, vp_cell_q, arrV_store]
      congr 2
      funext q
      by_cases hq : q = i.toNatClampNeg
      · simp [hq, updV, mv_ov, va_rf]
      · simp [hq, updV, mv_ov]
    · cases h
  · cases h
theorem mv_instw : ((List.range 8).all (fun a => match mv_cls[a]? with | some (C, _, N) => decide (lw_tbl[[110, 103, 192, 271, 211, 243, 223, 95].getD a 0]? = some (.instantiable C N)) | none => false)) = true := by decide +kernel
theorem mv_iniw : ((List.range 8).all (fun a => match mv_cls[a]? with | some (C, _, _) => decide (lw_tbl[[63, 62, 64, 70, 65, 67, 66, 61].getD a 0]? = some (.initialized C)) | none => false)) = true := by decide +kernel
theorem mv_inst {a : Nat} {C : String} {T : u_T} {N : Nat} (ha : a < 8) (h : mv_cls[a]? = some (C, T, N)) : Cond.instantiable C N ∈ mv_TS ∧ Cond.initialized C ∈ mv_TS := by
  have h1 := List.all_eq_true.mp mv_instw a (List.mem_range.mpr ha)
  have h2 := List.all_eq_true.mp mv_iniw a (List.mem_range.mpr ha)
  rw [h] at h1 h2
  exact ⟨mv_TS_of (of_decide_eq_true h1) rfl, mv_TS_of (of_decide_eq_true h2) rfl⟩
theorem mv_cv_dv (ad : Nat → Nat) (ty : FieldType) : mv_cv ad (defaultValue ty) = defaultValue ty := by cases ty <;> rfl
theorem mv_Mo_push {H H1 : Heap} (hM : mv_Mo z kad dC dI cA σ H) (hn : σ.2.1 < 142) (z1 : H1.size = H.size + 1) (o1 : ∀ q, q < H.size → H1[q]? = H[q]?) (f : Nat → Value) (hat : va_at (dC, dI) mv_cls (mv_ad z kad σ.2.1, mv_ce (mv_ad z kad) cA σ.2.1 f) H1) :
    mv_Mo z kad dC dI cA (σ.1, σ.2.1 + 1, mv_upo σ.2.2 σ.2.1 f) H1 := by
  refine ⟨?_, fun _ => ?_, by show σ.2.1 + 1 ≤ 142; omega⟩
  · show va_P (dC, dI) mv_cls (mv_wl (mv_ad z kad) cA (σ.2.1 + 1) (mv_upo σ.2.2 σ.2.1 f)) H1
    rw [mv_wl_push]
    refine (hM.1.kept (fun k x hx => o1 x.1 ((hM.1 k x hx).lt))).app (fun k x hx => ?_)
    have hz : k < 1 := (List.getElem?_eq_some_iff.mp hx).1
    rw [show k = 0 by omega] at hx
    cases hx
    exact hat
  · have := hM.2.1 hn
    show H1.size = z + (σ.2.1 + 1)
    omega
theorem mv_S_push {H H1 : Heap} {locs : List Loc} (hS : va_S (mv_A1 z) s.heap H locs) (z1 : H1.size = H.size + 1) (o1 : ∀ q, q < H.size → H1[q]? = H[q]?) : va_S (mv_A1 z) s.heap H1 locs :=
  ⟨Nat.le_trans hS.1 (by omega), fun x h1 h2 => (o1 x (Nat.lt_of_lt_of_le h1 hS.1)).trans (hS.2.1 x h1 h2), hS.2.2⟩
theorem mv_s_new {i : Nat} (hF : mv_Fx z kad dC dI cA L xs p R s m args meth c M) (hin : mv_in M pc = some (.new i, nx, a, b, w))
    (h : mv_new a nx ls st σ = some (.inl (pc', ls', st', σ'))) (hR : mv_cc σ' ≤ R.cells + c0 ∧ mv_ss σ' ≤ R.slots + s0) (k : mv_W z kad dC dI cA p l e R s m args below meth c Q c0 s0 pc' ls' st' σ') : mv_W z kad dC dI cA p l e R s m args below meth c Q c0 s0 pc ls st σ := by
  obtain ⟨hok, hlen⟩ := mv_row hin
  obtain ⟨hx, hb, hml, hown, hts, hE, -, hRf, hRl⟩ := id hF
  have hdec := mv_okd hok
  unfold mv_new at h
  split at h
  · cases h
  next ha99 =>
  split at h
  · next hg =>
    obtain ⟨hn, ha9, hk⟩ := hg
    obtain ⟨rfl, rfl, rfl, rfl⟩ := mv_nx_inv h
    obtain ⟨hd, rfl⟩ := mv_dec hdec hlen (Nat.succ_ne_zero _)
    unfold mv_ok at hok
    simp only [Bool.and_eq_true, Bool.or_eq_true, decide_eq_true_eq] at hok
    rcases hok.2 with h0 | h0
    · omega
    split at h0
    · next C T N hcl =>
      have hkd : mv_kd σ.2.1 = (a, N) := by
        have h1 := mv_kN σ.2.1 hn (by rw [hk]; exact ha9)
        rw [hk, hcl] at h1
        exact Prod.ext hk (Option.some.inj h1).symm
      obtain ⟨c1, c2, c3, c4, c5⟩ := mv_ck1 ha9 hcl
      obtain ⟨w1, w2⟩ := mv_inst ha9 hcl
      have hcw : lw_tbl[w]? = some (.classLink (mv_mi M).2.1.cls i C) := of_decide_eq_true h0
      have hKn := hE.1.1 a _ hcl
      intro H locs cells slots lsA hM hS hl hc hs
      have hsz := hM.2.1 hn
      have e5 : mv_sl (σ.2.1 + 1) = mv_sl σ.2.1 + N := by show mv_sl σ.2.1 + (mv_kd σ.2.1).2 = _; rw [hkd]
      simp only [mv_cc, mv_ss] at hR hc hs
      rw [e5] at hR
      refine W.newcK hx hb hown (hts _ (mv_TS_of hcw rfl)) (hts _ w1) (hts _ w2) rfl hd (by omega) (by omega) hKn.2.1 rfl fun H1 kC hkC e1 z1 o1 => ?_
      have k9 := k H1 locs (cells + 1) (slots + N) lsA (mv_Mo_push hM hn z1 o1 _ ?_) (mv_S_push hS z1 o1) hl (by simp only [mv_cc]; omega) (by simp only [mv_ss]; rw [e5]; omega)
      · have k8 : W p l e R s m args below meth c H1 locs (cells + 1) (slots + N) Q (F0 m (pc + 3) lsA (.ref (mv_ad z kad σ.2.1) :: st.map (mv_cv (mv_ad z kad)))) := k9
        rw [show mv_ad z kad σ.2.1 = H.size by unfold mv_ad; rw [if_pos (by omega), hsz]] at k8
        exact k8
      · rw [mv_ce_o hkd ha9, show mv_ad z kad σ.2.1 = H.size by unfold mv_ad; rw [if_pos (by omega), hsz]]
        refine ⟨_, hcl, (u_born (mv_ty a) hts c1 hKn hkC e1 c2).to fun j hj => ?_⟩
        simp [vp_V, hj, mv_cv_dv]
    · cases h0
  · cases h
theorem mv_ao1 : lw_tbl[109]? = some (.arrayOver (.object "SluiceChain$Basin")) := by decide +kernel
theorem mv_ao2 : lw_tbl[198]? = some (.arrayOver (.object "SluiceChain$Chain")) := by decide +kernel
theorem mv_aoB (hE : mv_En z kad dC dI cA L xs s) : va_AO "SluiceChain$Basin" s := mv_EnN hE mv_ao1 rfl
theorem mv_aoC (hE : mv_En z kad dC dI cA L xs s) : va_AO "SluiceChain$Chain" s := mv_EnN hE mv_ao2 rfl
theorem mv_s_anew {i : Nat} (hF : mv_Fx z kad dC dI cA L xs p R s m args meth c M) (hin : mv_in M pc = some (.anewarray i, nx, a, b, w))
    (h : mv_nwa a nx ls st σ = some (.inl (pc', ls', st', σ'))) (hR : mv_cc σ' ≤ R.cells + c0 ∧ mv_ss σ' ≤ R.slots + s0) (k : mv_W z kad dC dI cA p l e R s m args below meth c Q c0 s0 pc' ls' st' σ') : mv_W z kad dC dI cA p l e R s m args below meth c Q c0 s0 pc ls st σ := by
  obtain ⟨hok, hlen⟩ := mv_row hin
  have hsd := mv_row2 hin
  obtain ⟨hx, hb, hml, hown, hts, hE, -, hRf, hRl⟩ := id hF
  have hdec := mv_okd hok
  unfold mv_nwa at h
  split at h
  · next x st1 =>
    split at h
    · next hg =>
      obtain ⟨hn, hx0, ha20, hkd⟩ := hg
      obtain ⟨rfl, rfl, rfl, rfl⟩ := mv_nx_inv h
      obtain ⟨hd, rfl⟩ := mv_dec hdec hlen (Nat.succ_ne_zero _)
      have ha : a = 24 ∨ a = 25 := by
        simp only [mv_sd, Bool.and_eq_true, Bool.or_eq_true, decide_eq_true_eq] at hsd
        exact hsd.2
      have hC : ∃ C, (if a = 24 then "SluiceChain$Basin" else "SluiceChain$Chain") = C ∧ (mv_tys cA)[a - 20]? = some (cA a, .object C) ∧ (Cond.arrayOver (.object C)).before args s = true := by
        rcases ha with rfl | rfl
        · exact ⟨"SluiceChain$Basin", rfl, rfl, va_AO.use (mv_aoB hE)⟩
        · exact ⟨"SluiceChain$Chain", rfl, rfl, va_AO.use (mv_aoC hE)⟩
      obtain ⟨C, hC, hty, hover⟩ := hC
      have hcw : lw_tbl[w]? = some (.classLink (mv_mi M).2.1.cls i C) := by
        unfold mv_ok at hok
        simp only [Bool.and_eq_true, decide_eq_true_eq] at hok
        rw [hC] at hok
        exact of_decide_eq_true hok.2
      obtain ⟨hAr, kA, comp9, r1, r2, r3, r4⟩ := hE.1.2 _ _ hty
      intro H locs cells slots lsA hM hS hl hc hs
      have hsz := hM.2.1 hn
      have hlen9 : (mv_kd σ.2.1).2 ≤ 1071 := by
        have : ∀ o, o < 142 → (mv_kd o).2 ≤ 1071 := by decide +kernel
        exact this _ hn
      have e5 : mv_sl (σ.2.1 + 1) = mv_sl σ.2.1 + x.toNatClampNeg := by show mv_sl σ.2.1 + (mv_kd σ.2.1).2 = _; rw [hkd]
      rw [hkd] at hlen9
      have hlen9 : x.toNatClampNeg ≤ 1071 := hlen9
      simp only [mv_cc, mv_ss] at hR hc hs
      rw [e5] at hR
      refine W.anew hx hb hown (hts _ (mv_TS_of hcw rfl)) hover rfl hd rfl hx0 (by omega) (by omega) (by omega) fun cA' kA' comp f1 f2 f3 f4 => ?_
      have hcA : cA' = cA a := Option.some.inj (f1.symm.trans r4)
      subst hcA
      generalize hH1 : H.push ({ cls := cA a, slots := Array.replicate x.toNatClampNeg .null, vm := .none } : Cell) = H1
      have z1 : H1.size = H.size + 1 := by rw [← hH1, Array.size_push]
      have e1 : H1[H.size]? = some (arrV (cA a) x.toNatClampNeg (fun _ => .null)) := by rw [← hH1, Array.getElem?_push_size, ← arrV_new]
      have o1 : ∀ q : Nat, q < H.size → H1[q]? = H[q]? := fun q hq => by rw [← hH1, Array.getElem?_push, if_neg (Nat.ne_of_lt hq)]
      have k9 := k H1 locs (cells + 1) (slots + x.toNatClampNeg) lsA (mv_Mo_push hM hn z1 o1 _ ?_) (mv_S_push hS z1 o1) hl (by simp only [mv_cc]; omega) (by simp only [mv_ss]; rw [e5]; omega)
      · have k8 : W p l e R s m args below meth c H1 locs (cells + 1) (slots + x.toNatClampNeg) Q (F0 m (pc + 3) lsA (.ref (mv_ad z kad σ.2.1) :: st1.map (mv_cv (mv_ad z kad)))) := k9
        rw [show mv_ad z kad σ.2.1 = H.size by unfold mv_ad; rw [if_pos (by omega), hsz]] at k8
        exact k8
      · rw [mv_ce_q hkd ha, show mv_ad z kad σ.2.1 = H.size by unfold mv_ad; rw [if_pos (by omega), hsz]]
        show H1[H.size]? = some (vp_cell _ _)
        rw [e1, vp_cell_q]
        have : (fun j : Nat => va_rf (mv_ov (mv_ad z kad) (mv_dv a))) = (fun _ => Value.null) := by
          rcases ha with rfl | rfl <;> rfl
        rw [this]
    · cases h
  · cases h
theorem mv_s_switch {d lo hi : Int} {offs : Array Int} (hF : mv_Fx z kad dC dI cA L xs p R s m args meth c M) (hin : mv_in M pc = some (.tableswitch d lo hi offs, nx, a, b, w))
    (h : mv_sw2 a nx d lo hi offs ls st σ = some (.inl (pc', ls', st', σ'))) (k : mv_W z kad dC dI cA p l e R s m args below meth c Q c0 s0 pc' ls' st' σ') : mv_W z kad dC dI cA p l e R s m args below meth c Q c0 s0 pc ls st σ := by
  obtain ⟨hok, hlen⟩ := mv_row hin
  obtain ⟨hx, hb, hml, hown, hts, hE, -, hRf, hRl⟩ := id hF
  have hd := mv_okd hok
  have hap : a = pc := by
    unfold mv_ok at hok
    simp only [Bool.and_eq_true, decide_eq_true_eq] at hok
    exact hok.2
  subst hap
  unfold mv_sw2 at h
  split at h
  · next x st1 =>
    split at h
    · next hr =>
      split at h
      · next h0 =>
        obtain ⟨rfl, rfl, rfl, rfl⟩ := mv_nx_inv h
        intro H locs cells slots lsA hM hS hl hc hs
        exact lv_tableOut hx hb hd hr (by omega) (k _ _ _ _ _ hM hS hl hc hs)
      · cases h
    · next hr =>
      split at h
      · next off ho =>
        split at h
        · next h0 =>
          obtain ⟨rfl, rfl, rfl, rfl⟩ := mv_nx_inv h
          intro H locs cells slots lsA hM hS hl hc hs
          exact lv_tableIn hx hb hd (fun q => hr (Or.inl q)) (fun q => hr (Or.inr q)) ho (by omega) (k _ _ _ _ _ hM hS hl hc hs)
        · cases h
      · cases h
  · cases h
theorem mv_s_newa20 (hF : mv_Fx z kad dC dI cA L xs p R s m args meth c M) (hd : decode (mv_mi M).1 pc = .ok (.newarray .int, 2)) {x : Int32} (hn : σ.2.1 < 142) (hx0 : ¬ x < 0) (hkd : mv_kd σ.2.1 = (20, x.toNatClampNeg))
    (hR : mv_cc (σ.1, σ.2.1 + 1, mv_upo σ.2.2 σ.2.1 (fun _ => mv_dv 20)) ≤ R.cells + c0 ∧ mv_ss (σ.1, σ.2.1 + 1, mv_upo σ.2.2 σ.2.1 (fun _ => mv_dv 20)) ≤ R.slots + s0) (k : mv_W z kad dC dI cA p l e R s m args below meth c Q c0 s0 (pc + 2) ls (.ref σ.2.1 :: st) (σ.1, σ.2.1 + 1, mv_upo σ.2.2 σ.2.1 (fun _ => mv_dv 20))) :
    mv_W z kad dC dI cA p l e R s m args below meth c Q c0 s0 pc ls (.int x :: st) σ := by
  obtain ⟨hx, hb, hml, hown, hts, hE, -, hRf, hRl⟩ := id hF
  intro H locs cells slots lsA hM hS hl hc hs
  have hsz := hM.2.1 hn
  have hlen9 : (mv_kd σ.2.1).2 ≤ 1071 := by
    have : ∀ o, o < 142 → (mv_kd o).2 ≤ 1071 := by decide +kernel
    exact this _ hn
  have e5 : mv_sl (σ.2.1 + 1) = mv_sl σ.2.1 + x.toNatClampNeg := by show mv_sl σ.2.1 + (mv_kd σ.2.1).2 = _; rw [hkd]
  rw [hkd] at hlen9
  have hlen9 : x.toNatClampNeg ≤ 1071 := hlen9
  simp only [mv_cc, mv_ss] at hR hc hs
  rw [e5] at hR
  have hRA : s.vm.findClass ("[" ++ (newarray.typeOf .int).toString) = some (cA 20) := (hE.1.2 0 (cA 20, .int) rfl).2
  refine va_newaK hx hb (atype := .int) (hts _ (mv_TS_of (k := 159) (w := .arrayClass .int) (by decide +kernel) rfl)) rfl hd rfl hx0 rfl (Nat.le_trans (Nat.mul_le_mul hlen9 (by decide : componentBytes (newarray.typeOf .int) ≤ 8)) (by decide)) (by omega) (by omega) rfl fun H1 cA' e1 z1 o1 hAr hNm => ?_
  have hcA : cA' = cA 20 := Option.some.inj (hNm.symm.trans hRA)
  subst hcA
  have k9 := k H1 locs (cells + 1) (slots + x.toNatClampNeg) lsA (mv_Mo_push hM hn z1 o1 _ ?_) (mv_S_push hS z1 o1) hl (by simp only [mv_cc]; omega) (by simp only [mv_ss]; rw [e5]; omega)
  · have k8 : W p l e R s m args below meth c H1 locs (cells + 1) (slots + x.toNatClampNeg) Q (F0 m (pc + 2) lsA (.ref (mv_ad z kad σ.2.1) :: st.map (mv_cv (mv_ad z kad)))) := k9
    rw [show mv_ad z kad σ.2.1 = H.size by unfold mv_ad; rw [if_pos (by omega), hsz]] at k8
    exact k8
  · rw [mv_ce_i hkd (by decide), show mv_ad z kad σ.2.1 = H.size by unfold mv_ad; rw [if_pos (by omega), hsz]]
    show H1[H.size]? = some (vp_cell _ _)
    rw [e1, vp_cell_i]
    rfl
theorem mv_s_newa21 (hF : mv_Fx z kad dC dI cA L xs p R s m args meth c M) (hd : decode (mv_mi M).1 pc = .ok (.newarray .char, 2)) {x : Int32} (hn : σ.2.1 < 142) (hx0 : ¬ x < 0) (hkd : mv_kd σ.2.1 = (21, x.toNatClampNeg))
    (hR : mv_cc (σ.1, σ.2.1 + 1, mv_upo σ.2.2 σ.2.1 (fun _ => mv_dv 21)) ≤ R.cells + c0 ∧ mv_ss (σ.1, σ.2.1 + 1, mv_upo σ.2.2 σ.2.1 (fun _ => mv_dv 21)) ≤ R.slots + s0) (k : mv_W z kad dC dI cA p l e R s m args below meth c Q c0 s0 (pc + 2) ls (.ref σ.2.1 :: st) (σ.1, σ.2.1 + 1, mv_upo σ.2.2 σ.2.1 (fun _ => mv_dv 21))) :
    mv_W z kad dC dI cA p l e R s m args below meth c Q c0 s0 pc ls (.int x :: st) σ := by
  obtain ⟨hx, hb, hml, hown, hts, hE, -, hRf, hRl⟩ := id hF
  intro H locs cells slots lsA hM hS hl hc hs
  have hsz := hM.2.1 hn
  have hlen9 : (mv_kd σ.2.1).2 ≤ 1071 := by
    have : ∀ o, o < 142 → (mv_kd o).2 ≤ 1071 := by decide +kernel
    exact this _ hn
  have e5 : mv_sl (σ.2.1 + 1) = mv_sl σ.2.1 + x.toNatClampNeg := by show mv_sl σ.2.1 + (mv_kd σ.2.1).2 = _; rw [hkd]
  rw [hkd] at hlen9
  have hlen9 : x.toNatClampNeg ≤ 1071 := hlen9
  simp only [mv_cc, mv_ss] at hR hc hs
  rw [e5] at hR
  have hRA : s.vm.findClass ("[" ++ (newarray.typeOf .char).toString) = some (cA 21) := (hE.1.2 1 (cA 21, .char) rfl).2
  refine va_newaK hx hb (atype := .char) (hts _ (mv_TS_of (k := 269) (w := .arrayClass .char) (by decide +kernel) rfl)) rfl hd rfl hx0 rfl (Nat.le_trans (Nat.mul_le_mul hlen9 (by decide : componentBytes (newarray.typeOf .char) ≤ 8)) (by decide)) (by omega) (by omega) rfl fun H1 cA' e1 z1 o1 hAr hNm => ?_
  have hcA : cA' = cA 21 := Option.some.inj (hNm.symm.trans hRA)
  subst hcA
  have k9 := k H1 locs (cells + 1) (slots + x.toNatClampNeg) lsA (mv_Mo_push hM hn z1 o1 _ ?_) (mv_S_push hS z1 o1) hl (by simp only [mv_cc]; omega) (by simp only [mv_ss]; rw [e5]; omega)
  · have k8 : W p l e R s m args below meth c H1 locs (cells + 1) (slots + x.toNatClampNeg) Q (F0 m (pc + 2) lsA (.ref (mv_ad z kad σ.2.1) :: st.map (mv_cv (mv_ad z kad)))) := k9
    rw [show mv_ad z kad σ.2.1 = H.size by unfold mv_ad; rw [if_pos (by omega), hsz]] at k8
    exact k8
  · rw [mv_ce_i hkd (by decide), show mv_ad z kad σ.2.1 = H.size by unfold mv_ad; rw [if_pos (by omega), hsz]]
    show H1[H.size]? = some (vp_cell _ _)
    rw [e1, vp_cell_i]
    rfl
theorem mv_s_newa {at9 : ArrayType} (hF : mv_Fx z kad dC dI cA L xs p R s m args meth c M) (hin : mv_in M pc = some (.newarray at9, nx, a, b, w))
    (h : mv_nwa a nx ls st σ = some (.inl (pc', ls', st', σ'))) (hR : mv_cc σ' ≤ R.cells + c0 ∧ mv_ss σ' ≤ R.slots + s0) (k : mv_W z kad dC dI cA p l e R s m args below meth c Q c0 s0 pc' ls' st' σ') : mv_W z kad dC dI cA p l e R s m args below meth c Q c0 s0 pc ls st σ := by
  obtain ⟨hok, hlen⟩ := mv_row hin
  have hsd := mv_row2 hin
  have hdec := mv_okd hok
  unfold mv_nwa at h
  split at h
  · next x st1 =>
    split at h
    · next hg =>
      obtain ⟨hn, hx0, ha20, hkd⟩ := hg
      obtain ⟨rfl, rfl, rfl, rfl⟩ := mv_nx_inv h
      obtain ⟨hd, rfl⟩ := mv_dec hdec hlen (Nat.succ_ne_zero _)
      have hat : at9 = mv_ky a := by
        unfold mv_ok at hok
        simp only [Bool.and_eq_true, decide_eq_true_eq] at hok
        exact hok.2
      have ha : 20 ≤ a ∧ a < 24 := by
        simp only [mv_sd, Bool.and_eq_true, decide_eq_true_eq] at hsd
        exact hsd.2
      rcases (show a = 20 ∨ a = 21 by omega) with rfl | rfl
      · subst hat; exact mv_s_newa20 hF hd hn hx0 hkd hR k
      · subst hat; exact mv_s_newa21 hF hd hn hx0 hkd hR k
    · cases h
  · cases h
end MAKE
