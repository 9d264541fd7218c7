/-! THE ROWS OVER THE HEAP -/
theorem mv_kN : ∀ o, o < 142 → (mv_kd o).1 < 8 → (mv_cls[(mv_kd o).1]?).map (fun q => q.2.2) = some (mv_kd o).2 := by decide +kernel
theorem mv_kA : ∀ o, o < 142 → ¬ (mv_kd o).1 < 8 → 20 ≤ (mv_kd o).1 ∧ (mv_kd o).1 < 26 := by decide +kernel
theorem mv_isk {n o a : Nat} (h : mv_is n o a = true) : o < n ∧ (mv_kd o).1 = a := by
  simp only [mv_is, Bool.and_eq_true, decide_eq_true_eq] at h
  exact h
theorem mv_ixk {i : Int32} {n : Nat} (h : mv_ix i n = true) : vp_in i n := by
  exact (of_decide_eq_true (show decide (¬ (i < 0 ∨ n ≤ i.toNatClampNeg)) = true from h) : ¬ (i < 0 ∨ n ≤ i.toNatClampNeg))
theorem mv_fwk {own : String} {i a b w : Nat} (h : mv_fw own i a b w = true) : lw_tbl[w]? = some (.fieldLink own i (mv_ft a b).1 (mv_ft a b).2.1 (mv_ft a b).2.2) ∨ ∃ hh, lw_tbl[w]? = some (.fieldLinkNest own i (mv_ft a b).1 (mv_ft a b).2.1 (mv_ft a b).2.2 hh) := by
  unfold mv_fw at h
  split at h
  · next o j r n d e =>
    simp only [Bool.and_eq_true, decide_eq_true_eq] at h
    obtain ⟨⟨rfl, rfl⟩, h3⟩ := h
    rw [← h3]; exact Or.inl e
  · next o j r n d hh e =>
    simp only [Bool.and_eq_true, decide_eq_true_eq] at h
    obtain ⟨⟨rfl, rfl⟩, h3⟩ := h
    rw [← h3]; exact Or.inr ⟨hh, e⟩
  · cases h
theorem mv_ce_o {ad : Nat → Nat} {cA : Nat → ClassId} {o a N : Nat} {f : Nat → Value} (h : mv_kd o = (a, N)) (ha : a < 8) : mv_ce ad cA o f = .inr (a, (List.range N).map (fun j => mv_cv ad (f j))) := by
  unfold mv_ce
  rw [h, if_pos ha]
theorem mv_fit_ok {ad : Nat → Nat} {ty : FieldType} {v : Value} (h : mv_fit ty v = true) : narrow ty (mv_cv ad v) = mv_cv ad v ∧ fits ty (mv_cv ad v) = true := by
  unfold mv_fit at h
  split at h
  · exact ⟨rfl, rfl⟩
  · simp only [Bool.or_eq_true, decide_eq_true_eq] at h
    rcases h with rfl | rfl
    · exact ⟨(by decide : narrow .boolean (.int 0) = .int 0), (by decide : fits .boolean (.int 0) = true)⟩
    · exact ⟨(by decide : narrow .boolean (.int 1) = .int 1), (by decide : fits .boolean (.int 1) = true)⟩
  · exact ⟨rfl, rfl⟩
  · exact ⟨rfl, rfl⟩
  · exact ⟨rfl, rfl⟩
  · cases h
theorem mv_fs_set {ad : Nat → Nat} {N b : Nat} {f : Nat → Value} {v : Value} : ((List.range N).map (fun j => mv_cv ad (f j))).set b (mv_cv ad v) = (List.range N).map (fun j => mv_cv ad (if j = b then v else f j)) := by
  apply List.ext_getElem?
  intro j
  rw [List.getElem?_set]
  by_cases hj : j < N
  · by_cases e : b = j
    · subst e; simp [hj]
    · have e' : ¬ j = b := fun h => e h.symm
      simp [e, e', hj]
  · by_cases e : b = j
    · subst e; simp [hj]
    · simp [e, hj]
section HEAP
variable {z : Nat} {kad : Nat → Nat} {dC : Nat → ClassId} {dI : Nat → Nat → Nat} {cA : Nat → ClassId} {L : Nat} {xs : Nat → Int32}
variable {p : Program} {l : Launch} {e : Env} {R : Room} {s : State} {m : MethodId} {args : Array Value} {below : List Frame} {meth : Method} {c : Code} {Q : State → Prop} {c0 s0 M : Nat}
variable {pc pc' nx a b w : Nat} {ls ls' : mv_V} {st st' : List Value} {σ σ' : mv_S}
theorem mv_s_acmp {cd : ClassFile.ACond} {off : Int} {x y : Nat} (hF : mv_Fx z kad dC dI cA L xs p R s m args meth c M) (hin : mv_in M pc = some (.if_acmp cd off, nx, a, b, w))
    (h : (if 1000 ≤ x ∧ x < 1014 ∧ 1000 ≤ y ∧ y < 1014 then mv_nx (if mv_ac cd x y = true then a else nx) ls st σ else none) = some (.inl (pc', ls', st', σ')))
    (k : mv_W z kad dC dI cA p l e R s m args below meth c Q c0 s0 pc' ls' st' σ') : mv_W z kad dC dI cA p l e R s m args below meth c Q c0 s0 pc ls (.ref y :: .ref x :: st) σ := by
  obtain ⟨hok, hlen⟩ := mv_row hin
  obtain ⟨hx, hb, hml, hown, hts, hE, -, hRf, hRl⟩ := id hF
  have hdec := mv_okd hok
  have ht := mv_okt hok rfl
  split at h
  · next hg =>
    obtain ⟨g1, g2, g3, g4⟩ := hg
    have ex : mv_ad z kad x = kad x := if_neg (by omega)
    have ey : mv_ad z kad y = kad y := if_neg (by omega)
    have hinj : kad x = kad y ↔ x = y := by
      refine ⟨fun q => ?_, fun q => by rw [q]⟩
      have q9 := hE.2.2.2.2.1 (x - 1000) (y - 1000) (by omega) (by omega) (by rw [show 1000 + (x - 1000) = x by omega, show 1000 + (y - 1000) = y by omega]; exact q)
      omega
    obtain ⟨rfl, rfl, rfl, rfl⟩ := mv_nx_inv h
    obtain ⟨hd, rfl⟩ := mv_dec hdec hlen (Nat.succ_ne_zero _)
    intro H locs cells slots lsA hM hS hl hc hs
    have k9 := k _ _ _ _ _ hM hS hl hc hs
    show W p l e R s m args below meth c H locs cells slots Q (F0 m pc lsA (.ref (mv_ad z kad y) :: .ref (mv_ad z kad x) :: st'.map (mv_cv (mv_ad z kad))))
    rw [ex, ey]
    cases cd with
    | eq => exact lv_acmp_eq (rx := some (kad x)) (ry := some (kad y)) hx hb hd ht (fun hh => by rw [if_pos (show mv_ac ClassFile.ACond.eq x y = true from decide_eq_true (hinj.mp (Option.some.inj hh)))] at k9; exact k9) (fun hh => by rw [if_neg (show ¬ mv_ac ClassFile.ACond.eq x y = true from fun q => hh (congrArg some (hinj.mpr (of_decide_eq_true q))))] at k9; exact k9)
    | ne => exact lv_acmp_ne (rx := some (kad x)) (ry := some (kad y)) hx hb hd ht (fun hh => by rw [if_pos (show mv_ac ClassFile.ACond.ne x y = true from decide_eq_true (fun q => hh (congrArg some (hinj.mpr q))))] at k9; exact k9) (fun hh => by rw [if_neg (show ¬ mv_ac ClassFile.ACond.ne x y = true from fun q => (of_decide_eq_true q) (hinj.mp (Option.some.inj hh)))] at k9; exact k9)
  · cases h
theorem mv_s_get {i : Nat} (hF : mv_Fx z kad dC dI cA L xs p R s m args meth c M) (hin : mv_in M pc = some (.getfield i, nx, a, b, w))
    (h : mv_get a b nx ls st σ = some (.inl (pc', ls', st', σ'))) (k : mv_W z kad dC dI cA p l e R s m args below meth c Q c0 s0 pc' ls' st' σ') : mv_W z kad dC dI cA p l e R s m args below meth c Q c0 s0 pc ls st σ := by
  obtain ⟨hok, hlen⟩ := mv_row hin
  have hsd := mv_row2 hin
  obtain ⟨hx, hb, hml, hown, hts, hE, -, hRf, hRl⟩ := id hF
  have hdec := mv_okd hok
  have hfw : mv_fw (mv_mi M).2.1.cls i a b w = true := by
    unfold mv_ok at hok
    simp only [Bool.and_eq_true] at hok
    exact hok.2
  unfold mv_get at h
  split at h
  · next o st1 =>
    split at h
    · next hg =>
      obtain ⟨ho, hk⟩ := mv_isk hg
      obtain ⟨rfl, rfl, rfl, rfl⟩ := mv_nx_inv h
      obtain ⟨hd, rfl⟩ := mv_dec hdec hlen (Nat.succ_ne_zero _)
      simp only [mv_sd, Bool.and_eq_true, Bool.or_eq_true, decide_eq_true_eq] at hsd
      obtain ⟨-, ha9, hsd⟩ := hsd
      split at hsd
      · next C T N hcl =>
        have hbN : b < N := of_decide_eq_true hsd
        obtain ⟨c1, c2, c3, c4, c5⟩ := mv_ck1 ha9 hcl
        obtain ⟨c5, c6⟩ := c5 b hbN
        intro H locs cells slots lsA hM hS hl hc hs
        have k9 := k _ _ _ _ _ hM hS hl hc hs
        have hn : o < 142 := Nat.lt_of_lt_of_le ho hM.2.2
        have hkd : mv_kd o = (a, N) := by
          have h1 := mv_kN o hn (by rw [hk]; exact ha9)
          rw [hk, hcl] at h1
          exact Prod.ext hk (Option.some.inj h1).symm
        have he := mv_wl_get (ad := mv_ad z kad) (cA := cA) (h := σ'.2.2) ho
        rw [mv_ce_o hkd ha9] at he
        have hv : ((List.range N).map (fun j => mv_cv (mv_ad z kad) (σ'.2.2 o j)))[b]? = some (mv_cv (mv_ad z kad) (σ'.2.2 o b)) := by simp [hbN]
        have hw := mv_fwk hfw
        rw [c5] at hw
        rcases hw with hw | ⟨hh, hw⟩
        · exact va_get (D := (dC, dI)) (ci := a) (C := C) (T := T) (N := N) hx hb hts c1 hown hE.1 hM.1 o he hcl b hbN (hts _ (mv_TS_of hw rfl)) (fun x h9 => by rw [c6] at h9; exact h9) hv hd k9
        · exact va_getN (D := (dC, dI)) (ci := a) (C := C) (T := T) (N := N) (host := hh) hx hb hts c1 hown hE.1 hM.1 o he hcl b hbN (va_Nw.use rfl (mv_EnN hE hw rfl)) (fun x h9 => by rw [c6] at h9; exact h9) hv hd k9
      · cases hsd
    · cases h
  · cases h
theorem mv_s_put {i : Nat} (hF : mv_Fx z kad dC dI cA L xs p R s m args meth c M) (hin : mv_in M pc = some (.putfield i, nx, a, b, w))
    (h : mv_put a b nx ls st σ = some (.inl (pc', ls', st', σ'))) (k : mv_W z kad dC dI cA p l e R s m args below meth c Q c0 s0 pc' ls' st' σ') : mv_W z kad dC dI cA p l e R s m args below meth c Q c0 s0 pc ls st σ := by
  obtain ⟨hok, hlen⟩ := mv_row hin
  have hsd := mv_row2 hin
  obtain ⟨hx, hb, hml, hown, hts, hE, hini, hRf, hRl⟩ := id hF
  have hdec := mv_okd hok
  have hfw : mv_fw (mv_mi M).2.1.cls i a b w = true := by
    unfold mv_ok at hok
    simp only [Bool.and_eq_true] at hok
    exact hok.2
  unfold mv_put at h
  split at h
  · next v o st1 =>
    split at h
    · next hg =>
      obtain ⟨hg, hfit⟩ := hg
      obtain ⟨o, rfl⟩ : ∃ q : Nat, q = o := ⟨o, rfl⟩
      obtain ⟨ho, hk⟩ := mv_isk hg
      obtain ⟨rfl, rfl, rfl, rfl⟩ := mv_nx_inv h
      obtain ⟨hd, rfl⟩ := mv_dec hdec hlen (Nat.succ_ne_zero _)
      simp only [mv_sd, Bool.and_eq_true, Bool.or_eq_true, decide_eq_true_eq, Bool.not_eq_true'] at hsd
      obtain ⟨-, ⟨hfin, ha9⟩, hsd⟩ := hsd
      split at hsd
      · next C T N hcl =>
        have hbN : b < N := of_decide_eq_true hsd
        obtain ⟨c1, c2, c3, c4, c5⟩ := mv_ck1 ha9 hcl
        obtain ⟨c5, c6⟩ := c5 b hbN
        intro H locs cells slots lsA hM hS hl hc hs
        have hn : o < 142 := Nat.lt_of_lt_of_le ho hM.2.2
        have hkd : mv_kd o = (a, N) := by
          have h1 := mv_kN o hn (by rw [hk]; exact ha9)
          rw [hk, hcl] at h1
          exact Prod.ext hk (Option.some.inj h1).symm
        have he := mv_wl_get (ad := mv_ad z kad) (cA := cA) (h := σ.2.2) ho
        rw [mv_ce_o hkd ha9] at he
        obtain ⟨hnar, hfits⟩ := mv_fit_ok (ad := mv_ad z kad) hfit
        have hap := va_apart (own := (mv_mi M).2.1.cls) hts c1 (mv_ty a) c2 c3 hE.1 hcl
        obtain ⟨r, h1, cell, q1, q2, q3, q4⟩ := hM.1 o _ he
        have hr : r = (C, T, N) := Option.some.inj (h1.symm.trans hcl)
        subst hr
        obtain ⟨hSl, hfc, kC, hkC, hkind⟩ := hE.1.1 a _ hcl
        obtain ⟨cf, kf, fi, f, hi, hsl⟩ := hSl b hbN
        have hlay := hts _ (c1 _ (u_in_lay hbN))
        have hst := (u_facts hfc hkC (u_lays hts c1 hbN) hi).1
        have hD := mv_wl_D (z := z) (kad := kad) (cA := cA) (h := σ.2.2) hM.2.2
        have hl9 : b < ((List.range N).map (fun j => mv_cv (mv_ad z kad) (σ.2.2 o j))).length := by simp [hbN]
        have key : ∀ (H' : Heap) (locs' : List Loc), H'[mv_ad z kad o]? = some (cell.setSlot f.slot (mv_cv (mv_ad z kad) v)) → H'.size = H.size → (∀ q, q ≠ mv_ad z kad o → H'[q]? = H[q]?) → locs' = locs ++ [⟨mv_ad z kad o, f.slot⟩] →
            W p l e R s m args below meth c H' locs' cells slots Q (F0 m (pc + 3) lsA (st'.map (mv_cv (mv_ad z kad)))) := by
          intro H' locs' e1 e2 e3 e4
          subst e4
          rw [hsl] at e1 ⊢
          refine k _ _ _ _ _ ⟨?_, fun q => e2.trans (hM.2.1 q), hM.2.2⟩ (hS.put e2 e3 (hD.2 o _ he)) hl hc hs
          have h8 : va_P (dC, dI) mv_cls ((mv_wl (mv_ad z kad) cA σ.2.1 σ.2.2).set o (mv_ad z kad o, .inr (a, ((List.range N).map (fun j => mv_cv (mv_ad z kad) (σ.2.2 o j))).set b (mv_cv (mv_ad z kad) v)))) H' := hM.1.set hD he ⟨_, hcl, t_OB.to (V := updV (vp_V _) b (mv_cv (mv_ad z kad) v)) ⟨_, e1, q2, q3, t_set q4 hap hbN _⟩ (fun j _ => vp_updV_set hl9 _ j)⟩ e3
          show va_P (dC, dI) mv_cls (mv_wl (mv_ad z kad) cA σ.2.1 (mv_up σ.2.2 o b v)) H'
          rw [mv_up_o, ← mv_wl_set, mv_ce_o hkd ha9, ← mv_fs_set]
          exact h8
        have hw := mv_fwk hfw
        rw [c5] at hw
        unfold u_lay at hlay
        by_cases hf9 : mv_fin a b = true
        · rcases hfin with hfin | ⟨⟨hname, hdecl⟩, hfl⟩
          · rw [hf9] at hfin; cases hfin
          have hdecl : (mv_ft a b).1 = (mv_mi M).2.1.cls := hdecl
          rw [c5] at hdecl
          have hdecl : C = (mv_mi M).2.1.cls := hdecl
          rw [if_pos ((c4 b).trans hf9)] at hlay
          have hcf : m.cls = cf := by
            obtain ⟨_, _, c', _, _, _, -, -, hf', -, -, -, hown2, -⟩ := Cond.laysFinal_spec hlay
            have e1 : c' = cf := by have := hi.symm.trans hf'; simp at this; exact this.1.symm
            rw [c6, hdecl] at hown2
            rw [← e1]; exact Option.some.inj (hown.symm.trans hown2)
          have h6 := u_fits hfc hkC hkind (Or.inr hlay) hi (c2 b hbN) hnar hfits
          rw [c6] at hi
          rcases hw with hw | ⟨hh, hw⟩
          · exact W.putFinK hx hb hown (hts _ (mv_TS_of hw rfl)) hi hst hcf (hini hname) (by rw [q2]; exact h6) q1 q3 (by rw [hsl]; exact k2_hasslot (q4 b hbN)) rfl rfl hd fun H' e1 e2 e3 => key H' _ e1 e2 e3 rfl
          · rw [hw] at hfl; cases hfl
        · rw [if_neg (by rw [c4 b]; exact hf9)] at hlay
          have h6 := u_store hfc hkC hkind hlay hi (c2 b hbN) hnar hfits
          rw [c6] at hi
          rcases hw with hw | ⟨hh, hw⟩
          · exact W.putK hx hb (f := f) ⟨hown, hts _ (mv_TS_of hw rfl), ⟨_, _, _, hi⟩, hst⟩ (by rw [q2]; exact h6) q1 q3 (by rw [hsl]; exact k2_hasslot (q4 b hbN)) rfl rfl hd fun H' e1 e2 e3 => key H' _ e1 e2 e3 rfl
          · exact va_WputK hx hb (f := f) hown (va_Nw.use rfl (mv_EnN hE hw rfl)) hi hst (by rw [q2]; exact h6) q1 q3 (by rw [hsl]; exact k2_hasslot (q4 b hbN)) rfl rfl hd fun H' e1 e2 e3 => key H' _ e1 e2 e3 rfl
      · cases hsd
    · cases h
  · cases h
end HEAP
