/-! ROWS OVER ARRAYS, STATICS, LENGTHS -/
theorem mv_ce_i {ad : Nat → Nat} {cA : Nat → ClassId} {o k N : Nat} {f : Nat → Value} (h : mv_kd o = (k, N)) (hk : k = 20 ∨ k = 21) : mv_ce ad cA o f = .inl (cA k, (N, .inl (fun j => mv_iv (f j)))) := by
  unfold mv_ce
  rw [h]
  rcases hk with rfl | rfl <;> rfl
theorem mv_ce_q {ad : Nat → Nat} {cA : Nat → ClassId} {o k N : Nat} {f : Nat → Value} (h : mv_kd o = (k, N)) (hk : k = 24 ∨ k = 25) : mv_ce ad cA o f = .inl (cA k, (N, .inr (.inr (.inr (.inr (fun j => mv_ov ad (f j))))))) := by
  unfold mv_ce
  rw [h]
  rcases hk with rfl | rfl <;> rfl
section ARR
variable {z : Nat} {kad : Nat → Nat} {dC : Nat → ClassId} {dI : Nat → Nat → Nat} {cA : Nat → ClassId} {L : Nat} {xs : Nat → Int32}
variable {p : Program} {l : Launch} {e : Env} {R : Room} {s : State} {m : MethodId} {args : Array Value} {below : List Frame} {meth : Method} {c : Code} {Q : State → Prop} {c0 s0 M : Nat}
variable {pc pc' nx a b w : Nat} {ls ls' : mv_V} {st st' : List Value} {σ σ' : mv_S}
theorem mv_s_static {i : Nat} (hF : mv_Fx z kad dC dI cA L xs p R s m args meth c M) (hin : mv_in M pc = some (.getstatic i, nx, a, b, w))
    (h : mv_nx nx ls (.ref a :: st) σ = some (.inl (pc', ls', st', σ'))) (k : mv_W z kad dC dI cA p l e R s m args below meth c Q c0 s0 pc' ls' st' σ') : mv_W z kad dC dI cA p l e R s m args below meth c Q c0 s0 pc ls st σ := by
  obtain ⟨hok, hlen⟩ := mv_row hin
  have hsd := mv_row2 hin
  obtain ⟨hx, hb, hml, hown, hts, hE, -, hRf, hRl⟩ := id hF
  have hdec := mv_okd hok
  have hfw : mv_sw (mv_mi M).2.1.cls i a w = true := by
    unfold mv_ok at hok
    simp only [Bool.and_eq_true] at hok
    exact hok.2
  have hmem : a ∈ [1000, 1001, 1002, 1003, 1004, 1005, 1006, 1007, 1010, 1011, 1012, 1013, 1021] := by
    simp only [mv_sd, Bool.and_eq_true, decide_eq_true_eq] at hsd
    exact hsd.2
  have hge : 1000 ≤ a := by
    simp only [List.mem_cons, List.not_mem_nil, or_false] at hmem
    omega
  obtain ⟨rfl, rfl, rfl, rfl⟩ := mv_nx_inv h
  obtain ⟨hd, rfl⟩ := mv_dec hdec hlen (Nat.succ_ne_zero _)
  intro H locs cells slots lsA hM hS hl hc hs
  have k9 := k _ _ _ _ _ hM hS hl hc hs
  have k8 : W p l e R s m args below meth c H locs cells slots Q (F0 m (pc + 3) lsA (.ref (mv_ad z kad a) :: st.map (mv_cv (mv_ad z kad)))) := k9
  rw [show mv_ad z kad a = kad a from if_neg (by omega)] at k8
  have hZ := hE.2.2.1 a hmem
  unfold mv_sw at hfw
  split at hfw
  · next o j r n d e9 =>
    simp only [Bool.and_eq_true, decide_eq_true_eq] at hfw
    obtain ⟨⟨rfl, rfl⟩, h3⟩ := hfw
    rw [← h3] at hZ
    exact va_gets hx hb hZ hS hown (hts _ (mv_TS_of e9 rfl)) (fun _ h9 => h9) hd k8
  · cases hfw
theorem mv_s_iald (hF : mv_Fx z kad dC dI cA L xs p R s m args meth c M) (hin : mv_in M pc = some (.iaload, nx, a, b, w))
    (h : mv_al L xs 20 nx ls st σ = some (.inl (pc', ls', st', σ'))) (k : mv_W z kad dC dI cA p l e R s m args below meth c Q c0 s0 pc' ls' st' σ') : mv_W z kad dC dI cA p l e R s m args below meth c Q c0 s0 pc ls st σ := by
  obtain ⟨hok, hlen⟩ := mv_row hin
  obtain ⟨hx, hb, hml, hown, hts, hE, -, hRf, hRl⟩ := id hF
  have hdec := mv_okd hok
  unfold mv_al at h
  split at h
  · next i o st1 =>
    obtain ⟨o, rfl⟩ : ∃ q : Nat, q = o := ⟨o, rfl⟩
    split at h
    · split at h
      · next hg =>
        obtain ⟨ho, hk⟩ := mv_isk hg.1
        have hix := mv_ixk hg.2
        generalize hv : σ.2.2 o i.toNatClampNeg = v at h
        cases v <;> first | (simp at h; done) | skip
        rename_i x
        have h : mv_nx nx ls (.int x :: st1) σ = some (.inl (pc', ls', st', σ')) := h
        obtain ⟨rfl, rfl, rfl, rfl⟩ := mv_nx_inv h
        obtain ⟨hd, rfl⟩ := mv_dec hdec hlen (Nat.succ_ne_zero _)
        intro H locs cells slots lsA hM hS hl hc hs
        have k9 := k _ _ _ _ _ hM hS hl hc hs
        have he := mv_wl_get (ad := mv_ad z kad) (cA := cA) (h := σ'.2.2) ho
        rw [mv_ce_i (show mv_kd o = (20, (mv_kd o).2) from Prod.ext hk rfl) (by decide)] at he
        refine va_iald (D := (dC, dI)) hx hb hE.1 hM.1 o 0 he rfl hix hd ?_
        have e9 : mv_iv (σ'.2.2 o i.toNatClampNeg) = x := by rw [hv]; rfl
        show W p l e R s m args below meth c H locs cells slots Q (F0 m (pc + 1) lsA (.int (mv_iv (σ'.2.2 o i.toNatClampNeg)) :: st1.map (mv_cv (mv_ad z kad))))
        rw [e9]
        exact k9
      · cases h
    · next hno =>
      split at h
      · next h21 =>
        split at h
        · next hg =>
          subst h21
          have hix := mv_ixk hg.2
          obtain ⟨rfl, rfl, rfl, rfl⟩ := mv_nx_inv h
          obtain ⟨hd, rfl⟩ := mv_dec hdec hlen (Nat.succ_ne_zero _)
          intro H locs cells slots lsA hM hS hl hc hs
          have k9 := k _ _ _ _ _ hM hS hl hc hs
          exact va_ti hx hb hE.2.2.2.2.2.1 hS hix rfl hd k9
        · cases h
      · split at h
        · next h20 =>
          split at h
          · next hg =>
            subst h20
            have hix := mv_ixk hg.2
            obtain ⟨rfl, rfl, rfl, rfl⟩ := mv_nx_inv h
            obtain ⟨hd, rfl⟩ := mv_dec hdec hlen (Nat.succ_ne_zero _)
            intro H locs cells slots lsA hM hS hl hc hs
            have k9 := k _ _ _ _ _ hM hS hl hc hs
            obtain ⟨-, hbz, hX⟩ := hE.2.2.2.2.2.2.1
            exact va_sld hx hb hX (Nat.lt_of_lt_of_le hbz hE.2.1) (fun q => absurd q.1 (Nat.not_le.mpr hbz)) hS hix hd k9
          · cases h
        · cases h
  · cases h
theorem mv_s_cald (hF : mv_Fx z kad dC dI cA L xs p R s m args meth c M) (hin : mv_in M pc = some (.caload, nx, a, b, w))
    (h : mv_al L xs 21 nx ls st σ = some (.inl (pc', ls', st', σ'))) (k : mv_W z kad dC dI cA p l e R s m args below meth c Q c0 s0 pc' ls' st' σ') : mv_W z kad dC dI cA p l e R s m args below meth c Q c0 s0 pc ls st σ := by
  obtain ⟨hok, hlen⟩ := mv_row hin
  obtain ⟨hx, hb, hml, hown, hts, hE, -, hRf, hRl⟩ := id hF
  have hdec := mv_okd hok
  unfold mv_al at h
  split at h
  · next i o st1 =>
    obtain ⟨o, rfl⟩ : ∃ q : Nat, q = o := ⟨o, rfl⟩
    split at h
    · split at h
      · next hg =>
        obtain ⟨ho, hk⟩ := mv_isk hg.1
        have hix := mv_ixk hg.2
        generalize hv : σ.2.2 o i.toNatClampNeg = v at h
        cases v <;> first | (simp at h; done) | skip
        rename_i x
        have h : mv_nx nx ls (.int x :: st1) σ = some (.inl (pc', ls', st', σ')) := h
        obtain ⟨rfl, rfl, rfl, rfl⟩ := mv_nx_inv h
        obtain ⟨hd, rfl⟩ := mv_dec hdec hlen (Nat.succ_ne_zero _)
        intro H locs cells slots lsA hM hS hl hc hs
        have k9 := k _ _ _ _ _ hM hS hl hc hs
        have he := mv_wl_get (ad := mv_ad z kad) (cA := cA) (h := σ'.2.2) ho
        rw [mv_ce_i (show mv_kd o = (21, (mv_kd o).2) from Prod.ext hk rfl) (by decide)] at he
        refine va_cald (D := (dC, dI)) hx hb hE.1 hM.1 o 1 he rfl hix hd ?_
        have e9 : mv_iv (σ'.2.2 o i.toNatClampNeg) = x := by rw [hv]; rfl
        show W p l e R s m args below meth c H locs cells slots Q (F0 m (pc + 1) lsA (.int (mv_iv (σ'.2.2 o i.toNatClampNeg)) :: st1.map (mv_cv (mv_ad z kad))))
        rw [e9]
        exact k9
      · cases h
    · next hno =>
      exfalso
      split at h
      · split at h
        · next hg => exact absurd hg.1 (by decide)
        · cases h
      · split at h
        · split at h
          · next hg => exact absurd hg.1 (by decide)
          · cases h
        · cases h
  · cases h
theorem mv_s_aald (hF : mv_Fx z kad dC dI cA L xs p R s m args meth c M) (hin : mv_in M pc = some (.aaload, nx, a, b, w))
    (h : mv_aa L xs nx ls st σ = some (.inl (pc', ls', st', σ'))) (k : mv_W z kad dC dI cA p l e R s m args below meth c Q c0 s0 pc' ls' st' σ') : mv_W z kad dC dI cA p l e R s m args below meth c Q c0 s0 pc ls st σ := by
  obtain ⟨hok, hlen⟩ := mv_row hin
  obtain ⟨hx, hb, hml, hown, hts, hE, -, hRf, hRl⟩ := id hF
  have hdec := mv_okd hok
  unfold mv_aa at h
  split at h
  · next i o st1 =>
    obtain ⟨o, rfl⟩ : ∃ q : Nat, q = o := ⟨o, rfl⟩
    split at h
    · cases h
    next hno =>
    by_cases ho9 : o < 142
    · rw [if_pos ho9] at h
      unfold mv_al at h
      simp only [if_pos ho9] at h
      split at h
      · next hg =>
        obtain ⟨ho, -⟩ := mv_isk hg.1
        have hix := mv_ixk hg.2
        by_cases hk : (mv_kd o).1 = 24
        · rw [hk] at h
          generalize hv : σ.2.2 o i.toNatClampNeg = v at h
          cases v <;> first | (simp at h; done) | skip
          rename_i x
          have h : mv_nx nx ls (.ref x :: st1) σ = some (.inl (pc', ls', st', σ')) := h
          obtain ⟨rfl, rfl, rfl, rfl⟩ := mv_nx_inv h
          obtain ⟨hd, rfl⟩ := mv_dec hdec hlen (Nat.succ_ne_zero _)
          intro H locs cells slots lsA hM hS hl hc hs
          have k9 := k _ _ _ _ _ hM hS hl hc hs
          have he := mv_wl_get (ad := mv_ad z kad) (cA := cA) (h := σ'.2.2) ho
          rw [mv_ce_q (show mv_kd o = (24, (mv_kd o).2) from Prod.ext hk rfl) (by decide)] at he
          refine va_aldq (D := (dC, dI)) hx hb hE.1 hM.1 o 4 he rfl hix hd ?_
          have e9 : mv_ov (mv_ad z kad) (σ'.2.2 o i.toNatClampNeg) = some (mv_ad z kad x) := by rw [hv]; rfl
          show W p l e R s m args below meth c H locs cells slots Q (F0 m (pc + 1) lsA (va_rf (mv_ov (mv_ad z kad) (σ'.2.2 o i.toNatClampNeg)) :: st1.map (mv_cv (mv_ad z kad))))
          rw [e9]
          exact k9
        · by_cases hk : (mv_kd o).1 = 25
          · rw [hk] at h
            generalize hv : σ.2.2 o i.toNatClampNeg = v at h
            cases v <;> first | (simp at h; done) | skip
            rename_i x
            have h : mv_nx nx ls (.ref x :: st1) σ = some (.inl (pc', ls', st', σ')) := h
            obtain ⟨rfl, rfl, rfl, rfl⟩ := mv_nx_inv h
            obtain ⟨hd, rfl⟩ := mv_dec hdec hlen (Nat.succ_ne_zero _)
            intro H locs cells slots lsA hM hS hl hc hs
            have k9 := k _ _ _ _ _ hM hS hl hc hs
            have he := mv_wl_get (ad := mv_ad z kad) (cA := cA) (h := σ'.2.2) ho
            rw [mv_ce_q (show mv_kd o = (25, (mv_kd o).2) from Prod.ext hk rfl) (by decide)] at he
            refine va_aldq (D := (dC, dI)) hx hb hE.1 hM.1 o 5 he rfl hix hd ?_
            have e9 : mv_ov (mv_ad z kad) (σ'.2.2 o i.toNatClampNeg) = some (mv_ad z kad x) := by rw [hv]; rfl
            show W p l e R s m args below meth c H locs cells slots Q (F0 m (pc + 1) lsA (va_rf (mv_ov (mv_ad z kad) (σ'.2.2 o i.toNatClampNeg)) :: st1.map (mv_cv (mv_ad z kad))))
            rw [e9]
            exact k9
          · exact absurd ⟨ho9, ‹¬ (mv_kd o).1 = 24›, hk⟩ hno
      · cases h
    · rw [if_neg ho9] at h
      unfold mv_al at h
      simp only [if_neg ho9] at h
      split at h
      · split at h
        · next hg => exact absurd hg.1 (by decide)
        · cases h
      · split at h
        · split at h
          · next hg => exact absurd hg.1 (by decide)
          · cases h
        · cases h
  · cases h
theorem mv_s_iast (hF : mv_Fx z kad dC dI cA L xs p R s m args meth c M) (hin : mv_in M pc = some (.iastore, nx, a, b, w))
    (h : mv_as 20 nx ls st σ = some (.inl (pc', ls', st', σ'))) (k : mv_W z kad dC dI cA p l e R s m args below meth c Q c0 s0 pc' ls' st' σ') : mv_W z kad dC dI cA p l e R s m args below meth c Q c0 s0 pc ls st σ := by
  obtain ⟨hok, hlen⟩ := mv_row hin
  obtain ⟨hx, hb, hml, hown, hts, hE, -, hRf, hRl⟩ := id hF
  have hdec := mv_okd hok
  unfold mv_as at h
  split at h
  · next v i o st1 =>
    obtain ⟨o, rfl⟩ : ∃ q : Nat, q = o := ⟨o, rfl⟩
    split at h
    · next hg =>
      obtain ⟨hn, hg1, hg2⟩ := hg
      obtain ⟨ho, hk⟩ := mv_isk hg1
      have hix := mv_ixk hg2
      cases v <;> first | (simp at h; done) | skip
      rename_i x
      have h : mv_nx nx ls st1 (σ.1, σ.2.1, mv_up σ.2.2 o i.toNatClampNeg (.int x)) = some (.inl (pc', ls', st', σ')) := h
      obtain ⟨rfl, rfl, rfl, rfl⟩ := mv_nx_inv h
      obtain ⟨hd, rfl⟩ := mv_dec hdec hlen (Nat.succ_ne_zero _)
      intro H locs cells slots lsA hM hS hl hc hs
      have he := mv_wl_get (ad := mv_ad z kad) (cA := cA) (h := σ.2.2) ho
      have hD := mv_wl_D (z := z) (kad := kad) (cA := cA) (h := σ.2.2) hM.2.2
      have hkd : mv_kd o = (20, (mv_kd o).2) := Prod.ext hk rfl
      rw [mv_ce_i hkd (by decide)] at he
      refine va_iast (D := (dC, dI)) hx hb hE.1 hM.1 hD hS o 0 he rfl hix hd (fun H1 locs1 hP1 hD1 hS1 => ?_)
      refine k _ _ _ _ _ ⟨?_, fun q => absurd hn (Nat.ne_of_lt q), hM.2.2⟩ hS1 hl hc hs
      show va_P (dC, dI) mv_cls (mv_wl (mv_ad z kad) cA σ.2.1 (mv_up σ.2.2 o i.toNatClampNeg (.int x))) H1
      rw [mv_up_o, ← mv_wl_set, mv_ce_i hkd (by decide)]
      have e9 : (fun j => mv_iv (if j = i.toNatClampNeg then (.int x) else σ.2.2 o j)) = upd (fun j => mv_iv (σ.2.2 o j)) i.toNatClampNeg x := by
        funext j
        by_cases hj : j = i.toNatClampNeg
        · simp [hj, upd, mv_iv]
        · simp [hj, upd]
      rw [e9]
      exact hP1
    · cases h
  · cases h
theorem mv_s_cast (hF : mv_Fx z kad dC dI cA L xs p R s m args meth c M) (hin : mv_in M pc = some (.castore, nx, a, b, w))
    (h : mv_as 21 nx ls st σ = some (.inl (pc', ls', st', σ'))) (k : mv_W z kad dC dI cA p l e R s m args below meth c Q c0 s0 pc' ls' st' σ') : mv_W z kad dC dI cA p l e R s m args below meth c Q c0 s0 pc ls st σ := by
  obtain ⟨hok, hlen⟩ := mv_row hin
  obtain ⟨hx, hb, hml, hown, hts, hE, -, hRf, hRl⟩ := id hF
  have hdec := mv_okd hok
  unfold mv_as at h
  split at h
  · next v i o st1 =>
    obtain ⟨o, rfl⟩ : ∃ q : Nat, q = o := ⟨o, rfl⟩
    split at h
    · next hg =>
      obtain ⟨hn, hg1, hg2⟩ := hg
      obtain ⟨ho, hk⟩ := mv_isk hg1
      have hix := mv_ixk hg2
      cases v <;> first | (simp at h; done) | skip
      rename_i x
      have h : mv_nx nx ls st1 (σ.1, σ.2.1, mv_up σ.2.2 o i.toNatClampNeg (.int (mv_ch x))) = some (.inl (pc', ls', st', σ')) := h
      obtain ⟨rfl, rfl, rfl, rfl⟩ := mv_nx_inv h
      obtain ⟨hd, rfl⟩ := mv_dec hdec hlen (Nat.succ_ne_zero _)
      intro H locs cells slots lsA hM hS hl hc hs
      have he := mv_wl_get (ad := mv_ad z kad) (cA := cA) (h := σ.2.2) ho
      have hD := mv_wl_D (z := z) (kad := kad) (cA := cA) (h := σ.2.2) hM.2.2
      have hkd : mv_kd o = (21, (mv_kd o).2) := Prod.ext hk rfl
      rw [mv_ce_i hkd (by decide)] at he
      refine va_cast (D := (dC, dI)) hx hb hE.1 hM.1 hD hS o 1 he rfl hix hd (fun H1 locs1 hP1 hD1 hS1 => ?_)
      refine k _ _ _ _ _ ⟨?_, fun q => absurd hn (Nat.ne_of_lt q), hM.2.2⟩ hS1 hl hc hs
      show va_P (dC, dI) mv_cls (mv_wl (mv_ad z kad) cA σ.2.1 (mv_up σ.2.2 o i.toNatClampNeg (.int (mv_ch x)))) H1
      rw [mv_up_o, ← mv_wl_set, mv_ce_i hkd (by decide)]
      have e9 : (fun j => mv_iv (if j = i.toNatClampNeg then (.int (mv_ch x)) else σ.2.2 o j)) = upd (fun j => mv_iv (σ.2.2 o j)) i.toNatClampNeg (vp_nar .char x) := by
        funext j
        by_cases hj : j = i.toNatClampNeg
        · simp [hj, upd, mv_iv, mv_ch, vp_nar_char]
        · simp [hj, upd]
      rw [e9]
      exact hP1
    · cases h
  · cases h
theorem mv_s_len (hF : mv_Fx z kad dC dI cA L xs p R s m args meth c M) (hin : mv_in M pc = some (.arraylength, nx, a, b, w))
    (h : mv_len L nx ls st σ = some (.inl (pc', ls', st', σ'))) (k : mv_W z kad dC dI cA p l e R s m args below meth c Q c0 s0 pc' ls' st' σ') : mv_W z kad dC dI cA p l e R s m args below meth c Q c0 s0 pc ls st σ := by
  obtain ⟨hok, hlen⟩ := mv_row hin
  obtain ⟨hx, hb, hml, hown, hts, hE, -, hRf, hRl⟩ := id hF
  have hdec := mv_okd hok
  unfold mv_len at h
  split at h
  · next o st1 =>
    obtain ⟨o, rfl⟩ : ∃ q : Nat, q = o := ⟨o, rfl⟩
    split at h
    · split at h
      · next hg =>
        obtain ⟨ho, hk⟩ := hg
        obtain ⟨rfl, rfl, rfl, rfl⟩ := mv_nx_inv h
        obtain ⟨hd, rfl⟩ := mv_dec hdec hlen (Nat.succ_ne_zero _)
        intro H locs cells slots lsA hM hS hl hc hs
        have k9 := k _ _ _ _ _ hM hS hl hc hs
        have he := mv_wl_get (ad := mv_ad z kad) (cA := cA) (h := σ'.2.2) ho
        have h26 := (mv_kA o (Nat.lt_of_lt_of_le ho hM.2.2) (by omega)).2
        have hty : ∃ ty, (mv_tys cA)[(mv_kd o).1 - 20]? = some (cA (mv_kd o).1, ty) := by
          generalize (mv_kd o).1 = t at hk h26
          rcases (show t = 20 ∨ t = 21 ∨ t = 22 ∨ t = 23 ∨ t = 24 ∨ t = 25 by omega) with rfl | rfl | rfl | rfl | rfl | rfl <;> exact ⟨_, rfl⟩
        obtain ⟨ty, hty⟩ := hty
        unfold mv_ce at he
        rw [if_neg (by omega)] at he
        exact va_alen (D := (dC, dI)) hx hb hE.1 hM.1 o _ he hty rfl hd k9
      · cases h
    · split at h
      · next h20 =>
        subst h20
        obtain ⟨rfl, rfl, rfl, rfl⟩ := mv_nx_inv h
        obtain ⟨hd, rfl⟩ := mv_dec hdec hlen (Nat.succ_ne_zero _)
        intro H locs cells slots lsA hM hS hl hc hs
        have k9 := k _ _ _ _ _ hM hS hl hc hs
        obtain ⟨-, hbz, hX⟩ := hE.2.2.2.2.2.2.1
        exact va_slen hx hb hX (Nat.lt_of_lt_of_le hbz hE.2.1) (fun q => absurd q.1 (Nat.not_le.mpr hbz)) hS hd k9
      · cases h
  · cases h
end ARR
