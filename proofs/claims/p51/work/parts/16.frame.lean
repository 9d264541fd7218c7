/-! THE FRAME THEOREM -/
section FR
variable {z : Nat} {kad : Nat → Nat} {dC : Nat → ClassId} {dI : Nat → Nat → Nat} {cA : Nat → ClassId} {L : Nat} {xs : Nat → Int32}
variable {p : Program} {l : Launch} {e : Env} {R : Room} {s : State} {m : MethodId} {args : Array Value} {below : List Frame} {meth : Method} {c : Code} {Q : State → Prop} {c0 s0 M d : Nat}
theorem mv_tl (ad : Nat → Nat) (v : Option Value) (rest : List Value) : (v.toList ++ rest).map (mv_cv ad) = (v.map (mv_cv ad)).toList ++ rest.map (mv_cv ad) := by cases v <;> rfl
/-- a caught throw: behind the store of the thrown thing -/
theorem mv_caught {k pc g i : Nat} {ls : mv_V} {σ : mv_S} (hF : mv_Fx z kad dC dI cA L xs p R s m args meth c M) (htab : mv_nh M = false → c.exceptionTable.toList = tableOf (mv_hh M)) (hnh : ¬ mv_nh M = true) (hk6 : mv_e6 k = true) (hg : mv_hd M pc k = some (g, i))
    (kk : mv_W z kad dC dI cA p l e R s m args below meth c Q c0 s0 g (mv_f1 i ls) [] σ)
    {H : Heap} {locs : List Loc} {cells slots : Nat} {lsA : Array Slot} {q : Addr} {ce : Cell} {rest : List Value} (hM : mv_Mo z kad dC dI cA σ H) (hS : va_S (mv_A1 z) s.heap H locs) (hl : lv_has lsA c.maxLocals (mv_lm (mv_ad z kad) ls)) (hc : cells + c0 = mv_cc σ) (hs : slots + s0 = mv_ss σ)
    (hcell : H[q]? = some ce) (hv : ce.vm = .none) (hcl : s.vm.findClass (mv_ec k) = some ce.cls) : vx_W p l e R s m args below meth c H locs cells slots Q (F0 m pc lsA rest) q := by
  obtain ⟨hx, hb, hml, hown, hts, hE, -, hRf, hRl⟩ := id hF
  have hnf : mv_nh M = false := by cases h : mv_nh M; rfl; exact absurd h hnh
  have htab := htab hnf
  have hne : mv_hl M mv_hs ≠ [] := by
    intro h
    unfold mv_nh at hnf
    rw [h] at hnf; cases hnf
  have hok := List.all_eq_true.mp mv_hs_ok _ (mv_hl_mem hne)
  simp only [Bool.and_eq_true, decide_eq_true_eq] at hok
  obtain ⟨hcls, hrows⟩ := hok
  rw [hcls] at hown
  unfold mv_hd at hg
  split at hg
  · cases hg
  · next g9 hg9 =>
    obtain ⟨pre, x, suf, h1, h2, h3, h4, h5, h6⟩ := mv_hd1_split hg9
    obtain ⟨xf, xt, xg, xc, xe, xw⟩ := x
    have hx9 := List.all_eq_true.mp hrows (xf, xt, xg, xc, xe, xw) (by rw [h1]; simp)
    simp only [Bool.and_eq_true, decide_eq_true_eq, Bool.not_eq_true', decide_eq_false_iff_not] at hx9
    obtain ⟨⟨-, hct⟩, hcw⟩ := hx9
    have h5 : xe = k := h5
    have h2 : xg = g9 := h2
    subst h5; subst h2
    have hsplit : c.exceptionTable.toList = (tableOf (pre.map (fun q => (q.1, q.2.1, q.2.2.1, q.2.2.2.1)))) ++ ⟨xf, xt, xg, xc⟩ :: tableOf (suf.map (fun q => (q.1, q.2.1, q.2.2.1, q.2.2.2.1))) := by
      rw [htab]
      unfold mv_hh
      rw [h1]
      simp [tableOf]
    refine vx_catch (E := mv_ec xe) (ce := ce) hown _ ⟨xf, xt, xg, xc⟩ _ hsplit ?_ ?_ hct (hts _ (mv_TS_of hcw rfl)) (va_Nw.use rfl ?_) hcell hv hcl ?_
    · intro y hy
      simp only [tableOf, List.map_map, List.mem_map, Function.comp] at hy
      obtain ⟨y9, hy9, rfl⟩ := hy
      have hn := h6 y9 hy9
      have hy8 := List.all_eq_true.mp hrows y9 (by rw [h1]; simp [hy9])
      obtain ⟨yf, yt, yg, yc, ye, yw⟩ := y9
      simp only [Bool.and_eq_true, decide_eq_true_eq, Bool.not_eq_true', decide_eq_false_iff_not] at hy8
      obtain ⟨⟨hye, hyc⟩, hyw⟩ := hy8
      by_cases he : ye = xe
      · refine Or.inl ?_
        show (decide (yf ≤ pc) && decide (pc < yt)) = false
        by_cases q1 : yf ≤ pc
        · by_cases q2 : pc < yt
          · exact absurd ⟨q1, q2, he⟩ hn
          · rw [decide_eq_false q2, Bool.and_false]
        · rw [decide_eq_false q1, Bool.false_and]
      · exact Or.inr ⟨hyc, mv_ec ye, hts _ (mv_TS_of hyw rfl), by
          obtain ⟨-, -, -, -, -, -, -, -, -, -, h9, -⟩ := hE
          exact h9 xe ye hk6 hye (fun q => he q.symm)⟩
    · show (decide (xf ≤ pc) && decide (pc < xt)) = true
      rw [decide_eq_true (show xf ≤ pc from h3), decide_eq_true (show pc < xt from h4)]; rfl
    · obtain ⟨-, -, -, -, -, -, -, -, -, h9, -, -⟩ := hE
      exact h9 _ (List.elem_iff.mp (mv_castw xe hk6)) rfl
    · -- the store of the thrown thing
      split at hg
      · next i9 nx9 q9 hin =>
        cases hg
        obtain ⟨a9, b9, w9⟩ := q9
        obtain ⟨hok, hlen⟩ := mv_row hin
        obtain ⟨hd, rfl⟩ := mv_dec (mv_okd hok) hlen (Nat.succ_ne_zero _)
        refine lv_astore hx hb hd hl (mv_side hin hml) rfl (fun ls1 hl1 => ?_)
        refine kk _ _ _ _ _ hM hS ?_ hc hs
        rw [mv_f1_map] at hl1
        exact ⟨hl1.1, hl1.2.1, fun q hq => hl1.2.2 q (List.mem_cons_of_mem _ hq)⟩
      · next i9 nx9 q9 hin =>
        cases hg
        obtain ⟨a9, b9, w9⟩ := q9
        obtain ⟨hok, hlen⟩ := mv_row hin
        obtain ⟨hd, rfl⟩ := mv_dec (mv_okd hok) hlen (Nat.succ_ne_zero _)
        refine lv_astore_n hx hb hd rfl hl (mv_side hin hml) rfl (fun ls1 hl1 => ?_)
        refine kk _ _ _ _ _ hM hS ?_ hc hs
        rw [mv_f1_map] at hl1
        exact ⟨hl1.1, hl1.2.1, fun q hq => hl1.2.2 q (List.mem_cons_of_mem _ hq)⟩
      · cases hg
/-- words of the arguments -/
noncomputable def mv_asf (M : Nat) (as : List Value) : Prop := M < 127 ∧ (as.map (fun v => v.category)).sum ≤ (mv_mi M).2.2.1
theorem mv_argw : ((List.range 127).all (fun M => decide ((mv_cif M).1 + (if (mv_cif M).2 = 0 ∨ (mv_cif M).2 = 2 then 1 else 0) ≤ (mv_mi M).2.2.1))) = true := by decide +kernel
theorem mv_call_as {r : mv_I} {pc : Nat} {ls : mv_V} {st as rest : List Value} {σ : mv_S} {M' : Nat} (hin : mv_in M pc = some r) (h : mv_stp L xs r ls st σ = some (.inr (.inr (M', as, rest)))) : mv_asf M' as := by
  have hcr := mv_row3 hin
  obtain ⟨i, nx, a, b, w, ⟨rfl, h9⟩ | ⟨rfl, h9⟩ | ⟨rfl, h9⟩⟩ := mv_call_inv h
  all_goals
    obtain ⟨ha, rfl, -, -, -, -, -, hsum⟩ := mv_callk h9
    simp only [mv_crow, Bool.or_eq_true, Bool.and_eq_true, Bool.not_eq_true', decide_eq_false_iff_not, decide_eq_true_eq] at hcr
  · rcases hcr with hcr | ⟨⟨⟨h259, hci⟩, hb0⟩, -⟩
    · exact absurd ha hcr
    have hw := of_decide_eq_true (List.all_eq_true.mp mv_argw _ (List.mem_range.mpr h259))
    rw [hci] at hw
    simp at hw
    exact ⟨h259, by omega⟩
  · rcases hcr with hcr | ⟨h259, hci⟩
    · exact absurd ha hcr
    have hw := of_decide_eq_true (List.all_eq_true.mp mv_argw _ (List.mem_range.mpr h259))
    rcases hci with hci | ⟨hci, -⟩ <;> (rw [hci] at hw; simp at hw; exact ⟨h259, by omega⟩)
  · rcases hcr with hcr | ⟨⟨h259, hci⟩, hb0⟩
    · exact absurd ha hcr
    have hw := of_decide_eq_true (List.all_eq_true.mp mv_argw _ (List.mem_range.mpr h259))
    rw [hci] at hw
    simp at hw
    exact ⟨h259, by omega⟩
theorem mv_frame {C : Nat → List Value → mv_S → Option mv_R} (hC : ∀ M' as σ r, mv_asf M' as → C M' as σ = some r → mv_Ct z kad dC dI cA L xs l d M' as σ r) (hCm : ∀ M' as σ r, C M' as σ = some r → mv_le σ r.2)
    (hF : mv_Fx z kad dC dI cA L xs p R s m args meth c M) (hr : mv_room d R) (htab : mv_nh M = false → c.exceptionTable.toList = tableOf (mv_hh M)) {res : mv_R} (hRc : mv_cc res.2 ≤ R.cells + c0 ∧ mv_ss res.2 ≤ R.slots + s0)
    (hRet : ∀ (v : Option Value) (pc : Nat) (ls : mv_V) (st : List Value) (σ : mv_S) (r : mv_I), mv_in M pc = some r → mv_stp L xs r ls st σ = some (.inr (.inl (.inl v, σ))) → res = (.inl v, σ) → mv_W z kad dC dI cA p l e R s m args below meth c Q c0 s0 pc ls st σ)
    (hNew : ∀ (k i nx w pc : Nat) (ls : mv_V) (st : List Value) (σ : mv_S), mv_in M pc = some (.new i, nx, 99, k, w) → σ.2.1 = 142 → (st.map (fun v => v.category)).sum ≤ 8 → res = (.inr k, (σ.1 + 1, σ.2)) → mv_W z kad dC dI cA p l e R s m args below meth c Q c0 s0 pc ls st σ)
    (hThr : ∀ (k : Nat), mv_nh M = true → res.1 = .inr k → mv_e6 k = true → ∀ (pc : Nat) (H1 : Heap) (locs1 : List Loc) (cells1 slots1 : Nat) (lsA : Array Slot) (rest : List Value) (q : Addr) (ce : Cell), mv_Mo z kad dC dI cA res.2 H1 → va_S (mv_A1 z) s.heap H1 locs1 → cells1 + c0 = mv_cc res.2 → slots1 + s0 = mv_ss res.2 → H1[q]? = some ce → ce.vm = .none → s.vm.findClass (mv_ec k) = some ce.cls → vx_W p l e R s m args below meth c H1 locs1 cells1 slots1 Q (F0 m pc lsA rest) q) :
    ∀ (f pc : Nat) (ls : mv_V) (st : List Value) (σ : mv_S), mv_ex L xs C f M pc ls st σ = some res → mv_W z kad dC dI cA p l e R s m args below meth c Q c0 s0 pc ls st σ := by
  intro f
  induction f with
  | zero => intro pc ls st σ h; cases h
  | succ f ih =>
    intro pc ls st σ h
    have hmono := mv_ex_mono (L := L) (xs := xs) hCm (f + 1) pc ls st σ h
    unfold mv_ex at h
    split at h
    · cases h
    · next r hin =>
      split at h
      · cases h
      · next pc' ls' st' σ' hs =>
        have h2 := mv_le_c (mv_ex_mono (L := L) (xs := xs) hCm f pc' ls' st' σ' h)
        exact mv_step hF hin hs ⟨by omega, by omega⟩ (ih _ _ _ _ h)
      · next q hs =>
        cases h
        rcases mv_fin_inv hs with ⟨v, hq⟩ | ⟨i, nx, k, w, rfl, h149, hcat, hq⟩
        · rw [hq] at hs
          exact hRet v pc ls st σ r hin hs hq
        · exact hNew k i nx w pc ls st σ hin h149 hcat hq
      · next M' as rest hs =>
        cases hc9 : C M' as σ with
        | none => rw [hc9] at h; cases h
        | some q =>
          obtain ⟨q1, σ'⟩ := q
          have hCt := hC _ _ _ _ (mv_call_as hin hs) hc9
          have hle := hCm _ _ _ _ hc9
          have hlec := mv_le_c hle
          -- the end of the call
          have hend : mv_cc σ' ≤ mv_cc res.2 ∧ mv_ss σ' ≤ mv_ss res.2 := by
            rw [hc9] at h
            cases q1 with
            | inl v => exact mv_le_c (mv_ex_mono (L := L) (xs := xs) hCm f _ _ _ _ h)
            | inr E =>
              simp only [mv_af] at h
              split at h
              · cases h; exact ⟨Nat.le_refl _, Nat.le_refl _⟩
              · split at h
                · exact mv_le_c (mv_ex_mono (L := L) (xs := xs) hCm f _ _ _ _ h)
                · cases h
          intro H locs cells slots lsA hM hS hl hc hs9
          have hf : cells + (mv_cc σ' - mv_cc σ) ≤ R.cells ∧ slots + (mv_ss σ' - mv_ss σ) ≤ R.slots := by
            have h1 : mv_cc σ ≤ mv_cc σ' := hlec.1
            have h2 : mv_ss σ ≤ mv_ss σ' := hlec.2
            omega
          have hnx : r.2.1 = pc + 3 := by
            obtain ⟨i, nx, a, b, w, ⟨rfl, -⟩ | ⟨rfl, -⟩ | ⟨rfl, -⟩⟩ := mv_call_inv hs <;>
              (obtain ⟨hok, hlen⟩ := mv_row hin; obtain ⟨-, e9⟩ := mv_dec (mv_okd hok) hlen (Nat.succ_ne_zero _); exact e9)
          have hrun : ∃ aa, vx_Run p l e R s m args below meth c H locs cells slots (mv_cc σ' - mv_cc σ) (mv_ss σ' - mv_ss σ) (F0 m pc lsA (st.map (mv_cv (mv_ad z kad)))) (rest.map (mv_cv (mv_ad z kad))) (mv_Qc z kad dC dI cA (q1, σ') aa) (mv_XC z kad dC dI cA (q1, σ')) (mv_A1 z) := by
            obtain ⟨i, nx, a, b, w, ⟨rfl, h9⟩ | ⟨rfl, h9⟩ | ⟨rfl, h9⟩⟩ := mv_call_inv hs
            · exact mv_c_virt hF hin h9 hCt hr hM hS hl hf
            · exact mv_c_stat hF hin h9 hCt hr hM hS hl hf
            · exact mv_c_spec hF hin h9 hCt hr hM hS hl hf
          obtain ⟨aa, hrun⟩ := hrun
          refine mv_after (r := (q1, σ')) hrun hS hl hc hs9 hlec ?_ ?_
          · intro v hv H1 locs1 cells1 slots1 hM1 hS1 hc1 hs1
            have hv : q1 = .inl v := hv
            subst hv
            rw [hc9] at h
            have h : mv_ex L xs C f M r.2.1 ls (v.toList ++ rest) σ' = some res := h
            have k9 := ih _ _ _ _ h H1 locs1 cells1 slots1 lsA hM1 hS1 hl hc1 hs1
            rw [hnx, mv_tl] at k9
            exact k9
          · intro k hk hk6 H1 locs1 cells1 slots1 q ce hM1 hS1 hc1 hs1 hce hcv hcl
            have hk : q1 = .inr k := hk
            subst hk
            rw [hc9] at h
            simp only [mv_af] at h
            split at h
            · next hnh =>
              cases h
              exact hThr k hnh rfl hk6 pc H1 locs1 cells1 slots1 lsA _ q ce hM1 hS1 hc1 hs1 hce hcv hcl
            · next hnh =>
              split at h
              · next g i hg => exact mv_caught hF htab hnh hk6 hg (ih _ _ _ _ h) hM1 hS1 hl hc1 hs1 hce hcv hcl
              · cases h
end FR
