/-! THE LAW'S CALL OF isLine -/
theorem ln_m4 {a b c d : Cond} (h1 : a ∈ mv_TS) (h2 : b ∈ mv_TS) (h3 : c ∈ mv_TS) (h4 : d ∈ mv_TS) : ∀ w ∈ [a, b, c, d], w ∈ mv_TS := List.forall_mem_cons.mpr ⟨h1, List.forall_mem_cons.mpr ⟨h2, List.forall_mem_cons.mpr ⟨h3, List.forall_mem_cons.mpr ⟨h4, fun _ h => absurd h List.not_mem_nil⟩⟩⟩⟩
theorem ln_ws : mv_ws k_L_isLine = Cond.code (mv_mi k_L_isLine).2.1 (mv_mi k_L_isLine).1 4 (some .boolean) :: mv_TS := by
  unfold mv_ws mv_w1
  rw [if_pos (show mv_nh k_L_isLine = true by decide +kernel)]
  rfl
theorem ln_255 : ∀ c, c < 128 → nI c &&& 255 = nI c := by decide +kernel
section LNE
variable {z : Nat} {kad0 kad sec : Nat → Nat} {dC : Nat → ClassId} {dI : Nat → Nat → Nat} {cA : Nat → ClassId} {L : Nat} {xs : Nat → Int32}
variable {p : Program} {l : Launch} {e : Env} {R : Room} {s0 s : State} {m : MethodId} {args : Array Value} {below : List Frame} {meth : Method} {c : Code} {Q : State → Prop} {D : va_G} {cB : ClassId} {d1 d2 : Nat} {ka kv : Nat → Nat}
variable {pc pc' nx a b w : Nat} {ls ls' : mv_V} {st st' : List Value} {τ : mo_S}
theorem mo_line (hG : mo_G z kad0 dC dI cA L xs p s0 m args meth c D cB d1 d2 ka kv) (hlt : l.stackTraces = false) (hin : mv_in k_L_law pc = some (.invokestatic 218, nx, a, b, w)) {t : Nat} {h : mv_H} (hsm : mo_sm (t, 142, h)) (hbd : mv_cc (t, 142, h) ≤ 500000 ∧ mv_ss (t, 142, h) ≤ 5000000 ∧ τ.2.1 ≤ 1500)
    {ia : Nat} {cs : List Int} {x : Int32} (hia : ia < τ.1) (ha9 : τ.2.2 ia = .inl cs) (hcs : ∀ v ∈ cs, 0 ≤ v ∧ v < 128) (hx9 : x = nI cs.length) (hn : cs.length ≤ 1000) (hcat : (st.map (fun v => v.category)).sum ≤ 8)
    (hout : ∀ (j : Nat) (v : Int), cs[j]? = some v → mv_cl L xs 2 k_X10_outputAt [.ref 0, .int (nI j)] (t, 142, h) = some (.inl (some (.int (Int32.ofInt v))), (t, 142, h)))
    (k : mo_W z kad0 dC dI cA p l e s0 m args below meth c D cB τ nx ls (.int 1 :: st) (t, 142, h)) : mo_W z kad0 dC dI cA p l e s0 m args below meth c D cB τ pc ls (.ref (3000 + ia) :: .int x :: .ref 0 :: st) (t, 142, h) := by
  intro kad sec s R lsA Q hk hB hM hX hl hR hQ
  subst hx9
  obtain ⟨hE1, hE2, hE3, hK, hE5, hT, hown⟩ := mo_env hG hB
  have hF := mo_Fx hG hk hB hR
  have hE := hF.2.2.2.2.2.1
  obtain ⟨hd, rfl⟩ := mo_dec hin (Nat.succ_ne_zero _)
  obtain ⟨r1, r2, r3, r4⟩ := id hR
  have hml : c.maxLocals = 23 := hG.2.2.1
  obtain ⟨⟨y1, y2, y3⟩, -⟩ := hX ia hia
  rw [ha9] at y1
  obtain ⟨f, ⟨t1, t2, t3, t4⟩, hLf⟩ := y1
  have hS : va_S (mv_A1 z) s.heap s.heap [] := va_S.rf
  have hkk : ∀ o, o < 3000 → mv_upn kad 3000 (kad (3000 + ia)) o = kad o := fun o ho => if_neg (by omega)
  have e3 : mv_upn kad 3000 (kad (3000 + ia)) 3000 = kad (3000 + ia) := if_pos rfl
  have hEt : tR (kad (3000 + ia)) (sec ia) cs.length f (mv_A1 z) s s.heap := ⟨t1.any y2, t2.any y2, t3.any y2, t4.any y3, tC_ok.narrow hE1.1 (fun q h => h.1), (tZq_ok (C := "jdk/internal/util/Preconditions")).narrow hE3 (fun q h => h.1)⟩
  have hM9 : mv_Mo z (mv_upn kad 3000 (kad (3000 + ia))) dC dI cA (t, 142, h) s.heap := mo_Mo hM rfl hsm hkk (fun _ _ => rfl)
  have hE9 : mv_En z (mv_upn kad 3000 (kad (3000 + ia))) dC dI cA L xs s := mo_En hkk hE
  have hT9 : ∀ w ∈ mv_TS, w.before args s = true := fun w hw => hT w (tTS_of hw)
  have hts : ∀ w ∈ (Cond.initialized "java/lang/String" :: mv_TS), w.before args s = true := fun w h => by
    rcases List.mem_cons.mp h with rfl | h
    · exact hT9 _ wi_str
    · exact hT9 w h
  have hcon := ln_line (z := z) (kad := mv_upn kad 3000 (kad (3000 + ia))) (dC := dC) (dI := dI) (cA := cA) (L := L) (xs := xs) (l := l) hlt (t := t) (n := cs.length) (sd := sec ia) (h := h) (f := f) (g := f) hn
    (fun j hj => by
      have h9 := List.getElem?_eq_getElem hj
      rw [hLf.2 j _ h9]
      exact hout j _ h9)
    (fun j hj => by
      have h9 := List.getElem?_eq_getElem hj
      rw [hLf.2 j _ h9]
      obtain ⟨q1, q2⟩ := hcs _ (List.getElem_mem hj)
      obtain ⟨v, hv⟩ := Int.eq_ofNat_of_zero_le q1
      rw [hv] at q2 ⊢
      exact ln_255 v (by omega))
  rw [e3] at hcon
  have e0 : (Value.ref (3000 + ia) :: .int (nI cs.length) :: .ref 0 :: st).map (mv_cv (mv_ad z kad)) = .ref (kad (3000 + ia)) :: .int (nI cs.length) :: .ref z :: st.map (mv_cv (mv_ad z kad)) := by
    rw [List.map_cons, List.map_cons, List.map_cons]
    show Value.ref (mv_ad z kad (3000 + ia)) :: Value.int (nI cs.length) :: Value.ref (mv_ad z kad 0) :: _ = _
    rw [mo_ad]
    rfl
  rw [e0]
  obtain ⟨p1, p2, p3, p4, -⟩ := mv_cok_p (mv_cok_at (M := k_L_isLine) (by decide))
  have hcw : Cond.code (mv_mi k_L_isLine).2.1 (mv_mi k_L_isLine).1 4 (some .boolean) ∈ mv_TS := by
    have h9 : mv_w1 k_L_isLine = Cond.code (mv_mi k_L_isLine).2.1 (mv_mi k_L_isLine).1 4 (some .boolean) := by
      have := ln_ws
      unfold mv_ws at this
      exact (List.cons.inj this).1
    rw [← h9]
    exact p1
  rw [ln_ws] at hcon
  refine va_calli (va_runS (As := [.ref z, .int (nI cs.length), .ref (kad (3000 + ia))]) (rest := st.map (mv_cv (mv_ad z kad))) ⟨hG.1, hG.2.1, hml, hown, hts⟩ hcon (va_cwS 3 hts (gj_of (l := [Cond.methodLink "SluiceChainLaw" 218 (mv_mi k_L_isLine).2.1, Cond.static (mv_mi k_L_isLine).2.1, Cond.initialized (mv_mi k_L_isLine).2.1.cls, _]) (ln_m4 (mv_TS_of (k := 984) (by decide +kernel) rfl) (mv_TS_of (k := 985) (by decide +kernel) rfl) p4 hcw)) rfl rfl rfl (by decide +kernel) ⟨Nat.le_trans (Nat.le_of_ble_eq_true rfl) r1, Nat.le_trans (Nat.le_of_ble_eq_true rfl) r2⟩) ⟨fun x U g mk q => ?_, fun U hU hW => ⟨rfl, ⟨mv_En_to hE9 hW hS hU, by rw [hU]; exact hM9⟩, tR_ok.to hEt hS (fun _ h => h) hU hW.alike⟩⟩ rfl rfl hl.1 rfl (lv_room (by rw [mo_cats]; exact hcat)) hd ⟨(show 0 + 0 ≤ R.cells by omega), (show 0 + 0 ≤ R.slots by omega)⟩) hS (fun q _ h => h) (fun q h => h) (fun r u t9 H1 locs1 ht hvm hw hB1 hz1 hk1 hS1 => ?_)
  · obtain ⟨q0, ⟨q1, q2⟩, q3⟩ := q
    exact ⟨q0, ⟨mv_En_to q1 (by exact State.WarmedH.refl U) (va_S.rf (A := mv_A1 z) (H0 := U.heap)) rfl, q2⟩, tR_ok.moved (u := U) (U := U.calling g mk x) (Vm.Alike.refl U.vm) q3⟩
  have hw : r = 1 := hw
  subst hw
  have hB1 : mv_Mo z (mv_upn kad 3000 (kad (3000 + ia))) dC dI cA (t, 142, h) t9.heap := hB1
  rw [ht] at hB1
  exact mo_next hG hk hB hX hR hQ ⟨Nat.le_refl _, Nat.le_refl _⟩ hbd k (mo_Mo hB1 rfl hsm (fun o ho => (hkk o ho).symm) (fun _ _ => rfl)) hS1 hl (Nat.zero_add _) (Nat.zero_add _)
end LNE
