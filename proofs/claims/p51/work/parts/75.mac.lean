/-! THE LAW'S TEXTS: a basin's part, a rain's part -/
theorem mo_rf_mono {a b : Nat} (h : a ≤ b) {v : Value} (q : mo_rf a v) : mo_rf b v := by
  cases v with
  | ref o => exact Nat.lt_of_lt_of_le (show o < a from q) h
  | _ => trivial
theorem mo_rfl {ls : mv_V} {n : Nat} (h : ∀ q ∈ ls, mo_rf 3003 q.2) (hn : 3003 ≤ n) : ∀ q ∈ ls, mo_rf n q.2 := fun q hq => mo_rf_mono hn (h q hq)
theorem mo_s0 {n : Nat} : ∀ v ∈ ([] : List Value), mo_rf n v := fun v h => by cases h
theorem mo_s1 {n : Nat} {a : Value} (h : mo_rf n a) : ∀ v ∈ [a], mo_rf n v := fun v hv => by rw [List.mem_singleton.mp hv]; exact h
theorem mo_s2 {n : Nat} {a b : Value} (h : mo_rf n a) (h2 : mo_rf n b) : ∀ v ∈ [a, b], mo_rf n v := fun v hv => by
  rcases List.mem_cons.mp hv with e | e
  · rw [e]; exact h
  · exact mo_s1 h2 v e
section MAC
variable {z : Nat} {kad0 kad sec : Nat → Nat} {dC : Nat → ClassId} {dI : Nat → Nat → Nat} {cA : Nat → ClassId} {L : Nat} {xs : Nat → Int32}
variable {p : Program} {l : Launch} {e : Env} {R : Room} {s0 s : State} {m : MethodId} {args : Array Value} {below : List Frame} {meth : Method} {c : Code} {Q : State → Prop} {D : va_G} {cB : ClassId} {d1 d2 : Nat} {ka kv : Nat → Nat}
variable {pc nx a b w9 : Nat} {ls : mv_V} {st : List Value} {σ : mv_S}
theorem mc_ld {i : Nat} {x : Int32} (h : mv_lk i ls = some (.int x)) : mv_stp L xs (.iload i, nx, a, b, w9) ls st σ = some (.inl (nx, ls, .int x :: st, σ)) := by
  show mv_ld 0 (mv_lk i ls) nx ls st σ = _
  rw [h]
  rfl
/-- fewer steps paid -/
theorem mo_less {u w w' : Nat} {F : Nat → mo_T} (h : w ≤ w') (k : mo_W z kad0 dC dI cA p l e s0 m args below meth c D cB (u, w', F) pc ls st σ) : mo_W z kad0 dC dI cA p l e s0 m args below meth c D cB (u, w, F) pc ls st σ := by
  intro kad sec s R lsA Q hk hB hM hX hl hR hQ
  obtain ⟨r1, r2, r3, r4⟩ := hR
  have r3 : 600000 ≤ R.cells + mv_cc σ + 20 * w := r3
  have r4 : 6990000 ≤ R.slots + mv_ss σ + 1300 * w := r4
  exact k kad sec s R lsA Q hk hB hM hX hl ⟨r1, r2, by show 600000 ≤ R.cells + mv_cc σ + 20 * w'; omega, by show 6990000 ≤ R.slots + mv_ss σ + 1300 * w'; omega⟩ hQ
/-- the things by other numbers: the first three -/
theorem mo_ren {u w i0 i1 i2 : Nat} {F F' : Nat → mo_T} {ls' : mv_V} {st' : List Value} (h142 : σ.2.1 = 142) (hsm : mo_sm σ) (h0 : i0 < u) (h1 : i1 < u) (h2 : i2 < u) (hne : i2 ≠ i0 ∧ i2 ≠ i1 ∧ mo_mut (F i0) = false ∧ mo_mut (F i1) = false) (e0 : F' 0 = F i0) (e1 : F' 1 = F i1) (e2 : F' 2 = F i2)
    (hls : ∀ kad kad' : Nat → Nat, (∀ o, o < 3000 → kad' o = kad o) → kad' 3000 = kad (3000 + i0) → kad' 3001 = kad (3000 + i1) → kad' 3002 = kad (3000 + i2) → mv_lm (mv_ad z kad') ls' = mv_lm (mv_ad z kad) ls ∧ st'.map (mv_cv (mv_ad z kad')) = st.map (mv_cv (mv_ad z kad)))
    (k : mo_W z kad0 dC dI cA p l e s0 m args below meth c D cB (3, w, F') pc ls' st' σ) : mo_W z kad0 dC dI cA p l e s0 m args below meth c D cB (u, w, F) pc ls st σ := by
  intro kad sec s R lsA Q hk hB hM hX hl hR hQ
  obtain ⟨y0, z0⟩ := hX i0 h0
  obtain ⟨y1, z1⟩ := hX i1 h1
  obtain ⟨y2, z2⟩ := hX i2 h2
  let kad' : Nat → Nat := fun o => if o = 3000 then kad (3000 + i0) else if o = 3001 then kad (3000 + i1) else if o = 3002 then kad (3000 + i2) else kad o
  let sec' : Nat → Nat := fun o => if o = 0 then sec i0 else if o = 1 then sec i1 else sec i2
  have hkk : ∀ o, o < 3000 → kad' o = kad o := fun o ho => by
    show (if o = 3000 then kad (3000 + i0) else if o = 3001 then kad (3000 + i1) else if o = 3002 then kad (3000 + i2) else kad o) = kad o
    rw [if_neg (by omega), if_neg (by omega), if_neg (by omega)]
  obtain ⟨q1, q2⟩ := hls kad kad' hkk rfl rfl rfl
  have k9 := k kad' sec' s R lsA Q (fun o ho => (hkk o ho).trans (hk o ho)) hB (mo_Mo hM h142 hsm hkk (fun _ _ => rfl)) (fun i hi => ?_) (by rw [q1]; exact hl) hR hQ
  · rw [q2] at k9
    exact k9
  have hi : i < 3 := hi
  have n0 : ¬ mo_mut (F i0) = true := by rw [hne.2.2.1]; exact Bool.false_ne_true
  have n1 : ¬ mo_mut (F i1) = true := by rw [hne.2.2.2]; exact Bool.false_ne_true
  match i, hi with
  | 0, _ => exact ⟨by show mo_O D cB (cA 20) s s.heap (kad (3000 + i0)) (sec i0) (F' 0) ∧ _; rw [e0]; exact y0, fun hm => by have hm : mo_mut (F' 0) = true := hm; rw [e0] at hm; exact absurd hm n0⟩
  | 1, _ => exact ⟨by show mo_O D cB (cA 20) s s.heap (kad (3000 + i1)) (sec i1) (F' 1) ∧ _; rw [e1]; exact y1, fun hm => by have hm : mo_mut (F' 1) = true := hm; rw [e1] at hm; exact absurd hm n1⟩
  | 2, _ =>
    refine ⟨by show mo_O D cB (cA 20) s s.heap (kad (3000 + i2)) (sec i2) (F' 2) ∧ _; rw [e2]; exact y2, fun hm => ?_⟩
    have hm : mo_mut (F' 2) = true := hm
    rw [e2] at hm
    obtain ⟨c1, c2⟩ := z2 hm
    refine ⟨c1, fun j hj hj2 => ?_⟩
    have hj : j < 3 := hj
    match j, hj, hj2 with
    | 0, _, _ => exact c2 i0 h0 (Ne.symm hne.1)
    | 1, _, _ => exact c2 i1 h1 (Ne.symm hne.2.1)
    | 2, _, h => exact absurd rfl h
theorem mc_le0 {k : Int} (h0 : 0 < k) (hk : k < 1000) {o : Int} {a9 nx9 b9 w8 : Nat} : mv_stp L xs (.ifCond .le o, nx9, a9, b9, w8) ls (.int (Int32.ofInt k) :: st) σ = some (.inl (nx9, ls, st, σ)) := by
  show mv_nx (if mv_cmp .le (Int32.ofInt k) 0 = true then a9 else nx9) ls st σ = _
  rw [if_neg (by rw [c0_le (by omega) (by omega)]; omega)]
  rfl
theorem mc_le1 {k : Int} (h0 : ¬ 0 < k) (hk : 0 ≤ k ∧ k < 1000) {o : Int} {a9 nx9 b9 w8 : Nat} : mv_stp L xs (.ifCond .le o, nx9, a9, b9, w8) ls (.int (Int32.ofInt k) :: st) σ = some (.inl (a9, ls, st, σ)) := by
  show mv_nx (if mv_cmp .le (Int32.ofInt k) 0 = true then a9 else nx9) ls st σ = _
  rw [if_pos (by rw [c0_le (by omega) (by omega)]; omega)]
  rfl
theorem mc_lr {i : Nat} {x : Nat} (h : mv_lk i ls = some (.ref x)) : mv_stp L xs (.aload i, nx, a, b, w9) ls st σ = some (.inl (nx, ls, .ref x :: st, σ)) := by
  show mv_ld 4 (mv_lk i ls) nx ls st σ = _
  rw [h]
  rfl
theorem mc_lr1 {x : Nat} (h : mv_lk 1 ls = some (.ref x)) : mv_stp L xs (.aload_n 1, nx, a, b, w9) ls st σ = some (.inl (nx, ls, .ref x :: st, σ)) := by
  show mv_ld 4 (mv_lk 1 ls) nx ls st σ = _
  rw [h]
  rfl
theorem mc_ne0 {o : Int} {a9 nx9 b9 w8 : Nat} {x : Int32} : mv_stp L xs (.if_icmp .ne o, nx9, a9, b9, w8) ls (.int x :: .int x :: st) σ = some (.inl (nx9, ls, st, σ)) := by
  show mv_nx (if mv_cmp .ne x x = true then a9 else nx9) ls st σ = _
  rw [if_neg (fun h => (of_decide_eq_true h) rfl)]
  rfl
theorem mc_ne1 {o : Int} {a9 nx9 b9 w8 : Nat} {x y : Int32} (h : ¬ y = x) : mv_stp L xs (.if_icmp .ne o, nx9, a9, b9, w8) ls (.int x :: .int y :: st) σ = some (.inl (a9, ls, st, σ)) := by
  show mv_nx (if mv_cmp .ne y x = true then a9 else nx9) ls st σ = _
  rw [if_pos (show mv_cmp .ne y x = true from decide_eq_true h)]
  rfl
/-! the steps with the things as a triple -/
theorem mp_new (hG : mo_G z kad0 dC dI cA L xs p s0 m args meth c D cB d1 d2 ka kv) {u w : Nat} {F : Nat → mo_T} (hin : mv_in k_L_law pc = some (.new 137, nx, a, b, w9)) (h142 : σ.2.1 = 142) (hsm : mo_sm σ) (hbd : mv_cc σ ≤ 500000 ∧ mv_ss σ ≤ 5000000 ∧ w ≤ 1500) (hls : ∀ q ∈ ls, mo_rf (3000 + u) q.2) (hst : ∀ v ∈ st, mo_rf (3000 + u) v)
    (k : mo_W z kad0 dC dI cA p l e s0 m args below meth c D cB (u + 1, w + 1, mo_up F u (.inr (.inr (.inr ())))) nx ls (.ref (3000 + u) :: st) σ) : mo_W z kad0 dC dI cA p l e s0 m args below meth c D cB (u, w, F) pc ls st σ := mo_new (τ := (u, w, F)) hG hin h142 hsm hbd hls hst k
theorem mp_ldc (hG : mo_G z kad0 dC dI cA L xs p s0 m args meth c D cB d1 d2 ka kv) {u w : Nat} {F : Nat → mo_T} {i : Nat} (hi : i < 7) (hin : mv_in k_L_law pc = some (.ldc (mo_cp i), nx, a, b, w9)) (h142 : σ.2.1 = 142) (hsm : mo_sm σ) (hbd : mv_cc σ ≤ 500000 ∧ mv_ss σ ≤ 5000000 ∧ w ≤ 1500) (hls : ∀ q ∈ ls, mo_rf (3000 + u) q.2) (hst : ∀ v ∈ st, mo_rf (3000 + u) v)
    (k : mo_W z kad0 dC dI cA p l e s0 m args below meth c D cB (u + 1, w + 1, mo_up F u (.inl (mo_cs i))) nx ls (.ref (3000 + u) :: st) σ) : mo_W z kad0 dC dI cA p l e s0 m args below meth c D cB (u, w, F) pc ls st σ := mo_ldc (τ := (u, w, F)) hG hi hin h142 hsm hbd hls hst k
theorem mp_init (hG : mo_G z kad0 dC dI cA L xs p s0 m args meth c D cB d1 d2 ka kv) {u w : Nat} {F : Nat → mo_T} (hin : mv_in k_L_law pc = some (.invokespecial 139, nx, a, b, w9)) (h142 : σ.2.1 = 142) (hsm : mo_sm σ) (hbd : mv_cc σ ≤ 500000 ∧ mv_ss σ ≤ 5000000 ∧ w ≤ 1500) {ib : Nat} (hib : ib < u) (hb9 : F ib = .inr (.inr (.inr ()))) (hcat : (st.map (fun v => v.category)).sum ≤ 8)
    (k : mo_W z kad0 dC dI cA p l e s0 m args below meth c D cB (u, w + 1, mo_up F ib (.inr (.inl []))) nx ls st σ) : mo_W z kad0 dC dI cA p l e s0 m args below meth c D cB (u, w, F) pc ls (.ref (3000 + ib) :: st) σ := mo_init (τ := (u, w, F)) hG hin h142 hsm hbd hib hb9 hcat k
theorem mp_apps (hG : mo_G z kad0 dC dI cA L xs p s0 m args meth c D cB d1 d2 ka kv) {u w : Nat} {F : Nat → mo_T} (hin : mv_in k_L_law pc = some (.invokevirtual 140, nx, a, b, w9)) (h142 : σ.2.1 = 142) (hsm : mo_sm σ) (hbd : mv_cc σ ≤ 500000 ∧ mv_ss σ ≤ 5000000 ∧ w ≤ 1500) {ib ia : Nat} {cs ds : List Int} (hib : ib < u) (hb9 : F ib = .inr (.inl cs)) (hia : ia < u) (ha9 : F ia = .inl ds) (hlen : cs.length + ds.length ≤ 200) (hcat : (st.map (fun v => v.category)).sum ≤ 8)
    (k : mo_W z kad0 dC dI cA p l e s0 m args below meth c D cB (u, w + 1, mo_up F ib (.inr (.inl (cs ++ ds)))) nx ls (.ref (3000 + ib) :: st) σ) : mo_W z kad0 dC dI cA p l e s0 m args below meth c D cB (u, w, F) pc ls (.ref (3000 + ia) :: .ref (3000 + ib) :: st) σ := mo_apps (τ := (u, w, F)) hG hin h142 hsm hbd hib hb9 hia ha9 hlen hcat k
theorem mp_appi (hG : mo_G z kad0 dC dI cA L xs p s0 m args meth c D cB d1 d2 ka kv) {u w : Nat} {F : Nat → mo_T} (hin : mv_in k_L_law pc = some (.invokevirtual 146, nx, a, b, w9)) (h142 : σ.2.1 = 142) (hsm : mo_sm σ) (hbd : mv_cc σ ≤ 500000 ∧ mv_ss σ ≤ 5000000 ∧ w ≤ 1500) {ib v : Nat} {x : Int32} {cs : List Int} (hib : ib < u) (hb9 : F ib = .inr (.inl cs)) (hx9 : x = nI v) (hv9 : v < 100) (hlen : cs.length ≤ 190) (hcat : (st.map (fun v => v.category)).sum ≤ 8)
    (k : mo_W z kad0 dC dI cA p l e s0 m args below meth c D cB (u, w + 1, mo_up F ib (.inr (.inl (cs ++ zDg v)))) nx ls (.ref (3000 + ib) :: st) σ) : mo_W z kad0 dC dI cA p l e s0 m args below meth c D cB (u, w, F) pc ls (.int x :: .ref (3000 + ib) :: st) σ := mo_appi (τ := (u, w, F)) hG hin h142 hsm hbd hib hb9 hx9 hv9 hlen hcat k
theorem mp_tos (hG : mo_G z kad0 dC dI cA L xs p s0 m args meth c D cB d1 d2 ka kv) {u w : Nat} {F : Nat → mo_T} (hin : mv_in k_L_law pc = some (.invokevirtual 153, nx, a, b, w9)) (h142 : σ.2.1 = 142) (hsm : mo_sm σ) (hbd : mv_cc σ ≤ 500000 ∧ mv_ss σ ≤ 5000000 ∧ w ≤ 1500) (hls : ∀ q ∈ ls, mo_rf (3000 + u) q.2) (hst : ∀ v ∈ st, mo_rf (3000 + u) v) {ib : Nat} {cs : List Int} (hib : ib < u) (hb9 : F ib = .inr (.inl cs)) (hlen : cs.length ≤ 200) (hcat : (st.map (fun v => v.category)).sum ≤ 8)
    (k : mo_W z kad0 dC dI cA p l e s0 m args below meth c D cB (u + 1, w + 1, mo_up F u (.inl cs)) nx ls (.ref (3000 + u) :: st) σ) : mo_W z kad0 dC dI cA p l e s0 m args below meth c D cB (u, w, F) pc ls (.ref (3000 + ib) :: st) σ := mo_tos (τ := (u, w, F)) hG hin h142 hsm hbd hls hst hib hb9 hlen hcat k
theorem mp_row (hG : mo_G z kad0 dC dI cA L xs p s0 m args meth c D cB d1 d2 ka kv) {u w pc' : Nat} {ls' : mv_V} {st' : List Value} {F : Nat → mo_T} {r : mv_I} (hin : mv_in k_L_law pc = some r) (hs : mv_stp L xs r ls st σ = some (.inl (pc', ls', st', σ))) (hbd : mv_cc σ ≤ 500000 ∧ mv_ss σ ≤ 5000000 ∧ w ≤ 1500)
    (k : mo_W z kad0 dC dI cA p l e s0 m args below meth c D cB (u, w, F) pc' ls' st' σ) : mo_W z kad0 dC dI cA p l e s0 m args below meth c D cB (u, w, F) pc ls st σ := mo_row (τ := (u, w, F)) hG hin hs ⟨Nat.le_refl _, Nat.le_refl _⟩ hbd k
theorem mc_fin {t w u w' N n : Nat} {h : mv_H} {x1 X X' : List Int} {g : Nat → Int32} {F F' : Nat → mo_T} (hsm : mo_sm (t, 142, h)) (hr : ∀ q ∈ ls, mo_rf 3003 q.2) (hn : ∀ q ∈ ls, q.1 ≠ 11 → q.2 ≠ .ref 3000) (hF1 : F 1 = .inl x1) (hF2 : F 2 = .inr (.inr (.inl (n, g)))) (hN : N < u) (h3 : 3 ≤ u) (e0 : F' N = .inl X) (e1 : F' 1 = F 1) (e2 : F' 2 = F 2) (hN2 : N ≠ 2) (hw : w' ≤ w + 30) (eX : X = X')
    (k9 : mo_W z kad0 dC dI cA p l e s0 m args below meth c D cB (3, w + 30, mo_up F 0 (.inl X')) 336 ((11, .ref 3000) :: mv_f1 11 ls) [] (t, 142, h)) : mo_W z kad0 dC dI cA p l e s0 m args below meth c D cB (u, w', F') 336 ((11, .ref (3000 + N)) :: mv_f1 11 ls) [] (t, 142, h) := by
  subst eX
  refine mo_less hw (mo_ren (F' := mo_up F 0 (.inl X)) (ls' := (11, .ref 3000) :: mv_f1 11 ls) (st' := []) (i0 := N) (i1 := 1) (i2 := 2) rfl hsm hN (by omega) (by omega) ⟨Ne.symm hN2, by decide, by rw [e0]; rfl, by rw [e1, hF1]; rfl⟩ e0.symm e1.symm e2.symm (fun kad kad' hk k0 k1 k2 => ⟨?_, rfl⟩) k9)
  have e9 : ∀ q ∈ mv_f1 11 ls, mv_cv (mv_ad z kad') q.2 = mv_cv (mv_ad z kad) q.2 := fun q hq => by
    obtain ⟨q1, q2⟩ := List.mem_filter.mp hq
    have q3 : q.1 ≠ 11 := fun h9 => by rw [h9] at q2; simp at q2
    have q4 := hr q q1
    have q5 := hn q q1 q3
    cases hv : q.2 with
    | ref o =>
      rw [hv] at q4 q5
      have q6 : o ≠ 3000 := fun h9 => q5 (by rw [h9])
      show Value.ref (if o < 1000 then z + o else kad' o) = .ref (if o < 1000 then z + o else kad o)
      have key : ∀ y : Nat, y < 3003 → y ≠ 3000 → kad' y = kad y := fun y y1 y2 => by
        rcases (by omega : y < 3000 ∨ y = 3001 ∨ y = 3002) with h9 | h9 | h9
        · exact hk y h9
        · rw [h9]; exact k1
        · rw [h9]; exact k2
      rw [key o q4 q6]
    | _ => rfl
  show (11, mv_cv (mv_ad z kad') (.ref 3000)) :: mv_lm (mv_ad z kad') (mv_f1 11 ls) = (11, mv_cv (mv_ad z kad) (.ref (3000 + N))) :: mv_lm (mv_ad z kad) (mv_f1 11 ls)
  have e8 : mv_cv (mv_ad z kad') (.ref 3000) = mv_cv (mv_ad z kad) (.ref (3000 + N)) := by
    show Value.ref (mv_ad z kad' 3000) = .ref (mv_ad z kad (3000 + N))
    rw [mo_ad, ← k0]
    rfl
  rw [e8]
  congr 1
  exact List.map_congr_left (fun q hq => by rw [e9 q hq])
theorem mc_basin (hG : mo_G z kad0 dC dI cA L xs p s0 m args meth c D cB d1 d2 ka kv) {t w n : Nat} {h : mv_H} (hsm : mo_sm (t, 142, h)) {F : Nat → mo_T} {x0 x1 : List Int} {g : Nat → Int32} (hF0 : F 0 = .inl x0) (hF1 : F 1 = .inl x1) (hF2 : F 2 = .inr (.inr (.inl (n, g)))) (hbd : mv_cc (t, 142, h) ≤ 500000 ∧ mv_ss (t, 142, h) ≤ 5000000 ∧ w ≤ 1400) (hr : ∀ q ∈ ls, mo_rf 3003 q.2) (hn : ∀ q ∈ ls, q.1 ≠ 11 → q.2 ≠ .ref 3000) (hx0 : x0.length ≤ 100)
    {k : Int} {lv rm op : Nat} {bd : Int32} (h11 : mv_lk 11 ls = some (.ref 3000)) (h14 : mv_lk 14 ls = some (.int (Int32.ofInt k))) (hk9 : 0 ≤ k ∧ k < 1000) (h15 : mv_lk 15 ls = some (.int (nI lv))) (hlv : lv < 100) (h16 : mv_lk 16 ls = some (.int (nI rm))) (hrm : rm < 100) (h17 : mv_lk 17 ls = some (.int bd)) (hbd9 : ¬ bd = Int32.ofInt (-30000) → ∃ bv, bd = nI bv ∧ bv < 100) (h18 : mv_lk 18 ls = some (.int (nI op))) (hop : op < 100)
    (k9 : ∀ tl : List Int, (if bd = Int32.ofInt (-30000) then tl = [124] ++ zDg op else ∃ bv, bd = nI bv ∧ bv < 100 ∧ tl = [58] ++ zDg op ++ [126] ++ zDg bv) → mo_W z kad0 dC dI cA p l e s0 m args below meth c D cB (3, w + 30, mo_up F 0 (.inl (x0 ++ (if 0 < k then [32] else []) ++ zDg lv ++ [47] ++ zDg rm ++ tl))) 336 ((11, .ref 3000) :: mv_f1 11 ls) [] (t, 142, h)) :
    mo_W z kad0 dC dI cA p l e s0 m args below meth c D cB (3, w, F) 225 ls [] (t, 142, h) := by
  have t1 := tdl2 lv
  have t2 := tdl2 rm
  have t3 := tdl2 op
  refine mp_new hG r_L_law_225 rfl hsm ⟨hbd.1, hbd.2.1, by omega⟩ (mo_rfl hr (Nat.le_of_ble_eq_true rfl)) mo_s0 ?_
  refine mp_row hG r_L_law_228 (rfl) ⟨hbd.1, hbd.2.1, by omega⟩ ?_
  refine mp_init hG r_L_law_229 rfl hsm ⟨hbd.1, hbd.2.1, by omega⟩ (ib := 3) (Nat.le_of_ble_eq_true rfl) rfl (Nat.le_of_ble_eq_true rfl) ?_
  refine mp_row hG r_L_law_232 (mc_lr h11) ⟨hbd.1, hbd.2.1, by omega⟩ ?_
  have hF0b : (mo_up (mo_up F 3 (.inr (.inr (.inr ())))) 3 (.inr (.inl []))) 0 = .inl x0 := hF0
  refine mp_apps hG r_L_law_234 rfl hsm ⟨hbd.1, hbd.2.1, by omega⟩ (ib := 3) (ia := 0) (Nat.le_of_ble_eq_true rfl) rfl (Nat.le_of_ble_eq_true rfl) hF0b (by simp only [List.length_append, List.length_nil, List.length_cons, zDg_len, mo_cs]; omega) (Nat.le_of_ble_eq_true rfl) ?_
  refine mp_row hG r_L_law_237 (mc_ld h14) ⟨hbd.1, hbd.2.1, by omega⟩ ?_
  have key : ∀ ct : List Int, ct.length ≤ 1 → ct = (if 0 < k then [32] else []) → mo_W z kad0 dC dI cA p l e s0 m args below meth c D cB (5, w + 4, mo_up (mo_up (mo_up (mo_up F 3 (.inr (.inr (.inr ())))) 3 (.inr (.inl []))) 3 (.inr (.inl ([] ++ x0)))) 4 (.inl ct)) 249 ls [.ref 3004, .ref 3003] (t, 142, h) := by
    intro ct hct9 hct
    refine mp_apps hG r_L_law_249 rfl hsm ⟨hbd.1, hbd.2.1, by omega⟩ (ib := 3) (ia := 4) (Nat.le_of_ble_eq_true rfl) rfl (Nat.le_of_ble_eq_true rfl) rfl (by simp only [List.length_append, List.length_nil, List.length_cons, zDg_len, mo_cs]; omega) (Nat.le_of_ble_eq_true rfl) ?_
    refine mp_row hG r_L_law_252 (mc_ld h15) ⟨hbd.1, hbd.2.1, by omega⟩ ?_
    refine mp_appi hG r_L_law_254 rfl hsm ⟨hbd.1, hbd.2.1, by omega⟩ (ib := 3) (v := lv) (Nat.le_of_ble_eq_true rfl) rfl rfl hlv (by simp only [List.length_append, List.length_nil, List.length_cons, zDg_len, mo_cs]; omega) (Nat.le_of_ble_eq_true rfl) ?_
    refine mp_ldc hG (i := 2) (by decide) r_L_law_257 rfl hsm ⟨hbd.1, hbd.2.1, by omega⟩ (mo_rfl hr (Nat.le_of_ble_eq_true rfl)) (mo_s1 (Nat.le_of_ble_eq_true rfl)) ?_
    refine mp_apps hG r_L_law_259 rfl hsm ⟨hbd.1, hbd.2.1, by omega⟩ (ib := 3) (ia := 5) (Nat.le_of_ble_eq_true rfl) rfl (Nat.le_of_ble_eq_true rfl) rfl (by simp only [List.length_append, List.length_nil, List.length_cons, zDg_len, mo_cs]; omega) (Nat.le_of_ble_eq_true rfl) ?_
    refine mp_row hG r_L_law_262 (mc_ld h16) ⟨hbd.1, hbd.2.1, by omega⟩ ?_
    refine mp_appi hG r_L_law_264 rfl hsm ⟨hbd.1, hbd.2.1, by omega⟩ (ib := 3) (v := rm) (Nat.le_of_ble_eq_true rfl) rfl rfl hrm (by simp only [List.length_append, List.length_nil, List.length_cons, zDg_len, mo_cs]; omega) (Nat.le_of_ble_eq_true rfl) ?_
    refine mp_row hG r_L_law_267 (mc_ld h17) ⟨hbd.1, hbd.2.1, by omega⟩ ?_
    refine mp_row hG r_L_law_269 (rfl) ⟨hbd.1, hbd.2.1, by omega⟩ ?_
    by_cases hb : bd = Int32.ofInt (-30000)
    · subst hb
      refine mp_row hG r_L_law_272 (mc_ne0) ⟨hbd.1, hbd.2.1, by omega⟩ ?_
      refine mp_new hG r_L_law_275 rfl hsm ⟨hbd.1, hbd.2.1, by omega⟩ (mo_rfl hr (Nat.le_of_ble_eq_true rfl)) (mo_s1 (Nat.le_of_ble_eq_true rfl)) ?_
      refine mp_row hG r_L_law_278 (rfl) ⟨hbd.1, hbd.2.1, by omega⟩ ?_
      refine mp_init hG r_L_law_279 rfl hsm ⟨hbd.1, hbd.2.1, by omega⟩ (ib := 6) (Nat.le_of_ble_eq_true rfl) rfl (Nat.le_of_ble_eq_true rfl) ?_
      refine mp_ldc hG (i := 3) (by decide) r_L_law_282 rfl hsm ⟨hbd.1, hbd.2.1, by omega⟩ (mo_rfl hr (Nat.le_of_ble_eq_true rfl)) (mo_s2 (Nat.le_of_ble_eq_true rfl) (Nat.le_of_ble_eq_true rfl)) ?_
      refine mp_apps hG r_L_law_284 rfl hsm ⟨hbd.1, hbd.2.1, by omega⟩ (ib := 6) (ia := 7) (Nat.le_of_ble_eq_true rfl) rfl (Nat.le_of_ble_eq_true rfl) rfl (by simp only [List.length_append, List.length_nil, List.length_cons, zDg_len, mo_cs]; omega) (Nat.le_of_ble_eq_true rfl) ?_
      refine mp_row hG r_L_law_287 (mc_ld h18) ⟨hbd.1, hbd.2.1, by omega⟩ ?_
      refine mp_appi hG r_L_law_289 rfl hsm ⟨hbd.1, hbd.2.1, by omega⟩ (ib := 6) (v := op) (Nat.le_of_ble_eq_true rfl) rfl rfl hop (by simp only [List.length_append, List.length_nil, List.length_cons, zDg_len, mo_cs]; omega) (Nat.le_of_ble_eq_true rfl) ?_
      refine mp_tos hG r_L_law_292 rfl hsm ⟨hbd.1, hbd.2.1, by omega⟩ (mo_rfl hr (Nat.le_of_ble_eq_true rfl)) (mo_s1 (Nat.le_of_ble_eq_true rfl)) (ib := 6) (Nat.le_of_ble_eq_true rfl) rfl (by simp only [List.length_append, List.length_nil, List.length_cons, zDg_len, mo_cs]; omega) (Nat.le_of_ble_eq_true rfl) ?_
      refine mp_row hG r_L_law_295 (rfl) ⟨hbd.1, hbd.2.1, by omega⟩ ?_
      refine mp_apps hG r_L_law_328 rfl hsm ⟨hbd.1, hbd.2.1, by omega⟩ (ib := 3) (ia := 8) (Nat.le_of_ble_eq_true rfl) rfl (Nat.le_of_ble_eq_true rfl) rfl (by simp only [List.length_append, List.length_nil, List.length_cons, zDg_len, mo_cs]; omega) (Nat.le_of_ble_eq_true rfl) ?_
      refine mp_tos hG r_L_law_331 rfl hsm ⟨hbd.1, hbd.2.1, by omega⟩ (mo_rfl hr (Nat.le_of_ble_eq_true rfl)) mo_s0 (ib := 3) (Nat.le_of_ble_eq_true rfl) rfl (by simp only [List.length_append, List.length_nil, List.length_cons, zDg_len, mo_cs]; omega) (Nat.le_of_ble_eq_true rfl) ?_
      refine mp_row hG r_L_law_334 (rfl) ⟨hbd.1, hbd.2.1, by omega⟩ ?_
      exact mc_fin hsm hr hn hF1 hF2 (Nat.le_of_ble_eq_true rfl) (Nat.le_of_ble_eq_true rfl) rfl rfl rfl (show (9 : Nat) ≠ 2 by decide) (by omega) (by rw [hct]; simp [mo_cs]) (k9 ([124] ++ zDg op) (by rw [if_pos rfl]))
    · refine mp_row hG r_L_law_272 (mc_ne1 hb) ⟨hbd.1, hbd.2.1, by omega⟩ ?_
      refine mp_new hG r_L_law_298 rfl hsm ⟨hbd.1, hbd.2.1, by omega⟩ (mo_rfl hr (Nat.le_of_ble_eq_true rfl)) (mo_s1 (Nat.le_of_ble_eq_true rfl)) ?_
      refine mp_row hG r_L_law_301 (rfl) ⟨hbd.1, hbd.2.1, by omega⟩ ?_
      refine mp_init hG r_L_law_302 rfl hsm ⟨hbd.1, hbd.2.1, by omega⟩ (ib := 6) (Nat.le_of_ble_eq_true rfl) rfl (Nat.le_of_ble_eq_true rfl) ?_
      refine mp_ldc hG (i := 4) (by decide) r_L_law_305 rfl hsm ⟨hbd.1, hbd.2.1, by omega⟩ (mo_rfl hr (Nat.le_of_ble_eq_true rfl)) (mo_s2 (Nat.le_of_ble_eq_true rfl) (Nat.le_of_ble_eq_true rfl)) ?_
      refine mp_apps hG r_L_law_307 rfl hsm ⟨hbd.1, hbd.2.1, by omega⟩ (ib := 6) (ia := 7) (Nat.le_of_ble_eq_true rfl) rfl (Nat.le_of_ble_eq_true rfl) rfl (by simp only [List.length_append, List.length_nil, List.length_cons, zDg_len, mo_cs]; omega) (Nat.le_of_ble_eq_true rfl) ?_
      refine mp_row hG r_L_law_310 (mc_ld h18) ⟨hbd.1, hbd.2.1, by omega⟩ ?_
      refine mp_appi hG r_L_law_312 rfl hsm ⟨hbd.1, hbd.2.1, by omega⟩ (ib := 6) (v := op) (Nat.le_of_ble_eq_true rfl) rfl rfl hop (by simp only [List.length_append, List.length_nil, List.length_cons, zDg_len, mo_cs]; omega) (Nat.le_of_ble_eq_true rfl) ?_
      refine mp_ldc hG (i := 5) (by decide) r_L_law_315 rfl hsm ⟨hbd.1, hbd.2.1, by omega⟩ (mo_rfl hr (Nat.le_of_ble_eq_true rfl)) (mo_s2 (Nat.le_of_ble_eq_true rfl) (Nat.le_of_ble_eq_true rfl)) ?_
      refine mp_apps hG r_L_law_317 rfl hsm ⟨hbd.1, hbd.2.1, by omega⟩ (ib := 6) (ia := 8) (Nat.le_of_ble_eq_true rfl) rfl (Nat.le_of_ble_eq_true rfl) rfl (by simp only [List.length_append, List.length_nil, List.length_cons, zDg_len, mo_cs]; omega) (Nat.le_of_ble_eq_true rfl) ?_
      refine mp_row hG r_L_law_320 (mc_ld h17) ⟨hbd.1, hbd.2.1, by omega⟩ ?_
      obtain ⟨bv, hbv, hbv9⟩ := hbd9 hb
      have t4 := tdl2 bv
      refine mp_appi hG r_L_law_322 rfl hsm ⟨hbd.1, hbd.2.1, by omega⟩ (ib := 6) (v := bv) (Nat.le_of_ble_eq_true rfl) rfl hbv hbv9 (by simp only [List.length_append, List.length_nil, List.length_cons, zDg_len, mo_cs]; omega) (Nat.le_of_ble_eq_true rfl) ?_
      refine mp_tos hG r_L_law_325 rfl hsm ⟨hbd.1, hbd.2.1, by omega⟩ (mo_rfl hr (Nat.le_of_ble_eq_true rfl)) (mo_s1 (Nat.le_of_ble_eq_true rfl)) (ib := 6) (Nat.le_of_ble_eq_true rfl) rfl (by simp only [List.length_append, List.length_nil, List.length_cons, zDg_len, mo_cs]; omega) (Nat.le_of_ble_eq_true rfl) ?_
      refine mp_apps hG r_L_law_328 rfl hsm ⟨hbd.1, hbd.2.1, by omega⟩ (ib := 3) (ia := 9) (Nat.le_of_ble_eq_true rfl) rfl (Nat.le_of_ble_eq_true rfl) rfl (by simp only [List.length_append, List.length_nil, List.length_cons, zDg_len, mo_cs]; omega) (Nat.le_of_ble_eq_true rfl) ?_
      refine mp_tos hG r_L_law_331 rfl hsm ⟨hbd.1, hbd.2.1, by omega⟩ (mo_rfl hr (Nat.le_of_ble_eq_true rfl)) mo_s0 (ib := 3) (Nat.le_of_ble_eq_true rfl) rfl (by simp only [List.length_append, List.length_nil, List.length_cons, zDg_len, mo_cs]; omega) (Nat.le_of_ble_eq_true rfl) ?_
      refine mp_row hG r_L_law_334 (rfl) ⟨hbd.1, hbd.2.1, by omega⟩ ?_
      exact mc_fin hsm hr hn hF1 hF2 (Nat.le_of_ble_eq_true rfl) (Nat.le_of_ble_eq_true rfl) rfl rfl rfl (show (10 : Nat) ≠ 2 by decide) (by omega) (by rw [hct]; simp [mo_cs]) (k9 ([58] ++ zDg op ++ [126] ++ zDg bv) (by rw [if_neg hb]; exact ⟨bv, hbv, hbv9, rfl⟩))
  by_cases h0 : 0 < k
  · refine mp_row hG r_L_law_239 (mc_le0 h0 hk9.2) ⟨hbd.1, hbd.2.1, by omega⟩ ?_
    refine mp_ldc hG (i := 1) (by decide) r_L_law_242 rfl hsm ⟨hbd.1, hbd.2.1, by omega⟩ (mo_rfl hr (Nat.le_of_ble_eq_true rfl)) (mo_s1 (Nat.le_of_ble_eq_true rfl)) ?_
    refine mp_row hG r_L_law_244 (rfl) ⟨hbd.1, hbd.2.1, by omega⟩ ?_
    exact key [32] (by decide) (by rw [if_pos h0])
  · refine mp_row hG r_L_law_239 (mc_le1 h0 hk9) ⟨hbd.1, hbd.2.1, by omega⟩ ?_
    refine mp_ldc hG (i := 0) (by decide) r_L_law_247 rfl hsm ⟨hbd.1, hbd.2.1, by omega⟩ (mo_rfl hr (Nat.le_of_ble_eq_true rfl)) (mo_s1 (Nat.le_of_ble_eq_true rfl)) ?_
    exact key [] (by decide) (by rw [if_neg h0])
theorem mc_fin2 {t w u w' N n : Nat} {h : mv_H} {x0 X X' : List Int} {g : Nat → Int32} {F F' : Nat → mo_T} (hsm : mo_sm (t, 142, h)) (hr : ∀ q ∈ ls, mo_rf 3003 q.2) (hn : ∀ q ∈ ls, q.1 ≠ 12 → q.2 ≠ .ref 3001) (hF0 : F 0 = .inl x0) (hF2 : F 2 = .inr (.inr (.inl (n, g)))) (hN : N < u) (h3 : 3 ≤ u) (e0 : F' N = .inl X) (e1 : F' 0 = F 0) (e2 : F' 2 = F 2) (hN2 : N ≠ 2) (hw : w' ≤ w + 10) (eX : X = X')
    (k9 : mo_W z kad0 dC dI cA p l e s0 m args below meth c D cB (3, w + 10, mo_up F 1 (.inl X')) 575 ((12, .ref 3001) :: mv_f1 12 ls) [] (t, 142, h)) : mo_W z kad0 dC dI cA p l e s0 m args below meth c D cB (u, w', F') 575 ((12, .ref (3000 + N)) :: mv_f1 12 ls) [] (t, 142, h) := by
  subst eX
  refine mo_less hw (mo_ren (F' := mo_up F 1 (.inl X)) (ls' := (12, .ref 3001) :: mv_f1 12 ls) (st' := []) (i0 := 0) (i1 := N) (i2 := 2) rfl hsm (by omega) hN (by omega) ⟨by decide, Ne.symm hN2, by rw [e1, hF0]; rfl, by rw [e0]; rfl⟩ e1.symm e0.symm e2.symm (fun kad kad' hk k0 k1 k2 => ⟨?_, rfl⟩) k9)
  have e9 : ∀ q ∈ mv_f1 12 ls, mv_cv (mv_ad z kad') q.2 = mv_cv (mv_ad z kad) q.2 := fun q hq => by
    obtain ⟨q1, q2⟩ := List.mem_filter.mp hq
    have q3 : q.1 ≠ 12 := fun h9 => by rw [h9] at q2; simp at q2
    have q4 := hr q q1
    have q5 := hn q q1 q3
    cases hv : q.2 with
    | ref o =>
      rw [hv] at q4 q5
      have q6 : o ≠ 3001 := fun h9 => q5 (by rw [h9])
      show Value.ref (if o < 1000 then z + o else kad' o) = .ref (if o < 1000 then z + o else kad o)
      have key : ∀ y : Nat, y < 3003 → y ≠ 3001 → kad' y = kad y := fun y y1 y2 => by
        rcases (by omega : y < 3000 ∨ y = 3000 ∨ y = 3002) with h9 | h9 | h9
        · exact hk y h9
        · rw [h9]; exact k0
        · rw [h9]; exact k2
      rw [key o q4 q6]
    | _ => rfl
  show (12, mv_cv (mv_ad z kad') (.ref 3001)) :: mv_lm (mv_ad z kad') (mv_f1 12 ls) = (12, mv_cv (mv_ad z kad) (.ref (3000 + N))) :: mv_lm (mv_ad z kad) (mv_f1 12 ls)
  have e8 : mv_cv (mv_ad z kad') (.ref 3001) = mv_cv (mv_ad z kad) (.ref (3000 + N)) := by
    show Value.ref (mv_ad z kad' 3001) = .ref (mv_ad z kad (3000 + N))
    rw [mo_ad, ← k1]
    rfl
  rw [e8]
  congr 1
  exact List.map_congr_left (fun q hq => by rw [e9 q hq])
theorem mc_rain (hG : mo_G z kad0 dC dI cA L xs p s0 m args meth c D cB d1 d2 ka kv) (hlt : l.stackTraces = false) {t t2 w n d : Nat} {h h2 : mv_H} (hsm : mo_sm (t, 142, h)) (hsm2 : mo_sm (t2, 142, h2)) {F : Nat → mo_T} {x0 x1 : List Int} {g : Nat → Int32} (hF0 : F 0 = .inl x0) (hF1 : F 1 = .inl x1) (hF2 : F 2 = .inr (.inr (.inl (n, g)))) (hbd : mv_cc (t, 142, h) ≤ 500000 ∧ mv_ss (t, 142, h) ≤ 5000000 ∧ w ≤ 1400) (hbd2 : mv_cc (t2, 142, h2) ≤ 500000 ∧ mv_ss (t2, 142, h2) ≤ 5000000 ∧ w ≤ 1400) (hr : ∀ q ∈ ls, mo_rf 3003 q.2) (hn : ∀ q ∈ ls, q.1 ≠ 12 → q.2 ≠ .ref 3001) (hx1 : x1.length ≤ 100)
    {k : Int} {rv : Nat} (h1 : mv_lk 1 ls = some (.ref 0)) (h12 : mv_lk 12 ls = some (.ref 3001)) (h14 : mv_lk 14 ls = some (.int (Int32.ofInt k))) (hk9 : 0 ≤ k ∧ k < 1000) (hrv : rv < 100) (hd9 : d ≤ 30) (hcl : mv_cl L xs d k_X10_rainAt [.ref 0, .int (Int32.ofInt k)] (t, 142, h) = some (.inl (some (.int (nI rv))), (t2, 142, h2)))
    (k9 : mo_W z kad0 dC dI cA p l e s0 m args below meth c D cB (3, w + 10, mo_up F 1 (.inl (x1 ++ (if 0 < k then [44] else []) ++ zDg rv))) 575 ((12, .ref 3001) :: mv_f1 12 ls) [] (t2, 142, h2)) :
    mo_W z kad0 dC dI cA p l e s0 m args below meth c D cB (3, w, F) 534 ls [] (t, 142, h) := by
  have t1 := tdl2 rv
  refine mp_new hG r_L_law_534 rfl hsm ⟨hbd.1, hbd.2.1, by omega⟩ (mo_rfl hr (Nat.le_of_ble_eq_true rfl)) mo_s0 ?_
  refine mp_row hG r_L_law_537 (rfl) ⟨hbd.1, hbd.2.1, by omega⟩ ?_
  refine mp_init hG r_L_law_538 rfl hsm ⟨hbd.1, hbd.2.1, by omega⟩ (ib := 3) (Nat.le_of_ble_eq_true rfl) rfl (Nat.le_of_ble_eq_true rfl) ?_
  refine mp_row hG r_L_law_541 (mc_lr h12) ⟨hbd.1, hbd.2.1, by omega⟩ ?_
  have hF1b : (mo_up (mo_up F 3 (.inr (.inr (.inr ())))) 3 (.inr (.inl []))) 1 = .inl x1 := hF1
  refine mp_apps hG r_L_law_543 rfl hsm ⟨hbd.1, hbd.2.1, by omega⟩ (ib := 3) (ia := 1) (Nat.le_of_ble_eq_true rfl) rfl (Nat.le_of_ble_eq_true rfl) hF1b (by simp only [List.length_append, List.length_nil, List.length_cons, zDg_len, mo_cs]; omega) (Nat.le_of_ble_eq_true rfl) ?_
  refine mp_row hG r_L_law_546 (mc_ld h14) ⟨hbd.1, hbd.2.1, by omega⟩ ?_
  have key : ∀ ct : List Int, ct.length ≤ 1 → ct = (if 0 < k then [44] else []) → mo_W z kad0 dC dI cA p l e s0 m args below meth c D cB (5, w + 4, mo_up (mo_up (mo_up (mo_up F 3 (.inr (.inr (.inr ())))) 3 (.inr (.inl []))) 3 (.inr (.inl ([] ++ x1)))) 4 (.inl ct)) 558 ls [.ref 3004, .ref 3003] (t, 142, h) := by
    intro ct hct9 hct
    refine mp_apps hG r_L_law_558 rfl hsm ⟨hbd.1, hbd.2.1, by omega⟩ (ib := 3) (ia := 4) (Nat.le_of_ble_eq_true rfl) rfl (Nat.le_of_ble_eq_true rfl) rfl (by simp only [List.length_append, List.length_nil, List.length_cons, zDg_len, mo_cs]; omega) (Nat.le_of_ble_eq_true rfl) ?_
    refine mp_row hG r_L_law_561 (mc_lr1 h1) ⟨hbd.1, hbd.2.1, by omega⟩ ?_
    refine mp_row hG r_L_law_562 (mc_ld h14) ⟨hbd.1, hbd.2.1, by omega⟩ ?_
    refine mo_call (τ := (5, _, _)) hG hlt r_L_law_564 ((kv_X10_rainAt (v0 := Int32.ofInt k) (st := [.ref 3003])).trans (if_pos (by decide))) hd9 hcl ⟨hbd2.1, hbd2.2.1, by dsimp only; omega⟩ ?_
    have hbd := hbd2
    have hsm := hsm2
    refine mp_appi hG r_L_law_567 rfl hsm ⟨hbd.1, hbd.2.1, by omega⟩ (ib := 3) (v := rv) (Nat.le_of_ble_eq_true rfl) rfl rfl hrv (by simp only [List.length_append, List.length_nil, List.length_cons, zDg_len, mo_cs]; omega) (Nat.le_of_ble_eq_true rfl) ?_
    refine mp_tos hG r_L_law_570 rfl hsm ⟨hbd.1, hbd.2.1, by omega⟩ (mo_rfl hr (Nat.le_of_ble_eq_true rfl)) mo_s0 (ib := 3) (Nat.le_of_ble_eq_true rfl) rfl (by simp only [List.length_append, List.length_nil, List.length_cons, zDg_len, mo_cs]; omega) (Nat.le_of_ble_eq_true rfl) ?_
    refine mp_row hG r_L_law_573 (rfl) ⟨hbd.1, hbd.2.1, by omega⟩ ?_
    exact mc_fin2 hsm hr hn hF0 hF2 (Nat.le_of_ble_eq_true rfl) (Nat.le_of_ble_eq_true rfl) rfl rfl rfl (show (5 : Nat) ≠ 2 by decide) (by omega) (by rw [hct]; simp [mo_cs]) k9
  by_cases h0 : 0 < k
  · refine mp_row hG r_L_law_548 (mc_le0 h0 hk9.2) ⟨hbd.1, hbd.2.1, by omega⟩ ?_
    refine mp_ldc hG (i := 6) (by decide) r_L_law_551 rfl hsm ⟨hbd.1, hbd.2.1, by omega⟩ (mo_rfl hr (Nat.le_of_ble_eq_true rfl)) (mo_s1 (Nat.le_of_ble_eq_true rfl)) ?_
    refine mp_row hG r_L_law_553 (rfl) ⟨hbd.1, hbd.2.1, by omega⟩ ?_
    exact key [44] (by decide) (by rw [if_pos h0])
  · refine mp_row hG r_L_law_548 (mc_le1 h0 hk9) ⟨hbd.1, hbd.2.1, by omega⟩ ?_
    refine mp_ldc hG (i := 0) (by decide) r_L_law_556 rfl hsm ⟨hbd.1, hbd.2.1, by omega⟩ (mo_rfl hr (Nat.le_of_ble_eq_true rfl)) (mo_s1 (Nat.le_of_ble_eq_true rfl)) ?_
    exact key [] (by decide) (by rw [if_neg h0])
end MAC
