theorem wz_0 : Cond.methodLink "SluiceChainLaw" 139 yj_bin ∈ tTS := tTS_of (mv_TS_of (k := 1043) (by decide +kernel) rfl)
theorem wz_1 : Cond.instanceMethod yj_bin ∈ tTS := tTS_of (mv_TS_of (k := 1044) (by decide +kernel) rfl)
theorem wz_2 : Cond.methodLink "SluiceChainLaw" 140 yj_sps ∈ tTS := tTS_of (mv_TS_of (k := 1071) (by decide +kernel) rfl)
theorem wz_3 : Cond.instanceMethod yj_sps ∈ tTS := tTS_of (mv_TS_of (k := 1072) (by decide +kernel) rfl)
theorem wz_4 : Cond.selects "java/lang/StringBuilder" yj_sps yj_sps ∈ tTS := tTS_of (mv_TS_of (k := 1073) (by decide +kernel) rfl)
theorem wz_5 : Cond.methodLink "SluiceChainLaw" 146 yj_spi ∈ tTS := tTS_of (mv_TS_of (k := 1168) (by decide +kernel) rfl)
theorem wz_6 : Cond.instanceMethod yj_spi ∈ tTS := tTS_of (mv_TS_of (k := 1169) (by decide +kernel) rfl)
theorem wz_7 : Cond.selects "java/lang/StringBuilder" yj_spi yj_spi ∈ tTS := tTS_of (mv_TS_of (k := 1170) (by decide +kernel) rfl)
theorem wz_8 : Cond.methodLink "SluiceChainLaw" 153 yj_tos ∈ tTS := tTS_of (mv_TS_of (k := 1193) (by decide +kernel) rfl)
theorem wz_9 : Cond.instanceMethod yj_tos ∈ tTS := tTS_of (mv_TS_of (k := 1194) (by decide +kernel) rfl)
theorem wz_10 : Cond.selects "java/lang/StringBuilder" yj_tos yj_tos ∈ tTS := tTS_of (mv_TS_of (k := 1195) (by decide +kernel) rfl)
theorem wz_11 : Cond.classLink "SluiceChainLaw" 137 "java/lang/StringBuilder" ∈ tTS := tTS_of (mv_TS_of (k := 1041) (by decide +kernel) rfl)
theorem wz_12 : Cond.instantiable "java/lang/StringBuilder" 4 ∈ tTS := tTS_of (mv_TS_of (k := 1042) (by decide +kernel) rfl)
theorem wz_13 : Cond.arrayClass .int ∈ tTS := tTS_of (mv_TS_of (k := 159) (by decide +kernel) rfl)
/-! THE LAW'S OWN STEPS ON TEXTS AND ROWS -/
def mo_rf (n : Nat) (v : Value) : Prop := match v with | .ref o => o < n | _ => True
theorem mo_cv {z n : Nat} {kad kad' : Nat → Nat} {v : Value} (h : mo_rf n v) (hk : ∀ o, o < n → kad' o = kad o) : mv_cv (mv_ad z kad') v = mv_cv (mv_ad z kad) v := by
  cases v with
  | ref o =>
    have h : o < n := h
    show Value.ref (if o < 1000 then z + o else kad' o) = .ref (if o < 1000 then z + o else kad o)
    rw [hk o h]
  | _ => rfl
theorem mo_lm {z n : Nat} {kad kad' : Nat → Nat} {ls : mv_V} (h : ∀ q ∈ ls, mo_rf n q.2) (hk : ∀ o, o < n → kad' o = kad o) : mv_lm (mv_ad z kad') ls = mv_lm (mv_ad z kad) ls :=
  List.map_congr_left (fun q hq => by rw [mo_cv (h q hq) hk])
theorem mo_sl {z n : Nat} {kad kad' : Nat → Nat} {st : List Value} (h : ∀ v ∈ st, mo_rf n v) (hk : ∀ o, o < n → kad' o = kad o) : st.map (mv_cv (mv_ad z kad')) = st.map (mv_cv (mv_ad z kad)) :=
  List.map_congr_left (fun v hv => mo_cv (h v hv) hk)
/-- no object's field holds a thing -/
def mo_sm (σ : mv_S) : Prop := ∀ o j, mo_rf 3000 (σ.2.2 o j)
theorem mo_Mo {z : Nat} {kad kad' : Nat → Nat} {dC : Nat → ClassId} {dI : Nat → Nat → Nat} {cA : Nat → ClassId} {σ : mv_S} {H H1 : Heap} (hM : mv_Mo z kad dC dI cA σ H) (h142 : σ.2.1 = 142) (hsm : mo_sm σ) (hk : ∀ o, o < 3000 → kad' o = kad o) (hq : ∀ q, mv_A1 z q → H1[q]? = H[q]?) : mv_Mo z kad' dC dI cA σ H1 := by
  obtain ⟨h1, h2, h3⟩ := hM
  refine ⟨?_, fun h => by omega, h3⟩
  have e : mv_wl (mv_ad z kad') cA σ.2.1 σ.2.2 = mv_wl (mv_ad z kad) cA σ.2.1 σ.2.2 := by
    refine List.map_congr_left (fun o ho => ?_)
    have ho : o < σ.2.1 := List.mem_range.mp ho
    have e1 : mv_ad z kad' o = mv_ad z kad o := by unfold mv_ad; rw [hk o (by omega)]
    have e2 : ∀ j, mv_cv (mv_ad z kad') (σ.2.2 o j) = mv_cv (mv_ad z kad) (σ.2.2 o j) := fun j => mo_cv (hsm o j) hk
    have e3 : ∀ j, mv_ov (mv_ad z kad') (σ.2.2 o j) = mv_ov (mv_ad z kad) (σ.2.2 o j) := fun j => by
      have h9 := e2 j
      cases hv : σ.2.2 o j with
      | ref q => rw [hv] at h9; exact congrArg some (Value.ref.inj h9)
      | _ => rfl
    rw [e1]
    unfold mv_ce
    simp only [e2, e3]
  rw [e]
  refine h1.kept (fun k q hk9 => hq q.1 ?_)
  obtain ⟨i, hi⟩ : ∃ i, i = k := ⟨k, rfl⟩
  have hl : k < (mv_wl (mv_ad z kad) cA σ.2.1 σ.2.2).length := (List.getElem?_eq_some_iff.mp hk9).1
  have hl : k < σ.2.1 := by simpa [mv_wl] using hl
  rw [mv_wl_get hl] at hk9
  cases hk9
  show mv_A1 z (mv_ad z kad k)
  unfold mv_ad mv_A1
  rw [if_pos (by omega)]
  omega
theorem mo_sz {z : Nat} {kad : Nat → Nat} {dC : Nat → ClassId} {dI : Nat → Nat → Nat} {cA : Nat → ClassId} {σ : mv_S} {H : Heap} (hM : mv_Mo z kad dC dI cA σ H) (h142 : σ.2.1 = 142) : z + 142 ≤ H.size := by
  have h := (hM.1 141 _ (mv_wl_get (by omega))).lt
  have e : mv_ad z kad 141 = z + 141 := if_pos (by decide)
  rw [e] at h
  omega
/-- what is said of one cell can be said of any cells but it -/
theorem va_O.any {E : String} {t : Nat} {A B : Nat → Prop} {U : State} {H : Heap} (h : va_O E t A U H) (hB : ¬ B t) : va_O E t B U H := by
  obtain ⟨c, h1, h2, h3, -⟩ := h
  exact ⟨c, h1, h2, h3, hB⟩
theorem va_OF.any {o n d : String} {v : Value} {t : Nat} {A B : Nat → Prop} {U : State} {H : Heap} (h : va_OF o n d v t A U H) (hB : ¬ B t) : va_OF o n d v t B U H := by
  obtain ⟨cf, k, i, f, c, h1, h2, h3, h4, h5, h6⟩ := h
  exact ⟨cf, k, i, f, c, h1, h2, h3, h4, h5, hB⟩
theorem va_T.any {ty : FieldType} {t N : Nat} {f : Nat → Value} {A B : Nat → Prop} {U : State} {H : Heap} (h : va_T ty t N f A U H) (hB : ¬ B t) : va_T ty t N f B U H := by
  obtain ⟨c, h1, h2, h3, h4, h5, h6, h7⟩ := h
  exact ⟨c, h1, h2, h3, h4, h5, h6, hB⟩
theorem mo_csL (i : Nat) : mo_L (mo_cs i) (fun j => Int32.ofInt ((mo_cs i).getD j 0)) := by
  refine ⟨fun j => ?_, fun j v h => ?_⟩
  · have h : (mo_cs i).getD j 0 = 0 ∨ (mo_cs i).getD j 0 = 32 ∨ (mo_cs i).getD j 0 = 47 ∨ (mo_cs i).getD j 0 = 124 ∨ (mo_cs i).getD j 0 = 58 ∨ (mo_cs i).getD j 0 = 126 ∨ (mo_cs i).getD j 0 = 44 := by
      unfold mo_cs
      split <;> cases j <;> simp
    show fits .byte (.int (Int32.ofInt ((mo_cs i).getD j 0))) = true
    rcases h with h | h | h | h | h | h | h <;> rw [h] <;> decide +kernel
  · show Int32.ofInt ((mo_cs i).getD j 0) = _
    rw [List.getD_eq_getElem?_getD, h]
    rfl
theorem tR4_of {D : va_G} {cB : ClassId} {x sd n : Nat} {f : Nat → Int32} {A : Nat → Prop} {s : State} {H : Heap} {args : Array Value} (hT : ∀ w ∈ tTS, w.before args s = true) (hP : va_P D tcl [(x, tE (.ref sd)), (sd, tA cB n f)] H) (hK : va_K D tcl [(cB, .byte)] s) (hx : ¬ A x) (hs : ¬ A sd) : tR4 x sd n f A s H := by
  obtain ⟨r, h1, cell, q1, q2, q3, q4⟩ := hP 0 _ rfl
  have hr : r = ("java/lang/String", TJ0, 4) := (Option.some.inj h1).symm
  subst hr
  obtain ⟨hS, hfc, kC, hkC, hkind⟩ := hK.1 1 _ rfl
  have hof : ∀ k, k < 4 → ∀ v, vp_V [.ref sd, .int 0, .int 0, .int 0] k = v → va_OF (TJ0 k).1 (TJ0 k).2.1 (TJ0 k).2.2.1 v x A s H := fun k hk v hv => by
    obtain ⟨cf, kf, fi, f, hi, hsl⟩ := hS k hk
    refine ⟨cf, kf, fi, f, cell, hi, (u_facts hfc hkC (u_lays hT tinJ0 hk) hi).1, q1, (by rw [q3]; exact fun h => (by cases h)), ?_, hx⟩
    rw [hsl, q4 k hk, hv]
  refine ⟨⟨cell, q1, by rw [q3]; rfl, by rw [q2]; exact hfc, hx⟩, hof 1 (by decide) _ rfl, hof 0 (by decide) _ rfl, ⟨_, hP 1 _ rfl, (hK.2 0 _ rfl).1 n _, (fun h => (by cases h)), Nat.le_of_eq (by rw [vp_cell_i, arrV_size]), congrArg Nat.toInt32 (by rw [vp_cell_i, arrV_size]), fun j hj => ?_, hs⟩⟩
  rw [vp_cell_i, arrV_read _ _ hj]
def zDg (v : Nat) : List Int := if v < 10 then [48 + ((v % 10 : Nat) : Int)] else [48 + ((v / 10 : Nat) : Int), 48 + ((v % 10 : Nat) : Int)]
theorem zDg_len (v : Nat) : (zDg v).length = tdl v := by
  unfold zDg tdl
  split <;> rfl
theorem zDg_at {v j : Nat} {y : Int} (h : (zDg v)[j]? = some y) : y = ((tdg v j : Nat) : Int) := by
  unfold zDg at h
  unfold tdg
  split at h
  · next h8 =>
    rw [if_pos h8]
    match j, h with
    | 0, h => cases h; omega
  · next h8 =>
    rw [if_neg h8]
    match j, h with
    | 0, h => cases h; rw [if_pos rfl]; omega
    | 1, h => cases h; rw [if_neg (by decide)]; omega
theorem mo_Lapp {cs ds : List Int} {f g f2 : Nat → Int32} (h1 : mo_L cs f) (h2 : mo_L ds g) (hf : sb_Fit f2) (e1 : ∀ j, j < cs.length → f2 j = f j) (e2 : ∀ j, j < ds.length → f2 (cs.length + j) = g j) : mo_L (cs ++ ds) f2 := by
  refine ⟨hf, fun j v h => ?_⟩
  by_cases hj : j < cs.length
  · rw [List.getElem?_append_left hj] at h
    rw [e1 j hj]
    exact h1.2 j v h
  · rw [List.getElem?_append_right (by omega)] at h
    have hl := (List.getElem?_eq_some_iff.mp h).1
    have h9 := e2 (j - cs.length) hl
    rw [show cs.length + (j - cs.length) = j by omega] at h9
    rw [h9]
    exact h2.2 _ v h
section OPS
variable {z : Nat} {kad0 kad sec : Nat → Nat} {dC : Nat → ClassId} {dI : Nat → Nat → Nat} {cA : Nat → ClassId} {L : Nat} {xs : Nat → Int32}
variable {p : Program} {l : Launch} {e : Env} {R : Room} {s0 s : State} {m : MethodId} {args : Array Value} {below : List Frame} {meth : Method} {c : Code} {Q : State → Prop} {D : va_G} {cB : ClassId} {d1 d2 : Nat} {ka kv : Nat → Nat}
variable {pc pc' nx a b w : Nat} {ls ls' : mv_V} {st st' : List Value} {σ σ' : mv_S} {τ : mo_S}
theorem mo_env (hG : mo_G z kad0 dC dI cA L xs p s0 m args meth c D cB d1 d2 ka kv) (hB : mo_Bs z s0 s) : tG d1 d2 (fun q => z ≤ q) s s.heap ∧ tL (fun q => z ≤ q) s s.heap ∧ va_Zq "jdk/internal/util/Preconditions" "SIOOBE_FORMATTER" "Ljava/util/function/BiFunction;" (fun q => z ≤ q) s s.heap ∧ va_K D tcl [(cB, .byte)] s ∧
    (∀ i, i < 7 → vk_R "SluiceChainLaw" (mo_cp i) (mo_ct i) (ka i) s ∧ tR4 (ka i) (kv i) (mo_cs i).length (fun j => Int32.ofInt ((mo_cs i).getD j 0)) (fun q => z ≤ q) s s.heap) ∧ (∀ w ∈ tTS, w.before args s = true) ∧ s.vm.findClass "SluiceChainLaw" = some m.cls := by
  obtain ⟨hS, hW⟩ := mo_BsS hG hB (fun q => z ≤ q)
  have hwd := mo_Wd hG hB
  obtain ⟨g1, g2, g3, g4, g5, g6, g7, g8, g9, g10, g11, g12, g13, g14⟩ := hG
  refine ⟨tG_ok.to g11 hS (fun _ h => h) rfl hW.alike, tL_ok.to g12 hS (fun _ h => h) rfl hW.alike, (tZq_ok (C := "jdk/internal/util/Preconditions")).to g13 hS (fun _ h => h) rfl hW.alike, va_K.moved hW.alike g10, fun i hi => ?_, hwd, by rw [hB.1]; exact g6⟩
  obtain ⟨h1, h2, h3, h4, h5⟩ := g14 i hi
  exact ⟨vk_R.warm hW h1, (va_O.moved hW.alike h2).kept hS.2.1, (va_OF.moved hW.alike h3).kept hS.2.1, (va_OF.moved hW.alike h4).kept hS.2.1, (va_T.moved hW.alike h5).kept hS.2.1⟩
/-- behind a step on things -/
theorem mo_fin {τ' : mo_S} {kad' sec' : Nat → Nat} (hk' : ∀ o, o < 3000 → kad' o = kad0 o) (hB : mo_Bs z s0 s) (hR : mo_R R σ τ) (hQ : mo_Q z below s R Q) (hM : mv_Mo z kad dC dI cA σ s.heap) (h142 : σ.2.1 = 142) (hsm : mo_sm σ) (hkk : ∀ o, o < 3000 → kad' o = kad o) (hbd : mv_cc σ ≤ 500000 ∧ mv_ss σ ≤ 5000000 ∧ τ.2.1 ≤ 1500)
    {A : Nat → Prop} (hA : ∀ q, A q → z + 142 ≤ q) {H : Heap} {locs : List Loc} {cells slots : Nat} {lsA : Array Slot} (hS : va_S A s.heap H locs) (hc : cells ≤ 20) (hs : slots ≤ 1300) (hw : τ'.2.1 = τ.2.1 + 1)
    (hX : ∀ s' : State, s'.vm = s.vm → s'.heap = H → mo_X z D cB (cA 20) kad' sec' s' τ') (hl : lv_has lsA 23 (mv_lm (mv_ad z kad') ls')) (k : mo_W z kad0 dC dI cA p l e s0 m args below meth c D cB τ' pc' ls' st' σ) :
    W p l e R s m args below meth c H locs cells slots Q (F0 m pc' lsA (st'.map (mv_cv (mv_ad z kad')))) := by
  obtain ⟨r1, r2, r3, r4⟩ := hR
  have hz := mo_sz hM h142
  refine mo_re hQ (by omega) (by omega) (fun x hx => by have := hA _ (hS.2.2 x hx); omega) (fun s' hvm hH hQ' => ?_)
  subst hH
  have hM' : mv_Mo z kad' dC dI cA σ s'.heap := mo_Mo hM h142 hsm hkk (fun q hq => hS.2.1 q (by have := hq.2; omega) (fun h => by have := hA q h; have := hq.2; omega))
  refine k kad' sec' s' _ lsA Q hk' ⟨hvm.trans hB.1, Nat.le_trans hB.2.1 hS.1, fun q hq => ?_⟩ hM' (hX s' hvm rfl) hl ⟨r1, r2, ?_, ?_⟩ hQ'
  · rw [hS.2.1 q (Nat.lt_of_lt_of_le hq hB.2.1) (fun h => by have := hA q h; omega)]
    exact hB.2.2 q hq
  · show 600000 ≤ R.cells - cells + mv_cc σ + 20 * τ'.2.1
    omega
  · show 6990000 ≤ R.slots - slots + mv_ss σ + 1300 * τ'.2.1
    omega
theorem mo_dec {i : Instr} {q : Nat × Nat × Nat} (hin : mv_in k_L_law pc = some (i, nx, q)) (hw : mv_w i ≠ 0) : decode code pc = .ok (i, mv_w i) ∧ nx = pc + mv_w i := by
  obtain ⟨hok, hlen⟩ := mv_row hin
  obtain ⟨a, b, w⟩ := q
  have h := mv_dec (mv_okd hok) hlen hw
  rw [mi_law] at h
  exact h
theorem mo_ad {i : Nat} : mv_ad z kad (3000 + i) = kad (3000 + i) := if_neg (by omega)
theorem mo_cats {st : List Value} (ad : Nat → Nat) : ((st.map (mv_cv ad)).map (fun v => v.category)).sum = (st.map (fun v => v.category)).sum := by
  rw [List.map_map]
  exact congrArg List.sum (List.map_congr_left (fun v _ => mv_cv_cat ad v))
theorem mo_upn_lt {f : Nat → Nat} {i v n : Nat} (h : n ≤ i) : ∀ o, o < n → mv_upn f i v o = f o := fun o ho => if_neg (by omega)
/-- new StringBuilder -/
theorem mo_new (hG : mo_G z kad0 dC dI cA L xs p s0 m args meth c D cB d1 d2 ka kv) (hin : mv_in k_L_law pc = some (.new 137, nx, a, b, w)) (h142 : σ.2.1 = 142) (hsm : mo_sm σ) (hbd : mv_cc σ ≤ 500000 ∧ mv_ss σ ≤ 5000000 ∧ τ.2.1 ≤ 1500)
    (hls : ∀ q ∈ ls, mo_rf (3000 + τ.1) q.2) (hst : ∀ v ∈ st, mo_rf (3000 + τ.1) v)
    (k : mo_W z kad0 dC dI cA p l e s0 m args below meth c D cB (τ.1 + 1, τ.2.1 + 1, mo_up τ.2.2 τ.1 (.inr (.inr (.inr ())))) nx ls (.ref (3000 + τ.1) :: st) σ) : mo_W z kad0 dC dI cA p l e s0 m args below meth c D cB τ pc ls st σ := by
  intro kad sec s R lsA Q hk hB hM hX hl hR hQ
  obtain ⟨hE1, hE2, hE3, hK, hE5, hT, hown⟩ := mo_env hG hB
  obtain ⟨hd, rfl⟩ := mo_dec hin (Nat.succ_ne_zero _)
  obtain ⟨r1, r2, r3, r4⟩ := id hR
  have hz := mo_sz hM h142
  have hS : va_S (fun q => s.heap.size ≤ q) s.heap s.heap [] := va_S.rf
  refine va_new (D := D) (cl := tcl) (tys := [(cB, .byte)]) (ws := []) (A := fun q => s.heap.size ≤ q) hG.1 hG.2.1 hT tinJ4 tyJ4 tyJ4_ok hown (hT _ wz_11) (hT _ wz_12) (hT _ wq_91) hK (fun k q h => by cases h) ⟨fun i j p q h => by simp at h, fun k q h => by simp at h⟩ hS (fun q h => h) (ci := 0) rfl (fs := [.null, .int 0, .int 0, .int 0]) (fun j hj => ?_) (show 0 + 1 ≤ R.cells by omega) (show 0 + 4 ≤ R.slots by omega) hd (fun q H hP hD hS1 => ?_)
  · rcases (by omega : j = 0 ∨ j = 1 ∨ j = 2 ∨ j = 3) with rfl | rfl | rfl | rfl <;> rfl
  have hq : s.heap.size ≤ q := hD.2 0 _ rfl
  have e1 : mv_upn kad (3000 + τ.1) q (3000 + τ.1) = q := if_pos rfl
  have k9 := mo_fin (kad' := mv_upn kad (3000 + τ.1) q) (sec' := mv_upn sec τ.1 q) (st' := .ref (3000 + τ.1) :: st) (lsA := lsA) (ls' := ls) (fun o ho => (mo_upn_lt (by omega) o ho).trans (hk o ho)) hB hR hQ hM h142 hsm (fun o ho => mo_upn_lt (by omega) o ho) hbd (fun q h => Nat.le_trans hz h) hS1 (by omega : 0 + 1 ≤ 20) (by omega : 0 + 4 ≤ 1300) rfl
    (fun s' hvm hH => mo_X_push (t := .inr (.inr (.inr ()))) hX hz (mo_X_old hX (by rw [hvm]; exact Vm.Alike.refl _) (fun x hx _ => by rw [hH]; exact hS1.2.1 x hx (Nat.not_le.mpr hx))) ⟨rfl, by rw [hH]; exact hP⟩ (Or.inl ⟨hq, hq⟩)) (by rw [mo_lm hls (mo_upn_lt (Nat.le_refl _))]; exact hl) k
  rw [List.map_cons, mo_sl hst (mo_upn_lt (Nat.le_refl _))] at k9
  have e2 : mv_cv (mv_ad z (mv_upn kad (3000 + τ.1) q)) (.ref (3000 + τ.1)) = .ref q := by
    show Value.ref (mv_ad z _ (3000 + τ.1)) = _
    rw [mo_ad, e1]
  rw [e2] at k9
  exact k9
/-- a String constant -/
theorem mo_ldc (hG : mo_G z kad0 dC dI cA L xs p s0 m args meth c D cB d1 d2 ka kv) {i : Nat} (hi : i < 7) (hin : mv_in k_L_law pc = some (.ldc (mo_cp i), nx, a, b, w)) (h142 : σ.2.1 = 142) (hsm : mo_sm σ) (hbd : mv_cc σ ≤ 500000 ∧ mv_ss σ ≤ 5000000 ∧ τ.2.1 ≤ 1500)
    (hls : ∀ q ∈ ls, mo_rf (3000 + τ.1) q.2) (hst : ∀ v ∈ st, mo_rf (3000 + τ.1) v)
    (k : mo_W z kad0 dC dI cA p l e s0 m args below meth c D cB (τ.1 + 1, τ.2.1 + 1, mo_up τ.2.2 τ.1 (.inl (mo_cs i))) nx ls (.ref (3000 + τ.1) :: st) σ) : mo_W z kad0 dC dI cA p l e s0 m args below meth c D cB τ pc ls st σ := by
  intro kad sec s R lsA Q hk hB hM hX hl hR hQ
  obtain ⟨hE1, hE2, hE3, hK, hE5, hT, hown⟩ := mo_env hG hB
  obtain ⟨hd, rfl⟩ := mo_dec hin (Nat.succ_ne_zero _)
  have hz := mo_sz hM h142
  obtain ⟨hv, hf4⟩ := hE5 i hi
  have hS : va_S (fun q => s.heap.size ≤ q) s.heap s.heap [] := va_S.rf
  refine va_ldcS hG.1 hG.2.1 hown hv hd ?_
  have hlt : ka i < z ∧ kv i < z := ⟨Nat.not_le.mp hf4.1.choose_spec.2.2.2, Nat.not_le.mp (va_T.out hf4.2.2.2)⟩
  have e1 : mv_upn kad (3000 + τ.1) (ka i) (3000 + τ.1) = ka i := if_pos rfl
  have hO : mo_O D cB (cA 20) s s.heap (ka i) (kv i) (.inl (mo_cs i)) := by
    refine ⟨_, ?_, mo_csL i⟩
    obtain ⟨f1, f2, f3, f4⟩ := hf4
    exact ⟨f1.any (fun h => h.1 rfl), f2.any (fun h => h.1 rfl), f3.any (fun h => h.1 rfl), f4.any (fun h => h.2 rfl)⟩
  have k9 := mo_fin (kad' := mv_upn kad (3000 + τ.1) (ka i)) (sec' := mv_upn sec τ.1 (kv i)) (st' := .ref (3000 + τ.1) :: st) (lsA := lsA) (ls' := ls) (fun o ho => (mo_upn_lt (by omega) o ho).trans (hk o ho)) hB hR hQ hM h142 hsm (fun o ho => mo_upn_lt (by omega) o ho) hbd (fun q h => Nat.le_trans hz h) hS (by omega : 0 ≤ 20) (by omega : 0 ≤ 1300) rfl
    (fun s' hvm hH => mo_X_push (t := .inl (mo_cs i)) hX hz (mo_X_old hX (by rw [hvm]; exact Vm.Alike.refl _) (fun x hx _ => by rw [hH])) (mo_O_kept hO (by rw [hvm]; exact Vm.Alike.refl _) (by rw [hH]) (by rw [hH])) (Or.inr ⟨rfl, hlt⟩)) (by rw [mo_lm hls (mo_upn_lt (Nat.le_refl _))]; exact hl) k
  rw [List.map_cons, mo_sl hst (mo_upn_lt (Nat.le_refl _))] at k9
  have e2 : mv_cv (mv_ad z (mv_upn kad (3000 + τ.1) (ka i))) (.ref (3000 + τ.1)) = .ref (ka i) := by
    show Value.ref (mv_ad z _ (3000 + τ.1)) = _
    rw [mo_ad, e1]
  rw [e2] at k9
  exact k9
/-- its constructor -/
theorem mo_init (hG : mo_G z kad0 dC dI cA L xs p s0 m args meth c D cB d1 d2 ka kv) (hin : mv_in k_L_law pc = some (.invokespecial 139, nx, a, b, w)) (h142 : σ.2.1 = 142) (hsm : mo_sm σ) (hbd : mv_cc σ ≤ 500000 ∧ mv_ss σ ≤ 5000000 ∧ τ.2.1 ≤ 1500)
    {ib : Nat} (hib : ib < τ.1) (hb9 : τ.2.2 ib = .inr (.inr (.inr ()))) (hcat : (st.map (fun v => v.category)).sum ≤ 8)
    (k : mo_W z kad0 dC dI cA p l e s0 m args below meth c D cB (τ.1, τ.2.1 + 1, mo_up τ.2.2 ib (.inr (.inl []))) nx ls st σ) : mo_W z kad0 dC dI cA p l e s0 m args below meth c D cB τ pc ls (.ref (3000 + ib) :: st) σ := by
  intro kad sec s R lsA Q hk hB hM hX hl hR hQ
  obtain ⟨hE1, hE2, hE3, hK, hE5, hT, hown⟩ := mo_env hG hB
  obtain ⟨hd, rfl⟩ := mo_dec hin (Nat.succ_ne_zero _)
  obtain ⟨r1, r2, r3, r4⟩ := id hR
  have hz := mo_sz hM h142
  have hml : c.maxLocals = 23 := hG.2.2.1
  obtain ⟨⟨x1, x2, x3⟩, x4⟩ := hX ib hib
  rw [hb9] at x1 x4
  obtain ⟨hsec, hP⟩ := x1
  obtain ⟨⟨x5, -⟩, x6⟩ := x4 rfl
  obtain ⟨hlt, -⟩ := mo_O_lt (D := D) (cB := cB) (cI := cA 20) (U := s) (t := .inr (.inr (.inr ()))) (H := s.heap) ⟨hsec, hP⟩
  have hS : va_S (fun q => q = kad (3000 + ib) ∨ s.heap.size ≤ q) s.heap s.heap [] := va_S.rf
  have hD : va_D (fun q => q = kad (3000 + ib) ∨ s.heap.size ≤ q) [(kad (3000 + ib), tN)] := ⟨fun i j p q h1 h2 _ => by have := (List.getElem?_eq_some_iff.mp h1).1; have := (List.getElem?_eq_some_iff.mp h2).1; simp at *; omega, fun k q h => by have := (List.getElem?_eq_some_iff.mp h).1; simp at this; subst this; cases h; exact Or.inl rfl⟩
  have hE : tC (fun q => q = kad (3000 + ib) ∨ s.heap.size ≤ q) s s.heap := tC_ok.narrow hE1.1 (fun q h => by show z ≤ q; omega)
  have hts : ∀ w ∈ (Cond.initialized "java/lang/String" :: tTS), w.before args s = true := fun w h => by
    rcases List.mem_cons.mp h with rfl | h
    · exact hT _ wq_35
    · exact hT w h
  have hT : ∀ {w : Cond}, w ∈ tTS → w.before args s = true := fun h => hT _ h
  have hFc := va_free (wc := [(kad (3000 + ib), tN)]) hD hS (fun q h => Or.inr h) [0] rfl
  have e0 : (Value.ref (3000 + ib) :: st).map (mv_cv (mv_ad z kad)) = .ref (kad (3000 + ib)) :: st.map (mv_cv (mv_ad z kad)) := by
    rw [List.map_cons]
    show Value.ref (mv_ad z kad (3000 + ib)) :: _ = _
    rw [mo_ad]
  rw [e0]
  refine va_callv (va_runI (As := []) (rest := st.map (mv_cv (mv_ad z kad))) ⟨hG.1, hG.2.1, hml, hown, hts⟩ (cq_bin l s.heap D cB (kad (3000 + ib))) ((cwI 0 hts (tgood wj_bin) rfl rfl rfl (hT wq_91) (hT wz_0) (hT wz_1) rfl (by decide +kernel) ⟨Nat.le_trans (Nat.le_of_ble_eq_true rfl) r1, Nat.le_trans (Nat.le_of_ble_eq_true rfl) r2⟩)) ⟨tBlind tC_ok, fun U hU hW => ⟨rfl, tPre (wc := [(kad (3000 + ib), tN)]) tC_ok hP hK hD hE hS [0] rfl rfl rfl hFc U hU hW⟩⟩ rfl rfl hl.1 rfl (lv_room (by rw [mo_cats]; exact hcat)) hd ⟨(show 0 + 1 ≤ R.cells by omega), (show 0 + 16 ≤ R.slots by omega)⟩) hS (fun q _ h => hFc q h) hFc (fun u t H1 locs1 ht hvm hw hB1 hz1 hk1 hS1 => ?_)
  obtain ⟨hP1, hK1, hD1⟩ := hB1
  rw [ht] at hP1
  have hu : s.heap.size ≤ u := by
    rcases hD1.2 1 _ rfl with ⟨k9, e9, h9⟩ | h9
    · exfalso
      have := (List.getElem?_eq_some_iff.mp h9).1
      simp at this
      subst this
      cases h9
      exact absurd (hD1.1 0 1 _ _ rfl rfl rfl) (by decide)
    · exact h9
  exact mo_fin (kad' := kad) (sec' := mv_upn sec ib u) (st' := st) (lsA := lsA) (ls' := ls) hk hB hR hQ hM h142 hsm (fun o ho => rfl) hbd (fun q h => by omega) hS1 (by omega : 0 + 1 ≤ 20) (by omega : 0 + 16 ≤ 1300) rfl
    (fun s' hvm hH => mo_X_set (t := .inr (.inl [])) hX (by rw [hvm]; exact Vm.Alike.refl _) hz hib (by rw [hb9]; rfl) (fun q h1 h2 h3 => by rw [hH]; exact hS1.2.1 q h1 (fun h => by omega)) ⟨16, fun _ => 0, by rw [hH]; exact hP1, by omega, Nat.zero_le _, by omega, sb_fit0, fun j v h => by simp at h⟩ (Or.inr (Or.inl hu))) hl k
/-- append(String) -/
theorem mo_apps (hG : mo_G z kad0 dC dI cA L xs p s0 m args meth c D cB d1 d2 ka kv) (hin : mv_in k_L_law pc = some (.invokevirtual 140, nx, a, b, w)) (h142 : σ.2.1 = 142) (hsm : mo_sm σ) (hbd : mv_cc σ ≤ 500000 ∧ mv_ss σ ≤ 5000000 ∧ τ.2.1 ≤ 1500)
    {ib ia : Nat} {cs ds : List Int} (hib : ib < τ.1) (hb9 : τ.2.2 ib = .inr (.inl cs)) (hia : ia < τ.1) (ha9 : τ.2.2 ia = .inl ds) (hlen : cs.length + ds.length ≤ 200) (hcat : (st.map (fun v => v.category)).sum ≤ 8)
    (k : mo_W z kad0 dC dI cA p l e s0 m args below meth c D cB (τ.1, τ.2.1 + 1, mo_up τ.2.2 ib (.inr (.inl (cs ++ ds)))) nx ls (.ref (3000 + ib) :: st) σ) : mo_W z kad0 dC dI cA p l e s0 m args below meth c D cB τ pc ls (.ref (3000 + ia) :: .ref (3000 + ib) :: st) σ := by
  intro kad sec s R lsA Q hk hB hM hX hl hR hQ
  obtain ⟨hE1, hE2, hE3, hK, hE5, hT, hown⟩ := mo_env hG hB
  obtain ⟨hd, rfl⟩ := mo_dec hin (Nat.succ_ne_zero _)
  obtain ⟨r1, r2, r3, r4⟩ := id hR
  have hz := mo_sz hM h142
  have hml : c.maxLocals = 23 := hG.2.2.1
  have hiab : ia ≠ ib := fun h => by rw [h, hb9] at ha9; cases ha9
  obtain ⟨⟨x1, x2, x3⟩, x4⟩ := hX ib hib
  rw [hb9] at x1 x4
  obtain ⟨⟨x5, x5b⟩, x6⟩ := x4 rfl
  obtain ⟨hlt, hlt2⟩ := mo_O_lt x1
  obtain ⟨Lb, f, hP, hne, hnL, hL4, hLf⟩ := x1
  obtain ⟨⟨y1, y2, y3⟩, -⟩ := hX ia hia
  rw [ha9] at y1
  obtain ⟨hlt3, hlt4⟩ := mo_O_lt y1
  obtain ⟨g, ⟨t1, t2, t3, t4⟩, hLg⟩ := y1
  obtain ⟨n1, n2, n3, n4⟩ := x6 ia hia hiab
  have hA : ∀ q, (q = kad (3000 + ib) ∨ q = sec ib ∨ s.heap.size ≤ q) → z + 142 ≤ q := fun q h => by omega
  have hS : va_S (fun q => q = kad (3000 + ib) ∨ q = sec ib ∨ s.heap.size ≤ q) s.heap s.heap [] := va_S.rf
  have hD : va_D (fun q => q = kad (3000 + ib) ∨ q = sec ib ∨ s.heap.size ≤ q) (tW (kad (3000 + ib)) (sec ib) cB cs.length Lb f) := by
    refine ⟨fun i j p q h1 h2 h3 => ?_, fun k q h => ?_⟩
    · match i, j, h1, h2 with
      | 0, 0, _, _ => rfl
      | 0, 1, h1, h2 => cases h1; cases h2; exact absurd h3 hne
      | 1, 0, h1, h2 => cases h1; cases h2; exact absurd h3.symm hne
      | 1, 1, _, _ => rfl
    · match k, h with
      | 0, h => cases h; exact Or.inl rfl
      | 1, h => cases h; exact Or.inr (Or.inl rfl)
  have hE : tR (kad (3000 + ia)) (sec ia) ds.length g (fun q => q = kad (3000 + ib) ∨ q = sec ib ∨ s.heap.size ≤ q) s s.heap := by
    have u1 : ¬ (kad (3000 + ia) = kad (3000 + ib) ∨ kad (3000 + ia) = sec ib ∨ s.heap.size ≤ kad (3000 + ia)) := by omega
    have u2 : ¬ (sec ia = kad (3000 + ib) ∨ sec ia = sec ib ∨ s.heap.size ≤ sec ia) := by omega
    exact ⟨t1.any u1, t2.any u1, t3.any u1, t4.any u2, tC_ok.narrow hE1.1 (fun q h => by have := hA q h; show z ≤ q; omega), (tZq_ok (C := "jdk/internal/util/Preconditions")).narrow hE3 (fun q h => by have := hA q h; show z ≤ q; omega)⟩
  have hts : ∀ w ∈ (Cond.initialized "java/lang/String" :: tTS), w.before args s = true := fun w h => by
    rcases List.mem_cons.mp h with rfl | h
    · exact hT _ wq_35
    · exact hT w h
  have hT : ∀ {w : Cond}, w ∈ tTS → w.before args s = true := fun h => hT _ h
  have hFc := va_free (wc := tW (kad (3000 + ib)) (sec ib) cB cs.length Lb f) hD hS (fun q h => Or.inr (Or.inr h)) [0, 1] rfl
  have e0 : (Value.ref (3000 + ia) :: .ref (3000 + ib) :: st).map (mv_cv (mv_ad z kad)) = .ref (kad (3000 + ia)) :: .ref (kad (3000 + ib)) :: st.map (mv_cv (mv_ad z kad)) := by
    rw [List.map_cons, List.map_cons]
    show Value.ref (mv_ad z kad (3000 + ia)) :: Value.ref (mv_ad z kad (3000 + ib)) :: _ = _
    rw [mo_ad, mo_ad]
  rw [e0]
  refine va_callr (va_runV (As := [.ref (kad (3000 + ia))]) (rest := st.map (mv_cv (mv_ad z kad))) ⟨hG.1, hG.2.1, hml, hown, hts⟩ (cq_sps l s.heap D cB (kad (3000 + ib)) (sec ib) cs.length Lb f (kad (3000 + ia)) (sec ia) ds.length g hnL (by omega) (by omega) 1200 (by omega) hLf.1 hLg.1) (cwV 1 hts (tgj (l := [Cond.methodLink "SluiceChainLaw" 140 yj_sps, Cond.instanceMethod yj_sps, Cond.selects "java/lang/StringBuilder" yj_sps yj_sps, Cond.initialized "java/lang/StringBuilder", _]) (tm5 wz_2 wz_3 wz_4 wq_91 wj_sps)) rfl rfl rfl (by decide +kernel) ⟨Nat.le_trans (Nat.le_of_ble_eq_true rfl) r1, Nat.le_trans (Nat.le_of_ble_eq_true rfl) r2⟩) ⟨tBlind tR_ok, va_recv hK hP (ci := 0) rfl (q0 := 0) rfl, fun U hU hW => ⟨rfl, tPre (wc := tW (kad (3000 + ib)) (sec ib) cB cs.length Lb f) tR_ok hP hK hD hE hS [0, 1] rfl rfl rfl hFc U hU hW⟩⟩ rfl rfl hl.1 rfl (lv_room (by rw [mo_cats]; exact hcat)) hd ⟨(show 0 + 1 ≤ R.cells by omega), (show 0 + 1200 ≤ R.slots by omega)⟩) hS (fun q _ h => hFc q h) hFc (fun u ra t H1 locs1 ht hvm hw hB1 hz1 hk1 hS1 => ?_)
  obtain ⟨⟨dn, L2, f2⟩, rfl⟩ : ∃ y, y = u := ⟨_, rfl⟩
  obtain ⟨hra, hP1, hK1, hD1⟩ := hB1
  obtain ⟨w1, w2, w3, w4, w5⟩ := hw
  dsimp only at w1 w2 w3 w4 w5 hP1 hD1
  rw [ht] at hP1
  have hdn : dn = sec ib ∨ s.heap.size ≤ dn ∨ dn = kad (3000 + ib) := by
    rcases hD1.2 1 _ rfl with ⟨k9, e9, h9⟩ | h9
    · match k9, h9 with
      | 0, h9 => cases h9; exact Or.inr (Or.inr rfl)
      | 1, h9 => cases h9; exact Or.inl rfl
    · exact Or.inr (Or.inl h9)
  have hne2 : kad (3000 + ib) ≠ dn := fun h => absurd (hD1.1 0 1 _ _ rfl rfl h) (by decide)
  have k9 := mo_fin (kad' := kad) (sec' := mv_upn sec ib dn) (st' := .ref (3000 + ib) :: st) (lsA := lsA) (ls' := ls) hk hB hR hQ hM h142 hsm (fun o ho => rfl) hbd hA hS1 (by omega : 0 + 1 ≤ 20) (by omega : 0 + 1200 ≤ 1300) rfl
    (fun s' hvm hH => mo_X_set (t := .inr (.inl (cs ++ ds))) hX (by rw [hvm]; exact Vm.Alike.refl _) hz hib (by rw [hb9]; rfl) (fun q h1 h2 h3 => by rw [hH]; exact hS1.2.1 q h1 (fun h => by omega)) ⟨L2, f2, by rw [hH, List.length_append]; exact hP1, hne2, by rw [List.length_append]; exact w1, by omega, mo_Lapp hLf hLg w3 w4 w5⟩ hdn) hl k
  rw [List.map_cons] at k9
  have e2 : mv_cv (mv_ad z kad) (.ref (3000 + ib)) = .ref ra := by
    rw [hra]
    show Value.ref (mv_ad z kad (3000 + ib)) = _
    rw [mo_ad]
  rw [e2] at k9
  exact k9
/-- append(int), of a number below 100 -/
theorem mo_appi (hG : mo_G z kad0 dC dI cA L xs p s0 m args meth c D cB d1 d2 ka kv) (hin : mv_in k_L_law pc = some (.invokevirtual 146, nx, a, b, w)) (h142 : σ.2.1 = 142) (hsm : mo_sm σ) (hbd : mv_cc σ ≤ 500000 ∧ mv_ss σ ≤ 5000000 ∧ τ.2.1 ≤ 1500)
    {ib v : Nat} {x : Int32} {cs : List Int} (hib : ib < τ.1) (hb9 : τ.2.2 ib = .inr (.inl cs)) (hx9 : x = nI v) (hv9 : v < 100) (hlen : cs.length ≤ 190) (hcat : (st.map (fun v => v.category)).sum ≤ 8)
    (k : mo_W z kad0 dC dI cA p l e s0 m args below meth c D cB (τ.1, τ.2.1 + 1, mo_up τ.2.2 ib (.inr (.inl (cs ++ zDg v)))) nx ls (.ref (3000 + ib) :: st) σ) : mo_W z kad0 dC dI cA p l e s0 m args below meth c D cB τ pc ls (.int x :: .ref (3000 + ib) :: st) σ := by
  intro kad sec s R lsA Q hk hB hM hX hl hR hQ
  subst hx9
  obtain ⟨hE1, hE2, hE3, hK, hE5, hT, hown⟩ := mo_env hG hB
  obtain ⟨hd, rfl⟩ := mo_dec hin (Nat.succ_ne_zero _)
  obtain ⟨r1, r2, r3, r4⟩ := id hR
  have hz := mo_sz hM h142
  have hml : c.maxLocals = 23 := hG.2.2.1
  obtain ⟨⟨x1, x2, x3⟩, x4⟩ := hX ib hib
  rw [hb9] at x1 x4
  obtain ⟨⟨x5, x5b⟩, x6⟩ := x4 rfl
  obtain ⟨hlt, hlt2⟩ := mo_O_lt x1
  obtain ⟨Lb, f, hP, hne, hnL, hL4, hLf⟩ := x1
  have htd := tdl2 v
  have hA : ∀ q, (q = kad (3000 + ib) ∨ q = sec ib ∨ s.heap.size ≤ q) → z + 142 ≤ q := fun q h => by omega
  have hS : va_S (fun q => q = kad (3000 + ib) ∨ q = sec ib ∨ s.heap.size ≤ q) s.heap s.heap [] := va_S.rf
  have hD : va_D (fun q => q = kad (3000 + ib) ∨ q = sec ib ∨ s.heap.size ≤ q) (tW (kad (3000 + ib)) (sec ib) cB cs.length Lb f) := by
    refine ⟨fun i j p q h1 h2 h3 => ?_, fun k q h => ?_⟩
    · match i, j, h1, h2 with
      | 0, 0, _, _ => rfl
      | 0, 1, h1, h2 => cases h1; cases h2; exact absurd h3 hne
      | 1, 0, h1, h2 => cases h1; cases h2; exact absurd h3.symm hne
      | 1, 1, _, _ => rfl
    · match k, h with
      | 0, h => cases h; exact Or.inl rfl
      | 1, h => cases h; exact Or.inr (Or.inl rfl)
  have hE : tG d1 d2 (fun q => q = kad (3000 + ib) ∨ q = sec ib ∨ s.heap.size ≤ q) s s.heap := tG_ok.narrow hE1 (fun q h => by have := hA q h; show z ≤ q; omega)
  have hts : ∀ w ∈ (Cond.initialized "java/lang/String" :: tTS), w.before args s = true := fun w h => by
    rcases List.mem_cons.mp h with rfl | h
    · exact hT _ wq_35
    · exact hT w h
  have hT : ∀ {w : Cond}, w ∈ tTS → w.before args s = true := fun h => hT _ h
  have hFc := va_free (wc := tW (kad (3000 + ib)) (sec ib) cB cs.length Lb f) hD hS (fun q h => Or.inr (Or.inr h)) [0, 1] rfl
  have e0 : (Value.int (nI v) :: .ref (3000 + ib) :: st).map (mv_cv (mv_ad z kad)) = .int (nI v) :: .ref (kad (3000 + ib)) :: st.map (mv_cv (mv_ad z kad)) := by
    rw [List.map_cons, List.map_cons]
    show Value.int (nI v) :: Value.ref (mv_ad z kad (3000 + ib)) :: _ = _
    rw [mo_ad]
  rw [e0]
  refine va_callr (va_runV (As := [.int (nI v)]) (rest := st.map (mv_cv (mv_ad z kad))) ⟨hG.1, hG.2.1, hml, hown, hts⟩ (cq_spi l s.heap D cB (kad (3000 + ib)) (sec ib) cs.length Lb f d1 d2 v hv9 hnL (by omega) 1200 (by omega) hLf.1) (cwV 1 hts (tgj (l := [Cond.methodLink "SluiceChainLaw" 146 yj_spi, Cond.instanceMethod yj_spi, Cond.selects "java/lang/StringBuilder" yj_spi yj_spi, Cond.initialized "java/lang/StringBuilder", _]) (tm5 wz_5 wz_6 wz_7 wq_91 wj_spi)) rfl rfl rfl (by decide +kernel) ⟨Nat.le_trans (Nat.le_of_ble_eq_true rfl) r1, Nat.le_trans (Nat.le_of_ble_eq_true rfl) r2⟩) ⟨tBlind tG_ok, va_recv hK hP (ci := 0) rfl (q0 := 0) rfl, fun U hU hW => ⟨rfl, tPre (wc := tW (kad (3000 + ib)) (sec ib) cB cs.length Lb f) tG_ok hP hK hD hE hS [0, 1] rfl rfl rfl hFc U hU hW⟩⟩ rfl rfl hl.1 rfl (lv_room (by rw [mo_cats]; exact hcat)) hd ⟨(show 0 + 1 ≤ R.cells by omega), (show 0 + 1200 ≤ R.slots by omega)⟩) hS (fun q _ h => hFc q h) hFc (fun u ra t H1 locs1 ht hvm hw hB1 hz1 hk1 hS1 => ?_)
  obtain ⟨⟨dn, L2, f2⟩, rfl⟩ : ∃ y, y = u := ⟨_, rfl⟩
  obtain ⟨hra, hP1, hK1, hD1⟩ := hB1
  obtain ⟨w1, w2, w3, w4, w5⟩ := hw
  dsimp only at w1 w2 w3 w4 w5 hP1 hD1
  rw [ht] at hP1
  have hdn : dn = sec ib ∨ s.heap.size ≤ dn ∨ dn = kad (3000 + ib) := by
    rcases hD1.2 1 _ rfl with ⟨k9, e9, h9⟩ | h9
    · match k9, h9 with
      | 0, h9 => cases h9; exact Or.inr (Or.inr rfl)
      | 1, h9 => cases h9; exact Or.inl rfl
    · exact Or.inr (Or.inl h9)
  have hne2 : kad (3000 + ib) ≠ dn := fun h => absurd (hD1.1 0 1 _ _ rfl rfl h) (by decide)
  have hLd : mo_L (cs ++ zDg v) f2 := by
    refine ⟨w3, fun j y h => ?_⟩
    by_cases hj : j < cs.length
    · rw [List.getElem?_append_left hj] at h
      rw [w4 j hj]
      exact hLf.2 j y h
    · rw [List.getElem?_append_right (by omega)] at h
      have hl9 := (List.getElem?_eq_some_iff.mp h).1
      rw [zDg_len] at hl9
      have h9 := w5 (j - cs.length) hl9
      rw [show cs.length + (j - cs.length) = j by omega] at h9
      rw [h9, zDg_at h]
      rfl
  have k9 := mo_fin (kad' := kad) (sec' := mv_upn sec ib dn) (st' := .ref (3000 + ib) :: st) (lsA := lsA) (ls' := ls) hk hB hR hQ hM h142 hsm (fun o ho => rfl) hbd hA hS1 (by omega : 0 + 1 ≤ 20) (by omega : 0 + 1200 ≤ 1300) rfl
    (fun s' hvm hH => mo_X_set (t := .inr (.inl (cs ++ zDg v))) hX (by rw [hvm]; exact Vm.Alike.refl _) hz hib (by rw [hb9]; rfl) (fun q h1 h2 h3 => by rw [hH]; exact hS1.2.1 q h1 (fun h => by omega)) ⟨L2, f2, by rw [hH, List.length_append, zDg_len]; exact hP1, hne2, by rw [List.length_append, zDg_len]; exact w1, by omega, hLd⟩ hdn) hl k
  rw [List.map_cons] at k9
  have e2 : mv_cv (mv_ad z kad) (.ref (3000 + ib)) = .ref ra := by
    rw [hra]
    show Value.ref (mv_ad z kad (3000 + ib)) = _
    rw [mo_ad]
  rw [e2] at k9
  exact k9
/-- toString -/
theorem mo_tos (hG : mo_G z kad0 dC dI cA L xs p s0 m args meth c D cB d1 d2 ka kv) (hin : mv_in k_L_law pc = some (.invokevirtual 153, nx, a, b, w)) (h142 : σ.2.1 = 142) (hsm : mo_sm σ) (hbd : mv_cc σ ≤ 500000 ∧ mv_ss σ ≤ 5000000 ∧ τ.2.1 ≤ 1500)
    (hls : ∀ q ∈ ls, mo_rf (3000 + τ.1) q.2) (hst : ∀ v ∈ st, mo_rf (3000 + τ.1) v)
    {ib : Nat} {cs : List Int} (hib : ib < τ.1) (hb9 : τ.2.2 ib = .inr (.inl cs)) (hlen : cs.length ≤ 200) (hcat : (st.map (fun v => v.category)).sum ≤ 8)
    (k : mo_W z kad0 dC dI cA p l e s0 m args below meth c D cB (τ.1 + 1, τ.2.1 + 1, mo_up τ.2.2 τ.1 (.inl cs)) nx ls (.ref (3000 + τ.1) :: st) σ) : mo_W z kad0 dC dI cA p l e s0 m args below meth c D cB τ pc ls (.ref (3000 + ib) :: st) σ := by
  intro kad sec s R lsA Q hk hB hM hX hl hR hQ
  obtain ⟨hE1, hE2, hE3, hK, hE5, hT, hown⟩ := mo_env hG hB
  obtain ⟨hd, rfl⟩ := mo_dec hin (Nat.succ_ne_zero _)
  obtain ⟨r1, r2, r3, r4⟩ := id hR
  have hz := mo_sz hM h142
  have hml : c.maxLocals = 23 := hG.2.2.1
  obtain ⟨⟨x1, x2, x3⟩, x4⟩ := hX ib hib
  rw [hb9] at x1 x4
  obtain ⟨⟨x5, x5b⟩, x6⟩ := x4 rfl
  obtain ⟨hlt, hlt2⟩ := mo_O_lt x1
  obtain ⟨Lb, f, hP, hne, hnL, hL4, hLf⟩ := x1
  have hA : ∀ q, (q = kad (3000 + ib) ∨ q = sec ib ∨ s.heap.size ≤ q) → z + 142 ≤ q := fun q h => by omega
  have hS : va_S (fun q => q = kad (3000 + ib) ∨ q = sec ib ∨ s.heap.size ≤ q) s.heap s.heap [] := va_S.rf
  have hD : va_D (fun q => q = kad (3000 + ib) ∨ q = sec ib ∨ s.heap.size ≤ q) (tW (kad (3000 + ib)) (sec ib) cB cs.length Lb f) := by
    refine ⟨fun i j p q h1 h2 h3 => ?_, fun k q h => ?_⟩
    · match i, j, h1, h2 with
      | 0, 0, _, _ => rfl
      | 0, 1, h1, h2 => cases h1; cases h2; exact absurd h3 hne
      | 1, 0, h1, h2 => cases h1; cases h2; exact absurd h3.symm hne
      | 1, 1, _, _ => rfl
    · match k, h with
      | 0, h => cases h; exact Or.inl rfl
      | 1, h => cases h; exact Or.inr (Or.inl rfl)
  have hE : tK (fun q => q = kad (3000 + ib) ∨ q = sec ib ∨ s.heap.size ≤ q) s s.heap := ⟨tC_ok.narrow hE1.1 (fun q h => by have := hA q h; show z ≤ q; omega), hE2⟩
  have hT9 := hT
  have hts : ∀ w ∈ (Cond.initialized "java/lang/String" :: tTS), w.before args s = true := fun w h => by
    rcases List.mem_cons.mp h with rfl | h
    · exact hT _ wq_35
    · exact hT w h
  have hT : ∀ {w : Cond}, w ∈ tTS → w.before args s = true := fun h => hT _ h
  have hFc := va_free (wc := tW (kad (3000 + ib)) (sec ib) cB cs.length Lb f) hD hS (fun q h => Or.inr (Or.inr h)) [0, 1] rfl
  have e0 : (Value.ref (3000 + ib) :: st).map (mv_cv (mv_ad z kad)) = .ref (kad (3000 + ib)) :: st.map (mv_cv (mv_ad z kad)) := by
    rw [List.map_cons]
    show Value.ref (mv_ad z kad (3000 + ib)) :: _ = _
    rw [mo_ad]
  rw [e0]
  refine va_callr (va_runV (As := []) (rest := st.map (mv_cv (mv_ad z kad))) ⟨hG.1, hG.2.1, hml, hown, hts⟩ (cq_tos l s.heap D cB (kad (3000 + ib)) (sec ib) cs.length Lb f 200 hnL (by omega) hlen hLf.1) (cwV 0 hts (tgj (l := [Cond.methodLink "SluiceChainLaw" 153 yj_tos, Cond.instanceMethod yj_tos, Cond.selects "java/lang/StringBuilder" yj_tos yj_tos, Cond.initialized "java/lang/StringBuilder", _]) (tm5 wz_8 wz_9 wz_10 wq_91 wj_tos)) rfl rfl rfl (by decide +kernel) ⟨Nat.le_trans (Nat.le_of_ble_eq_true rfl) r1, Nat.le_trans (Nat.le_of_ble_eq_true rfl) r2⟩) ⟨tBlind tK_ok, va_recv hK hP (ci := 0) rfl (q0 := 0) rfl, fun U hU hW => ⟨rfl, tPre (wc := tW (kad (3000 + ib)) (sec ib) cB cs.length Lb f) tK_ok hP hK hD hE hS [0, 1] rfl rfl rfl hFc U hU hW⟩⟩ rfl rfl hl.1 rfl (lv_room (by rw [mo_cats]; exact hcat)) hd ⟨(show 0 + 2 ≤ R.cells by omega), (show 0 + 204 ≤ R.slots by omega)⟩) hS (fun q _ h => hFc q h) hFc (fun u ra t H1 locs1 ht hvm hw hB1 hz1 hk1 hS1 => ?_)
  obtain ⟨⟨sn, f2⟩, rfl⟩ : ∃ y, y = u := ⟨_, rfl⟩
  obtain ⟨hP1, hK1, hD1⟩ := hB1
  obtain ⟨w1, w2⟩ := hw
  dsimp only at w1 w2 hP1 hD1
  rw [ht] at hP1
  have hnew : ∀ (i : Nat) (q : Nat × va_E), i ≠ 1 → i ≠ 2 → ([(ra, tE (.ref sn)), (kad (3000 + ib), tB (sec ib) cs.length), (sec ib, tA cB Lb f), (sn, tA cB cs.length f2)] : va_W)[i]? = some q → s.heap.size ≤ q.1 := fun i q h1 h2 hq => by
    rcases hD1.2 i q hq with ⟨k9, e9, h9⟩ | h9
    · exfalso
      match k9, h9 with
      | 0, h9 => exact h1 (hD1.1 i 1 q _ hq rfl (congrArg Prod.fst (Option.some.inj h9)).symm)
      | 1, h9 => exact h2 (hD1.1 i 2 q _ hq rfl (congrArg Prod.fst (Option.some.inj h9)).symm)
    · exact h9
  have hra : s.heap.size ≤ ra := hnew 0 _ (by decide) (by decide) rfl
  have hsn : s.heap.size ≤ sn := hnew 3 _ (by decide) (by decide) rfl
  have hP2 := hP1.sub (ws' := tW (kad (3000 + ib)) (sec ib) cB cs.length Lb f) [1, 2] rfl
  have hP3 := hP1.sub (ws' := [(ra, tE (.ref sn)), (sn, tA cB cs.length f2)]) [0, 3] rfl
  have e1 : mv_upn kad (3000 + τ.1) ra (3000 + τ.1) = ra := if_pos rfl
  have k9 := mo_fin (kad' := mv_upn kad (3000 + τ.1) ra) (sec' := mv_upn sec τ.1 sn) (st' := .ref (3000 + τ.1) :: st) (lsA := lsA) (ls' := ls) (fun o ho => (mo_upn_lt (by omega) o ho).trans (hk o ho)) hB hR hQ hM h142 hsm (fun o ho => mo_upn_lt (by omega) o ho) hbd hA hS1 (by omega : 0 + 2 ≤ 20) (by omega : 0 + 204 ≤ 1300) rfl
    (fun s' hvm hH => mo_X_push (t := .inl cs) hX hz (fun i hi => by
      by_cases hie : i = ib
      · subst hie
        rw [hb9]
        exact ⟨Lb, f, by rw [hH]; exact hP2, hne, hnL, hL4, hLf⟩
      · obtain ⟨⟨d1, d2, d3⟩, d4⟩ := hX i hi
        obtain ⟨m1, m2⟩ := mo_O_lt d1
        obtain ⟨c1, c2, c3, c4⟩ := x6 i hi hie
        exact mo_O_kept d1 (by rw [hvm]; exact Vm.Alike.refl _) (by rw [hH]; exact hS1.2.1 _ m1 (fun h => by omega)) (by rw [hH]; exact hS1.2.1 _ m2 (fun h => by omega)))
      ⟨f2, by rw [hH]; exact tR4_of (args := args) (fun w hw => word_at (by rw [hvm]; exact State.WarmedH.refl s) (good_of_word (tTS_good hw)) (hT9 w hw)) hP3 (va_K.moved (by rw [hvm]; exact Vm.Alike.refl _) hK) (fun h => h.1 rfl) (fun h => h.2 rfl), w1, fun j y h => (w2 j (List.getElem?_eq_some_iff.mp h).1).trans (hLf.2 j y h)⟩ (Or.inl ⟨hra, hsn⟩)) (by rw [mo_lm hls (mo_upn_lt (Nat.le_refl _))]; exact hl) k
  rw [List.map_cons, mo_sl hst (mo_upn_lt (Nat.le_refl _))] at k9
  have e2 : mv_cv (mv_ad z (mv_upn kad (3000 + τ.1) ra)) (.ref (3000 + τ.1)) = .ref ra := by
    show Value.ref (mv_ad z _ (3000 + τ.1)) = _
    rw [mo_ad, e1]
  rw [e2] at k9
  exact k9
end OPS

