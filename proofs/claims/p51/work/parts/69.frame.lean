/-! THE LAW'S FRAME, SEEN ANEW AFTER EACH STEP -/
theorem nh_law : mv_nh k_L_law = true := by decide +kernel
set_option maxRecDepth 100000 in
theorem mi_law : mv_mi k_L_law = (code, (⟨"SluiceChainLaw", "law", "([I)Z"⟩ : MethodName), 23, some .boolean, 0, 0, 0, 0, 0) := rfl
/-- the law's own String constants -/
def mo_cp (i : Nat) : Nat := match i with | 0 => 111 | 1 => 144 | 2 => 149 | 3 => 151 | 4 => 157 | 5 => 159 | _ => 176
def mo_ct (i : Nat) : String := match i with | 0 => "" | 1 => " " | 2 => "/" | 3 => "|" | 4 => ":" | 5 => "~" | _ => ","
def mo_cs (i : Nat) : List Int := match i with | 0 => [] | 1 => [32] | 2 => [47] | 3 => [124] | 4 => [58] | 5 => [126] | _ => [44]
def mo_G (z : Nat) (kad0 : Nat → Nat) (dC : Nat → ClassId) (dI : Nat → Nat → Nat) (cA : Nat → ClassId) (L : Nat) (xs : Nat → Int32) (p : Program) (s0 : State) (m : MethodId) (args : Array Value) (meth : Method) (c : Code) (D : va_G) (cB : ClassId) (d1 d2 : Nat) (ka kv : Nat → Nat) : Prop :=
  p.tables.exec = Jvm.exec ∧ c.code = code ∧ c.maxLocals = 23 ∧ meth.sig.returnType = some .boolean ∧ meth.locks = false ∧ s0.vm.findClass "SluiceChainLaw" = some m.cls ∧ (∀ w ∈ tTS, w.before args s0 = true) ∧ mv_En z kad0 dC dI cA L xs s0 ∧ z = s0.heap.size ∧
  va_K D tcl [(cB, .byte)] s0 ∧ tG d1 d2 (fun q => z ≤ q) s0 s0.heap ∧ tL (fun q => z ≤ q) s0 s0.heap ∧ va_Zq "jdk/internal/util/Preconditions" "SIOOBE_FORMATTER" "Ljava/util/function/BiFunction;" (fun q => z ≤ q) s0 s0.heap ∧
  ∀ i, i < 7 → vk_R "SluiceChainLaw" (mo_cp i) (mo_ct i) (ka i) s0 ∧ tR4 (ka i) (kv i) (mo_cs i).length (fun j => Int32.ofInt ((mo_cs i).getD j 0)) (fun q => z ≤ q) s0 s0.heap
def mo_Bs (z : Nat) (s0 s : State) : Prop := s.vm = s0.vm ∧ z ≤ s.heap.size ∧ ∀ q, q < z → s.heap[q]? = s0.heap[q]?
def mo_R (R : Room) (σ : mv_S) (τ : mo_S) : Prop := 60 ≤ R.frames ∧ 4000 ≤ R.locals ∧ 600000 ≤ R.cells + mv_cc σ + 20 * τ.2.1 ∧ 6990000 ≤ R.slots + mv_ss σ + 1300 * τ.2.1
def mo_Q (z : Nat) (below : List Frame) (s : State) (R : Room) (Q : State → Prop) : Prop := ∀ (t : State) (Lc : List Loc), t.status = .running → Ended t below (.returned (some (.int 1))) → s.WarmedH t.vm → s.sameButNew ({ t with vm := s.vm } : State) Lc R.cells R.slots → (∀ x ∈ Lc, z ≤ x.base) → Q t
/-- at pc, with these objects and these things, the walk comes to its end -/
def mo_W (z : Nat) (kad0 : Nat → Nat) (dC : Nat → ClassId) (dI : Nat → Nat → Nat) (cA : Nat → ClassId) (p : Program) (l : Launch) (e : Env) (s0 : State) (m : MethodId) (args : Array Value) (below : List Frame) (meth : Method) (c : Code) (D : va_G) (cB : ClassId) (τ : mo_S) (pc : Nat) (ls : mv_V) (st : List Value) (σ : mv_S) : Prop :=
  ∀ (kad sec : Nat → Nat) (s : State) (R : Room) (lsA : Array Slot) (Q : State → Prop), (∀ o, o < 3000 → kad o = kad0 o) → mo_Bs z s0 s → mv_Mo z kad dC dI cA σ s.heap → mo_X z D cB (cA 20) kad sec s τ → lv_has lsA 23 (mv_lm (mv_ad z kad) ls) → mo_R R σ τ → mo_Q z below s R Q →
    W p l e R s m args below meth c s.heap [] 0 0 Q (F0 m pc lsA (st.map (mv_cv (mv_ad z kad))))
section MOF
variable {z : Nat} {kad0 kad sec : Nat → Nat} {dC : Nat → ClassId} {dI : Nat → Nat → Nat} {cA : Nat → ClassId} {L : Nat} {xs : Nat → Int32}
variable {p : Program} {l : Launch} {e : Env} {R : Room} {s0 s : State} {m : MethodId} {args : Array Value} {below : List Frame} {meth : Method} {c : Code} {Q : State → Prop} {D : va_G} {cB : ClassId} {d1 d2 : Nat} {ka kv : Nat → Nat}
variable {pc pc' nx a b w : Nat} {ls ls' : mv_V} {st st' : List Value} {σ σ' : mv_S} {τ : mo_S}
theorem mo_re {H : Heap} {locs : List Loc} {cells slots : Nat} {g : JFrame} (hQ : mo_Q z below s R Q) (hc : cells ≤ R.cells) (hs : slots ≤ R.slots) (hl : ∀ x ∈ locs, z ≤ x.base)
    (k : ∀ s' : State, s'.vm = s.vm → s'.heap = H → mo_Q z below s' { frames := R.frames, locals := R.locals, cells := R.cells - cells, slots := R.slots - slots } Q → W p l e { frames := R.frames, locals := R.locals, cells := R.cells - cells, slots := R.slots - slots } s' m args below meth c H [] 0 0 Q g) : W p l e R s m args below meth c H locs cells slots Q g := by
  intro T hT X
  have X' := vx_rebase X (R' := { frames := R.frames, locals := R.locals, cells := R.cells - cells, slots := R.slots - slots }) (Nat.le_refl _) (Nat.le_refl _) (by show cells + (R.cells - cells) ≤ R.cells; omega) (by show slots + (R.slots - slots) ≤ R.slots; omega)
  obtain ⟨s', hA⟩ : ∃ y, y = (T.setVm s.vm).setFrames (.invoking m args :: below) := ⟨_, rfl⟩
  rw [← hA] at X'
  have hvm : s'.vm = s.vm := by rw [hA]; rfl
  refine k s' hvm (by rw [hA]; exact hT) (fun t Lc hrun hend hW hsame hL => ?_) T hT X'
  refine hQ t (locs ++ Lc) hrun hend (State.WarmedH.trans (by rw [hvm]; exact State.WarmedH.refl s) hW) ?_ (fun x hx => ?_)
  · subst hA
    obtain ⟨e1, e2⟩ := hsame
    rw [State.setFrames_setFrames] at e1
    have h2 : (T.setVm s.vm).sameButNew ({ t with vm := s.vm } : State) Lc (R.cells - cells) (R.slots - slots) := ⟨e1, e2⟩
    have h3 := X.same.trans h2
    exact h3.mono (by omega) (by omega)
  · rcases List.mem_append.mp hx with h | h
    · exact hl x h
    · exact hL x h
theorem mo_En (hk : ∀ o, o < 3000 → kad o = kad0 o) (h : mv_En z kad0 dC dI cA L xs s) : mv_En z kad dC dI cA L xs s := by
  obtain ⟨h1, h2, h3, h4, h5, h7, ⟨h8, h9, h10⟩, h12, h13, h14, h16, h17⟩ := h
  refine ⟨h1, h2, fun a ha => ?_, fun i hi => ?_, fun i j hi hj => ?_, ?_, ⟨h8, ?_, ?_⟩, h12, h13, h14, h16, h17⟩
  · have ha9 : a < 3000 := by
      simp only [List.mem_cons, List.not_mem_nil, or_false] at ha
      omega
    rw [hk a ha9]
    exact h3 a ha
  · rw [hk _ (by omega)]
    exact h4 i hi
  · rw [hk _ (by omega), hk _ (by omega)]
    exact h5 i j hi hj
  · rw [hk _ (by omega)]
    exact h7
  · rw [hk _ (by omega)]
    exact h9
  · rw [hk _ (by omega)]
    exact h10
theorem mo_BsS (hG : mo_G z kad0 dC dI cA L xs p s0 m args meth c D cB d1 d2 ka kv) (hB : mo_Bs z s0 s) (A : Nat → Prop) : va_S A s0.heap s.heap [] ∧ s0.WarmedH s.vm := by
  obtain ⟨h1, h2, h3⟩ := hB
  obtain ⟨-, -, -, -, -, -, -, -, hz, -⟩ := hG
  refine ⟨⟨by omega, fun q hq _ => h3 q (by omega), fun x hx => by cases hx⟩, ?_⟩
  rw [h1]
  exact State.WarmedH.refl s0
theorem mo_Fx (hG : mo_G z kad0 dC dI cA L xs p s0 m args meth c D cB d1 d2 ka kv) (hk : ∀ o, o < 3000 → kad o = kad0 o) (hB : mo_Bs z s0 s) (hR : mo_R R σ τ) : mv_Fx z kad dC dI cA L xs p R s m args meth c k_L_law := by
  obtain ⟨hS, hW⟩ := mo_BsS hG hB (mv_A1 z)
  obtain ⟨g1, g2, g3, g4, g5, g6, g7, g8, g9, -⟩ := hG
  refine ⟨g1, by rw [mi_law]; exact g2, by rw [mi_law]; exact g3, by rw [mi_law, hB.1]; exact g6, fun w hw => mv_pay (fun w hw => g7 w (tTS_of hw)) w hw args s hW, mv_En_to (mo_En hk g8) hW hS rfl, fun h => by rw [mi_law] at h; exact absurd h (by decide), by have := hR.1; omega, by have := hR.2.1; omega⟩
theorem mo_Wd (hG : mo_G z kad0 dC dI cA L xs p s0 m args meth c D cB d1 d2 ka kv) (hB : mo_Bs z s0 s) : ∀ w ∈ tTS, w.before args s = true := fun w hw => by
  obtain ⟨hS, hW⟩ := mo_BsS hG hB (mv_A1 z)
  obtain ⟨g1, g2, g3, g4, g5, g6, g7, -⟩ := hG
  exact word_at hW (good_of_word (tTS_good hw)) (g7 w hw)
theorem mo_next (hG : mo_G z kad0 dC dI cA L xs p s0 m args meth c D cB d1 d2 ka kv) (hk : ∀ o, o < 3000 → kad o = kad0 o) (hB : mo_Bs z s0 s) (hX : mo_X z D cB (cA 20) kad sec s τ) (hR : mo_R R σ τ) (hQ : mo_Q z below s R Q)
    (hle : mv_cc σ ≤ mv_cc σ' ∧ mv_ss σ ≤ mv_ss σ') (hbd : mv_cc σ' ≤ 500000 ∧ mv_ss σ' ≤ 5000000 ∧ τ.2.1 ≤ 1500) (k : mo_W z kad0 dC dI cA p l e s0 m args below meth c D cB τ pc ls st σ') {H : Heap} {locs : List Loc} {cells slots : Nat} {lsA : Array Slot}
    (hM : mv_Mo z kad dC dI cA σ' H) (hS : va_S (mv_A1 z) s.heap H locs) (hl : lv_has lsA 23 (mv_lm (mv_ad z kad) ls)) (hc : cells + mv_cc σ = mv_cc σ') (hs : slots + mv_ss σ = mv_ss σ') :
    W p l e R s m args below meth c H locs cells slots Q (F0 m pc lsA (st.map (mv_cv (mv_ad z kad)))) := by
  obtain ⟨r1, r2, r3, r4⟩ := hR
  refine mo_re hQ (by omega) (by omega) (fun x hx => (hS.2.2 x hx).1) (fun s' hvm hH hQ' => ?_)
  subst hH
  refine k kad sec s' _ lsA Q hk ⟨hvm.trans hB.1, Nat.le_trans hB.2.1 hS.1, fun q hq => ?_⟩ hM (mo_X_kept hX (by rw [hvm]; exact Vm.Alike.refl _) hS.2.1) hl ⟨r1, r2, ?_, ?_⟩ hQ'
  · rw [hS.2.1 q (Nat.lt_of_lt_of_le hq hB.2.1) (fun h => absurd h.1 (Nat.not_le.mpr hq))]
    exact hB.2.2 q hq
  · show 600000 ≤ R.cells - cells + mv_cc σ' + 20 * τ.2.1
    omega
  · show 6990000 ≤ R.slots - slots + mv_ss σ' + 1300 * τ.2.1
    omega
/-- a row of the small machine -/
theorem mo_row (hG : mo_G z kad0 dC dI cA L xs p s0 m args meth c D cB d1 d2 ka kv) {r : mv_I} (hin : mv_in k_L_law pc = some r) (hs : mv_stp L xs r ls st σ = some (.inl (pc', ls', st', σ'))) (hle : mv_cc σ ≤ mv_cc σ' ∧ mv_ss σ ≤ mv_ss σ') (hbd : mv_cc σ' ≤ 500000 ∧ mv_ss σ' ≤ 5000000 ∧ τ.2.1 ≤ 1500)
    (k : mo_W z kad0 dC dI cA p l e s0 m args below meth c D cB τ pc' ls' st' σ') : mo_W z kad0 dC dI cA p l e s0 m args below meth c D cB τ pc ls st σ := by
  intro kad sec s R lsA Q hk hB hM hX hl hR hQ
  have hF := mo_Fx hG hk hB hR
  have hml : c.maxLocals = 23 := hG.2.2.1
  obtain ⟨r1, r2, r3, r4⟩ := id hR
  refine mv_step (c0 := mv_cc σ) (s0 := mv_ss σ) (Q := Q) hF hin hs ⟨by omega, by omega⟩ ?_ s.heap [] 0 0 lsA hM va_S.rf (by rw [hml]; exact hl) (Nat.zero_add _) (Nat.zero_add _)
  intro H locs cells slots lsA' hM' hS' hl' hc hsl
  rw [hml] at hl'
  exact mo_next hG hk hB hX hR hQ hle hbd k hM' hS' hl' hc hsl
/-- a call that returns -/
theorem mo_call (hG : mo_G z kad0 dC dI cA L xs p s0 m args meth c D cB d1 d2 ka kv) (hlt : l.stackTraces = false) {r : mv_I} (hin : mv_in k_L_law pc = some r) {M' d : Nat} {as rest : List Value} (hs : mv_stp L xs r ls st σ = some (.inr (.inr (M', as, rest)))) (hd : d ≤ 30) {v : Option Value} (hcl : mv_cl L xs d M' as σ = some (.inl v, σ')) (hbd : mv_cc σ' ≤ 500000 ∧ mv_ss σ' ≤ 5000000 ∧ τ.2.1 ≤ 1500)
    (k : mo_W z kad0 dC dI cA p l e s0 m args below meth c D cB τ r.2.1 ls (v.toList ++ rest) σ') : mo_W z kad0 dC dI cA p l e s0 m args below meth c D cB τ pc ls st σ := by
  intro kad sec s R lsA Q hk hB hM hX hl hR hQ
  have hF := mo_Fx hG hk hB hR
  have hml : c.maxLocals = 23 := hG.2.2.1
  obtain ⟨r1, r2, r3, r4⟩ := id hR
  have hr : mv_room d R := ⟨by omega, by omega⟩
  have hCt := mv_sound (z := z) (kad := kad) (dC := dC) (dI := dI) (cA := cA) hlt d M' as σ _ (mv_call_as hin hs) hcl
  have hlec := mv_le_c (mv_cl_mono (L := L) (xs := xs) d M' as σ _ hcl)
  have hlec : mv_cc σ ≤ mv_cc σ' ∧ mv_ss σ ≤ mv_ss σ' := hlec
  have hl0 : lv_has lsA c.maxLocals (mv_lm (mv_ad z kad) ls) := by rw [hml]; exact hl
  have hf : 0 + (mv_cc σ' - mv_cc σ) ≤ R.cells ∧ 0 + (mv_ss σ' - mv_ss σ) ≤ R.slots := by omega
  have hnx : r.2.1 = pc + 3 := by
    obtain ⟨i, nx, a, b, w, ⟨rfl, -⟩ | ⟨rfl, -⟩ | ⟨rfl, -⟩⟩ := mv_call_inv hs <;>
      (obtain ⟨hok, hlen⟩ := mv_row hin; obtain ⟨-, e9⟩ := mv_dec (mv_okd hok) hlen (Nat.succ_ne_zero _); exact e9)
  have hrun : ∃ aa, vx_Run p l e R s m args below meth c s.heap [] 0 0 (mv_cc σ' - mv_cc σ) (mv_ss σ' - mv_ss σ) (F0 m pc lsA (st.map (mv_cv (mv_ad z kad)))) (rest.map (mv_cv (mv_ad z kad))) (mv_Qc z kad dC dI cA (.inl v, σ') aa) (mv_XC z kad dC dI cA (.inl v, σ')) (mv_A1 z) := by
    obtain ⟨i, nx, a, b, w, ⟨rfl, h9⟩ | ⟨rfl, h9⟩ | ⟨rfl, h9⟩⟩ := mv_call_inv hs
    · exact mv_c_virt hF hin h9 hCt hr hM va_S.rf hl0 hf
    · exact mv_c_stat hF hin h9 hCt hr hM va_S.rf hl0 hf
    · exact mv_c_spec hF hin h9 hCt hr hM va_S.rf hl0 hf
  obtain ⟨aa, hrun⟩ := hrun
  refine mv_after (r := (.inl v, σ')) (c0 := mv_cc σ) (s0 := mv_ss σ) hrun va_S.rf hl0 (Nat.zero_add _) (Nat.zero_add _) hlec ?_ ?_
  · intro v2 hv H1 locs1 cells1 slots1 hM1 hS1 hc1 hs1
    have hv : v = v2 := Sum.inl.inj hv
    subst hv
    have k9 := mo_next hG hk hB hX hR hQ hlec hbd k hM1 hS1 hl hc1 hs1
    rw [hnx, mv_tl] at k9
    exact k9
  · intro k2 hk2
    cases hk2
/-- the law's end -/
theorem mo_ret (hG : mo_G z kad0 dC dI cA L xs p s0 m args meth c D cB d1 d2 ka kv) {r : mv_I} {v : Value} (hin : mv_in k_L_law pc = some r) (hs : mv_stp L xs r ls st σ = some (.inr (.inl (.inl (some v), σ')))) (hv : v = .int 1) : mo_W z kad0 dC dI cA p l e s0 m args below meth c D cB τ pc ls st σ := by
  intro kad sec s R lsA Q hk hB hM hX hl hR hQ
  subst hv
  obtain ⟨hok, hlen⟩ := mv_row hin
  obtain ⟨i, nx, a, b9, w⟩ := r
  have hdec := mv_okd hok
  obtain ⟨-, ⟨rfl, x9, rfl, hv2, -⟩ | ⟨-, x9, -, hv2⟩ | ⟨-, x9, -, hv2⟩ | ⟨-, x9, -, hv2⟩ | ⟨-, x9, -, hv2⟩ | ⟨-, -, hv2⟩ | ⟨-, -, hv2⟩⟩ := mv_ret_inv hs
  · obtain ⟨hd, -⟩ := mv_dec hdec hlen (Nat.succ_ne_zero _)
    have hx9 : x9 = 1 := (Value.int.inj (Option.some.inj hv2)).symm
    subst hx9
    rw [mi_law] at hd
    obtain ⟨g1, g2, g3, g4, g5, -⟩ := hG
    have hW := W.zret (p := p) (l := l) (e := e) (R := R) (s := s) (m := m) (args := args) (below := below) (locs := []) (cells := 0) (slots := 0) (v := 1) (Qc := fun _ _ o _ => o = .returned (some (.int 1))) (free := fun q => z ≤ q) (H := s.heap) (ls := lsA) g1 g2 g4 rfl (fun t ht hW => rfl) (fun q hq => by cases hq) hd g5
    intro T hT X
    obtain ⟨t, h1, o, h2, h3, h4, Lc, h5, h6⟩ := hW T hT X
    subst h4
    obtain ⟨-, h7, h8⟩ := h5
    exact ⟨t, h1, hQ t Lc h2 h3 h7 (h8.mono (Nat.zero_le _) (Nat.zero_le _)) h6⟩
  all_goals cases hv2
end MOF
