/-! WHAT THE STATEMENT GIVES OF THE START -/
def nx_C (i : Nat) : String := ["BASIN", "GATE", "AUTO", "HAND", "RAIN", "CLEAR", "POUR", "STEP"].getD i ""
def nx_F (i : Nat) : String := ["NONE", "NO_BASIN", "OUT_OF_RANGE", "WRONG_STATE"].getD i ""
def tx_C (i : Nat) : Term := .static "SluiceChain$Command" (nx_C i) "LSluiceChain$Command;"
def tx_F (i : Nat) : Term := .static "SluiceChain$Fault" (nx_F i) "LSluiceChain$Fault;"
def tx_S (i : Nat) : Term := .string "SluiceChain$Command" ([52, 58, 61, 64, 67, 70, 73, 76].getD i 0)
def tx_M : Term := .static "SluiceChain$Program" "COMMANDS" "[LSluiceChain$Command;"
def tx_W : Term := .static "SluiceChain$1" "$SwitchMap$SluiceChain$Command" "[I"
def tx_V (i : Nat) : Term := .field (tx_S i) "java/lang/String" "value" "[B"
abbrev nx_G : Cond := Cond.and given_1 narrow_1
theorem nx_1 : ∀ i, i < 8 → (flatC nx_G)[[26, 52, 61, 71, 44, 4, 82, 94].getD i 0]? = some (Cond.exactly (tx_C i) "SluiceChain$Command") := by decide +kernel
theorem nx_2 : ∀ i, i < 8 → (flatC nx_G)[[27, 53, 62, 72, 45, 5, 83, 95].getD i 0]? = some (Cond.eq (.field (tx_C i) "java/lang/Enum" "ordinal" "I") (.int (nI i))) := by decide +kernel
theorem nx_4 : ∀ i, i < 4 → (flatC nx_G)[[11, 15, 8, 20].getD i 0]? = some (Cond.exactly (tx_F i) "SluiceChain$Fault") := by decide +kernel
theorem nx_5 : ∀ i, i < 4 → (flatC nx_G)[[12, 16, 9, 21].getD i 0]? = some (Cond.eq (.field (tx_F i) "java/lang/Enum" "ordinal" "I") (.int (nI i))) := by decide +kernel
theorem nx_6 : ∀ i, i < 4 → (flatC nx_G)[[30, 57, 64, 77].getD i 0]? = some (Cond.not (.eq (tx_F i) (tx_C i))) := by decide +kernel
theorem nx_8a : (flatC nx_G)[34]? = some (Cond.arrayOf tx_W .int) := by decide +kernel
theorem nx_8b : (flatC nx_G)[35]? = some (Cond.eq (.length tx_W) (.int (Int32.ofNat 8))) := by decide +kernel
theorem nx_8c : ∀ i, i < 8 → (flatC nx_G)[[36, 37, 38, 39, 40, 41, 42, 43].getD i 0]? = some (Cond.eq (.elem tx_W (.int (Int32.ofNat i))) (.int (nI (mv_sm i)))) := by decide +kernel
theorem nx_c : (flatC nx_G)[107]? = some (Cond.eq (.static "java/lang/String" "COMPACT_STRINGS" "Z") (.int 1)) := by decide +kernel
theorem nx_s : (flatC nx_G)[108]? = some (Cond.isRef (.static "jdk/internal/util/Preconditions" "SIOOBE_FORMATTER" "Ljava/util/function/BiFunction;")) := by decide +kernel
theorem nx_u : (flatC nx_G)[6]? = some (Cond.isRef (.static Bundle.tN "UNASSIGNED_STACK" Bundle.steD)) := by decide +kernel
theorem nx_p : (flatC nx_G)[7]? = some (Cond.isRef (.static Bundle.tN "SUPPRESSED_SENTINEL" Bundle.listD)) := by decide +kernel
theorem nx_x : ∀ i, i < 6 → ∀ j, j < 6 → (i ≠ j ∧ i ≠ 4 ∧ j ≠ 4 ∧ j ≠ 3) → (flatC nx_G)[[0, 379, 328, 0, 0, 345, 362, 0, 329, 0, 0, 346, 361, 378, 0, 0, 0, 344, 367, 384, 333, 0, 0, 350, 0, 0, 0, 0, 0, 0, 364, 381, 330, 0, 0, 0].getD (6 * i + j) 0]? = some (Cond.not (.castable (mv_ec i) (mv_ec j))) := by decide +kernel
theorem nt_1 : ∀ i, i < 8 → (lw_tbl)[[833, 942, 951, 960, 930, 249, 974, 983].getD i 0]? = some (Cond.laysStatic "SluiceChain$Command" (nx_C i) "LSluiceChain$Command;") := by decide +kernel
theorem nt_2 : ∀ i, i < 4 → (lw_tbl)[[542, 544, 540, 566].getD i 0]? = some (Cond.laysStatic "SluiceChain$Fault" (nx_F i) "LSluiceChain$Fault;") := by decide +kernel
theorem nt_w : (lw_tbl)[843]? = some (Cond.laysStatic "SluiceChain$1" "$SwitchMap$SluiceChain$Command" "[I") := by decide +kernel
theorem nt_c : (lw_tbl)[996]? = some (Cond.laysStatic "java/lang/String" "COMPACT_STRINGS" "Z") := by decide +kernel
theorem nt_s : (lw_tbl)[1017]? = some (Cond.laysStatic "jdk/internal/util/Preconditions" "SIOOBE_FORMATTER" "Ljava/util/function/BiFunction;") := by decide +kernel
theorem nt_u : (lw_tbl)[365]? = some (Cond.laysStatic Bundle.tN "UNASSIGNED_STACK" Bundle.steD) := by decide +kernel
theorem nt_p : (lw_tbl)[367]? = some (Cond.laysStatic Bundle.tN "SUPPRESSED_SENTINEL" Bundle.listD) := by decide +kernel
theorem ni_c : (lw_tbl)[69]? = some (Cond.initialized "SluiceChain$Command") := by decide +kernel
theorem ni_f : (lw_tbl)[72]? = some (Cond.initialized "SluiceChain$Fault") := by decide +kernel
theorem ni_w : (lw_tbl)[71]? = some (Cond.initialized "SluiceChain$1") := by decide +kernel
theorem ni_s : (lw_tbl)[81]? = some (Cond.initialized "java/lang/String") := by decide +kernel
theorem ni_p : (lw_tbl)[89]? = some (Cond.initialized "jdk/internal/util/Preconditions") := by decide +kernel
theorem ni_t : (lw_tbl)[73]? = some (Cond.initialized Bundle.tN) := by decide +kernel
theorem na_i : (lw_tbl)[159]? = some (Cond.arrayClass .int) := by decide +kernel
theorem na_c : (lw_tbl)[269]? = some (Cond.arrayClass .char) := by decide +kernel
theorem na_b : (lw_tbl)[408]? = some (Cond.arrayClass .byte) := by decide +kernel
theorem na_B : (lw_tbl)[109]? = some (Cond.arrayOver (.object "SluiceChain$Basin")) := by decide +kernel
theorem na_C : (lw_tbl)[198]? = some (Cond.arrayOver (.object "SluiceChain$Chain")) := by decide +kernel
def nx_fl (args : Array Value) (s : State) : Prop := (∀ w ∈ flatC nx_G, w.before args s = true) ∧ ∀ w ∈ lw_tbl, w.before args s = true
section NX
variable {args : Array Value} {s : State}
theorem nx_fl.g (h : nx_fl args s) {n : Nat} {w : Cond} (e : (flatC nx_G)[n]? = some w) : w.before args s = true := h.1 w (List.mem_of_getElem? e)
theorem nx_fl.t (h : nx_fl args s) {n : Nat} {w : Cond} (e : lw_tbl[n]? = some w) : w.before args s = true := h.2 w (List.mem_of_getElem? e)
/-- two constants that are one have one ordinal -/
theorem nx_ord {t u : Term} {a : Nat} {x y : Int32} (ht : t.eval args s none [] s = some (.ref a)) (hu : u.eval args s none [] s = some (.ref a)) (h1 : (Cond.eq (.field t "java/lang/Enum" "ordinal" "I") (.int x)).before args s = true) (h2 : (Cond.eq (.field u "java/lang/Enum" "ordinal" "I") (.int y)).before args s = true) : x = y := by
  have e1 := va_eqt h1
  have e2 := va_eqt h2
  rw [va_fe ht] at e1
  rw [va_fe hu] at e2
  rw [e1] at e2
  exact Value.int.inj (Option.some.inj e2)
theorem nx_noteq {t u : Term} {a b : Nat} (ht : t.eval args s none [] s = some (.ref a)) (hu : u.eval args s none [] s = some (.ref b)) (h : ¬ a = b) : (Cond.not (.eq t u)).before args s = true := by
  simp [Cond.before, Cond.holds, Cond.value, ht, hu, h]
theorem nx_elem {t u : Term} {a : Nat} (ht : t.eval args s none [] s = some (.ref a)) (hu : u.eval args s none [] s = some (.ref a)) (x : Term) : (Term.elem (.field t "java/lang/String" "value" "[B") x).eval args s none [] s = (Term.elem (.field u "java/lang/String" "value" "[B") x).eval args s none [] s := by
  have e : (Term.field t "java/lang/String" "value" "[B").eval args s none [] s = (Term.field u "java/lang/String" "value" "[B").eval args s none [] s := by rw [va_fe ht, va_fe hu]
  simp only [Term.eval] at e ⊢
  rw [e]
theorem nx_str {own tx : String} {k : Nat} (hb : (Cond.stringRef own k tx).before args s = true) : ∃ a, vk_R own k tx a s := by
  have hcur : ∃ cur, s.vm.findClass own = some cur := by
    have h1 := hb
    simp only [Cond.before, Cond.holds, Cond.value] at h1
    cases hc : s.vm.findClass own with
    | none => simp [hc] at h1
    | some cur => exact ⟨cur, rfl⟩
  obtain ⟨cur, hcur⟩ := hcur
  obtain ⟨_, _, _, a, -, -, -, -, -, hev⟩ := Cond.stringRef_spec (args := args) (first := s) (o := none) (s := s) (idx := []) hcur hb
  exact ⟨a, vk_R.of hb hev⟩
theorem nI_8 : ∀ i, i < 8 → ∀ j, j < 8 → nI i = nI j → i = j := by decide +kernel
theorem nx_En {b L : Nat} {xs : Nat → Int32} (h : nx_fl args s) (hL : L < 2 ^ 31) (hb : b < s.heap.size) (hX : va_X b L xs s s.heap) : ∃ (kad : Nat → Nat) (dC : Nat → ClassId) (dI : Nat → Nat → Nat) (cA : Nat → ClassId), kad 2000 = b ∧ mv_En s.heap.size kad dC dI cA L xs s := by
  have hA : ∀ a : Nat, a < s.heap.size → ¬ mv_A1 s.heap.size a := fun a ha h9 => absurd h9.1 (Nat.not_le.mpr ha)
  -- the commands
  have hc : ∀ i : Nat, ∃ a : Nat, i < 8 → (tx_C i).eval args s none [] s = some (.ref a) ∧ va_O "SluiceChain$Command" a (mv_A1 s.heap.size) s s.heap := by
    intro i
    by_cases hi : i < 8
    · obtain ⟨a, _, _, _, q1, -⟩ := Cond.exactly_spec (args := args) (first := s) (o := none) (s := s) (idx := []) (h.g (nx_1 i hi))
      exact ⟨a, fun _ => ⟨q1, va_Oof (h.g (nx_1 i hi)) q1 hA⟩⟩
    · exact ⟨0, fun q => absurd q hi⟩
  obtain ⟨ac, hac⟩ := Classical.axiomOfChoice hc
  have hf : ∀ i : Nat, ∃ a : Nat, i < 4 → (tx_F i).eval args s none [] s = some (.ref a) ∧ va_O "SluiceChain$Fault" a (mv_A1 s.heap.size) s s.heap := by
    intro i
    by_cases hi : i < 4
    · obtain ⟨a, _, _, _, q1, -⟩ := Cond.exactly_spec (args := args) (first := s) (o := none) (s := s) (idx := []) (h.g (nx_4 i hi))
      exact ⟨a, fun _ => ⟨q1, va_Oof (h.g (nx_4 i hi)) q1 hA⟩⟩
    · exact ⟨0, fun q => absurd q hi⟩
  obtain ⟨af, haf⟩ := Classical.axiomOfChoice hf
  obtain ⟨tW, htW, hTW⟩ := va_Tof (args := args) (s := s) (tm := tx_W) (ty := .int) (N := 8) (f := fun i => .int (nI (mv_sm i))) (A := mv_A1 s.heap.size) (by decide) (h.g nx_8a) (va_eqt (h.g nx_8b)) (fun j hj => va_eqt (h.g (nx_8c j hj))) hA
  -- the classes
  have hk : ∀ c : Nat, ∃ q : ClassId × (Nat → Nat), ∀ x : vw_C, mv_cls[c]? = some x → u_Kn s x.1 x.2.1 x.2.2 q.1 q.2 := by
    intro c
    cases hx : mv_cls[c]? with
    | none => exact ⟨(0, fun _ => 0), fun x hx2 => by cases hx2⟩
    | some x =>
      obtain ⟨C, T, n⟩ := x
      have hc8 : c < 8 := (List.getElem?_eq_some_iff.mp hx).1
      obtain ⟨cC, iS, hq⟩ := u_known (ws := lw_tbl) (args := args) (s := s) h.2 (fun w hw => (List.mem_filter.mp ((mv_ck1 hc8 hx).1 w hw)).1) (h.2 _ (List.mem_filter.mp (mv_inst hc8 hx).1).1)
      exact ⟨(cC, iS), fun y hy => by cases hy; exact hq⟩
  obtain ⟨kk, hkk⟩ := Classical.axiomOfChoice hk
  have hprim : ∀ {ty : FieldType} {n : Nat}, lw_tbl[n]? = some (.arrayClass ty) → ∃ cA : ClassId, ArrOfT s cA ty ∧ s.vm.findClass ("[" ++ ty.toString) = some cA := by
    intro ty n e
    obtain ⟨cA, kA, comp, g1, g2, g3⟩ := Cond.arrayClass_spec (args := args) (first := s) (o := none) (s := s) (idx := []) (h.t e)
    exact ⟨cA, fun n z => ⟨fun k q => (by cases q), kA, g2, comp, g3⟩, g1⟩
  have hobj : ∀ {C : String} {n : Nat}, lw_tbl[n]? = some (.arrayOver (.object C)) → ∃ cA : ClassId, ArrOfT s cA (.object C) ∧ va_RA s cA (.object C) := by
    intro C n e
    obtain ⟨comp, cA, kA, g1, -, g2, g3, g4⟩ := Cond.arrayOver_spec (args := args) (first := s) (o := none) (s := s) (idx := []) (h.t e)
    exact ⟨cA, fun n z => ⟨fun k q => (by cases q), kA, g2, comp, g3⟩, kA, comp, g2, g3, g1, g4⟩
  obtain ⟨c20, a20, b20⟩ := hprim na_i
  obtain ⟨c21, a21, b21⟩ := hprim na_c
  obtain ⟨c22, a22, b22⟩ := hprim na_b
  obtain ⟨c24, a24, b24⟩ := hobj na_B
  obtain ⟨c25, a25, b25⟩ := hobj na_C
  -- the addresses
  have hlt : ∀ {t : Term} {a : Nat} {C : String}, va_O C a (mv_A1 s.heap.size) s s.heap → a < s.heap.size := fun q => by
    obtain ⟨cell, q1, -⟩ := q
    exact (Array.getElem?_eq_some_iff.mp q1).1
  obtain ⟨kad, hkad⟩ : ∃ kad : Nat → Nat, kad = fun n => if n < 1008 then ac (n - 1000) else if n < 1010 then s.heap.size + n else if n < 1014 then af (n - 1010) else if n = 1021 then tW else b := ⟨_, rfl⟩
  have e1 : ∀ i, i < 8 → kad (1000 + i) = ac i := fun i hi => by rw [hkad]; show (if 1000 + i < 1008 then _ else _) = _; rw [if_pos (by omega), Nat.add_sub_cancel_left]
  have e2 : ∀ i, i < 4 → kad (1010 + i) = af i := fun i hi => by rw [hkad]; show (if 1010 + i < 1008 then _ else _) = _; rw [if_neg (by omega), if_neg (by omega), if_pos (by omega), Nat.add_sub_cancel_left]
  have e6 : kad 1021 = tW := by rw [hkad]; rfl
  have e7 : kad 2000 = b := by rw [hkad]; rfl
  have e8 : kad 1008 = s.heap.size + 1008 := by rw [hkad]; rfl
  have e9 : kad 1009 = s.heap.size + 1009 := by rw [hkad]; rfl
  clear hkad
  have lc : ∀ i, i < 8 → ac i < s.heap.size := fun i hi => hlt (t := tx_C 0) (hac i hi).2
  have lf : ∀ i, i < 4 → af i < s.heap.size := fun i hi => hlt (t := tx_C 0) (haf i hi).2
  have dcc : ∀ i j, i < 8 → j < 8 → ac i = ac j → i = j := fun i j hi hj e => nI_8 i hi j hj (nx_ord (hac i hi).1 (by rw [e]; exact (hac j hj).1) (h.g (nx_2 i hi)) (h.g (nx_2 j hj)))
  have dff : ∀ i j, i < 4 → j < 4 → af i = af j → i = j := fun i j hi hj e => nI_8 i (by omega) j (by omega) (nx_ord (haf i hi).1 (by rw [e]; exact (haf j hj).1) (h.g (nx_5 i hi)) (h.g (nx_5 j hj)))
  have dcf : ∀ i j, i < 8 → j < 4 → ¬ ac i = af j := by
    intro i j hi hj e
    have : i = j := nI_8 i hi j (by omega) (nx_ord (hac i hi).1 (by rw [e]; exact (haf j hj).1) (h.g (nx_2 i hi)) (h.g (nx_5 j hj)))
    subst this
    exact va_neR (h.g (nx_6 i hj)) (haf i hj).1 (hac i hi).1 e.symm
  have hZC : ∀ i, i < 8 → va_Z "SluiceChain$Command" (nx_C i) "LSluiceChain$Command;" (.ref (ac i)) (mv_A1 s.heap.size) s s.heap := fun i hi => va_Zref (h.t (nt_1 i hi)) (h.t ni_c) (hac i hi).1 hA
  have hZF : ∀ i, i < 4 → va_Z "SluiceChain$Fault" (nx_F i) "LSluiceChain$Fault;" (.ref (af i)) (mv_A1 s.heap.size) s s.heap := fun i hi => va_Zref (h.t (nt_2 i hi)) (h.t ni_f) (haf i hi).1 hA
  have hZW : va_Z "SluiceChain$1" "$SwitchMap$SluiceChain$Command" "[I" (.ref tW) (mv_A1 s.heap.size) s s.heap := va_Zref (h.t nt_w) (h.t ni_w) htW hA
  refine ⟨kad, fun c => (kk c).1, fun c => (kk c).2, fun n => if n = 20 then c20 else if n = 21 then c21 else if n = 22 then c22 else if n = 23 then c21 else if n = 24 then c24 else c25, e7, ⟨⟨fun c q hq => hkk c q hq, ?_⟩, Nat.le_refl _, ?_, ?_, ?_, ?_, ⟨hL, by rw [e7]; exact hb, by rw [e7]; exact hX⟩, vx_Zqof (h.t nt_u) (h.t ni_t) (h.g nx_u) hA, vx_Zqof (h.t nt_p) (h.t ni_t) (h.g nx_p) hA, ?_, ?_, ?_⟩⟩
  · intro k q hq
    match k, hq with
    | 0, hq => cases hq; exact ⟨a20, b20⟩
    | 1, hq => cases hq; exact ⟨a21, b21⟩
    | 2, hq => cases hq; exact ⟨a22, b22⟩
    | 3, hq => cases hq; exact ⟨a21, b21⟩
    | 4, hq => cases hq; exact ⟨a24, b24⟩
    | 5, hq => cases hq; exact ⟨a25, b25⟩
    | k + 6, hq => cases hq
  · intro a ha
    simp only [List.mem_cons, List.not_mem_nil, or_false] at ha
    rcases ha with rfl | rfl | rfl | rfl | rfl | rfl | rfl | rfl | rfl | rfl | rfl | rfl | rfl
    · have := hZC 0 (by decide); rw [← e1 0 (by decide)] at this; exact this
    · have := hZC 1 (by decide); rw [← e1 1 (by decide)] at this; exact this
    · have := hZC 2 (by decide); rw [← e1 2 (by decide)] at this; exact this
    · have := hZC 3 (by decide); rw [← e1 3 (by decide)] at this; exact this
    · have := hZC 4 (by decide); rw [← e1 4 (by decide)] at this; exact this
    · have := hZC 5 (by decide); rw [← e1 5 (by decide)] at this; exact this
    · have := hZC 6 (by decide); rw [← e1 6 (by decide)] at this; exact this
    · have := hZC 7 (by decide); rw [← e1 7 (by decide)] at this; exact this
    · have := hZF 0 (by decide); rw [← e2 0 (by decide)] at this; exact this
    · have := hZF 1 (by decide); rw [← e2 1 (by decide)] at this; exact this
    · have := hZF 2 (by decide); rw [← e2 2 (by decide)] at this; exact this
    · have := hZF 3 (by decide); rw [← e2 3 (by decide)] at this; exact this
    · rw [e6]; exact hZW
  · intro i hi
    rw [e1 i hi]
    exact ⟨(hac i hi).2, vk_OFof (hac i hi).1 (va_eqt (h.g (nx_2 i hi))) hA⟩
  · intro i j hi hj e
    have cls : ∀ i, i < 14 → (i < 8 ∧ kad (1000 + i) = ac i) ∨ (i = 8 ∧ kad (1000 + i) = s.heap.size + 1008) ∨ (i = 9 ∧ kad (1000 + i) = s.heap.size + 1009) ∨ (10 ≤ i ∧ kad (1000 + i) = af (i - 10)) := by
      intro i hi
      rcases (by omega : i < 8 ∨ i = 8 ∨ i = 9 ∨ 10 ≤ i) with q | rfl | rfl | q
      · exact .inl ⟨q, e1 i q⟩
      · exact .inr (.inl ⟨rfl, e8⟩)
      · exact .inr (.inr (.inl ⟨rfl, e9⟩))
      · refine .inr (.inr (.inr ⟨q, ?_⟩))
        have := e2 (i - 10) (by omega)
        rw [show 1010 + (i - 10) = 1000 + i by omega] at this
        exact this
    rcases cls i hi with ⟨qi, ei⟩ | ⟨qi, ei⟩ | ⟨qi, ei⟩ | ⟨qi, ei⟩ <;> rcases cls j hj with ⟨qj, ej⟩ | ⟨qj, ej⟩ | ⟨qj, ej⟩ | ⟨qj, ej⟩ <;> rw [ei, ej] at e
    · exact dcc i j qi qj e
    · have := lc i qi; omega
    · have := lc i qi; omega
    · exact absurd e (dcf i (j - 10) qi (by omega))
    · have := lc j qj; omega
    · omega
    · omega
    · have := lf (j - 10) (by omega); omega
    · have := lc j qj; omega
    · omega
    · omega
    · have := lf (j - 10) (by omega); omega
    · exact absurd e.symm (dcf j (i - 10) qj (by omega))
    · have := lf (i - 10) (by omega); omega
    · have := lf (i - 10) (by omega); omega
    · have := dff (i - 10) (j - 10) (by omega) (by omega) e; omega
  · rw [e6]; exact hTW
  · intro w hw hn
    have hb := h.2 w hw
    unfold mv_nest at hn
    split at hn
    · exact va_Nw.of rfl hb
    · exact va_Nw.of rfl hb
    · exact va_Nw.of rfl hb
    · exact va_Nw.of rfl hb
    · exact va_AO.of hb
    · cases hn
  · intro i j hi hj hij
    have h1 : ∀ k, mv_e6 k = true → k < 6 ∧ k ≠ 4 := fun k hk => by simp only [mv_e6, Bool.and_eq_true, decide_eq_true_eq, Bool.not_eq_true', decide_eq_false_iff_not] at hk; exact hk
    have hj2 : mv_e6 j = true ∧ j ≠ 3 := by simp only [mv_e5, Bool.and_eq_true, Bool.not_eq_true', decide_eq_false_iff_not] at hj; exact hj
    exact va_Nc.of (h.g (nx_x i (h1 i hi).1 j (h1 j hj2.1).1 ⟨hij, (h1 i hi).2, (h1 j hj2.1).2, hj2.2⟩))
  · intro own k tx hw
    have hb := h.2 _ hw
    exact nx_str hb
end NX
