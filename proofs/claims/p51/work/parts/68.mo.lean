/-! THE LAW'S OWN FRAME: texts and rows beside the small machine's objects -/
/-- a text, a builder, a row of ints, a builder that is just made -/
abbrev mo_T : Type := List Int ⊕ (List Int ⊕ ((Nat × (Nat → Int32)) ⊕ Unit))
/-- how many things, what they have cost, the things -/
abbrev mo_S : Type := Nat × Nat × (Nat → mo_T)
def tR4 (a sd n : Nat) (f : Nat → Int32) (A : Nat → Prop) (U : State) (H : Heap) : Prop := va_O "java/lang/String" a A U H ∧ va_OF "java/lang/String" "coder" "B" (.int 0) a A U H ∧ va_OF "java/lang/String" "value" "[B" (.ref sd) a A U H ∧ va_T .byte sd n (fun j => .int (f j)) A U H
def mo_L (cs : List Int) (f : Nat → Int32) : Prop := sb_Fit f ∧ ∀ (j : Nat) (v : Int), cs[j]? = some v → f j = Int32.ofInt v
def mo_O (D : va_G) (cB cI : ClassId) (U : State) (H : Heap) (a b : Nat) : mo_T → Prop
  | .inl cs => ∃ f, tR4 a b cs.length f (fun q => q ≠ a ∧ q ≠ b) U H ∧ mo_L cs f
  | .inr (.inl cs) => ∃ (L : Nat) (f : Nat → Int32), va_P D tcl (tW a b cB cs.length L f) H ∧ a ≠ b ∧ cs.length ≤ L ∧ L ≤ 400 ∧ mo_L cs f
  | .inr (.inr (.inl (n, g))) => b = a ∧ H[a]? = some (vp_cell cI (n, .inl g)) ∧ n ≤ 5
  | .inr (.inr (.inr ())) => b = a ∧ va_P D tcl [(a, tN)] H
def mo_mut : mo_T → Bool
  | .inl _ => false
  | .inr _ => true
theorem tR4_lt {a sd n : Nat} {f : Nat → Int32} {A : Nat → Prop} {U : State} {H : Heap} (h : tR4 a sd n f A U H) : a < H.size ∧ sd < H.size := by
  obtain ⟨⟨c1, h1, -⟩, -, -, ⟨c2, h2, -⟩⟩ := h
  exact ⟨(Array.getElem?_eq_some_iff.mp h1).1, (Array.getElem?_eq_some_iff.mp h2).1⟩
theorem mo_O_lt {D : va_G} {cB cI : ClassId} {U : State} {H : Heap} {a b : Nat} {t : mo_T} (h : mo_O D cB cI U H a b t) : a < H.size ∧ b < H.size := by
  rcases t with cs | cs | ⟨n, g⟩ | u
  · obtain ⟨f, h1, -⟩ := h
    exact tR4_lt h1
  · obtain ⟨L, f, h1, -⟩ := h
    exact ⟨(h1 0 _ rfl).lt, (h1 1 _ rfl).lt⟩
  · obtain ⟨rfl, h1, -⟩ := h
    exact ⟨(Array.getElem?_eq_some_iff.mp h1).1, (Array.getElem?_eq_some_iff.mp h1).1⟩
  · obtain ⟨rfl, h1⟩ := h
    exact ⟨(h1 0 _ rfl).lt, (h1 0 _ rfl).lt⟩
theorem mo_O_kept {D : va_G} {cB cI : ClassId} {U U' : State} {H H1 : Heap} {a b : Nat} {t : mo_T} (h : mo_O D cB cI U H a b t) (hvm : U.vm.Alike U'.vm) (ha : H1[a]? = H[a]?) (hb : H1[b]? = H[b]?) : mo_O D cB cI U' H1 a b t := by
  rcases t with cs | cs | ⟨n, g⟩ | u
  · obtain ⟨f, ⟨h1, h2, h3, h4⟩, h5⟩ := h
    have hq : ∀ x : Nat, x < H.size → ¬ (x ≠ a ∧ x ≠ b) → H1[x]? = H[x]? := fun x _ hx => by
      by_cases e : x = a
      · rw [e]; exact ha
      · by_cases e2 : x = b
        · rw [e2]; exact hb
        · exact absurd ⟨e, e2⟩ hx
    exact ⟨f, ⟨(va_O.moved hvm h1).kept hq, (va_OF.moved hvm h2).kept hq, (va_OF.moved hvm h3).kept hq, (va_T.moved hvm h4).kept hq⟩, h5⟩
  · obtain ⟨L, f, h1, h2⟩ := h
    refine ⟨L, f, h1.kept (fun k q hk => ?_), h2⟩
    match k, hk with
    | 0, hk => cases hk; exact ha
    | 1, hk => cases hk; exact hb
  · obtain ⟨rfl, h1, h2⟩ := h
    exact ⟨rfl, by rw [ha]; exact h1, h2⟩
  · obtain ⟨rfl, h1⟩ := h
    refine ⟨rfl, h1.kept (fun k q hk => ?_)⟩
    match k, hk with
    | 0, hk => cases hk; exact ha
def mv_upn (f : Nat → Nat) (i v : Nat) : Nat → Nat := fun j => if j = i then v else f j
def mo_up (τ : Nat → mo_T) (i : Nat) (t : mo_T) : Nat → mo_T := fun j => if j = i then t else τ j
def mo_X (z : Nat) (D : va_G) (cB cI : ClassId) (kad sec : Nat → Nat) (s : State) (τ : mo_S) : Prop := ∀ i, i < τ.1 → (mo_O D cB cI s s.heap (kad (3000 + i)) (sec i) (τ.2.2 i) ∧ ¬ mv_A1 z (kad (3000 + i)) ∧ ¬ mv_A1 z (sec i)) ∧
  (mo_mut (τ.2.2 i) = true → (z + 142 ≤ kad (3000 + i) ∧ z + 142 ≤ sec i) ∧ ∀ j, j < τ.1 → j ≠ i → kad (3000 + i) ≠ kad (3000 + j) ∧ kad (3000 + i) ≠ sec j ∧ sec i ≠ kad (3000 + j) ∧ sec i ≠ sec j)
section MOX
variable {z : Nat} {D : va_G} {cB cI : ClassId} {kad sec : Nat → Nat} {s s' : State} {τ : mo_S}
/-- nothing of the things has changed -/
theorem mo_X_kept (h : mo_X z D cB cI kad sec s τ) (hvm : s.vm.Alike s'.vm) (hq : ∀ q, q < s.heap.size → ¬ mv_A1 z q → s'.heap[q]? = s.heap[q]?) : mo_X z D cB cI kad sec s' τ := by
  intro i hi
  obtain ⟨⟨h1, h2, h3⟩, h4⟩ := h i hi
  obtain ⟨l1, l2⟩ := mo_O_lt h1
  exact ⟨⟨mo_O_kept h1 hvm (hq _ l1 h2) (hq _ l2 h3), h2, h3⟩, h4⟩
/-- one thing has changed, a builder or a row -/
theorem mo_X_set {ib db w : Nat} {t : mo_T} (h : mo_X z D cB cI kad sec s τ) (hvm : s.vm.Alike s'.vm) (hz : z + 142 ≤ s.heap.size) (hib : ib < τ.1) (hm0 : mo_mut (τ.2.2 ib) = true) (hq : ∀ q, q < s.heap.size → q ≠ kad (3000 + ib) → q ≠ sec ib → s'.heap[q]? = s.heap[q]?)
    (hO : mo_O D cB cI s' s'.heap (kad (3000 + ib)) db t) (hdb : db = sec ib ∨ s.heap.size ≤ db ∨ db = kad (3000 + ib)) : mo_X z D cB cI kad (mv_upn sec ib db) s' (τ.1, w, mo_up τ.2.2 ib t) := by
  obtain ⟨⟨b1, b2, b3⟩, b4⟩ := h ib hib
  obtain ⟨⟨b5, b6⟩, b7⟩ := b4 hm0
  obtain ⟨l1, l2⟩ := mo_O_lt b1
  have hdz : z + 142 ≤ db := by rcases hdb with e | e | e <;> omega
  have hA : ∀ q, z + 142 ≤ q → ¬ mv_A1 z q := fun q h1 h2 => by have := h2.2; omega
  intro i hi
  have hi : i < τ.1 := hi
  by_cases e : i = ib
  · subst e
    have e1 : mv_upn sec i db i = db := if_pos rfl
    have e2 : mo_up τ.2.2 i t i = t := if_pos rfl
    show (mo_O D cB cI s' s'.heap (kad (3000 + i)) (mv_upn sec i db i) (mo_up τ.2.2 i t i) ∧ _ ∧ ¬ mv_A1 z (mv_upn sec i db i)) ∧ (mo_mut (mo_up τ.2.2 i t i) = true → (_ ∧ z + 142 ≤ mv_upn sec i db i) ∧ ∀ j, j < τ.1 → j ≠ i → kad (3000 + i) ≠ kad (3000 + j) ∧ kad (3000 + i) ≠ mv_upn sec i db j ∧ mv_upn sec i db i ≠ kad (3000 + j) ∧ mv_upn sec i db i ≠ mv_upn sec i db j)
    rw [e1, e2]
    refine ⟨⟨hO, b2, hA _ hdz⟩, fun _ => ⟨⟨b5, hdz⟩, fun j hj hji => ?_⟩⟩
    have e3 : mv_upn sec i db j = sec j := if_neg hji
    rw [e3]
    obtain ⟨c1, c2, c3, c4⟩ := b7 j hj hji
    obtain ⟨⟨d1, -, -⟩, -⟩ := h j hj
    obtain ⟨m1, m2⟩ := mo_O_lt d1
    refine ⟨c1, c2, ?_, ?_⟩ <;> rcases hdb with e | e | e
    · rw [e]; exact c3
    · omega
    · rw [e]; exact c1
    · rw [e]; exact c4
    · omega
    · rw [e]; exact c2
  · have e1 : mv_upn sec ib db i = sec i := if_neg e
    have e2 : mo_up τ.2.2 ib t i = τ.2.2 i := if_neg e
    obtain ⟨⟨d1, d2, d3⟩, d4⟩ := h i hi
    obtain ⟨m1, m2⟩ := mo_O_lt d1
    obtain ⟨c1, c2, c3, c4⟩ := b7 i hi e
    show (mo_O D cB cI s' s'.heap (kad (3000 + i)) (mv_upn sec ib db i) (mo_up τ.2.2 ib t i) ∧ _ ∧ ¬ mv_A1 z (mv_upn sec ib db i)) ∧ (mo_mut (mo_up τ.2.2 ib t i) = true → (_ ∧ z + 142 ≤ mv_upn sec ib db i) ∧ ∀ j, j < τ.1 → j ≠ i → kad (3000 + i) ≠ kad (3000 + j) ∧ kad (3000 + i) ≠ mv_upn sec ib db j ∧ mv_upn sec ib db i ≠ kad (3000 + j) ∧ mv_upn sec ib db i ≠ mv_upn sec ib db j)
    rw [e1, e2]
    refine ⟨⟨mo_O_kept d1 hvm (hq _ m1 (Ne.symm c1) (Ne.symm c3)) (hq _ m2 (Ne.symm c2) (Ne.symm c4)), d2, d3⟩, fun hm => ⟨(d4 hm).1, fun j hj hji => ?_⟩⟩
    obtain ⟨f1, f2, f3, f4⟩ := (d4 hm).2 j hj hji
    by_cases e3 : j = ib
    · subst e3
      have e4 : mv_upn sec j db j = db := if_pos rfl
      rw [e4]
      refine ⟨f1, ?_, f3, ?_⟩ <;> rcases hdb with e | e | e
      · rw [e]; exact f2
      · omega
      · rw [e]; exact f1
      · rw [e]; exact f4
      · omega
      · rw [e]; exact f3
    · have e4 : mv_upn sec ib db j = sec j := if_neg e3
      rw [e4]
      exact ⟨f1, f2, f3, f4⟩
/-- one thing more -/
theorem mo_X_push {a b w : Nat} {t : mo_T} (h : mo_X z D cB cI kad sec s τ) (hz : z + 142 ≤ s.heap.size) (hO' : ∀ i, i < τ.1 → mo_O D cB cI s' s'.heap (kad (3000 + i)) (sec i) (τ.2.2 i)) (hO : mo_O D cB cI s' s'.heap a b t)
    (hab : (s.heap.size ≤ a ∧ s.heap.size ≤ b) ∨ (mo_mut t = false ∧ a < z ∧ b < z)) : mo_X z D cB cI (mv_upn kad (3000 + τ.1) a) (mv_upn sec τ.1 b) s' (τ.1 + 1, w, mo_up τ.2.2 τ.1 t) := by
  have hA : ∀ q, z + 142 ≤ q ∨ q < z → ¬ mv_A1 z q := fun q h1 h2 => by have := h2.1; have := h2.2; omega
  have k1 : mv_upn kad (3000 + τ.1) a (3000 + τ.1) = a := if_pos rfl
  have k2 : mv_upn sec τ.1 b τ.1 = b := if_pos rfl
  have k3 : mo_up τ.2.2 τ.1 t τ.1 = t := if_pos rfl
  have k4 : ∀ j, j < τ.1 → mv_upn kad (3000 + τ.1) a (3000 + j) = kad (3000 + j) := fun j hj => if_neg (by omega)
  have k5 : ∀ j, j < τ.1 → mv_upn sec τ.1 b j = sec j := fun j hj => if_neg (by omega)
  have k6 : ∀ j, j < τ.1 → mo_up τ.2.2 τ.1 t j = τ.2.2 j := fun j hj => if_neg (by omega)
  intro i hi
  have hi : i < τ.1 + 1 := hi
  show (mo_O D cB cI s' s'.heap (mv_upn kad (3000 + τ.1) a (3000 + i)) (mv_upn sec τ.1 b i) (mo_up τ.2.2 τ.1 t i) ∧ ¬ mv_A1 z (mv_upn kad (3000 + τ.1) a (3000 + i)) ∧ ¬ mv_A1 z (mv_upn sec τ.1 b i)) ∧ (mo_mut (mo_up τ.2.2 τ.1 t i) = true → (z + 142 ≤ mv_upn kad (3000 + τ.1) a (3000 + i) ∧ z + 142 ≤ mv_upn sec τ.1 b i) ∧ ∀ j, j < τ.1 + 1 → j ≠ i → mv_upn kad (3000 + τ.1) a (3000 + i) ≠ mv_upn kad (3000 + τ.1) a (3000 + j) ∧ mv_upn kad (3000 + τ.1) a (3000 + i) ≠ mv_upn sec τ.1 b j ∧ mv_upn sec τ.1 b i ≠ mv_upn kad (3000 + τ.1) a (3000 + j) ∧ mv_upn sec τ.1 b i ≠ mv_upn sec τ.1 b j)
  by_cases e : i = τ.1
  · subst e
    rw [k1, k2, k3]
    refine ⟨⟨hO, ?_, ?_⟩, fun hm => ?_⟩
    · rcases hab with ⟨h1, h2⟩ | ⟨-, h1, h2⟩
      · exact hA _ (Or.inl (by omega))
      · exact hA _ (Or.inr h1)
    · rcases hab with ⟨h1, h2⟩ | ⟨-, h1, h2⟩
      · exact hA _ (Or.inl (by omega))
      · exact hA _ (Or.inr h2)
    · rcases hab with ⟨h1, h2⟩ | ⟨h0, h1, h2⟩
      · refine ⟨⟨by omega, by omega⟩, fun j hj hji => ?_⟩
        have hj : j < τ.1 := by omega
        obtain ⟨⟨d1, -, -⟩, -⟩ := h j hj
        obtain ⟨m1, m2⟩ := mo_O_lt d1
        rw [k4 j hj, k5 j hj]
        exact ⟨by omega, by omega, by omega, by omega⟩
      · rw [h0] at hm; cases hm
  · have hi : i < τ.1 := by omega
    obtain ⟨⟨d1, d2, d3⟩, d4⟩ := h i hi
    obtain ⟨m1, m2⟩ := mo_O_lt d1
    rw [k4 i hi, k5 i hi, k6 i hi]
    refine ⟨⟨hO' i hi, d2, d3⟩, fun hm => ⟨(d4 hm).1, fun j hj hji => ?_⟩⟩
    by_cases e3 : j = τ.1
    · subst e3
      rw [k1, k2]
      have := (d4 hm).1
      rcases hab with ⟨h1, h2⟩ | ⟨-, h1, h2⟩
      · exact ⟨by omega, by omega, by omega, by omega⟩
      · exact ⟨by omega, by omega, by omega, by omega⟩
    · rw [k4 j (by omega), k5 j (by omega)]
      exact (d4 hm).2 j (by omega) hji
theorem mo_X_old (h : mo_X z D cB cI kad sec s τ) (hvm : s.vm.Alike s'.vm) (hq : ∀ q, q < s.heap.size → ¬ mv_A1 z q → s'.heap[q]? = s.heap[q]?) : ∀ i, i < τ.1 → mo_O D cB cI s' s'.heap (kad (3000 + i)) (sec i) (τ.2.2 i) := fun i hi => by
  obtain ⟨⟨d1, d2, d3⟩, d4⟩ := h i hi
  obtain ⟨m1, m2⟩ := mo_O_lt d1
  exact mo_O_kept d1 hvm (hq _ m1 d2) (hq _ m2 d3)
end MOX
