/-! FEWER LOCALS: what runs with some locals runs with more of them -/
def mv_ks : List Nat → Bool
  | [] => true
  | k :: l => !(l.contains k) && mv_ks l
def mv_sb : mv_V → mv_V → Prop
  | [], _ => True
  | (k, v) :: l, m => mv_lk k m = some v ∧ mv_sb l m
def mv_Sb (ls ls' : mv_V) : Prop := mv_ks (ls.map Prod.fst) = true ∧ ∀ k v, (k, v) ∈ ls → mv_lk k ls' = some v
theorem mv_sb_S : ∀ {ls ls' : mv_V}, mv_sb ls ls' → ∀ k v, (k, v) ∈ ls → mv_lk k ls' = some v
  | (k0, v0) :: l, m, h, k, v, hm => by
    rcases List.mem_cons.mp hm with e | e
    · cases e; exact h.1
    · exact mv_sb_S h.2 k v e
theorem mv_lk_mem2 : ∀ {ls : mv_V} {i : Nat} {v : Value}, mv_lk i ls = some v → (i, v) ∈ ls
  | [], _, _, h => by simp [mv_lk] at h
  | (j, w) :: l, i, v, h => by
    unfold mv_lk at h
    split at h
    · next e => cases h; subst e; exact List.mem_cons_self
    · exact List.mem_cons_of_mem _ (mv_lk_mem2 h)
theorem mv_ks_cons {k : Nat} {l : List Nat} : mv_ks (k :: l) = true ↔ ¬ k ∈ l ∧ mv_ks l = true := by
  simp [mv_ks]
theorem mv_ks_filter {p : Nat × Value → Bool} : ∀ {ls : mv_V}, mv_ks (ls.map Prod.fst) = true → mv_ks ((ls.filter p).map Prod.fst) = true
  | [], _ => rfl
  | (k, v) :: l, h => by
    rw [List.map_cons, mv_ks_cons] at h
    have ih := mv_ks_filter (p := p) h.2
    rw [List.filter_cons]
    split
    · rw [List.map_cons, mv_ks_cons]
      refine ⟨fun hm => h.1 ?_, ih⟩
      obtain ⟨q, h1, h2⟩ := List.mem_map.mp hm
      exact List.mem_map.mpr ⟨q, (List.mem_filter.mp h1).1, h2⟩
    · exact ih
theorem mv_lk_filter {p : Nat × Value → Bool} {k : Nat} {v : Value} (hp : p (k, v) = true) : ∀ {ls : mv_V}, mv_lk k ls = some v → mv_lk k (ls.filter p) = some v
  | [], h => by simp [mv_lk] at h
  | (j, w) :: l, h => by
    unfold mv_lk at h
    split at h
    · next e =>
      cases h
      subst e
      rw [List.filter_cons, if_pos hp]
      simp [mv_lk]
    · next e =>
      have ih := mv_lk_filter hp h
      rw [List.filter_cons]
      split
      · unfold mv_lk
        rw [if_neg e]
        exact ih
      · exact ih
theorem mv_Sb_filter {p : Nat × Value → Bool} {ls ls' : mv_V} (h : mv_Sb ls ls') : mv_Sb (ls.filter p) (ls'.filter p) := by
  refine ⟨mv_ks_filter h.1, fun k v hm => ?_⟩
  obtain ⟨h1, h2⟩ := List.mem_filter.mp hm
  exact mv_lk_filter h2 (h.2 k v h1)
theorem mv_Sb_cons {i : Nat} {x : Value} {p : Nat × Value → Bool} (hp : ∀ v, p (i, v) = false) {ls ls' : mv_V} (h : mv_Sb ls ls') : mv_Sb ((i, x) :: ls.filter p) ((i, x) :: ls'.filter p) := by
  have h9 := mv_Sb_filter (p := p) h
  refine ⟨?_, fun k v hm => ?_⟩
  · rw [List.map_cons, mv_ks_cons]
    refine ⟨fun hm => ?_, h9.1⟩
    obtain ⟨⟨k, v⟩, h1, h2⟩ := List.mem_map.mp hm
    have h3 := (List.mem_filter.mp h1).2
    have h2 : k = i := h2
    subst h2
    rw [hp v] at h3
    cases h3
  · unfold mv_lk
    rcases List.mem_cons.mp hm with e | e
    · cases e
      rw [if_pos rfl]
    · have h8 := h9.2 k v e
      have : ¬ i = k := by
        intro q
        subst q
        have h3 := (List.mem_filter.mp e).2
        rw [hp v] at h3
        cases h3
      rw [if_neg this]
      exact h8
theorem mv_Sb_lk {ls ls' : mv_V} (h : mv_Sb ls ls') {k : Nat} {v : Value} (hk : mv_lk k ls = some v) : mv_lk k ls' = some v := h.2 k v (mv_lk_mem2 hk)
def mv_RA : mv_A → mv_A → Prop
  | .inl (p, l, s, σ), .inl (p', l', s', σ') => p = p' ∧ mv_Sb l l' ∧ s = s' ∧ σ = σ'
  | .inr x, .inr y => x = y
  | _, _ => False
def mv_RO (o o' : Option mv_A) : Prop := ∀ q, o = some q → ∃ q', o' = some q' ∧ mv_RA q q'
section SUB
variable {L : Nat} {xs : Nat → Int32} {C : Nat → List Value → mv_S → Option mv_R} {M pc nx a b w t i : Nat} {ls ls' : mv_V} {st : List Value} {σ : mv_S} {res : mv_R}
theorem RO_none {o : Option mv_A} : mv_RO none o := by intro q h; cases h
theorem RO_nx (h : mv_Sb ls ls') : mv_RO (mv_nx nx ls st σ) (mv_nx nx ls' st σ) := by
  intro q hq
  cases hq
  exact ⟨_, rfl, rfl, h, rfl, rfl⟩
theorem RO_r {x : mv_R ⊕ (Nat × List Value × List Value)} : mv_RO (some (.inr x)) (some (.inr x)) := by
  intro q hq
  cases hq
  exact ⟨_, rfl, rfl⟩
theorem RO_rf {o : Option mv_A} (h : ∀ q, o = some q → mv_RA q q) : mv_RO o o := fun q hq => ⟨q, hq, h q hq⟩
theorem RO_ld {k : Nat} (h : mv_Sb ls ls') : mv_RO (mv_ld t (mv_lk k ls) nx ls st σ) (mv_ld t (mv_lk k ls') nx ls' st σ) := by
  cases e : mv_lk k ls with
  | none =>
    unfold mv_ld
    split
    all_goals first | (next e9 => cases e9) | exact RO_none
  | some v =>
    rw [mv_Sb_lk h e]
    unfold mv_ld
    split
    all_goals first | exact RO_nx h | exact RO_none
theorem mv_p1 (i : Nat) (v : Value) : (fun q : Nat × Value => !(q.1 == i) && !(q.1 + 1 == i && q.2.category == 2)) (i, v) = false := by simp
theorem mv_p2 (i : Nat) (v : Value) : (fun q : Nat × Value => !(q.1 == i) && (!(q.1 == i + 1) && !(q.1 + 1 == i && q.2.category == 2))) (i, v) = false := by simp
theorem RO_so (h : mv_Sb ls ls') : mv_RO (mv_so t i nx ls st σ) (mv_so t i nx ls' st σ) := by
  unfold mv_so
  split
  all_goals first | exact RO_nx (mv_Sb_cons (mv_p1 i) h) | exact RO_nx (mv_Sb_cons (mv_p2 i) h) | exact RO_none
theorem RO_get (h : mv_Sb ls ls') : mv_RO (mv_get a b nx ls st σ) (mv_get a b nx ls' st σ) := by
  unfold mv_get
  (repeat' split) <;> first | exact RO_none | exact RO_nx h
theorem RO_put (h : mv_Sb ls ls') : mv_RO (mv_put a b nx ls st σ) (mv_put a b nx ls' st σ) := by
  unfold mv_put
  (repeat' split) <;> first | exact RO_none | exact RO_nx h
theorem RO_al (h : mv_Sb ls ls') : mv_RO (mv_al L xs t nx ls st σ) (mv_al L xs t nx ls' st σ) := by
  unfold mv_al
  (repeat' split) <;> first | exact RO_none | exact RO_nx h
theorem RO_aa (h : mv_Sb ls ls') : mv_RO (mv_aa L xs nx ls st σ) (mv_aa L xs nx ls' st σ) := by
  unfold mv_aa
  split
  · split
    · exact RO_none
    · exact RO_al h
  · exact RO_none
theorem RO_as (h : mv_Sb ls ls') : mv_RO (mv_as t nx ls st σ) (mv_as t nx ls' st σ) := by
  unfold mv_as
  (repeat' split) <;> first | exact RO_none | exact RO_nx h
theorem RO_aas (h : mv_Sb ls ls') : mv_RO (mv_aas nx ls st σ) (mv_aas nx ls' st σ) := by
  unfold mv_aas
  (repeat' split) <;> first | exact RO_none | exact RO_nx h
theorem RO_len (h : mv_Sb ls ls') : mv_RO (mv_len L nx ls st σ) (mv_len L nx ls' st σ) := by
  unfold mv_len
  (repeat' split) <;> first | exact RO_none | exact RO_nx h
theorem RO_new (h : mv_Sb ls ls') : mv_RO (mv_new a nx ls st σ) (mv_new a nx ls' st σ) := by
  unfold mv_new
  (repeat' split) <;> first | exact RO_none | exact RO_nx h
theorem RO_nwa (h : mv_Sb ls ls') : mv_RO (mv_nwa a nx ls st σ) (mv_nwa a nx ls' st σ) := by
  unfold mv_nwa
  (repeat' split) <;> first | exact RO_none | exact RO_nx h
theorem RO_sw2 {d lo hi : Int} {offs : Array Int} (h : mv_Sb ls ls') : mv_RO (mv_sw2 t nx d lo hi offs ls st σ) (mv_sw2 t nx d lo hi offs ls' st σ) := by
  unfold mv_sw2
  (repeat' split) <;> first | exact RO_none | exact RO_nx h
theorem RO_call {kk : Nat} (h : mv_Sb ls ls') : mv_RO (mv_call kk a b nx ls st σ) (mv_call kk a b nx ls' st σ) := by
  unfold mv_call
  split
  · split
    · exact RO_r
    · exact RO_none
  · (repeat' split) <;> first | exact RO_none | exact RO_nx h
theorem RO_r1 : mv_RO (mv_r1 a st σ) (mv_r1 a st σ) := by
  unfold mv_r1
  (repeat' split) <;> first | exact RO_none | exact RO_r
theorem RO_inc {k : Nat} {m : Int} (h : mv_Sb ls ls') : mv_RO (mv_inc k m nx ls st σ (mv_lk k ls)) (mv_inc k m nx ls' st σ (mv_lk k ls')) := by
  cases e : mv_lk k ls with
  | none => exact RO_none
  | some v =>
    rw [mv_Sb_lk h e]
    unfold mv_inc
    split
    · exact RO_nx (mv_Sb_cons (mv_p1 k) h)
    · exact RO_none
set_option maxHeartbeats 4000000 in
theorem RO_stp {r : mv_I} (h : mv_Sb ls ls') : mv_RO (mv_stp L xs r ls st σ) (mv_stp L xs r ls' st σ) := by
  obtain ⟨i, nx, a, b, w⟩ := r
  by_cases hi : ∃ k m, i = .iinc k m
  · obtain ⟨k, m, rfl⟩ := hi
    rw [ea_iinc, ea_iinc]
    exact RO_inc h
  · unfold mv_stp
    dsimp only
    split
    all_goals first
      | exact RO_none
      | exact RO_nx h
      | exact RO_ld h
      | exact RO_so h
      | exact RO_get h
      | exact RO_put h
      | exact RO_al h
      | exact RO_aa h
      | exact RO_as h
      | exact RO_aas h
      | exact RO_len h
      | exact RO_nwa h
      | exact RO_sw2 h
      | exact RO_call h
      | exact RO_r1
      | exact RO_r
      | exact absurd ⟨_, _, rfl⟩ hi
      | (split <;> first | exact RO_none | exact RO_nx h)
      | (split <;> first | (split <;> first | exact RO_none | exact RO_r) | exact RO_new h)
theorem mv_ex_sub : ∀ (f : Nat) (pc : Nat) (ls ls' : mv_V) (st : List Value) (σ : mv_S), mv_Sb ls ls' → mv_ex L xs C f M pc ls st σ = some res → mv_ex L xs C f M pc ls' st σ = some res := by
  intro f
  induction f with
  | zero => intro pc ls ls' st σ _ h; cases h
  | succ f ih =>
    intro pc ls ls' st σ hs h
    unfold mv_ex at h ⊢
    split at h
    · cases h
    · next r hr =>
      cases e : mv_stp L xs r ls st σ with
      | none => rw [e] at h; cases h
      | some q =>
        rw [e] at h
        obtain ⟨q', e', hq⟩ := RO_stp (L := L) (xs := xs) (r := r) (st := st) (σ := σ) hs q e
        rw [e']
        rcases q with ⟨p1, l1, s1, σ1⟩ | (x | ⟨M', as, rest⟩)
        · rcases q' with ⟨p2, l2, s2, σ2⟩ | y
          · obtain ⟨e1, h2, e2, e3⟩ := hq
            have e3 : σ1 = σ2 := e3
            subst e1 e2 e3
            exact ih _ _ _ _ _ h2 h
          · exact hq.elim
        · rcases q' with ⟨p2, l2, s2, σ2⟩ | y
          · exact hq.elim
          · have hq : Sum.inl x = y := hq
            subst hq
            exact h
        · rcases q' with ⟨p2, l2, s2, σ2⟩ | y
          · exact hq.elim
          · have hq : (Sum.inr (M', as, rest) : mv_R ⊕ (Nat × List Value × List Value)) = y := hq
            subst hq
            simp only at h ⊢
            cases hc : C M' as σ with
            | none => rw [hc] at h; cases h
            | some q =>
              rw [hc] at h
              obtain ⟨q1, σ'⟩ := q
              cases q1 with
              | inl v => exact ih _ _ _ _ _ hs h
              | inr E =>
                simp only [mv_af] at h ⊢
                split at h
                · next hn => rw [if_pos hn]; exact h
                · next hn =>
                  rw [if_neg hn]
                  split at h
                  · exact ih _ _ _ _ _ (mv_Sb_filter hs) h
                  · cases h
/-- fewer locals are enough -/
theorem mv_Ev_sub (h2 : mv_sb ls ls') (h1 : mv_ks (ls.map Prod.fst) = true) (h : mv_Ev L xs C M pc ls st σ res) : mv_Ev L xs C M pc ls' st σ res := by
  obtain ⟨f, hf⟩ := h
  exact ⟨f, mv_ex_sub f pc ls ls' st σ ⟨h1, mv_sb_S h2⟩ hf⟩
end SUB
