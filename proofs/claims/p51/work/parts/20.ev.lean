/-! RUNNING THE SMALL MACHINE BY REWRITING -/
section EV
variable {L : Nat} {xs : Nat → Int32} {C : Nat → List Value → mv_S → Option mv_R} {M pc nx a b w : Nat} {ls : mv_V} {st : List Value} {σ : mv_S} {res : mv_R}
noncomputable def mv_Ev (L : Nat) (xs : Nat → Int32) (C : Nat → List Value → mv_S → Option mv_R) (M pc : Nat) (ls : mv_V) (st : List Value) (σ : mv_S) (res : mv_R) : Prop := ∃ f, mv_ex L xs C f M pc ls st σ = some res
/-- behind a call -/
noncomputable def mv_K (L : Nat) (xs : Nat → Int32) (C : Nat → List Value → mv_S → Option mv_R) (M pc nx : Nat) (ls : mv_V) (rest : List Value) (res : mv_R) (o : Option mv_R) : Prop := match o with
  | none => False
  | some (.inl v, σ') => mv_Ev L xs C M nx ls (v.toList ++ rest) σ' res
  | some (.inr E, σ') => if mv_nh M = true then (.inr E, σ') = res else match mv_hd M pc E with
    | some (g, i) => mv_Ev L xs C M g (mv_f1 i ls) [] σ' res
    | none => False
noncomputable def mv_at2 (L : Nat) (xs : Nat → Int32) (C : Nat → List Value → mv_S → Option mv_R) (M pc nx : Nat) (ls : mv_V) (σ : mv_S) (res : mv_R) (o : Option mv_A) : Prop := match o with
  | none => False
  | some (.inl (pc', ls', st', σ')) => mv_Ev L xs C M pc' ls' st' σ' res
  | some (.inr (.inl q)) => q = res
  | some (.inr (.inr (M', as, rest))) => mv_K L xs C M pc nx ls rest res (C M' as σ)
theorem mv_Ev_row {r : mv_I} (h : mv_in M pc = some r) : mv_Ev L xs C M pc ls st σ res ↔ mv_at2 L xs C M pc r.2.1 ls σ res (mv_stp L xs r ls st σ) := by
  constructor
  · rintro ⟨f, hf⟩
    cases f with
    | zero => cases hf
    | succ f =>
      unfold mv_ex at hf
      rw [h] at hf
      simp only at hf
      cases hs : mv_stp L xs r ls st σ with
      | none => rw [hs] at hf; cases hf
      | some q =>
        rw [hs] at hf
        match q, hf with
        | .inl (pc', ls', st', σ'), hf => exact ⟨f, hf⟩
        | .inr (.inl q), hf => exact Option.some.inj hf
        | .inr (.inr (M', as, rest)), hf =>
          show mv_K L xs C M pc r.2.1 ls rest res (C M' as σ)
          have hf : mv_af (C M' as σ) _ _ = some res := hf
          cases hc : C M' as σ with
          | none => rw [hc] at hf; cases hf
          | some q =>
            rw [hc] at hf
            match q, hf with
            | (.inl v, σ'), hf => exact ⟨f, hf⟩
            | (.inr E, σ'), hf =>
              simp only [mv_af] at hf
              show if mv_nh M = true then ((Sum.inr E, σ') : mv_R) = res else _
              split at hf
              · next hn => rw [if_pos hn]; exact Option.some.inj hf
              · next hn =>
                rw [if_neg hn]
                cases hg : mv_hd M pc E with
                | none => rw [hg] at hf; cases hf
                | some gi =>
                  obtain ⟨g, i⟩ := gi
                  rw [hg] at hf
                  exact ⟨f, hf⟩
  · intro hh
    cases hs : mv_stp L xs r ls st σ with
    | none => rw [hs] at hh; exact hh.elim
    | some q =>
      rw [hs] at hh
      match q, hs, hh with
      | .inl (pc', ls', st', σ'), hs, ⟨f, hf⟩ => exact ⟨f + 1, by unfold mv_ex; rw [h]; simp only [hs]; exact hf⟩
      | .inr (.inl q), hs, hh => exact ⟨1, by unfold mv_ex; rw [h]; simp only [hs]; rw [show q = res from hh]⟩
      | .inr (.inr (M', as, rest)), hs, hh =>
        have hh : mv_K L xs C M pc r.2.1 ls rest res (C M' as σ) := hh
        cases hc : C M' as σ with
        | none => rw [hc] at hh; exact hh.elim
        | some q =>
          rw [hc] at hh
          match q, hc, hh with
          | (.inl v, σ'), hc, ⟨f, hf⟩ => exact ⟨f + 1, by unfold mv_ex; rw [h]; simp only [hs, hc, mv_af]; exact hf⟩
          | (.inr E, σ'), hc, hh =>
            have hh : if mv_nh M = true then ((Sum.inr E, σ') : mv_R) = res else (match mv_hd M pc E with | some (g, i) => mv_Ev L xs C M g (mv_f1 i ls) [] σ' res | none => False) := hh
            by_cases hn : mv_nh M = true
            · rw [if_pos hn] at hh
              exact ⟨1, by unfold mv_ex; rw [h]; simp only [hs, hc, mv_af, if_pos hn]; rw [hh]⟩
            · rw [if_neg hn] at hh
              cases hg : mv_hd M pc E with
              | none => rw [hg] at hh; exact hh.elim
              | some gi =>
                obtain ⟨g, i⟩ := gi
                rw [hg] at hh
                obtain ⟨f, hf⟩ := hh
                exact ⟨f + 1, by unfold mv_ex; rw [h]; simp only [hs, hc, mv_af, if_neg hn, hg]; exact hf⟩
theorem mv_ex_up : ∀ (f : Nat) (pc : Nat) (ls : mv_V) (st : List Value) (σ : mv_S), mv_ex L xs C f M pc ls st σ = some res → mv_ex L xs C (f + 1) M pc ls st σ = some res := by
  intro f
  induction f with
  | zero => intro pc ls st σ h; cases h
  | succ f ih =>
    intro pc ls st σ h
    unfold mv_ex at h ⊢
    split at h
    · cases h
    · next r hr =>
      split at h
      · cases h
      · exact ih _ _ _ _ h
      · exact h
      · next M' as rest hs =>
        cases hc : C M' as σ with
        | none => rw [hc] at h; cases h
        | some q =>
          rw [hc] at h
          obtain ⟨q1, σ'⟩ := q
          cases q1 with
          | inl v => exact ih _ _ _ _ h
          | inr E =>
            simp only [mv_af] at h ⊢
            split at h
            · next hn => rw [if_pos hn]; exact h
            · next hn =>
              rw [if_neg hn]
              split at h
              · exact ih _ _ _ _ h
              · cases h
theorem mv_ex_le {f g : Nat} (hfg : f ≤ g) (h : mv_ex L xs C f M pc ls st σ = some res) : mv_ex L xs C g M pc ls st σ = some res := by
  induction g with
  | zero => rw [Nat.le_zero.mp hfg] at h; exact h
  | succ g ih =>
    rcases Nat.lt_or_ge f (g + 1) with q | q
    · exact mv_ex_up g _ _ _ _ (ih (Nat.le_of_lt_succ q))
    · rw [show f = g + 1 by omega] at h; exact h
theorem mv_cl_of {d : Nat} {as : List Value} (h : mv_Ev L xs (mv_cl L xs d) M 0 (mv_il 0 as) [] σ res) : mv_cl L xs (d + 1) M as σ = some res := by
  obtain ⟨f, hf⟩ := h
  have hx : ∃ r, ∃ f, mv_ex L xs (mv_cl L xs d) f M 0 (mv_il 0 as) [] σ = some r := ⟨res, f, hf⟩
  unfold mv_cl
  rw [dif_pos hx]
  obtain ⟨g, hg⟩ := Classical.choose_spec hx
  have h1 := mv_ex_le (Nat.le_max_left f g) hf
  have h2 := mv_ex_le (Nat.le_max_right f g) hg
  rw [h1] at h2
  exact h2.symm
-- the rows of the small machine, one by one
theorem ea_iconst {n : Int} : mv_stp L xs (.iconst n, nx, a, b, w) ls st σ = some (.inl (nx, ls, .int (Int32.ofInt n) :: st, σ)) := rfl
theorem ea_bipush {n : Int} : mv_stp L xs (.bipush n, nx, a, b, w) ls st σ = some (.inl (nx, ls, .int (Int8.ofInt n).toInt32 :: st, σ)) := rfl
theorem ea_sipush {n : Int} : mv_stp L xs (.sipush n, nx, a, b, w) ls st σ = some (.inl (nx, ls, .int (Int16.ofInt n).toInt32 :: st, σ)) := rfl
theorem ea_iload_n {k : Fin 4} : mv_stp L xs (.iload_n k, nx, a, b, w) ls st σ = mv_ld 0 (mv_lk k ls) nx ls st σ := rfl
theorem ea_iload {k : Nat} : mv_stp L xs (.iload k, nx, a, b, w) ls st σ = mv_ld 0 (mv_lk k ls) nx ls st σ := rfl
theorem ea_aload_n {k : Fin 4} : mv_stp L xs (.aload_n k, nx, a, b, w) ls st σ = mv_ld 4 (mv_lk k ls) nx ls st σ := rfl
theorem ea_icmp {cd : ClassFile.Cond} {off : Int} {x y : Int32} : mv_stp L xs (.if_icmp cd off, nx, a, b, w) ls (.int y :: .int x :: st) σ = some (.inl (if mv_cmp cd x y = true then a else nx, ls, st, σ)) := rfl
theorem ea_goto {off : Int} : mv_stp L xs (.goto off, nx, a, b, w) ls st σ = some (.inl (a, ls, st, σ)) := rfl
theorem ea_ireturn {v : Int32} : mv_stp L xs (.ireturn, nx, 0, b, w) ls [.int v] σ = some (.inr (.inl (.inl (some (.int v)), σ))) := rfl
theorem ea_ireturnZ {v : Int32} : mv_stp L xs (.ireturn, nx, 1, b, w) ls [.int v] σ = if v = 0 ∨ v = 1 then some (.inr (.inl (.inl (some (.int v)), σ))) else none := by
  simp [mv_stp, mv_r1]
theorem ea_2n {pc' : Nat} {ls' : mv_V} {st' : List Value} {σ' : mv_S} : mv_at2 L xs C M pc nx ls σ res (some (.inl (pc', ls', st', σ'))) ↔ mv_Ev L xs C M pc' ls' st' σ' res := Iff.rfl
theorem ea_2f {q : mv_R} : mv_at2 L xs C M pc nx ls σ res (some (.inr (.inl q))) ↔ q = res := Iff.rfl
theorem ea_2c {M' : Nat} {as rest : List Value} : mv_at2 L xs C M pc nx ls σ res (some (.inr (.inr (M', as, rest)))) ↔ mv_K L xs C M pc nx ls rest res (C M' as σ) := Iff.rfl
theorem ea_if {c : Prop} [Decidable c] {x y : Nat} : mv_Ev L xs C M (if c then x else y) ls st σ res ↔ if c then mv_Ev L xs C M x ls st σ res else mv_Ev L xs C M y ls st σ res := by split <;> rfl
theorem eb_l0 {x : Int32} : mv_ld 0 (some (.int x)) nx ls st σ = some (.inl (nx, ls, .int x :: st, σ)) := rfl
theorem eb_l1 {x : Int64} : mv_ld 1 (some (.long x)) nx ls st σ = some (.inl (nx, ls, .long x :: st, σ)) := rfl
theorem eb_l2 {x : UInt32} : mv_ld 2 (some (.float x)) nx ls st σ = some (.inl (nx, ls, .float x :: st, σ)) := rfl
theorem eb_l3 {x : UInt64} : mv_ld 3 (some (.double x)) nx ls st σ = some (.inl (nx, ls, .double x :: st, σ)) := rfl
theorem eb_l4 {x : Nat} : mv_ld 4 (some (.ref x)) nx ls st σ = some (.inl (nx, ls, .ref x :: st, σ)) := rfl
theorem eb_l5 : mv_ld 4 (some .null) nx ls st σ = some (.inl (nx, ls, .null :: st, σ)) := rfl
theorem eb_s0 {i : Nat} {x : Int32} : mv_so 0 i nx ls (.int x :: st) σ = some (.inl (nx, (i, .int x) :: mv_f1 i ls, st, σ)) := rfl
theorem eb_s1 {i : Nat} {x : Int64} : mv_so 1 i nx ls (.long x :: st) σ = some (.inl (nx, (i, .long x) :: mv_f2 i ls, st, σ)) := rfl
theorem eb_s2 {i : Nat} {x : UInt32} : mv_so 2 i nx ls (.float x :: st) σ = some (.inl (nx, (i, .float x) :: mv_f1 i ls, st, σ)) := rfl
theorem eb_s3 {i : Nat} {x : UInt64} : mv_so 3 i nx ls (.double x :: st) σ = some (.inl (nx, (i, .double x) :: mv_f2 i ls, st, σ)) := rfl
theorem eb_s4 {i x : Nat} : mv_so 4 i nx ls (.ref x :: st) σ = some (.inl (nx, (i, .ref x) :: mv_f1 i ls, st, σ)) := rfl
theorem eb_s5 {i : Nat} : mv_so 4 i nx ls (.null :: st) σ = some (.inl (nx, (i, .null) :: mv_f1 i ls, st, σ)) := rfl
theorem fv0 : ((0 : Fin 4) : Nat) = 0 := rfl
theorem fv1 : ((1 : Fin 4) : Nat) = 1 := rfl
theorem fv2 : ((2 : Fin 4) : Nat) = 2 := rfl
theorem fv3 : ((3 : Fin 4) : Nat) = 3 := rfl
end EV
