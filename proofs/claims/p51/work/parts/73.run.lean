/-! RUNNING THE LAW BY REWRITING, UP TO CHOSEN PLACES -/
def mo_bd (σ : mv_S) : Prop := mv_cc σ ≤ 500000 ∧ mv_ss σ ≤ 5000000
noncomputable def mo_run (L : Nat) (xs : Nat → Int32) (C : Nat → List Value → mv_S → Option mv_R) (S : Nat → Bool) (P : Nat → mv_V → List Value → mv_S → Prop) : Nat → Nat → mv_V → List Value → mv_S → Prop
  | 0, _, _, _, _ => False
  | f + 1, pc, ls, st, σ => if S pc = true then P pc ls st σ else match mv_in k_L_law pc with
    | none => False
    | some r => match mv_stp L xs r ls st σ with
      | none => False
      | some (.inl (pc', ls', st', σ')) => mo_run L xs C S P f pc' ls' st' σ'
      | some (.inr (.inl (v, σ'))) => v = .inl (some (.int 1)) ∧ mo_bd σ
      | some (.inr (.inr (M', as, rest))) => match C M' as σ with
        | some (.inl v, σ') => mo_run L xs C S P f r.2.1 ls (v.toList ++ rest) σ'
        | _ => False
def mo_Ev (L : Nat) (xs : Nat → Int32) (C : Nat → List Value → mv_S → Option mv_R) (S : Nat → Bool) (P : Nat → mv_V → List Value → mv_S → Prop) (pc : Nat) (ls : mv_V) (st : List Value) (σ : mv_S) : Prop := ∃ f, mo_run L xs C S P f pc ls st σ
section MR
variable {L : Nat} {xs : Nat → Int32} {C : Nat → List Value → mv_S → Option mv_R} {S : Nat → Bool} {P : Nat → mv_V → List Value → mv_S → Prop} {pc nx : Nat} {ls : mv_V} {st : List Value} {σ : mv_S}
def mo_K (L : Nat) (xs : Nat → Int32) (C : Nat → List Value → mv_S → Option mv_R) (S : Nat → Bool) (P : Nat → mv_V → List Value → mv_S → Prop) (nx : Nat) (ls : mv_V) (rest : List Value) (o : Option mv_R) : Prop := match o with
  | some (.inl v, σ') => mo_Ev L xs C S P nx ls (v.toList ++ rest) σ'
  | _ => False
def mo_a2 (L : Nat) (xs : Nat → Int32) (C : Nat → List Value → mv_S → Option mv_R) (S : Nat → Bool) (P : Nat → mv_V → List Value → mv_S → Prop) (nx : Nat) (ls : mv_V) (σ : mv_S) (o : Option mv_A) : Prop := match o with
  | none => False
  | some (.inl (pc', ls', st', σ')) => mo_Ev L xs C S P pc' ls' st' σ'
  | some (.inr (.inl (v, _))) => v = .inl (some (.int 1)) ∧ mo_bd σ
  | some (.inr (.inr (M', as, rest))) => mo_K L xs C S P nx ls rest (C M' as σ)
theorem mo_Ev_stop (h : S pc = true) : mo_Ev L xs C S P pc ls st σ ↔ P pc ls st σ := by
  constructor
  · rintro ⟨f, hf⟩
    cases f with
    | zero => exact hf.elim
    | succ f => unfold mo_run at hf; rw [if_pos h] at hf; exact hf
  · intro hp
    exact ⟨1, by unfold mo_run; rw [if_pos h]; exact hp⟩
theorem mo_Ev_row (hS : S pc = false) {r : mv_I} (h : mv_in k_L_law pc = some r) : mo_Ev L xs C S P pc ls st σ ↔ mo_a2 L xs C S P r.2.1 ls σ (mv_stp L xs r ls st σ) := by
  have hS9 : ¬ S pc = true := by rw [hS]; exact Bool.false_ne_true
  constructor
  · rintro ⟨f, hf⟩
    cases f with
    | zero => exact hf.elim
    | succ f =>
      unfold mo_run at hf
      rw [if_neg hS9, h] at hf
      simp only at hf
      cases hs : mv_stp L xs r ls st σ with
      | none => rw [hs] at hf; exact hf.elim
      | some q =>
        rw [hs] at hf
        match q, hf with
        | .inl (pc', ls', st', σ'), hf => exact ⟨f, hf⟩
        | .inr (.inl (v, σ')), hf => exact hf
        | .inr (.inr (M', as, rest)), hf =>
          show mo_K L xs C S P r.2.1 ls rest (C M' as σ)
          have hf : (match C M' as σ with | some (.inl v, σ') => mo_run L xs C S P f r.2.1 ls (v.toList ++ rest) σ' | _ => False) := hf
          cases hc : C M' as σ with
          | none => rw [hc] at hf; exact hf.elim
          | some q =>
            rw [hc] at hf
            match q, hf with
            | (.inl v, σ'), hf => exact ⟨f, hf⟩
  · intro hh
    cases hs : mv_stp L xs r ls st σ with
    | none => rw [hs] at hh; exact hh.elim
    | some q =>
      rw [hs] at hh
      match q, hs, hh with
      | .inl (pc', ls', st', σ'), hs, ⟨f, hf⟩ => exact ⟨f + 1, by unfold mo_run; rw [if_neg hS9, h]; simp only [hs]; exact hf⟩
      | .inr (.inl (v, σ')), hs, hh => exact ⟨1, by unfold mo_run; rw [if_neg hS9, h]; simp only [hs]; exact hh⟩
      | .inr (.inr (M', as, rest)), hs, hh =>
        have hh : mo_K L xs C S P r.2.1 ls rest (C M' as σ) := hh
        cases hc : C M' as σ with
        | none => rw [hc] at hh; exact hh.elim
        | some q =>
          rw [hc] at hh
          match q, hc, hh with
          | (.inl v, σ'), hc, ⟨f, hf⟩ => exact ⟨f + 1, by unfold mo_run; rw [if_neg hS9, h]; simp only [hs, hc]; exact hf⟩
theorem oa_2n {pc' : Nat} {ls' : mv_V} {st' : List Value} {σ' : mv_S} : mo_a2 L xs C S P nx ls σ (some (.inl (pc', ls', st', σ'))) ↔ mo_Ev L xs C S P pc' ls' st' σ' := Iff.rfl
theorem oa_2f {v : Option Value ⊕ Nat} {σ' : mv_S} : mo_a2 L xs C S P nx ls σ (some (.inr (.inl (v, σ')))) ↔ v = .inl (some (.int 1)) ∧ mo_bd σ := Iff.rfl
theorem oa_2c {M' : Nat} {as rest : List Value} : mo_a2 L xs C S P nx ls σ (some (.inr (.inr (M', as, rest)))) ↔ mo_K L xs C S P nx ls rest (C M' as σ) := Iff.rfl
theorem oa_if {c : Prop} [Decidable c] {x y : Nat} : mo_Ev L xs C S P (if c then x else y) ls st σ ↔ if c then mo_Ev L xs C S P x ls st σ else mo_Ev L xs C S P y ls st σ := by split <;> rfl
theorem ok_v {v : Value} {σ' : mv_S} {rest : List Value} : mo_K L xs C S P nx ls rest (some (.inl (some v), σ')) ↔ mo_Ev L xs C S P nx ls (v :: rest) σ' := Iff.rfl
theorem ok_n {σ' : mv_S} {rest : List Value} : mo_K L xs C S P nx ls rest (some (.inl none, σ')) ↔ mo_Ev L xs C S P nx ls rest σ' := Iff.rfl
theorem ok_i {c : Prop} [Decidable c] {x y : Option mv_R} {rest : List Value} : mo_K L xs C S P nx ls rest (if c then x else y) ↔ if c then mo_K L xs C S P nx ls rest x else mo_K L xs C S P nx ls rest y := by split <;> rfl
end MR
section MS
variable {z : Nat} {kad0 kad sec : Nat → Nat} {dC : Nat → ClassId} {dI : Nat → Nat → Nat} {cA : Nat → ClassId} {L : Nat} {xs : Nat → Int32}
variable {p : Program} {l : Launch} {e : Env} {R : Room} {s0 s : State} {m : MethodId} {args : Array Value} {below : List Frame} {meth : Method} {c : Code} {Q : State → Prop} {D : va_G} {cB : ClassId} {d1 d2 : Nat} {ka kv : Nat → Nat}
variable {τ : mo_S} {d : Nat} {S : Nat → Bool} {P : Nat → mv_V → List Value → mv_S → Prop}
theorem mv_stp_le {r : mv_I} {ls ls' : mv_V} {st st' : List Value} {σ σ' : mv_S} {pc' : Nat} (hs : mv_stp L xs r ls st σ = some (.inl (pc', ls', st', σ'))) : mv_le σ σ' := by
  exact mv_stp_mono hs
/-- what is run so, the JVM does -/
theorem mo_sound (hG : mo_G z kad0 dC dI cA L xs p s0 m args meth c D cB d1 d2 ka kv) (hlt : l.stackTraces = false) (hd : d ≤ 30) (hw : τ.2.1 ≤ 1500) (hP : ∀ pc ls st σ, S pc = true → P pc ls st σ → mo_bd σ ∧ mo_W z kad0 dC dI cA p l e s0 m args below meth c D cB τ pc ls st σ) :
    ∀ (f pc : Nat) (ls : mv_V) (st : List Value) (σ : mv_S), mo_run L xs (mv_cl L xs d) S P f pc ls st σ → mo_bd σ ∧ mo_W z kad0 dC dI cA p l e s0 m args below meth c D cB τ pc ls st σ := by
  intro f
  induction f with
  | zero => intro pc ls st σ h; exact h.elim
  | succ f ih =>
    intro pc ls st σ h
    unfold mo_run at h
    split at h
    · next hS => exact hP pc ls st σ hS h
    · split at h
      · exact h.elim
      · next r hin =>
        split at h
        · exact h.elim
        · next pc' ls' st' σ' hs =>
          obtain ⟨⟨b1, b2⟩, k⟩ := ih _ _ _ _ h
          have hle := mv_le_c (mv_stp_le hs)
          exact ⟨⟨by omega, by omega⟩, mo_row hG hin hs hle ⟨b1, b2, hw⟩ k⟩
        · next v σ' hs =>
          obtain ⟨hv, hb⟩ := h
          subst hv
          exact ⟨hb, mo_ret hG hin hs rfl⟩
        · next M' as rest hs =>
          split at h
          · next v σ' hc =>
            obtain ⟨⟨b1, b2⟩, k⟩ := ih _ _ _ _ h
            have hle : mv_cc σ ≤ mv_cc σ' ∧ mv_ss σ ≤ mv_ss σ' := mv_le_c (mv_cl_mono (L := L) (xs := xs) d M' as σ _ hc)
            exact ⟨⟨by omega, by omega⟩, mo_call hG hlt hin hs hd hc ⟨b1, b2, hw⟩ k⟩
          · exact h.elim
theorem mo_go (hG : mo_G z kad0 dC dI cA L xs p s0 m args meth c D cB d1 d2 ka kv) (hlt : l.stackTraces = false) (hd : d ≤ 30) (hw : τ.2.1 ≤ 1500) (S : Nat → Bool) {pc : Nat} {ls : mv_V} {st : List Value} {σ : mv_S}
    (h : mo_Ev L xs (mv_cl L xs d) S (fun pc ls st σ => mo_bd σ ∧ mo_W z kad0 dC dI cA p l e s0 m args below meth c D cB τ pc ls st σ) pc ls st σ) : mo_bd σ ∧ mo_W z kad0 dC dI cA p l e s0 m args below meth c D cB τ pc ls st σ := by
  obtain ⟨f, hf⟩ := h
  exact mo_sound hG hlt hd hw (fun _ _ _ _ _ h => h) f pc ls st σ hf
end MS
