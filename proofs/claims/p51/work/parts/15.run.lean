/-! A RUN OF THE SMALL MACHINE IS A RUN OF THE JVM -/
section RUN
variable {z : Nat} {kad : Nat → Nat} {dC : Nat → ClassId} {dI : Nat → Nat → Nat} {cA : Nat → ClassId} {L : Nat} {xs : Nat → Int32}
variable {p : Program} {l : Launch} {e : Env} {R : Room} {s : State} {m : MethodId} {args : Array Value} {below : List Frame} {meth : Method} {c : Code} {Q : State → Prop} {c0 s0 M : Nat}
theorem mv_sl_mono : ∀ {n k : Nat}, n ≤ k → mv_sl n ≤ mv_sl k := by
  intro n k h
  induction k with
  | zero => rw [Nat.le_zero.mp h]; exact Nat.le_refl _
  | succ k ih =>
    rcases Nat.lt_or_ge n (k + 1) with q | q
    · exact Nat.le_trans (ih (Nat.le_of_lt_succ q)) (Nat.le_add_right _ _)
    · rw [show n = k + 1 by omega]; exact Nat.le_refl _
/-- what is made only grows -/
def mv_le (σ τ : mv_S) : Prop := σ.1 ≤ τ.1 ∧ σ.2.1 ≤ τ.2.1
theorem mv_le_rf (σ : mv_S) : mv_le σ σ := ⟨Nat.le_refl _, Nat.le_refl _⟩
theorem mv_le_tr {σ τ υ : mv_S} (h : mv_le σ τ) (h2 : mv_le τ υ) : mv_le σ υ := ⟨Nat.le_trans h.1 h2.1, Nat.le_trans h.2 h2.2⟩
theorem mv_le_c {σ τ : mv_S} (h : mv_le σ τ) : mv_cc σ ≤ mv_cc τ ∧ mv_ss σ ≤ mv_ss τ := by
  have := mv_sl_mono h.2
  have := h.1
  have := h.2
  unfold mv_cc mv_ss
  omega
set_option maxHeartbeats 8000000 in
/-- how a frame ends -/
theorem mv_fin_inv {r : mv_I} {ls : mv_V} {st : List Value} {σ : mv_S} {q : mv_R} (h : mv_stp L xs r ls st σ = some (.inr (.inl q))) :
    (∃ v, q = (.inl v, σ)) ∨ ∃ i nx k w, r = (.new i, nx, 99, k, w) ∧ σ.2.1 = 142 ∧ (st.map (fun v => v.category)).sum ≤ 8 ∧ q = (.inr k, (σ.1 + 1, σ.2)) := by
  obtain ⟨i, nx, a, b, w⟩ := r
  simp only [mv_stp] at h
  split at h
  all_goals (try unfold mv_ld at h) <;> (try unfold mv_so at h) <;> (try unfold mv_get at h) <;> (try unfold mv_put at h) <;> (try unfold mv_aa at h) <;> (try unfold mv_al at h) <;> (try unfold mv_as at h) <;> (try unfold mv_aas at h) <;> (try unfold mv_len at h) <;> (try unfold mv_new at h) <;> (try unfold mv_nwa at h) <;> (try unfold mv_sw2 at h) <;> (try unfold mv_call at h) <;> (try unfold mv_r1 at h) <;> (try unfold mv_rt at h) <;> (try unfold mv_nx at h)
  all_goals repeat' split at h
  all_goals first
    | (cases h; done)
    | (cases h; exact Or.inl ⟨_, rfl⟩)
    | (next h99 hg => subst h99; cases h; exact Or.inr ⟨_, _, _, _, rfl, hg.1, hg.2, rfl⟩)
set_option maxHeartbeats 8000000 in
theorem mv_call_inv {r : mv_I} {ls : mv_V} {st as rest : List Value} {σ : mv_S} {M' : Nat} (h : mv_stp L xs r ls st σ = some (.inr (.inr (M', as, rest)))) :
    ∃ i nx a b w, (r = (.invokevirtual i, nx, a, b, w) ∧ mv_call 1 a b nx ls st σ = some (.inr (.inr (M', as, rest)))) ∨ (r = (.invokestatic i, nx, a, b, w) ∧ mv_call 0 a b nx ls st σ = some (.inr (.inr (M', as, rest)))) ∨ (r = (.invokespecial i, nx, a, b, w) ∧ mv_call 2 a b nx ls st σ = some (.inr (.inr (M', as, rest)))) := by
  obtain ⟨i, nx, a, b, w⟩ := r
  simp only [mv_stp] at h
  split at h
  all_goals first
    | exact ⟨_, _, _, _, _, Or.inl ⟨rfl, h⟩⟩
    | exact ⟨_, _, _, _, _, Or.inr (Or.inl ⟨rfl, h⟩)⟩
    | exact ⟨_, _, _, _, _, Or.inr (Or.inr ⟨rfl, h⟩)⟩
    | skip
  all_goals exfalso
  all_goals (try unfold mv_ld at h) <;> (try unfold mv_so at h) <;> (try unfold mv_get at h) <;> (try unfold mv_put at h) <;> (try unfold mv_aa at h) <;> (try unfold mv_al at h) <;> (try unfold mv_as at h) <;> (try unfold mv_aas at h) <;> (try unfold mv_len at h) <;> (try unfold mv_new at h) <;> (try unfold mv_nwa at h) <;> (try unfold mv_sw2 at h) <;> (try unfold mv_r1 at h) <;> (try unfold mv_rt at h) <;> (try unfold mv_nx at h)
  all_goals repeat' split at h
  all_goals cases h
theorem mv_ex_mono {C : Nat → List Value → mv_S → Option mv_R} (hCm : ∀ M' as σ r, C M' as σ = some r → mv_le σ r.2) {res : mv_R} : ∀ (f pc : Nat) (ls : mv_V) (st : List Value) (σ : mv_S), mv_ex L xs C f M pc ls st σ = some res → mv_le σ res.2 := by
  intro f
  induction f with
  | zero => intro pc ls st σ h; cases h
  | succ f ih =>
    intro pc ls st σ h
    unfold mv_ex at h
    split at h
    · cases h
    · next r hr =>
      split at h
      · cases h
      · next pc' ls' st' σ' hs => exact mv_le_tr (mv_stp_mono hs) (ih _ _ _ _ h)
      · next q hs =>
        cases h
        rcases mv_fin_inv hs with ⟨v, rfl⟩ | ⟨i, nx, k, w, -, -, -, rfl⟩
        · exact mv_le_rf σ
        · exact ⟨Nat.le_succ _, Nat.le_refl _⟩
      · next M' as rest hs =>
        cases hc : C M' as σ with
        | none => rw [hc] at h; cases h
        | some q =>
          obtain ⟨q1, σ'⟩ := q
          have h1 := hCm _ _ _ _ hc
          rw [hc] at h
          cases q1 with
          | inl v => exact mv_le_tr h1 (ih _ _ _ _ h)
          | inr E =>
            simp only [mv_af] at h
            split at h
            · cases h; exact h1
            · split at h
              · exact mv_le_tr h1 (ih _ _ _ _ h)
              · cases h
end RUN
