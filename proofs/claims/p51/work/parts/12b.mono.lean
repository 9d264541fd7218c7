/-! WHAT IS MADE ONLY GROWS -/
section MONO
variable {L : Nat} {xs : Nat → Int32}
theorem mv_nx_m {nx pc : Nat} {ls ls' : mv_V} {st st' : List Value} {σ τ σ' : mv_S} (h : mv_nx nx ls st τ = some (.inl (pc, ls', st', σ'))) (hs : σ.1 ≤ τ.1 ∧ σ.2.1 ≤ τ.2.1) : σ.1 ≤ σ'.1 ∧ σ.2.1 ≤ σ'.2.1 := by
  obtain ⟨-, -, -, rfl⟩ := mv_nx_inv h
  exact hs
set_option maxHeartbeats 8000000 in
theorem mv_stp_mono {r : mv_I} {ls ls' : mv_V} {st st' : List Value} {σ σ' : mv_S} {pc' : Nat} (h : mv_stp L xs r ls st σ = some (.inl (pc', ls', st', σ'))) : σ.1 ≤ σ'.1 ∧ σ.2.1 ≤ σ'.2.1 := by
  have R1 : σ.1 ≤ σ.1 ∧ σ.2.1 ≤ σ.2.1 := ⟨Nat.le_refl _, Nat.le_refl _⟩
  have R2 : σ.1 ≤ σ.1 ∧ σ.2.1 ≤ σ.2.1 + 1 := ⟨Nat.le_refl _, Nat.le_succ _⟩
  obtain ⟨i, nx, a, b, w⟩ := r
  simp only [mv_stp] at h
  split at h
  all_goals first
    | exact mv_nx_m h R1
    | skip
  all_goals (try unfold mv_ld at h) <;> (try unfold mv_so at h) <;> (try unfold mv_get at h) <;> (try unfold mv_put at h) <;> (try unfold mv_aa at h) <;> (try unfold mv_al at h) <;> (try unfold mv_as at h) <;> (try unfold mv_aas at h) <;> (try unfold mv_len at h) <;> (try unfold mv_new at h) <;> (try unfold mv_nwa at h) <;> (try unfold mv_sw2 at h) <;> (try unfold mv_call at h) <;> (try unfold mv_r1 at h) <;> (try unfold mv_rt at h)
  all_goals repeat' split at h
  all_goals first
    | exact mv_nx_m h R1
    | exact mv_nx_m h R2
    | cases h
end MONO
