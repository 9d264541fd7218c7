/-! WHOLE CALLS: mv_cl is what the methods do -/
section CL
variable {z : Nat} {kad : Nat → Nat} {dC : Nat → ClassId} {dI : Nat → Nat → Nat} {cA : Nat → ClassId} {L : Nat} {xs : Nat → Int32}
theorem mv_cl_ex {d M : Nat} {as : List Value} {σ : mv_S} {r : mv_R} (h : mv_cl L xs (d + 1) M as σ = some r) : ∃ f, mv_ex L xs (mv_cl L xs d) f M 0 (mv_il 0 as) [] σ = some r := by
  unfold mv_cl at h
  by_cases hx : ∃ r, ∃ f, mv_ex L xs (mv_cl L xs d) f M 0 (mv_il 0 as) [] σ = some r
  · rw [dif_pos hx] at h
    have h2 := Classical.choose_spec hx
    rw [Option.some.inj h] at h2
    exact h2
  · rw [dif_neg hx] at h
    cases h
theorem mv_cl_mono : ∀ (d M : Nat) (as : List Value) (σ : mv_S) (r : mv_R), mv_cl L xs d M as σ = some r → mv_le σ r.2 := by
  intro d
  induction d with
  | zero => intro M as σ r h; cases h
  | succ d ih =>
    intro M as σ r h
    obtain ⟨f, hf⟩ := mv_cl_ex h
    exact mv_ex_mono (L := L) (xs := xs) ih f _ _ _ _ hf
theorem mv_il_args (ad : Nat → Nat) : ∀ (i : Nat) (as : List Value), mv_lm ad (mv_il i as) = lv_args i (as.map (mv_cv ad))
  | _, [] => rfl
  | i, v :: as => by
    have e : (if (mv_cv ad v).category = 2 then i + 2 else i + 1) = i + v.category := by
      rw [mv_cv_cat]
      cases v <;> rfl
    show (i, mv_cv ad v) :: mv_lm ad (mv_il (i + v.category) as) = (i, mv_cv ad v) :: lv_args (if (mv_cv ad v).category = 2 then i + 2 else i + 1) (as.map (mv_cv ad))
    rw [mv_il_args ad _ as, e]
theorem mv_sl_len (ad : Nat → Nat) : ∀ (as : List Value), (lg_sl (as.map (mv_cv ad))).length = (as.map (fun v => v.category)).sum
  | [] => rfl
  | v :: as => by
    have ih := mv_sl_len ad as
    show ((if (mv_cv ad v).category = 2 then [Slot.val (mv_cv ad v), .second] else [.val (mv_cv ad v)]) ++ lg_sl (as.map (mv_cv ad))).length = v.category + (as.map (fun v => v.category)).sum
    rw [List.length_append, ih, mv_cv_cat]
    cases v <;> rfl
end CL
