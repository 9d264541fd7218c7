/-! COMMANDS: class and reference carry them out alike -/
section CMD
variable {A B : Int → Int} {p q r : Int}
theorem zfOf_L {k : Nat} (hL : zL A B) (h0 : 0 ≤ A 0) (h5 : A 0 ≤ 5) : zfOf k A p q r = zfOf k B p q r := by
  obtain ⟨e0, e1, e2, e3, hb, hf⟩ := hL
  have c1 : zfNew A p q r = zfNew B p q r := by unfold zfNew; rw [e0]
  have c2 : zfGate A p q = zfGate B p q := by
    unfold zfGate
    rw [← e0]
    by_cases h : 0 ≤ p ∧ p < A 0
    · rw [if_pos h, if_pos h, hb p 5 h.1 h.2 (by omega) (by omega) (by omega)]
    · rw [if_neg h, if_neg h]
  have c3 : zfAt A p q 0 99 = zfAt B p q 0 99 := by unfold zfAt; rw [e0]
  have c4 : zfHand A p = zfHand B p := by
    unfold zfHand
    rw [← e0]
    by_cases h : 0 ≤ p ∧ p < A 0
    · rw [if_pos h, if_pos h, hb p 5 h.1 h.2 (by omega) (by omega) (by omega)]
    · rw [if_neg h, if_neg h]
  have c5 : zfRain A p = zfRain B p := by unfold zfRain; rw [e2]
  have c6 : zfPour A p q = zfPour B p q := by
    unfold zfPour
    rw [← e0]
    by_cases h : 0 ≤ p ∧ p < A 0
    · rw [if_pos h, if_pos h, hb p 0 h.1 h.2 (by omega) (by omega) (by omega), hb p 1 h.1 h.2 (by omega) (by omega) (by omega)]
    · rw [if_neg h, if_neg h]
  unfold zfOf
  split <;> first | exact c1 | exact c2 | exact c3 | exact c4 | exact c5 | exact c6 | rfl
theorem zBeg_at {i p q r j : Int} {A : Int → Int} : zBeg i p q r A j = if j = 6 + 9 * i + 0 then p else if j = 6 + 9 * i + 2 then q else if j = 6 + 9 * i + 3 then r else if 6 + 9 * i ≤ j ∧ j < 6 + 9 * i + 9 then 0 else A j := by
  unfold zBeg upR
  repeat' split
  all_goals omega
theorem zDf_shift : ∀ (n : Nat) {k s : Int} {B B' : Int → Int}, (∀ i, k ≤ i → i < k + n → B' (51 + i) = B (51 + i + 1)) → zDf n (k + 1) s B = zDf n k s B'
  | 0, _, _, _, _, _ => rfl
  | n + 1, k, s, B, B', h => by
    rw [zDf, zDf, h k (by omega) (by omega), Int.add_assoc 51 k 1]
    exact zDf_shift n (fun i h1 h2 => h i (by omega) (by omega))
theorem zDf_congr : ∀ (n : Nat) {k s : Int} {B B' : Int → Int}, (∀ i, k ≤ i → i < k + n → B' (51 + i) = B (51 + i)) → zDf n k s B = zDf n k s B'
  | 0, _, _, _, _, _ => rfl
  | n + 1, k, s, B, B', h => by
    rw [zDf, zDf, h k (by omega) (by omega)]
    exact zDf_congr n (fun i h1 h2 => h i (by omega) (by omega))
theorem zSm_L {w : Int} {n : Nat} {i s : Int} (h : ∀ k, i ≤ k → k < i + n → A (6 + 9 * k + w) = B (6 + 9 * k + w)) : zSm w n i s A = zSm w n i s B := by
  rw [zSm_S, zSm_S, zS_eq n h]
theorem zWF_up {j v m : Int} (h : zWF A m) (h0 : ¬ j = 0) (h2 : ¬ j = 2) (hb : ∀ k w, 0 ≤ k → k < A 0 → 0 ≤ w → w < 9 → ¬ j = 6 + 9 * k + w) (hf : ∀ i, 0 ≤ i → i < A 2 → ¬ j = 51 + i) : zWF (upR A j v) m := by
  obtain ⟨a0, a5, a2, a12, ak, af⟩ := h
  have e0 : upR A j v 0 = A 0 := upR_ne _ _ (fun q => h0 q.symm)
  have e2 : upR A j v 2 = A 2 := upR_ne _ _ (fun q => h2 q.symm)
  refine ⟨by omega, by omega, by omega, by omega, fun k q0 q1 => ?_, fun i q0 q1 => ?_⟩
  · exact zOK_eq (fun w q2 q3 => upR_ne _ _ (fun q => hb k w q0 (by omega) q2 q3 q.symm)) (ak k q0 (by omega))
  · rw [upR_ne _ _ (fun q => hf i q0 (by omega) q.symm)]
    exact af i q0 (by omega)
theorem zWF_field {b w v m : Int} (h : zWF A m) (hb0 : 0 ≤ b) (hb : b < A 0) (w0 : 0 ≤ w) (w9 : w < 9) (hv : (w = 1 → 0 ≤ v ∧ v ≤ m) ∧ (w = 4 → 0 ≤ v ∧ v ≤ 5) ∧ (w = 5 → v = 0 ∨ v = 1) ∧ (w = 6 → 0 ≤ v ∧ v ≤ 99) ∧ ¬ w = 0 ∧ ¬ w = 2 ∧ ¬ w = 3) : zWF (upR A (6 + 9 * b + w) v) m := by
  obtain ⟨a0, a5, a2, a12, ak, af⟩ := h
  have e0 : upR A (6 + 9 * b + w) v 0 = A 0 := upR_ne _ _ (by omega)
  have e2 : upR A (6 + 9 * b + w) v 2 = A 2 := upR_ne _ _ (by omega)
  refine ⟨by omega, by omega, by omega, by omega, fun k q0 q1 => ?_, fun i q0 q1 => ?_⟩
  · by_cases e : k = b
    · subst e
      have hk := ak k q0 (by omega)
      have en : ∀ u, ¬ u = w → upR A (6 + 9 * k + w) v (6 + 9 * k + u) = A (6 + 9 * k + u) := fun u hu => upR_ne _ _ (by omega)
      have hw : w = 1 ∨ w = 4 ∨ w = 5 ∨ w = 6 ∨ w = 7 ∨ w = 8 := by omega
      unfold zOK at hk ⊢
      rcases hw with rfl | rfl | rfl | rfl | rfl | rfl
      · rw [en 0 (by omega), upR_eq, en 2 (by omega), en 3 (by omega), en 4 (by omega), en 5 (by omega), en 6 (by omega)]; omega
      · rw [en 0 (by omega), en 1 (by omega), en 2 (by omega), en 3 (by omega), upR_eq, en 5 (by omega), en 6 (by omega)]; omega
      · rw [en 0 (by omega), en 1 (by omega), en 2 (by omega), en 3 (by omega), en 4 (by omega), upR_eq, en 6 (by omega)]; omega
      · rw [en 0 (by omega), en 1 (by omega), en 2 (by omega), en 3 (by omega), en 4 (by omega), en 5 (by omega), upR_eq]; omega
      · rw [en 0 (by omega), en 1 (by omega), en 2 (by omega), en 3 (by omega), en 4 (by omega), en 5 (by omega), en 6 (by omega)]; omega
      · rw [en 0 (by omega), en 1 (by omega), en 2 (by omega), en 3 (by omega), en 4 (by omega), en 5 (by omega), en 6 (by omega)]; omega
    · exact zOK_eq (fun u q2 q3 => upR_ne _ _ (by omega)) (ak k q0 (by omega))
  · rw [upR_ne _ _ (by omega)]
    exact af i q0 (by omega)
theorem zCo_wf : ∀ {k : Nat}, k < 8 → zWF A 99 → zfOf k A p q r = 1010 → zWF (zCo k A p q r) 99
  | 0, _, h, hf => by
    obtain ⟨a0, a5, a2, a12, ak, af⟩ := id h
    unfold zfOf zfNew at hf
    simp only at hf
    repeat' split at hf
    all_goals try omega
    have e := fun j => zBeg_at (i := A 0) (p := p) (q := q) (r := r) (j := j) (A := A)
    unfold zCo
    simp only
    have e0 : upR (zBeg (A 0) p q r A) 0 (A 0 + 1) 0 = A 0 + 1 := upR_eq _ _ _
    have e2 : upR (zBeg (A 0) p q r A) 0 (A 0 + 1) 2 = A 2 := by rw [upR_ne _ _ (by omega), e, if_neg (by omega), if_neg (by omega), if_neg (by omega), if_neg (by omega)]
    refine ⟨by omega, by omega, by omega, by omega, fun k q0 q1 => ?_, fun i q0 q1 => ?_⟩
    · by_cases ek : k = A 0
      · subst ek
        have v0 : upR (zBeg (A 0) p q r A) 0 (A 0 + 1) (6 + 9 * A 0 + 0) = p := by rw [upR_ne _ _ (by omega), e, if_pos rfl]
        have v1 : upR (zBeg (A 0) p q r A) 0 (A 0 + 1) (6 + 9 * A 0 + 1) = 0 := by rw [upR_ne _ _ (by omega), e, if_neg (by omega), if_neg (by omega), if_neg (by omega), if_pos (by omega)]
        have v2 : upR (zBeg (A 0) p q r A) 0 (A 0 + 1) (6 + 9 * A 0 + 2) = q := by rw [upR_ne _ _ (by omega), e, if_neg (by omega), if_pos rfl]
        have v3 : upR (zBeg (A 0) p q r A) 0 (A 0 + 1) (6 + 9 * A 0 + 3) = r := by rw [upR_ne _ _ (by omega), e, if_neg (by omega), if_neg (by omega), if_pos rfl]
        have v4 : upR (zBeg (A 0) p q r A) 0 (A 0 + 1) (6 + 9 * A 0 + 4) = 0 := by rw [upR_ne _ _ (by omega), e, if_neg (by omega), if_neg (by omega), if_neg (by omega), if_pos (by omega)]
        have v5 : upR (zBeg (A 0) p q r A) 0 (A 0 + 1) (6 + 9 * A 0 + 5) = 0 := by rw [upR_ne _ _ (by omega), e, if_neg (by omega), if_neg (by omega), if_neg (by omega), if_pos (by omega)]
        have v6 : upR (zBeg (A 0) p q r A) 0 (A 0 + 1) (6 + 9 * A 0 + 6) = 0 := by rw [upR_ne _ _ (by omega), e, if_neg (by omega), if_neg (by omega), if_neg (by omega), if_pos (by omega)]
        unfold zOK
        rw [v0, v1, v2, v3, v4, v5, v6]
        omega
      · refine zOK_eq (fun w q2 q3 => ?_) (ak k q0 (by omega))
        rw [upR_ne _ _ (by omega), e, if_neg (by omega), if_neg (by omega), if_neg (by omega), if_neg (by omega)]
    · rw [upR_ne _ _ (by omega), e, if_neg (by omega), if_neg (by omega), if_neg (by omega), if_neg (by omega)]
      exact af i q0 (by omega)
  | 1, _, h, hf => by
    unfold zfOf zfGate at hf
    simp only at hf
    repeat' split at hf
    all_goals try omega
    exact zWF_field h (by omega) (by omega) (by omega) (by omega) (by omega)
  | 2, _, h, hf => by
    unfold zfOf zfAt zfR at hf
    simp only at hf
    repeat' split at hf
    all_goals try omega
    have h1 := zWF_field (b := p) (w := 5) (v := 1) h (by omega) (by omega) (by omega) (by omega) (by omega)
    exact zWF_field h1 (by omega) (by rw [upR_ne _ _ (by omega)]; omega) (by omega) (by omega) (by omega)
  | 3, _, h, hf => by
    unfold zfOf zfHand at hf
    simp only at hf
    repeat' split at hf
    all_goals try omega
    exact zWF_field h (by omega) (by omega) (by omega) (by omega) (by omega)
  | 4, _, h, hf => by
    unfold zfOf zfRain at hf
    simp only at hf
    repeat' split at hf
    all_goals try omega
    obtain ⟨a0, a5, a2, a12, ak, af⟩ := id h
    unfold zCo
    simp only
    have e0 : upR (upR A (51 + A 2) p) 2 (A 2 + 1) 0 = A 0 := by rw [upR_ne _ _ (by omega), upR_ne _ _ (by omega)]
    have e2 : upR (upR A (51 + A 2) p) 2 (A 2 + 1) 2 = A 2 + 1 := upR_eq _ _ _
    refine ⟨by omega, by omega, by omega, by omega, fun k q0 q1 => ?_, fun i q0 q1 => ?_⟩
    · exact zOK_eq (fun w q2 q3 => by rw [upR_ne _ _ (by omega), upR_ne _ _ (by omega)]) (ak k q0 (by omega))
    · rw [upR_ne _ _ (by omega)]
      by_cases e : i = A 2
      · subst e; rw [upR_eq]; omega
      · rw [upR_ne _ _ (by omega)]; exact af i q0 (by omega)
  | 5, _, h, _ => by
    obtain ⟨a0, a5, a2, a12, ak, af⟩ := id h
    unfold zCo
    simp only
    have e0 : upR A 2 0 0 = A 0 := upR_ne _ _ (by omega)
    have e2 : upR A 2 0 2 = 0 := upR_eq _ _ _
    refine ⟨by omega, by omega, by omega, by omega, fun k q0 q1 => ?_, fun i q0 q1 => by omega⟩
    exact zOK_eq (fun w q2 q3 => upR_ne _ _ (by omega)) (ak k q0 (by omega))
  | 6, _, h, hf => by
    unfold zfOf zfPour at hf
    simp only at hf
    repeat' split at hf
    all_goals try omega
    have hk := h.2.2.2.2.1 p (by omega) (by omega)
    have a5 := h.2.1
    unfold zOK at hk
    have h1 := zWF_field (b := p) (w := 1) (v := A (6 + 9 * p + 1) + q) h (by omega) (by omega) (by omega) (by omega) (by omega)
    refine zWF_up h1 (by omega) (by omega) (fun k w q0 q1 q2 q3 => by omega) (fun i q0 q1 => by omega)
  | 7, _, h, _ => zPs_wf _ h
  | k + 8, h, _, _ => absurd h (by omega)
end CMD
