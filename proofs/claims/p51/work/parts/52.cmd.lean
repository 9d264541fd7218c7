/-! COMMANDS ALIKE, WITH THEIR ACCOUNTS AND BOUNDS -/
section CM2
variable {A B : Int → Int} {p q r : Int}
theorem zL_field {b w v : Int} (h : zL A B) (h5 : A 0 ≤ 5) (hb0 : 0 ≤ b) (hb : b < A 0) (w0 : 0 ≤ w) (w9 : w < 9) (hw : ¬ w = 5) : zL (upR A (6 + 9 * b + w) v) (upR B (6 + 9 * b + w) v) := by
  obtain ⟨e0, e1, e2, e3, hk, hf⟩ := h
  refine ⟨by rw [upR_ne _ _ (by omega), upR_ne _ _ (by omega)]; exact e0, by rw [upR_ne _ _ (by omega), upR_ne _ _ (by omega)]; exact e1, by rw [upR_ne _ _ (by omega), upR_ne _ _ (by omega)]; exact e2, by rw [upR_ne _ _ (by omega), upR_ne _ _ (by omega)]; exact e3, fun k u q0 q1 q2 q3 q4 => ?_, fun i q0 q1 => ?_⟩
  · rw [upR_ne _ _ (by omega)] at q1
    by_cases e : 6 + 9 * k + u = 6 + 9 * b + w
    · rw [upR_is _ _ e, upR_is _ _ e]
    · rw [upR_ne _ _ e, upR_ne _ _ e]
      refine hk k u q0 q1 q2 q3 (fun e9 => ?_)
      have := q4 e9
      rw [upR_ne _ _ (by omega)] at this
      exact this
  · rw [upR_ne _ _ (by omega)] at q1
    rw [upR_ne _ _ (by omega), upR_ne _ _ (by omega)]
    exact hf i q0 q1
theorem zL_1 {j v : Int} (h : zL A B) (h5 : A 0 ≤ 5) (hj : j = 4 ∨ j = 5) : zL (upR A j v) B := by
  obtain ⟨e0, e1, e2, e3, hk, hf⟩ := h
  have e : ∀ i, ¬ i = 4 → ¬ i = 5 → upR A j v i = A i := fun i h1 h2 => upR_ne _ _ (by omega)
  refine ⟨by rw [e 0 (by omega) (by omega)]; exact e0, by rw [e 1 (by omega) (by omega)]; exact e1, by rw [e 2 (by omega) (by omega)]; exact e2, by rw [e 3 (by omega) (by omega)]; exact e3, fun k u q0 q1 q2 q3 q4 => ?_, fun i q0 q1 => ?_⟩
  · rw [e _ (by omega) (by omega)] at q1
    rw [e _ (by omega) (by omega)]
    refine hk k u q0 q1 q2 q3 (fun e9 => ?_)
    have := q4 e9
    rw [e _ (by omega) (by omega)] at this
    exact this
  · rw [e _ (by omega) (by omega)] at q1
    rw [e _ (by omega) (by omega)]
    exact hf i q0 q1
theorem zL_auto {b x y : Int} (h : zL A B) (h5 : A 0 ≤ 5) (hb0 : 0 ≤ b) (hb : b < A 0) (hx : x = 1 → upR A (6 + 9 * b + 5) x (6 + 9 * b + 6) = upR B (6 + 9 * b + 5) x (6 + 9 * b + 6)) : zL (upR A (6 + 9 * b + 5) x) (upR B (6 + 9 * b + 5) x) := by
  obtain ⟨e0, e1, e2, e3, hk, hf⟩ := h
  refine ⟨by rw [upR_ne _ _ (by omega), upR_ne _ _ (by omega)]; exact e0, by rw [upR_ne _ _ (by omega), upR_ne _ _ (by omega)]; exact e1, by rw [upR_ne _ _ (by omega), upR_ne _ _ (by omega)]; exact e2, by rw [upR_ne _ _ (by omega), upR_ne _ _ (by omega)]; exact e3, fun k u q0 q1 q2 q3 q4 => ?_, fun i q0 q1 => ?_⟩
  · rw [upR_ne _ _ (by omega)] at q1
    by_cases e : 6 + 9 * k + u = 6 + 9 * b + 5
    · rw [upR_is _ _ e, upR_is _ _ e]
    · by_cases e6 : k = b ∧ u = 6
      · obtain ⟨rfl, rfl⟩ := e6
        refine hx ?_
        have := q4 rfl
        rw [upR_eq] at this
        exact this
      · rw [upR_ne _ _ e, upR_ne _ _ e]
        refine hk k u q0 q1 q2 q3 (fun e9 => ?_)
        have := q4 e9
        rw [upR_ne _ _ (by omega)] at this
        exact this
  · rw [upR_ne _ _ (by omega)] at q1
    rw [upR_ne _ _ (by omega), upR_ne _ _ (by omega)]
    exact hf i q0 q1
def zTb (A : Int → Int) (M : Int) : Prop := 0 ≤ A 1 ∧ A 1 ≤ M ∧ 0 ≤ A 3 ∧ A 3 ≤ 20 * A 1 ∧ ∀ k, 0 ≤ k → k < A 0 → A (6 + 9 * k + 1) ≤ A (6 + 9 * k + 0) ∧ 0 ≤ A (6 + 9 * k + 7) ∧ A (6 + 9 * k + 7) ≤ 200 * A 1 ∧ 0 ≤ A (6 + 9 * k + 8) ∧ A (6 + 9 * k + 8) ≤ A 1
theorem zSt_tb {M : Int} (hA : zWF A 99) (h : zTb A M) : zTb (zSt A) (M + 1) := by
  obtain ⟨t0, t1, t2, t3, tk⟩ := h
  have a5 := hA.2.1
  have hv := zSt2_v hA
  have e1 := zSt_1 a5
  have e3 := zSt_3 a5
  refine ⟨by omega, by omega, by omega, by omega, fun k q0 q1 => ?_⟩
  rw [zSt_0 a5] at q1
  have h7 := zSt_s hA q0 q1
  have h8 := zSt_n hA q0 q1
  have hs := zSpv_bd hA q0 q1
  have hf := zSt_fit hA q0 q1
  have ht := tk k q0 q1
  have hn : zSt A (6 + 9 * k + 8) = A (6 + 9 * k + 8) ∨ zSt A (6 + 9 * k + 8) = A (6 + 9 * k + 8) + 1 := by
    rw [h8]
    split <;> omega
  omega
theorem zPs_tb : ∀ (n : Nat) {A : Int → Int} {M : Int}, zWF A 99 → zTb A M → zTb (zPs n A) (M + n)
  | 0, A, M, _, h => by rw [zPs]; obtain ⟨t0, t1, t2, t3, tk⟩ := h; exact ⟨t0, by omega, t2, t3, tk⟩
  | n + 1, A, M, hA, h => by
    have := zPs_tb n (zSt_wf hA) (zSt_tb hA h)
    rw [zPs]
    have e : M + 1 + (n : Int) = M + ((n + 1 : Nat) : Int) := by omega
    rw [← e]
    exact this
theorem zPs_con : ∀ (n : Nat) {A : Int → Int}, zWF A 99 → zCon A → zCon (zPs n A)
  | 0, _, _, h => h
  | n + 1, _, hA, h => zPs_con n (zSt_wf hA) (zSt_con hA h)
theorem zS_one {w b : Int} : ∀ (n : Nat) {i v : Int}, 0 ≤ i → i ≤ b → b < i + n → zS w n i (upR A (6 + 9 * b + w) v) = zS w n i A + v - A (6 + 9 * b + w)
  | 0, i, v, h0, h1, h2 => by omega
  | n + 1, i, v, h0, h1, h2 => by
    rw [zS, zS]
    by_cases e : i = b
    · subst e
      rw [upR_eq, zS_eq n (B := A) (fun k q0 q1 => upR_ne _ _ (by omega))]
      omega
    · rw [upR_ne _ _ (by omega), zS_one n (by omega) (by omega) (by omega)]
      omega
theorem zS_last {w : Int} : ∀ (n : Nat) {i : Int} {X : Int → Int}, zS w (n + 1) i X = zS w n i X + X (6 + 9 * (i + n) + w)
  | 0, i, X => by simp only [zS]; rw [show i + ((0 : Nat) : Int) = i by omega]; omega
  | n + 1, i, X => by
    rw [zS, zS_last n (i := i + 1), zS, show i + 1 + (n : Int) = i + ((n + 1 : Nat) : Int) by omega]
    omega
theorem zCo_con : ∀ {k : Nat}, k < 8 → zWF A 99 → zCon A → zfOf k A p q r = 1010 → zCon (zCo k A p q r)
  | 0, _, hA, h, hf => by
    obtain ⟨a0, a5, a2, a12, ak, af⟩ := hA
    unfold zfOf zfNew at hf
    simp only at hf
    repeat' split at hf
    all_goals try omega
    have e := fun j => zBeg_at (i := A 0) (p := p) (q := q) (r := r) (j := j) (A := A)
    have xh : ∀ j, ¬ j = 0 → ¬ (6 + 9 * A 0 ≤ j ∧ j < 6 + 9 * A 0 + 9) → upR (zBeg (A 0) p q r A) 0 (A 0 + 1) j = A j := fun j h1 h2 => by rw [upR_ne _ _ h1, e, if_neg (by omega), if_neg (by omega), if_neg (by omega), if_neg h2]
    unfold zCon at h ⊢
    unfold zCo
    simp only
    have n1 : (A 0 + 1).toNat = (A 0).toNat + 1 := by omega
    have x1 : upR (zBeg (A 0) p q r A) 0 (A 0 + 1) (6 + 9 * (0 + ((A 0).toNat : Int)) + 1) = 0 := by rw [upR_ne _ _ (by omega), e, if_neg (by omega), if_neg (by omega), if_neg (by omega), if_pos (by omega)]
    have x7 : upR (zBeg (A 0) p q r A) 0 (A 0 + 1) (6 + 9 * (0 + ((A 0).toNat : Int)) + 7) = 0 := by rw [upR_ne _ _ (by omega), e, if_neg (by omega), if_neg (by omega), if_neg (by omega), if_pos (by omega)]
    rw [upR_eq, n1, zS_last, zS_last, x1, x7, xh 4 (by omega) (by omega), xh 5 (by omega) (by omega), xh 3 (by omega) (by omega), zS_eq (B := A) (w := 7) _ (fun k q0 q1 => xh _ (by omega) (by omega)), zS_eq (B := A) (w := 1) _ (fun k q0 q1 => xh _ (by omega) (by omega))]
    omega
  | 1, _, hA, h, hf => by
    have a0 := hA.1
    have a5 := hA.2.1
    unfold zfOf zfGate at hf
    simp only at hf
    repeat' split at hf
    all_goals try omega
    unfold zCon zCo at *
    simp only
    rw [upR_ne _ _ (by omega), upR_ne _ _ (by omega), upR_ne _ _ (by omega), upR_ne _ _ (by omega), zS_eq (B := A) (w := 7) _ (fun k q0 q1 => upR_ne _ _ (by omega)), zS_eq (B := A) (w := 1) _ (fun k q0 q1 => upR_ne _ _ (by omega))]
    exact h
  | 2, _, hA, h, hf => by
    have a0 := hA.1
    have a5 := hA.2.1
    unfold zfOf zfAt zfR at hf
    simp only at hf
    repeat' split at hf
    all_goals try omega
    have x : ∀ j, ¬ j = 6 + 9 * p + 5 → ¬ j = 6 + 9 * p + 6 → upR (upR A (6 + 9 * p + 5) 1) (6 + 9 * p + 6) q j = A j := fun j h1 h2 => by rw [upR_ne _ _ h2, upR_ne _ _ h1]
    unfold zCon zCo at *
    simp only
    rw [x 0 (by omega) (by omega), x 3 (by omega) (by omega), x 4 (by omega) (by omega), x 5 (by omega) (by omega), zS_eq (B := A) (w := 7) _ (fun k q0 q1 => x _ (by omega) (by omega)), zS_eq (B := A) (w := 1) _ (fun k q0 q1 => x _ (by omega) (by omega))]
    exact h
  | 3, _, hA, h, hf => by
    have a0 := hA.1
    have a5 := hA.2.1
    unfold zfOf zfHand at hf
    simp only at hf
    repeat' split at hf
    all_goals try omega
    unfold zCon zCo at *
    simp only
    rw [upR_ne _ _ (by omega), upR_ne _ _ (by omega), upR_ne _ _ (by omega), upR_ne _ _ (by omega), zS_eq (B := A) (w := 7) _ (fun k q0 q1 => upR_ne _ _ (by omega)), zS_eq (B := A) (w := 1) _ (fun k q0 q1 => upR_ne _ _ (by omega))]
    exact h
  | 4, _, hA, h, hf => by
    have a0 := hA.1
    have a5 := hA.2.1
    have a2 := hA.2.2.1
    unfold zfOf zfRain at hf
    simp only at hf
    repeat' split at hf
    all_goals try omega
    have x : ∀ j, ¬ j = 2 → ¬ j = 51 + A 2 → upR (upR A (51 + A 2) p) 2 (A 2 + 1) j = A j := fun j h1 h2 => by rw [upR_ne _ _ h1, upR_ne _ _ h2]
    unfold zCon zCo at *
    simp only
    rw [x 0 (by omega) (by omega), x 3 (by omega) (by omega), x 4 (by omega) (by omega), x 5 (by omega) (by omega), zS_eq (B := A) (w := 7) _ (fun k q0 q1 => x _ (by omega) (by omega)), zS_eq (B := A) (w := 1) _ (fun k q0 q1 => x _ (by omega) (by omega))]
    exact h
  | 5, _, hA, h, _ => by
    have a0 := hA.1
    have a5 := hA.2.1
    unfold zCon zCo at *
    simp only
    rw [upR_ne _ _ (by omega), upR_ne _ _ (by omega), upR_ne _ _ (by omega), upR_ne _ _ (by omega), zS_eq (B := A) (w := 7) _ (fun k q0 q1 => upR_ne _ _ (by omega)), zS_eq (B := A) (w := 1) _ (fun k q0 q1 => upR_ne _ _ (by omega))]
    exact h
  | 6, _, hA, h, hf => by
    have a0 := hA.1
    have a5 := hA.2.1
    unfold zfOf zfPour at hf
    simp only at hf
    repeat' split at hf
    all_goals try omega
    unfold zCon zCo at *
    simp only
    have x : ∀ j, ¬ j = 5 → upR (upR A (6 + 9 * p + 1) (A (6 + 9 * p + 1) + q)) 5 (A 5 + q) j = upR A (6 + 9 * p + 1) (A (6 + 9 * p + 1) + q) j := fun j h1 => upR_ne _ _ h1
    rw [x 0 (by omega), x 3 (by omega), x 4 (by omega), upR_eq, upR_ne _ _ (by omega), upR_ne _ _ (by omega), upR_ne _ _ (by omega), zS_eq (B := A) (w := 7) _ (fun k q0 q1 => by rw [x _ (by omega), upR_ne _ _ (by omega)]), zS_eq (B := upR A (6 + 9 * p + 1) (A (6 + 9 * p + 1) + q)) (w := 1) _ (fun k q0 q1 => x _ (by omega)), zS_one _ (by omega) (by omega) (by omega)]
    omega
  | 7, _, hA, h, _ => zPs_con _ hA h
  | k + 8, h, _, _, _ => absurd h (by omega)
theorem zTb_of {M N : Int} {X : Int → Int} (h : zTb A M) (hN : M ≤ N) (e0 : X 0 = A 0) (e1 : X 1 = A 1) (e3 : X 3 = A 3) (ek : ∀ k, 0 ≤ k → k < A 0 → X (6 + 9 * k + 1) ≤ X (6 + 9 * k + 0) ∧ X (6 + 9 * k + 7) = A (6 + 9 * k + 7) ∧ X (6 + 9 * k + 8) = A (6 + 9 * k + 8)) : zTb X N := by
  obtain ⟨t0, t1, t2, t3, tk⟩ := h
  refine ⟨by omega, by omega, by omega, by omega, fun k q0 q1 => ?_⟩
  have h1 := tk k q0 (by omega)
  have h2 := ek k q0 (by omega)
  omega
theorem zCo_tb {M : Int} : ∀ {k : Nat}, k < 8 → zWF A 99 → zTb A M → zfOf k A p q r = 1010 → zTb (zCo k A p q r) (M + 30)
  | 0, _, hA, h, hf => by
    obtain ⟨a0, a5, a2, a12, ak, af⟩ := hA
    unfold zfOf zfNew at hf
    simp only at hf
    repeat' split at hf
    all_goals try omega
    have e := fun j => zBeg_at (i := A 0) (p := p) (q := q) (r := r) (j := j) (A := A)
    have xh : ∀ j, ¬ j = 0 → ¬ (6 + 9 * A 0 ≤ j ∧ j < 6 + 9 * A 0 + 9) → upR (zBeg (A 0) p q r A) 0 (A 0 + 1) j = A j := fun j h1 h2 => by rw [upR_ne _ _ h1, e, if_neg (by omega), if_neg (by omega), if_neg (by omega), if_neg h2]
    obtain ⟨t0, t1, t2, t3, tk⟩ := h
    unfold zCo
    simp only
    have y0 : upR (zBeg (A 0) p q r A) 0 (A 0 + 1) 0 = A 0 + 1 := upR_eq _ _ _
    have y1 := xh 1 (by omega) (by omega)
    have y3 := xh 3 (by omega) (by omega)
    refine ⟨by omega, by omega, by omega, by omega, fun k q0 q1 => ?_⟩
    by_cases ek : k = A 0
    · subst ek
      have v0 : upR (zBeg (A 0) p q r A) 0 (A 0 + 1) (6 + 9 * A 0 + 0) = p := by rw [upR_ne _ _ (by omega), e, if_pos rfl]
      have v1 : upR (zBeg (A 0) p q r A) 0 (A 0 + 1) (6 + 9 * A 0 + 1) = 0 := by rw [upR_ne _ _ (by omega), e, if_neg (by omega), if_neg (by omega), if_neg (by omega), if_pos (by omega)]
      have v7 : upR (zBeg (A 0) p q r A) 0 (A 0 + 1) (6 + 9 * A 0 + 7) = 0 := by rw [upR_ne _ _ (by omega), e, if_neg (by omega), if_neg (by omega), if_neg (by omega), if_pos (by omega)]
      have v8 : upR (zBeg (A 0) p q r A) 0 (A 0 + 1) (6 + 9 * A 0 + 8) = 0 := by rw [upR_ne _ _ (by omega), e, if_neg (by omega), if_neg (by omega), if_neg (by omega), if_pos (by omega)]
      omega
    · rw [xh (6 + 9 * k + 0) (by omega) (by omega), xh (6 + 9 * k + 1) (by omega) (by omega), xh (6 + 9 * k + 7) (by omega) (by omega), xh (6 + 9 * k + 8) (by omega) (by omega), y1]
      exact tk k q0 (by omega)
  | 1, _, hA, h, hf => by
    have a5 := hA.2.1
    unfold zfOf zfGate at hf
    simp only at hf
    repeat' split at hf
    all_goals try omega
    unfold zCo
    simp only
    refine zTb_of h (by omega) (upR_ne _ _ (by omega)) (upR_ne _ _ (by omega)) (upR_ne _ _ (by omega)) (fun k q0 q1 => ?_)
    rw [upR_ne _ _ (by omega), upR_ne _ _ (by omega), upR_ne _ _ (by omega), upR_ne _ _ (by omega)]
    exact ⟨(h.2.2.2.2 k q0 q1).1, rfl, rfl⟩
  | 2, _, hA, h, hf => by
    have a5 := hA.2.1
    unfold zfOf zfAt zfR at hf
    simp only at hf
    repeat' split at hf
    all_goals try omega
    have x : ∀ j, ¬ j = 6 + 9 * p + 5 → ¬ j = 6 + 9 * p + 6 → upR (upR A (6 + 9 * p + 5) 1) (6 + 9 * p + 6) q j = A j := fun j h1 h2 => by rw [upR_ne _ _ h2, upR_ne _ _ h1]
    unfold zCo
    simp only
    refine zTb_of h (by omega) (x _ (by omega) (by omega)) (x _ (by omega) (by omega)) (x _ (by omega) (by omega)) (fun k q0 q1 => ?_)
    rw [x _ (by omega) (by omega), x _ (by omega) (by omega), x _ (by omega) (by omega), x _ (by omega) (by omega)]
    exact ⟨(h.2.2.2.2 k q0 q1).1, rfl, rfl⟩
  | 3, _, hA, h, hf => by
    have a5 := hA.2.1
    unfold zfOf zfHand at hf
    simp only at hf
    repeat' split at hf
    all_goals try omega
    unfold zCo
    simp only
    refine zTb_of h (by omega) (upR_ne _ _ (by omega)) (upR_ne _ _ (by omega)) (upR_ne _ _ (by omega)) (fun k q0 q1 => ?_)
    rw [upR_ne _ _ (by omega), upR_ne _ _ (by omega), upR_ne _ _ (by omega), upR_ne _ _ (by omega)]
    exact ⟨(h.2.2.2.2 k q0 q1).1, rfl, rfl⟩
  | 4, _, hA, h, hf => by
    have a5 := hA.2.1
    have a2 := hA.2.2.1
    unfold zfOf zfRain at hf
    simp only at hf
    repeat' split at hf
    all_goals try omega
    have x : ∀ j, ¬ j = 2 → ¬ j = 51 + A 2 → upR (upR A (51 + A 2) p) 2 (A 2 + 1) j = A j := fun j h1 h2 => by rw [upR_ne _ _ h1, upR_ne _ _ h2]
    unfold zCo
    simp only
    refine zTb_of h (by omega) (x _ (by omega) (by omega)) (x _ (by omega) (by omega)) (x _ (by omega) (by omega)) (fun k q0 q1 => ?_)
    rw [x _ (by omega) (by omega), x _ (by omega) (by omega), x _ (by omega) (by omega), x _ (by omega) (by omega)]
    exact ⟨(h.2.2.2.2 k q0 q1).1, rfl, rfl⟩
  | 5, _, hA, h, _ => by
    have a5 := hA.2.1
    unfold zCo
    simp only
    refine zTb_of h (by omega) (upR_ne _ _ (by omega)) (upR_ne _ _ (by omega)) (upR_ne _ _ (by omega)) (fun k q0 q1 => ?_)
    rw [upR_ne _ _ (by omega), upR_ne _ _ (by omega), upR_ne _ _ (by omega), upR_ne _ _ (by omega)]
    exact ⟨(h.2.2.2.2 k q0 q1).1, rfl, rfl⟩
  | 6, _, hA, h, hf => by
    have a5 := hA.2.1
    unfold zfOf zfPour at hf
    simp only at hf
    repeat' split at hf
    all_goals try omega
    have x : ∀ j, ¬ j = 5 → ¬ j = 6 + 9 * p + 1 → upR (upR A (6 + 9 * p + 1) (A (6 + 9 * p + 1) + q)) 5 (A 5 + q) j = A j := fun j h1 h2 => by rw [upR_ne _ _ h1, upR_ne _ _ h2]
    unfold zCo
    simp only
    refine zTb_of h (by omega) (x _ (by omega) (by omega)) (x _ (by omega) (by omega)) (x _ (by omega) (by omega)) (fun k q0 q1 => ?_)
    rw [x (6 + 9 * k + 0) (by omega) (by omega), x (6 + 9 * k + 7) (by omega) (by omega), x (6 + 9 * k + 8) (by omega) (by omega)]
    refine ⟨?_, rfl, rfl⟩
    by_cases e : k = p
    · subst e
      rw [upR_ne _ _ (by omega), upR_eq]
      omega
    · rw [x _ (by omega) (by omega)]
      exact (h.2.2.2.2 k q0 q1).1
  | 7, _, hA, h, hf => by
    unfold zfOf zfR at hf
    simp only at hf
    repeat' split at hf
    all_goals try omega
    have h1 := zPs_tb p.toNat hA h
    obtain ⟨t0, t1, t2, t3, tk⟩ := h1
    exact ⟨t0, by show zPs p.toNat A 1 ≤ M + 30; omega, t2, t3, tk⟩
  | k + 8, h, _, _, _ => absurd h (by omega)
end CM2
