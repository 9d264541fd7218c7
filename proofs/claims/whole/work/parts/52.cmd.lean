/-! COMMANDS ALIKE, WITH THEIR ACCOUNTS AND BOUNDS -/
section CM2
variable {A B : Int → Int} {p q r : Int}
/-- a field of a basin that is put the same on both sides (not whether it is automatic) -/
theorem zL_field {b w v : Int} (h : zL A B) (h5 : A 0 ≤ 5) (hb0 : 0 ≤ b) (hb : b < A 0) (w0 : 0 ≤ w) (w9 : w < 9) (hw : ¬ w = 5) : zL (upR A (6 + 9 * b + w) v) (upR B (6 + 9 * b + w) v) := by
  obtain ⟨e0, e1, e2, e3, hk, hf⟩ := h
  refine ⟨by rw [upR_ne _ _ (by omega), upR_ne _ _ (by omega)]; exact e0, by rw [upR_ne _ _ (by omega), upR_ne _ _ (by omega)]; exact e1, by rw [upR_ne _ _ (by omega), upR_ne _ _ (by omega)]; exact e2, by rw [upR_ne _ _ (by omega), upR_ne _ _ (by omega)]; exact e3, fun k u q0 q1 q2 q3 q4 => ?_, fun i q0 q1 => ?_⟩
  · rw [upR_ne _ _ (by omega)] at q1
    by_cases e : 6 + 9 * k + u = 6 + 9 * b + w
    · rw [upR_is _ _ e, upR_is _ _ e]
    · rw [upR_ne _ _ e, upR_ne _ _ e]
      refine hk k u q0 q1 q2 q3 (fun e9 => ?_)
      have := q4 e9
      rw [upR_ne _ _ (by omega)] at this
      exact this
  · rw [upR_ne _ _ (by omega)] at q1
    rw [upR_ne _ _ (by omega), upR_ne _ _ (by omega)]
    exact hf i q0 q1
theorem zL_1 {j v : Int} (h : zL A B) (h5 : A 0 ≤ 5) (hj : j = 4 ∨ j = 5) : zL (upR A j v) B := by
  obtain ⟨e0, e1, e2, e3, hk, hf⟩ := h
  have e : ∀ i, ¬ i = 4 → ¬ i = 5 → upR A j v i = A i := fun i h1 h2 => upR_ne _ _ (by omega)
  refine ⟨by rw [e 0 (by omega) (by omega)]; exact e0, by rw [e 1 (by omega) (by omega)]; exact e1, by rw [e 2 (by omega) (by omega)]; exact e2, by rw [e 3 (by omega) (by omega)]; exact e3, fun k u q0 q1 q2 q3 q4 => ?_, fun i q0 q1 => ?_⟩
  · rw [e _ (by omega) (by omega)] at q1
    rw [e _ (by omega) (by omega)]
    refine hk k u q0 q1 q2 q3 (fun e9 => ?_)
    have := q4 e9
    rw [e _ (by omega) (by omega)] at this
    exact this
  · rw [e _ (by omega) (by omega)] at q1
    rw [e _ (by omega) (by omega)]
    exact hf i q0 q1
theorem zL_auto {b x y : Int} (h : zL A B) (h5 : A 0 ≤ 5) (hb0 : 0 ≤ b) (hb : b < A 0) (hx : x = 1 → upR A (6 + 9 * b + 5) x (6 + 9 * b + 6) = upR B (6 + 9 * b + 5) x (6 + 9 * b + 6)) : zL (upR A (6 + 9 * b + 5) x) (upR B (6 + 9 * b + 5) x) := by
  obtain ⟨e0, e1, e2, e3, hk, hf⟩ := h
  refine ⟨by rw [upR_ne _ _ (by omega), upR_ne _ _ (by omega)]; exact e0, by rw [upR_ne _ _ (by omega), upR_ne _ _ (by omega)]; exact e1, by rw [upR_ne _ _ (by omega), upR_ne _ _ (by omega)]; exact e2, by rw [upR_ne _ _ (by omega), upR_ne _ _ (by omega)]; exact e3, fun k u q0 q1 q2 q3 q4 => ?_, fun i q0 q1 => ?_⟩
  · rw [upR_ne _ _ (by omega)] at q1
    by_cases e : 6 + 9 * k + u = 6 + 9 * b + 5
    · rw [upR_is _ _ e, upR_is _ _ e]
    · by_cases e6 : k = b ∧ u = 6
      · obtain ⟨rfl, rfl⟩ := e6
        refine hx ?_
        have := q4 rfl
        rw [upR_eq] at this
        exact this
      · rw [upR_ne _ _ e, upR_ne _ _ e]
        refine hk k u q0 q1 q2 q3 (fun e9 => ?_)
        have := q4 e9
        rw [upR_ne _ _ (by omega)] at this
        exact this
  · rw [upR_ne _ _ (by omega)] at q1
    rw [upR_ne _ _ (by omega), upR_ne _ _ (by omega)]
    exact hf i q0 q1
theorem zL_cmd : ∀ {k : Nat}, k < 8 → zWF A 99 → zWF B 99 → zL A B → zfOf k A p q r = 1010 → zL (zCo k A p q r) (rCo k B p q r) ∧ zCv k A p q r = rCv k B p q r
  | 0, _, hA, hB, h, hf => by
    obtain ⟨a0, a5, a2, a12, ak, af⟩ := hA
    obtain ⟨e0, e1, e2, e3, hk, hg⟩ := h
    unfold zfOf zfNew at hf
    simp only at hf
    repeat' split at hf
    all_goals try omega
    have e := fun j => zBeg_at (i := A 0) (p := p) (q := q) (r := r) (j := j) (A := A)
    have g := fun j => rBd_at (i := B 0) (p := p) (q := q) (r := r) (j := j) (A := B)
    refine ⟨?_, e0⟩
    unfold zCo rCo
    simp only
    have x0 : upR (zBeg (A 0) p q r A) 0 (A 0 + 1) 0 = A 0 + 1 := upR_eq _ _ _
    have xh : ∀ j, ¬ j = 0 → ¬ (6 + 9 * A 0 ≤ j ∧ j < 6 + 9 * A 0 + 9) → upR (zBeg (A 0) p q r A) 0 (A 0 + 1) j = A j := fun j h1 h2 => by rw [upR_ne _ _ h1, e, if_neg (by omega), if_neg (by omega), if_neg (by omega), if_neg h2]
    have yh : ∀ j, ¬ j = 0 → ¬ (6 + 9 * A 0 ≤ j ∧ j < 6 + 9 * A 0 + 9) → rBd (B 0) p q r B j = B j := fun j h1 h2 => by rw [g, if_neg (by omega), if_neg (by omega), if_neg (by omega), if_neg (by omega), if_neg h1]
    refine ⟨by rw [x0, g, if_neg (by omega), if_neg (by omega), if_neg (by omega), if_neg (by omega), if_pos rfl]; omega, by rw [xh 1 (by omega) (by omega), yh 1 (by omega) (by omega)]; exact e1, by rw [xh 2 (by omega) (by omega), yh 2 (by omega) (by omega)]; exact e2, by rw [xh 3 (by omega) (by omega), yh 3 (by omega) (by omega)]; exact e3, fun k u q0 q1 q2 q3 q4 => ?_, fun i q0 q1 => ?_⟩
    · rw [x0] at q1
      by_cases ek : k = A 0
      · rw [upR_ne _ _ (by omega), e, g, ← e0]
        repeat' split
        all_goals omega
      · rw [xh _ (by omega) (by omega), yh _ (by omega) (by omega)]
        refine hk k u q0 (by omega) q2 q3 (fun e9 => ?_)
        have := q4 e9
        rw [xh _ (by omega) (by omega)] at this
        exact this
    · rw [xh 2 (by omega) (by omega)] at q1
      rw [xh _ (by omega) (by omega), yh _ (by omega) (by omega)]
      exact hg i q0 q1
  | 1, _, hA, hB, h, hf => by
    unfold zfOf zfGate at hf
    simp only at hf
    repeat' split at hf
    all_goals try omega
    have hp : 0 ≤ p ∧ p < A 0 := by omega
    exact ⟨zL_field h hA.2.1 hp.1 hp.2 (by omega) (by omega) (by omega), h.2.2.2.2.1 p 4 hp.1 hp.2 (by omega) (by omega) (by omega)⟩
  | 2, _, hA, hB, h, hf => by
    have a0 := hA.1
    have a5 := hA.2.1
    unfold zfOf zfAt zfR at hf
    simp only at hf
    repeat' split at hf
    all_goals try omega
    have hp : 0 ≤ p ∧ p < A 0 := by omega
    have e0 := h.1
    have h1 : zL (upR (upR A (6 + 9 * p + 5) 1) (6 + 9 * p + 6) q) (upR (upR B (6 + 9 * p + 5) 1) (6 + 9 * p + 6) q) := by
      have c : ∀ X : Int → Int, upR (upR X (6 + 9 * p + 5) 1) (6 + 9 * p + 6) q = upR (upR X (6 + 9 * p + 6) q) (6 + 9 * p + 5) 1 := fun X => by
        funext j
        unfold upR
        repeat' split
        all_goals first | rfl | omega
      rw [c, c]
      refine zL_auto (y := 0) (zL_field h a5 hp.1 hp.2 (by omega) (by omega) (by omega)) (by rw [upR_ne _ _ (by omega)]; exact a5) hp.1 (by rw [upR_ne _ _ (by omega)]; exact hp.2) (fun _ => ?_)
      rw [upR_ne (upR A (6 + 9 * p + 6) q) _ (by omega), upR_ne (upR B (6 + 9 * p + 6) q) _ (by omega), upR_eq, upR_eq]
    refine ⟨h1, ?_⟩
    unfold zCv rCv
    simp only
    rw [← e0]
    exact zSm_L (fun k q0 q1 => h1.2.2.2.2.1 k 5 q0 (by rw [upR_ne _ _ (by omega), upR_ne _ _ (by omega)]; omega) (by omega) (by omega) (by omega))
  | 3, _, hA, hB, h, hf => by
    have a0 := hA.1
    have a5 := hA.2.1
    unfold zfOf zfHand at hf
    simp only at hf
    repeat' split at hf
    all_goals try omega
    have hp : 0 ≤ p ∧ p < A 0 := by omega
    have e0 := h.1
    have h1 : zL (upR A (6 + 9 * p + 5) 0) (upR (upR B (6 + 9 * p + 5) 0) (6 + 9 * p + 6) 0) := by
      have h2 : zL (upR A (6 + 9 * p + 5) 0) (upR B (6 + 9 * p + 5) 0) := zL_auto (y := 0) h a5 hp.1 hp.2 (fun e => by omega)
      obtain ⟨d0, d1, d2, d3, dk, dg⟩ := h2
      refine ⟨by rw [upR_ne (upR B _ _) _ (by omega)]; exact d0, by rw [upR_ne (upR B _ _) _ (by omega)]; exact d1, by rw [upR_ne (upR B _ _) _ (by omega)]; exact d2, by rw [upR_ne (upR B _ _) _ (by omega)]; exact d3, fun k u q0 q1 q2 q3 q4 => ?_, fun i q0 q1 => ?_⟩
      · by_cases e6 : k = p ∧ u = 6
        · obtain ⟨rfl, rfl⟩ := e6
          have := q4 rfl
          rw [upR_eq] at this
          omega
        · rw [upR_ne (upR B _ _) _ (by omega)]
          exact dk k u q0 q1 q2 q3 q4
      · rw [upR_ne A _ (by omega)] at q1
        rw [upR_ne (upR B _ _) _ (by have := hA.2.2.2.1; omega)]
        exact dg i q0 (by rw [upR_ne A _ (by omega)]; exact q1)
    refine ⟨h1, ?_⟩
    unfold zCv rCv
    simp only
    rw [← e0]
    exact zSm_L (fun k q0 q1 => h1.2.2.2.2.1 k 5 q0 (by rw [upR_ne _ _ (by omega)]; omega) (by omega) (by omega) (by omega))
  | 4, _, hA, hB, h, hf => by
    obtain ⟨a0, a5, a2, a12, ak, af⟩ := hA
    obtain ⟨e0, e1, e2, e3, hk, hg⟩ := h
    unfold zfOf zfRain at hf
    simp only at hf
    repeat' split at hf
    all_goals try omega
    unfold zCo rCo zCv rCv
    simp only
    rw [← e2]
    have xh : ∀ (X : Int → Int) (j : Int), ¬ j = 2 → ¬ j = 51 + A 2 → upR (upR X (51 + A 2) p) 2 (A 2 + 1) j = X j := fun X j h1 h2 => by rw [upR_ne _ _ h1, upR_ne _ _ h2]
    refine ⟨⟨by rw [xh A 0 (by omega) (by omega), xh B 0 (by omega) (by omega)]; exact e0, by rw [xh A 1 (by omega) (by omega), xh B 1 (by omega) (by omega)]; exact e1, by rw [upR_eq, upR_eq], by rw [xh A 3 (by omega) (by omega), xh B 3 (by omega) (by omega)]; exact e3, fun k u q0 q1 q2 q3 q4 => ?_, fun i q0 q1 => ?_⟩, rfl⟩
    · rw [xh A 0 (by omega) (by omega)] at q1
      rw [xh A _ (by omega) (by omega), xh B _ (by omega) (by omega)]
      refine hk k u q0 q1 q2 q3 (fun e9 => ?_)
      have := q4 e9
      rw [xh A _ (by omega) (by omega)] at this
      exact this
    · rw [upR_eq] at q1
      rw [upR_ne (upR A (51 + A 2) p) _ (by omega), upR_ne (upR B (51 + A 2) p) _ (by omega)]
      by_cases e : i = A 2
      · subst e; rw [upR_eq, upR_eq]
      · rw [upR_ne A _ (by omega), upR_ne B _ (by omega)]
        exact hg i q0 (by omega)
  | 5, _, hA, hB, h, _ => by
    obtain ⟨a0, a5, a2, a12, ak, af⟩ := hA
    obtain ⟨e0, e1, e2, e3, hk, hg⟩ := h
    have n2 : B 2 = ((A 2).toNat : Nat) := by omega
    unfold zCo rCo zCv rCv
    simp only
    rw [← e2]
    have yh : ∀ j, ¬ j = 2 → ¬ (51 ≤ j ∧ j < 63) → rCl (A 2).toNat B j = B j := fun j h1 h2 => rCl_ne _ h1 h2
    refine ⟨⟨by rw [upR_ne _ _ (by omega), yh 0 (by omega) (by omega)]; exact e0, by rw [upR_ne _ _ (by omega), yh 1 (by omega) (by omega)]; exact e1, by rw [upR_eq, rCl_2 _ n2], by rw [upR_ne _ _ (by omega), yh 3 (by omega) (by omega)]; exact e3, fun k u q0 q1 q2 q3 q4 => ?_, fun i q0 q1 => by rw [upR_eq] at q1; omega⟩, ?_⟩
    · rw [upR_ne _ _ (by omega)] at q1
      rw [upR_ne _ _ (by omega), yh _ (by omega) (by omega)]
      refine hk k u q0 q1 q2 q3 (fun e9 => ?_)
      have := q4 e9
      rw [upR_ne _ _ (by omega)] at this
      exact this
    · rw [rClv_z _ n2 (by omega)]
      exact zDf_congr _ (fun i q0 q1 => (hg i q0 (by omega)).symm)
  | 6, _, hA, hB, h, hf => by
    unfold zfOf zfPour at hf
    simp only at hf
    repeat' split at hf
    all_goals try omega
    have hp : 0 ≤ p ∧ p < A 0 := by omega
    have e1 := h.2.2.2.2.1 p 1 hp.1 hp.2 (by omega) (by omega) (by omega)
    unfold zCo rCo zCv rCv
    simp only
    rw [← e1]
    exact ⟨zL_1 (zL_field h hA.2.1 hp.1 hp.2 (by omega) (by omega) (by omega)) (by rw [upR_ne _ _ (by omega)]; exact hA.2.1) (.inr rfl), rfl⟩
  | 7, _, hA, hB, h, _ => zL_steps _ hA hB h
  | k + 8, h, _, _, _, _ => absurd h (by omega)
/-- bounds by time: M is what the time may have come to -/
def zTb (A : Int → Int) (M : Int) : Prop := 0 ≤ A 1 ∧ A 1 ≤ M ∧ 0 ≤ A 3 ∧ A 3 ≤ 20 * A 1 ∧ ∀ k, 0 ≤ k → k < A 0 → A (6 + 9 * k + 1) ≤ A (6 + 9 * k + 0) ∧ 0 ≤ A (6 + 9 * k + 7) ∧ A (6 + 9 * k + 7) ≤ 200 * A 1 ∧ 0 ≤ A (6 + 9 * k + 8) ∧ A (6 + 9 * k + 8) ≤ A 1
theorem zSt_tb {M : Int} (hA : zWF A 99) (h : zTb A M) : zTb (zSt A) (M + 1) := by
  obtain ⟨t0, t1, t2, t3, tk⟩ := h
  have a5 := hA.2.1
  have hv := zSt2_v hA
  have e1 := zSt_1 a5
  have e3 := zSt_3 a5
  refine ⟨by omega, by omega, by omega, by omega, fun k q0 q1 => ?_⟩
  rw [zSt_0 a5] at q1
  have h7 := zSt_s hA q0 q1
  have h8 := zSt_n hA q0 q1
  have hs := zSpv_bd hA q0 q1
  have hf := zSt_fit hA q0 q1
  have ht := tk k q0 q1
  have hn : zSt A (6 + 9 * k + 8) = A (6 + 9 * k + 8) ∨ zSt A (6 + 9 * k + 8) = A (6 + 9 * k + 8) + 1 := by
    rw [h8]
    split <;> omega
  omega
theorem zPs_tb : ∀ (n : Nat) {A : Int → Int} {M : Int}, zWF A 99 → zTb A M → zTb (zPs n A) (M + n)
  | 0, A, M, _, h => by rw [zPs]; obtain ⟨t0, t1, t2, t3, tk⟩ := h; exact ⟨t0, by omega, t2, t3, tk⟩
  | n + 1, A, M, hA, h => by
    have := zPs_tb n (zSt_wf hA) (zSt_tb hA h)
    rw [zPs]
    have e : M + 1 + (n : Int) = M + ((n + 1 : Nat) : Int) := by omega
    rw [← e]
    exact this
theorem zPs_con : ∀ (n : Nat) {A : Int → Int}, zWF A 99 → zCon A → zCon (zPs n A)
  | 0, _, _, h => h
  | n + 1, _, hA, h => zPs_con n (zSt_wf hA) (zSt_con hA h)
theorem zS_one {w b : Int} : ∀ (n : Nat) {i v : Int}, 0 ≤ i → i ≤ b → b < i + n → zS w n i (upR A (6 + 9 * b + w) v) = zS w n i A + v - A (6 + 9 * b + w)
  | 0, i, v, h0, h1, h2 => by omega
  | n + 1, i, v, h0, h1, h2 => by
    rw [zS, zS]
    by_cases e : i = b
    · subst e
      rw [upR_eq, zS_eq n (B := A) (fun k q0 q1 => upR_ne _ _ (by omega))]
      omega
    · rw [upR_ne _ _ (by omega), zS_one n (by omega) (by omega) (by omega)]
      omega
theorem zS_last {w : Int} : ∀ (n : Nat) {i : Int} {X : Int → Int}, zS w (n + 1) i X = zS w n i X + X (6 + 9 * (i + n) + w)
  | 0, i, X => by simp only [zS]; rw [show i + ((0 : Nat) : Int) = i by omega]; omega
  | n + 1, i, X => by
    rw [zS, zS_last n (i := i + 1), zS, show i + 1 + (n : Int) = i + ((n + 1 : Nat) : Int) by omega]
    omega
theorem zCo_con : ∀ {k : Nat}, k < 8 → zWF A 99 → zCon A → zfOf k A p q r = 1010 → zCon (zCo k A p q r)
  | 0, _, hA, h, hf => by
    obtain ⟨a0, a5, a2, a12, ak, af⟩ := hA
    unfold zfOf zfNew at hf
    simp only at hf
    repeat' split at hf
    all_goals try omega
    have e := fun j => zBeg_at (i := A 0) (p := p) (q := q) (r := r) (j := j) (A := A)
    have xh : ∀ j, ¬ j = 0 → ¬ (6 + 9 * A 0 ≤ j ∧ j < 6 + 9 * A 0 + 9) → upR (zBeg (A 0) p q r A) 0 (A 0 + 1) j = A j := fun j h1 h2 => by rw [upR_ne _ _ h1, e, if_neg (by omega), if_neg (by omega), if_neg (by omega), if_neg h2]
    unfold zCon at h ⊢
    unfold zCo
    simp only
    have n1 : (A 0 + 1).toNat = (A 0).toNat + 1 := by omega
    have x1 : upR (zBeg (A 0) p q r A) 0 (A 0 + 1) (6 + 9 * (0 + ((A 0).toNat : Int)) + 1) = 0 := by rw [upR_ne _ _ (by omega), e, if_neg (by omega), if_neg (by omega), if_neg (by omega), if_pos (by omega)]
    have x7 : upR (zBeg (A 0) p q r A) 0 (A 0 + 1) (6 + 9 * (0 + ((A 0).toNat : Int)) + 7) = 0 := by rw [upR_ne _ _ (by omega), e, if_neg (by omega), if_neg (by omega), if_neg (by omega), if_pos (by omega)]
    rw [upR_eq, n1, zS_last, zS_last, x1, x7, xh 4 (by omega) (by omega), xh 5 (by omega) (by omega), xh 3 (by omega) (by omega), zS_eq (B := A) (w := 7) _ (fun k q0 q1 => xh _ (by omega) (by omega)), zS_eq (B := A) (w := 1) _ (fun k q0 q1 => xh _ (by omega) (by omega))]
    omega
  | 1, _, hA, h, hf => by
    have a0 := hA.1
    have a5 := hA.2.1
    unfold zfOf zfGate at hf
    simp only at hf
    repeat' split at hf
    all_goals try omega
    unfold zCon zCo at *
    simp only
    rw [upR_ne _ _ (by omega), upR_ne _ _ (by omega), upR_ne _ _ (by omega), upR_ne _ _ (by omega), zS_eq (B := A) (w := 7) _ (fun k q0 q1 => upR_ne _ _ (by omega)), zS_eq (B := A) (w := 1) _ (fun k q0 q1 => upR_ne _ _ (by omega))]
    exact h
  | 2, _, hA, h, hf => by
    have a0 := hA.1
    have a5 := hA.2.1
    unfold zfOf zfAt zfR at hf
    simp only at hf
    repeat' split at hf
    all_goals try omega
    have x : ∀ j, ¬ j = 6 + 9 * p + 5 → ¬ j = 6 + 9 * p + 6 → upR (upR A (6 + 9 * p + 5) 1) (6 + 9 * p + 6) q j = A j := fun j h1 h2 => by rw [upR_ne _ _ h2, upR_ne _ _ h1]
    unfold zCon zCo at *
    simp only
    rw [x 0 (by omega) (by omega), x 3 (by omega) (by omega), x 4 (by omega) (by omega), x 5 (by omega) (by omega), zS_eq (B := A) (w := 7) _ (fun k q0 q1 => x _ (by omega) (by omega)), zS_eq (B := A) (w := 1) _ (fun k q0 q1 => x _ (by omega) (by omega))]
    exact h
  | 3, _, hA, h, hf => by
    have a0 := hA.1
    have a5 := hA.2.1
    unfold zfOf zfHand at hf
    simp only at hf
    repeat' split at hf
    all_goals try omega
    unfold zCon zCo at *
    simp only
    rw [upR_ne _ _ (by omega), upR_ne _ _ (by omega), upR_ne _ _ (by omega), upR_ne _ _ (by omega), zS_eq (B := A) (w := 7) _ (fun k q0 q1 => upR_ne _ _ (by omega)), zS_eq (B := A) (w := 1) _ (fun k q0 q1 => upR_ne _ _ (by omega))]
    exact h
  | 4, _, hA, h, hf => by
    have a0 := hA.1
    have a5 := hA.2.1
    have a2 := hA.2.2.1
    unfold zfOf zfRain at hf
    simp only at hf
    repeat' split at hf
    all_goals try omega
    have x : ∀ j, ¬ j = 2 → ¬ j = 51 + A 2 → upR (upR A (51 + A 2) p) 2 (A 2 + 1) j = A j := fun j h1 h2 => by rw [upR_ne _ _ h1, upR_ne _ _ h2]
    unfold zCon zCo at *
    simp only
    rw [x 0 (by omega) (by omega), x 3 (by omega) (by omega), x 4 (by omega) (by omega), x 5 (by omega) (by omega), zS_eq (B := A) (w := 7) _ (fun k q0 q1 => x _ (by omega) (by omega)), zS_eq (B := A) (w := 1) _ (fun k q0 q1 => x _ (by omega) (by omega))]
    exact h
  | 5, _, hA, h, _ => by
    have a0 := hA.1
    have a5 := hA.2.1
    unfold zCon zCo at *
    simp only
    rw [upR_ne _ _ (by omega), upR_ne _ _ (by omega), upR_ne _ _ (by omega), upR_ne _ _ (by omega), zS_eq (B := A) (w := 7) _ (fun k q0 q1 => upR_ne _ _ (by omega)), zS_eq (B := A) (w := 1) _ (fun k q0 q1 => upR_ne _ _ (by omega))]
    exact h
  | 6, _, hA, h, hf => by
    have a0 := hA.1
    have a5 := hA.2.1
    unfold zfOf zfPour at hf
    simp only at hf
    repeat' split at hf
    all_goals try omega
    unfold zCon zCo at *
    simp only
    have x : ∀ j, ¬ j = 5 → upR (upR A (6 + 9 * p + 1) (A (6 + 9 * p + 1) + q)) 5 (A 5 + q) j = upR A (6 + 9 * p + 1) (A (6 + 9 * p + 1) + q) j := fun j h1 => upR_ne _ _ h1
    rw [x 0 (by omega), x 3 (by omega), x 4 (by omega), upR_eq, upR_ne _ _ (by omega), upR_ne _ _ (by omega), upR_ne _ _ (by omega), zS_eq (B := A) (w := 7) _ (fun k q0 q1 => by rw [x _ (by omega), upR_ne _ _ (by omega)]), zS_eq (B := upR A (6 + 9 * p + 1) (A (6 + 9 * p + 1) + q)) (w := 1) _ (fun k q0 q1 => x _ (by omega)), zS_one _ (by omega) (by omega) (by omega)]
    omega
  | 7, _, hA, h, _ => zPs_con _ hA h
  | k + 8, h, _, _, _ => absurd h (by omega)
theorem zTb_of {M N : Int} {X : Int → Int} (h : zTb A M) (hN : M ≤ N) (e0 : X 0 = A 0) (e1 : X 1 = A 1) (e3 : X 3 = A 3) (ek : ∀ k, 0 ≤ k → k < A 0 → X (6 + 9 * k + 1) ≤ X (6 + 9 * k + 0) ∧ X (6 + 9 * k + 7) = A (6 + 9 * k + 7) ∧ X (6 + 9 * k + 8) = A (6 + 9 * k + 8)) : zTb X N := by
  obtain ⟨t0, t1, t2, t3, tk⟩ := h
  refine ⟨by omega, by omega, by omega, by omega, fun k q0 q1 => ?_⟩
  have h1 := tk k q0 (by omega)
  have h2 := ek k q0 (by omega)
  omega
theorem zCo_tb {M : Int} : ∀ {k : Nat}, k < 8 → zWF A 99 → zTb A M → zfOf k A p q r = 1010 → zTb (zCo k A p q r) (M + 30)
  | 0, _, hA, h, hf => by
    obtain ⟨a0, a5, a2, a12, ak, af⟩ := hA
    unfold zfOf zfNew at hf
    simp only at hf
    repeat' split at hf
    all_goals try omega
    have e := fun j => zBeg_at (i := A 0) (p := p) (q := q) (r := r) (j := j) (A := A)
    have xh : ∀ j, ¬ j = 0 → ¬ (6 + 9 * A 0 ≤ j ∧ j < 6 + 9 * A 0 + 9) → upR (zBeg (A 0) p q r A) 0 (A 0 + 1) j = A j := fun j h1 h2 => by rw [upR_ne _ _ h1, e, if_neg (by omega), if_neg (by omega), if_neg (by omega), if_neg h2]
    obtain ⟨t0, t1, t2, t3, tk⟩ := h
    unfold zCo
    simp only
    have y0 : upR (zBeg (A 0) p q r A) 0 (A 0 + 1) 0 = A 0 + 1 := upR_eq _ _ _
    have y1 := xh 1 (by omega) (by omega)
    have y3 := xh 3 (by omega) (by omega)
    refine ⟨by omega, by omega, by omega, by omega, fun k q0 q1 => ?_⟩
    by_cases ek : k = A 0
    · subst ek
      have v0 : upR (zBeg (A 0) p q r A) 0 (A 0 + 1) (6 + 9 * A 0 + 0) = p := by rw [upR_ne _ _ (by omega), e, if_pos rfl]
      have v1 : upR (zBeg (A 0) p q r A) 0 (A 0 + 1) (6 + 9 * A 0 + 1) = 0 := by rw [upR_ne _ _ (by omega), e, if_neg (by omega), if_neg (by omega), if_neg (by omega), if_pos (by omega)]
      have v7 : upR (zBeg (A 0) p q r A) 0 (A 0 + 1) (6 + 9 * A 0 + 7) = 0 := by rw [upR_ne _ _ (by omega), e, if_neg (by omega), if_neg (by omega), if_neg (by omega), if_pos (by omega)]
      have v8 : upR (zBeg (A 0) p q r A) 0 (A 0 + 1) (6 + 9 * A 0 + 8) = 0 := by rw [upR_ne _ _ (by omega), e, if_neg (by omega), if_neg (by omega), if_neg (by omega), if_pos (by omega)]
      omega
    · rw [xh (6 + 9 * k + 0) (by omega) (by omega), xh (6 + 9 * k + 1) (by omega) (by omega), xh (6 + 9 * k + 7) (by omega) (by omega), xh (6 + 9 * k + 8) (by omega) (by omega), y1]
      exact tk k q0 (by omega)
  | 1, _, hA, h, hf => by
    have a5 := hA.2.1
    unfold zfOf zfGate at hf
    simp only at hf
    repeat' split at hf
    all_goals try omega
    unfold zCo
    simp only
    refine zTb_of h (by omega) (upR_ne _ _ (by omega)) (upR_ne _ _ (by omega)) (upR_ne _ _ (by omega)) (fun k q0 q1 => ?_)
    rw [upR_ne _ _ (by omega), upR_ne _ _ (by omega), upR_ne _ _ (by omega), upR_ne _ _ (by omega)]
    exact ⟨(h.2.2.2.2 k q0 q1).1, rfl, rfl⟩
  | 2, _, hA, h, hf => by
    have a5 := hA.2.1
    unfold zfOf zfAt zfR at hf
    simp only at hf
    repeat' split at hf
    all_goals try omega
    have x : ∀ j, ¬ j = 6 + 9 * p + 5 → ¬ j = 6 + 9 * p + 6 → upR (upR A (6 + 9 * p + 5) 1) (6 + 9 * p + 6) q j = A j := fun j h1 h2 => by rw [upR_ne _ _ h2, upR_ne _ _ h1]
    unfold zCo
    simp only
    refine zTb_of h (by omega) (x _ (by omega) (by omega)) (x _ (by omega) (by omega)) (x _ (by omega) (by omega)) (fun k q0 q1 => ?_)
    rw [x _ (by omega) (by omega), x _ (by omega) (by omega), x _ (by omega) (by omega), x _ (by omega) (by omega)]
    exact ⟨(h.2.2.2.2 k q0 q1).1, rfl, rfl⟩
  | 3, _, hA, h, hf => by
    have a5 := hA.2.1
    unfold zfOf zfHand at hf
    simp only at hf
    repeat' split at hf
    all_goals try omega
    unfold zCo
    simp only
    refine zTb_of h (by omega) (upR_ne _ _ (by omega)) (upR_ne _ _ (by omega)) (upR_ne _ _ (by omega)) (fun k q0 q1 => ?_)
    rw [upR_ne _ _ (by omega), upR_ne _ _ (by omega), upR_ne _ _ (by omega), upR_ne _ _ (by omega)]
    exact ⟨(h.2.2.2.2 k q0 q1).1, rfl, rfl⟩
  | 4, _, hA, h, hf => by
    have a5 := hA.2.1
    have a2 := hA.2.2.1
    unfold zfOf zfRain at hf
    simp only at hf
    repeat' split at hf
    all_goals try omega
    have x : ∀ j, ¬ j = 2 → ¬ j = 51 + A 2 → upR (upR A (51 + A 2) p) 2 (A 2 + 1) j = A j := fun j h1 h2 => by rw [upR_ne _ _ h1, upR_ne _ _ h2]
    unfold zCo
    simp only
    refine zTb_of h (by omega) (x _ (by omega) (by omega)) (x _ (by omega) (by omega)) (x _ (by omega) (by omega)) (fun k q0 q1 => ?_)
    rw [x _ (by omega) (by omega), x _ (by omega) (by omega), x _ (by omega) (by omega), x _ (by omega) (by omega)]
    exact ⟨(h.2.2.2.2 k q0 q1).1, rfl, rfl⟩
  | 5, _, hA, h, _ => by
    have a5 := hA.2.1
    unfold zCo
    simp only
    refine zTb_of h (by omega) (upR_ne _ _ (by omega)) (upR_ne _ _ (by omega)) (upR_ne _ _ (by omega)) (fun k q0 q1 => ?_)
    rw [upR_ne _ _ (by omega), upR_ne _ _ (by omega), upR_ne _ _ (by omega), upR_ne _ _ (by omega)]
    exact ⟨(h.2.2.2.2 k q0 q1).1, rfl, rfl⟩
  | 6, _, hA, h, hf => by
    have a5 := hA.2.1
    unfold zfOf zfPour at hf
    simp only at hf
    repeat' split at hf
    all_goals try omega
    have x : ∀ j, ¬ j = 5 → ¬ j = 6 + 9 * p + 1 → upR (upR A (6 + 9 * p + 1) (A (6 + 9 * p + 1) + q)) 5 (A 5 + q) j = A j := fun j h1 h2 => by rw [upR_ne _ _ h1, upR_ne _ _ h2]
    unfold zCo
    simp only
    refine zTb_of h (by omega) (x _ (by omega) (by omega)) (x _ (by omega) (by omega)) (x _ (by omega) (by omega)) (fun k q0 q1 => ?_)
    rw [x (6 + 9 * k + 0) (by omega) (by omega), x (6 + 9 * k + 7) (by omega) (by omega), x (6 + 9 * k + 8) (by omega) (by omega)]
    refine ⟨?_, rfl, rfl⟩
    by_cases e : k = p
    · subst e
      rw [upR_ne _ _ (by omega), upR_eq]
      omega
    · rw [x _ (by omega) (by omega)]
      exact (h.2.2.2.2 k q0 q1).1
  | 7, _, hA, h, hf => by
    unfold zfOf zfR at hf
    simp only at hf
    repeat' split at hf
    all_goals try omega
    have h1 := zPs_tb p.toNat hA h
    obtain ⟨t0, t1, t2, t3, tk⟩ := h1
    exact ⟨t0, by show zPs p.toNat A 1 ≤ M + 30; omega, t2, t3, tk⟩
  | k + 8, h, _, _, _ => absurd h (by omega)
/-- class and reference stand alike, in their bounds -/
def zPr (A B : Int → Int) (M : Int) : Prop := zWF A 99 ∧ zWF B 99 ∧ zL A B ∧ zCon A ∧ zTb A M
theorem rCo_wf {k : Nat} (hk : k < 8) (hB : zWF B 99) (hf : zfOf k B p q r = 1010) : zWF (rCo k B p q r) 99 := by
  by_cases h7 : k = 7
  · subst h7
    exact rPs_wf _ hB
  have h := (zL_cmd hk hB hB (zL_refl B) hf).1
  have hw := zCo_wf hk hB hf
  have w0 := hw.2.1
  refine zWF_of hw h (fun i q0 q1 => ?_)
  have hB6 : ∀ i, 0 ≤ i → i < B 0 → 0 ≤ B (6 + 9 * i + 6) ∧ B (6 + 9 * i + 6) ≤ 99 := fun i a b => by
    have := hB.2.2.2.2.1 i a b
    unfold zOK at this
    omega
  have b5 := hB.2.1
  have b0 := hB.1
  match k, hk, h7 with
  | 0, _, _ =>
    have q1 : i < upR (zBeg (B 0) p q r B) 0 (B 0 + 1) 0 := q1
    rw [upR_eq] at q1
    show 0 ≤ rBd (B 0) p q r B (6 + 9 * i + 6) ∧ rBd (B 0) p q r B (6 + 9 * i + 6) ≤ 99
    by_cases e : i = B 0
    · rw [rBd_at, if_neg (by omega), if_neg (by omega), if_neg (by omega), if_pos (by omega)]
      omega
    · rw [rBd_at, if_neg (by omega), if_neg (by omega), if_neg (by omega), if_neg (by omega), if_neg (by omega)]
      exact hB6 i q0 (by omega)
  | 1, _, _ =>
    unfold zfOf zfGate at hf
    simp only at hf
    repeat' split at hf
    all_goals try omega
    have q1 : i < upR B (6 + 9 * p + 4) q 0 := q1
    rw [upR_ne _ _ (by omega)] at q1
    show 0 ≤ upR B (6 + 9 * p + 4) q (6 + 9 * i + 6) ∧ upR B (6 + 9 * p + 4) q (6 + 9 * i + 6) ≤ 99
    rw [upR_ne _ _ (by omega)]
    exact hB6 i q0 q1
  | 2, _, _ =>
    unfold zfOf zfAt zfR at hf
    simp only at hf
    repeat' split at hf
    all_goals try omega
    have q1 : i < upR (upR B (6 + 9 * p + 5) 1) (6 + 9 * p + 6) q 0 := q1
    rw [upR_ne _ _ (by omega), upR_ne _ _ (by omega)] at q1
    show 0 ≤ upR (upR B (6 + 9 * p + 5) 1) (6 + 9 * p + 6) q (6 + 9 * i + 6) ∧ upR (upR B (6 + 9 * p + 5) 1) (6 + 9 * p + 6) q (6 + 9 * i + 6) ≤ 99
    by_cases e : i = p
    · subst e; rw [upR_eq]; omega
    · rw [upR_ne _ _ (by omega), upR_ne _ _ (by omega)]
      exact hB6 i q0 q1
  | 3, _, _ =>
    unfold zfOf zfHand at hf
    simp only at hf
    repeat' split at hf
    all_goals try omega
    have q1 : i < upR B (6 + 9 * p + 5) 0 0 := q1
    rw [upR_ne _ _ (by omega)] at q1
    show 0 ≤ upR (upR B (6 + 9 * p + 5) 0) (6 + 9 * p + 6) 0 (6 + 9 * i + 6) ∧ upR (upR B (6 + 9 * p + 5) 0) (6 + 9 * p + 6) 0 (6 + 9 * i + 6) ≤ 99
    by_cases e : i = p
    · subst e; rw [upR_eq]; omega
    · rw [upR_ne _ _ (by omega), upR_ne _ _ (by omega)]
      exact hB6 i q0 q1
  | 4, _, _ =>
    have b2 := hB.2.2.1
    have q1 : i < upR (upR B (51 + B 2) p) 2 (B 2 + 1) 0 := q1
    rw [upR_ne _ _ (by omega), upR_ne _ _ (by omega)] at q1
    show 0 ≤ upR (upR B (51 + B 2) p) 2 (B 2 + 1) (6 + 9 * i + 6) ∧ upR (upR B (51 + B 2) p) 2 (B 2 + 1) (6 + 9 * i + 6) ≤ 99
    rw [upR_ne _ _ (by omega), upR_ne _ _ (by omega)]
    exact hB6 i q0 q1
  | 5, _, _ =>
    have q1 : i < upR B 2 0 0 := q1
    rw [upR_ne _ _ (by omega)] at q1
    show 0 ≤ rCl (B 2).toNat B (6 + 9 * i + 6) ∧ rCl (B 2).toNat B (6 + 9 * i + 6) ≤ 99
    rw [rCl_ne _ (by omega) (by omega)]
    exact hB6 i q0 q1
  | 6, _, _ =>
    unfold zfOf zfPour at hf
    simp only at hf
    repeat' split at hf
    all_goals try omega
    have q1 : i < upR (upR B (6 + 9 * p + 1) (B (6 + 9 * p + 1) + q)) 5 (B 5 + q) 0 := q1
    rw [upR_ne _ _ (by omega), upR_ne _ _ (by omega)] at q1
    show 0 ≤ upR B (6 + 9 * p + 1) (B (6 + 9 * p + 1) + q) (6 + 9 * i + 6) ∧ upR B (6 + 9 * p + 1) (B (6 + 9 * p + 1) + q) (6 + 9 * i + 6) ≤ 99
    rw [upR_ne _ _ (by omega)]
    exact hB6 i q0 q1
  | 7, _, h7 => exact absurd rfl h7
  | k + 8, h, _ => omega
theorem zPr_cmd {k : Nat} {M : Int} (hk : k < 8) (h : zPr A B M) (hf : zfOf k A p q r = 1010) : zPr (zCo k A p q r) (rCo k B p q r) (M + 30) ∧ zCv k A p q r = rCv k B p q r := by
  obtain ⟨hA, hB, hL, hC, hT⟩ := h
  have hfB : zfOf k B p q r = 1010 := by rw [← zfOf_L hL hA.1 hA.2.1]; exact hf
  obtain ⟨h1, h2⟩ := zL_cmd hk hA hB hL hf
  exact ⟨⟨zCo_wf hk hA hf, rCo_wf hk hB hfB, h1, zCo_con hk hA hC hf, zCo_tb hk hA hT hf⟩, h2⟩
theorem zPr_mono {M N : Int} (h : zPr A B M) (hN : M ≤ N) : zPr A B N := by
  obtain ⟨hA, hB, hL, hC, t0, t1, t2, t3, tk⟩ := h
  exact ⟨hA, hB, hL, hC, t0, by omega, t2, t3, tk⟩
/-- a copy of the class's row, and any row that is the reference's -/
theorem zPr_cpy {M : Int} (h : zPr A B M) (X : Int → Int) : zPr (zCpy A X) B M := by
  obtain ⟨hA, hB, hL, hC, hT⟩ := h
  obtain ⟨h0, h5, h2, h12, hk, hf⟩ := id hA
  have e := fun j => zCpy_eq (A := X) h0 h5 h2 j
  have e0 : zCpy A X 0 = A 0 := by rw [e, if_pos (by omega)]
  have e1 : zCpy A X 1 = A 1 := by rw [e, if_pos (by omega)]
  have e3 : zCpy A X 3 = A 3 := by rw [e, if_pos (by omega)]
  refine ⟨zWF_cpy hA X, hB, zL_trans (zL_cpy hA X) hL, zCon_cpy hA X hC, zTb_of hT (Int.le_refl M) e0 e1 e3 (fun k q0 q1 => ?_)⟩
  rw [e, if_pos (by omega), e, if_pos (by omega), e, if_pos (by omega), e, if_pos (by omega)]
  exact ⟨(hT.2.2.2.2 k q0 q1).1, rfl, rfl⟩
theorem zPr_on {M : Int} {X : Int → Int} (h : zPr A B M) (e : ∀ j, 0 ≤ j → j < 63 → X j = B j) : zPr A X M := by
  obtain ⟨hA, hB, hL, hC, hT⟩ := h
  exact ⟨hA, zWF_on hB e, zL_on hL hA.2.1 hA.2.2.2.1 e, hC, hT⟩
end CM2

