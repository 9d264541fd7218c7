/-! THE STEP'S BOUNDS -/
theorem zFw_ne : ∀ (n : Nat) {i fl j : Int} {A : Int → Int}, (∀ k, i ≤ k → k < i + n → ¬ j = 6 + 9 * k + 1 ∧ ¬ j = 6 + 9 * k + 4) → zFw n i fl A j = A j
  | 0, _, _, _, _, _ => rfl
  | n + 1, i, fl, j, A, h => by
    have h1 := h i (by omega) (by omega)
    rw [zFw, zFw_ne n (fun k h1 h2 => h k (by omega) (by omega)), zLet_ne h1.1, zF1_ne h1.2 h1.1]
theorem zLF_eq {i fl k w : Int} {A : Int → Int} (h : ¬ k = i) (h0 : 0 ≤ w) (h9 : w < 9) : zLet i (zF1 i fl A) (6 + 9 * k + w) = A (6 + 9 * k + w) := by
  rw [zLet_ne (by omega), zF1_ne (by omega) (by omega)]
theorem zFw_bd : ∀ (n : Nat) {i fl : Int} {A : Int → Int}, 0 ≤ i → 0 ≤ fl ∧ fl ≤ 20 → (∀ k, i ≤ k → k < i + n → zOK A 180 k) →
    (0 ≤ zFv n i fl A ∧ zFv n i fl A ≤ 20) ∧ ∀ k, i ≤ k → k < i + n → (0 ≤ zFw n i fl A (6 + 9 * k + 1) ∧ zFw n i fl A (6 + 9 * k + 1) ≤ 200) ∧ (0 ≤ zFw n i fl A (6 + 9 * k + 4) ∧ zFw n i fl A (6 + 9 * k + 4) ≤ 5)
  | 0, i, fl, A, _, hf, _ => ⟨hf, fun k h1 h2 => by omega⟩
  | n + 1, i, fl, A, h0, hf, hk => by
    have h1 := zFw_ok h0 hf (hk i (by omega) (by omega))
    obtain ⟨ih1, ih2⟩ := zFw_bd n (i := i + 1) (fl := zFl (zF1 i fl A (6 + 9 * i + 4)) (zF1 i fl A (6 + 9 * i + 1))) (A := zLet i (zF1 i fl A)) (by omega) h1.2.2 (fun k h3 h4 => zOK_eq (fun w h5 h6 => zLF_eq (by omega) h5 h6) (hk k (by omega) (by omega)))
    refine ⟨ih1, fun k h3 h4 => ?_⟩
    rw [zFw]
    by_cases e : k = i
    · subst e
      rw [zFw_ne n (fun q h5 h6 => by omega), zFw_ne n (fun q h5 h6 => by omega), zLet_1, zLet_ne (by omega)]
      have h7 := zFl_bd h1.2.1.1 h1.2.1.2 h1.1.1
      omega
    · exact ih2 k (by omega) (by omega)
theorem zSt1_b {A : Int → Int} {m k w : Int} (hA : zWF A m) (h0 : 0 ≤ k) (h1 : k < A 0) (hw : 0 ≤ w) (hw9 : w < 9) : zSt1 A (6 + 9 * k + w) = if w = 1 then A (6 + 9 * k + 1) + zTkv (upR A 1 (A 1 + 1)) * A (6 + 9 * k + 2) else A (6 + 9 * k + w) := by
  have h5 := hA.2.1
  unfold zSt1
  have e : ∀ j, 6 ≤ j → j < 51 → zTk (upR A 1 (A 1 + 1)) j = A j := fun j h2 h3 => by rw [zTk_ne (by omega) (by omega), upR_ne _ _ (by omega)]
  split
  · next hw1 =>
    subst hw1
    rw [zRn_is _ (by omega) (by omega) (by omega), e _ (by omega) (by omega), e _ (by omega) (by omega)]
  · rw [zRn_ne _ (fun q h2 h3 => by omega) (by omega), e _ (by omega) (by omega)]
theorem zTkv_bd {A : Int → Int} {m : Int} (hA : zWF A m) : 0 ≤ zTkv (upR A 1 (A 1 + 1)) ∧ zTkv (upR A 1 (A 1 + 1)) ≤ 20 := by
  unfold zTkv
  rw [upR_ne _ _ (by omega), upR_ne _ _ (by omega)]
  split
  · omega
  · exact hA.2.2.2.2.2 0 (by omega) (by have := hA.2.2.1; omega)
theorem zSt1_0 {A : Int → Int} : zSt1 A 0 = A 0 := by
  unfold zSt1
  rw [zRn_ne _ (fun q h2 h3 => by omega) (by omega), zTk_ne (by omega) (by omega), upR_ne _ _ (by omega)]
theorem zSt1_ok {A : Int → Int} (hA : zWF A 99) {k : Int} (h0 : 0 ≤ k) (h1 : k < A 0) : zOK (zSt1 A) 180 k := by
  have hk := hA.2.2.2.2.1 k h0 h1
  have hr := zTkv_bd hA
  unfold zOK at hk ⊢
  have hm := zmul_bd (x := zTkv (upR A 1 (A 1 + 1))) (y := A (6 + 9 * k + 2)) hr.1 hr.2 (by omega) (show _ ≤ 3 by omega)
  rw [zSt1_b hA h0 h1 (by omega) (by omega), zSt1_b hA h0 h1 (by omega) (by omega), zSt1_b hA h0 h1 (by omega) (by omega), zSt1_b hA h0 h1 (by omega) (by omega), zSt1_b hA h0 h1 (by omega) (by omega), zSt1_b hA h0 h1 (by omega) (by omega), zSt1_b hA h0 h1 (by omega) (by omega)]
  simp only [Int.reduceEq, if_true, if_false]
  omega
theorem zSt2_0 {A : Int → Int} : zSt2 A 0 = A 0 := by
  unfold zSt2
  rw [upR_ne _ _ (by omega), zFw_ne _ (fun q h2 h3 => by omega), zSt1_0]
/-- before the spill: levels up to 200, gates and capacities in their bounds -/
theorem zSt2_bd {A : Int → Int} (hA : zWF A 99) {k : Int} (h0 : 0 ≤ k) (h1 : k < A 0) : (0 ≤ zSt2 A (6 + 9 * k + 1) ∧ zSt2 A (6 + 9 * k + 1) ≤ 200) ∧ (0 ≤ zSt2 A (6 + 9 * k + 4) ∧ zSt2 A (6 + 9 * k + 4) ≤ 5) ∧ (10 ≤ zSt2 A (6 + 9 * k + 0) ∧ zSt2 A (6 + 9 * k + 0) ≤ 99) := by
  have h5 := hA.1
  have h := (zFw_bd (A 0).toNat (i := 0) (fl := 0) (A := zSt1 A) (by omega) (by omega) (fun q h2 h3 => zSt1_ok hA h2 (by omega))).2 k h0 (by omega)
  have hk := zSt1_ok hA h0 h1
  unfold zOK at hk
  unfold zSt2
  rw [upR_ne _ _ (by omega), upR_ne _ _ (by omega), upR_ne _ _ (by omega)]
  refine ⟨h.1, h.2, ?_⟩
  rw [zFw_ne _ (fun q h2 h3 => by omega)]
  omega
theorem zSt2_v {A : Int → Int} (hA : zWF A 99) : 0 ≤ zFv (A 0).toNat 0 0 (zSt1 A) ∧ zFv (A 0).toNat 0 0 (zSt1 A) ≤ 20 :=
  (zFw_bd (A 0).toNat (i := 0) (fl := 0) (A := zSt1 A) (by omega) (by omega) (fun q h2 h3 => zSt1_ok hA h2 (by have := hA.1; omega))).1
theorem zSw_ne : ∀ (n : Nat) {i j : Int} {A : Int → Int}, (∀ k, i ≤ k → k < i + n → ¬ j = 6 + 9 * k + 1 ∧ ¬ j = 6 + 9 * k + 7 ∧ ¬ j = 6 + 9 * k + 8) → zSw n i A j = A j
  | 0, _, _, _, _ => rfl
  | n + 1, i, j, A, h => by
    have h1 := h i (by omega) (by omega)
    rw [zSw, zSw_ne n (fun k h1 h2 => h k (by omega) (by omega)), zSpo_ne h1.1 h1.2.1 h1.2.2]
theorem zSw_is : ∀ (n : Nat) {i k w : Int} {A : Int → Int}, i ≤ k → k < i + n → 0 ≤ w → w < 9 → zSw n i A (6 + 9 * k + w) = zSpo k A (6 + 9 * k + w)
  | 0, _, _, _, _, h1, h2, _, _ => by omega
  | n + 1, i, k, w, A, h1, h2, h3, h4 => by
    rw [zSw]
    by_cases h : k = i
    · subst h
      rw [zSw_ne n (fun q h3 h4 => by omega)]
    · rw [zSw_is n (by omega) (by omega) h3 h4]
      have e : ∀ u, 0 ≤ u → u < 9 → zSpo i A (6 + 9 * k + u) = A (6 + 9 * k + u) := fun u h5 h6 => zSpo_ne (by omega) (by omega) (by omega)
      unfold zSpo at e ⊢
      rw [e 0 (by omega) (by omega), e 1 (by omega) (by omega), e 7 (by omega) (by omega), e 8 (by omega) (by omega)]
      split
      · unfold upR
        split
        · rfl
        split
        · rfl
        split
        · rfl
        exact e w h3 h4
      · exact e w h3 h4
theorem zSpo_1 {i : Int} {A : Int → Int} : zSpo i A (6 + 9 * i + 1) = if A (6 + 9 * i + 0) < A (6 + 9 * i + 1) then A (6 + 9 * i + 0) else A (6 + 9 * i + 1) := by
  unfold zSpo
  split
  · rw [upR_ne _ _ (by omega), upR_ne _ _ (by omega), upR_eq]
  · rfl
theorem zSpo_7 {i : Int} {A : Int → Int} : zSpo i A (6 + 9 * i + 7) = A (6 + 9 * i + 7) + zSpv i A := by
  unfold zSpo zSpv
  split
  · rw [upR_ne _ _ (by omega), upR_eq]
  · omega
theorem zSpo_8 {i : Int} {A : Int → Int} : zSpo i A (6 + 9 * i + 8) = A (6 + 9 * i + 8) + if A (6 + 9 * i + 0) < A (6 + 9 * i + 1) then 1 else 0 := by
  unfold zSpo
  split
  · rw [upR_eq]
  · omega
