/-! THE STEP, PLACE BY PLACE; ITS ACCOUNTS -/
section ZS
variable {A B : Int → Int} {k w j m : Int}
theorem zSt_head (h5 : A 0 ≤ 5) (h : ¬ (6 ≤ j ∧ j < 51)) : zSt A j = zSt2 A j := by
  unfold zSt
  exact zSw_ne _ (fun q h2 h3 => by omega)
theorem zSt_b (h0 : 0 ≤ k) (h1 : k < A 0) (hw : 0 ≤ w) (hw9 : w < 9) : zSt A (6 + 9 * k + w) = zSpo k (zSt2 A) (6 + 9 * k + w) := by
  unfold zSt
  exact zSw_is _ h0 (by omega) hw hw9
theorem zSt2_ne (h5 : A 0 ≤ 5) (h3 : ¬ j = 3) (h4 : ¬ j = 4) (h1 : ¬ j = 1) (h : ¬ 6 ≤ j) : zSt2 A j = zTk (upR A 1 (A 1 + 1)) j := by
  unfold zSt2 zSt1
  rw [upR_ne _ _ h3, zFw_ne _ (fun q h2 h3 => by omega), zRn_ne _ (fun q h2 h3 => by omega) h4]
theorem zSt_0 (h5 : A 0 ≤ 5) : zSt A 0 = A 0 := by rw [zSt_head h5 (by omega), zSt2_0]
theorem zSt_1 (h5 : A 0 ≤ 5) : zSt A 1 = A 1 + 1 := by
  rw [zSt_head h5 (by omega)]
  unfold zSt2 zSt1
  rw [upR_ne _ _ (by omega), zFw_ne _ (fun q h2 h3 => by omega), zRn_ne _ (fun q h2 h3 => by omega) (by omega), zTk_ne (by omega) (by omega), upR_eq]
theorem zSt_2 (h5 : A 0 ≤ 5) (h2 : 0 ≤ A 2) : zSt A 2 = if A 2 = 0 then 0 else A 2 - 1 := by
  have e : upR A 1 (A 1 + 1) 2 = A 2 := upR_ne _ _ (by omega)
  rw [zSt_head h5 (by omega), zSt2_ne h5 (by omega) (by omega) (by omega) (by omega), zTk_2 (by omega), e]
theorem zSt1_3 : zSt1 A 3 = A 3 := by
  unfold zSt1
  rw [zRn_ne _ (fun q h2 h3 => by omega) (by omega), zTk_ne (by omega) (by omega), upR_ne _ _ (by omega)]
theorem zSt_3 (h5 : A 0 ≤ 5) : zSt A 3 = A 3 + zFv (A 0).toNat 0 0 (zSt1 A) := by
  rw [zSt_head h5 (by omega)]
  unfold zSt2
  rw [upR_eq, zSt1_3]
theorem zSt_5 (h5 : A 0 ≤ 5) : zSt A 5 = A 5 := by
  rw [zSt_head h5 (by omega), zSt2_ne h5 (by omega) (by omega) (by omega) (by omega), zTk_ne (by omega) (by omega), upR_ne _ _ (by omega)]
theorem zSt_f (h5 : A 0 ≤ 5) (h0 : 0 ≤ j) (h1 : j < A 2 - 1) : zSt A (51 + j) = A (51 + j + 1) := by
  rw [zSt_head h5 (by omega)]
  unfold zSt2 zSt1
  rw [upR_ne _ _ (by omega), zFw_ne _ (fun q h2 h3 => by omega), zRn_ne _ (fun q h2 h3 => by omega) (by omega), zTk_f h0 (by rw [upR_ne _ _ (by omega)]; exact h1), upR_ne _ _ (by omega)]
theorem zSt2_b (hA : zWF A m) (h0 : 0 ≤ k) (h1 : k < A 0) (hw : 0 ≤ w) (hw9 : w < 9) (e1 : ¬ w = 1) (e4 : ¬ w = 4) : zSt2 A (6 + 9 * k + w) = A (6 + 9 * k + w) := by
  have h5 := hA.2.1
  unfold zSt2
  rw [upR_ne _ _ (by omega), zFw_ne _ (fun q h2 h3 => by omega), zSt1_b hA h0 h1 hw hw9, if_neg e1]
/-- a field of a basin that a step doesn't touch -/
theorem zSt_c (hA : zWF A m) (h0 : 0 ≤ k) (h1 : k < A 0) (hw : 0 ≤ w) (hw9 : w < 9) (e1 : ¬ w = 1) (e4 : ¬ w = 4) (e7 : ¬ w = 7) (e8 : ¬ w = 8) : zSt A (6 + 9 * k + w) = A (6 + 9 * k + w) := by
  rw [zSt_b h0 h1 hw hw9, zSpo_ne (by omega) (by omega) (by omega), zSt2_b hA h0 h1 hw hw9 e1 e4]
theorem zSt_l (h0 : 0 ≤ k) (h1 : k < A 0) : zSt A (6 + 9 * k + 1) = if zSt2 A (6 + 9 * k + 0) < zSt2 A (6 + 9 * k + 1) then zSt2 A (6 + 9 * k + 0) else zSt2 A (6 + 9 * k + 1) := by
  rw [zSt_b h0 h1 (by omega) (by omega), zSpo_1]
theorem zSt_s (hA : zWF A m) (h0 : 0 ≤ k) (h1 : k < A 0) : zSt A (6 + 9 * k + 7) = A (6 + 9 * k + 7) + zSpv k (zSt2 A) := by
  rw [zSt_b h0 h1 (by omega) (by omega), zSpo_7, zSt2_b hA h0 h1 (by omega) (by omega) (by omega) (by omega)]
theorem zSt_n (hA : zWF A m) (h0 : 0 ≤ k) (h1 : k < A 0) : zSt A (6 + 9 * k + 8) = A (6 + 9 * k + 8) + if zSt2 A (6 + 9 * k + 0) < zSt2 A (6 + 9 * k + 1) then 1 else 0 := by
  rw [zSt_b h0 h1 (by omega) (by omega), zSpo_8, zSt2_b hA h0 h1 (by omega) (by omega) (by omega) (by omega)]
theorem zSpv_bd (hA : zWF A 99) (h0 : 0 ≤ k) (h1 : k < A 0) : 0 ≤ zSpv k (zSt2 A) ∧ zSpv k (zSt2 A) ≤ 190 := by
  have h := zSt2_bd hA h0 h1
  unfold zSpv
  split <;> omega
theorem zSt_wf (hA : zWF A 99) : zWF (zSt A) 99 := by
  obtain ⟨h0, h5, h2, h12, hk, hf⟩ := id hA
  have e2 := zSt_2 h5 h2
  refine ⟨by rw [zSt_0 h5]; exact h0, by rw [zSt_0 h5]; exact h5, by rw [e2]; split <;> omega, by rw [e2]; split <;> omega, fun k h3 h4 => ?_, fun j h3 h4 => ?_⟩
  · rw [zSt_0 h5] at h4
    have k1 := hk k h3 h4
    have k2 := zSt2_bd hA h3 h4
    have l1 := zSt_l h3 h4
    have l4 : zSt A (6 + 9 * k + 4) = zSt2 A (6 + 9 * k + 4) := by rw [zSt_b h3 h4 (by omega) (by omega), zSpo_ne (by omega) (by omega) (by omega)]
    unfold zOK at k1 ⊢
    rw [zSt_c (w := 0) hA h3 h4 (by omega) (by omega) (by omega) (by omega) (by omega) (by omega), zSt_c (w := 2) hA h3 h4 (by omega) (by omega) (by omega) (by omega) (by omega) (by omega), zSt_c (w := 3) hA h3 h4 (by omega) (by omega) (by omega) (by omega) (by omega) (by omega), zSt_c (w := 5) hA h3 h4 (by omega) (by omega) (by omega) (by omega) (by omega) (by omega), zSt_c (w := 6) hA h3 h4 (by omega) (by omega) (by omega) (by omega) (by omega) (by omega), l4]
    have l9 : 0 ≤ zSt A (6 + 9 * k + 1) ∧ zSt A (6 + 9 * k + 1) ≤ 99 := by rw [l1]; split <;> omega
    omega
  · rw [e2] at h4
    by_cases e : A 2 = 0
    · rw [if_pos e] at h4; omega
    · rw [if_neg e] at h4
      rw [zSt_f h5 h3 h4, Int.add_assoc]
      exact hf (j + 1) (by omega) (by omega)
/-- levels stand at most at the capacity behind a step -/
theorem zSt_fit (hA : zWF A 99) (h0 : 0 ≤ k) (h1 : k < A 0) : zSt A (6 + 9 * k + 1) ≤ zSt A (6 + 9 * k + 0) := by
  rw [zSt_l h0 h1, zSt_c hA h0 h1 (by omega) (by omega) (by omega) (by omega) (by omega) (by omega)]
  have := zSt2_b hA h0 h1 (show (0 : Int) ≤ 0 by omega) (by omega) (by omega) (by omega)
  split <;> omega
-- sums
def zS (w : Int) : Nat → Int → (Int → Int) → Int
  | 0, _, _ => 0
  | n + 1, i, A => A (6 + 9 * i + w) + zS w n (i + 1) A
theorem zS_eq {w : Int} : ∀ (n : Nat) {i : Int}, (∀ k, i ≤ k → k < i + n → A (6 + 9 * k + w) = B (6 + 9 * k + w)) → zS w n i A = zS w n i B
  | 0, _, _ => rfl
  | n + 1, i, h => by
    rw [zS, zS, h i (by omega) (by omega), zS_eq n (fun k h1 h2 => h k (by omega) (by omega))]
theorem zSm_S {w : Int} : ∀ (n : Nat) {i s : Int}, zSm w n i s A = s + zS w n i A
  | 0, _, _ => by rw [zSm, zS, Int.add_zero]
  | n + 1, i, s => by rw [zSm, zS, zSm_S n]; omega
theorem zBl_S : ∀ (n : Nat) {i s : Int}, zBl n i s A = s - zS 7 n i A
  | 0, _, _ => by rw [zBl, zS, Int.sub_zero]
  | n + 1, i, s => by rw [zBl, zS, zBl_S n]; omega
theorem zSv_s : ∀ (n : Nat) {i s : Int} {A : Int → Int}, zSv n i s A = s + zSv n i 0 A
  | 0, _, _, _ => by rw [zSv, zSv, Int.add_zero]
  | n + 1, i, s, A => by rw [zSv, zSv, zSv_s n, zSv_s n (s := 0 + zSpv i A)]; omega
theorem zRn_4 : ∀ (n : Nat) {i r : Int} {A : Int → Int}, 0 ≤ i → zRn n i r A 4 = A 4 + r * zS 2 n i A
  | 0, _, _, _, _ => by rw [zRn, zS, Int.mul_zero, Int.add_zero]
  | n + 1, i, r, A, h0 => by
    rw [zRn, zRn_4 n (by omega), upR_eq, zS, Int.mul_add, zS_eq n (B := A) (fun k h1 h2 => by rw [upR_ne _ _ (by omega), upR_ne _ _ (by omega)])]
    omega
theorem zS_lin {r : Int} : ∀ (n : Nat) {i : Int}, (∀ k, i ≤ k → k < i + n → B (6 + 9 * k + 1) = A (6 + 9 * k + 1) + r * A (6 + 9 * k + 2)) → zS 1 n i B = zS 1 n i A + r * zS 2 n i A
  | 0, _, _ => by rw [zS, zS, zS, Int.mul_zero, Int.add_zero]
  | n + 1, i, h => by
    rw [zS, zS, zS, Int.mul_add, h i (by omega) (by omega), zS_lin n (fun k h1 h2 => h k (by omega) (by omega))]
    omega
theorem zFw_S : ∀ (n : Nat) {i fl : Int} {A : Int → Int}, zS 1 n i (zFw n i fl A) + zFv n i fl A = zS 1 n i A + fl
  | 0, _, _, _ => by rw [zS, zS, zFv]
  | n + 1, i, fl, A => by
    rw [zS, zS, zFw, zFv]
    have ih := zFw_S n (i := i + 1) (fl := zFl (zF1 i fl A (6 + 9 * i + 4)) (zF1 i fl A (6 + 9 * i + 1))) (A := zLet i (zF1 i fl A))
    rw [zS_eq n (A := zLet i (zF1 i fl A)) (B := A) (fun k h1 h2 => zLF_eq (by omega) (by omega) (by omega))] at ih
    rw [zFw_ne n (fun q h5 h6 => by omega), zLet_1, zF1_1]
    rw [zF1_1] at ih
    omega
theorem zSw_S : ∀ (n : Nat) {i : Int} {A : Int → Int}, zS 1 n i (zSw n i A) = zS 1 n i A - zSv n i 0 A ∧ zS 7 n i (zSw n i A) = zS 7 n i A + zSv n i 0 A
  | 0, _, _ => by simp only [zS, zSw, zSv]; omega
  | n + 1, i, A => by
    rw [zS, zS, zS, zS, zSw, zSv, zSv_s n]
    obtain ⟨i1, i7⟩ := zSw_S n (i := i + 1) (A := zSpo i A)
    rw [zS_eq n (A := zSpo i A) (B := A) (fun k h1 h2 => zSpo_ne (by omega) (by omega) (by omega))] at i1 i7
    rw [i1, i7, zSw_ne n (fun q h5 h6 => by omega), zSw_ne n (fun q h5 h6 => by omega), zSpo_7, zSpo_1]
    have : (if A (6 + 9 * i + 0) < A (6 + 9 * i + 1) then A (6 + 9 * i + 0) else A (6 + 9 * i + 1)) = A (6 + 9 * i + 1) - zSpv i A := by
      unfold zSpv
      split <;> omega
    omega
/-- the accounts are right -/
def zCon (A : Int → Int) : Prop := A 4 + A 5 - A 3 - zS 7 (A 0).toNat 0 A = zS 1 (A 0).toNat 0 A
theorem zSt_con (hA : zWF A m) (h : zCon A) : zCon (zSt A) := by
  obtain ⟨h0, h5, h2, h12, hk, hf⟩ := id hA
  unfold zCon at h ⊢
  rw [zSt_0 h5, zSt_5 h5, zSt_3 h5]
  have e4 : zSt A 4 = A 4 + zTkv (upR A 1 (A 1 + 1)) * zS 2 (A 0).toNat 0 A := by
    rw [zSt_head h5 (by omega)]
    unfold zSt2 zSt1
    rw [upR_ne _ _ (by omega), zFw_ne _ (fun q h2 h3 => by omega), zRn_4 _ (by omega), zTk_ne (by omega) (by omega), upR_ne _ _ (by omega)]
    rw [zS_eq _ (B := A) (fun k h1 h2 => by rw [zTk_ne (by omega) (by omega), upR_ne _ _ (by omega)])]
  have w1 := (zSw_S (A 0).toNat (i := 0) (A := zSt2 A)).1
  have w7 := (zSw_S (A 0).toNat (i := 0) (A := zSt2 A)).2
  rw [show zSw (A 0).toNat 0 (zSt2 A) = zSt A from rfl] at w1 w7
  have f1 := zFw_S (A 0).toNat (i := 0) (fl := 0) (A := zSt1 A)
  have g1 : zS 1 (A 0).toNat 0 (zSt2 A) = zS 1 (A 0).toNat 0 (zFw (A 0).toNat 0 0 (zSt1 A)) := zS_eq _ (fun k h1 h2 => by unfold zSt2; rw [upR_ne _ _ (by omega)])
  have g7 : zS 7 (A 0).toNat 0 (zSt2 A) = zS 7 (A 0).toNat 0 A := zS_eq _ (fun k h1 h2 => zSt2_b hA h1 (by omega) (by omega) (by omega) (by omega) (by omega))
  have r1 : zS 1 (A 0).toNat 0 (zSt1 A) = zS 1 (A 0).toNat 0 A + zTkv (upR A 1 (A 1 + 1)) * zS 2 (A 0).toNat 0 A := zS_lin _ (fun k h1 h2 => by rw [zSt1_b hA h1 (by omega) (by omega) (by omega), if_pos rfl])
  omega
end ZS
