/-! CLASS AND REFERENCE: a step keeps them alike -/
/-- alive alike: heads, basins in use (a bound only of an automatic gate), amounts in the forecast -/
def zB (A B : Int → Int) (n : Int) : Prop := ∀ k w, 0 ≤ k → k < n → 0 ≤ w → w < 9 → (w = 6 → A (6 + 9 * k + 5) = 1) → A (6 + 9 * k + w) = B (6 + 9 * k + w)
def zL (A B : Int → Int) : Prop := A 0 = B 0 ∧ A 1 = B 1 ∧ A 2 = B 2 ∧ A 3 = B 3 ∧ zB A B (A 0) ∧ ∀ j, 0 ≤ j → j < A 2 → A (51 + j) = B (51 + j)
section ZL
variable {A B : Int → Int}
theorem zGate_r {l b : Int} : zGate l b = rGate (l - b) := by
  unfold zGate rGate
  repeat' split
  all_goals omega
theorem zFl_r {o l : Int} : zFl o l = if l < 4 * o then l else 4 * o := by
  unfold zFl
  split
  · rw [if_neg (by omega)]
  · split
    · rfl
    · omega
theorem rSw_ne : ∀ (n : Nat) {i j : Int} {A : Int → Int}, (∀ k, i ≤ k → k < i + n → ¬ j = 6 + 9 * k + 1 ∧ ¬ j = 6 + 9 * k + 7 ∧ ¬ j = 6 + 9 * k + 8) → rSw n i A j = A j
  | 0, _, _, _, _ => rfl
  | n + 1, i, j, A, h => by
    have h1 := h i (by omega) (by omega)
    rw [rSw, rSw_ne n (fun k h1 h2 => h k (by omega) (by omega)), rSp_ne h1.1 h1.2.1 h1.2.2]
theorem rSp_z {i : Int} {A : Int → Int} : rSp i A = zSpo i A := by
  unfold rSp zSpo
  by_cases h : A (6 + 9 * i + 0) < A (6 + 9 * i + 1)
  · rw [if_neg (by omega), if_pos h]
  · rw [if_pos (by omega), if_neg h]
theorem rSw_z : ∀ (n : Nat) {i : Int} {A : Int → Int}, rSw n i A = zSw n i A
  | 0, _, _ => rfl
  | n + 1, i, A => by rw [rSw, zSw, rSp_z, rSw_z n]
theorem rSv_z : ∀ (n : Nat) {i s : Int} {A : Int → Int}, rSv n i s A = zSv n i s A
  | 0, _, _, _ => rfl
  | n + 1, i, s, A => by
    rw [rSv, zSv, rSp_z, rSv_z n]
    congr 1
    unfold zSpv
    by_cases h : A (6 + 9 * i + 0) < A (6 + 9 * i + 1)
    · rw [if_neg (by omega), if_pos h]
    · rw [if_pos (by omega), if_neg h]; omega
theorem zSpo_B {n k w : Int} (hB : zB A B n) (h0 : 0 ≤ k) (h1 : k < n) (hw : 0 ≤ w) (hw9 : w < 9) (h6 : w = 6 → A (6 + 9 * k + 5) = 1) : zSpo k A (6 + 9 * k + w) = zSpo k B (6 + 9 * k + w) := by
  have b := fun u (h2 : 0 ≤ u) (h3 : u < 9) (h4 : ¬ u = 6) => hB k u h0 h1 h2 h3 (fun e => absurd e h4)
  unfold zSpo
  rw [← b 0 (by omega) (by omega) (by omega), ← b 1 (by omega) (by omega) (by omega), ← b 7 (by omega) (by omega) (by omega), ← b 8 (by omega) (by omega) (by omega)]
  split
  · unfold upR
    split
    · rfl
    split
    · rfl
    split
    · rfl
    exact hB k w h0 h1 hw hw9 h6
  · exact hB k w h0 h1 hw hw9 h6
theorem zSw_B {n : Nat} (hB : zB A B n) : zB (zSw n 0 A) (zSw n 0 B) n := by
  intro k w h0 h1 hw hw9 h6
  rw [zSw_is n h0 (by omega) hw hw9, zSw_is n h0 (by omega) hw hw9]
  refine zSpo_B hB h0 h1 hw hw9 (fun e => ?_)
  have := h6 e
  rw [zSw_is n h0 (by omega) (by omega) (by omega), zSpo_ne (by omega) (by omega) (by omega)] at this
  exact this
theorem zSpv_B {n k : Int} (hB : zB A B n) (h0 : 0 ≤ k) (h1 : k < n) : zSpv k A = zSpv k B := by
  have b := fun u (h2 : 0 ≤ u) (h3 : u < 9) (h4 : ¬ u = 6) => hB k u h0 h1 h2 h3 (fun e => absurd e h4)
  unfold zSpv
  rw [← b 0 (by omega) (by omega) (by omega), ← b 1 (by omega) (by omega) (by omega)]
theorem zSv_B : ∀ (n : Nat) {i s : Int} {A B : Int → Int}, 0 ≤ i → (∀ k, i ≤ k → k < i + n → A (6 + 9 * k + 0) = B (6 + 9 * k + 0) ∧ A (6 + 9 * k + 1) = B (6 + 9 * k + 1)) → zSv n i s A = zSv n i s B
  | 0, _, _, _, _, _, _ => rfl
  | n + 1, i, s, A, B, h0, h => by
    have h1 := h i (by omega) (by omega)
    have e : zSpv i A = zSpv i B := by unfold zSpv; rw [h1.1, h1.2]
    rw [zSv, zSv, e, zSv_B n (B := zSpo i B) (by omega) (fun k h2 h3 => by
      rw [zSpo_ne (by omega) (by omega) (by omega), zSpo_ne (by omega) (by omega) (by omega), zSpo_ne (by omega) (by omega) (by omega), zSpo_ne (by omega) (by omega) (by omega)]
      exact h k (by omega) (by omega))]
/-- the flow down the chain, both ways -/
theorem zFw_B : ∀ (n : Nat) {i fl N : Int} {A B : Int → Int}, 0 ≤ i → i + n = N → 0 < n → B 0 = N → (∀ k w, 0 ≤ k → k < N → 0 ≤ w → w < 9 → (w = 6 → A (6 + 9 * k + 5) = 1) → ¬ (k = i ∧ w = 1) → A (6 + 9 * k + w) = B (6 + 9 * k + w)) → A (6 + 9 * i + 1) + fl = B (6 + 9 * i + 1) →
    zB (zFw n i fl A) (rFw n i B) N ∧ rFw n i B 3 = B 3 + zFv n i fl A
  | 0, _, _, _, _, _, _, _, h, _, _, _ => absurd h (Nat.lt_irrefl 0)
  | n + 1, i, fl, N, A, B, h0, hn, _, hB0, hk, hi => by
    have a5 : A (6 + 9 * i + 5) = B (6 + 9 * i + 5) := hk i 5 h0 (by omega) (by omega) (by omega) (by omega) (by omega)
    have a4 : A (6 + 9 * i + 4) = B (6 + 9 * i + 4) := hk i 4 h0 (by omega) (by omega) (by omega) (by omega) (by omega)
    have e4 : zF1 i fl A (6 + 9 * i + 4) = rF1 i B (6 + 9 * i + 4) := by
      rw [zF1_4, rF1_4, ← a5, ← a4, hi]
      split
      · next e => rw [zGate_r, hk i 6 h0 (by omega) (by omega) (by omega) (fun _ => e) (by omega)]
      · rfl
    have e1 : zF1 i fl A (6 + 9 * i + 1) = rF1 i B (6 + 9 * i + 1) := by rw [zF1_1, hi, rF1_ne (by omega)]
    have eo : zFl (zF1 i fl A (6 + 9 * i + 4)) (zF1 i fl A (6 + 9 * i + 1)) = rOut i (rF1 i B) := by rw [zFl_r, e4, e1]; rfl
    have e0 : rFl i B 0 = B 0 := rFl_ne (by omega) (by omega) (by omega) (by omega)
    have key : ∀ k w, 0 ≤ k → k < N → 0 ≤ w → w < 9 → (w = 6 → zLet i (zF1 i fl A) (6 + 9 * k + 5) = 1) → ¬ (k = i + 1 ∧ w = 1) → zLet i (zF1 i fl A) (6 + 9 * k + w) = rFl i B (6 + 9 * k + w) := by
      intro k w h1 h2 h3 h4 h5 h6
      by_cases e : k = i
      · subst e
        by_cases w1 : w = 1
        · subst w1
          rw [zLet_1, rFl_1 h0, eo, e1, rF1_ne (by omega)]
        · by_cases w4 : w = 4
          · subst w4
            rw [zLet_ne (by omega), rFl_4 h0, e4]
          · rw [zLet_ne (by omega), zF1_ne (by omega) (by omega), rFl_ne (by omega) (by omega) (by omega) (by omega)]
            refine hk k w h1 h2 h3 h4 (fun e9 => ?_) (by omega)
            have := h5 e9
            rw [zLet_ne (by omega), zF1_ne (by omega) (by omega)] at this
            exact this
      · rw [zLF_eq e h3 h4, rFl_ne (by omega) (by omega) (by omega) (by omega)]
        refine hk k w h1 h2 h3 h4 (fun e9 => ?_) (by omega)
        have := h5 e9
        rw [zLF_eq e (by omega) (by omega)] at this
        exact this
    rw [zFw, rFw, zFv]
    by_cases hl : n = 0
    · subst hl
      refine ⟨?_, ?_⟩
      · intro k w h1 h2 h3 h4 h5
        exact key k w h1 h2 h3 h4 h5 (by omega)
      · rw [zFv, rFw, rFl_3 h0, if_neg (by omega), eo]
    · obtain ⟨i1, i2⟩ := zFw_B n (i := i + 1) (fl := zFl (zF1 i fl A (6 + 9 * i + 4)) (zF1 i fl A (6 + 9 * i + 1))) (N := N) (A := zLet i (zF1 i fl A)) (B := rFl i B) (by omega) (by omega) (by omega) (by omega) key (by
        rw [rFl_n h0 (by omega), zLF_eq (by omega) (by omega) (by omega), eo, hk (i + 1) 1 (by omega) (by omega) (by omega) (by omega) (by omega) (by omega)])
      refine ⟨i1, ?_⟩
      rw [i2, rFl_3 h0, if_pos (by omega), Int.add_zero]
theorem rSt1_b {A : Int → Int} {m k w : Int} (hA : zWF A m) (h0 : 0 ≤ k) (h1 : k < A 0) (hw : 0 ≤ w) (hw9 : w < 9) : rSt1 A (6 + 9 * k + w) = if w = 1 then A (6 + 9 * k + 1) + rFav (upR A 1 (A 1 + 1)) * A (6 + 9 * k + 2) else A (6 + 9 * k + w) := by
  have h5 := hA.2.1
  unfold rSt1
  have e : ∀ j, 6 ≤ j → j < 51 → rFa (upR A 1 (A 1 + 1)) j = A j := fun j h2 h3 => by rw [rFa_ne (by omega) (by omega), upR_ne _ _ (by omega)]
  split
  · next hw1 =>
    subst hw1
    rw [rRn_is _ (by omega) (by omega), e _ (by omega) (by omega), e _ (by omega) (by omega)]
  · rw [rRn_ne _ (fun q h2 h3 => by omega), e _ (by omega) (by omega)]
theorem rSt1_h {A : Int → Int} {j : Int} (h5 : A 0 ≤ 5) (h6 : ¬ (6 ≤ j ∧ j < 51)) : rSt1 A j = rFa (upR A 1 (A 1 + 1)) j := by
  unfold rSt1
  rw [rRn_ne _ (fun q h2 h3 => by omega)]
theorem rSt_h {A : Int → Int} {j : Int} (h5 : A 0 ≤ 5) (h6 : ¬ (6 ≤ j ∧ j < 51)) : rSt A j = rSt2 A j := by
  unfold rSt
  rw [rSw_ne _ (fun q h2 h3 => by omega)]
theorem rFa_f {A : Int → Int} {j : Int} (h0 : 0 ≤ j) (h1 : j < A 2 - 1) (h12 : A 2 ≤ 12) : rFa A (51 + j) = A (51 + j + 1) := by
  unfold rFa
  rw [if_neg (by omega), upR_ne _ _ (by omega), upR_ne _ _ (by omega), rSh_is _ (by omega) (by omega)]
theorem rFa_2 {A : Int → Int} : rFa A 2 = if A 2 = 0 then 0 else A 2 - 1 := by
  unfold rFa
  split
  · next e => exact e
  · rw [upR_eq]
theorem zL_step (hA : zWF A 99) (hB : zWF B 99) (hL : zL A B) : zL (zSt A) (rSt B) ∧ zStv A = rStv B := by
  obtain ⟨e0, e1, e2, e3, hb, hf⟩ := id hL
  obtain ⟨a0, a5, a2, a12, ak, af⟩ := id hA
  have er : zTkv (upR A 1 (A 1 + 1)) = rFav (upR B 1 (B 1 + 1)) := by
    unfold zTkv rFav
    rw [upR_ne _ _ (by omega), upR_ne _ _ (by omega), upR_ne _ _ (by omega), upR_ne _ _ (by omega), ← e2]
    split
    · rfl
    · exact hf 0 (by omega) (by omega)
  have b1 : zB (zSt1 A) (rSt1 B) (A 0) := by
    intro k w h0 h1 hw hw9 h6
    have h6' : w = 6 → A (6 + 9 * k + 5) = 1 := fun e => by
      have := h6 e
      rw [zSt1_b hA h0 h1 (by omega) (by omega), if_neg (by omega)] at this
      exact this
    rw [zSt1_b hA h0 h1 hw hw9, rSt1_b hB h0 (by omega) hw hw9, er]
    split
    · rw [hb k 1 h0 h1 (by omega) (by omega) (by omega), hb k 2 h0 h1 (by omega) (by omega) (by omega)]
    · exact hb k w h0 h1 hw hw9 h6'
  have r0 : rSt1 B 0 = B 0 := by rw [rSt1_h (by omega) (by omega), rFa_ne (by omega) (by omega), upR_ne _ _ (by omega)]
  have r3 : rSt1 B 3 = B 3 := by rw [rSt1_h (by omega) (by omega), rFa_ne (by omega) (by omega), upR_ne _ _ (by omega)]
  have b2 : zB (zSt2 A) (rSt2 B) (A 0) ∧ rSt2 B 3 = zSt2 A 3 := by
    by_cases hz : A 0 = 0
    · refine ⟨fun k w h0 h1 => by omega, ?_⟩
      unfold rSt2 zSt2
      rw [← e0, hz, upR_eq, zSt1_3, e3, show (0 : Int).toNat = 0 from rfl, rFw, zFv, r3, Int.add_zero]
    · obtain ⟨f1, f2⟩ := zFw_B (A 0).toNat (i := 0) (fl := 0) (N := A 0) (A := zSt1 A) (B := rSt1 B) (by omega) (by omega) (by omega) (by omega) (fun k w h0 h1 h2 h3 h4 _ => b1 k w h0 h1 h2 h3 h4) (by
        rw [Int.add_zero]
        exact b1 0 1 (by omega) (by omega) (by omega) (by omega) (by omega))
      refine ⟨?_, ?_⟩
      · intro k w h0 h1 hw hw9 h6
        unfold rSt2 zSt2
        rw [upR_ne _ _ (by omega), ← e0]
        refine f1 k w h0 h1 hw hw9 (fun e => ?_)
        have := h6 e
        unfold zSt2 at this
        rw [upR_ne _ _ (by omega)] at this
        exact this
      · unfold rSt2 zSt2
        rw [upR_eq, ← e0, f2, r3, zSt1_3, e3]
  have hv : zStv A = rStv B := by
    unfold zStv rStv
    rw [rSv_z, ← e0]
    exact zSv_B _ (by omega) (fun k h1 h2 => ⟨b2.1 k 0 h1 (by omega) (by omega) (by omega) (by omega), b2.1 k 1 h1 (by omega) (by omega) (by omega) (by omega)⟩)
  refine ⟨⟨?_, ?_, ?_, ?_, ?_, ?_⟩, hv⟩
  · rw [zSt_0 a5, rSt_h (by omega) (by omega)]
    unfold rSt2
    rw [rFw_ne _ (fun q h2 h3 => by omega) (by omega) (by omega), r0, e0]
  · rw [zSt_1 a5, rSt_h (by omega) (by omega)]
    unfold rSt2
    rw [rFw_ne _ (fun q h2 h3 => by omega) (by omega) (by omega), rSt1_h (by omega) (by omega), rFa_ne (by omega) (by omega), upR_eq, e1]
  · rw [zSt_2 a5 a2, rSt_h (by omega) (by omega)]
    unfold rSt2
    rw [rFw_ne _ (fun q h2 h3 => by omega) (by omega) (by omega), rSt1_h (by omega) (by omega), rFa_2, upR_ne _ _ (by omega), e2]
  · rw [zSt_head a5 (by omega), rSt_h (by omega) (by omega), b2.2]
  · rw [zSt_0 a5]
    have h9 := zSw_B (n := (A 0).toNat) (A := zSt2 A) (B := rSt2 B) (by rw [Int.toNat_of_nonneg a0]; exact b2.1)
    rw [Int.toNat_of_nonneg a0] at h9
    unfold zSt rSt
    rw [rSw_z, ← e0]
    exact h9
  · intro j h0 h1
    rw [zSt_2 a5 a2] at h1
    have h3 : j < A 2 - 1 := by
      by_cases e : A 2 = 0
      · rw [if_pos e] at h1; omega
      · rw [if_neg e] at h1; exact h1
    rw [zSt_f a5 h0 h3, rSt_h (by omega) (by omega)]
    unfold rSt2
    rw [rFw_ne _ (fun q h2 h3 => by omega) (.inr ⟨by omega, by rw [rSt1_h (by omega) (by omega), rFa_ne (by omega) (by omega), upR_ne _ _ (by omega)]; omega⟩) (by omega), rSt1_h (by omega) (by omega), rFa_f h0 (by rw [upR_ne _ _ (by omega)]; omega) (by rw [upR_ne _ _ (by omega)]; omega), upR_ne _ _ (by omega), Int.add_assoc]
    exact hf (j + 1) (by omega) (by omega)
/-- a bound stays in the reference -/
theorem rSt_6 {k : Int} (hB : zWF B 99) (h0 : 0 ≤ k) (h1 : k < B 0) : rSt B (6 + 9 * k + 6) = B (6 + 9 * k + 6) := by
  have h5 := hB.2.1
  unfold rSt rSt2
  rw [rSw_ne _ (fun q h2 h3 => by omega), rFw_ne _ (fun q h2 h3 => by omega) (by omega) (by omega), rSt1_b hB h0 h1 (by omega) (by omega), if_neg (by omega)]
theorem zWF_of (hA : zWF A 99) (hL : zL A B) (h6 : ∀ k, 0 ≤ k → k < A 0 → 0 ≤ B (6 + 9 * k + 6) ∧ B (6 + 9 * k + 6) ≤ 99) : zWF B 99 := by
  obtain ⟨e0, e1, e2, e3, hb, hf⟩ := id hL
  obtain ⟨a0, a5, a2, a12, ak, af⟩ := id hA
  refine ⟨by omega, by omega, by omega, by omega, fun k h0 h1 => ?_, fun j h0 h1 => ?_⟩
  · have h := ak k h0 (by omega)
    have h7 := h6 k h0 (by omega)
    unfold zOK at h ⊢
    rw [← hb k 0 h0 (by omega) (by omega) (by omega) (by omega), ← hb k 1 h0 (by omega) (by omega) (by omega) (by omega), ← hb k 2 h0 (by omega) (by omega) (by omega) (by omega), ← hb k 3 h0 (by omega) (by omega) (by omega) (by omega), ← hb k 4 h0 (by omega) (by omega) (by omega) (by omega), ← hb k 5 h0 (by omega) (by omega) (by omega) (by omega)]
    omega
  · rw [← hf j h0 (by omega)]
    exact af j h0 (by omega)
theorem rSt_wf (hA : zWF A 99) (hB : zWF B 99) (hL : zL A B) : zWF (rSt B) 99 := by
  have h := (zL_step hA hB hL).1
  refine zWF_of (zSt_wf hA) h (fun k h0 h1 => ?_)
  rw [zSt_0 hA.2.1] at h1
  have e0 := hL.1
  rw [rSt_6 hB h0 (by omega)]
  have := hB.2.2.2.2.1 k h0 (by omega)
  unfold zOK at this
  omega
end ZL
