/-! BOTH SIDES ANSWER ALIKE -/
section BTH
variable {A B : Int → Int}
theorem zL_bas (h : zL A B) {k w : Int} (h0 : 0 ≤ k) (h1 : k < A 0) (w0 : 0 ≤ w) (w9 : w < 9) (w6 : ¬ w = 6) : A (6 + 9 * k + w) = B (6 + 9 * k + w) := h.2.2.2.2.1 k w h0 h1 w0 w9 (fun e => absurd e w6)
theorem zPs_sp {k : Int} (h0 : 0 ≤ k) : ∀ (n : Nat) {A : Int → Int}, zWF A 99 → k < A 0 → A (6 + 9 * k + 7) ≤ zPs n A (6 + 9 * k + 7) ∧ zPs n A (6 + 9 * k + 7) ≤ A (6 + 9 * k + 7) + 200 * n
  | 0, A, _, _ => by rw [zPs]; omega
  | n + 1, A, hA, h1 => by
    have e := zSt_0 hA.2.1
    have ih := zPs_sp h0 n (zSt_wf hA) (by omega)
    have h7 := zSt_s hA h0 h1
    have hs := zSpv_bd hA h0 h1
    rw [zPs]
    omega
theorem zL_ahead (hA : zWF A 99) (hB : zWF B 99) (hL : zL A B) (X : Int → Int) : zWF (zCpy A X) 99 ∧ zWF (rCp 0 11 B) 99 ∧ zL (zCpy A X) (rCp 0 11 B) := by
  have hB2 := zWF_cp (u := 11) (by omega) hB
  have hL2 := zL_trans (zL_cpy hA X) hL
  have h0 : zCpy A X 0 = A 0 := (zL_cpy hA X).1
  have h2 : zCpy A X 2 = A 2 := (zL_cpy hA X).2.2.1
  exact ⟨zWF_cpy hA X, hB2, zL_on hL2 (by have := hA.2.1; omega) (by have := hA.2.2.2.1; omega) (fun j h0 h1 => rCp_ne 0 11 _ (by omega))⟩
theorem zL_after (hA : zWF A 99) (hB : zWF B 99) (hL : zL A B) (X : Int → Int) (m : Nat) {b w : Int} (b0 : 0 ≤ b) (b1 : b < A 0) (w0 : 0 ≤ w) (w9 : w < 9) (w6 : ¬ w = 6) : zPs m (zCpy A X) (6 + 9 * b + w) = rPs m (rCp 0 11 B) (6 + 9 * b + w) := by
  obtain ⟨h1, h2, h3⟩ := zL_ahead hA hB hL X
  obtain ⟨h4, _⟩ := zL_steps m (s := 0) h1 h2 h3
  have e : ∀ (n : Nat) {C : Int → Int}, zWF C 99 → zPs n C 0 = C 0 := by
    intro n
    induction n with
    | zero => intro C _; rw [zPs]
    | succ n ih => intro C hC; rw [zPs, ih (zSt_wf hC), zSt_0 hC.2.1]
  have h0 : zCpy A X 0 = A 0 := (zL_cpy hA X).1
  exact zL_bas h4 b0 (by rw [e m h1, h0]; exact b1) w0 w9 w6
theorem zSp_r {T : zT} (hA : zWF (T.1 o1) 99) (hB : zWF B 99) (hL : zL (T.1 o1) B) (m : Nat) {b : Int} (b0 : 0 ≤ b) (b1 : b < T.1 o1 0) : zSp T m b = rSl m (rCp 0 11 B) b ∧ 0 ≤ zSp T m b ∧ zSp T m b ≤ 200 * m := by
  obtain ⟨h1, h2, h3⟩ := zL_ahead hA hB hL (T.1 o25)
  have e0 : zCpy (T.1 o1) (T.1 o25) 0 = T.1 o1 0 := (zL_cpy hA _).1
  have e7 : zCpy (T.1 o1) (T.1 o25) (6 + 9 * b + 7) = T.1 o1 (6 + 9 * b + 7) := zL_bas (zL_cpy hA _) b0 (by omega) (by omega) (by omega) (by omega)
  have e8 : T.1 o1 (6 + 9 * b + 7) = rCp 0 11 B (6 + 9 * b + 7) := by
    rw [← e7]
    exact zL_bas h3 b0 (by omega) (by omega) (by omega) (by omega)
  have hs := zPs_sp b0 m h1 (by omega)
  unfold zSp rSl
  rw [← zL_after hA hB hL (T.1 o25) m b0 b1 (by omega) (by omega) (by omega), ← e8]
  exact ⟨rfl, by omega, by omega⟩
theorem zUf_r : ∀ (n : Nat) (k : Int) {A B : Int → Int}, zWF A 99 → zWF B 99 → zL A B → zUf n k A = rUf n k B
  | 0, _, _, _, _, _, _ => rfl
  | n + 1, k, A, B, hA, hB, hL => by
    obtain ⟨h1, h2⟩ := zL_step hA hB hL
    rw [zUf, rUf, h2, zUf_r n (k + 1) (zSt_wf hA) (rSt_wf1 hB) h1]
theorem zBf_r (hL : zL A B) {i b : Int} (i0 : 0 ≤ i) (i1 : i < A 0) (b0 : 0 ≤ b) (b1 : b < A 0) : zBf A i b = zBf B i b := by
  unfold zBf
  rw [zL_bas hL i0 i1 (by omega) (by omega) (by omega) (w := 1), zL_bas hL i0 i1 (by omega) (by omega) (by omega) (w := 0), zL_bas hL b0 b1 (by omega) (by omega) (by omega) (w := 1), zL_bas hL b0 b1 (by omega) (by omega) (by omega) (w := 0)]
theorem zRk_r (hL : zL A B) {b : Int} (b0 : 0 ≤ b) (b1 : b < A 0) : ∀ (n : Nat) (i r : Int), 0 ≤ i → i + n ≤ A 0 → zRk b n i r A = zRk b n i r B
  | 0, _, _, _, _ => rfl
  | n + 1, i, r, h0, h1 => by rw [zRk, zRk, zBf_r hL h0 (by omega) b0 b1, zRk_r hL b0 b1 n _ _ (by omega) (by omega)]
theorem rBr_r (hA : zWF A 99) (hL : zL A B) {r N : Int} (hN : N = A 0) : ∀ (n : Nat) (k : Int), 0 ≤ k → k + n ≤ A 0 → rBr r N A n k = rBr r N B n k
  | 0, _, _, _ => rfl
  | n + 1, k, h0, h1 => by
    have a0 := hA.1
    rw [rBr, rBr, zRk_r hL h0 (by omega) N.toNat 0 0 (by omega) (by omega), rBr_r hA hL hN n (k + 1) (by omega) (by omega)]
theorem zSm_r (hL : zL A B) {w : Int} (w0 : 0 ≤ w) (w9 : w < 9) (w6 : ¬ w = 6) : ∀ (n : Nat) (i s : Int), 0 ≤ i → i + n ≤ A 0 → zSm w n i s A = zSm w n i s B
  | 0, _, _, _, _ => rfl
  | n + 1, i, s, h0, h1 => by rw [zSm, zSm, zL_bas hL h0 (by omega) w0 w9 w6, zSm_r hL w0 w9 w6 n _ _ (by omega) (by omega)]
theorem zMf_r (hL : zL A B) : ∀ (n : Nat) (k : Int) (s : UInt64), 0 ≤ k → k + n ≤ A 0 → zMf A n k s = zMf B n k s
  | 0, _, _, _, _ => rfl
  | n + 1, k, s, h0, h1 => by rw [zMf, zMf, zL_bas hL h0 (by omega) (by omega) (by omega) (by omega) (w := 1), zL_bas hL h0 (by omega) (by omega) (by omega) (by omega) (w := 0), zMf_r hL n _ _ (by omega) (by omega)]
theorem zMn64_r (hA : zWF A 99) (hL : zL A B) : zMn64 A = zMn64 B := by
  have a0 := hA.1
  unfold zMn64
  rw [zMf_r hL (A 0).toNat 0 0 (by omega) (by omega), hL.1]
theorem zFs32_r (hA : zWF A 99) (hL : zL A B) : zFs32 A = zFs32 B := by
  have a0 := hA.1
  unfold zFs32
  rw [zSm_r hL (by omega) (by omega) (by omega) (A 0).toNat 0 0 (by omega) (by omega), hL.1, hL.2.1]
theorem zfPlan_r (hL : zL A B) (b m : Int) : zfPlan A b m = zfPlan B b m := by
  unfold zfPlan
  rw [← hL.1]
  by_cases h : 0 ≤ b ∧ b < A 0
  · rw [if_pos h, if_pos h, zL_bas hL h.1 h.2 (by omega) (by omega) (by omega)]
  · rw [if_neg h, if_neg h]
theorem zWb_r (hL : zL A B) {k : Int} (h0 : 0 ≤ k) (h1 : k < A 0) (P : zWp) : zWb A k P = zWb B k P := by
  have e := fun w (w0 : 0 ≤ w) (w9 : w < 9) (w6 : ¬ w = 6) => zL_bas hL h0 h1 w0 w9 w6
  have ea : zWbA A k P = zWbA B k P := by
    unfold zWbA
    rw [e 4 (by omega) (by omega) (by omega), e 5 (by omega) (by omega) (by omega), e 0 (by omega) (by omega) (by omega), e 1 (by omega) (by omega) (by omega)]
  unfold zWb
  rw [ea, ← e 5 (by omega) (by omega) (by omega)]
  by_cases h : A (6 + 9 * k + 5) = 1
  · rw [if_pos h, if_pos h, hL.2.2.2.2.1 k 6 h0 h1 (by omega) (by omega) (fun _ => h)]
  · rw [if_neg h, if_neg h]
theorem zWc_r (hL : zL A B) : ∀ (n : Nat) (k : Int) (P : zWp), 0 ≤ k → k + n ≤ A 0 → zWc A n k P = zWc B n k P
  | 0, _, _, _, _ => rfl
  | n + 1, k, P, h0, h1 => by rw [zWc, zWc, zWb_r hL h0 (by omega), zWc_r hL n _ _ (by omega) (by omega)]
theorem zWf_r (hL : zL A B) : ∀ (n : Nat) (k : Int) (P : zWp), 0 ≤ k → k + n ≤ A 2 → zWf A n k P = zWf B n k P
  | 0, _, _, _, _ => rfl
  | n + 1, k, P, h0, h1 => by rw [zWf, zWf, hL.2.2.2.2.2 k h0 (by omega), zWf_r hL n _ _ (by omega) (by omega)]
theorem zBp_r {T : zT} (hA : zWF (T.1 o1) 99) (hB : zWF B 99) (hL : zL (T.1 o1) B) (m : Nat) {g : Int} (g0 : 0 ≤ g) : zBp T m g = zMx (rSl m (rCp 0 11 B)) (fun k => B (6 + 9 * k + 3)) g (B 0).toNat (zp2 (B 0)).toNat 0 0 := by
  have a0 := hA.1
  have a5 := hA.2.1
  have e0 := hL.1
  have hz : ∀ k : Nat, k < (B 0).toNat → zSp T m k = rSl m (rCp 0 11 B) k ∧ 0 ≤ zSp T m k := fun k hk => by
    have := zSp_r hA hB hL m (b := (k : Int)) (by omega) (by omega)
    exact ⟨this.1, this.2.1⟩
  have h9 : (zp2 (B 0)).toNat = 2 ^ (B 0).toNat := by unfold zp2; rw [Int.toNat_natCast]
  rw [zMx_My, h9, zMy_K (by omega) g0 (fun k hk => by have := hz k hk; omega) (fun k hk => by
    have h := hB.2.2.2.2.1 k (by omega) (by omega)
    unfold zOK at h
    show 0 ≤ (if 0 < rSl m (rCp 0 11 B) k then B (6 + 9 * k + 3) else 0) ∧ (if 0 < rSl m (rCp 0 11 B) k then B (6 + 9 * k + 3) else 0) ≤ 99
    split <;> omega)]
  unfold zBp
  rw [e0]
  refine zK_congr _ g (fun k hk => ⟨(hz k hk).1, ?_⟩)
  show (if 0 < zSp T m k then T.1 o1 (6 + 9 * k + 3) else 0) = (if 0 < rSl m (rCp 0 11 B) k then B (6 + 9 * k + 3) else 0)
  rw [(hz k hk).1, zL_bas hL (by omega) (by omega) (by omega) (by omega) (by omega)]
end BTH
