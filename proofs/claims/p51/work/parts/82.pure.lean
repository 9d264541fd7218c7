/-! WHAT THE LAW ASKS, OVER THE ROW OF THE CHAIN: spills, plans, floods -/
section PUR
variable {A : Int → Int} {T : zT}
/-- what basin b would spill in m steps -/
def zX (A : Int → Int) (m : Nat) (b : Int) : Int := rSl m (rCp 0 11 A) b
theorem zX_sp (hA : zWF (T.1 o1) 99) (m : Nat) {b : Int} (b0 : 0 ≤ b) (b1 : b < T.1 o1 0) : zSp T m b = zX (T.1 o1) m b := (zSp_r hA hA (zL_refl _) m b0 b1).1
theorem zX_bd (hA : zWF A 99) (m : Nat) {b : Int} (b0 : 0 ≤ b) (b1 : b < A 0) : 0 ≤ zX A m b ∧ zX A m b ≤ 200 * m := by
  have h := zSp_r (T := (fun _ => A, 0, 0, fun _ _ => .null)) hA hA (zL_refl _) m b0 b1
  rw [h.1] at h
  exact h.2
theorem zSp_all (hA : zWF (T.1 o1) 99) {m : Nat} (hm : m ≤ 30) : ∀ k, 0 ≤ k → k < T.1 o1 0 → 0 ≤ zSp T m k ∧ zSp T m k ≤ 1000000 := by
  intro k k0 k1
  have h := zX_bd hA m k0 k1
  rw [zX_sp hA m k0 k1]
  omega
theorem zPs_0 (hA : zWF A 99) (m : Nat) : zPs m A 0 = A 0 := by
  induction m generalizing A with
  | zero => rw [zPs]
  | succ m ih => rw [zPs, ih (zSt_wf hA), zSt_0 hA.2.1]
theorem zX_is (hA : zWF A 99) (m : Nat) {b : Int} (b0 : 0 ≤ b) (b1 : b < A 0) : zX A m b = zPs m A (6 + 9 * b + 7) - A (6 + 9 * b + 7) := by
  have hB : zWF (rCp 0 11 A) 99 := zWF_cp (by omega) hA
  have hL : zL A (rCp 0 11 A) := zL_on (zL_refl A) (by have := hA.2.1; omega) (by have := hA.2.2.2.1; omega) (fun j h0 h1 => rCp_ne 0 11 _ (by omega))
  obtain ⟨h1, -⟩ := zL_steps m (s := 0) hA hB hL
  have h0 := zPs_0 hA m
  have g1 := zL_bas h1 b0 (by omega) (w := 7) (by omega) (by omega) (by omega)
  have g2 := zL_bas hL b0 b1 (w := 7) (by omega) (by omega) (by omega)
  unfold zX rSl
  rw [← g1, ← g2]
theorem zX_0 (hA : zWF A 99) {b : Int} (b0 : 0 ≤ b) (b1 : b < A 0) : zX A 0 b = 0 := by
  rw [zX_is hA 0 b0 b1, zPs]
  omega
theorem zPv_s : ∀ (n : Nat) {s : Int} {A : Int → Int}, zPv n s A = s + zPv n 0 A
  | 0, _, _ => by rw [zPv, zPv, Int.add_zero]
  | n + 1, s, A => by rw [zPv, zPv, zPv_s n, zPv_s n (s := 0 + zStv A)]; omega
theorem zPv_nn : ∀ (n : Nat) {A : Int → Int}, zWF A 99 → 0 ≤ zPv n 0 A
  | 0, _, _ => by rw [zPv]; omega
  | n + 1, A, hA => by
    have h1 := zStv_bd hA
    have h2 := zPv_nn n (zSt_wf hA)
    rw [zPv, zPv_s n]
    omega
theorem zS7_st (hA : zWF A 99) : zS 7 (A 0).toNat 0 (zSt A) = zS 7 (A 0).toNat 0 A + zStv A := by
  have g7 : zS 7 (A 0).toNat 0 (zSt2 A) = zS 7 (A 0).toNat 0 A := zS_eq _ (fun k h1 h2 => zSt2_b hA h1 (by omega) (by omega) (by omega) (by omega) (by omega))
  unfold zSt zStv
  rw [(zSw_S _).2, g7]
theorem zS7_ps : ∀ (m : Nat) {A : Int → Int}, zWF A 99 → zS 7 (A 0).toNat 0 (zPs m A) = zS 7 (A 0).toNat 0 A + zPv m 0 A
  | 0, A, _ => by rw [zPs, zPv, Int.add_zero]
  | m + 1, A, hA => by
    have h := zS7_ps m (zSt_wf hA)
    have e := zSt_0 hA.2.1
    rw [e, zS7_st hA] at h
    rw [zPs, zPv, zPv_s m, h]
    omega
theorem zSf_S : ∀ (n : Nat) (i s : Int) {f : Int → Int} {A B : Int → Int}, (∀ k, i ≤ k → k < i + n → f k = B (6 + 9 * k + 7) - A (6 + 9 * k + 7)) → zSf f n i s = s + (zS 7 n i B - zS 7 n i A)
  | 0, _, _, _, _, _, _ => by rw [zSf, zS, zS]; omega
  | n + 1, i, s, f, A, B, h => by
    rw [zSf, zS, zS, zSf_S n (i + 1) _ (fun k h1 h2 => h k (by omega) (by omega)), h i (by omega) (by omega)]
    omega
/-- all basins' spills in m steps are the spills of the m steps -/
theorem zX_sum (hA : zWF A 99) (m : Nat) : zSf (zX A m) (A 0).toNat 0 0 = zPv m 0 A := by
  have h0 := hA.1
  rw [zSf_S _ 0 0 (fun k h1 h2 => zX_is hA m h1 (by omega)), zS7_ps m hA]
  omega
theorem zOp_self {b : Int} : zOp b (A (6 + 9 * b + 4)) A = A := by
  funext j
  unfold zOp
  by_cases h : j = 6 + 9 * b + 4
  · subst h
    rw [upR_eq]
  · rw [upR_ne _ _ h]
theorem zPl_now : ∀ (m : Nat) {A : Int → Int} {b : Int}, zWF A 99 → 0 ≤ b → b < A 0 → zPl m A b ≤ zPv m 0 A
  | 0, _, _, _, _, _ => by rw [zPl, zPv]; omega
  | m + 1, A, b, hA, b0, b1 => by
    have hk := hA.2.2.2.2.1 b b0 b1
    have ih := zPl_now m (zSt_wf hA) b0 (by rw [zSt_0 hA.2.1]; exact b1)
    have ho : 0 ≤ A (6 + 9 * b + 4) ∧ A (6 + 9 * b + 4) ≤ 5 := by unfold zOK at hk; omega
    have h := zMn_lef (fun o => zStv (zOp b o A) + zPl m (zSt (zOp b o A)) b) 6 0 1000000 (A (6 + 9 * b + 4)) (by omega) (by omega)
    rw [zPl, zPv, zPv_s m]
    simp only [zOp_self] at h
    omega
theorem zPl_le (hA : zWF A 99) {m : Nat} {b : Int} (b0 : 0 ≤ b) (b1 : b < A 0) : zPl m A b ≤ zSf (zX A m) (A 0).toNat 0 0 := by
  rw [zX_sum hA]
  exact zPl_now m hA b0 b1
theorem zPl_up : ∀ (m : Nat) {A : Int → Int} {b : Int}, zWF A 99 → 0 ≤ b → b < A 0 → zPl m A b ≤ zPl (m + 1) A b
  | 0, A, b, hA, b0, b1 => by
    have h := (zPl_bd 1 hA b0 b1).1
    rw [zPl]
    exact h
  | m + 1, A, b, hA, b0, b1 => by
    rw [zPl, zPl]
    refine zMn_ge _ 6 0 1000000 (zMn_le _ 6 0 1000000) (fun o o0 o1 => ?_)
    have hB := zWF_op hA b0 b1 o0 (by omega : o ≤ 5)
    have h0 : zOp b o A 0 = A 0 := upR_ne _ _ (by omega)
    have ih := zPl_up m (zSt_wf hB) b0 (by rw [zSt_0 hB.2.1, h0]; exact b1)
    have h := zMn_lef (fun o => zStv (zOp b o A) + zPl m (zSt (zOp b o A)) b) 6 0 1000000 o (by omega) (by omega)
    omega
theorem zAr_bd (f : Int → Int) : ∀ (n : Nat) (o m a : Int), zAr f n o m a = a ∨ (o ≤ zAr f n o m a ∧ zAr f n o m a < o + n)
  | 0, _, _, _ => .inl rfl
  | n + 1, o, m, a => by
    rw [zAr]
    rcases zAr_bd f n (o + 1) (min m (f o)) (if f o < m then o else a) with h | h
    · rw [h]
      split
      · right; omega
      · left; rfl
    · right; omega
theorem zPa_bd (l : Nat) (A : Int → Int) (b : Int) : 0 ≤ zPa l A b ∧ zPa l A b ≤ 5 := by
  unfold zPa
  rcases zAr_bd (fun o => zStv (zOp b o A) + zPl l (zSt (zOp b o A)) b) 6 0 1000000 0 with h | h
  · rw [h]; omega
  · omega
theorem zUf_m : ∀ (n m : Nat) (k : Int) {A : Int → Int}, zWF A 99 → 1 ≤ k → m ≤ n → ((0 ≤ zUf n k A ∧ zUf n k A < k + m) ↔ 0 < zPv m 0 A)
  | 0, m, k, A, hA, hk, hm => by
    have : m = 0 := by omega
    subst this
    rw [zUf, zPv]
    omega
  | n + 1, 0, k, A, hA, hk, hm => by
    have h := zUf_bd (n + 1) k A hk
    rw [zPv]
    omega
  | n + 1, m + 1, k, A, hA, hk, hm => by
    have hs := zStv_bd hA
    have hn := zPv_nn m (zSt_wf hA)
    have ih := zUf_m n m (k + 1) (zSt_wf hA) (by omega) (by omega)
    rw [zUf, zPv, zPv_s m]
    by_cases q : 0 < zStv A
    · rw [if_pos q]
      omega
    · rw [if_neg q]
      omega
theorem zUf_L (hA : zWF A 99) (X : Int → Int) (n : Nat) (k : Int) : zUf n k (zCpy A X) = zUf n k A := by
  rw [zUf_r n k (zWF_cpy hA X) hA (zL_cpy hA X), zUf_r n k hA hA (zL_refl A)]
theorem zSf_pos {f : Int → Int} : ∀ (n : Nat) (i s u : Int), 0 ≤ s → 0 ≤ u → (0 < s ↔ 0 < u) → (∀ k, i ≤ k → k < i + n → 0 ≤ f k) → (0 < zSf f n i s ↔ 0 < zSf (fun k => if 0 < f k then 1 else 0) n i u)
  | 0, _, _, _, _, _, h, _ => h
  | n + 1, i, s, u, h0, h1, h, hf => by
    have h9 := hf i (by omega) (by omega)
    rw [zSf, zSf]
    refine zSf_pos n (i + 1) _ _ (by omega) ?_ ?_ (fun k a b => hf k (by omega) (by omega))
    · show 0 ≤ u + (if 0 < f i then 1 else 0)
      split <;> omega
    · show 0 < s + f i ↔ 0 < u + (if 0 < f i then 1 else 0)
      split <;> omega
theorem zUf_many (hA : zWF A 99) (X : Int → Int) {m : Nat} (hm : m ≤ 30) : (0 ≤ zUf 30 1 (zCpy A X) ∧ zUf 30 1 (zCpy A X) ≤ m) ↔ 0 < zSf (fun k => if 0 < zX A m k then 1 else 0) (A 0).toNat 0 0 := by
  have h0 := hA.1
  rw [← zSf_pos _ 0 0 0 (by omega) (by omega) Iff.rfl (fun k a b => (zX_bd hA m a (by omega)).1), zX_sum hA, ← zUf_m 30 m 1 hA (by omega) hm, zUf_L hA]
  omega
theorem zBp_X (hA : zWF (T.1 o1) 99) (m : Nat) {g : Int} (g0 : 0 ≤ g) : zBp T m g = zMx (zX (T.1 o1) m) (fun k => T.1 o1 (6 + 9 * k + 3)) g (T.1 o1 0).toNat (zp2 (T.1 o1 0)).toNat 0 0 := zBp_r hA hA (zL_refl _) m g0
theorem zBl_con (hC : zCon A) : zBl (A 0).toNat 0 (A 4 + A 5 - A 3) A = zSm 1 (A 0).toNat 0 0 A := by
  rw [zBl_S, zSm_S]
  unfold zCon at hC
  omega
end PUR
