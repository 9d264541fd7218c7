/-! THE REFERENCE: predictions, ranks, endangered basins -/
section KV
variable {L : Nat} {xs : Nat → Int32}
end KV
theorem rSt_hi {A : Int → Int} {j : Int} (hA : zWF A 99) (hj : ¬ (0 ≤ j ∧ j < 63)) : rSt A j = A j := by
  have h0 := hA.1
  have h5 := hA.2.1
  have r0 : rSt1 A 0 = A 0 := by rw [rSt1_h h5 (by omega), rFa_ne (by omega) (by omega), upR_ne _ _ (by omega)]
  rw [rSt_h h5 (by omega)]
  unfold rSt2
  rw [rFw_ne _ (fun q h2 h3 => by omega) (.inr ⟨by omega, by rw [r0]; omega⟩) (by omega), rSt1_h h5 (by omega), rFa_ne (by omega) (by omega), upR_ne _ _ (by omega)]
theorem rPs_hi : ∀ (n : Nat) {A : Int → Int} {j : Int}, zWF A 99 → ¬ (0 ≤ j ∧ j < 63) → rPs n A j = A j
  | 0, _, _, _, _ => rfl
  | n + 1, _, _, hA, hj => by rw [rPs, rPs_hi n (rSt_wf1 hA) hj, rSt_hi hA hj]
theorem rCp_is (f u : Int) (A : Int → Int) {j : Int} (h0 : 63 * u ≤ j) (h1 : j < 63 * u + 63) : rCp f u A j = A (j - 63 * u + 63 * f) := by unfold rCp; rw [if_pos ⟨h0, h1⟩]
theorem rCp_ne (f u : Int) (A : Int → Int) {j : Int} (h : ¬ (63 * u ≤ j ∧ j < 63 * u + 63)) : rCp f u A j = A j := by unfold rCp; rw [if_neg h]
theorem rCp_idem (A : Int → Int) : rCp 0 11 (rCp 0 11 A) = rCp 0 11 A := by
  funext j
  by_cases h : 63 * 11 ≤ j ∧ j < 63 * 11 + 63
  · rw [rCp_is 0 11 _ h.1 h.2, rCp_ne 0 11 _ (by omega), rCp_is 0 11 _ h.1 h.2]
  · rw [rCp_ne 0 11 _ h]
/-- row 0 is put back from the row where it was put -/
theorem rCp_back {A X : Int → Int} {u : Int} (hu : 1 ≤ u) (h : ∀ j, ¬ (0 ≤ j ∧ j < 63) → X j = rCp 0 u A j) : rCp u 0 X = rCp 0 u A := by
  funext j
  by_cases q : 0 ≤ j ∧ j < 63
  · rw [rCp_is u 0 _ (by omega) (by omega), h _ (by omega), rCp_is 0 u _ (by omega) (by omega), rCp_ne 0 u _ (by omega)]
    congr 1
    omega
  · rw [rCp_ne u 0 _ (by omega), h _ q]
theorem zWF_cp {A : Int → Int} {m u : Int} (hu : 1 ≤ u) (hA : zWF A m) : zWF (rCp 0 u A) m := zWF_on hA (fun j h0 h1 => rCp_ne 0 u _ (by omega))
def zSf (f : Int → Int) : Nat → Int → Int → Int
  | 0, _, s => s
  | n + 1, k, s => zSf f n (k + 1) (s + f k)
/-- what a basin would spill -/
def rSl (m : Nat) (A : Int → Int) (k : Int) : Int := rPs m A (6 + 9 * k + 7) - A (6 + 9 * k + 7)
def rBr (rank N : Int) (A : Int → Int) : Nat → Int → Int
  | 0, _ => -1
  | n + 1, k => if zRk k N.toNat 0 0 A = rank then k else rBr rank N A n (k + 1)
def rUf : Nat → Int → (Int → Int) → Int
  | 0, _, _ => -1
  | n + 1, k, A => if 0 < rStv A then k else rUf n (k + 1) (rSt A)
def rUa : Nat → (Int → Int) → Nat
  | 0, _ => 0
  | n + 1, A => if 0 < rStv A then 1 else rUa n (rSt A) + 1
theorem rStv_bd {A : Int → Int} (hA : zWF A 99) : 0 ≤ rStv A ∧ rStv A ≤ 950 := by
  rw [← (zL_step hA hA (zL_refl A)).2]
  exact zStv_bd hA
theorem rUf_bd : ∀ (n : Nat) (k : Int) (A : Int → Int), 1 ≤ k → rUf n k A = -1 ∨ (k ≤ rUf n k A ∧ rUf n k A < k + n)
  | 0, _, _, _ => .inl rfl
  | n + 1, k, A, h => by
    rw [rUf]
    split
    · right; omega
    · have := rUf_bd n (k + 1) (rSt A) (by omega)
      omega
section RF5
variable {L : Nat} {xs : Nat → Int32} {d t : Nat} {T : zT} {A B F : Int → Int}
theorem zRk_bd (b : Int) (A : Int → Int) : ∀ (n : Nat) (i r : Int), r ≤ zRk b n i r A ∧ zRk b n i r A ≤ r + n
  | 0, _, r => by rw [zRk]; omega
  | n + 1, i, r => by
    rw [zRk]
    have h := zRk_bd b A n (i + 1) (r + zBf A i b)
    have : zBf A i b = 0 ∨ zBf A i b = 1 := by unfold zBf; split <;> simp
    omega
end RF5
