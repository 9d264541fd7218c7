/-! THE REFERENCE: its row 0, copies, the step -/
section KV
variable {L : Nat} {xs : Nat → Int32}
end KV
def rCr (f u : Int) : Nat → Int → (Int → Int) → (Int → Int)
  | 0, _, A => A
  | n + 1, k, A => rCr f u n (k + 1) (upR A (63 * u + k) (A (63 * f + k)))
def rCp (f u : Int) (A : Int → Int) : Int → Int := fun j => if 63 * u ≤ j ∧ j < 63 * u + 63 then A (j - 63 * u + 63 * f) else A j
def rSh : Nat → Int → (Int → Int) → (Int → Int)
  | 0, _, A => A
  | n + 1, k, A => rSh n (k + 1) (upR A (51 + k) (A (51 + k + 1)))
def rFa (A : Int → Int) : Int → Int := if A 2 = 0 then A else upR (upR (rSh 11 0 A) 62 0) 2 (A 2 - 1)
def rFav (A : Int → Int) : Int := if A 2 = 0 then 0 else A 51
def rRn : Nat → Int → Int → (Int → Int) → (Int → Int)
  | 0, _, _, A => A
  | n + 1, i, r, A => rRn n (i + 1) r (upR A (6 + 9 * i + 1) (A (6 + 9 * i + 1) + r * A (6 + 9 * i + 2)))
def rGate (o : Int) : Int := if o < 0 then 0 else if 5 < o / 4 then 5 else o / 4
def rF1 (i : Int) (A : Int → Int) : Int → Int := if A (6 + 9 * i + 5) = 1 then upR A (6 + 9 * i + 4) (rGate (A (6 + 9 * i + 1) - A (6 + 9 * i + 6))) else A
def rOut (i : Int) (A : Int → Int) : Int := if A (6 + 9 * i + 1) < 4 * A (6 + 9 * i + 4) then A (6 + 9 * i + 1) else 4 * A (6 + 9 * i + 4)
def rF2 (i o : Int) (A : Int → Int) : Int → Int := if i < A 0 - 1 then upR A (6 + 9 * (i + 1) + 1) (A (6 + 9 * (i + 1) + 1) + o) else upR A 3 (A 3 + o)
def rFl (i : Int) (A : Int → Int) : Int → Int := rF2 i (rOut i (rF1 i A)) (upR (rF1 i A) (6 + 9 * i + 1) (rF1 i A (6 + 9 * i + 1) + -rOut i (rF1 i A)))
def rFw : Nat → Int → (Int → Int) → (Int → Int)
  | 0, _, A => A
  | n + 1, i, A => rFw n (i + 1) (rFl i A)
def rSp (i : Int) (A : Int → Int) : Int → Int := if A (6 + 9 * i + 1) - A (6 + 9 * i + 0) ≤ 0 then A else upR (upR (upR A (6 + 9 * i + 1) (A (6 + 9 * i + 0))) (6 + 9 * i + 7) (A (6 + 9 * i + 7) + (A (6 + 9 * i + 1) - A (6 + 9 * i + 0)))) (6 + 9 * i + 8) (A (6 + 9 * i + 8) + 1)
def rSw : Nat → Int → (Int → Int) → (Int → Int)
  | 0, _, A => A
  | n + 1, i, A => rSw n (i + 1) (rSp i A)
def rSv : Nat → Int → Int → (Int → Int) → Int
  | 0, _, s, _ => s
  | n + 1, i, s, A => rSv n (i + 1) (if A (6 + 9 * i + 1) - A (6 + 9 * i + 0) ≤ 0 then s else s + (A (6 + 9 * i + 1) - A (6 + 9 * i + 0))) (rSp i A)
def rSt1 (A : Int → Int) : Int → Int := rRn (A 0).toNat 0 (rFav (upR A 1 (A 1 + 1))) (rFa (upR A 1 (A 1 + 1)))
def rSt2 (A : Int → Int) : Int → Int := rFw (A 0).toNat 0 (rSt1 A)
def rSt (A : Int → Int) : Int → Int := rSw (A 0).toNat 0 (rSt2 A)
def rStv (A : Int → Int) : Int := rSv (A 0).toNat 0 0 (rSt2 A)
theorem rCr_ne (f u : Int) : ∀ (n : Nat) {k j : Int} {A : Int → Int}, ¬ (63 * u + k ≤ j ∧ j < 63 * u + (k + n)) → rCr f u n k A j = A j
  | 0, _, _, _, _ => rfl
  | n + 1, k, j, A, h => by rw [rCr, rCr_ne f u n (by omega), upR_ne _ _ (by omega)]
theorem rCr_is (f u : Int) (hfu : ¬ f = u) : ∀ (n : Nat) {k j : Int} {A : Int → Int}, 0 ≤ k → k + n ≤ 63 → 63 * u + k ≤ j → j < 63 * u + (k + n) → rCr f u n k A j = A (j - 63 * u + 63 * f)
  | 0, _, _, _, _, _, h1, h2 => by omega
  | n + 1, k, j, A, h0, h9, h1, h2 => by
    rw [rCr]
    by_cases h : j = 63 * u + k
    · subst h
      rw [rCr_ne f u n (by omega), upR_eq]
      congr 1
      omega
    · rw [rCr_is f u hfu n (by omega) (by omega) (by omega) (by omega), upR_ne _ _ (by omega)]
theorem rCr_cp {f u : Int} (hfu : ¬ f = u) (A : Int → Int) : rCr f u 63 0 A = rCp f u A := by
  funext j
  unfold rCp
  split
  · rw [rCr_is f u hfu 63 (by omega) (by omega) (by omega) (by omega)]
  · rw [rCr_ne f u 63 (by omega)]
theorem rSh_ne : ∀ (n : Nat) {k j : Int} {A : Int → Int}, ¬ (51 + k ≤ j ∧ j < 51 + (k + n)) → rSh n k A j = A j
  | 0, _, _, _, _ => rfl
  | n + 1, k, j, A, h => by rw [rSh, rSh_ne n (by omega), upR_ne _ _ (by omega)]
theorem rSh_is : ∀ (n : Nat) {k j : Int} {A : Int → Int}, 51 + k ≤ j → j < 51 + (k + n) → rSh n k A j = A (j + 1)
  | 0, _, _, _, h1, h2 => by omega
  | n + 1, k, j, A, h1, h2 => by
    rw [rSh]
    by_cases h : j = 51 + k
    · subst h; rw [rSh_ne n (by omega), upR_eq]
    · rw [rSh_is n (by omega) (by omega), upR_ne _ _ (by omega)]
theorem rFa_ne {A : Int → Int} {j : Int} (h2 : ¬ j = 2) (h : ¬ (51 ≤ j ∧ j < 63)) : rFa A j = A j := by
  unfold rFa
  split
  · rfl
  · rw [upR_ne _ _ h2, upR_ne _ _ (by omega), rSh_ne _ (by omega)]
theorem rRn_ne : ∀ (n : Nat) {i r j : Int} {A : Int → Int}, (∀ k, i ≤ k → k < i + n → ¬ j = 6 + 9 * k + 1) → rRn n i r A j = A j
  | 0, _, _, _, _, _ => rfl
  | n + 1, i, r, j, A, h => by
    rw [rRn, rRn_ne n (fun k h1 h2 => h k (by omega) (by omega)), upR_ne _ _ (h i (by omega) (by omega))]
theorem rRn_is : ∀ (n : Nat) {i r k : Int} {A : Int → Int}, i ≤ k → k < i + n → rRn n i r A (6 + 9 * k + 1) = A (6 + 9 * k + 1) + r * A (6 + 9 * k + 2)
  | 0, _, _, _, _, h1, h2 => by omega
  | n + 1, i, r, k, A, h1, h2 => by
    rw [rRn]
    by_cases h : k = i
    · subst h
      rw [rRn_ne n (fun q h3 h4 => by omega), upR_eq]
    · rw [rRn_is n (by omega) (by omega), upR_ne _ _ (by omega), upR_ne _ _ (by omega)]
theorem rF1_ne {i j : Int} {A : Int → Int} (h : ¬ j = 6 + 9 * i + 4) : rF1 i A j = A j := by
  unfold rF1
  split
  · rw [upR_ne _ _ h]
  · rfl
theorem rGate_bd {o : Int} : 0 ≤ rGate o ∧ rGate o ≤ 5 := by
  unfold rGate
  split
  · omega
  · split <;> omega
theorem rF1_4 {i : Int} {A : Int → Int} : rF1 i A (6 + 9 * i + 4) = if A (6 + 9 * i + 5) = 1 then rGate (A (6 + 9 * i + 1) - A (6 + 9 * i + 6)) else A (6 + 9 * i + 4) := by
  unfold rF1
  split
  · rw [upR_eq]
  · rfl
section REF
variable {L : Nat} {xs : Nat → Int32} {d t : Nat} {T : zT} {A B F : Int → Int}
/-- levels, gates and the rest of the basins from i on are in their bounds, levels up to m -/
theorem rFl_ne {i j : Int} {A : Int → Int} (h1 : ¬ j = 6 + 9 * i + 1) (h4 : ¬ j = 6 + 9 * i + 4) (h5 : ¬ j = 6 + 9 * (i + 1) + 1 ∨ (0 ≤ i ∧ ¬ i < A 0 - 1)) (h3 : ¬ j = 3) : rFl i A j = A j := by
  unfold rFl rF2
  split
  · next h =>
    have h6 : ¬ j = 6 + 9 * (i + 1) + 1 := by
      rcases h5 with h5 | ⟨h7, h5⟩
      · exact h5
      · rw [upR_ne _ _ (by omega), rF1_ne (by omega)] at h
        exact absurd h h5
    rw [upR_ne _ _ h6, upR_ne _ _ h1, rF1_ne h4]
  · rw [upR_ne _ _ h3, upR_ne _ _ h1, rF1_ne h4]
theorem rOut_bd {i : Int} {A : Int → Int} (hk : 0 ≤ A (6 + 9 * i + 1) ∧ 0 ≤ A (6 + 9 * i + 4) ∧ A (6 + 9 * i + 4) ≤ 5) : 0 ≤ rOut i (rF1 i A) ∧ rOut i (rF1 i A) ≤ 20 ∧ rOut i (rF1 i A) ≤ A (6 + 9 * i + 1) := by
  have h1 : rF1 i A (6 + 9 * i + 1) = A (6 + 9 * i + 1) := rF1_ne (by omega)
  have h4 : 0 ≤ rF1 i A (6 + 9 * i + 4) ∧ rF1 i A (6 + 9 * i + 4) ≤ 5 := by
    rw [rF1_4]
    split
    · exact rGate_bd
    · exact hk.2
  unfold rOut
  rw [h1]
  split <;> omega
theorem rFl_1 {i : Int} {A : Int → Int} (h0 : 0 ≤ i) : rFl i A (6 + 9 * i + 1) = A (6 + 9 * i + 1) - rOut i (rF1 i A) := by
  unfold rFl rF2
  split
  · rw [upR_ne _ _ (by omega), upR_eq, rF1_ne (by omega)]; omega
  · rw [upR_ne _ _ (by omega), upR_eq, rF1_ne (by omega)]; omega
theorem rFl_4 {i : Int} {A : Int → Int} (h0 : 0 ≤ i) : rFl i A (6 + 9 * i + 4) = rF1 i A (6 + 9 * i + 4) := by
  unfold rFl rF2
  split
  · rw [upR_ne _ _ (by omega), upR_ne _ _ (by omega)]
  · rw [upR_ne _ _ (by omega), upR_ne _ _ (by omega)]
theorem rFl_n {i : Int} {A : Int → Int} (h0 : 0 ≤ i) (hi : i < A 0 - 1) : rFl i A (6 + 9 * (i + 1) + 1) = A (6 + 9 * (i + 1) + 1) + rOut i (rF1 i A) := by
  have e0 : upR (rF1 i A) (6 + 9 * i + 1) (rF1 i A (6 + 9 * i + 1) + -rOut i (rF1 i A)) 0 = A 0 := by rw [upR_ne _ _ (by omega), rF1_ne (by omega)]
  unfold rFl rF2
  rw [if_pos (by omega), upR_eq, upR_ne _ _ (by omega), rF1_ne (by omega)]
theorem rFl_n0 {i : Int} {A : Int → Int} (h0 : 0 ≤ i) (hi : ¬ i < A 0 - 1) : rFl i A (6 + 9 * (i + 1) + 1) = A (6 + 9 * (i + 1) + 1) := by
  have e0 : upR (rF1 i A) (6 + 9 * i + 1) (rF1 i A (6 + 9 * i + 1) + -rOut i (rF1 i A)) 0 = A 0 := by rw [upR_ne _ _ (by omega), rF1_ne (by omega)]
  unfold rFl rF2
  rw [if_neg (by omega), upR_ne _ _ (by omega), upR_ne _ _ (by omega), rF1_ne (by omega)]
theorem rFl_3 {i : Int} {A : Int → Int} (h0 : 0 ≤ i) : rFl i A 3 = A 3 + if i < A 0 - 1 then 0 else rOut i (rF1 i A) := by
  have e0 : upR (rF1 i A) (6 + 9 * i + 1) (rF1 i A (6 + 9 * i + 1) + -rOut i (rF1 i A)) 0 = A 0 := by rw [upR_ne _ _ (by omega), rF1_ne (by omega)]
  unfold rFl rF2
  rw [e0]
  split
  · rw [upR_ne _ _ (by omega), upR_ne _ _ (by omega), rF1_ne (by omega)]; omega
  · rw [upR_eq, upR_ne _ _ (by omega), rF1_ne (by omega)]
/-- what the loop over the gates wants: basin i up to 180 and what came from above, those behind it up to 180 -/
def rIn (A : Int → Int) (i : Int) : Prop := (∀ k, i < k → k < A 0 → zOK A 180 k) ∧ (i < A 0 → zOK A 200 i)
theorem rIn_next {i : Int} {A : Int → Int} (h0 : 0 ≤ i) (hi : i < A 0) (h : rIn A i) : rIn (rFl i A) (i + 1) := by
  have e0 : rFl i A 0 = A 0 := rFl_ne (by omega) (by omega) (by omega) (by omega)
  have hi2 := h.2 hi
  unfold zOK at hi2
  have ho := rOut_bd (i := i) (A := A) (by omega)
  refine ⟨fun k h1 h2 => ?_, fun h2 => ?_⟩
  · exact zOK_eq (fun w h3 h4 => rFl_ne (by omega) (by omega) (by omega) (by omega)) (h.1 k (by omega) (by omega))
  · have hk := h.1 (i + 1) (by omega) (by omega)
    have hn := rFl_n h0 (A := A) (i := i) (by omega)
    unfold zOK at hk ⊢
    rw [hn]
    rw [rFl_ne (j := 6 + 9 * (i + 1) + 0) (by omega) (by omega) (by omega) (by omega), rFl_ne (j := 6 + 9 * (i + 1) + 2) (by omega) (by omega) (by omega) (by omega), rFl_ne (j := 6 + 9 * (i + 1) + 3) (by omega) (by omega) (by omega) (by omega), rFl_ne (j := 6 + 9 * (i + 1) + 4) (by omega) (by omega) (by omega) (by omega), rFl_ne (j := 6 + 9 * (i + 1) + 5) (by omega) (by omega) (by omega) (by omega), rFl_ne (j := 6 + 9 * (i + 1) + 6) (by omega) (by omega) (by omega) (by omega)]
    omega
theorem rFw_ne : ∀ (n : Nat) {i j : Int} {A : Int → Int}, (∀ k, i ≤ k → k < i + n → ¬ j = 6 + 9 * k + 1 ∧ ¬ j = 6 + 9 * k + 4) → (¬ j = 6 + 9 * (i + n) + 1 ∨ (0 ≤ i ∧ i + n = A 0)) → ¬ j = 3 → rFw n i A j = A j
  | 0, _, _, _, _, _, _ => rfl
  | n + 1, i, j, A, h, hn, h3 => by
    have h1 := h i (by omega) (by omega)
    have h5 : ¬ j = 6 + 9 * (i + 1) + 1 ∨ (0 ≤ i ∧ ¬ i < A 0 - 1) := by
      by_cases e : n = 0
      · subst e; omega
      · exact .inl (h (i + 1) (by omega) (by omega)).1
    have h6 : 0 ≤ i → rFl i A 0 = A 0 := fun h0 => rFl_ne (by omega) (by omega) (by omega) (by omega)
    rw [rFw, rFw_ne n (fun k h1 h2 => h k (by omega) (by omega)) (by
      rcases hn with hn | ⟨h7, h8⟩
      · exact .inl (by omega)
      · exact .inr ⟨by omega, by rw [h6 h7]; omega⟩) h3, rFl_ne h1.1 h1.2 h5 h3]
theorem rSp_ne {i j : Int} {A : Int → Int} (h1 : ¬ j = 6 + 9 * i + 1) (h7 : ¬ j = 6 + 9 * i + 7) (h8 : ¬ j = 6 + 9 * i + 8) : rSp i A j = A j := by
  unfold rSp
  split
  · rfl
  · rw [upR_ne _ _ h8, upR_ne _ _ h7, upR_ne _ _ h1]
end REF
