/-! ROWS: what holds of a chain's row; the step, phase by phase -/
/-- basin k of the row is in its bounds, its level not above m -/
def zOK (A : Int → Int) (m k : Int) : Prop :=
  10 ≤ A (6 + 9 * k + 0) ∧ A (6 + 9 * k + 0) ≤ 99 ∧ 0 ≤ A (6 + 9 * k + 1) ∧ A (6 + 9 * k + 1) ≤ m ∧ 0 ≤ A (6 + 9 * k + 2) ∧ A (6 + 9 * k + 2) ≤ 3 ∧ 0 ≤ A (6 + 9 * k + 3) ∧ A (6 + 9 * k + 3) ≤ 99 ∧
  0 ≤ A (6 + 9 * k + 4) ∧ A (6 + 9 * k + 4) ≤ 5 ∧ (A (6 + 9 * k + 5) = 0 ∨ A (6 + 9 * k + 5) = 1) ∧ 0 ≤ A (6 + 9 * k + 6) ∧ A (6 + 9 * k + 6) ≤ 99
theorem zOK_eq {A B : Int → Int} {m k : Int} (h : ∀ w, 0 ≤ w → w < 9 → B (6 + 9 * k + w) = A (6 + 9 * k + w)) (hA : zOK A m k) : zOK B m k := by
  unfold zOK at hA ⊢
  rw [h 0 (by omega) (by omega), h 1 (by omega) (by omega), h 2 (by omega) (by omega), h 3 (by omega) (by omega), h 4 (by omega) (by omega), h 5 (by omega) (by omega), h 6 (by omega) (by omega)]
  exact hA
theorem zmul_bd {x y a b : Int} (h0 : 0 ≤ x) (h1 : x ≤ a) (h2 : 0 ≤ y) (h3 : y ≤ b) : 0 ≤ x * y ∧ x * y ≤ a * b :=
  ⟨Int.mul_nonneg h0 h2, Int.mul_le_mul h1 h3 h2 (by omega)⟩
def zWF (A : Int → Int) (m : Int) : Prop := 0 ≤ A 0 ∧ A 0 ≤ 5 ∧ 0 ≤ A 2 ∧ A 2 ≤ 12 ∧ (∀ k, 0 ≤ k → k < A 0 → zOK A m k) ∧ (∀ j, 0 ≤ j → j < A 2 → 0 ≤ A (51 + j) ∧ A (51 + j) ≤ 20)
-- copies
def zCpN : Nat → Int → (Int → Int) → (Int → Int) → (Int → Int)
  | 0, _, _, A => A
  | n + 1, i, B, A => zCpN n (i + 1) B (zCpB i B A)
def zCpF : Nat → Int → (Int → Int) → (Int → Int) → (Int → Int)
  | 0, _, _, A => A
  | n + 1, i, B, A => zCpF n (i + 1) B (upR A (51 + i) (B (51 + i)))
def zTl (B A : Int → Int) : Int → Int := upR (upR (upR (upR A 1 (B 1)) 4 (B 4)) 5 (B 5)) 3 (B 3)
def zCpy (B A : Int → Int) : Int → Int := zTl B (zCpF (B 2).toNat 0 B (upR (zCpN (B 0).toNat 0 B (upR A 0 (B 0))) 2 (B 2)))
theorem zCpB_ne {i j : Int} {B A : Int → Int} (h : ¬ (6 + 9 * i ≤ j ∧ j < 6 + 9 * i + 9)) : zCpB i B A j = A j := by
  unfold zCpB
  rw [upR_ne _ _ (by omega), upR_ne _ _ (by omega), upR_ne _ _ (by omega), upR_ne _ _ (by omega), upR_ne _ _ (by omega), upR_ne _ _ (by omega), upR_ne _ _ (by omega), upR_ne _ _ (by omega), upR_ne _ _ (by omega)]
theorem zCpB_is {i j : Int} {B A : Int → Int} (h : 6 + 9 * i ≤ j ∧ j < 6 + 9 * i + 9) : zCpB i B A j = B j := by
  unfold zCpB upR
  repeat' split
  all_goals first | (next e => rw [e]; done) | omega
theorem zCpN_ne : ∀ (n : Nat) {i j : Int} {B A : Int → Int}, ¬ (6 + 9 * i ≤ j ∧ j < 6 + 9 * (i + n)) → zCpN n i B A j = A j
  | 0, _, _, _, _, _ => rfl
  | n + 1, i, j, B, A, h => by
    rw [zCpN, zCpN_ne n (by omega), zCpB_ne (by omega)]
theorem zCpN_is : ∀ (n : Nat) {i j : Int} {B A : Int → Int}, 6 + 9 * i ≤ j → j < 6 + 9 * (i + n) → zCpN n i B A j = B j
  | 0, _, _, _, _, h1, h2 => by omega
  | n + 1, i, j, B, A, h1, h2 => by
    rw [zCpN]
    by_cases h : j < 6 + 9 * i + 9
    · rw [zCpN_ne n (by omega), zCpB_is ⟨h1, h⟩]
    · exact zCpN_is n (by omega) (by omega)
theorem zCpF_ne : ∀ (n : Nat) {i j : Int} {B A : Int → Int}, ¬ (51 + i ≤ j ∧ j < 51 + (i + n)) → zCpF n i B A j = A j
  | 0, _, _, _, _, _ => rfl
  | n + 1, i, j, B, A, h => by
    rw [zCpF, zCpF_ne n (by omega), upR_ne _ _ (by omega)]
theorem zCpF_is : ∀ (n : Nat) {i j : Int} {B A : Int → Int}, 51 + i ≤ j → j < 51 + (i + n) → zCpF n i B A j = B j
  | 0, _, _, _, _, h1, h2 => by omega
  | n + 1, i, j, B, A, h1, h2 => by
    rw [zCpF]
    by_cases h : j = 51 + i
    · subst h
      rw [zCpF_ne n (by omega), upR_eq]
    · exact zCpF_is n (by omega) (by omega)
/-- a copy is the other where that one is alive, else itself -/
theorem zCpy_eq {B A : Int → Int} (h0 : 0 ≤ B 0) (h5 : B 0 ≤ 5) (h2 : 0 ≤ B 2) (j : Int) : zCpy B A j = if (0 ≤ j ∧ j < 6) ∨ (6 ≤ j ∧ j < 6 + 9 * B 0) ∨ (51 ≤ j ∧ j < 51 + B 2) then B j else A j := by
  unfold zCpy zTl
  by_cases e3 : j = 3
  · subst e3; rw [upR_eq, if_pos (by omega)]
  rw [upR_ne _ _ e3]
  by_cases e5 : j = 5
  · subst e5; rw [upR_eq, if_pos (by omega)]
  rw [upR_ne _ _ e5]
  by_cases e4 : j = 4
  · subst e4; rw [upR_eq, if_pos (by omega)]
  rw [upR_ne _ _ e4]
  by_cases e1 : j = 1
  · subst e1; rw [upR_eq, if_pos (by omega)]
  rw [upR_ne _ _ e1]
  by_cases ef : 51 ≤ j ∧ j < 51 + B 2
  · rw [if_pos (by omega), zCpF_is _ (by omega) (by omega)]
  rw [zCpF_ne _ (by omega)]
  by_cases e2 : j = 2
  · subst e2; rw [upR_eq, if_pos (by omega)]
  rw [upR_ne _ _ e2]
  by_cases eb : 6 ≤ j ∧ j < 6 + 9 * B 0
  · rw [if_pos (by omega), zCpN_is _ (by omega) (by omega)]
  rw [zCpN_ne _ (by omega)]
  by_cases e0 : j = 0
  · subst e0; rw [upR_eq, if_pos (by omega)]
  rw [upR_ne _ _ e0, if_neg (by omega)]
-- a step
def zSh : Nat → Int → (Int → Int) → (Int → Int)
  | 0, _, A => A
  | n + 1, i, A => zSh n (i + 1) (upR A (51 + i) (A (51 + (i + 1))))
def zTk (A : Int → Int) : Int → Int := if A 2 = 0 then A else zSh (A 2 - 1).toNat 0 (upR A 2 (A 2 - 1))
def zTkv (A : Int → Int) : Int := if A 2 = 0 then 0 else A (51 + 0)
def zRn : Nat → Int → Int → (Int → Int) → (Int → Int)
  | 0, _, _, A => A
  | n + 1, i, r, A => zRn n (i + 1) r (upR (upR A (6 + 9 * i + 1) (A (6 + 9 * i + 1) + r * A (6 + 9 * i + 2))) 4 (A 4 + r * A (6 + 9 * i + 2)))
def zF1 (i fl : Int) (A : Int → Int) : Int → Int := zMov i (upR A (6 + 9 * i + 1) (A (6 + 9 * i + 1) + fl))
def zFw : Nat → Int → Int → (Int → Int) → (Int → Int)
  | 0, _, _, A => A
  | n + 1, i, fl, A => zFw n (i + 1) (zFl (zF1 i fl A (6 + 9 * i + 4)) (zF1 i fl A (6 + 9 * i + 1))) (zLet i (zF1 i fl A))
def zFv : Nat → Int → Int → (Int → Int) → Int
  | 0, _, fl, _ => fl
  | n + 1, i, fl, A => zFv n (i + 1) (zFl (zF1 i fl A (6 + 9 * i + 4)) (zF1 i fl A (6 + 9 * i + 1))) (zLet i (zF1 i fl A))
def zSw : Nat → Int → (Int → Int) → (Int → Int)
  | 0, _, A => A
  | n + 1, i, A => zSw n (i + 1) (zSpo i A)
def zSv : Nat → Int → Int → (Int → Int) → Int
  | 0, _, s, _ => s
  | n + 1, i, s, A => zSv n (i + 1) (s + zSpv i A) (zSpo i A)
def zSt1 (A : Int → Int) : Int → Int := zRn (A 0).toNat 0 (zTkv (upR A 1 (A 1 + 1))) (zTk (upR A 1 (A 1 + 1)))
def zSt2 (A : Int → Int) : Int → Int := upR (zFw (A 0).toNat 0 0 (zSt1 A)) 3 (zSt1 A 3 + zFv (A 0).toNat 0 0 (zSt1 A))
/-- the row after a step, and what is spilled in it -/
def zSt (A : Int → Int) : Int → Int := zSw (A 0).toNat 0 (zSt2 A)
def zStv (A : Int → Int) : Int := zSv (A 0).toNat 0 0 (zSt2 A)
theorem zSh_ne : ∀ (n : Nat) {i j : Int} {A : Int → Int}, ¬ (51 + i ≤ j ∧ j < 51 + (i + n)) → zSh n i A j = A j
  | 0, _, _, _, _ => rfl
  | n + 1, i, j, A, h => by
    rw [zSh, zSh_ne n (by omega), upR_ne _ _ (by omega)]
theorem zSh_is : ∀ (n : Nat) {i j : Int} {A : Int → Int}, 51 + i ≤ j → j < 51 + (i + n) → zSh n i A j = A (j + 1)
  | 0, _, _, _, h1, h2 => by omega
  | n + 1, i, j, A, h1, h2 => by
    rw [zSh]
    by_cases h : j = 51 + i
    · subst h
      rw [zSh_ne n (by omega), upR_eq, Int.add_assoc]
    · rw [zSh_is n (by omega) (by omega), upR_ne _ _ (by omega)]
theorem zTk_ne {A : Int → Int} {j : Int} (h2 : ¬ j = 2) (h : ¬ 51 ≤ j) : zTk A j = A j := by
  unfold zTk
  split
  · rfl
  · rw [zSh_ne _ (by omega), upR_ne _ _ h2]
theorem zTk_2 {A : Int → Int} (h2 : 0 ≤ A 2) : zTk A 2 = if A 2 = 0 then 0 else A 2 - 1 := by
  unfold zTk
  split
  · next e => exact e
  · rw [zSh_ne _ (by omega), upR_eq]
theorem zTk_f {A : Int → Int} {j : Int} (h0 : 0 ≤ j) (h1 : j < A 2 - 1) : zTk A (51 + j) = A (51 + j + 1) := by
  unfold zTk
  rw [if_neg (by omega), zSh_is _ (by omega) (by omega), upR_ne _ _ (by omega)]
theorem zRn_ne : ∀ (n : Nat) {i r j : Int} {A : Int → Int}, (∀ k, i ≤ k → k < i + n → ¬ j = 6 + 9 * k + 1) → ¬ j = 4 → zRn n i r A j = A j
  | 0, _, _, _, _, _, _ => rfl
  | n + 1, i, r, j, A, h, h4 => by
    rw [zRn, zRn_ne n (fun k h1 h2 => h k (by omega) (by omega)) h4, upR_ne _ _ h4, upR_ne _ _ (h i (by omega) (by omega))]
theorem zRn_is : ∀ (n : Nat) {i r k : Int} {A : Int → Int}, 0 ≤ i → i ≤ k → k < i + n → zRn n i r A (6 + 9 * k + 1) = A (6 + 9 * k + 1) + r * A (6 + 9 * k + 2)
  | 0, _, _, _, _, _, h1, h2 => by omega
  | n + 1, i, r, k, A, h0, h1, h2 => by
    rw [zRn]
    by_cases h : k = i
    · subst h
      rw [zRn_ne n (fun q h3 h4 => by omega) (by omega), upR_ne _ _ (by omega), upR_eq]
    · rw [zRn_is n (by omega) (by omega) (by omega), upR_ne _ _ (by omega), upR_ne _ _ (by omega), upR_ne _ _ (by omega), upR_ne _ _ (by omega)]
theorem zGate_bd {l b : Int} : 0 ≤ zGate l b ∧ zGate l b ≤ 5 := by
  unfold zGate
  split
  · split <;> omega
  · omega
theorem zMov_ne {i j : Int} {A : Int → Int} (h : ¬ j = 6 + 9 * i + 4) : zMov i A j = A j := by
  unfold zMov
  split
  · rw [upR_ne _ _ h]
  · rfl
theorem zMov_4 {i : Int} {A : Int → Int} : zMov i A (6 + 9 * i + 4) = if A (6 + 9 * i + 5) = 1 then zGate (A (6 + 9 * i + 1)) (A (6 + 9 * i + 6)) else A (6 + 9 * i + 4) := by
  unfold zMov
  split
  · rw [upR_eq]
  · rfl
theorem zF1_ne {i fl j : Int} {A : Int → Int} (h4 : ¬ j = 6 + 9 * i + 4) (h1 : ¬ j = 6 + 9 * i + 1) : zF1 i fl A j = A j := by
  unfold zF1
  rw [zMov_ne h4, upR_ne _ _ h1]
theorem zF1_1 {i fl : Int} {A : Int → Int} : zF1 i fl A (6 + 9 * i + 1) = A (6 + 9 * i + 1) + fl := by
  unfold zF1
  rw [zMov_ne (by omega), upR_eq]
theorem zF1_4 {i fl : Int} {A : Int → Int} : zF1 i fl A (6 + 9 * i + 4) = if A (6 + 9 * i + 5) = 1 then zGate (A (6 + 9 * i + 1) + fl) (A (6 + 9 * i + 6)) else A (6 + 9 * i + 4) := by
  unfold zF1
  rw [zMov_4, upR_ne _ _ (by omega), upR_eq, upR_ne _ _ (by omega), upR_ne _ _ (by omega)]
theorem zF1_4b {i fl : Int} {A : Int → Int} (h : 0 ≤ A (6 + 9 * i + 4) ∧ A (6 + 9 * i + 4) ≤ 5) : 0 ≤ zF1 i fl A (6 + 9 * i + 4) ∧ zF1 i fl A (6 + 9 * i + 4) ≤ 5 := by
  rw [zF1_4]
  split
  · exact zGate_bd
  · exact h
theorem zFl_bd {o l : Int} (h0 : 0 ≤ o) (h5 : o ≤ 5) (hl : 0 ≤ l) : 0 ≤ zFl o l ∧ zFl o l ≤ 20 ∧ zFl o l ≤ l := by
  unfold zFl
  split <;> omega
theorem zLet_ne {i j : Int} {A : Int → Int} (h1 : ¬ j = 6 + 9 * i + 1) : zLet i A j = A j := by
  unfold zLet
  rw [upR_ne _ _ h1]
theorem zLet_1 {i : Int} {A : Int → Int} : zLet i A (6 + 9 * i + 1) = A (6 + 9 * i + 1) - zFl (A (6 + 9 * i + 4)) (A (6 + 9 * i + 1)) := by
  unfold zLet
  rw [upR_eq]
theorem zSpo_ne {i j : Int} {A : Int → Int} (h1 : ¬ j = 6 + 9 * i + 1) (h7 : ¬ j = 6 + 9 * i + 7) (h8 : ¬ j = 6 + 9 * i + 8) : zSpo i A j = A j := by
  unfold zSpo
  split
  · rw [upR_ne _ _ h8, upR_ne _ _ h7, upR_ne _ _ h1]
  · rfl
/-- the flow through basin i keeps the bounds of those behind it -/
theorem zFw_ok {i fl : Int} {A : Int → Int} (h0 : 0 ≤ i) (hf : 0 ≤ fl ∧ fl ≤ 20) (hi : zOK A 180 i) : (0 ≤ zF1 i fl A (6 + 9 * i + 1) ∧ zF1 i fl A (6 + 9 * i + 1) ≤ 200) ∧ (0 ≤ zF1 i fl A (6 + 9 * i + 4) ∧ zF1 i fl A (6 + 9 * i + 4) ≤ 5) ∧ (0 ≤ zFl (zF1 i fl A (6 + 9 * i + 4)) (zF1 i fl A (6 + 9 * i + 1)) ∧ zFl (zF1 i fl A (6 + 9 * i + 4)) (zF1 i fl A (6 + 9 * i + 1)) ≤ 20) := by
  unfold zOK at hi
  have h4 := zF1_4b (i := i) (fl := fl) (A := A) (by omega)
  have h1 : zF1 i fl A (6 + 9 * i + 1) = A (6 + 9 * i + 1) + fl := zF1_1
  have h9 := zFl_bd (l := zF1 i fl A (6 + 9 * i + 1)) h4.1 h4.2 (by omega)
  refine ⟨⟨?_, ?_⟩, h4, h9.1, h9.2.1⟩ <;> omega
