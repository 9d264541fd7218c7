/-! BOUNDS OF ANSWERS -/
section BD
variable {A B : Int → Int}
theorem ze_int (x : Int32) : ∃ v : Int, -2147483648 ≤ v ∧ v < 2147483648 ∧ x = Int32.ofInt v := ⟨x.toInt, by have := Int32.le_toInt x; omega, by have := Int32.toInt_lt x; omega, (oz_of x).symm⟩
theorem ze_ch (x : Int32) : ∃ v : Int, 0 ≤ v ∧ v < 65536 ∧ mv_ch x = Int32.ofInt v := ⟨x.toInt % 65536, by omega, by omega, by rw [← mv_ch_z, oz_of]⟩
theorem zSm_bd {w M : Int} : ∀ (n : Nat) (i s : Int), (∀ k, i ≤ k → k < i + n → 0 ≤ A (6 + 9 * k + w) ∧ A (6 + 9 * k + w) ≤ M) → s ≤ zSm w n i s A ∧ zSm w n i s A ≤ s + M * n
  | 0, _, s, _ => by rw [zSm]; omega
  | n + 1, i, s, h => by
    rw [zSm]
    have h1 := h i (by omega) (by omega)
    have ih := zSm_bd (w := w) (M := M) n (i + 1) (s + A (6 + 9 * i + w)) (fun j h2 h3 => h j (by omega) (by omega))
    have e : M * ((n + 1 : Nat) : Int) = M * n + M := by rw [show ((n + 1 : Nat) : Int) = (n : Int) + 1 by omega, Int.mul_add, Int.mul_one]
    omega
theorem zDf_bd {M : Int} : ∀ (n : Nat) (i s : Int), (∀ k, i ≤ k → k < i + n → 0 ≤ A (51 + k) ∧ A (51 + k) ≤ M) → s ≤ zDf n i s A ∧ zDf n i s A ≤ s + M * n
  | 0, _, s, _ => by rw [zDf]; omega
  | n + 1, i, s, h => by
    rw [zDf]
    have h1 := h i (by omega) (by omega)
    have ih := zDf_bd (M := M) n (i + 1) (s + A (51 + i)) (fun j h2 h3 => h j (by omega) (by omega))
    have e : M * ((n + 1 : Nat) : Int) = M * n + M := by rw [show ((n + 1 : Nat) : Int) = (n : Int) + 1 by omega, Int.mul_add, Int.mul_one]
    omega
theorem zPv_bd : ∀ (n : Nat) (s : Int) {A : Int → Int}, zWF A 99 → s ≤ zPv n s A ∧ zPv n s A ≤ s + 950 * n
  | 0, s, _, _ => by rw [zPv]; omega
  | n + 1, s, A, h => by
    rw [zPv]
    have h1 := zStv_bd h
    have ih := zPv_bd n (s + zStv A) (zSt_wf h)
    omega
theorem zCv_bd : ∀ {k : Nat} {p q r : Int}, k < 8 → zWF A 99 → zfOf k A p q r = 1010 → 0 ≤ zCv k A p q r ∧ zCv k A p q r ≤ 30000
  | 0, _, _, _, _, hA, _ => by
    have := hA.1; have := hA.2.1
    show 0 ≤ A 0 ∧ A 0 ≤ 30000
    omega
  | 1, p, q, r, _, hA, hf => by
    have hf : zfGate A p q = 1010 := hf
    unfold zfGate at hf
    split at hf
    · next h =>
      have := hA.2.2.2.2.1 p h.1 h.2
      unfold zOK at this
      show 0 ≤ A (6 + 9 * p + 4) ∧ A (6 + 9 * p + 4) ≤ 30000
      omega
    · omega
  | 2, p, q, r, hk, hA, hf => by
    have h := zCo_wf hk hA hf
    have h0 := hA.1; have h5 := hA.2.1
    have e : zCo 2 A p q r 0 = A 0 := by
      have hf : zfAt A p q 0 99 = 1010 := hf
      unfold zfAt at hf
      split at hf
      · show upR (upR A (6 + 9 * p + 5) 1) (6 + 9 * p + 6) q 0 = A 0
        rw [upR_ne _ _ (by omega), upR_ne _ _ (by omega)]
      · omega
    have b := zSm_bd (A := zCo 2 A p q r) (w := 5) (M := 1) (A 0).toNat 0 0 (fun k k0 k1 => by
      have := h.2.2.2.2.1 k k0 (by omega)
      unfold zOK at this
      omega)
    show 0 ≤ zSm 5 (A 0).toNat 0 0 (zCo 2 A p q r) ∧ zSm 5 (A 0).toNat 0 0 (zCo 2 A p q r) ≤ 30000
    omega
  | 3, p, q, r, hk, hA, hf => by
    have h := zCo_wf hk hA hf
    have h0 := hA.1; have h5 := hA.2.1
    have e : zCo 3 A p q r 0 = A 0 := by
      have hf : zfHand A p = 1010 := hf
      unfold zfHand at hf
      split at hf
      · show upR A (6 + 9 * p + 5) 0 0 = A 0
        rw [upR_ne _ _ (by omega)]
      · omega
    have b := zSm_bd (A := zCo 3 A p q r) (w := 5) (M := 1) (A 0).toNat 0 0 (fun k k0 k1 => by
      have := h.2.2.2.2.1 k k0 (by omega)
      unfold zOK at this
      omega)
    show 0 ≤ zSm 5 (A 0).toNat 0 0 (zCo 3 A p q r) ∧ zSm 5 (A 0).toNat 0 0 (zCo 3 A p q r) ≤ 30000
    omega
  | 4, _, _, _, _, hA, _ => by
    have := hA.2.2.1; have := hA.2.2.2.1
    show 0 ≤ A 2 + 1 ∧ A 2 + 1 ≤ 30000
    omega
  | 5, _, _, _, _, hA, _ => by
    have := hA.2.2.1; have := hA.2.2.2.1
    have b := zDf_bd (A := A) (M := 20) (A 2).toNat 0 0 (fun k k0 k1 => hA.2.2.2.2.2 k k0 (by omega))
    show 0 ≤ zDf (A 2).toNat 0 0 A ∧ zDf (A 2).toNat 0 0 A ≤ 30000
    omega
  | 6, p, q, r, _, hA, hf => by
    have hf : zfPour A p q = 1010 := hf
    unfold zfPour at hf
    split at hf
    · next h =>
      have := hA.2.2.2.2.1 p h.1 h.2
      unfold zOK at this
      show 0 ≤ A (6 + 9 * p + 1) + q ∧ A (6 + 9 * p + 1) + q ≤ 30000
      repeat' split at hf
      all_goals omega
    · omega
  | 7, p, q, r, _, hA, hf => by
    have hf : zfR p 1 30 = 1010 := hf
    unfold zfR at hf
    split at hf
    · omega
    · have := zPv_bd p.toNat 0 hA
      show 0 ≤ zPv p.toNat 0 A ∧ zPv p.toNat 0 A ≤ 30000
      omega
  | k + 8, _, _, _, h, _, _ => absurd h (by omega)
theorem zAr_bd (f : Int → Int) : ∀ (n : Nat) (o m a : Int), zAr f n o m a = a ∨ (o ≤ zAr f n o m a ∧ zAr f n o m a < o + n)
  | 0, _, _, a => .inl rfl
  | n + 1, o, m, a => by
    rw [zAr]
    by_cases q : f o < m
    · rw [if_pos q]
      have := zAr_bd f n (o + 1) (min m (f o)) o
      omega
    · rw [if_neg q]
      have := zAr_bd f n (o + 1) (min m (f o)) a
      omega
theorem zPa_bd (l : Nat) (A : Int → Int) (b : Int) : 0 ≤ zPa l A b ∧ zPa l A b ≤ 5 := by
  have := zAr_bd (fun o => zStv (zOp b o A) + zPl l (zSt (zOp b o A)) b) 6 0 1000000 0
  unfold zPa
  omega
theorem rBr_bd (r N : Int) (A : Int → Int) : ∀ (n : Nat) (k : Int), rBr r N A n k = -1 ∨ (k ≤ rBr r N A n k ∧ rBr r N A n k < k + n)
  | 0, _ => .inl rfl
  | n + 1, k => by
    rw [rBr]
    have := rBr_bd r N A n (k + 1)
    split <;> omega
theorem zPs_0 : ∀ (n : Nat) {C : Int → Int}, zWF C 99 → zPs n C 0 = C 0
  | 0, _, _ => rfl
  | n + 1, C, h => by rw [zPs, zPs_0 n (zSt_wf h), zSt_0 h.2.1]
/-- chars -/
def zCh (P : zWp) : Prop := 0 ≤ P.1 ∧ ∀ j, 0 ≤ j → j < P.1 → 0 ≤ P.2 j ∧ P.2 j < 65536
theorem zWr_ch {P : zWp} {v : Int} (h : zCh P) (v0 : 0 ≤ v) (v1 : v < 65536) : zCh (zWr v P) := by
  refine ⟨by rw [zWr_1]; have := h.1; omega, fun j j0 j1 => ?_⟩
  rw [zWr_1] at j1
  show 0 ≤ upR P.2 P.1 v j ∧ upR P.2 P.1 v j < 65536
  by_cases e : j = P.1
  · rw [upR_is _ _ e]; exact ⟨v0, v1⟩
  · rw [upR_ne _ _ e]; exact h.2 j j0 (by omega)
theorem zWn_ch {P : zWp} {v : Int} (h : zCh P) (v0 : 0 ≤ v) (v1 : v ≤ 99) : zCh (zWn v P) := by
  unfold zWn
  split
  · exact zWr_ch (zWr_ch h (by omega) (by omega)) (by omega) (by omega)
  · exact zWr_ch h (by omega) (by omega)
theorem zWb_ch {P : zWp} {k : Int} (hk : zOK A 99 k) (h : zCh P) : zCh (zWb A k P) := by
  unfold zOK at hk
  have h1 : zCh (zWbA A k P) := by
    unfold zWbA zWx
    refine zWn_ch (zWr_ch (zWn_ch (zWr_ch (zWn_ch h (by omega) (by omega)) (by omega) (by omega)) (by omega) (by omega)) ?_ ?_) (by omega) (by omega)
    · split <;> omega
    · split <;> omega
  unfold zWb
  split
  · exact zWn_ch (zWr_ch h1 (by omega) (by omega)) (by omega) (by omega)
  · exact h1
theorem zWc_ch (hA : zWF A 99) : ∀ (n : Nat) (k : Int) (P : zWp), 0 ≤ k → k + n ≤ A 0 → zCh P → zCh (zWc A n k P) ∧ (zWc A n k P).1 ≤ P.1 + 11 * n - (if k = 0 ∧ 0 < n then 1 else 0)
  | 0, k, P, _, _, h => ⟨h, by rw [zWc]; split <;> omega⟩
  | n + 1, k, P, h0, h1, h => by
    rw [zWc]
    have hk := hA.2.2.2.2.1 k h0 (by omega)
    have hQ : zCh (if 0 < k then zWr 32 P else P) := by
      split
      · exact zWr_ch h (by omega) (by omega)
      · exact h
    have hQ1 : (if 0 < k then zWr 32 P else P).1 ≤ P.1 + 1 ∧ (k = 0 → (if 0 < k then zWr 32 P else P).1 ≤ P.1) := by
      split
      · rw [zWr_1]; omega
      · omega
    have hb := zWb_1 (A := A) (k := k) (by unfold zOK at hk; omega) (if 0 < k then zWr 32 P else P)
    generalize (if 0 < k then zWr 32 P else P) = Q at hQ hQ1 hb ⊢
    obtain ⟨h2, h3⟩ := zWc_ch hA n (k + 1) (zWb A k Q) (by omega) (by omega) (zWb_ch hk hQ)
    refine ⟨h2, ?_⟩
    rw [if_neg (by omega)] at h3
    by_cases k0 : k = 0
    · rw [if_pos ⟨k0, by omega⟩]
      have := hQ1.2 k0
      omega
    · rw [if_neg (fun q => k0 q.1)]
      omega
theorem zWf_ch (hA : zWF A 99) : ∀ (n : Nat) (k : Int) (P : zWp), 0 ≤ k → k + n ≤ A 2 → zCh P → zCh (zWf A n k P) ∧ (zWf A n k P).1 ≤ P.1 + 3 * n
  | 0, k, P, _, _, h => ⟨h, by rw [zWf]; omega⟩
  | n + 1, k, P, h0, h1, h => by
    rw [zWf]
    have hk := hA.2.2.2.2.2 k h0 (by omega)
    have hQ : zCh (if 0 < k then zWr 44 P else P) := by
      split
      · exact zWr_ch h (by omega) (by omega)
      · exact h
    have hQ1 : (if 0 < k then zWr 44 P else P).1 ≤ P.1 + 1 := by
      split
      · rw [zWr_1]; omega
      · omega
    have hb := zWn_1 (A (51 + k)) (if 0 < k then zWr 44 P else P)
    obtain ⟨h2, h3⟩ := zWf_ch hA n (k + 1) (zWn (A (51 + k)) (if 0 < k then zWr 44 P else P)) (by omega) (by omega) (zWn_ch hQ (by omega) (by omega))
    exact ⟨h2, by omega⟩
end BD
