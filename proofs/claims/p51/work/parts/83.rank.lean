/-! RANKS: by their fill, each rank once -/
section RKS
variable {A : Int → Int}
theorem zBf_01 (i b : Int) : zBf A i b = 0 ∨ zBf A i b = 1 := by
  unfold zBf
  split
  · exact .inr rfl
  · exact .inl rfl
theorem zBf_self (b : Int) : zBf A b b = 0 := by
  unfold zBf
  rw [if_neg (by omega)]
theorem zq_tr {la li lb ca ci cb : Int} (ha : 0 < ca) (hi : 0 < ci) (hb : 0 < cb) (H1 : la * ci ≤ li * ca) (H2 : lb * ca ≤ la * cb) : lb * ci ≤ li * cb ∧ (lb * ci = li * cb → la * ci = li * ca ∧ lb * ca = la * cb) := by
  have e1 := Int.mul_le_mul_of_nonneg_right H1 (Int.le_of_lt hb)
  have e2 := Int.mul_le_mul_of_nonneg_right H2 (Int.le_of_lt hi)
  have s1 := Int.mul_right_comm la ci cb
  have s2 := Int.mul_right_comm li ca cb
  have s3 := Int.mul_right_comm lb ca ci
  refine ⟨Int.le_of_mul_le_mul_right (by omega : lb * ci * ca ≤ li * cb * ca) ha, fun e => ?_⟩
  have e3 : lb * ci * ca = li * cb * ca := by rw [e]
  exact ⟨Int.eq_of_mul_eq_mul_right (by omega) (by omega : la * ci * cb = li * ca * cb), Int.eq_of_mul_eq_mul_right (by omega) (by omega : lb * ca * ci = la * cb * ci)⟩
theorem zBf_iff (i b : Int) : zBf A i b = 1 ↔ (A (6 + 9 * b + 1) * A (6 + 9 * i + 0) < A (6 + 9 * i + 1) * A (6 + 9 * b + 0) ∨ (A (6 + 9 * i + 1) * A (6 + 9 * b + 0) = A (6 + 9 * b + 1) * A (6 + 9 * i + 0) ∧ i < b)) := by
  unfold zBf
  split
  · exact ⟨fun _ => by assumption, fun _ => rfl⟩
  · exact ⟨fun h => by omega, fun h => absurd h (by assumption)⟩
theorem zOK_cap (hA : zWF A 99) {k : Int} (h0 : 0 ≤ k) (h1 : k < A 0) : 0 < A (6 + 9 * k + 0) := by
  have h := hA.2.2.2.2.1 k h0 h1
  unfold zOK at h
  omega
theorem zBf_tr (hA : zWF A 99) {i a b : Int} (i0 : 0 ≤ i) (i1 : i < A 0) (a0 : 0 ≤ a) (a1 : a < A 0) (b0 : 0 ≤ b) (b1 : b < A 0) (h1 : zBf A i a = 1) (h2 : zBf A a b = 1) : zBf A i b = 1 := by
  rw [zBf_iff] at h1 h2 ⊢
  have h := zq_tr (la := A (6 + 9 * a + 1)) (li := A (6 + 9 * i + 1)) (lb := A (6 + 9 * b + 1)) (zOK_cap hA a0 a1) (zOK_cap hA i0 i1) (zOK_cap hA b0 b1) (by omega) (by omega)
  omega
theorem zBf_tot {a b : Int} (h : ¬ a = b) : zBf A a b = 1 ∨ zBf A b a = 1 := by
  rw [zBf_iff, zBf_iff]
  omega
theorem zRk_lt {a b : Int} : ∀ (n : Nat) (i r u : Int), (∀ j, i ≤ j → j < i + n → zBf A j a ≤ zBf A j b) → (r < u ∨ (r ≤ u ∧ i ≤ a ∧ a < i + n ∧ zBf A a a < zBf A a b)) → zRk a n i r A < zRk b n i u A
  | 0, i, r, u, _, h => by rw [zRk, zRk]; omega
  | n + 1, i, r, u, hj, h => by
    have h9 := hj i (by omega) (by omega)
    rw [zRk, zRk]
    refine zRk_lt n (i + 1) _ _ (fun j a b => hj j (by omega) (by omega)) ?_
    by_cases q : a = i
    · subst q
      omega
    · omega
theorem zRk_top {b : Int} : ∀ (n : Nat) (i r : Int), i ≤ b → b < i + n → zRk b n i r A < r + n
  | 0, i, r, h0, h1 => by omega
  | n + 1, i, r, h0, h1 => by
    rw [zRk]
    by_cases q : b = i
    · subst q
      have h := (zRk_bd b A n (b + 1) (r + zBf A b b)).2
      rw [zBf_self] at h ⊢
      omega
    · have h := zRk_top (b := b) n (i + 1) (r + zBf A i b) (by omega) (by omega)
      have h2 := zBf_01 (A := A) i b
      omega
theorem zRk_ord (hA : zWF A 99) {a b : Int} (a0 : 0 ≤ a) (a1 : a < A 0) (b0 : 0 ≤ b) (b1 : b < A 0) (h : zBf A a b = 1) : zRk a (A 0).toNat 0 0 A < zRk b (A 0).toNat 0 0 A := by
  refine zRk_lt _ 0 0 0 (fun j j0 j1 => ?_) (.inr ⟨by omega, a0, by omega, by rw [zBf_self, h]; omega⟩)
  rcases zBf_01 (A := A) j a with e | e
  · have := zBf_01 (A := A) j b
    omega
  · rw [e, zBf_tr hA j0 (by omega) a0 a1 b0 b1 e h]
    omega
theorem pg_no : ∀ (n : Nat) (f : Nat → Nat), (∀ k, k < n + 1 → f k < n) → (∀ j k, j < n + 1 → k < n + 1 → f j = f k → j = k) → False
  | 0, f, h, _ => by have := h 0 (by omega); omega
  | n + 1, f, h, hi => by
    have hz : ∀ k, k < n + 1 → ¬ f k = f (n + 1) := fun k hk e => by have := hi k (n + 1) (by omega) (by omega) e; omega
    refine pg_no n (fun k => if f (n + 1) < f k then f k - 1 else f k) (fun k hk => ?_) (fun j k hj hk e => ?_)
    · have h1 := h k (by omega)
      have h2 := h (n + 1) (by omega)
      have h3 := hz k hk
      show (if f (n + 1) < f k then f k - 1 else f k) < n
      split <;> omega
    · have h1 := hz j hj
      have h2 := hz k hk
      refine hi j k (by omega) (by omega) ?_
      have e : (if f (n + 1) < f j then f j - 1 else f j) = (if f (n + 1) < f k then f k - 1 else f k) := e
      split at e <;> split at e <;> omega
theorem pg_yes (n : Nat) (f : Nat → Nat) (h : ∀ k, k < n → f k < n) (hi : ∀ j k, j < n → k < n → f j = f k → j = k) {r : Nat} (hr : r < n) : ∃ k, k < n ∧ f k = r := by
  refine Classical.byContradiction (fun hq => ?_)
  have hz : ∀ k, k < n → ¬ f k = r := fun k hk e => hq ⟨k, hk, e⟩
  obtain ⟨m, rfl⟩ : ∃ m, n = m + 1 := ⟨n - 1, by omega⟩
  refine pg_no m (fun k => if r < f k then f k - 1 else f k) (fun k hk => ?_) (fun j k hj hk e => ?_)
  · have h1 := h k hk
    have h3 := hz k hk
    show (if r < f k then f k - 1 else f k) < m
    split <;> omega
  · have h1 := hz j hj
    have h2 := hz k hk
    refine hi j k hj hk ?_
    have e : (if r < f j then f j - 1 else f j) = (if r < f k then f k - 1 else f k) := e
    split at e <;> split at e <;> omega
theorem rBr_at {r N : Int} : ∀ (n : Nat) (k : Int), 0 ≤ k → (rBr r N A n k = -1 ∧ ∀ x, k ≤ x → x < k + n → ¬ zRk x N.toNat 0 0 A = r) ∨ (k ≤ rBr r N A n k ∧ rBr r N A n k < k + n ∧ zRk (rBr r N A n k) N.toNat 0 0 A = r)
  | 0, _, _ => .inl ⟨rfl, fun x _ _ => by omega⟩
  | n + 1, k, h0 => by
    rw [rBr]
    by_cases q : zRk k N.toNat 0 0 A = r
    · rw [if_pos q]
      exact .inr ⟨by omega, by omega, q⟩
    · rw [if_neg q]
      rcases rBr_at (r := r) (N := N) n (k + 1) (by omega) with ⟨h1, h2⟩ | ⟨h1, h2, h3⟩
      · refine .inl ⟨h1, fun x a b => ?_⟩
        by_cases e : x = k
        · rw [e]; exact q
        · exact h2 x (by omega) (by omega)
      · exact .inr ⟨by omega, by omega, h3⟩
theorem rk_ok (hA : zWF A 99) {r : Int} (r0 : 0 ≤ r) (r1 : r < A 0) : 0 ≤ rBr r (A 0) A (A 0).toNat 0 ∧ rBr r (A 0) A (A 0).toNat 0 < A 0 ∧ zRk (rBr r (A 0) A (A 0).toNat 0) (A 0).toNat 0 0 A = r := by
  rcases rBr_at (A := A) (r := r) (N := A 0) (A 0).toNat 0 (by omega) with ⟨-, h2⟩ | ⟨h1, h2, h3⟩
  · exfalso
    obtain ⟨k, hk, e⟩ := pg_yes (A 0).toNat (fun k => (zRk (k : Int) (A 0).toNat 0 0 A).toNat) (fun k hk => by
        have h := zRk_top (A := A) (b := (k : Int)) (A 0).toNat 0 0 (by omega) (by omega)
        show (zRk (k : Int) (A 0).toNat 0 0 A).toNat < (A 0).toNat
        omega) (fun j k hj hk e => by
        have e : (zRk (j : Int) (A 0).toNat 0 0 A).toNat = (zRk (k : Int) (A 0).toNat 0 0 A).toNat := e
        have p1 := (zRk_bd (j : Int) A (A 0).toNat 0 0).1
        have p2 := (zRk_bd (k : Int) A (A 0).toNat 0 0).1
        refine Classical.byContradiction (fun q => ?_)
        rcases zBf_tot (A := A) (a := (j : Int)) (b := (k : Int)) (by omega) with g | g
        · have := zRk_ord hA (by omega) (by omega) (by omega) (by omega) g
          omega
        · have := zRk_ord hA (by omega) (by omega) (by omega) (by omega) g
          omega) (r := r.toNat) (by omega)
    have e : (zRk (k : Int) (A 0).toNat 0 0 A).toNat = r.toNat := e
    have p1 := (zRk_bd (k : Int) A (A 0).toNat 0 0).1
    exact h2 k (by omega) (by omega) (by omega)
  · exact ⟨h1, by omega, h3⟩
theorem rk_out (h0 : 0 ≤ A 0) : rBr (A 0) (A 0) A (A 0).toNat 0 < 0 := by
  rcases rBr_at (A := A) (r := A 0) (N := A 0) (A 0).toNat 0 (by omega) with ⟨h1, -⟩ | ⟨h1, h2, h3⟩
  · omega
  · have h := zRk_top (A := A) (b := rBr (A 0) (A 0) A (A 0).toNat 0) (A 0).toNat 0 0 h1 (by omega)
    omega
theorem rk_next (hA : zWF A 99) {r a b : Int} (r0 : 0 ≤ r) (r1 : r + 1 < A 0) (ha : rBr r (A 0) A (A 0).toNat 0 = a) (hb : rBr (r + 1) (A 0) A (A 0).toNat 0 = b) : A (6 + 9 * b + 1) * A (6 + 9 * a + 0) ≤ A (6 + 9 * a + 1) * A (6 + 9 * b + 0) ∧ (A (6 + 9 * a + 1) * A (6 + 9 * b + 0) = A (6 + 9 * b + 1) * A (6 + 9 * a + 0) → a < b) := by
  obtain ⟨a0, a1, a2⟩ := rk_ok hA r0 (by omega : r < A 0)
  obtain ⟨b0, b1, b2⟩ := rk_ok hA (by omega : 0 ≤ r + 1) r1
  rw [ha] at a0 a1 a2
  rw [hb] at b0 b1 b2
  rcases zBf_tot (A := A) (a := a) (b := b) (by rintro rfl; omega) with g | g
  · rw [zBf_iff] at g
    omega
  · have := zRk_ord hA b0 b1 a0 a1 g
    omega
end RKS
