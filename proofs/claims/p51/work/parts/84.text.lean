/-! THE LINES' LETTERS -/
section LET
variable {A : Int → Int}
def zAp : List Int → zWp → zWp
  | [], P => P
  | v :: l, P => zAp l (zWr v P)
theorem zAp_app : ∀ (a b : List Int) (P : zWp), zAp (a ++ b) P = zAp b (zAp a P)
  | [], _, _ => rfl
  | v :: a, b, P => by
    show zAp (a ++ b) (zWr v P) = zAp b (zAp a (zWr v P))
    exact zAp_app a b _
theorem zAp_n {v : Int} (h0 : 0 ≤ v) (P : zWp) : zWn v P = zAp (zDg v.toNat) P := by
  unfold zWn zDg
  by_cases h : 9 < v
  · rw [if_pos h, if_neg (by omega)]
    show _ = zWr _ (zWr _ P)
    rw [show 48 + v % 10 = 48 + ((v.toNat % 10 : Nat) : Int) by omega, show 48 + v / 10 = 48 + ((v.toNat / 10 : Nat) : Int) by omega]
  · rw [if_neg h, if_pos (by omega)]
    show _ = zWr _ P
    rw [show 48 + v % 10 = 48 + ((v.toNat % 10 : Nat) : Int) by omega]
/-- what is written of basin k, behind its opening's sign -/
def zTl3 (A : Int → Int) (k : Int) : List Int := if A (6 + 9 * k + 5) = 1 then [58] ++ zDg (A (6 + 9 * k + 4)).toNat ++ [126] ++ zDg (A (6 + 9 * k + 6)).toNat else [124] ++ zDg (A (6 + 9 * k + 4)).toNat
def zTb3 (A : Int → Int) (k : Int) : List Int := (if 0 < k then [32] else []) ++ zDg (A (6 + 9 * k + 1)).toNat ++ [47] ++ zDg (A (6 + 9 * k + 0)).toNat ++ zTl3 A k
def zTr3 (A : Int → Int) (k : Int) : List Int := (if 0 < k then [44] else []) ++ zDg (A (51 + k)).toNat
def zTc3 (A : Int → Int) : Nat → List Int
  | 0 => []
  | n + 1 => zTc3 A n ++ zTb3 A (n : Int)
def zTf3 (A : Int → Int) : Nat → List Int
  | 0 => []
  | n + 1 => zTf3 A n ++ zTr3 A (n : Int)
theorem zAp_b {k : Int} (hk : zOK A 99 k) (P : zWp) : zWb A k (if 0 < k then zWr 32 P else P) = zAp (zTb3 A k) P := by
  unfold zOK at hk
  have e : (if 0 < k then zWr 32 P else P) = zAp (if 0 < k then [32] else []) P := by split <;> rfl
  rw [e]
  unfold zTb3 zTl3 zWb zWbA zWx
  simp only [zAp_app, zAp_n (show 0 ≤ A (6 + 9 * k + 1) by omega), zAp_n (show 0 ≤ A (6 + 9 * k + 0) by omega), zAp_n (show 0 ≤ A (6 + 9 * k + 4) by omega), zAp_n (show 0 ≤ A (6 + 9 * k + 6) by omega)]
  split
  · simp only [zAp_app]
    rfl
  · simp only [zAp_app]
    rfl
theorem zAp_r {k : Int} (h0 : 0 ≤ A (51 + k)) (P : zWp) : zWn (A (51 + k)) (if 0 < k then zWr 44 P else P) = zAp (zTr3 A k) P := by
  have e : (if 0 < k then zWr 44 P else P) = zAp (if 0 < k then [44] else []) P := by split <;> rfl
  unfold zTr3
  rw [e, zAp_app, zAp_n h0]
theorem zAp_c (hA : zWF A 99) (P : zWp) : ∀ (m n : Nat), (n : Int) + m ≤ A 0 → zWc A m (n : Int) (zAp (zTc3 A n) P) = zAp (zTc3 A (n + m)) P
  | 0, n, _ => rfl
  | m + 1, n, h => by
    have ih := zAp_c hA P m (n + 1) (by omega)
    rw [zWc, zAp_b (hA.2.2.2.2.1 n (by omega) (by omega)), ← zAp_app]
    rw [show (n + 1 + m) = n + (m + 1) by omega] at ih
    exact ih
theorem zAp_f (hA : zWF A 99) (P : zWp) : ∀ (m n : Nat), (n : Int) + m ≤ A 2 → zWf A m (n : Int) (zAp (zTf3 A n) P) = zAp (zTf3 A (n + m)) P
  | 0, n, _ => rfl
  | m + 1, n, h => by
    have ih := zAp_f hA P m (n + 1) (by omega)
    rw [zWf, zAp_r (hA.2.2.2.2.2 n (by omega) (by omega)).1, ← zAp_app]
    rw [show (n + 1 + m) = n + (m + 1) by omega] at ih
    exact ih
theorem zAp_1 : ∀ (l : List Int) (P : zWp), (zAp l P).1 = P.1 + (l.length : Int)
  | [], P => by show P.1 = P.1 + ((0 : Nat) : Int); omega
  | v :: l, P => by
    rw [zAp, zAp_1 l, zWr_1, List.length_cons]
    omega
theorem zAp_lo : ∀ (l : List Int) (P : zWp) (j : Int), j < P.1 → (zAp l P).2 j = P.2 j
  | [], P, j, _ => rfl
  | v :: l, P, j, h => by
    rw [zAp, zAp_lo l _ j (by rw [zWr_1]; omega)]
    exact upR_ne _ _ (by omega)
theorem zAp_2 : ∀ (l : List Int) (P : zWp) (i : Nat) (v : Int), l[i]? = some v → (zAp l P).2 (P.1 + i) = v
  | [], P, i, v, h => by simp at h
  | u :: l, P, 0, v, h => by
    have e : u = v := by simpa using h
    rw [zAp, zAp_lo l _ _ (by rw [zWr_1]; omega), ← e]
    exact upR_is _ _ (by omega)
  | u :: l, P, i + 1, v, h => by
    have h : l[i]? = some v := by simpa using h
    have h9 := zAp_2 l (zWr u P) i v h
    rw [zWr_1] at h9
    rw [zAp, show P.1 + ((i + 1 : Nat) : Int) = P.1 + 1 + i by omega]
    exact h9
theorem zDg_ln (v : Nat) : 1 ≤ (zDg v).length ∧ (zDg v).length ≤ 2 ∧ (v < 10 → (zDg v).length = 1) := by
  unfold zDg
  split
  · exact ⟨Nat.le_refl 1, Nat.le_succ 1, fun _ => rfl⟩
  · exact ⟨Nat.le_succ 1, Nat.le_refl 2, fun _ => by omega⟩
theorem zDg_in {v : Nat} (h : v < 100) : ∀ x ∈ zDg v, 0 ≤ x ∧ x < 128 := by
  intro x hx
  unfold zDg at hx
  split at hx
  · rw [List.mem_singleton] at hx
    omega
  · rcases List.mem_cons.mp hx with e | e
    · omega
    · rw [List.mem_singleton] at e
      omega
theorem zTb3_ln {k : Int} (hk : zOK A 99 k) : (zTb3 A k).length ≤ 10 + (if 0 < k then 1 else 0) := by
  unfold zOK at hk
  have h1 := zDg_ln (A (6 + 9 * k + 1)).toNat
  have h2 := zDg_ln (A (6 + 9 * k + 0)).toNat
  have h3 := (zDg_ln (A (6 + 9 * k + 4)).toNat).2.2 (by omega)
  have h4 := zDg_ln (A (6 + 9 * k + 6)).toNat
  unfold zTb3 zTl3
  split <;> split <;> simp only [List.length_append, List.length_cons, List.length_nil] <;> omega
theorem zTc3_ln (hA : zWF A 99) : ∀ n : Nat, (n : Int) ≤ A 0 → (zTc3 A n).length ≤ 11 * n ∧ (0 < n → (zTc3 A n).length ≤ 11 * n - 1)
  | 0, _ => ⟨Nat.le_refl 0, fun h => absurd h (by decide)⟩
  | n + 1, h => by
    have ih := zTc3_ln hA n (by omega)
    have h2 := zTb3_ln (hA.2.2.2.2.1 n (by omega) (by omega))
    rw [zTc3, List.length_append]
    split at h2 <;> omega
theorem zTf3_ln (hA : zWF A 99) : ∀ n : Nat, (n : Int) ≤ A 2 → (zTf3 A n).length ≤ 3 * n
  | 0, _ => Nat.le_refl 0
  | n + 1, h => by
    have ih := zTf3_ln hA n (by omega)
    have h2 := zDg_ln (A (51 + (n : Int))).toNat
    rw [zTf3, List.length_append]
    unfold zTr3
    split <;> simp only [List.length_append, List.length_cons, List.length_nil] <;> omega
theorem zIn1 {x : Int} {c : Int} (hc : 0 ≤ c ∧ c < 128) (h : x ∈ [c]) : 0 ≤ x ∧ x < 128 := by
  rw [List.mem_singleton] at h
  omega
theorem zTb3_in {k : Int} (hk : zOK A 99 k) : ∀ x ∈ zTb3 A k, 0 ≤ x ∧ x < 128 := by
  intro x hx
  unfold zOK at hk
  unfold zTb3 zTl3 at hx
  have q : ∀ {y : List Int}, x ∈ (if A (6 + 9 * k + 5) = 1 then [58] ++ zDg (A (6 + 9 * k + 4)).toNat ++ [126] ++ zDg (A (6 + 9 * k + 6)).toNat else [124] ++ zDg (A (6 + 9 * k + 4)).toNat) → 0 ≤ x ∧ x < 128 := by
    intro _ h
    split at h
    · simp only [List.mem_append, or_assoc] at h
      rcases h with h | h | h | h
      · exact zIn1 (by omega) h
      · exact zDg_in (by omega) x h
      · exact zIn1 (by omega) h
      · exact zDg_in (by omega) x h
    · simp only [List.mem_append, or_assoc] at h
      rcases h with h | h
      · exact zIn1 (by omega) h
      · exact zDg_in (by omega) x h
  rcases List.mem_append.mp hx with hx | hx
  · rcases List.mem_append.mp hx with hx | hx
    · rcases List.mem_append.mp hx with hx | hx
      · rcases List.mem_append.mp hx with hx | hx
        · split at hx
          · exact zIn1 (by omega) hx
          · simp at hx
        · exact zDg_in (by omega) x hx
      · exact zIn1 (by omega) hx
    · exact zDg_in (by omega) x hx
  · exact q (y := []) hx
theorem zTc3_in (hA : zWF A 99) : ∀ n : Nat, (n : Int) ≤ A 0 → ∀ x ∈ zTc3 A n, 0 ≤ x ∧ x < 128
  | 0, _, x, hx => by simp [zTc3] at hx
  | n + 1, h, x, hx => by
    rcases List.mem_append.mp hx with hx | hx
    · exact zTc3_in hA n (by omega) x hx
    · exact zTb3_in (hA.2.2.2.2.1 n (by omega) (by omega)) x hx
theorem zTf3_in (hA : zWF A 99) : ∀ n : Nat, (n : Int) ≤ A 2 → ∀ x ∈ zTf3 A n, 0 ≤ x ∧ x < 128
  | 0, _, x, hx => by simp [zTf3] at hx
  | n + 1, h, x, hx => by
    have h9 := hA.2.2.2.2.2 n (by omega) (by omega)
    rcases List.mem_append.mp hx with hx | hx
    · exact zTf3_in hA n (by omega) x hx
    · unfold zTr3 at hx
      rcases List.mem_append.mp hx with hx | hx
      · split at hx
        · exact zIn1 (by omega) hx
        · simp at hx
      · exact zDg_in (by omega) x hx
/-- the written line, as the class tells it -/
theorem zAp_out {L : Nat} {xs : Nat → Int32} {t : Nat} {T : zT} {F G : Int → Int} {cs : List Int} (hl : cs.length ≤ 54) (hc : ∀ v ∈ cs, 0 ≤ v ∧ v < 128) : ∀ (j : Nat) (v : Int), cs[j]? = some v → mv_cl L xs 2 k_X10_outputAt [.ref 0, .int (nI j)] (t, 142, mz (sD (sD T 140 (upR F 1 (zAp cs (0, G)).1)) 141 (zAp cs (0, G)).2)) = some (.inl (some (.int (Int32.ofInt v))), (t, 142, mz (sD (sD T 140 (upR F 1 (zAp cs (0, G)).1)) 141 (zAp cs (0, G)).2))) := by
  intro j v h
  have e1 : (sD (sD T 140 (upR F 1 (zAp cs (0, G)).1)) 141 (zAp cs (0, G)).2).1 140 1 = (cs.length : Int) := by
    rw [sD_ne _ _ (by decide), sD_eq, upR_eq, zAp_1]
    show (0 : Int) + _ = _
    omega
  have e2 : (sD (sD T 140 (upR F 1 (zAp cs (0, G)).1)) 141 (zAp cs (0, G)).2).1 141 = (zAp cs (0, G)).2 := sD_eq _ _ _
  have g : ∀ (i : Nat) (u : Int), cs[i]? = some u → (zAp cs (0, G)).2 (i : Int) = u := fun i u hu => by
    have := zAp_2 cs (0, G) i u hu
    rw [show ((0 : Int), G).1 + (i : Int) = i by show (0 : Int) + _ = _; omega] at this
    exact this
  have hj : j < cs.length := (List.getElem?_eq_some_iff.mp h).1
  have h9 := c_X10_outputAt (L := L) (xs := xs) (d := 2) (t := t) (T := sD (sD T 140 (upR F 1 (zAp cs (0, G)).1)) 141 (zAp cs (0, G)).2) (i := (j : Int)) (by omega) (by rw [e1]; omega) (by rw [e1]; omega) (fun i i0 i1 => by
    rw [e1] at i1
    obtain ⟨k, rfl⟩ : ∃ k : Nat, i = (k : Int) := ⟨i.toNat, by omega⟩
    have hk : k < cs.length := by omega
    have hu := hc _ (List.getElem_mem hk)
    rw [e2, g k _ (List.getElem?_eq_getElem hk)]
    omega) (by omega) (by omega)
  rw [e1, if_pos ⟨by omega, by omega⟩, e2, g j v h] at h9
  exact h9
end LET
