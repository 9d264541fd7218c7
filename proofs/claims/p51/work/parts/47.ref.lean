/-! THE REFERENCE: the best protection -/
section KV
variable {L : Nat} {xs : Nat → Int32}
end KV
def zbt (s k : Int) : Int := ((s.toNat / 2 ^ k.toNat % 2 : Nat) : Int)
def zp2 (n : Int) : Int := ((2 ^ n.toNat : Nat) : Int)
theorem zbt_01 (s k : Int) : zbt s k = 0 ∨ zbt s k = 1 := by unfold zbt; omega
theorem zp2_bd {n : Int} (h0 : 0 ≤ n) (h5 : n ≤ 5) : 1 ≤ zp2 n ∧ zp2 n ≤ 32 := by
  have h : ∀ k : Nat, k ≤ 5 → 1 ≤ 2 ^ k ∧ 2 ^ k ≤ 32 := by decide
  have := h n.toNat (by omega)
  unfold zp2
  omega
theorem bz_bit {s k : Int} (h0 : 0 ≤ s) (h1 : s < 32) (h2 : 0 ≤ k) (h3 : k < 5) : (Int32.ofInt s >>> (Int32.ofInt k &&& 31)) &&& Int32.ofInt 1 = Int32.ofInt (zbt s k) := by
  have h : ∀ s : Nat, s < 32 → ∀ k : Nat, k < 5 → (Int32.ofInt (s : Int) >>> (Int32.ofInt (k : Int) &&& 31)) &&& Int32.ofInt 1 = Int32.ofInt ((s / 2 ^ k % 2 : Nat) : Int) := by decide +kernel
  have h9 := h s.toNat (by omega) k.toNat (by omega)
  rw [Int.toNat_of_nonneg h0, Int.toNat_of_nonneg h2] at h9
  exact h9
theorem bz_shl {n : Int} (h0 : 0 ≤ n) (h5 : n ≤ 5) : Int32.ofInt 1 <<< (Int32.ofInt n &&& 31) = Int32.ofInt (zp2 n) := by
  have h : ∀ n : Nat, n ≤ 5 → Int32.ofInt 1 <<< (Int32.ofInt (n : Int) &&& 31) = Int32.ofInt ((2 ^ n : Nat) : Int) := by decide +kernel
  have h9 := h n.toNat (by omega)
  rw [Int.toNat_of_nonneg h0] at h9
  exact h9
theorem zSf_bd {f : Int → Int} {M : Int} : ∀ (n : Nat) (k s : Int), (∀ j, k ≤ j → j < k + n → 0 ≤ f j ∧ f j ≤ M) → s ≤ zSf f n k s ∧ zSf f n k s ≤ s + M * n
  | 0, _, s, _ => by rw [zSf]; omega
  | n + 1, k, s, h => by
    rw [zSf]
    have h1 := h k (by omega) (by omega)
    have ih := zSf_bd (f := f) (M := M) n (k + 1) (s + f k) (fun j h2 h3 => h j (by omega) (by omega))
    have e : M * ((n + 1 : Nat) : Int) = M * n + M := by rw [show ((n + 1 : Nat) : Int) = (n : Int) + 1 by omega, Int.mul_add, Int.mul_one]
    omega
theorem zSf_congr {f g : Int → Int} : ∀ (n : Nat) (k s : Int), (∀ j, k ≤ j → j < k + n → f j = g j) → zSf f n k s = zSf g n k s
  | 0, _, _, _ => rfl
  | n + 1, k, s, h => by
    rw [zSf, zSf, h k (by omega) (by omega)]
    exact zSf_congr n (k + 1) _ (fun j h1 h2 => h j (by omega) (by omega))
/-- what a set costs, and what it is worth -/
def zCst (v : Int → Int) (s : Int) (N : Nat) : Int := zSf (fun k => if zbt s k = 1 then v k else 0) N 0 0
def zWth (v w : Int → Int) (s : Int) (N : Nat) : Int := zSf (fun k => if zbt s k = 1 ∧ 0 < v k then w k else 0) N 0 0
/-- the best of the sets from s on -/
def zMx (v w : Int → Int) (g : Int) (N : Nat) : Nat → Int → Int → Int
  | 0, _, m => m
  | n + 1, s, m => zMx v w g N n (s + 1) (if zCst v s N ≤ g ∧ m < zWth v w s N then zWth v w s N else m)
section RF7
variable {L : Nat} {xs : Nat → Int32} {d t : Nat} {T : zT} {A A1 B C F : Int → Int}
end RF7
