/-! OUTPUT, both sides -/
section KV
variable {L : Nat} {xs : Nat → Int32}
end KV
def o1 : Nat := 1
def o9 : Nat := 9
def o17 : Nat := 17
def o25 : Nat := 25
theorem Ch.o1 : Ch o1 := Ch.c1
theorem Ch.o9 : Ch o9 := Ch.c9
theorem Ch.o17 : Ch o17 := Ch.c17
theorem Ch.o25 : Ch o25 := Ch.c25
abbrev zWp : Type := Int × (Int → Int)
def zWr (v : Int) (P : zWp) : zWp := (P.1 + 1, upR P.2 P.1 v)
def zWn (v : Int) (P : zWp) : zWp := if 9 < v then zWr (48 + v % 10) (zWr (48 + v / 10) P) else zWr (48 + v % 10) P
def zWx (v : Int) : Int := if v = 1 then 58 else 124
def zWbA (A : Int → Int) (k : Int) (P : zWp) : zWp := zWn (A (6 + 9 * k + 4)) (zWr (zWx (A (6 + 9 * k + 5))) (zWn (A (6 + 9 * k + 0)) (zWr 47 (zWn (A (6 + 9 * k + 1)) P))))
def zWb (A : Int → Int) (k : Int) (P : zWp) : zWp := if A (6 + 9 * k + 5) = 1 then zWn (A (6 + 9 * k + 6)) (zWr 126 (zWbA A k P)) else zWbA A k P
def zWc (A : Int → Int) : Nat → Int → zWp → zWp
  | 0, _, P => P
  | n + 1, k, P => zWc A n (k + 1) (zWb A k (if 0 < k then zWr 32 P else P))
def zWf (A : Int → Int) : Nat → Int → zWp → zWp
  | 0, _, P => P
  | n + 1, k, P => zWf A n (k + 1) (zWn (A (51 + k)) (if 0 < k then zWr 44 P else P))
theorem zWr_1 (v : Int) (P : zWp) : (zWr v P).1 = P.1 + 1 := rfl
theorem zWn_1 (v : Int) (P : zWp) : P.1 + 1 ≤ (zWn v P).1 ∧ (zWn v P).1 ≤ P.1 + 2 := by
  unfold zWn
  split
  · rw [zWr_1, zWr_1]; omega
  · rw [zWr_1]; omega
theorem zWn_d {v : Int} (h : v ≤ 9) (P : zWp) : (zWn v P).1 = P.1 + 1 := by
  unfold zWn
  rw [if_neg (by omega), zWr_1]
theorem zWbA_1 {A : Int → Int} {k : Int} (h : A (6 + 9 * k + 4) ≤ 5) (P : zWp) : P.1 ≤ (zWbA A k P).1 ∧ (zWbA A k P).1 ≤ P.1 + 7 := by
  unfold zWbA
  rw [zWn_d (by omega), zWr_1]
  have h1 := zWn_1 (A (6 + 9 * k + 0)) (zWr 47 (zWn (A (6 + 9 * k + 1)) P))
  rw [zWr_1] at h1
  have h2 := zWn_1 (A (6 + 9 * k + 1)) P
  omega
theorem zWb_1 {A : Int → Int} {k : Int} (h : A (6 + 9 * k + 4) ≤ 5) (P : zWp) : P.1 ≤ (zWb A k P).1 ∧ (zWb A k P).1 ≤ P.1 + 10 := by
  have h1 := zWbA_1 h P
  unfold zWb
  split
  · have h2 := zWn_1 (A (6 + 9 * k + 6)) (zWr 126 (zWbA A k P))
    rw [zWr_1] at h2
    omega
  · omega
section OUT
variable {L : Nat} {xs : Nat → Int32} {d t : Nat} {T : zT} {A B F : Int → Int} {P : zWp}
end OUT
