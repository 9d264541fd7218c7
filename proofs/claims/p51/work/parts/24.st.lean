/-! THE STATE AS INTS: every int and long of the objects, by owner and place; chains stand under their own number as rows of 63 in the reference's order -/
abbrev zT : Type := (Nat → Int → Int) × Nat × UInt64 × mv_H
def zp (k : Nat) : Nat := if k = 1 then 2 else if k = 2 then 3 else if k = 3 then 1 else k
def zpb (k : Nat) : Nat := if k = 2 then 1 else if k = 3 then 2 else if k = 1 then 3 else k
def zc (o : Nat) : Bool := if o < 33 then decide (1 ≤ o) else if o < 99 then decide (35 ≤ o) else if o < 133 then decide (101 ≤ o) else false
def zq (o : Nat) : Nat := if o < 33 then (o - 1) % 8 else if o < 99 then (o - 35) % 8 else (o - 101) % 8
def zo (o : Nat) : Nat := if zc o = true then o - zq o else o
def zi (o k : Nat) : Nat := if zc o = true then (if zq o = 0 then (if k = 1 then 0 else if k = 4 then 1 else if k = 3 then 2 else if k = 7 then 3 else if k = 5 then 4 else 5) else if zq o = 2 then 51 + k else 6 + 9 * (zq o - 3) + zp k) else k
/-- the sort of a slot: 0 int, 1 long, 2 the command, 3 the double, 4 none, 10 + r a reference that never changes -/
def zk (o k : Nat) : Nat := if o < 142 ∧ k < (mv_kd o).2 then
    (if zc o = true then (if zq o = 0 then (if k = 0 then 10 + (o + 1) else if k = 2 then 10 + (o + 2) else if k < 5 then 0 else 1) else if zq o = 1 then 10 + (o + 2 + k) else 0)
    else if o = 0 then (if k = 0 then 11 else if k = 1 then 19 else if k = 2 then 27 else if k = 3 then 35 else if k = 4 then 43 else if k = 5 then 109 else if k = 6 then 143 else if k = 7 then 147 else if k = 8 then 150 else 0)
    else if o = 33 then (if k = 0 then 44 else 0) else if o = 34 then 10 + (35 + 8 * k) else if o = 99 then 110 else if o = 100 then 10 + (101 + 8 * k)
    else if o = 133 then (if k = 0 then 144 else if k = 1 then 145 else if k = 2 then 0 else 146)
    else if o = 137 then (if k = 0 then 148 else if k = 3 then 2 else if k = 4 then 149 else 0)
    else if o = 140 then (if k = 0 then 151 else 0)
    else if o = 142 then (if k = 1 then 153 else if k = 6 then 154 else if k = 12 then 155 else if k = 14 then 156 else 0)
    else if o = 147 then 1 else if o = 148 then 3 else 0) else 4
/-- what is held at a place of an owner -/
def zv (w j : Nat) : Nat × Nat := if zc w = true then (if j = 0 then (w, 1) else if j = 1 then (w, 4) else if j = 2 then (w, 3) else if j = 3 then (w, 7) else if j = 4 then (w, 5) else if j = 5 then (w, 6) else if j < 51 then (w + 3 + (j - 6) / 9, zpb ((j - 6) % 9)) else (w + 2, j - 51)) else (w, j)
def mz (T : zT) : mv_H := fun o k => if zk o k = 0 then .int (Int32.ofInt (T.1 (zo o) (zi o k))) else if zk o k = 1 then .long (Int64.ofInt (T.1 (zo o) (zi o k))) else if zk o k = 2 then .ref (1000 + T.2.1) else if zk o k = 3 then .double T.2.2.1 else if zk o k = 4 then T.2.2.2 o k else .ref (zk o k - 10)
def upR (A : Int → Int) (k v : Int) : Int → Int := fun j => if j = k then v else A j
def sD (T : zT) (o : Nat) (A : Int → Int) : zT := (fun p => if p = o then A else T.1 p, T.2)
theorem upR_eq (A : Int → Int) (k v : Int) : upR A k v k = v := by simp [upR]
theorem upR_ne (A : Int → Int) {k j : Int} (v : Int) (h : ¬ j = k) : upR A k v j = A j := by simp [upR, h]
theorem upR_is (A : Int → Int) {k j : Int} (v : Int) (h : j = k) : upR A k v j = v := by simp [upR, h]
theorem upR_up (A : Int → Int) (k v u : Int) : upR (upR A k v) k u = upR A k u := by funext j; unfold upR; split <;> rfl
theorem sD_eq (T : zT) (o : Nat) (A : Int → Int) : (sD T o A).1 o = A := by simp [sD]
theorem sD_ne (T : zT) {o p : Nat} (A : Int → Int) (h : ¬ p = o) : (sD T o A).1 p = T.1 p := by simp [sD, h]
theorem sD_2 (T : zT) (o : Nat) (A : Int → Int) : (sD T o A).2 = T.2 := rfl
theorem sD_sD (T : zT) (o : Nat) (A B : Int → Int) : sD (sD T o A) o B = sD T o B := by
  unfold sD
  congr 1
  funext p
  simp only
  split <;> rfl
theorem sD_id (T : zT) (o : Nat) : sD T o (T.1 o) = T := by
  unfold sD
  obtain ⟨D, r⟩ := T
  congr 1
  funext p
  simp only
  split
  · next h => rw [h]
  · rfl
theorem sD_comm (T : zT) {o p : Nat} (A B : Int → Int) (h : ¬ o = p) : sD (sD T o A) p B = sD (sD T p B) o A := by
  unfold sD
  congr 1
  funext q
  simp only
  by_cases e : q = p
  · subst e; simp [Ne.symm h, fun x => h (Eq.symm x)]
  · simp [e]
theorem zv_all : ∀ o, o < 142 → ∀ k, k < (mv_kd o).2 → zk o k < 2 → zv (zo o) (zi o k) = (o, k) := by decide +kernel
theorem zk_in {o k : Nat} (h : ¬ zk o k = 4) : o < 142 ∧ k < (mv_kd o).2 := by
  by_cases e : o < 142 ∧ k < (mv_kd o).2
  · exact e
  · exact absurd (by unfold zk; rw [if_neg e]) h
theorem zv_inj {o k p j : Nat} (h1 : zk o k < 2) (h2 : zk p j < 2) (e1 : zo p = zo o) (e2 : zi p j = zi o k) : p = o ∧ j = k := by
  have a := zk_in (o := o) (k := k) (by omega)
  have b := zk_in (o := p) (k := j) (by omega)
  have a2 := zv_all o a.1 k a.2 h1
  have b2 := zv_all p b.1 j b.2 h2
  rw [e1, e2, a2] at b2
  exact ⟨(congrArg Prod.fst b2).symm, (congrArg Prod.snd b2).symm⟩
theorem mz_up {T : zT} {o k : Nat} {v : Int} {x : Value} (h : zk o k < 2) (hx : x = if zk o k = 0 then .int (Int32.ofInt v) else .long (Int64.ofInt v)) : mv_up (mz T) o k x = mz (sD T (zo o) (upR (T.1 (zo o)) (zi o k) v)) := by
  subst hx
  funext p j
  by_cases e : p = o ∧ j = k
  · obtain ⟨rfl, rfl⟩ := e
    have h9 : zk p j = 0 ∨ zk p j = 1 := by omega
    rcases h9 with h9 | h9 <;> simp [mv_up, mz, h9, sD, upR]
  · simp only [mv_up, if_neg e]
    unfold mz
    have key : zk p j < 2 → (sD T (zo o) (upR (T.1 (zo o)) (zi o k) v)).1 (zo p) (zi p j) = T.1 (zo p) (zi p j) := by
      intro h2
      by_cases e1 : zo p = zo o
      · have e2 : ¬ ((zi p j : Nat) : Int) = ((zi o k : Nat) : Int) := fun q => e (zv_inj h h2 e1 (Int.ofNat.inj q))
        rw [e1, sD_eq, upR_ne _ _ e2]
      · rw [sD_ne _ _ e1]
    by_cases h2 : zk p j < 2
    · rw [key h2]; rfl
    · have a : ¬ zk p j = 0 := by omega
      have b : ¬ zk p j = 1 := by omega
      simp only [if_neg a, if_neg b]; rfl
theorem mz_i {T : zT} {o k : Nat} (h : zk o k = 0) : mz T o k = .int (Int32.ofInt (T.1 (zo o) (zi o k))) := by simp [mz, h]
theorem mz_l {T : zT} {o k : Nat} (h : zk o k = 1) : mz T o k = .long (Int64.ofInt (T.1 (zo o) (zi o k))) := by simp [mz, h]
theorem mz_r {T : zT} {o k r : Nat} (h : zk o k = 10 + r) : mz T o k = .ref r := by
  have h0 : ¬ 10 + r = 0 := by omega
  have h1 : ¬ 10 + r = 1 := by omega
  have h2 : ¬ 10 + r = 2 := by omega
  have h3 : ¬ 10 + r = 3 := by omega
  have h4 : ¬ 10 + r = 4 := by omega
  simp only [mz, h, if_neg h0, if_neg h1, if_neg h2, if_neg h3, if_neg h4]
  rw [show 10 + r - 10 = r by omega]
theorem mz_ui {T : zT} {o k : Nat} {v : Int} (h : zk o k = 0) : mv_up (mz T) o k (.int (Int32.ofInt v)) = mz (sD T (zo o) (upR (T.1 (zo o)) (zi o k) v)) := mz_up (by omega) (by rw [if_pos h])
theorem mz_ul {T : zT} {o k : Nat} {v : Int} (h : zk o k = 1) : mv_up (mz T) o k (.long (Int64.ofInt v)) = mz (sD T (zo o) (upR (T.1 (zo o)) (zi o k) v)) := mz_up (by omega) (by rw [if_neg (by omega)])
theorem zk_cmd : ∀ o, o < 142 → ∀ k, k < (mv_kd o).2 → zk o k = 2 → o = 137 ∧ k = 3 := by decide +kernel
theorem zk_dbl : ∀ o, o < 142 → ∀ k, k < (mv_kd o).2 → zk o k = 3 → o = 148 ∧ k = 0 := by decide +kernel
theorem mz_uc {T : zT} {v : Nat} : mv_up (mz T) 137 3 (.ref (1000 + v)) = mz (T.1, v, T.2.2) := by
  funext p j
  by_cases e : p = 137 ∧ j = 3
  · obtain ⟨rfl, rfl⟩ := e
    have h : zk 137 3 = 2 := by decide +kernel
    simp [mv_up, mz, h]
  · simp only [mv_up, if_neg e]
    have h : ¬ zk p j = 2 := fun h => e (zk_cmd p (zk_in (by rw [h]; decide)).1 j (zk_in (by rw [h]; decide)).2 h)
    simp [mz, h]
-- chains by their numbers
def Ch (o : Nat) : Prop := o < 142 ∧ mv_kd o = (1, 8)
theorem ch_0 : ∀ o, o < 142 → mv_kd o = (1, 8) → o + 7 < 142 ∧ zo o = o ∧ zo (o + 2) = o ∧ mv_kd (o + 1) = (24, 5) ∧ mv_kd (o + 2) = (20, 12) ∧ ¬ o = 0 := by decide +kernel
theorem ch_1 : ∀ o, o < 142 → mv_kd o = (1, 8) → zk o 0 = 10 + (o + 1) ∧ zk o 1 = 0 ∧ zk o 2 = 10 + (o + 2) ∧ zk o 3 = 0 ∧ zk o 4 = 0 ∧ zk o 5 = 1 ∧ zk o 6 = 1 ∧ zk o 7 = 1 := by decide +kernel
theorem ch_2 : ∀ o, o < 142 → mv_kd o = (1, 8) → zi o 1 = 0 ∧ zi o 3 = 2 ∧ zi o 4 = 1 ∧ zi o 5 = 4 ∧ zi o 6 = 5 ∧ zi o 7 = 3 := by decide +kernel
theorem ch_b : ∀ o, o < 142 → mv_kd o = (1, 8) → ∀ i, i < 5 → zk (o + 1) i = 10 + (o + 3 + i) ∧ mv_kd (o + 3 + i) = (0, 9) ∧ zo (o + 3 + i) = o := by decide +kernel
theorem ch_c : ∀ o, o < 142 → mv_kd o = (1, 8) → ∀ i, i < 5 → ∀ k, k < 9 → zk (o + 3 + i) k = 0 ∧ zi (o + 3 + i) k = 6 + 9 * i + zp k := by decide +kernel
theorem ch_f : ∀ o, o < 142 → mv_kd o = (1, 8) → ∀ i, i < 12 → zk (o + 2) i = 0 ∧ zi (o + 2) i = 51 + i := by decide +kernel
theorem Ch.lt {o : Nat} (h : Ch o) : o + 7 < 142 := (ch_0 o h.1 h.2).1
theorem Ch.is {o : Nat} (h : Ch o) : mv_is 142 o 1 = true := by simp [mv_is, h.1, h.2]
theorem Ch.is1 {o : Nat} (h : Ch o) : mv_is 142 (o + 1) 24 = true := by have := h.lt; simp [mv_is, (ch_0 o h.1 h.2).2.2.2.1]; omega
theorem Ch.is2 {o : Nat} (h : Ch o) : mv_is 142 (o + 2) 20 = true := by have := h.lt; simp [mv_is, (ch_0 o h.1 h.2).2.2.2.2.1]; omega
theorem Ch.isb {o i : Nat} (h : Ch o) (hi : i < 5) : mv_is 142 (o + 3 + i) 0 = true := by have := h.lt; simp [mv_is, (ch_b o h.1 h.2 i hi).2.1]; omega
theorem Ch.hs {j : Nat} (h : j < 8) : Ch (35 + 8 * j) := by
  refine ⟨by omega, ?_⟩
  have : ∀ j, j < 8 → mv_kd (35 + 8 * j) = (1, 8) := by decide +kernel
  exact this j h
theorem Ch.ts {j : Nat} (h : j < 4) : Ch (101 + 8 * j) := by
  refine ⟨by omega, ?_⟩
  have : ∀ j, j < 4 → mv_kd (101 + 8 * j) = (1, 8) := by decide +kernel
  exact this j h
theorem Ch.c1 : Ch 1 := by unfold Ch; decide +kernel
theorem Ch.c9 : Ch 9 := by unfold Ch; decide +kernel
theorem Ch.c17 : Ch 17 := by unfold Ch; decide +kernel
theorem Ch.c25 : Ch 25 := by unfold Ch; decide +kernel
-- numbers
theorem oz_add (a b : Int) : Int32.ofInt a + Int32.ofInt b = Int32.ofInt (a + b) := (Int32.ofInt_add a b).symm
theorem oz_sub (a b : Int) : Int32.ofInt a - Int32.ofInt b = Int32.ofInt (a - b) := (Int32.ofInt_sub a b).symm
theorem oz_mul (a b : Int) : Int32.ofInt a * Int32.ofInt b = Int32.ofInt (a * b) := (Int32.ofInt_mul a b).symm
theorem oz_neg (a : Int) : -Int32.ofInt a = Int32.ofInt (-a) := (Int32.ofInt_neg a).symm
theorem ol_add (a b : Int) : Int64.ofInt a + Int64.ofInt b = Int64.ofInt (a + b) := (Int64.ofInt_add a b).symm
theorem ol_sub (a b : Int) : Int64.ofInt a - Int64.ofInt b = Int64.ofInt (a - b) := (Int64.ofInt_sub a b).symm
theorem oz_ti {a : Int} (h1 : -2147483648 ≤ a) (h2 : a < 2147483648) : (Int32.ofInt a).toInt = a := by
  exact Int32.toInt_ofInt_of_le (by omega) (by omega)
theorem oz_il {a : Int} (h1 : -2147483648 ≤ a) (h2 : a < 2147483648) : (Int32.ofInt a).toInt64 = Int64.ofInt a := by
  apply Int64.toInt_inj.mp
  rw [Int32.toInt_toInt64, oz_ti h1 h2, Int64.toInt_ofInt_of_le (by omega) (by omega)]
theorem oz_li (a : Int) : (Int64.ofInt a).toInt32 = Int32.ofInt a := by
  apply Int32.toInt_inj.mp
  rw [Int64.toInt_toInt32, Int64.toInt_ofInt, Int32.toInt_ofInt]
  exact Int.bmod_bmod_of_dvd (by decide)
theorem oz_of (x : Int32) : Int32.ofInt x.toInt = x := Int32.ofInt_toInt x
theorem oz_nc {a : Int} (h1 : 0 ≤ a) (h2 : a < 2147483648) : (Int32.ofInt a).toNatClampNeg = a.toNat := by
  show (Int32.ofInt a).toInt.toNat = a.toNat
  rw [oz_ti (by omega) h2]
theorem oz_ix {a : Int} {n : Nat} (h1 : 0 ≤ a) (h2 : a < n) (h3 : n < 2147483648) : mv_ix (Int32.ofInt a) n = true := by
  unfold mv_ix
  have e : ¬ (Int32.ofInt a < 0 ∨ n ≤ (Int32.ofInt a).toNatClampNeg) := by
    rw [oz_nc h1 (by omega), Int32.lt_iff_toInt_lt, oz_ti (by omega) (by omega)]
    show ¬ (a < 0 ∨ n ≤ a.toNat)
    omega
  exact decide_eq_true e
theorem mf_zz {v : Int} (h : v = 0 ∨ v = 1) : mv_fit .boolean (.int (Int32.ofInt v)) = true := by rcases h with rfl | rfl; exact mf_0; exact mf_1

theorem cz_eq {a b : Int} (h1 : -2147483648 ≤ a) (h2 : a < 2147483648) (h3 : -2147483648 ≤ b) (h4 : b < 2147483648) : (mv_cmp .eq (Int32.ofInt a) (Int32.ofInt b) = true) = (a = b) := by
  simp only [mv_cmp, decide_eq_true_eq, Int32.lt_iff_toInt_lt, Int32.le_iff_toInt_le, ← Int32.toInt_inj, oz_ti h1 h2, oz_ti h3 h4]
theorem c0_eq {a : Int} (h1 : -2147483648 ≤ a) (h2 : a < 2147483648) : (mv_cmp .eq (Int32.ofInt a) 0 = true) = (a = 0) := cz_eq h1 h2 (b := 0) (by decide) (by decide)
theorem cz_ne {a b : Int} (h1 : -2147483648 ≤ a) (h2 : a < 2147483648) (h3 : -2147483648 ≤ b) (h4 : b < 2147483648) : (mv_cmp .ne (Int32.ofInt a) (Int32.ofInt b) = true) = (¬ a = b) := by
  simp only [mv_cmp, decide_eq_true_eq, Int32.lt_iff_toInt_lt, Int32.le_iff_toInt_le, ← Int32.toInt_inj, oz_ti h1 h2, oz_ti h3 h4]
theorem c0_ne {a : Int} (h1 : -2147483648 ≤ a) (h2 : a < 2147483648) : (mv_cmp .ne (Int32.ofInt a) 0 = true) = (¬ a = 0) := cz_ne h1 h2 (b := 0) (by decide) (by decide)
theorem cz_lt {a b : Int} (h1 : -2147483648 ≤ a) (h2 : a < 2147483648) (h3 : -2147483648 ≤ b) (h4 : b < 2147483648) : (mv_cmp .lt (Int32.ofInt a) (Int32.ofInt b) = true) = (a < b) := by
  simp only [mv_cmp, decide_eq_true_eq, Int32.lt_iff_toInt_lt, Int32.le_iff_toInt_le, ← Int32.toInt_inj, oz_ti h1 h2, oz_ti h3 h4]
theorem c0_lt {a : Int} (h1 : -2147483648 ≤ a) (h2 : a < 2147483648) : (mv_cmp .lt (Int32.ofInt a) 0 = true) = (a < 0) := cz_lt h1 h2 (b := 0) (by decide) (by decide)
theorem cz_ge {a b : Int} (h1 : -2147483648 ≤ a) (h2 : a < 2147483648) (h3 : -2147483648 ≤ b) (h4 : b < 2147483648) : (mv_cmp .ge (Int32.ofInt a) (Int32.ofInt b) = true) = (b ≤ a) := by
  simp only [mv_cmp, decide_eq_true_eq, Int32.lt_iff_toInt_lt, Int32.le_iff_toInt_le, ← Int32.toInt_inj, oz_ti h1 h2, oz_ti h3 h4]
theorem c0_ge {a : Int} (h1 : -2147483648 ≤ a) (h2 : a < 2147483648) : (mv_cmp .ge (Int32.ofInt a) 0 = true) = (0 ≤ a) := cz_ge h1 h2 (b := 0) (by decide) (by decide)
theorem cz_gt {a b : Int} (h1 : -2147483648 ≤ a) (h2 : a < 2147483648) (h3 : -2147483648 ≤ b) (h4 : b < 2147483648) : (mv_cmp .gt (Int32.ofInt a) (Int32.ofInt b) = true) = (b < a) := by
  simp only [mv_cmp, decide_eq_true_eq, Int32.lt_iff_toInt_lt, Int32.le_iff_toInt_le, ← Int32.toInt_inj, oz_ti h1 h2, oz_ti h3 h4]
theorem c0_gt {a : Int} (h1 : -2147483648 ≤ a) (h2 : a < 2147483648) : (mv_cmp .gt (Int32.ofInt a) 0 = true) = (0 < a) := cz_gt h1 h2 (b := 0) (by decide) (by decide)
theorem cz_le {a b : Int} (h1 : -2147483648 ≤ a) (h2 : a < 2147483648) (h3 : -2147483648 ≤ b) (h4 : b < 2147483648) : (mv_cmp .le (Int32.ofInt a) (Int32.ofInt b) = true) = (a ≤ b) := by
  simp only [mv_cmp, decide_eq_true_eq, Int32.lt_iff_toInt_lt, Int32.le_iff_toInt_le, ← Int32.toInt_inj, oz_ti h1 h2, oz_ti h3 h4]
theorem c0_le {a : Int} (h1 : -2147483648 ≤ a) (h2 : a < 2147483648) : (mv_cmp .le (Int32.ofInt a) 0 = true) = (a ≤ 0) := cz_le h1 h2 (b := 0) (by decide) (by decide)
theorem oz_d4 {a : Int} (h1 : -2147483648 ≤ a) (h2 : a < 2147483648) {b : Int} (h3 : 0 < b) (h4 : b < 2147483648) : Int32.ofInt a / Int32.ofInt b = Int32.ofInt (a.tdiv b) := by
  apply Int32.toInt_inj.mp
  have hb : (Int32.ofInt b).toInt = b := oz_ti (by omega) h4
  have ha : (Int32.ofInt a).toInt = a := oz_ti h1 h2
  rw [Int32.toInt_div, ha, hb, Int32.toInt_ofInt]
theorem oz_b0 {b : Int} (h3 : 0 < b) (h4 : b < 2147483648) : ¬ Int32.ofInt b = 0 := by
  intro e
  have h := congrArg Int32.toInt e
  rw [oz_ti (by omega) h4] at h
  have : (0 : Int32).toInt = 0 := rfl
  omega
section ZF
variable {L : Nat} {xs : Nat → Int32} {C : Nat → List Value → mv_S → Option mv_R} {M pc nx a b w q t c : Nat} {ls : mv_V} {st : List Value} {σ : mv_S} {res : mv_R} {T : zT}
theorem gg_1_0 (hc : Ch c) : mv_stp L xs (.getfield q, nx, 1, 0, w) ls (.ref c :: st) (t, 142, mz T) = some (.inl (nx, ls, .ref (c + 1) :: st, (t, 142, mz T))) := by
  rw [ea_get (by decide) hc.is, mz_r (ch_1 c hc.1 hc.2).1]
theorem gg_1_1 (hc : Ch c) : mv_stp L xs (.getfield q, nx, 1, 1, w) ls (.ref c :: st) (t, 142, mz T) = some (.inl (nx, ls, .int (Int32.ofInt (T.1 c 0)) :: st, (t, 142, mz T))) := by
  rw [ea_get (by decide) hc.is, mz_i (ch_1 c hc.1 hc.2).2.1, (ch_0 c hc.1 hc.2).2.1, (ch_2 c hc.1 hc.2).1] <;> rfl
theorem pp_1_1 (hc : Ch c) {v : Int} : mv_stp L xs (.putfield q, nx, 1, 1, w) ls (.int (Int32.ofInt v) :: .ref c :: st) (t, 142, mz T) = some (.inl (nx, ls, st, (t, 142, mz (sD T c (upR (T.1 c) 0 v))))) := by
  rw [ea_put hc.is (by rw [ft_1_1]; rfl), mz_ui (ch_1 c hc.1 hc.2).2.1, (ch_0 c hc.1 hc.2).2.1, (ch_2 c hc.1 hc.2).1] <;> rfl
theorem gg_1_2 (hc : Ch c) : mv_stp L xs (.getfield q, nx, 1, 2, w) ls (.ref c :: st) (t, 142, mz T) = some (.inl (nx, ls, .ref (c + 2) :: st, (t, 142, mz T))) := by
  rw [ea_get (by decide) hc.is, mz_r (ch_1 c hc.1 hc.2).2.2.1]
theorem gg_1_3 (hc : Ch c) : mv_stp L xs (.getfield q, nx, 1, 3, w) ls (.ref c :: st) (t, 142, mz T) = some (.inl (nx, ls, .int (Int32.ofInt (T.1 c 2)) :: st, (t, 142, mz T))) := by
  rw [ea_get (by decide) hc.is, mz_i (ch_1 c hc.1 hc.2).2.2.2.1, (ch_0 c hc.1 hc.2).2.1, (ch_2 c hc.1 hc.2).2.1] <;> rfl
theorem pp_1_3 (hc : Ch c) {v : Int} : mv_stp L xs (.putfield q, nx, 1, 3, w) ls (.int (Int32.ofInt v) :: .ref c :: st) (t, 142, mz T) = some (.inl (nx, ls, st, (t, 142, mz (sD T c (upR (T.1 c) 2 v))))) := by
  rw [ea_put hc.is (by rw [ft_1_3]; rfl), mz_ui (ch_1 c hc.1 hc.2).2.2.2.1, (ch_0 c hc.1 hc.2).2.1, (ch_2 c hc.1 hc.2).2.1] <;> rfl
theorem gg_1_4 (hc : Ch c) : mv_stp L xs (.getfield q, nx, 1, 4, w) ls (.ref c :: st) (t, 142, mz T) = some (.inl (nx, ls, .int (Int32.ofInt (T.1 c 1)) :: st, (t, 142, mz T))) := by
  rw [ea_get (by decide) hc.is, mz_i (ch_1 c hc.1 hc.2).2.2.2.2.1, (ch_0 c hc.1 hc.2).2.1, (ch_2 c hc.1 hc.2).2.2.1] <;> rfl
theorem pp_1_4 (hc : Ch c) {v : Int} : mv_stp L xs (.putfield q, nx, 1, 4, w) ls (.int (Int32.ofInt v) :: .ref c :: st) (t, 142, mz T) = some (.inl (nx, ls, st, (t, 142, mz (sD T c (upR (T.1 c) 1 v))))) := by
  rw [ea_put hc.is (by rw [ft_1_4]; rfl), mz_ui (ch_1 c hc.1 hc.2).2.2.2.2.1, (ch_0 c hc.1 hc.2).2.1, (ch_2 c hc.1 hc.2).2.2.1] <;> rfl
theorem gg_1_5 (hc : Ch c) : mv_stp L xs (.getfield q, nx, 1, 5, w) ls (.ref c :: st) (t, 142, mz T) = some (.inl (nx, ls, .long (Int64.ofInt (T.1 c 4)) :: st, (t, 142, mz T))) := by
  rw [ea_get (by decide) hc.is, mz_l (ch_1 c hc.1 hc.2).2.2.2.2.2.1, (ch_0 c hc.1 hc.2).2.1, (ch_2 c hc.1 hc.2).2.2.2.1] <;> rfl
theorem pp_1_5 (hc : Ch c) {v : Int} : mv_stp L xs (.putfield q, nx, 1, 5, w) ls (.long (Int64.ofInt v) :: .ref c :: st) (t, 142, mz T) = some (.inl (nx, ls, st, (t, 142, mz (sD T c (upR (T.1 c) 4 v))))) := by
  rw [ea_put hc.is (by rw [ft_1_5]; rfl), mz_ul (ch_1 c hc.1 hc.2).2.2.2.2.2.1, (ch_0 c hc.1 hc.2).2.1, (ch_2 c hc.1 hc.2).2.2.2.1] <;> rfl
theorem gg_1_6 (hc : Ch c) : mv_stp L xs (.getfield q, nx, 1, 6, w) ls (.ref c :: st) (t, 142, mz T) = some (.inl (nx, ls, .long (Int64.ofInt (T.1 c 5)) :: st, (t, 142, mz T))) := by
  rw [ea_get (by decide) hc.is, mz_l (ch_1 c hc.1 hc.2).2.2.2.2.2.2.1, (ch_0 c hc.1 hc.2).2.1, (ch_2 c hc.1 hc.2).2.2.2.2.1] <;> rfl
theorem pp_1_6 (hc : Ch c) {v : Int} : mv_stp L xs (.putfield q, nx, 1, 6, w) ls (.long (Int64.ofInt v) :: .ref c :: st) (t, 142, mz T) = some (.inl (nx, ls, st, (t, 142, mz (sD T c (upR (T.1 c) 5 v))))) := by
  rw [ea_put hc.is (by rw [ft_1_6]; rfl), mz_ul (ch_1 c hc.1 hc.2).2.2.2.2.2.2.1, (ch_0 c hc.1 hc.2).2.1, (ch_2 c hc.1 hc.2).2.2.2.2.1] <;> rfl
theorem gg_1_7 (hc : Ch c) : mv_stp L xs (.getfield q, nx, 1, 7, w) ls (.ref c :: st) (t, 142, mz T) = some (.inl (nx, ls, .long (Int64.ofInt (T.1 c 3)) :: st, (t, 142, mz T))) := by
  rw [ea_get (by decide) hc.is, mz_l (ch_1 c hc.1 hc.2).2.2.2.2.2.2.2, (ch_0 c hc.1 hc.2).2.1, (ch_2 c hc.1 hc.2).2.2.2.2.2] <;> rfl
theorem pp_1_7 (hc : Ch c) {v : Int} : mv_stp L xs (.putfield q, nx, 1, 7, w) ls (.long (Int64.ofInt v) :: .ref c :: st) (t, 142, mz T) = some (.inl (nx, ls, st, (t, 142, mz (sD T c (upR (T.1 c) 3 v))))) := by
  rw [ea_put hc.is (by rw [ft_1_7]; rfl), mz_ul (ch_1 c hc.1 hc.2).2.2.2.2.2.2.2, (ch_0 c hc.1 hc.2).2.1, (ch_2 c hc.1 hc.2).2.2.2.2.2] <;> rfl
theorem gg_0_0 (hc : Ch c) {i : Int} (h0 : 0 ≤ i) (h5 : i < 5) : mv_stp L xs (.getfield q, nx, 0, 0, w) ls (.ref (c + 3 + i.toNat) :: st) (t, 142, mz T) = some (.inl (nx, ls, .int (Int32.ofInt (T.1 c (6 + 9 * i + 0))) :: st, (t, 142, mz T))) := by
  rw [ea_get (by decide) (hc.isb (i := i.toNat) (by omega)), mz_i (ch_c c hc.1 hc.2 i.toNat (by omega) 0 (by decide)).1, (ch_b c hc.1 hc.2 i.toNat (by omega)).2.2, (ch_c c hc.1 hc.2 i.toNat (by omega) 0 (by decide)).2, show ((6 + 9 * i.toNat + zp 0 : Nat) : Int) = 6 + 9 * i + 0 by rw [show zp 0 = 0 from rfl]; omega]
theorem pp_0_0 (hc : Ch c) {i : Int} (h0 : 0 ≤ i) (h5 : i < 5) {v : Int} : mv_stp L xs (.putfield q, nx, 0, 0, w) ls (.int (Int32.ofInt v) :: .ref (c + 3 + i.toNat) :: st) (t, 142, mz T) = some (.inl (nx, ls, st, (t, 142, mz (sD T c (upR (T.1 c) (6 + 9 * i + 0) v))))) := by
  rw [ea_put (hc.isb (i := i.toNat) (by omega)) (by rw [ft_0_0]; rfl), mz_ui (ch_c c hc.1 hc.2 i.toNat (by omega) 0 (by decide)).1, (ch_b c hc.1 hc.2 i.toNat (by omega)).2.2, (ch_c c hc.1 hc.2 i.toNat (by omega) 0 (by decide)).2, show ((6 + 9 * i.toNat + zp 0 : Nat) : Int) = 6 + 9 * i + 0 by rw [show zp 0 = 0 from rfl]; omega]
theorem gg_0_1 (hc : Ch c) {i : Int} (h0 : 0 ≤ i) (h5 : i < 5) : mv_stp L xs (.getfield q, nx, 0, 1, w) ls (.ref (c + 3 + i.toNat) :: st) (t, 142, mz T) = some (.inl (nx, ls, .int (Int32.ofInt (T.1 c (6 + 9 * i + 2))) :: st, (t, 142, mz T))) := by
  rw [ea_get (by decide) (hc.isb (i := i.toNat) (by omega)), mz_i (ch_c c hc.1 hc.2 i.toNat (by omega) 1 (by decide)).1, (ch_b c hc.1 hc.2 i.toNat (by omega)).2.2, (ch_c c hc.1 hc.2 i.toNat (by omega) 1 (by decide)).2, show ((6 + 9 * i.toNat + zp 1 : Nat) : Int) = 6 + 9 * i + 2 by rw [show zp 1 = 2 from rfl]; omega]
theorem pp_0_1 (hc : Ch c) {i : Int} (h0 : 0 ≤ i) (h5 : i < 5) {v : Int} : mv_stp L xs (.putfield q, nx, 0, 1, w) ls (.int (Int32.ofInt v) :: .ref (c + 3 + i.toNat) :: st) (t, 142, mz T) = some (.inl (nx, ls, st, (t, 142, mz (sD T c (upR (T.1 c) (6 + 9 * i + 2) v))))) := by
  rw [ea_put (hc.isb (i := i.toNat) (by omega)) (by rw [ft_0_1]; rfl), mz_ui (ch_c c hc.1 hc.2 i.toNat (by omega) 1 (by decide)).1, (ch_b c hc.1 hc.2 i.toNat (by omega)).2.2, (ch_c c hc.1 hc.2 i.toNat (by omega) 1 (by decide)).2, show ((6 + 9 * i.toNat + zp 1 : Nat) : Int) = 6 + 9 * i + 2 by rw [show zp 1 = 2 from rfl]; omega]
theorem gg_0_2 (hc : Ch c) {i : Int} (h0 : 0 ≤ i) (h5 : i < 5) : mv_stp L xs (.getfield q, nx, 0, 2, w) ls (.ref (c + 3 + i.toNat) :: st) (t, 142, mz T) = some (.inl (nx, ls, .int (Int32.ofInt (T.1 c (6 + 9 * i + 3))) :: st, (t, 142, mz T))) := by
  rw [ea_get (by decide) (hc.isb (i := i.toNat) (by omega)), mz_i (ch_c c hc.1 hc.2 i.toNat (by omega) 2 (by decide)).1, (ch_b c hc.1 hc.2 i.toNat (by omega)).2.2, (ch_c c hc.1 hc.2 i.toNat (by omega) 2 (by decide)).2, show ((6 + 9 * i.toNat + zp 2 : Nat) : Int) = 6 + 9 * i + 3 by rw [show zp 2 = 3 from rfl]; omega]
theorem pp_0_2 (hc : Ch c) {i : Int} (h0 : 0 ≤ i) (h5 : i < 5) {v : Int} : mv_stp L xs (.putfield q, nx, 0, 2, w) ls (.int (Int32.ofInt v) :: .ref (c + 3 + i.toNat) :: st) (t, 142, mz T) = some (.inl (nx, ls, st, (t, 142, mz (sD T c (upR (T.1 c) (6 + 9 * i + 3) v))))) := by
  rw [ea_put (hc.isb (i := i.toNat) (by omega)) (by rw [ft_0_2]; rfl), mz_ui (ch_c c hc.1 hc.2 i.toNat (by omega) 2 (by decide)).1, (ch_b c hc.1 hc.2 i.toNat (by omega)).2.2, (ch_c c hc.1 hc.2 i.toNat (by omega) 2 (by decide)).2, show ((6 + 9 * i.toNat + zp 2 : Nat) : Int) = 6 + 9 * i + 3 by rw [show zp 2 = 3 from rfl]; omega]
theorem gg_0_3 (hc : Ch c) {i : Int} (h0 : 0 ≤ i) (h5 : i < 5) : mv_stp L xs (.getfield q, nx, 0, 3, w) ls (.ref (c + 3 + i.toNat) :: st) (t, 142, mz T) = some (.inl (nx, ls, .int (Int32.ofInt (T.1 c (6 + 9 * i + 1))) :: st, (t, 142, mz T))) := by
  rw [ea_get (by decide) (hc.isb (i := i.toNat) (by omega)), mz_i (ch_c c hc.1 hc.2 i.toNat (by omega) 3 (by decide)).1, (ch_b c hc.1 hc.2 i.toNat (by omega)).2.2, (ch_c c hc.1 hc.2 i.toNat (by omega) 3 (by decide)).2, show ((6 + 9 * i.toNat + zp 3 : Nat) : Int) = 6 + 9 * i + 1 by rw [show zp 3 = 1 from rfl]; omega]
theorem pp_0_3 (hc : Ch c) {i : Int} (h0 : 0 ≤ i) (h5 : i < 5) {v : Int} : mv_stp L xs (.putfield q, nx, 0, 3, w) ls (.int (Int32.ofInt v) :: .ref (c + 3 + i.toNat) :: st) (t, 142, mz T) = some (.inl (nx, ls, st, (t, 142, mz (sD T c (upR (T.1 c) (6 + 9 * i + 1) v))))) := by
  rw [ea_put (hc.isb (i := i.toNat) (by omega)) (by rw [ft_0_3]; rfl), mz_ui (ch_c c hc.1 hc.2 i.toNat (by omega) 3 (by decide)).1, (ch_b c hc.1 hc.2 i.toNat (by omega)).2.2, (ch_c c hc.1 hc.2 i.toNat (by omega) 3 (by decide)).2, show ((6 + 9 * i.toNat + zp 3 : Nat) : Int) = 6 + 9 * i + 1 by rw [show zp 3 = 1 from rfl]; omega]
theorem gg_0_4 (hc : Ch c) {i : Int} (h0 : 0 ≤ i) (h5 : i < 5) : mv_stp L xs (.getfield q, nx, 0, 4, w) ls (.ref (c + 3 + i.toNat) :: st) (t, 142, mz T) = some (.inl (nx, ls, .int (Int32.ofInt (T.1 c (6 + 9 * i + 4))) :: st, (t, 142, mz T))) := by
  rw [ea_get (by decide) (hc.isb (i := i.toNat) (by omega)), mz_i (ch_c c hc.1 hc.2 i.toNat (by omega) 4 (by decide)).1, (ch_b c hc.1 hc.2 i.toNat (by omega)).2.2, (ch_c c hc.1 hc.2 i.toNat (by omega) 4 (by decide)).2, show ((6 + 9 * i.toNat + zp 4 : Nat) : Int) = 6 + 9 * i + 4 by rw [show zp 4 = 4 from rfl]; omega]
theorem pp_0_4 (hc : Ch c) {i : Int} (h0 : 0 ≤ i) (h5 : i < 5) {v : Int} : mv_stp L xs (.putfield q, nx, 0, 4, w) ls (.int (Int32.ofInt v) :: .ref (c + 3 + i.toNat) :: st) (t, 142, mz T) = some (.inl (nx, ls, st, (t, 142, mz (sD T c (upR (T.1 c) (6 + 9 * i + 4) v))))) := by
  rw [ea_put (hc.isb (i := i.toNat) (by omega)) (by rw [ft_0_4]; rfl), mz_ui (ch_c c hc.1 hc.2 i.toNat (by omega) 4 (by decide)).1, (ch_b c hc.1 hc.2 i.toNat (by omega)).2.2, (ch_c c hc.1 hc.2 i.toNat (by omega) 4 (by decide)).2, show ((6 + 9 * i.toNat + zp 4 : Nat) : Int) = 6 + 9 * i + 4 by rw [show zp 4 = 4 from rfl]; omega]
theorem gg_0_5 (hc : Ch c) {i : Int} (h0 : 0 ≤ i) (h5 : i < 5) : mv_stp L xs (.getfield q, nx, 0, 5, w) ls (.ref (c + 3 + i.toNat) :: st) (t, 142, mz T) = some (.inl (nx, ls, .int (Int32.ofInt (T.1 c (6 + 9 * i + 5))) :: st, (t, 142, mz T))) := by
  rw [ea_get (by decide) (hc.isb (i := i.toNat) (by omega)), mz_i (ch_c c hc.1 hc.2 i.toNat (by omega) 5 (by decide)).1, (ch_b c hc.1 hc.2 i.toNat (by omega)).2.2, (ch_c c hc.1 hc.2 i.toNat (by omega) 5 (by decide)).2, show ((6 + 9 * i.toNat + zp 5 : Nat) : Int) = 6 + 9 * i + 5 by rw [show zp 5 = 5 from rfl]; omega]
theorem pp_0_5 (hc : Ch c) {i : Int} (h0 : 0 ≤ i) (h5 : i < 5) {v : Int} (hv : v = 0 ∨ v = 1) : mv_stp L xs (.putfield q, nx, 0, 5, w) ls (.int (Int32.ofInt v) :: .ref (c + 3 + i.toNat) :: st) (t, 142, mz T) = some (.inl (nx, ls, st, (t, 142, mz (sD T c (upR (T.1 c) (6 + 9 * i + 5) v))))) := by
  rw [ea_put (hc.isb (i := i.toNat) (by omega)) (by rw [ft_0_5]; exact mf_zz hv), mz_ui (ch_c c hc.1 hc.2 i.toNat (by omega) 5 (by decide)).1, (ch_b c hc.1 hc.2 i.toNat (by omega)).2.2, (ch_c c hc.1 hc.2 i.toNat (by omega) 5 (by decide)).2, show ((6 + 9 * i.toNat + zp 5 : Nat) : Int) = 6 + 9 * i + 5 by rw [show zp 5 = 5 from rfl]; omega]
theorem gg_0_6 (hc : Ch c) {i : Int} (h0 : 0 ≤ i) (h5 : i < 5) : mv_stp L xs (.getfield q, nx, 0, 6, w) ls (.ref (c + 3 + i.toNat) :: st) (t, 142, mz T) = some (.inl (nx, ls, .int (Int32.ofInt (T.1 c (6 + 9 * i + 6))) :: st, (t, 142, mz T))) := by
  rw [ea_get (by decide) (hc.isb (i := i.toNat) (by omega)), mz_i (ch_c c hc.1 hc.2 i.toNat (by omega) 6 (by decide)).1, (ch_b c hc.1 hc.2 i.toNat (by omega)).2.2, (ch_c c hc.1 hc.2 i.toNat (by omega) 6 (by decide)).2, show ((6 + 9 * i.toNat + zp 6 : Nat) : Int) = 6 + 9 * i + 6 by rw [show zp 6 = 6 from rfl]; omega]
theorem pp_0_6 (hc : Ch c) {i : Int} (h0 : 0 ≤ i) (h5 : i < 5) {v : Int} : mv_stp L xs (.putfield q, nx, 0, 6, w) ls (.int (Int32.ofInt v) :: .ref (c + 3 + i.toNat) :: st) (t, 142, mz T) = some (.inl (nx, ls, st, (t, 142, mz (sD T c (upR (T.1 c) (6 + 9 * i + 6) v))))) := by
  rw [ea_put (hc.isb (i := i.toNat) (by omega)) (by rw [ft_0_6]; rfl), mz_ui (ch_c c hc.1 hc.2 i.toNat (by omega) 6 (by decide)).1, (ch_b c hc.1 hc.2 i.toNat (by omega)).2.2, (ch_c c hc.1 hc.2 i.toNat (by omega) 6 (by decide)).2, show ((6 + 9 * i.toNat + zp 6 : Nat) : Int) = 6 + 9 * i + 6 by rw [show zp 6 = 6 from rfl]; omega]
theorem gg_0_7 (hc : Ch c) {i : Int} (h0 : 0 ≤ i) (h5 : i < 5) : mv_stp L xs (.getfield q, nx, 0, 7, w) ls (.ref (c + 3 + i.toNat) :: st) (t, 142, mz T) = some (.inl (nx, ls, .int (Int32.ofInt (T.1 c (6 + 9 * i + 7))) :: st, (t, 142, mz T))) := by
  rw [ea_get (by decide) (hc.isb (i := i.toNat) (by omega)), mz_i (ch_c c hc.1 hc.2 i.toNat (by omega) 7 (by decide)).1, (ch_b c hc.1 hc.2 i.toNat (by omega)).2.2, (ch_c c hc.1 hc.2 i.toNat (by omega) 7 (by decide)).2, show ((6 + 9 * i.toNat + zp 7 : Nat) : Int) = 6 + 9 * i + 7 by rw [show zp 7 = 7 from rfl]; omega]
theorem pp_0_7 (hc : Ch c) {i : Int} (h0 : 0 ≤ i) (h5 : i < 5) {v : Int} : mv_stp L xs (.putfield q, nx, 0, 7, w) ls (.int (Int32.ofInt v) :: .ref (c + 3 + i.toNat) :: st) (t, 142, mz T) = some (.inl (nx, ls, st, (t, 142, mz (sD T c (upR (T.1 c) (6 + 9 * i + 7) v))))) := by
  rw [ea_put (hc.isb (i := i.toNat) (by omega)) (by rw [ft_0_7]; rfl), mz_ui (ch_c c hc.1 hc.2 i.toNat (by omega) 7 (by decide)).1, (ch_b c hc.1 hc.2 i.toNat (by omega)).2.2, (ch_c c hc.1 hc.2 i.toNat (by omega) 7 (by decide)).2, show ((6 + 9 * i.toNat + zp 7 : Nat) : Int) = 6 + 9 * i + 7 by rw [show zp 7 = 7 from rfl]; omega]
theorem gg_0_8 (hc : Ch c) {i : Int} (h0 : 0 ≤ i) (h5 : i < 5) : mv_stp L xs (.getfield q, nx, 0, 8, w) ls (.ref (c + 3 + i.toNat) :: st) (t, 142, mz T) = some (.inl (nx, ls, .int (Int32.ofInt (T.1 c (6 + 9 * i + 8))) :: st, (t, 142, mz T))) := by
  rw [ea_get (by decide) (hc.isb (i := i.toNat) (by omega)), mz_i (ch_c c hc.1 hc.2 i.toNat (by omega) 8 (by decide)).1, (ch_b c hc.1 hc.2 i.toNat (by omega)).2.2, (ch_c c hc.1 hc.2 i.toNat (by omega) 8 (by decide)).2, show ((6 + 9 * i.toNat + zp 8 : Nat) : Int) = 6 + 9 * i + 8 by rw [show zp 8 = 8 from rfl]; omega]
theorem pp_0_8 (hc : Ch c) {i : Int} (h0 : 0 ≤ i) (h5 : i < 5) {v : Int} : mv_stp L xs (.putfield q, nx, 0, 8, w) ls (.int (Int32.ofInt v) :: .ref (c + 3 + i.toNat) :: st) (t, 142, mz T) = some (.inl (nx, ls, st, (t, 142, mz (sD T c (upR (T.1 c) (6 + 9 * i + 8) v))))) := by
  rw [ea_put (hc.isb (i := i.toNat) (by omega)) (by rw [ft_0_8]; rfl), mz_ui (ch_c c hc.1 hc.2 i.toNat (by omega) 8 (by decide)).1, (ch_b c hc.1 hc.2 i.toNat (by omega)).2.2, (ch_c c hc.1 hc.2 i.toNat (by omega) 8 (by decide)).2, show ((6 + 9 * i.toNat + zp 8 : Nat) : Int) = 6 + 9 * i + 8 by rw [show zp 8 = 8 from rfl]; omega]
theorem gg_2_0 : mv_stp L xs (.getfield q, nx, 2, 0, w) ls (.ref 33 :: st) (t, 142, mz T) = some (.inl (nx, ls, .ref 34 :: st, (t, 142, mz T))) := by
  rw [ea_get (by decide) (by decide), mz_r (r := 34) (by decide +kernel)]
theorem gg_2_1 : mv_stp L xs (.getfield q, nx, 2, 1, w) ls (.ref 33 :: st) (t, 142, mz T) = some (.inl (nx, ls, .int (Int32.ofInt (T.1 33 1)) :: st, (t, 142, mz T))) := by
  rw [ea_get (by decide) (by decide), mz_i (by decide +kernel), show zo 33 = 33 by decide +kernel, show zi 33 1 = 1 by decide +kernel] <;> rfl
theorem pp_2_1 {v : Int} : mv_stp L xs (.putfield q, nx, 2, 1, w) ls (.int (Int32.ofInt v) :: .ref 33 :: st) (t, 142, mz T) = some (.inl (nx, ls, st, (t, 142, mz (sD T 33 (upR (T.1 33) 1 v))))) := by
  rw [ea_put (by decide) (by rw [ft_2_1]; rfl), mz_ui (by decide +kernel), show zo 33 = 33 by decide +kernel, show zi 33 1 = 1 by decide +kernel] <;> rfl
theorem gg_2_2 : mv_stp L xs (.getfield q, nx, 2, 2, w) ls (.ref 33 :: st) (t, 142, mz T) = some (.inl (nx, ls, .int (Int32.ofInt (T.1 33 2)) :: st, (t, 142, mz T))) := by
  rw [ea_get (by decide) (by decide), mz_i (by decide +kernel), show zo 33 = 33 by decide +kernel, show zi 33 2 = 2 by decide +kernel] <;> rfl
theorem pp_2_2 {v : Int} : mv_stp L xs (.putfield q, nx, 2, 2, w) ls (.int (Int32.ofInt v) :: .ref 33 :: st) (t, 142, mz T) = some (.inl (nx, ls, st, (t, 142, mz (sD T 33 (upR (T.1 33) 2 v))))) := by
  rw [ea_put (by decide) (by rw [ft_2_2]; rfl), mz_ui (by decide +kernel), show zo 33 = 33 by decide +kernel, show zi 33 2 = 2 by decide +kernel] <;> rfl
theorem gg_3_0 : mv_stp L xs (.getfield q, nx, 3, 0, w) ls (.ref 140 :: st) (t, 142, mz T) = some (.inl (nx, ls, .ref 141 :: st, (t, 142, mz T))) := by
  rw [ea_get (by decide) (by decide), mz_r (r := 141) (by decide +kernel)]
theorem gg_3_1 : mv_stp L xs (.getfield q, nx, 3, 1, w) ls (.ref 140 :: st) (t, 142, mz T) = some (.inl (nx, ls, .int (Int32.ofInt (T.1 140 1)) :: st, (t, 142, mz T))) := by
  rw [ea_get (by decide) (by decide), mz_i (by decide +kernel), show zo 140 = 140 by decide +kernel, show zi 140 1 = 1 by decide +kernel] <;> rfl
theorem pp_3_1 {v : Int} : mv_stp L xs (.putfield q, nx, 3, 1, w) ls (.int (Int32.ofInt v) :: .ref 140 :: st) (t, 142, mz T) = some (.inl (nx, ls, st, (t, 142, mz (sD T 140 (upR (T.1 140) 1 v))))) := by
  rw [ea_put (by decide) (by rw [ft_3_1]; rfl), mz_ui (by decide +kernel), show zo 140 = 140 by decide +kernel, show zi 140 1 = 1 by decide +kernel] <;> rfl
theorem gg_4_0 : mv_stp L xs (.getfield q, nx, 4, 0, w) ls (.ref 99 :: st) (t, 142, mz T) = some (.inl (nx, ls, .ref 100 :: st, (t, 142, mz T))) := by
  rw [ea_get (by decide) (by decide), mz_r (r := 100) (by decide +kernel)]
theorem gg_5_0 : mv_stp L xs (.getfield q, nx, 5, 0, w) ls (.ref 137 :: st) (t, 142, mz T) = some (.inl (nx, ls, .ref 138 :: st, (t, 142, mz T))) := by
  rw [ea_get (by decide) (by decide), mz_r (r := 138) (by decide +kernel)]
theorem gg_5_1 : mv_stp L xs (.getfield q, nx, 5, 1, w) ls (.ref 137 :: st) (t, 142, mz T) = some (.inl (nx, ls, .int (Int32.ofInt (T.1 137 1)) :: st, (t, 142, mz T))) := by
  rw [ea_get (by decide) (by decide), mz_i (by decide +kernel), show zo 137 = 137 by decide +kernel, show zi 137 1 = 1 by decide +kernel] <;> rfl
theorem pp_5_1 {v : Int} : mv_stp L xs (.putfield q, nx, 5, 1, w) ls (.int (Int32.ofInt v) :: .ref 137 :: st) (t, 142, mz T) = some (.inl (nx, ls, st, (t, 142, mz (sD T 137 (upR (T.1 137) 1 v))))) := by
  rw [ea_put (by decide) (by rw [ft_5_1]; rfl), mz_ui (by decide +kernel), show zo 137 = 137 by decide +kernel, show zi 137 1 = 1 by decide +kernel] <;> rfl
theorem gg_5_2 : mv_stp L xs (.getfield q, nx, 5, 2, w) ls (.ref 137 :: st) (t, 142, mz T) = some (.inl (nx, ls, .int (Int32.ofInt (T.1 137 2)) :: st, (t, 142, mz T))) := by
  rw [ea_get (by decide) (by decide), mz_i (by decide +kernel), show zo 137 = 137 by decide +kernel, show zi 137 2 = 2 by decide +kernel] <;> rfl
theorem pp_5_2 {v : Int} : mv_stp L xs (.putfield q, nx, 5, 2, w) ls (.int (Int32.ofInt v) :: .ref 137 :: st) (t, 142, mz T) = some (.inl (nx, ls, st, (t, 142, mz (sD T 137 (upR (T.1 137) 2 v))))) := by
  rw [ea_put (by decide) (by rw [ft_5_2]; rfl), mz_ui (by decide +kernel), show zo 137 = 137 by decide +kernel, show zi 137 2 = 2 by decide +kernel] <;> rfl
theorem gg_5_3 : mv_stp L xs (.getfield q, nx, 5, 3, w) ls (.ref 137 :: st) (t, 142, mz T) = some (.inl (nx, ls, .ref (1000 + T.2.1) :: st, (t, 142, mz T))) := by
  rw [ea_get (by decide) (by decide), show mz T 137 3 = .ref (1000 + T.2.1) from by unfold mz; rw [show zk 137 3 = 2 by decide +kernel]; rfl]
theorem pp_5_3 {v : Nat} : mv_stp L xs (.putfield q, nx, 5, 3, w) ls (.ref (1000 + v) :: .ref 137 :: st) (t, 142, mz T) = some (.inl (nx, ls, st, (t, 142, mz (T.1, v, T.2.2)))) := by
  rw [ea_put (by decide) (by rw [ft_5_3]; rfl), mz_uc]
theorem gg_5_4 : mv_stp L xs (.getfield q, nx, 5, 4, w) ls (.ref 137 :: st) (t, 142, mz T) = some (.inl (nx, ls, .ref 139 :: st, (t, 142, mz T))) := by
  rw [ea_get (by decide) (by decide), mz_r (r := 139) (by decide +kernel)]
theorem gg_5_5 : mv_stp L xs (.getfield q, nx, 5, 5, w) ls (.ref 137 :: st) (t, 142, mz T) = some (.inl (nx, ls, .int (Int32.ofInt (T.1 137 5)) :: st, (t, 142, mz T))) := by
  rw [ea_get (by decide) (by decide), mz_i (by decide +kernel), show zo 137 = 137 by decide +kernel, show zi 137 5 = 5 by decide +kernel] <;> rfl
theorem pp_5_5 {v : Int} : mv_stp L xs (.putfield q, nx, 5, 5, w) ls (.int (Int32.ofInt v) :: .ref 137 :: st) (t, 142, mz T) = some (.inl (nx, ls, st, (t, 142, mz (sD T 137 (upR (T.1 137) 5 v))))) := by
  rw [ea_put (by decide) (by rw [ft_5_5]; rfl), mz_ui (by decide +kernel), show zo 137 = 137 by decide +kernel, show zi 137 5 = 5 by decide +kernel] <;> rfl
theorem gg_6_0 : mv_stp L xs (.getfield q, nx, 6, 0, w) ls (.ref 133 :: st) (t, 142, mz T) = some (.inl (nx, ls, .ref 134 :: st, (t, 142, mz T))) := by
  rw [ea_get (by decide) (by decide), mz_r (r := 134) (by decide +kernel)]
theorem gg_6_1 : mv_stp L xs (.getfield q, nx, 6, 1, w) ls (.ref 133 :: st) (t, 142, mz T) = some (.inl (nx, ls, .ref 135 :: st, (t, 142, mz T))) := by
  rw [ea_get (by decide) (by decide), mz_r (r := 135) (by decide +kernel)]
theorem gg_6_2 : mv_stp L xs (.getfield q, nx, 6, 2, w) ls (.ref 133 :: st) (t, 142, mz T) = some (.inl (nx, ls, .int (Int32.ofInt (T.1 133 2)) :: st, (t, 142, mz T))) := by
  rw [ea_get (by decide) (by decide), mz_i (by decide +kernel), show zo 133 = 133 by decide +kernel, show zi 133 2 = 2 by decide +kernel] <;> rfl
theorem pp_6_2 {v : Int} : mv_stp L xs (.putfield q, nx, 6, 2, w) ls (.int (Int32.ofInt v) :: .ref 133 :: st) (t, 142, mz T) = some (.inl (nx, ls, st, (t, 142, mz (sD T 133 (upR (T.1 133) 2 v))))) := by
  rw [ea_put (by decide) (by rw [ft_6_2]; rfl), mz_ui (by decide +kernel), show zo 133 = 133 by decide +kernel, show zi 133 2 = 2 by decide +kernel] <;> rfl
theorem gg_6_3 : mv_stp L xs (.getfield q, nx, 6, 3, w) ls (.ref 133 :: st) (t, 142, mz T) = some (.inl (nx, ls, .ref 136 :: st, (t, 142, mz T))) := by
  rw [ea_get (by decide) (by decide), mz_r (r := 136) (by decide +kernel)]
theorem gg_7_0 : mv_stp L xs (.getfield q, nx, 7, 0, w) ls (.ref 0 :: st) (t, 142, mz T) = some (.inl (nx, ls, .ref 1 :: st, (t, 142, mz T))) := by
  rw [ea_get (by decide) (by decide), mz_r (r := 1) (by decide +kernel)]
theorem gg_7_1 : mv_stp L xs (.getfield q, nx, 7, 1, w) ls (.ref 0 :: st) (t, 142, mz T) = some (.inl (nx, ls, .ref 9 :: st, (t, 142, mz T))) := by
  rw [ea_get (by decide) (by decide), mz_r (r := 9) (by decide +kernel)]
theorem gg_7_2 : mv_stp L xs (.getfield q, nx, 7, 2, w) ls (.ref 0 :: st) (t, 142, mz T) = some (.inl (nx, ls, .ref 17 :: st, (t, 142, mz T))) := by
  rw [ea_get (by decide) (by decide), mz_r (r := 17) (by decide +kernel)]
theorem gg_7_3 : mv_stp L xs (.getfield q, nx, 7, 3, w) ls (.ref 0 :: st) (t, 142, mz T) = some (.inl (nx, ls, .ref 25 :: st, (t, 142, mz T))) := by
  rw [ea_get (by decide) (by decide), mz_r (r := 25) (by decide +kernel)]
theorem gg_7_4 : mv_stp L xs (.getfield q, nx, 7, 4, w) ls (.ref 0 :: st) (t, 142, mz T) = some (.inl (nx, ls, .ref 33 :: st, (t, 142, mz T))) := by
  rw [ea_get (by decide) (by decide), mz_r (r := 33) (by decide +kernel)]
theorem gg_7_5 : mv_stp L xs (.getfield q, nx, 7, 5, w) ls (.ref 0 :: st) (t, 142, mz T) = some (.inl (nx, ls, .ref 99 :: st, (t, 142, mz T))) := by
  rw [ea_get (by decide) (by decide), mz_r (r := 99) (by decide +kernel)]
theorem gg_7_6 : mv_stp L xs (.getfield q, nx, 7, 6, w) ls (.ref 0 :: st) (t, 142, mz T) = some (.inl (nx, ls, .ref 133 :: st, (t, 142, mz T))) := by
  rw [ea_get (by decide) (by decide), mz_r (r := 133) (by decide +kernel)]
theorem gg_7_7 : mv_stp L xs (.getfield q, nx, 7, 7, w) ls (.ref 0 :: st) (t, 142, mz T) = some (.inl (nx, ls, .ref 137 :: st, (t, 142, mz T))) := by
  rw [ea_get (by decide) (by decide), mz_r (r := 137) (by decide +kernel)]
theorem gg_7_8 : mv_stp L xs (.getfield q, nx, 7, 8, w) ls (.ref 0 :: st) (t, 142, mz T) = some (.inl (nx, ls, .ref 140 :: st, (t, 142, mz T))) := by
  rw [ea_get (by decide) (by decide), mz_r (r := 140) (by decide +kernel)]
theorem gg_7_9 : mv_stp L xs (.getfield q, nx, 7, 9, w) ls (.ref 0 :: st) (t, 142, mz T) = some (.inl (nx, ls, .int (Int32.ofInt (T.1 0 9)) :: st, (t, 142, mz T))) := by
  rw [ea_get (by decide) (by decide), mz_i (by decide +kernel), show zo 0 = 0 by decide +kernel, show zi 0 9 = 9 by decide +kernel] <;> rfl
theorem pp_7_9 {v : Int} (hv : v = 0 ∨ v = 1) : mv_stp L xs (.putfield q, nx, 7, 9, w) ls (.int (Int32.ofInt v) :: .ref 0 :: st) (t, 142, mz T) = some (.inl (nx, ls, st, (t, 142, mz (sD T 0 (upR (T.1 0) 9 v))))) := by
  rw [ea_put (by decide) (by rw [ft_7_9]; exact mf_zz hv), mz_ui (by decide +kernel), show zo 0 = 0 by decide +kernel, show zi 0 9 = 9 by decide +kernel] <;> rfl
theorem gg_7_10 : mv_stp L xs (.getfield q, nx, 7, 10, w) ls (.ref 0 :: st) (t, 142, mz T) = some (.inl (nx, ls, .int (Int32.ofInt (T.1 0 10)) :: st, (t, 142, mz T))) := by
  rw [ea_get (by decide) (by decide), mz_i (by decide +kernel), show zo 0 = 0 by decide +kernel, show zi 0 10 = 10 by decide +kernel] <;> rfl
theorem pp_7_10 {v : Int} : mv_stp L xs (.putfield q, nx, 7, 10, w) ls (.int (Int32.ofInt v) :: .ref 0 :: st) (t, 142, mz T) = some (.inl (nx, ls, st, (t, 142, mz (sD T 0 (upR (T.1 0) 10 v))))) := by
  rw [ea_put (by decide) (by rw [ft_7_10]; rfl), mz_ui (by decide +kernel), show zo 0 = 0 by decide +kernel, show zi 0 10 = 10 by decide +kernel] <;> rfl
theorem gg_7_11 : mv_stp L xs (.getfield q, nx, 7, 11, w) ls (.ref 0 :: st) (t, 142, mz T) = some (.inl (nx, ls, .int (Int32.ofInt (T.1 0 11)) :: st, (t, 142, mz T))) := by
  rw [ea_get (by decide) (by decide), mz_i (by decide +kernel), show zo 0 = 0 by decide +kernel, show zi 0 11 = 11 by decide +kernel] <;> rfl
theorem pp_7_11 {v : Int} : mv_stp L xs (.putfield q, nx, 7, 11, w) ls (.int (Int32.ofInt v) :: .ref 0 :: st) (t, 142, mz T) = some (.inl (nx, ls, st, (t, 142, mz (sD T 0 (upR (T.1 0) 11 v))))) := by
  rw [ea_put (by decide) (by rw [ft_7_11]; rfl), mz_ui (by decide +kernel), show zo 0 = 0 by decide +kernel, show zi 0 11 = 11 by decide +kernel] <;> rfl
/-- what is told of an array: of object o, kind t9, length n, whose places stand from b on with owner w9 -/
def AI (o t9 n w9 : Nat) (b9 : Int) : Prop := o < 142 ∧ mv_kd o = (t9, n) ∧ n < 2000 ∧ zo o = w9 ∧ ∀ i, i < n → zk o i = 0 ∧ (zi o i : Int) = b9 + i
theorem AI.is {o t9 n w9 : Nat} {b9 : Int} (h : AI o t9 n w9 b9) : mv_is 142 o t9 = true := by simp [mv_is, h.1, h.2.1]
theorem AI.ix {o t9 n w9 : Nat} {b9 i : Int} (h : AI o t9 n w9 b9) (h0 : 0 ≤ i) (hn : i < n) : mv_ix (Int32.ofInt i) (mv_kd o).2 = true := by
  rw [h.2.1]
  exact oz_ix h0 hn (by have := h.2.2.1; show n < 2147483648; omega)
theorem AI.get {o t9 n w9 : Nat} {b9 i : Int} (h : AI o t9 n w9 b9) (h0 : 0 ≤ i) (hn : i < n) : mz T o (Int32.ofInt i).toNatClampNeg = .int (Int32.ofInt (T.1 w9 (b9 + i))) := by
  have h9 := h.2.2.1
  rw [oz_nc h0 (by omega)]
  obtain ⟨h1, h2⟩ := h.2.2.2.2 i.toNat (by omega)
  rw [mz_i h1, h.2.2.2.1, h2, Int.toNat_of_nonneg h0]
theorem AI.put {o t9 n w9 : Nat} {b9 i v : Int} (h : AI o t9 n w9 b9) (h0 : 0 ≤ i) (hn : i < n) : mv_up (mz T) o (Int32.ofInt i).toNatClampNeg (.int (Int32.ofInt v)) = mz (sD T w9 (upR (T.1 w9) (b9 + i) v)) := by
  have h9 := h.2.2.1
  rw [oz_nc h0 (by omega)]
  obtain ⟨h1, h2⟩ := h.2.2.2.2 i.toNat (by omega)
  rw [mz_ui h1, h.2.2.2.1, h2, Int.toNat_of_nonneg h0]
theorem ar_ld {o n w9 : Nat} {b9 i : Int} (h : AI o 20 n w9 b9) (h0 : 0 ≤ i) (hn : i < n) : mv_stp L xs (.iaload, nx, a, b, w) ls (.int (Int32.ofInt i) :: .ref o :: st) (t, 142, mz T) = some (.inl (nx, ls, .int (Int32.ofInt (T.1 w9 (b9 + i))) :: st, (t, 142, mz T))) := by
  show mv_al L xs 20 nx ls (.int (Int32.ofInt i) :: .ref o :: st) (t, 142, mz T) = _
  simp only [mv_al, if_pos h.1, if_pos (And.intro h.is (h.ix h0 hn)), h.get h0 hn, mv_nx]
theorem ar_ldc {o n w9 : Nat} {b9 i : Int} (h : AI o 21 n w9 b9) (h0 : 0 ≤ i) (hn : i < n) : mv_stp L xs (.caload, nx, a, b, w) ls (.int (Int32.ofInt i) :: .ref o :: st) (t, 142, mz T) = some (.inl (nx, ls, .int (Int32.ofInt (T.1 w9 (b9 + i))) :: st, (t, 142, mz T))) := by
  show mv_al L xs 21 nx ls (.int (Int32.ofInt i) :: .ref o :: st) (t, 142, mz T) = _
  simp only [mv_al, if_pos h.1, if_pos (And.intro h.is (h.ix h0 hn)), h.get h0 hn, mv_nx]
theorem ar_st {o n w9 : Nat} {b9 i v : Int} (h : AI o 20 n w9 b9) (h0 : 0 ≤ i) (hn : i < n) : mv_stp L xs (.iastore, nx, a, b, w) ls (.int (Int32.ofInt v) :: .int (Int32.ofInt i) :: .ref o :: st) (t, 142, mz T) = some (.inl (nx, ls, st, (t, 142, mz (sD T w9 (upR (T.1 w9) (b9 + i) v))))) := by
  show mv_as 20 nx ls (.int (Int32.ofInt v) :: .int (Int32.ofInt i) :: .ref o :: st) (t, 142, mz T) = _
  simp only [mv_as, if_pos (And.intro trivial (And.intro h.is (h.ix h0 hn))), h.put h0 hn, mv_nx]
theorem mv_ch_z (v : Int) : mv_ch (Int32.ofInt v) = Int32.ofInt (v % 65536) := by
  apply Int32.toBitVec_inj.mp
  show (BitVec.ofInt 32 v) % 65536#32 = BitVec.ofInt 32 (v % 65536)
  apply BitVec.eq_of_toNat_eq
  rw [BitVec.toNat_umod, BitVec.toNat_ofInt, BitVec.toNat_ofInt]
  have h1 : (65536#32).toNat = 65536 := rfl
  have h2 : ((2 ^ 32 : Nat) : Int) = 4294967296 := rfl
  rw [h1, h2]
  omega
theorem ar_stc {o n w9 : Nat} {b9 i v : Int} (h : AI o 21 n w9 b9) (h0 : 0 ≤ i) (hn : i < n) : mv_stp L xs (.castore, nx, a, b, w) ls (.int (Int32.ofInt v) :: .int (Int32.ofInt i) :: .ref o :: st) (t, 142, mz T) = some (.inl (nx, ls, st, (t, 142, mz (sD T w9 (upR (T.1 w9) (b9 + i) (v % 65536)))))) := by
  show mv_as 21 nx ls (.int (Int32.ofInt v) :: .int (Int32.ofInt i) :: .ref o :: st) (t, 142, mz T) = _
  simp only [mv_as, if_pos (And.intro trivial (And.intro h.is (h.ix h0 hn))), mv_ch_z, h.put h0 hn, mv_nx]
theorem AI.fc (hc : Ch c) : AI (c + 2) 20 12 c 51 := by
  have := hc.lt
  obtain ⟨-, -, h3, -, h5, -⟩ := ch_0 c hc.1 hc.2
  refine ⟨by omega, h5, by omega, h3, fun i hi => ?_⟩
  obtain ⟨h1, h2⟩ := ch_f c hc.1 hc.2 i hi
  exact ⟨h1, by rw [h2]; rfl⟩
theorem ai_134 : AI 134 20 5 134 0 := by
  have h : ∀ i, i < 5 → zk 134 i = 0 ∧ zi 134 i = i := by decide +kernel
  exact ⟨by decide, by decide +kernel, by decide, by decide +kernel, fun i hi => ⟨(h i hi).1, by rw [(h i hi).2, Int.zero_add]⟩⟩
theorem ai_135 : AI 135 20 5 135 0 := by
  have h : ∀ i, i < 5 → zk 135 i = 0 ∧ zi 135 i = i := by decide +kernel
  exact ⟨by decide, by decide +kernel, by decide, by decide +kernel, fun i hi => ⟨(h i hi).1, by rw [(h i hi).2, Int.zero_add]⟩⟩
theorem ai_136 : AI 136 20 100 136 0 := by
  have h : ∀ i, i < 100 → zk 136 i = 0 ∧ zi 136 i = i := by decide +kernel
  exact ⟨by decide, by decide +kernel, by decide, by decide +kernel, fun i hi => ⟨(h i hi).1, by rw [(h i hi).2, Int.zero_add]⟩⟩
theorem ai_138 : AI 138 21 60 138 0 := by
  have h : ∀ i, i < 60 → zk 138 i = 0 ∧ zi 138 i = i := by decide +kernel
  exact ⟨by decide, by decide +kernel, by decide, by decide +kernel, fun i hi => ⟨(h i hi).1, by rw [(h i hi).2, Int.zero_add]⟩⟩
theorem ai_139 : AI 139 20 3 139 0 := by
  have h : ∀ i, i < 3 → zk 139 i = 0 ∧ zi 139 i = i := by decide +kernel
  exact ⟨by decide, by decide +kernel, by decide, by decide +kernel, fun i hi => ⟨(h i hi).1, by rw [(h i hi).2, Int.zero_add]⟩⟩
theorem ai_141 : AI 141 21 54 141 0 := by
  have h : ∀ i, i < 54 → zk 141 i = 0 ∧ zi 141 i = i := by decide +kernel
  exact ⟨by decide, by decide +kernel, by decide, by decide +kernel, fun i hi => ⟨(h i hi).1, by rw [(h i hi).2, Int.zero_add]⟩⟩
theorem ar_len {o t9 n w9 : Nat} {b9 : Int} (h : AI o t9 n w9 b9) (ht : 20 ≤ t9) : mv_stp L xs (.arraylength, nx, a, b, w) ls (.ref o :: st) (t, 142, mz T) = some (.inl (nx, ls, .int (Int32.ofInt n) :: st, (t, 142, mz T))) := by
  show mv_len L nx ls (.ref o :: st) (t, 142, mz T) = _
  have h1 : 20 ≤ (mv_kd o).1 := by rw [h.2.1]; exact ht
  have h3 : (if o < 142 then (if o < 142 ∧ 20 ≤ (mv_kd o).1 then mv_nx nx ls (.int (nI (mv_kd o).2) :: st) ((t, 142, mz T) : mv_S) else none) else if o = 2000 then mv_nx nx ls (.int (nI L) :: st) (t, 142, mz T) else none) = mv_nx nx ls (.int (nI n) :: st) (t, 142, mz T) := by
    rw [if_pos h.1, if_pos (And.intro h.1 h1), h.2.1]
  exact h3
theorem ar_ref {o t9 n r : Nat} {i : Int} (h : o < 142) (hk : mv_kd o = (t9, n)) (ht : t9 = 24 ∨ t9 = 25) (h0 : 0 ≤ i) (hn : i < n) (h9 : n < 2000) (hr : zk o i.toNat = 10 + r) : mv_stp L xs (.aaload, nx, a, b, w) ls (.int (Int32.ofInt i) :: .ref o :: st) (t, 142, mz T) = some (.inl (nx, ls, .ref r :: st, (t, 142, mz T))) := by
  show mv_aa L xs nx ls (.int (Int32.ofInt i) :: .ref o :: st) (t, 142, mz T) = _
  have h1 : mv_is 142 o t9 = true := by simp [mv_is, h, hk]
  have h2 : mv_ix (Int32.ofInt i) n = true := oz_ix h0 hn (by omega)
  have h3 : mz T o (Int32.ofInt i).toNatClampNeg = .ref r := by rw [oz_nc h0 (by omega)]; exact mz_r hr
  rcases ht with rfl | rfl
  · simp only [mv_aa, mv_al, hk, if_pos h, not_true_eq_false, false_and, and_false, if_false, if_pos (And.intro h1 h2), h3]
    rfl
  · simp only [mv_aa, mv_al, hk, if_pos h, not_true_eq_false, false_and, and_false, if_false, if_pos (And.intro h1 h2), h3]
    rfl
theorem ar_bas (hc : Ch c) {i : Int} (h0 : 0 ≤ i) (h5 : i < 5) : mv_stp L xs (.aaload, nx, a, b, w) ls (.int (Int32.ofInt i) :: .ref (c + 1) :: st) (t, 142, mz T) = some (.inl (nx, ls, .ref (c + 3 + i.toNat) :: st, (t, 142, mz T))) := by
  have := hc.lt
  exact ar_ref (by omega) (ch_0 c hc.1 hc.2).2.2.2.1 (.inl rfl) h0 (n := 5) (by omega) (by decide) (ch_b c hc.1 hc.2 i.toNat (by omega)).1
theorem ar_his {i : Int} (h0 : 0 ≤ i) (h5 : i < 8) : mv_stp L xs (.aaload, nx, a, b, w) ls (.int (Int32.ofInt i) :: .ref 34 :: st) (t, 142, mz T) = some (.inl (nx, ls, .ref (35 + 8 * i.toNat) :: st, (t, 142, mz T))) := by
  have h : ∀ j, j < 8 → zk 34 j = 10 + (35 + 8 * j) := by decide +kernel
  exact ar_ref (by decide) (by decide +kernel : mv_kd 34 = (25, 8)) (.inr rfl) h0 (n := 8) (by omega) (by decide) (h i.toNat (by omega))
theorem ar_try {i : Int} (h0 : 0 ≤ i) (h5 : i < 4) : mv_stp L xs (.aaload, nx, a, b, w) ls (.int (Int32.ofInt i) :: .ref 100 :: st) (t, 142, mz T) = some (.inl (nx, ls, .ref (101 + 8 * i.toNat) :: st, (t, 142, mz T))) := by
  have h : ∀ j, j < 4 → zk 100 j = 10 + (101 + 8 * j) := by decide +kernel
  exact ar_ref (by decide) (by decide +kernel : mv_kd 100 = (25, 4)) (.inr rfl) h0 (n := 4) (by omega) (by decide) (h i.toNat (by omega))
theorem ar_tln : mv_stp L xs (.arraylength, nx, a, b, w) ls (.ref 100 :: st) (t, 142, mz T) = some (.inl (nx, ls, .int (Int32.ofInt 4) :: st, (t, 142, mz T))) := rfl
end ZF
