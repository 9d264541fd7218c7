/-! THE STATE AS DATA: ints D, longs E by object and slot, the program's command, the law's double -/
/-- the sort of a slot: 0 int, 1 long, 2 the command, 3 the double, 10 + r a reference to r that never changes -/
def ms_ck (o r k : Nat) : Nat :=
  if r = 0 then (if k = 0 then 10 + (o + 1) else if k = 2 then 10 + (o + 2) else if k < 5 then 0 else 1) else if r = 1 then 10 + (o + 2 + k) else 0
def ms_so (o k : Nat) : Nat :=
  if o < 33 then (if o = 0 then (if k = 0 then 11 else if k = 1 then 19 else if k = 2 then 27 else if k = 3 then 35 else if k = 4 then 43 else if k = 5 then 109 else if k = 6 then 143 else if k = 7 then 147 else if k = 8 then 150 else 0) else ms_ck o ((o - 1) % 8) k)
  else if o < 99 then (if o = 33 then (if k = 0 then 44 else 0) else if o = 34 then 10 + (35 + 8 * k) else ms_ck o ((o - 35) % 8) k)
  else if o < 133 then (if o = 99 then 110 else if o = 100 then 10 + (101 + 8 * k) else ms_ck o ((o - 101) % 8) k)
  else if o = 133 then (if k = 0 then 144 else if k = 1 then 145 else if k = 2 then 0 else 146)
  else if o = 137 then (if k = 0 then 148 else if k = 3 then 2 else if k = 4 then 149 else 0)
  else if o = 140 then (if k = 0 then 151 else 0)
  else if o = 142 then (if k = 1 then 153 else if k = 6 then 154 else if k = 12 then 155 else if k = 14 then 156 else 0)
  else if o = 147 then 1 else if o = 148 then 3 else 0
abbrev mS : Type := (Nat → Nat → Int32) × (Nat → Nat → Int64) × Nat × UInt64
def mk (S : mS) : mv_H := fun o k =>
  if ms_so o k = 0 then .int (S.1 o k) else if ms_so o k = 1 then .long (S.2.1 o k) else if ms_so o k = 2 then .ref (1000 + S.2.2.1) else if ms_so o k = 3 then .double S.2.2.2 else .ref (ms_so o k - 10)
def up2 {α : Type} (D : Nat → Nat → α) (o k : Nat) (v : α) : Nat → Nat → α := fun p j => if p = o ∧ j = k then v else D p j
theorem up2_eq {α : Type} (D : Nat → Nat → α) (o k : Nat) (v : α) : up2 D o k v o k = v := by simp [up2]
theorem up2_o {α : Type} (D : Nat → Nat → α) {o p k j : Nat} (v : α) (h : ¬ p = o) : up2 D o k v p j = D p j := by simp [up2, h]
theorem up2_k {α : Type} (D : Nat → Nat → α) {o p k j : Nat} (v : α) (h : ¬ j = k) : up2 D o k v p j = D p j := by simp [up2, h]
theorem mk_i {S : mS} {o k : Nat} (h : ms_so o k = 0) : mk S o k = .int (S.1 o k) := by simp [mk, h]
theorem mk_l {S : mS} {o k : Nat} (h : ms_so o k = 1) : mk S o k = .long (S.2.1 o k) := by simp [mk, h]
theorem mk_c {S : mS} {o k : Nat} (h : ms_so o k = 2) : mk S o k = .ref (1000 + S.2.2.1) := by simp [mk, h]
theorem mk_d {S : mS} {o k : Nat} (h : ms_so o k = 3) : mk S o k = .double S.2.2.2 := by simp [mk, h]
theorem mk_r {S : mS} {o k r : Nat} (h : ms_so o k = 10 + r) : mk S o k = .ref r := by
  have h0 : ¬ 10 + r = 0 := by omega
  have h1 : ¬ 10 + r = 1 := by omega
  have h2 : ¬ 10 + r = 2 := by omega
  have h3 : ¬ 10 + r = 3 := by omega
  simp only [mk, h, if_neg h0, if_neg h1, if_neg h2, if_neg h3]
  rw [show 10 + r - 10 = r by omega]
theorem mk_ui {S : mS} {o k : Nat} {v : Int32} (h : ms_so o k = 0) : mv_up (mk S) o k (.int v) = mk (up2 S.1 o k v, S.2) := by
  funext p j
  by_cases e : p = o ∧ j = k
  · obtain ⟨rfl, rfl⟩ := e
    simp [mv_up, mk, h, up2]
  · simp [mv_up, mk, e, up2]
theorem mk_ul {S : mS} {o k : Nat} {v : Int64} (h : ms_so o k = 1) : mv_up (mk S) o k (.long v) = mk (S.1, up2 S.2.1 o k v, S.2.2) := by
  funext p j
  by_cases e : p = o ∧ j = k
  · obtain ⟨rfl, rfl⟩ := e
    simp [mv_up, mk, h, up2]
  · simp [mv_up, mk, e, up2]
theorem ms_so2 : ∀ o, o < 149 → ∀ k, k < 120 → ms_so o k = 2 → o = 137 ∧ k = 3 := by decide +kernel
-- chains and basins, by their numbers
def Ch (o : Nat) : Prop := o < 149 ∧ mv_kd o = (1, 8)
def Ba (o : Nat) : Prop := o < 149 ∧ mv_kd o = (0, 9)
theorem ch_all : ∀ o, o < 149 → mv_kd o = (1, 8) → o + 7 < 149 ∧ ms_so o 0 = 10 + (o + 1) ∧ ms_so o 1 = 0 ∧ ms_so o 2 = 10 + (o + 2) ∧ ms_so o 3 = 0 ∧ ms_so o 4 = 0 ∧ ms_so o 5 = 1 ∧ ms_so o 6 = 1 ∧ ms_so o 7 = 1 ∧ mv_kd (o + 1) = (24, 5) ∧ mv_kd (o + 2) = (20, 12) := by decide +kernel
theorem ch_ba : ∀ o, o < 149 → mv_kd o = (1, 8) → ∀ i, i < 5 → ms_so (o + 1) i = 10 + (o + 3 + i) ∧ mv_kd (o + 3 + i) = (0, 9) := by decide +kernel
theorem ch_fc : ∀ o, o < 149 → mv_kd o = (1, 8) → ∀ i, i < 12 → ms_so (o + 2) i = 0 := by decide +kernel
theorem ba_all : ∀ o, o < 149 → mv_kd o = (0, 9) → ∀ k, k < 9 → ms_so o k = 0 := by decide +kernel
theorem Ch.lt {o : Nat} (h : Ch o) : o + 7 < 149 := (ch_all o h.1 h.2).1
theorem Ch.ba {o i : Nat} (h : Ch o) (hi : i < 5) : Ba (o + 3 + i) := ⟨by have := h.lt; omega, (ch_ba o h.1 h.2 i hi).2⟩
theorem Ba.is {o : Nat} (h : Ba o) : mv_is 149 o 0 = true := by simp [mv_is, h.1, h.2]
theorem Ch.is {o : Nat} (h : Ch o) : mv_is 149 o 1 = true := by simp [mv_is, h.1, h.2]
theorem Ch.is1 {o : Nat} (h : Ch o) : mv_is 149 (o + 1) 24 = true := by have := h.lt; simp [mv_is, (ch_all o h.1 h.2).2.2.2.2.2.2.2.2.2.1]; omega
theorem Ch.is2 {o : Nat} (h : Ch o) : mv_is 149 (o + 2) 20 = true := by have := h.lt; simp [mv_is, (ch_all o h.1 h.2).2.2.2.2.2.2.2.2.2.2]; omega
theorem Ba.get {S : mS} {o k : Nat} (h : Ba o) (hk : k < 9) : mk S o k = .int (S.1 o k) := mk_i (ba_all o h.1 h.2 k hk)
theorem Ba.put {S : mS} {o k : Nat} {v : Int32} (h : Ba o) (hk : k < 9) : mv_up (mk S) o k (.int v) = mk (up2 S.1 o k v, S.2) := mk_ui (ba_all o h.1 h.2 k hk)
theorem Ch.g0 {S : mS} {o : Nat} (h : Ch o) : mk S o 0 = .ref (o + 1) := mk_r (ch_all o h.1 h.2).2.1
theorem Ch.g1 {S : mS} {o : Nat} (h : Ch o) : mk S o 1 = .int (S.1 o 1) := mk_i (ch_all o h.1 h.2).2.2.1
theorem Ch.g2 {S : mS} {o : Nat} (h : Ch o) : mk S o 2 = .ref (o + 2) := mk_r (ch_all o h.1 h.2).2.2.2.1
theorem Ch.g3 {S : mS} {o : Nat} (h : Ch o) : mk S o 3 = .int (S.1 o 3) := mk_i (ch_all o h.1 h.2).2.2.2.2.1
theorem Ch.g4 {S : mS} {o : Nat} (h : Ch o) : mk S o 4 = .int (S.1 o 4) := mk_i (ch_all o h.1 h.2).2.2.2.2.2.1
theorem Ch.g5 {S : mS} {o : Nat} (h : Ch o) : mk S o 5 = .long (S.2.1 o 5) := mk_l (ch_all o h.1 h.2).2.2.2.2.2.2.1
theorem Ch.g6 {S : mS} {o : Nat} (h : Ch o) : mk S o 6 = .long (S.2.1 o 6) := mk_l (ch_all o h.1 h.2).2.2.2.2.2.2.2.1
theorem Ch.g7 {S : mS} {o : Nat} (h : Ch o) : mk S o 7 = .long (S.2.1 o 7) := mk_l (ch_all o h.1 h.2).2.2.2.2.2.2.2.2.1
theorem Ch.gb {S : mS} {o i : Nat} (h : Ch o) (hi : i < 5) : mk S (o + 1) i = .ref (o + 3 + i) := mk_r (ch_ba o h.1 h.2 i hi).1
theorem Ch.gf {S : mS} {o i : Nat} (h : Ch o) (hi : i < 12) : mk S (o + 2) i = .int (S.1 (o + 2) i) := mk_i (ch_fc o h.1 h.2 i hi)
