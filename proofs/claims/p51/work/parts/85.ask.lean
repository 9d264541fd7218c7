/-! WHAT THE LAW ASKS OF THE CLASS, IN ONE FORM -/
section ASK
variable {L : Nat} {xs : Nat → Int32} {d t : Nat} {T T1 : zT} {A : Int → Int} {M k : Int}
/-- the chain's row is A, all is in order -/
def zI (T : zT) (M : Int) (A : Int → Int) : Prop := zIn T M ∧ T.1 o1 = A
theorem zk_3000 : ∀ o, o < 142 → ∀ k, k < (mv_kd o).2 → zk o k < 3000 := by decide +kernel
theorem zI_sm (h : zI T M A) : mo_sm (t, 142, mz T) := by
  intro o k
  obtain ⟨-, -, -, -, -, h1, h2⟩ := h.1
  show mo_rf 3000 (mz T o k)
  unfold mz
  refine sm_if trivial (sm_if trivial (sm_if (sm_r (by omega)) (sm_if trivial ?_)))
  by_cases hz : zk o k = 4
  · rw [if_pos hz]
    exact h2 o k
  · rw [if_neg hz]
    obtain ⟨z1, z2⟩ := zk_in hz
    have := zk_3000 o z1 k z2
    exact sm_r (by omega)
theorem zI_of (h : zI T M A) (e2 : T1.2 = T.2) (e1 : T1.1 o1 = T.1 o1) (e3 : T1.1 33 = T.1 33) : zI T1 M A := by
  obtain ⟨⟨h1, h2, h3, h4, h5, h6, h7⟩, h8⟩ := h
  refine ⟨⟨by rw [e1]; exact h1, by rw [e1]; exact h2, by rw [e1]; exact h3, by rw [e1]; exact h4, ?_, by rw [e2]; exact h6, by rw [e2]; exact h7⟩, e1.trans h8⟩
  unfold zHis at h5 ⊢
  rw [e3]
  exact h5
theorem zJ_33 : ¬ zJ 33 := by
  rintro (h | h | h | ⟨j, h1, h2⟩)
  · exact absurd h (by decide)
  · exact absurd h (by decide)
  · omega
  · omega
theorem zI_fr (h : zI T M A) (f : zFr T T1) : zI T1 M A := zI_of h f.1 (f.2 _ zJ_o1) (f.2 33 zJ_33)
theorem zI_wf (h : zI T M A) : zWF A 99 := by rw [← h.2]; exact h.1.1
theorem zI_con (h : zI T M A) : zCon A := by rw [← h.2]; exact h.1.2.1
theorem zI_tb (h : zI T M A) : zTb A M := by rw [← h.2]; exact h.1.2.2.1
theorem zI_fd (h : zI T M A) : zFd A := by rw [← h.2]; exact h.1.2.2.2.1
theorem zI_ok (h : zI T M A) (k0 : 0 ≤ k) (k1 : k < A 0) : zOK A 99 k := (zI_wf h).2.2.2.2.1 k k0 k1
theorem zI_5 (h : zI T M A) : 0 ≤ A 0 ∧ A 0 ≤ 5 ∧ 0 ≤ A 2 ∧ A 2 ≤ 12 := by
  have hW := zI_wf h
  exact ⟨hW.1, hW.2.1, hW.2.2.1, hW.2.2.2.1⟩
theorem q_level (h : zI T M A) (hd : 12 ≤ d) (k0 : 0 ≤ k) (k1 : k < A 0) : mv_cl L xs d k_X10_level [.ref 0, .int (Int32.ofInt k)] (t, 142, mz T) = some (.inl (some (.int (Int32.ofInt (A (6 + 9 * k + 1))))), (t, 142, mz T)) := by
  obtain ⟨hI, rfl⟩ := h
  have h5 := hI.1.2.1
  have e := c_X10_level (L := L) (xs := xs) (d := d) (t := t) (T := T) (b := k) (by omega) hI.1 (by omega) (by omega)
  rw [if_pos ⟨k0, k1⟩] at e
  exact e
theorem q_capacity (h : zI T M A) (hd : 12 ≤ d) (k0 : 0 ≤ k) (k1 : k < A 0) : mv_cl L xs d k_X10_capacity [.ref 0, .int (Int32.ofInt k)] (t, 142, mz T) = some (.inl (some (.int (Int32.ofInt (A (6 + 9 * k + 0))))), (t, 142, mz T)) := by
  obtain ⟨hI, rfl⟩ := h
  have h5 := hI.1.2.1
  have e := c_X10_capacity (L := L) (xs := xs) (d := d) (t := t) (T := T) (b := k) (by omega) hI.1 (by omega) (by omega)
  rw [if_pos ⟨k0, k1⟩] at e
  exact e
theorem q_opening (h : zI T M A) (hd : 12 ≤ d) (k0 : 0 ≤ k) (k1 : k < A 0) : mv_cl L xs d k_X10_opening [.ref 0, .int (Int32.ofInt k)] (t, 142, mz T) = some (.inl (some (.int (Int32.ofInt (A (6 + 9 * k + 4))))), (t, 142, mz T)) := by
  obtain ⟨hI, rfl⟩ := h
  have h5 := hI.1.2.1
  have e := c_X10_opening (L := L) (xs := xs) (d := d) (t := t) (T := T) (b := k) (by omega) hI.1 (by omega) (by omega)
  rw [if_pos ⟨k0, k1⟩] at e
  exact e
theorem q_isAutomatic (h : zI T M A) (hd : 12 ≤ d) (k0 : 0 ≤ k) (k1 : k < A 0) : mv_cl L xs d k_X10_isAutomatic [.ref 0, .int (Int32.ofInt k)] (t, 142, mz T) = some (.inl (some (.int (Int32.ofInt (A (6 + 9 * k + 5))))), (t, 142, mz T)) := by
  obtain ⟨hI, rfl⟩ := h
  have h5 := hI.1.2.1
  have e := c_X10_isAutomatic (L := L) (xs := xs) (d := d) (t := t) (T := T) (b := k) (by omega) hI.1 (by omega) (by omega)
  rw [if_pos ⟨k0, k1⟩] at e
  exact e
theorem q_spilled (h : zI T M A) (hd : 12 ≤ d) (k0 : 0 ≤ k) (k1 : k < A 0) : mv_cl L xs d k_X10_spilled [.ref 0, .int (Int32.ofInt k)] (t, 142, mz T) = some (.inl (some (.int (Int32.ofInt (A (6 + 9 * k + 7))))), (t, 142, mz T)) := by
  obtain ⟨hI, rfl⟩ := h
  have h5 := hI.1.2.1
  have e := c_X10_spilled (L := L) (xs := xs) (d := d) (t := t) (T := T) (b := k) (by omega) hI.1 (by omega) (by omega)
  rw [if_pos ⟨k0, k1⟩] at e
  exact e
theorem q_floodedSteps (h : zI T M A) (hd : 12 ≤ d) (k0 : 0 ≤ k) (k1 : k < A 0) : mv_cl L xs d k_X10_floodedSteps [.ref 0, .int (Int32.ofInt k)] (t, 142, mz T) = some (.inl (some (.int (Int32.ofInt (A (6 + 9 * k + 8))))), (t, 142, mz T)) := by
  obtain ⟨hI, rfl⟩ := h
  have h5 := hI.1.2.1
  have e := c_X10_floodedSteps (L := L) (xs := xs) (d := d) (t := t) (T := T) (b := k) (by omega) hI.1 (by omega) (by omega)
  rw [if_pos ⟨k0, k1⟩] at e
  exact e
theorem q_fieldValue (h : zI T M A) (hd : 12 ≤ d) (k0 : 0 ≤ k) (k1 : k < A 0) : mv_cl L xs d k_X10_fieldValue [.ref 0, .int (Int32.ofInt k)] (t, 142, mz T) = some (.inl (some (.int (Int32.ofInt (A (6 + 9 * k + 3))))), (t, 142, mz T)) := by
  obtain ⟨hI, rfl⟩ := h
  have h5 := hI.1.2.1
  have e := c_X10_fieldValue (L := L) (xs := xs) (d := d) (t := t) (T := T) (b := k) (by omega) hI.1 (by omega) (by omega)
  rw [if_pos ⟨k0, k1⟩] at e
  exact e
theorem q_basinCount (h : zI T M A) (hd : 12 ≤ d) : mv_cl L xs d k_X10_basinCount [.ref 0] (t, 142, mz T) = some (.inl (some (.int (Int32.ofInt (A 0)))), (t, 142, mz T)) := by
  obtain ⟨hI, rfl⟩ := h
  exact c_X10_basinCount (by omega)
theorem q_time (h : zI T M A) (hd : 12 ≤ d) : mv_cl L xs d k_X10_time [.ref 0] (t, 142, mz T) = some (.inl (some (.int (Int32.ofInt (A 1)))), (t, 142, mz T)) := by
  obtain ⟨hI, rfl⟩ := h
  exact c_X10_time (by omega)
theorem q_forecastLength (h : zI T M A) (hd : 12 ≤ d) : mv_cl L xs d k_X10_forecastLength [.ref 0] (t, 142, mz T) = some (.inl (some (.int (Int32.ofInt (A 2)))), (t, 142, mz T)) := by
  obtain ⟨hI, rfl⟩ := h
  exact c_X10_forecastLength (by omega)
theorem q_riverTotal (h : zI T M A) (hd : 12 ≤ d) : mv_cl L xs d k_X10_riverTotal [.ref 0] (t, 142, mz T) = some (.inl (some (.long (Int64.ofInt (A 3)))), (t, 142, mz T)) := by
  obtain ⟨hI, rfl⟩ := h
  exact c_X10_riverTotal (by omega)
theorem q_rain (h : zI T M A) (hd : 12 ≤ d) (k0 : 0 ≤ k) (k1 : k < A 2) : mv_cl L xs d k_X10_rainAt [.ref 0, .int (Int32.ofInt k)] (t, 142, mz T) = some (.inl (some (.int (nI (A (51 + k)).toNat))), (t, 142, mz T)) ∧ (A (51 + k)).toNat < 100 := by
  have hr := (zI_wf h).2.2.2.2.2 k k0 k1
  obtain ⟨hI, rfl⟩ := h
  have h5 := hI.1.2.2.2.1
  have e := c_X10_rainAt (L := L) (xs := xs) (d := d) (t := t) (T := T) (i := k) (by omega) hI.1 (by omega) (by omega)
  rw [if_pos ⟨k0, k1⟩] at e
  refine ⟨?_, by omega⟩
  have e0 : nI (T.1 o1 (51 + k)).toNat = Int32.ofInt (T.1 o1 (51 + k)) := by
    show Int32.ofInt ((T.1 o1 (51 + k)).toNat : Int) = _
    rw [Int.toNat_of_nonneg hr.1]
  rw [e, e0]
theorem q_rainEnd (h : zI T M A) (hd : 12 ≤ d) : mv_cl L xs d k_L_rainAt [.ref 0, .int (Int32.ofInt (A 2))] (t, 142, mz T) = some (.inl (some (.int (Int32.ofInt (-25000)))), (t + 1, 142, mz T)) := by
  obtain ⟨hI, rfl⟩ := h
  have h5 := hI.1.2.2.1
  have h6 := hI.1.2.2.2.1
  obtain ⟨d, rfl⟩ : ∃ e, d = e + 1 := ⟨d - 1, by omega⟩
  have e := c_X10_rainAt (L := L) (xs := xs) (d := d) (t := t) (T := T) (i := T.1 o1 2) (by omega) hI.1 (by omega) (by omega)
  rw [if_neg (by omega)] at e
  exact w_L_rainAt_2 e
theorem q_threshold (h : zI T M A) (hd : 12 ≤ d) (k0 : 0 ≤ k) (k1 : k < A 0) : ∃ t', t ≤ t' ∧ t' ≤ t + 1 ∧ mv_cl L xs d k_L_threshold [.ref 0, .int (Int32.ofInt k)] (t, 142, mz T) = some (.inl (some (.int (Int32.ofInt (if A (6 + 9 * k + 5) = 1 then A (6 + 9 * k + 6) else -30000)))), (t', 142, mz T)) := by
  obtain ⟨hI, rfl⟩ := h
  have h5 := hI.1.2.1
  obtain ⟨d, rfl⟩ : ∃ e, d = e + 1 := ⟨d - 1, by omega⟩
  have e := c_X10_threshold (L := L) (xs := xs) (d := d) (t := t) (T := T) (b := k) (by omega) hI.1 (by omega) (by omega)
  rw [if_pos ⟨k0, k1⟩] at e
  by_cases q : T.1 o1 (6 + 9 * k + 5) = 1
  · rw [if_pos q] at e ⊢
    exact ⟨t, Nat.le_refl _, Nat.le_succ _, w_L_threshold_ok e⟩
  · rw [if_neg q] at e ⊢
    exact ⟨t + 1, Nat.le_succ _, Nat.le_refl _, w_L_threshold_5 e⟩
theorem q_spillOf (h : zI T M A) (hd : 12 ≤ d) (k0 : 0 ≤ k) (k1 : k < A 0) {m : Int} (m0 : 0 ≤ m) (m1 : m ≤ 30) : ∃ T1, zI T1 M A ∧ mv_cl L xs d k_X10_spillOf [.ref 0, .int (Int32.ofInt k), .int (Int32.ofInt m)] (t, 142, mz T) = some (.inl (some (.int (Int32.ofInt (zX A m.toNat k)))), (t, 142, mz T1)) := by
  have h9 := h
  obtain ⟨hI, rfl⟩ := h
  have h5 := hI.1.2.1
  have e := c_X10_spillOf (L := L) (xs := xs) (d := d) (t := t) (T := T) (b := k) (m := m) (by omega) hI.1 (by omega) (by omega) (by omega) (by omega)
  rw [if_pos (zfAt_is.1.mpr ⟨⟨k0, k1⟩, m0, m1⟩), zX_sp hI.1 m.toNat k0 k1] at e
  exact ⟨_, zI_fr h9 (zFr_sD (zFr_refl _) zJ_25), e⟩
theorem q_levelAfter0 (h : zI T M A) (hd : 12 ≤ d) (k0 : 0 ≤ k) (k1 : k < A 0) : ∃ T1, zI T1 M A ∧ mv_cl L xs d k_X10_levelAfter [.ref 0, .int (Int32.ofInt k), .int (Int32.ofInt 0)] (t, 142, mz T) = some (.inl (some (.int (Int32.ofInt (A (6 + 9 * k + 1))))), (t, 142, mz T1)) := by
  have h9 := h
  obtain ⟨hI, rfl⟩ := h
  have h5 := hI.1.2.1
  have e := c_X10_levelAfter (L := L) (xs := xs) (d := d) (t := t) (T := T) (b := k) (m := 0) (by omega) hI.1 (by omega) (by omega) (by omega) (by omega)
  have e2 : zPs (0 : Int).toNat (zCpy (T.1 o1) (T.1 o25)) (6 + 9 * k + 1) = T.1 o1 (6 + 9 * k + 1) := by
    show zCpy (T.1 o1) (T.1 o25) (6 + 9 * k + 1) = _
    have h0 := (zL_cpy hI.1 (T.1 o25)).1
    exact zL_bas (zL_cpy hI.1 (T.1 o25)) k0 (by omega) (w := 1) (by omega) (by omega) (by omega)
  rw [if_pos (zfAt_is.1.mpr ⟨⟨k0, k1⟩, by omega, by omega⟩), e2] at e
  exact ⟨_, zI_fr h9 (zFr_sD (zFr_refl _) zJ_25), e⟩
theorem zfPlan_man {n : Int} (k0 : 0 ≤ k) (k1 : k < A 0) (n0 : 1 ≤ n) (n1 : n ≤ 4) (h5 : A (6 + 9 * k + 5) = 0) : zfPlan A k n = 1010 := by
  unfold zfPlan
  rw [if_pos ⟨k0, k1⟩, if_neg (by omega), if_pos h5]
theorem q_leastSpill (h : zI T M A) (hd : 12 ≤ d) (k0 : 0 ≤ k) (k1 : k < A 0) (ka : A (6 + 9 * k + 5) = 0) {m : Int} (m0 : 1 ≤ m) (m1 : m ≤ 4) : ∃ T1, zI T1 M A ∧ mv_cl L xs d k_X10_leastSpill [.ref 0, .int (Int32.ofInt k), .int (Int32.ofInt m)] (t, 142, mz T) = some (.inl (some (.int (Int32.ofInt (zPl m.toNat A k)))), (t, 142, mz T1)) := by
  have h9 := h
  obtain ⟨hI, rfl⟩ := h
  have h5 := hI.1.2.1
  obtain ⟨T1, f, e⟩ := c_X10_leastSpill (L := L) (xs := xs) (d := d) (t := t) (T := T) (b := k) (m := m) (by omega) hI.1 (by omega) (by omega) (by omega) (by omega)
  rw [if_pos (zfPlan_man k0 k1 m0 m1 ka)] at e
  exact ⟨T1, zI_fr h9 f, e⟩
theorem q_leastSpillByPruning (h : zI T M A) (hd : 12 ≤ d) (k0 : 0 ≤ k) (k1 : k < A 0) (ka : A (6 + 9 * k + 5) = 0) {m : Int} (m0 : 1 ≤ m) (m1 : m ≤ 4) : ∃ T1, zI T1 M A ∧ mv_cl L xs d k_X10_leastSpillByPruning [.ref 0, .int (Int32.ofInt k), .int (Int32.ofInt m)] (t, 142, mz T) = some (.inl (some (.int (Int32.ofInt (zPl m.toNat A k)))), (t, 142, mz T1)) := by
  have h9 := h
  obtain ⟨hI, rfl⟩ := h
  have h5 := hI.1.2.1
  obtain ⟨T1, f, e⟩ := c_X10_leastSpillByPruning (L := L) (xs := xs) (d := d) (t := t) (T := T) (b := k) (m := m) (by omega) hI.1 (by omega) (by omega) (by omega) (by omega)
  rw [if_pos (zfPlan_man k0 k1 m0 m1 ka)] at e
  exact ⟨T1, zI_fr h9 f, e⟩
theorem q_bestOpening (h : zI T M A) (hd : 12 ≤ d) (k0 : 0 ≤ k) (k1 : k < A 0) (ka : A (6 + 9 * k + 5) = 0) {m : Int} (m0 : 1 ≤ m) (m1 : m ≤ 4) : ∃ T1, zI T1 M A ∧ mv_cl L xs d k_X10_bestOpening [.ref 0, .int (Int32.ofInt k), .int (Int32.ofInt m)] (t, 142, mz T) = some (.inl (some (.int (Int32.ofInt (zPa (m.toNat - 1) A k)))), (t, 142, mz T1)) := by
  have h9 := h
  obtain ⟨hI, rfl⟩ := h
  have h5 := hI.1.2.1
  obtain ⟨T1, f, e⟩ := c_X10_bestOpening (L := L) (xs := xs) (d := d) (t := t) (T := T) (b := k) (m := m) (by omega) hI.1 (by omega) (by omega) (by omega) (by omega)
  rw [if_pos (zfPlan_man k0 k1 m0 m1 ka)] at e
  exact ⟨T1, zI_fr h9 f, e⟩
theorem q_rank (h : zI T M A) (hd : 12 ≤ d) (k0 : 0 ≤ k) (k1 : k < A 0) : mv_cl L xs d k_X10_basinAtRank [.ref 0, .int (Int32.ofInt k)] (t, 142, mz T) = some (.inl (some (.int (Int32.ofInt (rBr k (A 0) A (A 0).toNat 0)))), (t, 142, mz T)) := by
  obtain ⟨hI, rfl⟩ := h
  have h5 := hI.1.2.1
  have e := c_X10_basinAtRank (L := L) (xs := xs) (d := d) (t := t) (T := T) (r := k) (by omega) hI.1 (by omega) (by omega)
  rw [if_neg (by have := (rk_ok hI.1 k0 k1).1; omega)] at e
  exact e
theorem q_rankEnd (h : zI T M A) (hd : 12 ≤ d) : mv_cl L xs d k_L_basinAtRank [.ref 0, .int (Int32.ofInt (A 0))] (t, 142, mz T) = some (.inl (some (.int (Int32.ofInt (-30000)))), (t + 1, 142, mz T)) := by
  obtain ⟨hI, rfl⟩ := h
  have h4 := hI.1.1
  have h5 := hI.1.2.1
  obtain ⟨d, rfl⟩ : ∃ e, d = e + 1 := ⟨d - 1, by omega⟩
  have e := c_X10_basinAtRank (L := L) (xs := xs) (d := d) (t := t) (T := T) (r := T.1 o1 0) (by omega) hI.1 (by omega) (by omega)
  rw [if_pos (rk_out h4)] at e
  exact w_L_basinAtRank_5 e
theorem q_suf (h : zI T M A) (hd : 12 ≤ d) : ∃ (t' : Nat) (T1 : zT) (v : Int), t ≤ t' ∧ t' ≤ t + 1 ∧ zI T1 M A ∧ -30000 ≤ v ∧ v ≤ 31 ∧ (∀ m : Int, 0 ≤ m → m ≤ 30 → ((¬ v = -30000 ∧ v ≤ m) ↔ 0 < zSf (fun k => if 0 < zX A m.toNat k then 1 else 0) (A 0).toNat 0 0)) ∧ mv_cl L xs d k_L_stepsUntilFlood [.ref 0] (t, 142, mz T) = some (.inl (some (.int (Int32.ofInt v))), (t', 142, mz T1)) := by
  have h9 := h
  obtain ⟨hI, rfl⟩ := h
  obtain ⟨d, rfl⟩ : ∃ e, d = e + 1 := ⟨d - 1, by omega⟩
  obtain ⟨T1, f, e⟩ := c_X10_stepsUntilFlood (L := L) (xs := xs) (d := d) (t := t) (T := T) (by omega) hI.1
  have hb := zUf_bd 30 1 (zCpy (T.1 o1) (T.1 o25)) (by omega)
  by_cases q : zUf 30 1 (zCpy (T.1 o1) (T.1 o25)) < 0
  · rw [if_pos q] at e
    refine ⟨t + 1, T1, -30000, by omega, by omega, zI_fr h9 f, by omega, by omega, fun m m0 m1 => ?_, w_L_stepsUntilFlood_5 e⟩
    rw [← zUf_many hI.1 (T.1 o25) (by omega)]
    omega
  · rw [if_neg q] at e
    refine ⟨t, T1, _, by omega, by omega, zI_fr h9 f, by omega, by omega, fun m m0 m1 => ?_, w_L_stepsUntilFlood_ok e⟩
    rw [← zUf_many hI.1 (T.1 o25) (by omega)]
    omega
theorem q_bestProtection (h : zI T M A) (hd : 12 ≤ d) {g m : Int} (g0 : 0 ≤ g) (g1 : g ≤ 99) (m0 : 0 ≤ m) (m1 : m ≤ 30) : ∃ T1, zI T1 M A ∧ mv_cl L xs d k_X10_bestProtection [.ref 0, .int (Int32.ofInt g), .int (Int32.ofInt m)] (t, 142, mz T) = some (.inl (some (.int (Int32.ofInt (zMx (zX A m.toNat) (fun k => A (6 + 9 * k + 3)) g (A 0).toNat (zp2 (A 0)).toNat 0 0)))), (t, 142, mz T1)) := by
  have h9 := h
  obtain ⟨hI, rfl⟩ := h
  obtain ⟨T1, f, e⟩ := c_X10_bestProtection (L := L) (xs := xs) (d := d) (t := t) (T := T) (g := g) (m := m) (by omega) hI.1 (by omega) (by omega) (by omega) (by omega) (zSp_all hI.1 (by omega))
  rw [if_pos ⟨⟨g0, g1⟩, m0, m1⟩, zBp_X hI.1 m.toNat g0] at e
  exact ⟨T1, zI_fr h9 f, e⟩
theorem q_bestProtectionBySets (h : zI T M A) (hd : 12 ≤ d) {g m : Int} (g0 : 0 ≤ g) (g1 : g ≤ 99) (m0 : 0 ≤ m) (m1 : m ≤ 30) : ∃ T1, zI T1 M A ∧ mv_cl L xs d k_X10_bestProtectionBySets [.ref 0, .int (Int32.ofInt g), .int (Int32.ofInt m)] (t, 142, mz T) = some (.inl (some (.int (Int32.ofInt (zMx (zX A m.toNat) (fun k => A (6 + 9 * k + 3)) g (A 0).toNat (zp2 (A 0)).toNat 0 0)))), (t, 142, mz T1)) := by
  have h9 := h
  obtain ⟨hI, rfl⟩ := h
  obtain ⟨T1, f, e⟩ := c_X10_bestProtectionBySets (L := L) (xs := xs) (d := d) (t := t) (T := T) (g := g) (m := m) (by omega) hI.1 (by omega) (by omega) (by omega) (by omega) (zSp_all hI.1 (by omega))
  rw [if_pos ⟨⟨g0, g1⟩, m0, m1⟩, zBp_X hI.1 m.toNat g0] at e
  exact ⟨T1, zI_fr h9 f, e⟩
theorem q_bagsForAll (h : zI T M A) (hd : 12 ≤ d) {m : Int} (m0 : 0 ≤ m) (m1 : m ≤ 30) : ∃ T1, zI T1 M A ∧ mv_cl L xs d k_X10_bagsForAll [.ref 0, .int (Int32.ofInt m)] (t, 142, mz T) = some (.inl (some (.int (Int32.ofInt (zSf (zX A m.toNat) (A 0).toNat 0 0)))), (t, 142, mz T1)) := by
  have h9 := h
  obtain ⟨hI, rfl⟩ := h
  have h4 := hI.1.1
  obtain ⟨T1, f, e⟩ := c_X10_bagsForAll (L := L) (xs := xs) (d := d) (t := t) (T := T) (m := m) (by omega) hI.1 (by omega) (by omega) (zSp_all hI.1 (by omega))
  rw [if_pos ⟨m0, m1⟩, zSf_congr _ 0 0 (fun j a b => zX_sp hI.1 m.toNat a (by omega))] at e
  exact ⟨T1, zI_fr h9 f, e⟩
theorem q_endangered (h : zI T M A) (hd : 12 ≤ d) {m : Int} (m0 : 0 ≤ m) (m1 : m ≤ 30) : ∃ T1, zI T1 M A ∧ mv_cl L xs d k_X10_endangered [.ref 0, .int (Int32.ofInt m)] (t, 142, mz T) = some (.inl (some (.int (Int32.ofInt (zSf (fun k => if 0 < zX A m.toNat k then 1 else 0) (A 0).toNat 0 0)))), (t, 142, mz T1)) := by
  have h9 := h
  obtain ⟨hI, rfl⟩ := h
  have h4 := hI.1.1
  obtain ⟨T1, f, e⟩ := c_X10_endangered (L := L) (xs := xs) (d := d) (t := t) (T := T) (m := m) (by omega) hI.1 (by omega) (by omega) (zSp_all hI.1 (by omega))
  rw [if_pos ⟨m0, m1⟩, zSf_congr _ 0 0 (fun j a b => by show (if 0 < zSp T m.toNat j then (1 : Int) else 0) = (if 0 < zX (T.1 o1) m.toNat j then 1 else 0); rw [zX_sp hI.1 m.toNat a (by omega)])] at e
  exact ⟨T1, zI_fr h9 f, e⟩
theorem q_stored (h : zI T M A) (hd : 12 ≤ d) : mv_cl L xs d k_X10_stored [.ref 0] (t, 142, mz T) = some (.inl (some (.int (Int32.ofInt (zSm 1 (A 0).toNat 0 0 A)))), (t, 142, mz T)) := by
  obtain ⟨hI, rfl⟩ := h
  exact c_X10_stored (by omega) hI.1
theorem q_accounts (h : zI T M A) (hd : 12 ≤ d) (hM : M ≤ 1000000) : mv_cl L xs d k_X10_storedByAccounts [.ref 0] (t, 142, mz T) = some (.inl (some (.int (Int32.ofInt (zSm 1 (A 0).toNat 0 0 A)))), (t, 142, mz T)) := by
  have hT := zI_tb h
  have hC := zI_con h
  obtain ⟨hI, rfl⟩ := h
  have e := c_X10_storedByAccounts (L := L) (xs := xs) (d := d) (t := t) (T := T) (by omega) hI.1 (fun k k0 k1 => by
    obtain ⟨t0, t1, -, -, h8⟩ := hT
    have := h8 k k0 k1
    omega)
  rw [zBl_con hC] at e
  exact e
theorem q_mean (h : zI T M A) (hd : 12 ≤ d) (hn : 1 ≤ A 0) : mv_cl L xs d k_X10_meanFill [.ref 0] (t, 142, mz T) = some (.inl (some (.double (zMn64 A))), (t, 142, mz T)) := by
  obtain ⟨hI, rfl⟩ := h
  have e := c_X10_meanFill (L := L) (xs := xs) (d := d) (t := t) (T := T) (by omega) hI.1
  rw [if_pos (by omega)] at e
  exact e
theorem q_share (h : zI T M A) (hd : 12 ≤ d) (hM : M ≤ 1000000) (hn : 0 < A 1) : mv_cl L xs d k_X10_floodShare [.ref 0] (t, 142, mz T) = some (.inl (some (.float (zFs32 A))), (t, 142, mz T)) := by
  have hT := zI_tb h
  obtain ⟨hI, rfl⟩ := h
  obtain ⟨t0, t1, -⟩ := hT
  have e := c_X10_floodShare (L := L) (xs := xs) (d := d) (t := t) (T := T) (by omega) hI.1 (by omega) (by omega)
  rw [if_pos hn] at e
  exact e
theorem q_cons (h : zI T M A) (hd : 12 ≤ d) (hM : M ≤ 1000000) : ∃ T1, zI T1 M A ∧ mv_cl L xs d k_X10_isConsistent [.ref 0] (t, 142, mz T) = some (.inl (some (.int (Int32.ofInt 1))), (t, 142, mz T1)) := by
  have h9 := h
  obtain ⟨hI, rfl⟩ := h
  obtain ⟨T1, f, e⟩ := c_X10_isConsistent (L := L) (xs := xs) (d := d) (t := t) (T := T) (by omega) hI.1 hI.2.1 hI.2.2.1 hM (fun T' e1 k k0 k1 => by
    have hW : zWF (T'.1 o1) 99 := by rw [e1]; exact hI.1
    exact zSp_all hW (by omega) k k0 (by rw [e1]; exact k1))
  exact ⟨T1, zI_fr h9 f, e⟩
theorem q_writeChain (h : zI T M A) (hd : 12 ≤ d) : (zTc3 A (A 0).toNat).length ≤ 54 ∧ (∀ v ∈ zTc3 A (A 0).toNat, 0 ≤ v ∧ v < 128) ∧ ∃ T1, zI T1 M A ∧ (∀ (t : Nat) (j : Nat) (v : Int), (zTc3 A (A 0).toNat)[j]? = some v → mv_cl L xs 2 k_X10_outputAt [.ref 0, .int (nI j)] (t, 142, mz T1) = some (.inl (some (.int (Int32.ofInt v))), (t, 142, mz T1))) ∧ mv_cl L xs d k_X10_writeChain [.ref 0] (t, 142, mz T) = some (.inl (some (.int (nI (zTc3 A (A 0).toNat).length))), (t, 142, mz T1)) := by
  have h9 := h
  obtain ⟨hI, rfl⟩ := h
  have h4 : 0 ≤ T.1 o1 0 := by have := zI_5 h9; omega
  have hl : (zTc3 (T.1 o1) (T.1 o1 0).toNat).length ≤ 54 := by have h5 := hI.1.2.1; have := zTc3_ln hI.1 (T.1 o1 0).toNat (by omega); omega
  have hc : ∀ v ∈ zTc3 (T.1 o1) (T.1 o1 0).toNat, 0 ≤ v ∧ v < 128 := zTc3_in hI.1 _ (by omega)
  have e := c_X10_writeChain (L := L) (xs := xs) (d := d) (t := t) (T := T) (by omega) rfl hI.1
  have ez := zAp_c hI.1 (0, T.1 141) (T.1 o1 0).toNat 0 (by omega)
  rw [show ((0 : Nat) : Int) = 0 from rfl, show 0 + (T.1 o1 0).toNat = (T.1 o1 0).toNat by omega] at ez
  rw [show zAp (zTc3 (T.1 o1) 0) (0, T.1 141) = (0, T.1 141) from rfl] at ez
  rw [ez] at e
  refine ⟨hl, hc, sD (sD T 140 (upR (T.1 140) 1 (zAp (zTc3 (T.1 o1) (T.1 o1 0).toNat) (0, T.1 141)).1)) 141 (zAp (zTc3 (T.1 o1) (T.1 o1 0).toNat) (0, T.1 141)).2, zI_of h9 (by rfl) ?_ ?_, fun t j v hj => zAp_out hl hc j v hj, ?_⟩
  · rw [sD_ne _ _ (by decide), sD_ne _ _ (by decide)]
  · rw [sD_ne _ _ (by decide), sD_ne _ _ (by decide)]
  · rw [e]
    have e1 : (zAp (zTc3 (T.1 o1) (T.1 o1 0).toNat) (0, T.1 141)).1 = ((zTc3 (T.1 o1) (T.1 o1 0).toNat).length : Int) := by
      rw [zAp_1]
      show (0 : Int) + _ = _
      omega
    rw [e1]
    rfl
theorem q_writeForecast (h : zI T M A) (hd : 12 ≤ d) : (zTf3 A (A 2).toNat).length ≤ 54 ∧ (∀ v ∈ zTf3 A (A 2).toNat, 0 ≤ v ∧ v < 128) ∧ ∃ T1, zI T1 M A ∧ (∀ (t : Nat) (j : Nat) (v : Int), (zTf3 A (A 2).toNat)[j]? = some v → mv_cl L xs 2 k_X10_outputAt [.ref 0, .int (nI j)] (t, 142, mz T1) = some (.inl (some (.int (Int32.ofInt v))), (t, 142, mz T1))) ∧ mv_cl L xs d k_X10_writeForecast [.ref 0] (t, 142, mz T) = some (.inl (some (.int (nI (zTf3 A (A 2).toNat).length))), (t, 142, mz T1)) := by
  have h9 := h
  obtain ⟨hI, rfl⟩ := h
  have h4 : 0 ≤ T.1 o1 2 := by have := zI_5 h9; omega
  have hl : (zTf3 (T.1 o1) (T.1 o1 2).toNat).length ≤ 54 := by have h5 := hI.1.2.2.2.1; have := zTf3_ln hI.1 (T.1 o1 2).toNat (by omega); omega
  have hc : ∀ v ∈ zTf3 (T.1 o1) (T.1 o1 2).toNat, 0 ≤ v ∧ v < 128 := zTf3_in hI.1 _ (by omega)
  have e := c_X10_writeForecast (L := L) (xs := xs) (d := d) (t := t) (T := T) (by omega) rfl hI.1
  have ez := zAp_f hI.1 (0, T.1 141) (T.1 o1 2).toNat 0 (by omega)
  rw [show ((0 : Nat) : Int) = 0 from rfl, show 0 + (T.1 o1 2).toNat = (T.1 o1 2).toNat by omega] at ez
  rw [show zAp (zTf3 (T.1 o1) 0) (0, T.1 141) = (0, T.1 141) from rfl] at ez
  rw [ez] at e
  refine ⟨hl, hc, sD (sD T 140 (upR (T.1 140) 1 (zAp (zTf3 (T.1 o1) (T.1 o1 2).toNat) (0, T.1 141)).1)) 141 (zAp (zTf3 (T.1 o1) (T.1 o1 2).toNat) (0, T.1 141)).2, zI_of h9 (by rfl) ?_ ?_, fun t j v hj => zAp_out hl hc j v hj, ?_⟩
  · rw [sD_ne _ _ (by decide), sD_ne _ _ (by decide)]
  · rw [sD_ne _ _ (by decide), sD_ne _ _ (by decide)]
  · rw [e]
    have e1 : (zAp (zTf3 (T.1 o1) (T.1 o1 2).toNat) (0, T.1 141)).1 = ((zTf3 (T.1 o1) (T.1 o1 2).toNat).length : Int) := by
      rw [zAp_1]
      show (0 : Int) + _ = _
      omega
    rw [e1]
    rfl
end ASK
