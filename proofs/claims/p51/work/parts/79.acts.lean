/-! THE LAW'S COMMANDS -/
section CMDS
variable {L : Nat} {xs : Nat → Int32} {d t : Nat} {T : zT} {M : Int}
theorem zPs_n0 : ∀ (n : Nat) {A : Int → Int}, zWF A 99 → zPs n A 0 = A 0
  | 0, _, _ => rfl
  | n + 1, A, hA => by rw [zPs, zPs_n0 n (zSt_wf hA), zSt_0 hA.2.1]
theorem zCo_n0 {A : Int → Int} {p q r : Int} : ∀ {k : Nat}, k < 8 → zWF A 99 → zfOf k A p q r = 1010 → zCo k A p q r 0 = if k = 0 then A 0 + 1 else A 0
  | 0, _, hA, hf => by unfold zCo; simp only [if_true]; exact upR_eq _ _ _
  | 1, _, hA, hf => by
    unfold zfOf zfGate at hf
    simp only at hf
    repeat' split at hf
    all_goals try omega
    unfold zCo
    simp only
    rw [upR_ne _ _ (by omega), if_neg (by decide)]
  | 2, _, hA, hf => by
    unfold zfOf zfAt zfR at hf
    simp only at hf
    repeat' split at hf
    all_goals try omega
    unfold zCo
    simp only
    rw [upR_ne _ _ (by omega), upR_ne _ _ (by omega), if_neg (by decide)]
  | 3, _, hA, hf => by
    unfold zfOf zfHand at hf
    simp only at hf
    repeat' split at hf
    all_goals try omega
    unfold zCo
    simp only
    rw [upR_ne _ _ (by omega), if_neg (by decide)]
  | 4, _, hA, hf => by
    have a2 := hA.2.2.1
    unfold zCo
    simp only
    rw [upR_ne _ _ (by omega), upR_ne _ _ (by omega), if_neg (by decide)]
  | 5, _, hA, hf => by unfold zCo; simp only; rw [upR_ne _ _ (by omega), if_neg (by decide)]
  | 6, _, hA, hf => by
    unfold zfOf zfPour at hf
    simp only at hf
    repeat' split at hf
    all_goals try omega
    unfold zCo
    simp only
    rw [upR_ne _ _ (by omega), upR_ne _ _ (by omega), if_neg (by decide)]
  | 7, _, hA, hf => by unfold zCo; simp only; rw [zPs_n0 _ hA, if_neg (by decide)]
  | k + 8, h, _, _ => absurd h (by omega)
/-- the state behind a command, refused or not -/
def zNx (T : zT) (t : Nat) (M : Int) (t' : Nat) (T' : zT) : Prop := t ≤ t' ∧ t' ≤ t + 1 ∧ zIn T' (M + 30) ∧ T.1 o1 0 ≤ T'.1 o1 0
theorem zNx_ok {k : Nat} (hk : k < 8) {p q r : Int} (hI : zIn T M) (hf : zfOf k (T.1 o1) p q r = 1010) : zNx T t M t (sD (zRm T) o1 (zCo k (T.1 o1) p q r)) := by
  refine ⟨Nat.le_refl _, Nat.le_succ _, zIn_ch hk hI hf, ?_⟩
  rw [sD_eq, zCo_n0 hk hI.1 hf]
  split <;> omega
theorem zNx_no (hI : zIn T M) : zNx T t M (t + 1) T := ⟨Nat.le_succ _, Nat.le_refl _, zIn_up hI (by omega), Int.le_refl _⟩
theorem zNx_id (hI : zIn T M) : zNx T t M t T := ⟨Nat.le_refl _, Nat.le_succ _, zIn_up hI (by omega), Int.le_refl _⟩
theorem x_L_addBasin (hd : 8 ≤ d) (hI : zIn T M) {p q r : Int} (p1 : -2147483648 ≤ p) (p2 : p < 2147483648) (q1 : -2147483648 ≤ q) (q2 : q < 2147483648) (r1 : -2147483648 ≤ r) (r2 : r < 2147483648) : ∃ (x : Int32) (t' : Nat) (T' : zT), zNx T t M t' T' ∧ (10 ≤ p ∧ p ≤ 99 ∧ 0 ≤ q ∧ q ≤ 3 ∧ 0 ≤ r ∧ r ≤ 99 ∧ T.1 o1 0 < 5 → T'.1 o1 0 = T.1 o1 0 + 1) ∧ mv_cl L xs d k_L_addBasin [.ref 0, .int (Int32.ofInt p), .int (Int32.ofInt q), .int (Int32.ofInt r)] (t, 142, mz T) = some (.inl (some (.int x)), (t', 142, mz T')) := by
  obtain ⟨d, rfl⟩ : ∃ y, d = y + 1 := ⟨d - 1, by omega⟩
  have hc := c_X10_addBasin (L := L) (xs := xs) (d := d) (t := t) (by omega) hI.1 hI.2.2.2.2.1 p1 p2 q1 q2 r1 r2
  by_cases hf : zfOf 0 (T.1 o1) p q r = 1010
  · rw [if_pos hf] at hc
    exact ⟨_, _, _, zNx_ok (by decide) hI hf, fun _ => by rw [sD_eq, zCo_n0 (by decide) hI.1 hf, if_pos rfl], w_L_addBasin_ok hc⟩
  · rw [if_neg hf] at hc
    have hv : zfOf 0 (T.1 o1) p q r = 1012 ∨ zfOf 0 (T.1 o1) p q r = 1013 := by
      unfold zfOf zfNew at hf ⊢
      simp only at hf ⊢
      repeat' split at hf
      all_goals simp_all
    rcases hv with hv | hv
    · rw [hv] at hc
      exact ⟨_, _, _, zNx_no hI, fun hh => absurd (show zfOf 0 (T.1 o1) p q r = 1010 by unfold zfOf zfNew; simp only; rw [if_neg (by omega), if_neg (by omega)]) hf, w_L_addBasin_0 hc⟩
    · rw [hv] at hc
      exact ⟨_, _, _, zNx_no hI, fun hh => absurd (show zfOf 0 (T.1 o1) p q r = 1010 by unfold zfOf zfNew; simp only; rw [if_neg (by omega), if_neg (by omega)]) hf, w_L_addBasin_1 hc⟩
theorem x_L_setGate (hd : 8 ≤ d) (hI : zIn T M) {p q : Int} (p1 : -2147483648 ≤ p) (p2 : p < 2147483648) (q1 : -2147483648 ≤ q) (q2 : q < 2147483648) : ∃ (x : Int32) (t' : Nat) (T' : zT), zNx T t M t' T' ∧ mv_cl L xs d k_L_setGate [.ref 0, .int (Int32.ofInt p), .int (Int32.ofInt q)] (t, 142, mz T) = some (.inl (some (.int x)), (t', 142, mz T')) := by
  obtain ⟨d, rfl⟩ : ∃ y, d = y + 1 := ⟨d - 1, by omega⟩
  have hc := c_X10_setGate (L := L) (xs := xs) (d := d) (t := t) (by omega) hI.1 hI.2.2.2.2.1 p1 p2 q1 q2
  by_cases hf : zfOf 1 (T.1 o1) p q 0 = 1010
  · rw [if_pos hf] at hc
    exact ⟨_, _, _, zNx_ok (by decide) hI hf, w_L_setGate_ok hc⟩
  · rw [if_neg hf] at hc
    have hv : zfOf 1 (T.1 o1) p q 0 = 1011 ∨ zfOf 1 (T.1 o1) p q 0 = 1012 ∨ zfOf 1 (T.1 o1) p q 0 = 1013 := by
      have := zfOf_bd 1 (T.1 o1) p q 0
      omega
    rcases hv with hv | hv | hv
    · rw [hv] at hc
      exact ⟨_, _, _, zNx_no hI, w_L_setGate_2 hc⟩
    · rw [hv] at hc
      exact ⟨_, _, _, zNx_no hI, w_L_setGate_0 hc⟩
    · rw [hv] at hc
      exact ⟨_, _, _, zNx_no hI, w_L_setGate_1 hc⟩
theorem x_L_setAutomatic (hd : 8 ≤ d) (hI : zIn T M) {p q : Int} (p1 : -2147483648 ≤ p) (p2 : p < 2147483648) (q1 : -2147483648 ≤ q) (q2 : q < 2147483648) : ∃ (x : Int32) (t' : Nat) (T' : zT), zNx T t M t' T' ∧ mv_cl L xs d k_L_setAutomatic [.ref 0, .int (Int32.ofInt p), .int (Int32.ofInt q)] (t, 142, mz T) = some (.inl (some (.int x)), (t', 142, mz T')) := by
  obtain ⟨d, rfl⟩ : ∃ y, d = y + 1 := ⟨d - 1, by omega⟩
  have hc := c_X10_setAutomatic (L := L) (xs := xs) (d := d) (t := t) (by omega) hI.1 hI.2.2.2.2.1 p1 p2 q1 q2
  by_cases hf : zfOf 2 (T.1 o1) p q 0 = 1010
  · rw [if_pos hf] at hc
    exact ⟨_, _, _, zNx_ok (by decide) hI hf, w_L_setAutomatic_ok hc⟩
  · rw [if_neg hf] at hc
    have hv : zfOf 2 (T.1 o1) p q 0 = 1011 ∨ zfOf 2 (T.1 o1) p q 0 = 1012 := by
      unfold zfOf zfAt zfR at hf ⊢
      simp only at hf ⊢
      by_cases c1 : 0 ≤ p ∧ p < T.1 o1 0
      · by_cases c2 : q < 0 ∨ 99 < q
        · simp only [if_pos c1, if_pos c2] at hf ⊢; first | omega | decide | exact absurd trivial hf | simp
        · simp only [if_pos c1, if_neg c2] at hf ⊢; first | omega | decide | exact absurd trivial hf | simp
      · simp only [if_neg c1] at hf ⊢; first | omega | decide | simp
    rcases hv with hv | hv
    · rw [hv] at hc
      exact ⟨_, _, _, zNx_no hI, w_L_setAutomatic_2 hc⟩
    · rw [hv] at hc
      exact ⟨_, _, _, zNx_no hI, w_L_setAutomatic_0 hc⟩
theorem x_L_setManual (hd : 8 ≤ d) (hI : zIn T M) {p : Int} (p1 : -2147483648 ≤ p) (p2 : p < 2147483648) : ∃ (x : Int32) (t' : Nat) (T' : zT), zNx T t M t' T' ∧ mv_cl L xs d k_L_setManual [.ref 0, .int (Int32.ofInt p)] (t, 142, mz T) = some (.inl (some (.int x)), (t', 142, mz T')) := by
  obtain ⟨d, rfl⟩ : ∃ y, d = y + 1 := ⟨d - 1, by omega⟩
  have hc := c_X10_setManual (L := L) (xs := xs) (d := d) (t := t) (by omega) hI.1 hI.2.2.2.2.1 p1 p2
  by_cases hf : zfOf 3 (T.1 o1) p 0 0 = 1010
  · rw [if_pos hf] at hc
    exact ⟨_, _, _, zNx_ok (by decide) hI hf, w_L_setManual_ok hc⟩
  · rw [if_neg hf] at hc
    have hv : zfOf 3 (T.1 o1) p 0 0 = 1011 ∨ zfOf 3 (T.1 o1) p 0 0 = 1013 := by
      unfold zfOf zfHand at hf ⊢
      simp only at hf ⊢
      by_cases c1 : 0 ≤ p ∧ p < T.1 o1 0
      · by_cases c2 : T.1 o1 (6 + 9 * p + 5) = 0
        · simp only [if_pos c1, if_pos c2] at hf ⊢; first | omega | decide | exact absurd trivial hf | simp
        · simp only [if_pos c1, if_neg c2] at hf ⊢; first | omega | decide | exact absurd trivial hf | simp
      · simp only [if_neg c1] at hf ⊢; first | omega | decide | simp
    rcases hv with hv | hv
    · rw [hv] at hc
      exact ⟨_, _, _, zNx_no hI, w_L_setManual_2 hc⟩
    · rw [hv] at hc
      exact ⟨_, _, _, zNx_no hI, w_L_setManual_1 hc⟩
theorem x_L_addRain (hd : 8 ≤ d) (hI : zIn T M) {p : Int} (p1 : -2147483648 ≤ p) (p2 : p < 2147483648) : ∃ (x : Int32) (t' : Nat) (T' : zT), zNx T t M t' T' ∧ mv_cl L xs d k_L_addRain [.ref 0, .int (Int32.ofInt p)] (t, 142, mz T) = some (.inl (some (.int x)), (t', 142, mz T')) := by
  obtain ⟨d, rfl⟩ : ∃ y, d = y + 1 := ⟨d - 1, by omega⟩
  have hc := c_X10_addRain (L := L) (xs := xs) (d := d) (t := t) (by omega) hI.1 hI.2.2.2.2.1 p1 p2
  by_cases hf : zfOf 4 (T.1 o1) p 0 0 = 1010
  · rw [if_pos hf] at hc
    exact ⟨_, _, _, zNx_ok (by decide) hI hf, w_L_addRain_ok hc⟩
  · rw [if_neg hf] at hc
    have hv : zfOf 4 (T.1 o1) p 0 0 = 1012 ∨ zfOf 4 (T.1 o1) p 0 0 = 1013 := by
      unfold zfOf zfRain at hf ⊢
      simp only at hf ⊢
      repeat' split at hf
      all_goals simp_all
    rcases hv with hv | hv
    · rw [hv] at hc
      exact ⟨_, _, _, zNx_no hI, w_L_addRain_0 hc⟩
    · rw [hv] at hc
      exact ⟨_, _, _, zNx_no hI, w_L_addRain_1 hc⟩
theorem x_L_pour (hd : 8 ≤ d) (hI : zIn T M) {p q : Int} (p1 : -2147483648 ≤ p) (p2 : p < 2147483648) (q1 : -2147483648 ≤ q) (q2 : q < 2147483648) : ∃ (x : Int32) (t' : Nat) (T' : zT), zNx T t M t' T' ∧ mv_cl L xs d k_L_pour [.ref 0, .int (Int32.ofInt p), .int (Int32.ofInt q)] (t, 142, mz T) = some (.inl (some (.int x)), (t', 142, mz T')) := by
  obtain ⟨d, rfl⟩ : ∃ y, d = y + 1 := ⟨d - 1, by omega⟩
  have hc := c_X10_pour (L := L) (xs := xs) (d := d) (t := t) (by omega) hI.1 hI.2.2.2.2.1 p1 p2 q1 q2
  by_cases hf : zfOf 6 (T.1 o1) p q 0 = 1010
  · rw [if_pos hf] at hc
    exact ⟨_, _, _, zNx_ok (by decide) hI hf, w_L_pour_ok hc⟩
  · rw [if_neg hf] at hc
    have hv : zfOf 6 (T.1 o1) p q 0 = 1011 ∨ zfOf 6 (T.1 o1) p q 0 = 1012 ∨ zfOf 6 (T.1 o1) p q 0 = 1013 := by
      have := zfOf_bd 6 (T.1 o1) p q 0
      omega
    rcases hv with hv | hv | hv
    · rw [hv] at hc
      exact ⟨_, _, _, zNx_no hI, w_L_pour_2 hc⟩
    · rw [hv] at hc
      exact ⟨_, _, _, zNx_no hI, w_L_pour_0 hc⟩
    · rw [hv] at hc
      exact ⟨_, _, _, zNx_no hI, w_L_pour_1 hc⟩
theorem x_L_advance (hd : 8 ≤ d) (hI : zIn T M) {p : Int} (p1 : -2147483648 ≤ p) (p2 : p < 2147483648) : ∃ (x : Int32) (t' : Nat) (T' : zT), zNx T t M t' T' ∧ mv_cl L xs d k_L_advance [.ref 0, .int (Int32.ofInt p)] (t, 142, mz T) = some (.inl (some (.int x)), (t', 142, mz T')) := by
  obtain ⟨d, rfl⟩ : ∃ y, d = y + 1 := ⟨d - 1, by omega⟩
  have hc := c_X10_advance (L := L) (xs := xs) (d := d) (t := t) (by omega) hI.1 hI.2.2.2.2.1 p1 p2
  by_cases hf : zfOf 7 (T.1 o1) p 0 0 = 1010
  · rw [if_pos hf] at hc
    exact ⟨_, _, _, zNx_ok (by decide) hI hf, w_L_advance_ok hc⟩
  · rw [if_neg hf] at hc
    have hv : zfOf 7 (T.1 o1) p 0 0 = 1012 := by
      unfold zfOf zfR at hf ⊢
      simp only at hf ⊢
      repeat' split at hf
      all_goals simp_all
    rw [hv] at hc
    exact ⟨_, _, _, zNx_no hI, w_L_advance_0 hc⟩
end CMDS

