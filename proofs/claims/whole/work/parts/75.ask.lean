/-! A CALL ON BOTH SIDES: QUESTIONS -/
/-- the reference answers v with code c, and stays -/
def zAn (L : Nat) (xs : Nat → Int32) (d km : Nat) (as : List Value) (T : zT) (v c : Int) : Prop := ∀ (t : Nat) (S : zT), S.1 142 = T.1 142 → S.1 143 = T.1 143 → S.1 146 = T.1 146 → ∃ F' A', mv_cl L xs d km (.ref 142 :: as) (t, 149, mz S) = some (.inl (some (.int (Int32.ofInt v))), (t, 149, mz (sD (sD S 142 F') 143 A'))) ∧ F' 0 = c ∧ (∀ j, ¬ j = 0 → ¬ j = 4 → ¬ j = 5 → F' j = T.1 142 j) ∧ (∀ j, j < 630 → A' j = T.1 143 j)
/-- class, by the law's wrapper, and reference answer alike -/
def zGo (P : Int → Prop) (L : Nat) (xs : Nat → Int32) (d kw km : Nat) (as : List Value) (T : zT) (t : Nat) (N : Int) : Prop := ∃ (c b : Int) (t2 : Nat) (T1 T2 : zT), mv_cl L xs d kw (.ref 0 :: (as ++ [.ref 147])) (t, 149, mz T) = some (.inl (some (.int (Int32.ofInt c))), (t2, 149, mz T1)) ∧ mv_cl L xs d km (.ref 142 :: as) (t2, 149, mz T1) = some (.inl (some (.int (Int32.ofInt b))), (t2, 149, mz T2)) ∧ T2.1 142 0 = c ∧ (0 ≤ c ∧ c ≤ 9) ∧ (-2147483648 ≤ b ∧ b < 2147483648) ∧ P b ∧ (c = 0 → T2.1 147 0 = b) ∧ t2 ≤ t + 1 ∧ zIv T2 N
section GO
variable {L : Nat} {xs : Nat → Int32} {d t kw km : Nat} {as : List Value} {T T1 : zT} {N v c : Int} {P : Int → Prop}
theorem go_ok (hI : zIv T N) (s : zFr T T1) (v1 : -2147483648 ≤ v) (v2 : v < 2147483648) (hw : mv_cl L xs d kw (.ref 0 :: (as ++ [.ref 147])) (t, 149, mz T) = some (.inl (some (.int (Int32.ofInt 0))), (t, 149, mz (sD T1 147 (upR (T1.1 147) 0 v))))) (hm : zAn L xs d km as T v 0) (hP : P v) : zGo P L xs d kw km as T t N := by
  have e2 : (sD T1 147 (upR (T1.1 147) 0 v)).1 142 = T.1 142 := by rw [sD_ne _ _ (by decide)]; exact s.2 142 (zJ_no (by omega))
  have e3 : (sD T1 147 (upR (T1.1 147) 0 v)).1 143 = T.1 143 := by rw [sD_ne _ _ (by decide)]; exact s.2 143 (zJ_no (by omega))
  have e6 : (sD T1 147 (upR (T1.1 147) 0 v)).1 146 = T.1 146 := by rw [sD_ne _ _ (by decide)]; exact s.2 146 (zJ_no (by omega))
  obtain ⟨F', A', h1, h2, h3, h4⟩ := hm t _ e2 e3 e6
  refine ⟨0, v, t, _, _, hw, h1, ?_, by omega, ⟨v1, v2⟩, hP, fun _ => ?_, by omega, ?_⟩
  · rw [sD_ne _ _ (by decide), sD_eq]; exact h2
  · rw [sD_ne _ _ (by decide), sD_ne _ _ (by decide), sD_eq, upR_eq]
  · exact zIv_same hI (zSame_trans (zSame_trans (zSame_fr s) (zSame_147 T1 _)) (zSame_q (fun j a b c => by rw [e2]; exact h3 j a b c) (fun j a => by rw [e3]; exact h4 j a)))
theorem go_no (hI : zIv T N) (s : zFr T T1) (c1 : 1 ≤ c) (c9 : c ≤ 9) (v1 : -2147483648 ≤ v) (v2 : v < 2147483648) (hw : mv_cl L xs d kw (.ref 0 :: (as ++ [.ref 147])) (t, 149, mz T) = some (.inl (some (.int (Int32.ofInt c))), (t + 1, 149, mz T1))) (hm : zAn L xs d km as T v c) (hP : P v) : zGo P L xs d kw km as T t N := by
  have e2 : T1.1 142 = T.1 142 := s.2 142 (zJ_no (by omega))
  have e3 : T1.1 143 = T.1 143 := s.2 143 (zJ_no (by omega))
  have e6 : T1.1 146 = T.1 146 := s.2 146 (zJ_no (by omega))
  obtain ⟨F', A', h1, h2, h3, h4⟩ := hm (t + 1) _ e2 e3 e6
  refine ⟨c, v, t + 1, _, _, hw, h1, ?_, by omega, ⟨v1, v2⟩, hP, fun _ => by omega, by omega, ?_⟩
  · rw [sD_ne _ _ (by decide), sD_eq]; exact h2
  · exact zIv_same hI (zSame_trans (zSame_fr s) (zSame_q (fun j a b c => by rw [e2]; exact h3 j a b c) (fun j a => by rw [e3]; exact h4 j a)))
theorem zz_46 {S : zT} {F O : Int → Int} (e2 : S.1 142 = F) (e6 : S.1 146 = O) : sD (sD S 142 F) 146 O = S := by subst e2; subst e6; rw [sD_id, sD_id]
theorem zz_46' {S : zT} {F O : Int → Int} (e6 : S.1 146 = O) : sD (sD S 142 F) 146 O = sD S 142 F := by
  have : O = (sD S 142 F).1 146 := by rw [sD_ne _ _ (by decide)]; exact e6.symm
  rw [this, sD_id]
theorem zz_42 {S : zT} {F : Int → Int} (e2 : S.1 142 = F) : sD S 142 F = S := by subst e2; rw [sD_id]
theorem rCp_lo {u : Int} {A : Int → Int} (hu : 10 ≤ u) {j : Int} (hj : j < 630) : rCp 0 u A j = A j := rCp_ne 0 u A (by omega)
theorem rCp_lo2 {n : Nat} {A : Int → Int} {j : Int} (hj : j < 630) : (if n = 0 then A else rCp 0 11 A) j = A j := by
  by_cases q : n = 0
  · rw [if_pos q]
  · rw [if_neg q]; exact rCp_lo (by omega) hj
theorem s_capacity (hd : 12 ≤ d) (hN : N ≤ 1000000) (hI : zIv T N) {x : Int32} : zGo (fun _ => True) L xs (d + 1) k_L_capacity k_X11_capacity [.int x] T t N := by
  obtain ⟨b, b1, b2, rfl⟩ := ze_int x
  obtain ⟨hW, hB, hL, hC, hT⟩ := hI.1
  have e0 := hL.1
  have hx := c_X10_capacity (L := L) (xs := xs) (d := d) (t := t) (T := T) (by omega) hW b1 b2
  by_cases q : 0 ≤ b ∧ b < T.1 o1 0
  · rw [if_pos q] at hx
    have ve := zL_bas hL q.1 q.2 (w := 0) (by omega) (by omega) (by omega)
    have vb := hW.2.2.2.2.1 b q.1 q.2
    unfold zOK at vb
    refine go_ok hI (zFr_refl T) (by omega) (by omega) (w_L_capacity_ok (by omega) (by omega) hx) ?_ trivial
    intro t S e2 e3 _
    have h := c_X11_capacity (L := L) (xs := xs) (d := d + 1) (t := t) (T := S) (F := T.1 142) (A := T.1 143) (by omega) hB.1 hB.2.1 b1 b2
    rw [zz_id e2 e3, if_pos (by omega), if_pos (by omega), ← ve] at h
    exact ⟨_, _, h, upR_eq _ _ _, fun j a _ _ => upR_ne _ _ a, fun _ _ => rfl⟩
  · rw [if_neg q] at hx
    refine go_no (v := 0) hI (zFr_refl T) (by omega) (by omega) (by omega) (by omega) (w_L_capacity_2 hx) ?_ trivial
    intro t S e2 e3 _
    have h := c_X11_capacity (L := L) (xs := xs) (d := d + 1) (t := t) (T := S) (F := T.1 142) (A := T.1 143) (by omega) hB.1 hB.2.1 b1 b2
    rw [zz_id e2 e3, if_neg (by omega), if_neg (by omega)] at h
    exact ⟨_, _, h, upR_eq _ _ _, fun j a _ _ => upR_ne _ _ a, fun _ _ => rfl⟩
theorem s_level (hd : 12 ≤ d) (hN : N ≤ 1000000) (hI : zIv T N) {x : Int32} : zGo (fun _ => True) L xs (d + 1) k_L_level k_X11_level [.int x] T t N := by
  obtain ⟨b, b1, b2, rfl⟩ := ze_int x
  obtain ⟨hW, hB, hL, hC, hT⟩ := hI.1
  have e0 := hL.1
  have hx := c_X10_level (L := L) (xs := xs) (d := d) (t := t) (T := T) (by omega) hW b1 b2
  by_cases q : 0 ≤ b ∧ b < T.1 o1 0
  · rw [if_pos q] at hx
    have ve := zL_bas hL q.1 q.2 (w := 1) (by omega) (by omega) (by omega)
    have vb := hW.2.2.2.2.1 b q.1 q.2
    unfold zOK at vb
    refine go_ok hI (zFr_refl T) (by omega) (by omega) (w_L_level_ok (by omega) (by omega) hx) ?_ trivial
    intro t S e2 e3 _
    have h := c_X11_level (L := L) (xs := xs) (d := d + 1) (t := t) (T := S) (F := T.1 142) (A := T.1 143) (by omega) hB.1 hB.2.1 b1 b2
    rw [zz_id e2 e3, if_pos (by omega), if_pos (by omega), ← ve] at h
    exact ⟨_, _, h, upR_eq _ _ _, fun j a _ _ => upR_ne _ _ a, fun _ _ => rfl⟩
  · rw [if_neg q] at hx
    refine go_no (v := 0) hI (zFr_refl T) (by omega) (by omega) (by omega) (by omega) (w_L_level_2 hx) ?_ trivial
    intro t S e2 e3 _
    have h := c_X11_level (L := L) (xs := xs) (d := d + 1) (t := t) (T := S) (F := T.1 142) (A := T.1 143) (by omega) hB.1 hB.2.1 b1 b2
    rw [zz_id e2 e3, if_neg (by omega), if_neg (by omega)] at h
    exact ⟨_, _, h, upR_eq _ _ _, fun j a _ _ => upR_ne _ _ a, fun _ _ => rfl⟩
theorem s_catchment (hd : 12 ≤ d) (hN : N ≤ 1000000) (hI : zIv T N) {x : Int32} : zGo (fun _ => True) L xs (d + 1) k_L_catchment k_X11_catchment [.int x] T t N := by
  obtain ⟨b, b1, b2, rfl⟩ := ze_int x
  obtain ⟨hW, hB, hL, hC, hT⟩ := hI.1
  have e0 := hL.1
  have hx := c_X10_catchment (L := L) (xs := xs) (d := d) (t := t) (T := T) (by omega) hW b1 b2
  by_cases q : 0 ≤ b ∧ b < T.1 o1 0
  · rw [if_pos q] at hx
    have ve := zL_bas hL q.1 q.2 (w := 2) (by omega) (by omega) (by omega)
    have vb := hW.2.2.2.2.1 b q.1 q.2
    unfold zOK at vb
    refine go_ok hI (zFr_refl T) (by omega) (by omega) (w_L_catchment_ok (by omega) (by omega) hx) ?_ trivial
    intro t S e2 e3 _
    have h := c_X11_catchment (L := L) (xs := xs) (d := d + 1) (t := t) (T := S) (F := T.1 142) (A := T.1 143) (by omega) hB.1 hB.2.1 b1 b2
    rw [zz_id e2 e3, if_pos (by omega), if_pos (by omega), ← ve] at h
    exact ⟨_, _, h, upR_eq _ _ _, fun j a _ _ => upR_ne _ _ a, fun _ _ => rfl⟩
  · rw [if_neg q] at hx
    refine go_no (v := 0) hI (zFr_refl T) (by omega) (by omega) (by omega) (by omega) (w_L_catchment_2 hx) ?_ trivial
    intro t S e2 e3 _
    have h := c_X11_catchment (L := L) (xs := xs) (d := d + 1) (t := t) (T := S) (F := T.1 142) (A := T.1 143) (by omega) hB.1 hB.2.1 b1 b2
    rw [zz_id e2 e3, if_neg (by omega), if_neg (by omega)] at h
    exact ⟨_, _, h, upR_eq _ _ _, fun j a _ _ => upR_ne _ _ a, fun _ _ => rfl⟩
theorem s_fieldValue (hd : 12 ≤ d) (hN : N ≤ 1000000) (hI : zIv T N) {x : Int32} : zGo (fun _ => True) L xs (d + 1) k_L_fieldValue k_X11_fieldValue [.int x] T t N := by
  obtain ⟨b, b1, b2, rfl⟩ := ze_int x
  obtain ⟨hW, hB, hL, hC, hT⟩ := hI.1
  have e0 := hL.1
  have hx := c_X10_fieldValue (L := L) (xs := xs) (d := d) (t := t) (T := T) (by omega) hW b1 b2
  by_cases q : 0 ≤ b ∧ b < T.1 o1 0
  · rw [if_pos q] at hx
    have ve := zL_bas hL q.1 q.2 (w := 3) (by omega) (by omega) (by omega)
    have vb := hW.2.2.2.2.1 b q.1 q.2
    unfold zOK at vb
    refine go_ok hI (zFr_refl T) (by omega) (by omega) (w_L_fieldValue_ok (by omega) (by omega) hx) ?_ trivial
    intro t S e2 e3 _
    have h := c_X11_fieldValue (L := L) (xs := xs) (d := d + 1) (t := t) (T := S) (F := T.1 142) (A := T.1 143) (by omega) hB.1 hB.2.1 b1 b2
    rw [zz_id e2 e3, if_pos (by omega), if_pos (by omega), ← ve] at h
    exact ⟨_, _, h, upR_eq _ _ _, fun j a _ _ => upR_ne _ _ a, fun _ _ => rfl⟩
  · rw [if_neg q] at hx
    refine go_no (v := 0) hI (zFr_refl T) (by omega) (by omega) (by omega) (by omega) (w_L_fieldValue_2 hx) ?_ trivial
    intro t S e2 e3 _
    have h := c_X11_fieldValue (L := L) (xs := xs) (d := d + 1) (t := t) (T := S) (F := T.1 142) (A := T.1 143) (by omega) hB.1 hB.2.1 b1 b2
    rw [zz_id e2 e3, if_neg (by omega), if_neg (by omega)] at h
    exact ⟨_, _, h, upR_eq _ _ _, fun j a _ _ => upR_ne _ _ a, fun _ _ => rfl⟩
theorem s_opening (hd : 12 ≤ d) (hN : N ≤ 1000000) (hI : zIv T N) {x : Int32} : zGo (fun _ => True) L xs (d + 1) k_L_opening k_X11_opening [.int x] T t N := by
  obtain ⟨b, b1, b2, rfl⟩ := ze_int x
  obtain ⟨hW, hB, hL, hC, hT⟩ := hI.1
  have e0 := hL.1
  have hx := c_X10_opening (L := L) (xs := xs) (d := d) (t := t) (T := T) (by omega) hW b1 b2
  by_cases q : 0 ≤ b ∧ b < T.1 o1 0
  · rw [if_pos q] at hx
    have ve := zL_bas hL q.1 q.2 (w := 4) (by omega) (by omega) (by omega)
    have vb := hW.2.2.2.2.1 b q.1 q.2
    unfold zOK at vb
    refine go_ok hI (zFr_refl T) (by omega) (by omega) (w_L_opening_ok (by omega) (by omega) hx) ?_ trivial
    intro t S e2 e3 _
    have h := c_X11_opening (L := L) (xs := xs) (d := d + 1) (t := t) (T := S) (F := T.1 142) (A := T.1 143) (by omega) hB.1 hB.2.1 b1 b2
    rw [zz_id e2 e3, if_pos (by omega), if_pos (by omega), ← ve] at h
    exact ⟨_, _, h, upR_eq _ _ _, fun j a _ _ => upR_ne _ _ a, fun _ _ => rfl⟩
  · rw [if_neg q] at hx
    refine go_no (v := 0) hI (zFr_refl T) (by omega) (by omega) (by omega) (by omega) (w_L_opening_2 hx) ?_ trivial
    intro t S e2 e3 _
    have h := c_X11_opening (L := L) (xs := xs) (d := d + 1) (t := t) (T := S) (F := T.1 142) (A := T.1 143) (by omega) hB.1 hB.2.1 b1 b2
    rw [zz_id e2 e3, if_neg (by omega), if_neg (by omega)] at h
    exact ⟨_, _, h, upR_eq _ _ _, fun j a _ _ => upR_ne _ _ a, fun _ _ => rfl⟩
theorem s_spilled (hd : 12 ≤ d) (hN : N ≤ 1000000) (hI : zIv T N) {x : Int32} : zGo (fun _ => True) L xs (d + 1) k_L_spilled k_X11_spilled [.int x] T t N := by
  obtain ⟨b, b1, b2, rfl⟩ := ze_int x
  obtain ⟨hW, hB, hL, hC, hT⟩ := hI.1
  have e0 := hL.1
  have hx := c_X10_spilled (L := L) (xs := xs) (d := d) (t := t) (T := T) (by omega) hW b1 b2
  by_cases q : 0 ≤ b ∧ b < T.1 o1 0
  · rw [if_pos q] at hx
    have ve := zL_bas hL q.1 q.2 (w := 7) (by omega) (by omega) (by omega)
    have vb := hT.2.2.2.2 b q.1 q.2
    have vt := hT.2.1
    refine go_ok hI (zFr_refl T) (by omega) (by omega) (w_L_spilled_ok (by omega) (by omega) hx) ?_ trivial
    intro t S e2 e3 _
    have h := c_X11_spilled (L := L) (xs := xs) (d := d + 1) (t := t) (T := S) (F := T.1 142) (A := T.1 143) (by omega) hB.1 hB.2.1 b1 b2
    rw [zz_id e2 e3, if_pos (by omega), if_pos (by omega), ← ve] at h
    exact ⟨_, _, h, upR_eq _ _ _, fun j a _ _ => upR_ne _ _ a, fun _ _ => rfl⟩
  · rw [if_neg q] at hx
    refine go_no (v := 0) hI (zFr_refl T) (by omega) (by omega) (by omega) (by omega) (w_L_spilled_2 hx) ?_ trivial
    intro t S e2 e3 _
    have h := c_X11_spilled (L := L) (xs := xs) (d := d + 1) (t := t) (T := S) (F := T.1 142) (A := T.1 143) (by omega) hB.1 hB.2.1 b1 b2
    rw [zz_id e2 e3, if_neg (by omega), if_neg (by omega)] at h
    exact ⟨_, _, h, upR_eq _ _ _, fun j a _ _ => upR_ne _ _ a, fun _ _ => rfl⟩
theorem s_floodedSteps (hd : 12 ≤ d) (hN : N ≤ 1000000) (hI : zIv T N) {x : Int32} : zGo (fun _ => True) L xs (d + 1) k_L_floodedSteps k_X11_floodedSteps [.int x] T t N := by
  obtain ⟨b, b1, b2, rfl⟩ := ze_int x
  obtain ⟨hW, hB, hL, hC, hT⟩ := hI.1
  have e0 := hL.1
  have hx := c_X10_floodedSteps (L := L) (xs := xs) (d := d) (t := t) (T := T) (by omega) hW b1 b2
  by_cases q : 0 ≤ b ∧ b < T.1 o1 0
  · rw [if_pos q] at hx
    have ve := zL_bas hL q.1 q.2 (w := 8) (by omega) (by omega) (by omega)
    have vb := hT.2.2.2.2 b q.1 q.2
    have vt := hT.2.1
    refine go_ok hI (zFr_refl T) (by omega) (by omega) (w_L_floodedSteps_ok (by omega) (by omega) hx) ?_ trivial
    intro t S e2 e3 _
    have h := c_X11_floodedSteps (L := L) (xs := xs) (d := d + 1) (t := t) (T := S) (F := T.1 142) (A := T.1 143) (by omega) hB.1 hB.2.1 b1 b2
    rw [zz_id e2 e3, if_pos (by omega), if_pos (by omega), ← ve] at h
    exact ⟨_, _, h, upR_eq _ _ _, fun j a _ _ => upR_ne _ _ a, fun _ _ => rfl⟩
  · rw [if_neg q] at hx
    refine go_no (v := 0) hI (zFr_refl T) (by omega) (by omega) (by omega) (by omega) (w_L_floodedSteps_2 hx) ?_ trivial
    intro t S e2 e3 _
    have h := c_X11_floodedSteps (L := L) (xs := xs) (d := d + 1) (t := t) (T := S) (F := T.1 142) (A := T.1 143) (by omega) hB.1 hB.2.1 b1 b2
    rw [zz_id e2 e3, if_neg (by omega), if_neg (by omega)] at h
    exact ⟨_, _, h, upR_eq _ _ _, fun j a _ _ => upR_ne _ _ a, fun _ _ => rfl⟩
theorem s_isAutomatic (hd : 12 ≤ d) (hN : N ≤ 1000000) (hI : zIv T N) {x : Int32} : zGo (fun b => b = 0 ∨ b = 1) L xs (d + 1) k_L_isAutomatic k_X11_isAutomatic [.int x] T t N := by
  obtain ⟨b, b1, b2, rfl⟩ := ze_int x
  obtain ⟨hW, hB, hL, hC, hT⟩ := hI.1
  have e0 := hL.1
  have hx := c_X10_isAutomatic (L := L) (xs := xs) (d := d) (t := t) (T := T) (by omega) hW b1 b2
  by_cases q : 0 ≤ b ∧ b < T.1 o1 0
  · rw [if_pos q] at hx
    have ve := zL_bas hL q.1 q.2 (w := 5) (by omega) (by omega) (by omega)
    have vb := hW.2.2.2.2.1 b q.1 q.2
    unfold zOK at vb
    refine go_ok hI (zFr_refl T) (by omega) (by omega) (w_L_isAutomatic_ok (by omega) hx) ?_ (by omega)
    intro t S e2 e3 _
    have h := c_X11_isAutomatic (L := L) (xs := xs) (d := d + 1) (t := t) (T := S) (F := T.1 142) (A := T.1 143) (by omega) hB.1 hB.2.1 b1 b2 hB.2.2.2.2.1
    rw [zz_id e2 e3, if_pos (by omega), if_pos (by omega), ← ve] at h
    exact ⟨_, _, h, upR_eq _ _ _, fun j a _ _ => upR_ne _ _ a, fun _ _ => rfl⟩
  · rw [if_neg q] at hx
    refine go_no (v := 0) hI (zFr_refl T) (by omega) (by omega) (by omega) (by omega) (w_L_isAutomatic_2 hx) ?_ (by omega)
    intro t S e2 e3 _
    have h := c_X11_isAutomatic (L := L) (xs := xs) (d := d + 1) (t := t) (T := S) (F := T.1 142) (A := T.1 143) (by omega) hB.1 hB.2.1 b1 b2 hB.2.2.2.2.1
    rw [zz_id e2 e3, if_neg (by omega), if_neg (by omega)] at h
    exact ⟨_, _, h, upR_eq _ _ _, fun j a _ _ => upR_ne _ _ a, fun _ _ => rfl⟩
theorem s_threshold (hd : 12 ≤ d) (hN : N ≤ 1000000) (hI : zIv T N) {x : Int32} : zGo (fun _ => True) L xs (d + 1) k_L_threshold k_X11_threshold [.int x] T t N := by
  obtain ⟨b, b1, b2, rfl⟩ := ze_int x
  obtain ⟨hW, hB, hL, hC, hT⟩ := hI.1
  have e0 := hL.1
  have hx := c_X10_threshold (L := L) (xs := xs) (d := d) (t := t) (T := T) (by omega) hW b1 b2
  by_cases q : 0 ≤ b ∧ b < T.1 o1 0
  · rw [if_pos q] at hx
    have a5 := zL_bas hL q.1 q.2 (w := 5) (by omega) (by omega) (by omega)
    have vb := hW.2.2.2.2.1 b q.1 q.2
    unfold zOK at vb
    by_cases g : T.1 o1 (6 + 9 * b + 5) = 1
    · rw [if_pos g] at hx
      have ve : T.1 o1 (6 + 9 * b + 6) = T.1 143 (6 + 9 * b + 6) := hL.2.2.2.2.1 b 6 q.1 q.2 (by omega) (by omega) (fun _ => g)
      refine go_ok hI (zFr_refl T) (by omega) (by omega) (w_L_threshold_ok (by omega) (by omega) hx) ?_ trivial
      intro t S e2 e3 _
      have h := c_X11_threshold (L := L) (xs := xs) (d := d + 1) (t := t) (T := S) (F := T.1 142) (A := T.1 143) (by omega) hB.1 hB.2.1 b1 b2 hB.2.2.2.2.1
      rw [zz_id e2 e3, if_pos (by omega), if_neg (by omega), if_pos (by omega), if_neg (by omega), ← ve] at h
      exact ⟨_, _, h, upR_eq _ _ _, fun j a _ _ => upR_ne _ _ a, fun _ _ => rfl⟩
    · rw [if_neg g] at hx
      refine go_no (v := 0) hI (zFr_refl T) (by omega) (by omega) (by omega) (by omega) (w_L_threshold_5 hx) ?_ trivial
      intro t S e2 e3 _
      have h := c_X11_threshold (L := L) (xs := xs) (d := d + 1) (t := t) (T := S) (F := T.1 142) (A := T.1 143) (by omega) hB.1 hB.2.1 b1 b2 hB.2.2.2.2.1
      rw [zz_id e2 e3, if_pos (by omega), if_pos (by omega), if_pos (by omega), if_pos (by omega)] at h
      exact ⟨_, _, h, upR_eq _ _ _, fun j a _ _ => upR_ne _ _ a, fun _ _ => rfl⟩
  · rw [if_neg q] at hx
    refine go_no (v := 0) hI (zFr_refl T) (by omega) (by omega) (by omega) (by omega) (w_L_threshold_2 hx) ?_ trivial
    intro t S e2 e3 _
    have h := c_X11_threshold (L := L) (xs := xs) (d := d + 1) (t := t) (T := S) (F := T.1 142) (A := T.1 143) (by omega) hB.1 hB.2.1 b1 b2 hB.2.2.2.2.1
    rw [zz_id e2 e3, if_neg (by omega), if_neg (by omega)] at h
    exact ⟨_, _, h, upR_eq _ _ _, fun j a _ _ => upR_ne _ _ a, fun _ _ => rfl⟩
theorem s_rainAt (hd : 12 ≤ d) (hN : N ≤ 1000000) (hI : zIv T N) {x : Int32} : zGo (fun _ => True) L xs (d + 1) k_L_rainAt k_X11_rainAt [.int x] T t N := by
  obtain ⟨b, b1, b2, rfl⟩ := ze_int x
  obtain ⟨hW, hB, hL, hC, hT⟩ := hI.1
  have e0 := hL.1
  have e2 := hL.2.2.1
  have hx := c_X10_rainAt (L := L) (xs := xs) (d := d) (t := t) (T := T) (by omega) hW b1 b2
  by_cases q : 0 ≤ b ∧ b < T.1 o1 2
  · rw [if_pos q] at hx
    have ve := hL.2.2.2.2.2 b q.1 q.2
    have vb := hW.2.2.2.2.2 b q.1 q.2
    refine go_ok hI (zFr_refl T) (by omega) (by omega) (w_L_rainAt_ok (by omega) (by omega) hx) ?_ trivial
    intro t S e2 e3 _
    have h := c_X11_rainAt (L := L) (xs := xs) (d := d + 1) (t := t) (T := S) (F := T.1 142) (A := T.1 143) (by omega) hB.2.2.1 hB.2.2.2.1 b1 b2
    rw [zz_id e2 e3, if_pos (by omega), if_pos (by omega), ← ve] at h
    exact ⟨_, _, h, upR_eq _ _ _, fun j a _ _ => upR_ne _ _ a, fun _ _ => rfl⟩
  · rw [if_neg q] at hx
    refine go_no (v := 0) hI (zFr_refl T) (by omega) (by omega) (by omega) (by omega) (w_L_rainAt_2 hx) ?_ trivial
    intro t S e2 e3 _
    have h := c_X11_rainAt (L := L) (xs := xs) (d := d + 1) (t := t) (T := S) (F := T.1 142) (A := T.1 143) (by omega) hB.2.2.1 hB.2.2.2.1 b1 b2
    rw [zz_id e2 e3, if_neg (by omega), if_neg (by omega)] at h
    exact ⟨_, _, h, upR_eq _ _ _, fun j a _ _ => upR_ne _ _ a, fun _ _ => rfl⟩
theorem s_basinAtRank (hd : 12 ≤ d) (hN : N ≤ 1000000) (hI : zIv T N) {x : Int32} : zGo (fun _ => True) L xs (d + 1) k_L_basinAtRank k_X11_basinAtRank [.int x] T t N := by
  obtain ⟨b, b1, b2, rfl⟩ := ze_int x
  obtain ⟨hW, hB, hL, hC, hT⟩ := hI.1
  have e0 := hL.1
  have hx := c_X10_basinAtRank (L := L) (xs := xs) (d := d) (t := t) (T := T) (by omega) hW b1 b2
  have w0 := hW.1
  have w5 := hW.2.1
  have er := rBr_r hW hL (r := b) (N := T.1 143 0) e0.symm (T.1 143 0).toNat 0 (by omega) (by omega)
  rw [e0, er] at hx
  have bb := rBr_bd b (T.1 143 0) (T.1 143) (T.1 143 0).toNat 0
  by_cases q : rBr b (T.1 143 0) (T.1 143) (T.1 143 0).toNat 0 < 0
  · rw [if_pos q] at hx
    refine go_no (v := 0) hI (zFr_refl T) (by omega) (by omega) (by omega) (by omega) (w_L_basinAtRank_5 hx) ?_ trivial
    intro t S e2 e3 _
    have h := c_X11_basinAtRank (L := L) (xs := xs) (d := d + 1) (t := t) (T := S) (F := T.1 142) (A := T.1 143) (by omega) b1 b2 hB
    rw [zz_id e2 e3, if_pos q, if_pos q] at h
    exact ⟨_, _, h, upR_eq _ _ _, fun j a _ _ => upR_ne _ _ a, fun _ _ => rfl⟩
  · rw [if_neg q] at hx
    refine go_ok hI (zFr_refl T) (by omega) (by omega) (w_L_basinAtRank_ok (by omega) (by omega) hx) ?_ trivial
    intro t S e2 e3 _
    have h := c_X11_basinAtRank (L := L) (xs := xs) (d := d + 1) (t := t) (T := S) (F := T.1 142) (A := T.1 143) (by omega) b1 b2 hB
    rw [zz_id e2 e3, if_neg q, if_neg q] at h
    exact ⟨_, _, h, upR_eq _ _ _, fun j a _ _ => upR_ne _ _ a, fun _ _ => rfl⟩
theorem s_levelAfter (hd : 12 ≤ d) (hN : N ≤ 1000000) (hI : zIv T N) {x y : Int32} : zGo (fun _ => True) L xs (d + 1) k_L_levelAfter k_X11_levelAfter [.int x, .int y] T t N := by
  obtain ⟨b, b1, b2, rfl⟩ := ze_int x
  obtain ⟨m, m1, m2, rfl⟩ := ze_int y
  obtain ⟨hW, hB, hL, hC, hT⟩ := hI.1
  have e0 := hL.1
  have hx := c_X10_levelAfter (L := L) (xs := xs) (d := d) (t := t) (T := T) (by omega) hW b1 b2 m1 m2
  by_cases q : 0 ≤ b ∧ b < T.1 o1 0
  · by_cases g : 0 ≤ m ∧ m ≤ 30
    · rw [if_pos (zfAt_is.1.mpr ⟨q, g.1, g.2⟩)] at hx
      have ve := zL_after hW hB hL (T.1 o25) m.toNat (b := b) (w := 1) q.1 q.2 (by omega) (by omega) (by omega)
      have hZ := zPs_wf m.toNat (zWF_cpy hW (T.1 o25))
      have vb : 0 ≤ zPs m.toNat (zCpy (T.1 o1) (T.1 o25)) (6 + 9 * b + 1) ∧ zPs m.toNat (zCpy (T.1 o1) (T.1 o25)) (6 + 9 * b + 1) ≤ 99 := by
        have := hZ.2.2.2.2.1 b q.1 (by rw [zPs_0 _ (zWF_cpy hW _), (zL_cpy hW _).1]; exact q.2)
        unfold zOK at this
        omega
      refine go_ok hI (zFr_sD (zFr_refl T) zJ_25) (by omega) (by omega) (w_L_levelAfter_ok (by omega) (by omega) hx) ?_ trivial
      intro t S e2 e3 _
      have h := c_X11_levelAfter (L := L) (xs := xs) (d := d + 1) (t := t) (T := S) (F := T.1 142) (A := T.1 143) (by omega) hB b1 b2 m1 m2
      rw [zz_id e2 e3, if_pos (by omega), if_pos (by omega), if_pos (by omega), if_pos (by omega), if_pos (by omega), if_pos (by omega), ← ve] at h
      exact ⟨_, _, h, upR_eq _ _ _, fun j a _ _ => upR_ne _ _ a, fun _ a => rCp_lo (by omega) a⟩
    · rw [show zfAt (T.1 o1) b m 0 30 = 1012 by unfold zfAt zfR; rw [if_pos q, if_pos (by omega)], if_neg (by decide), show zE 1012 = 0 from rfl] at hx
      refine go_no (v := 0) hI (zFr_refl T) (by omega) (by omega) (by omega) (by omega) (w_L_levelAfter_0 hx) ?_ trivial
      intro t S e2 e3 _
      have h := c_X11_levelAfter (L := L) (xs := xs) (d := d + 1) (t := t) (T := S) (F := T.1 142) (A := T.1 143) (by omega) hB b1 b2 m1 m2
      rw [zz_id e2 e3, if_pos (by omega), if_neg (by omega), if_pos (by omega), if_neg (by omega), if_pos (by omega), if_neg (by omega)] at h
      exact ⟨_, _, h, upR_eq _ _ _, fun j a _ _ => upR_ne _ _ a, fun _ _ => rfl⟩
  · rw [show zfAt (T.1 o1) b m 0 30 = 1011 by unfold zfAt; rw [if_neg q], if_neg (by decide), show zE 1011 = 2 from rfl] at hx
    refine go_no (v := 0) hI (zFr_refl T) (by omega) (by omega) (by omega) (by omega) (w_L_levelAfter_2 hx) ?_ trivial
    intro t S e2 e3 _
    have h := c_X11_levelAfter (L := L) (xs := xs) (d := d + 1) (t := t) (T := S) (F := T.1 142) (A := T.1 143) (by omega) hB b1 b2 m1 m2
    rw [zz_id e2 e3, if_neg (by omega), if_neg (by omega), if_neg (by omega)] at h
    exact ⟨_, _, h, upR_eq _ _ _, fun j a _ _ => upR_ne _ _ a, fun _ _ => rfl⟩
theorem s_spillOf (hd : 12 ≤ d) (hN : N ≤ 1000000) (hI : zIv T N) {x y : Int32} : zGo (fun _ => True) L xs (d + 1) k_L_spillOf k_X11_spillOf [.int x, .int y] T t N := by
  obtain ⟨b, b1, b2, rfl⟩ := ze_int x
  obtain ⟨m, m1, m2, rfl⟩ := ze_int y
  obtain ⟨hW, hB, hL, hC, hT⟩ := hI.1
  have e0 := hL.1
  have hx := c_X10_spillOf (L := L) (xs := xs) (d := d) (t := t) (T := T) (by omega) hW b1 b2 m1 m2
  by_cases q : 0 ≤ b ∧ b < T.1 o1 0
  · by_cases g : 0 ≤ m ∧ m ≤ 30
    · rw [if_pos (zfAt_is.1.mpr ⟨q, g.1, g.2⟩)] at hx
      obtain ⟨ve, v0, v9⟩ := zSp_r hW hB hL m.toNat q.1 q.2
      refine go_ok hI (zFr_sD (zFr_refl T) zJ_25) (by omega) (by omega) (w_L_spillOf_ok (by omega) (by omega) hx) ?_ trivial
      intro t S e2 e3 _
      have h := c_X11_spillOf (L := L) (xs := xs) (d := d + 1) (t := t) (T := S) (F := T.1 142) (A := T.1 143) (by omega) hB b1 b2 m1 m2
      rw [zz_id e2 e3, if_pos (by omega), if_pos (by omega), if_pos (by omega), if_pos (by omega), if_pos (by omega), if_pos (by omega), ← ve] at h
      exact ⟨_, _, h, upR_eq _ _ _, fun j a _ _ => upR_ne _ _ a, fun _ a => rCp_lo (by omega) a⟩
    · rw [show zfAt (T.1 o1) b m 0 30 = 1012 by unfold zfAt zfR; rw [if_pos q, if_pos (by omega)], if_neg (by decide), show zE 1012 = 0 from rfl] at hx
      refine go_no (v := 0) hI (zFr_refl T) (by omega) (by omega) (by omega) (by omega) (w_L_spillOf_0 hx) ?_ trivial
      intro t S e2 e3 _
      have h := c_X11_spillOf (L := L) (xs := xs) (d := d + 1) (t := t) (T := S) (F := T.1 142) (A := T.1 143) (by omega) hB b1 b2 m1 m2
      rw [zz_id e2 e3, if_pos (by omega), if_neg (by omega), if_pos (by omega), if_neg (by omega), if_pos (by omega), if_neg (by omega)] at h
      exact ⟨_, _, h, upR_eq _ _ _, fun j a _ _ => upR_ne _ _ a, fun _ _ => rfl⟩
  · rw [show zfAt (T.1 o1) b m 0 30 = 1011 by unfold zfAt; rw [if_neg q], if_neg (by decide), show zE 1011 = 2 from rfl] at hx
    refine go_no (v := 0) hI (zFr_refl T) (by omega) (by omega) (by omega) (by omega) (w_L_spillOf_2 hx) ?_ trivial
    intro t S e2 e3 _
    have h := c_X11_spillOf (L := L) (xs := xs) (d := d + 1) (t := t) (T := S) (F := T.1 142) (A := T.1 143) (by omega) hB b1 b2 m1 m2
    rw [zz_id e2 e3, if_neg (by omega), if_neg (by omega), if_neg (by omega)] at h
    exact ⟨_, _, h, upR_eq _ _ _, fun j a _ _ => upR_ne _ _ a, fun _ _ => rfl⟩
theorem s_stepsUntilFlood (hd : 12 ≤ d) (hN : N ≤ 1000000) (hI : zIv T N) : zGo (fun _ => True) L xs (d + 1) k_L_stepsUntilFlood k_X11_stepsUntilFlood [] T t N := by
  obtain ⟨hW, hB, hL, hC, hT⟩ := hI.1
  have e0 := hL.1
  obtain ⟨T', hf, hx⟩ := c_X10_stepsUntilFlood (L := L) (xs := xs) (d := d) (t := t) (T := T) (by omega) hW
  obtain ⟨z1, z2, z3⟩ := zL_ahead hW hB hL (T.1 o25)
  have er := zUf_r 30 1 z1 z2 z3
  have bb := zUf_bd 30 1 (zCpy (T.1 o1) (T.1 o25)) (by omega)
  rw [er] at hx bb
  by_cases q : rUf 30 1 (rCp 0 11 (T.1 143)) < 0
  · rw [if_pos q] at hx
    refine go_no (v := 0) hI hf (by omega) (by omega) (by omega) (by omega) (w_L_stepsUntilFlood_5 hx) ?_ trivial
    intro t S e2 e3 _
    have h := c_X11_stepsUntilFlood (L := L) (xs := xs) (d := d + 1) (t := t) (T := S) (F := T.1 142) (A := T.1 143) (by omega) hB
    rw [zz_id e2 e3, if_pos q, if_pos q] at h
    exact ⟨_, _, h, upR_eq _ _ _, fun j a _ _ => upR_ne _ _ a, fun _ a => rCp_lo (by omega) a⟩
  · rw [if_neg q] at hx
    refine go_ok hI hf (by omega) (by omega) (w_L_stepsUntilFlood_ok (by omega) (by omega) hx) ?_ trivial
    intro t S e2 e3 _
    have h := c_X11_stepsUntilFlood (L := L) (xs := xs) (d := d + 1) (t := t) (T := S) (F := T.1 142) (A := T.1 143) (by omega) hB
    rw [zz_id e2 e3, if_neg q, if_neg q] at h
    exact ⟨_, _, h, upR_eq _ _ _, fun j a _ _ => upR_ne _ _ a, fun _ a => rCp_lo (by omega) a⟩
theorem s_leastSpill (hd : 12 ≤ d) (hN : N ≤ 1000000) (hI : zIv T N) {x y : Int32} : zGo (fun _ => True) L xs (d + 1) k_L_leastSpill k_X11_leastSpill [.int x, .int y] T t N := by
  obtain ⟨b, b1, b2, rfl⟩ := ze_int x
  obtain ⟨m, m1, m2, rfl⟩ := ze_int y
  obtain ⟨hW, hB, hL, hC, hT⟩ := hI.1
  have e0 := hL.1
  obtain ⟨T', hf, hx⟩ := c_X10_leastSpill (L := L) (xs := xs) (d := d) (t := t) (T := T) (by omega) hW b1 b2 m1 m2
  have ef := zfPlan_r hL b m
  have er := @zfPlan_rng (T.1 143) b m
  rw [ef] at hx
  by_cases q : zfPlan (T.1 143) b m = 1010
  · rw [if_pos q] at hx
    have hq : (0 ≤ b ∧ b < T.1 143 0) ∧ 1 ≤ m ∧ m ≤ 4 := by
      unfold zfPlan at q
      split at q
      · next h =>
        split at q
        · omega
        · exact ⟨h, by omega⟩
      · omega
    have vb : 0 ≤ zPl m.toNat (T.1 o1) b ∧ zPl m.toNat (T.1 o1) b ≤ 10000 := by
      have := zPl_bd m.toNat hW hq.1.1 (by omega)
      omega
    refine go_ok hI hf (by omega) (by omega) (w_L_leastSpill_ok (by omega) (by omega) hx) ?_ trivial
    intro t S e2 e3 _
    obtain ⟨A', hr, h⟩ := c_X11_leastSpill (L := L) (xs := xs) (d := d + 1) (t := t) (T := S) (F := T.1 142) (A := T.1 143) (C := T.1 o1) (by omega) hB hW hL b1 b2 m1 m2
    rw [zz_id e2 e3, if_pos q, if_pos q] at h
    exact ⟨_, A', h, by rw [upR_ne _ _ (by decide), upR_eq], fun j a _ c => by rw [upR_ne _ _ c, upR_ne _ _ a], fun j a => hr j (by omega)⟩
  · rw [if_neg q] at hx
    have hm : zAn L xs (d + 1) k_X11_leastSpill [.int (Int32.ofInt b), .int (Int32.ofInt m)] T 0 ((zfPlan (T.1 143) b m : Nat) - 1010) := by
      intro t S e2 e3 _
      obtain ⟨A', hr, h⟩ := c_X11_leastSpill (L := L) (xs := xs) (d := d + 1) (t := t) (T := S) (F := T.1 142) (A := T.1 143) (C := T.1 o1) (by omega) hB hW hL b1 b2 m1 m2
      rw [zz_id e2 e3, if_neg q, if_neg q] at h
      exact ⟨_, A', h, upR_eq _ _ _, fun j a _ _ => upR_ne _ _ a, fun j a => hr j (by omega)⟩
    rcases (by omega : zfPlan (T.1 143) b m = 1011 ∨ zfPlan (T.1 143) b m = 1012 ∨ zfPlan (T.1 143) b m = 1013) with e | e | e
    · rw [e, show zE 1011 = 2 from rfl] at hx
      rw [e, show (((1011 : Nat) : Int) - 1010) = 1 from rfl] at hm
      exact go_no (v := 0) hI (zFr_refl T) (by omega) (by omega) (by omega) (by omega) (w_L_leastSpill_2 hx) hm trivial
    · rw [e, show zE 1012 = 0 from rfl] at hx
      rw [e, show (((1012 : Nat) : Int) - 1010) = 2 from rfl] at hm
      exact go_no (v := 0) hI (zFr_refl T) (by omega) (by omega) (by omega) (by omega) (w_L_leastSpill_0 hx) hm trivial
    · rw [e, show zE 1013 = 1 from rfl] at hx
      rw [e, show (((1013 : Nat) : Int) - 1010) = 3 from rfl] at hm
      exact go_no (v := 0) hI (zFr_refl T) (by omega) (by omega) (by omega) (by omega) (w_L_leastSpill_1 hx) hm trivial
theorem s_leastSpillByPruning (hd : 12 ≤ d) (hN : N ≤ 1000000) (hI : zIv T N) {x y : Int32} : zGo (fun _ => True) L xs (d + 1) k_L_leastSpillByPruning k_X11_leastSpillByPruning [.int x, .int y] T t N := by
  obtain ⟨b, b1, b2, rfl⟩ := ze_int x
  obtain ⟨m, m1, m2, rfl⟩ := ze_int y
  obtain ⟨hW, hB, hL, hC, hT⟩ := hI.1
  have e0 := hL.1
  obtain ⟨T', hf, hx⟩ := c_X10_leastSpillByPruning (L := L) (xs := xs) (d := d) (t := t) (T := T) (by omega) hW b1 b2 m1 m2
  have ef := zfPlan_r hL b m
  have er := @zfPlan_rng (T.1 143) b m
  rw [ef] at hx
  by_cases q : zfPlan (T.1 143) b m = 1010
  · rw [if_pos q] at hx
    have hq : (0 ≤ b ∧ b < T.1 143 0) ∧ 1 ≤ m ∧ m ≤ 4 := by
      unfold zfPlan at q
      split at q
      · next h =>
        split at q
        · omega
        · exact ⟨h, by omega⟩
      · omega
    have vb : 0 ≤ zPl m.toNat (T.1 o1) b ∧ zPl m.toNat (T.1 o1) b ≤ 10000 := by
      have := zPl_bd m.toNat hW hq.1.1 (by omega)
      omega
    refine go_ok hI hf (by omega) (by omega) (w_L_leastSpillByPruning_ok (by omega) (by omega) hx) ?_ trivial
    intro t S e2 e3 _
    obtain ⟨A', hr, h⟩ := c_X11_leastByPruning (L := L) (xs := xs) (d := d + 1) (t := t) (T := S) (F := T.1 142) (A := T.1 143) (C := T.1 o1) (by omega) hB hW hL b1 b2 m1 m2
    rw [zz_id e2 e3, if_pos q, if_pos q] at h
    exact ⟨_, A', h, by rw [upR_ne _ _ (by decide), upR_eq], fun j a _ c => by rw [upR_ne _ _ c, upR_ne _ _ a], fun j a => hr j (by omega)⟩
  · rw [if_neg q] at hx
    have hm : zAn L xs (d + 1) k_X11_leastSpillByPruning [.int (Int32.ofInt b), .int (Int32.ofInt m)] T 0 ((zfPlan (T.1 143) b m : Nat) - 1010) := by
      intro t S e2 e3 _
      obtain ⟨A', hr, h⟩ := c_X11_leastByPruning (L := L) (xs := xs) (d := d + 1) (t := t) (T := S) (F := T.1 142) (A := T.1 143) (C := T.1 o1) (by omega) hB hW hL b1 b2 m1 m2
      rw [zz_id e2 e3, if_neg q, if_neg q] at h
      exact ⟨_, A', h, upR_eq _ _ _, fun j a _ _ => upR_ne _ _ a, fun j a => hr j (by omega)⟩
    rcases (by omega : zfPlan (T.1 143) b m = 1011 ∨ zfPlan (T.1 143) b m = 1012 ∨ zfPlan (T.1 143) b m = 1013) with e | e | e
    · rw [e, show zE 1011 = 2 from rfl] at hx
      rw [e, show (((1011 : Nat) : Int) - 1010) = 1 from rfl] at hm
      exact go_no (v := 0) hI (zFr_refl T) (by omega) (by omega) (by omega) (by omega) (w_L_leastSpillByPruning_2 hx) hm trivial
    · rw [e, show zE 1012 = 0 from rfl] at hx
      rw [e, show (((1012 : Nat) : Int) - 1010) = 2 from rfl] at hm
      exact go_no (v := 0) hI (zFr_refl T) (by omega) (by omega) (by omega) (by omega) (w_L_leastSpillByPruning_0 hx) hm trivial
    · rw [e, show zE 1013 = 1 from rfl] at hx
      rw [e, show (((1013 : Nat) : Int) - 1010) = 3 from rfl] at hm
      exact go_no (v := 0) hI (zFr_refl T) (by omega) (by omega) (by omega) (by omega) (w_L_leastSpillByPruning_1 hx) hm trivial
theorem s_bestOpening (hd : 12 ≤ d) (hN : N ≤ 1000000) (hI : zIv T N) {x y : Int32} : zGo (fun _ => True) L xs (d + 1) k_L_bestOpening k_X11_bestOpening [.int x, .int y] T t N := by
  obtain ⟨b, b1, b2, rfl⟩ := ze_int x
  obtain ⟨m, m1, m2, rfl⟩ := ze_int y
  obtain ⟨hW, hB, hL, hC, hT⟩ := hI.1
  have e0 := hL.1
  obtain ⟨T', hf, hx⟩ := c_X10_bestOpening (L := L) (xs := xs) (d := d) (t := t) (T := T) (by omega) hW b1 b2 m1 m2
  have ef := zfPlan_r hL b m
  have er := @zfPlan_rng (T.1 143) b m
  rw [ef] at hx
  by_cases q : zfPlan (T.1 143) b m = 1010
  · rw [if_pos q] at hx
    have hq : (0 ≤ b ∧ b < T.1 143 0) ∧ 1 ≤ m ∧ m ≤ 4 := by
      unfold zfPlan at q
      split at q
      · next h =>
        split at q
        · omega
        · exact ⟨h, by omega⟩
      · omega
    have vb : 0 ≤ zPa (m.toNat - 1) (T.1 o1) b ∧ zPa (m.toNat - 1) (T.1 o1) b ≤ 10000 := by
      have := zPa_bd (m.toNat - 1) (T.1 o1) b
      omega
    refine go_ok hI hf (by omega) (by omega) (w_L_bestOpening_ok (by omega) (by omega) hx) ?_ trivial
    intro t S e2 e3 _
    obtain ⟨A', hr, h⟩ := c_X11_bestOpening (L := L) (xs := xs) (d := d + 1) (t := t) (T := S) (F := T.1 142) (A := T.1 143) (C := T.1 o1) (by omega) hB hW hL b1 b2 m1 m2
    rw [zz_id e2 e3, if_pos q, if_pos q] at h
    exact ⟨_, A', h, by rw [upR_ne _ _ (by decide), upR_eq], fun j a _ c => by rw [upR_ne _ _ c, upR_ne _ _ a], fun j a => hr j (by omega)⟩
  · rw [if_neg q] at hx
    have hm : zAn L xs (d + 1) k_X11_bestOpening [.int (Int32.ofInt b), .int (Int32.ofInt m)] T 0 ((zfPlan (T.1 143) b m : Nat) - 1010) := by
      intro t S e2 e3 _
      obtain ⟨A', hr, h⟩ := c_X11_bestOpening (L := L) (xs := xs) (d := d + 1) (t := t) (T := S) (F := T.1 142) (A := T.1 143) (C := T.1 o1) (by omega) hB hW hL b1 b2 m1 m2
      rw [zz_id e2 e3, if_neg q, if_neg q] at h
      exact ⟨_, A', h, upR_eq _ _ _, fun j a _ _ => upR_ne _ _ a, fun j a => hr j (by omega)⟩
    rcases (by omega : zfPlan (T.1 143) b m = 1011 ∨ zfPlan (T.1 143) b m = 1012 ∨ zfPlan (T.1 143) b m = 1013) with e | e | e
    · rw [e, show zE 1011 = 2 from rfl] at hx
      rw [e, show (((1011 : Nat) : Int) - 1010) = 1 from rfl] at hm
      exact go_no (v := 0) hI (zFr_refl T) (by omega) (by omega) (by omega) (by omega) (w_L_bestOpening_2 hx) hm trivial
    · rw [e, show zE 1012 = 0 from rfl] at hx
      rw [e, show (((1012 : Nat) : Int) - 1010) = 2 from rfl] at hm
      exact go_no (v := 0) hI (zFr_refl T) (by omega) (by omega) (by omega) (by omega) (w_L_bestOpening_0 hx) hm trivial
    · rw [e, show zE 1013 = 1 from rfl] at hx
      rw [e, show (((1013 : Nat) : Int) - 1010) = 3 from rfl] at hm
      exact go_no (v := 0) hI (zFr_refl T) (by omega) (by omega) (by omega) (by omega) (w_L_bestOpening_1 hx) hm trivial
theorem hS_any (hW : zWF (T.1 o1) 99) (hB : zWF (T.1 143) 99) (hL : zL (T.1 o1) (T.1 143)) {m : Int} (m30 : m ≤ 30) : (∀ k, 0 ≤ k → k < T.1 o1 0 → 0 ≤ zSp T m.toNat k ∧ zSp T m.toNat k ≤ 1000000) ∧ (∀ k, 0 ≤ k → k < T.1 143 0 → 0 ≤ rSl m.toNat (rCp 0 11 (T.1 143)) k ∧ rSl m.toNat (rCp 0 11 (T.1 143)) k ≤ 1000000) := by
  have e0 := hL.1
  refine ⟨fun k k0 k1 => ?_, fun k k0 k1 => ?_⟩
  · obtain ⟨_, h1, h2⟩ := zSp_r hW hB hL m.toNat k0 k1
    omega
  · obtain ⟨h0, h1, h2⟩ := zSp_r hW hB hL m.toNat k0 (by omega : k < T.1 o1 0)
    omega
theorem s_endangered (hd : 12 ≤ d) (hN : N ≤ 1000000) (hI : zIv T N) {x : Int32} : zGo (fun _ => True) L xs (d + 1) k_L_endangered k_X11_endangered [.int x] T t N := by
  obtain ⟨m, m1, m2, rfl⟩ := ze_int x
  obtain ⟨hW, hB, hL, hC, hT⟩ := hI.1
  have e0 := hL.1
  have w0 := hW.1
  have w5 := hW.2.1
  by_cases q : 0 ≤ m ∧ m ≤ 30
  · obtain ⟨hS, hS2⟩ := hS_any (T := T) hW hB hL q.2
    obtain ⟨T', hf, hx⟩ := c_X10_endangered (L := L) (xs := xs) (d := d) (t := t) (T := T) (by omega) hW m1 m2 hS
    have ee : zSf (fun k => if 0 < zSp T m.toNat k then 1 else 0) (T.1 o1 0).toNat 0 0 = zSf (fun k => if 0 < rSl m.toNat (rCp 0 11 (T.1 143)) k then 1 else 0) (T.1 143 0).toNat 0 0 := by
      rw [e0]
      exact zSf_congr _ _ _ (fun j j0 j1 => by
        have := (zSp_r hW hB hL m.toNat j0 (by omega : j < T.1 o1 0)).1
        simp only [this])
    have vb := zSf_bd (f := (fun k => if 0 < rSl m.toNat (rCp 0 11 (T.1 143)) k then 1 else 0)) (M := 1) (T.1 143 0).toNat 0 0 (fun j j0 j1 => by
      obtain ⟨g0, g1, g2⟩ := zSp_r hW hB hL m.toNat j0 (by omega : j < T.1 o1 0)
      show 0 ≤ (if 0 < rSl m.toNat (rCp 0 11 (T.1 143)) j then (1 : Int) else 0) ∧ (if 0 < rSl m.toNat (rCp 0 11 (T.1 143)) j then (1 : Int) else 0) ≤ 1
      split <;> omega)
    rw [if_pos q, ee] at hx
    refine go_ok hI hf (by omega) (by omega) (w_L_endangered_ok (by omega) (by omega) hx) ?_ trivial
    intro t S e2 e3 _
    have h := c_X11_endangered (L := L) (xs := xs) (d := d + 1) (t := t) (T := S) (F := T.1 142) (A := T.1 143) (by omega) hB m1 m2 hS2
    rw [zz_id e2 e3, if_pos q, if_pos q, if_pos q] at h
    exact ⟨_, _, h, upR_eq _ _ _, fun j a _ _ => upR_ne _ _ a, fun _ a => rCp_lo2 a⟩
  · have hx := c_X10_endangered_no (L := L) (xs := xs) (d := d) (t := t) (T := T) (by omega) m1 m2 q
    refine go_no (v := 0) hI (zFr_refl T) (by omega) (by omega) (by omega) (by omega) (w_L_endangered_0 hx) ?_ trivial
    intro t S e2 e3 _
    have h := c_X11_endangered_no (L := L) (xs := xs) (d := d + 1) (t := t) (T := S) (F := T.1 142) (A := T.1 143) (by omega) hB m1 m2 q
    rw [zz_id e2 e3] at h
    exact ⟨_, _, h, upR_eq _ _ _, fun j a _ _ => upR_ne _ _ a, fun _ _ => rfl⟩
theorem s_bagsForAll (hd : 12 ≤ d) (hN : N ≤ 1000000) (hI : zIv T N) {x : Int32} : zGo (fun _ => True) L xs (d + 1) k_L_bagsForAll k_X11_bagsForAll [.int x] T t N := by
  obtain ⟨m, m1, m2, rfl⟩ := ze_int x
  obtain ⟨hW, hB, hL, hC, hT⟩ := hI.1
  have e0 := hL.1
  have w0 := hW.1
  have w5 := hW.2.1
  by_cases q : 0 ≤ m ∧ m ≤ 30
  · obtain ⟨hS, hS2⟩ := hS_any (T := T) hW hB hL q.2
    obtain ⟨T', hf, hx⟩ := c_X10_bagsForAll (L := L) (xs := xs) (d := d) (t := t) (T := T) (by omega) hW m1 m2 hS
    have ee : zSf (zSp T m.toNat) (T.1 o1 0).toNat 0 0 = zSf (rSl m.toNat (rCp 0 11 (T.1 143))) (T.1 143 0).toNat 0 0 := by
      rw [e0]
      exact zSf_congr _ _ _ (fun j j0 j1 => by
        have := (zSp_r hW hB hL m.toNat j0 (by omega : j < T.1 o1 0)).1
        exact this)
    have vb := zSf_bd (f := (rSl m.toNat (rCp 0 11 (T.1 143)))) (M := 6000) (T.1 143 0).toNat 0 0 (fun j j0 j1 => by
      obtain ⟨g0, g1, g2⟩ := zSp_r hW hB hL m.toNat j0 (by omega : j < T.1 o1 0)
      omega)
    rw [if_pos q, ee] at hx
    refine go_ok hI hf (by omega) (by omega) (w_L_bagsForAll_ok (by omega) (by omega) hx) ?_ trivial
    intro t S e2 e3 _
    have h := c_X11_bagsForAll (L := L) (xs := xs) (d := d + 1) (t := t) (T := S) (F := T.1 142) (A := T.1 143) (by omega) hB m1 m2
    rw [zz_id e2 e3, if_pos q, if_pos q, if_pos q] at h
    exact ⟨_, _, h, upR_eq _ _ _, fun j a _ _ => upR_ne _ _ a, fun _ a => rCp_lo2 a⟩
  · have hx := c_X10_bagsForAll_no (L := L) (xs := xs) (d := d) (t := t) (T := T) (by omega) m1 m2 q
    refine go_no (v := 0) hI (zFr_refl T) (by omega) (by omega) (by omega) (by omega) (w_L_bagsForAll_0 hx) ?_ trivial
    intro t S e2 e3 _
    have h := c_X11_bagsForAll (L := L) (xs := xs) (d := d + 1) (t := t) (T := S) (F := T.1 142) (A := T.1 143) (by omega) hB m1 m2
    rw [zz_id e2 e3, if_neg q, if_neg q, if_neg q] at h
    exact ⟨_, _, h, upR_eq _ _ _, fun j a _ _ => upR_ne _ _ a, fun _ _ => rfl⟩
theorem s_bestProtection (hd : 12 ≤ d) (hN : N ≤ 1000000) (hI : zIv T N) {x y : Int32} : zGo (fun _ => True) L xs (d + 1) k_L_bestProtection k_X11_bestProtection [.int x, .int y] T t N := by
  obtain ⟨g, g1, g2, rfl⟩ := ze_int x
  obtain ⟨m, m1, m2, rfl⟩ := ze_int y
  obtain ⟨hW, hB, hL, hC, hT⟩ := hI.1
  have e0 := hL.1
  have w0 := hW.1
  have w5 := hW.2.1
  by_cases q : (0 ≤ g ∧ g ≤ 99) ∧ 0 ≤ m ∧ m ≤ 30
  · obtain ⟨hS, hS2⟩ := hS_any (T := T) hW hB hL q.2.2
    obtain ⟨T', hf, hx⟩ := c_X10_bestProtection (L := L) (xs := xs) (d := d) (t := t) (T := T) (by omega) hW g1 g2 m1 m2 hS
    have ee := zBp_r hW hB hL m.toNat q.1.1
    have vb : 0 ≤ zBp T m.toNat g ∧ zBp T m.toNat g ≤ 1000 := by
      have := zK_bd (b := zSp T m.toNat) (v := fun k => if 0 < zSp T m.toNat k then T.1 o1 (6 + 9 * k + 3) else 0) (T.1 o1 0).toNat g (fun j j1 => by
        have h := hW.2.2.2.2.1 (j : Int) (by omega) (by omega)
        unfold zOK at h
        show 0 ≤ (if 0 < zSp T m.toNat j then T.1 o1 (6 + 9 * (j : Int) + 3) else 0) ∧ (if 0 < zSp T m.toNat j then T.1 o1 (6 + 9 * (j : Int) + 3) else 0) ≤ 99
        split <;> omega)
      unfold zBp
      omega
    rw [if_pos q] at hx
    refine go_ok hI hf (by omega) (by omega) (w_L_bestProtection_ok (by omega) (by omega) hx) ?_ trivial
    intro t S e2 e3 _
    obtain ⟨A', hr, h⟩ := c_X11_bestProtection (L := L) (xs := xs) (d := d + 1) (t := t) (T := S) (F := T.1 142) (A := T.1 143) (by omega) hB g1 g2 m1 m2 hS2
    rw [zz_id e2 e3, if_pos q, if_pos q, ← ee] at h
    exact ⟨_, A', h, upR_eq _ _ _, fun j a _ _ => upR_ne _ _ a, fun j a => hr j (by omega)⟩
  · have hx := c_X10_bestProtection_no (L := L) (xs := xs) (d := d) (t := t) (T := T) (by omega) g1 g2 m1 m2 q
    refine go_no (v := 0) hI (zFr_refl T) (by omega) (by omega) (by omega) (by omega) (w_L_bestProtection_0 hx) ?_ trivial
    intro t S e2 e3 _
    have h := c_X11_bestProtection_no (L := L) (xs := xs) (d := d + 1) (t := t) (T := S) (F := T.1 142) (A := T.1 143) (by omega) g1 g2 m1 m2 q
    rw [zz_id e2 e3] at h
    exact ⟨_, _, h, upR_eq _ _ _, fun j a _ _ => upR_ne _ _ a, fun _ _ => rfl⟩
theorem s_bestProtectionBySets (hd : 12 ≤ d) (hN : N ≤ 1000000) (hI : zIv T N) {x y : Int32} : zGo (fun _ => True) L xs (d + 1) k_L_bestProtectionBySets k_X11_bestProtectionBySets [.int x, .int y] T t N := by
  obtain ⟨g, g1, g2, rfl⟩ := ze_int x
  obtain ⟨m, m1, m2, rfl⟩ := ze_int y
  obtain ⟨hW, hB, hL, hC, hT⟩ := hI.1
  have e0 := hL.1
  have w0 := hW.1
  have w5 := hW.2.1
  by_cases q : (0 ≤ g ∧ g ≤ 99) ∧ 0 ≤ m ∧ m ≤ 30
  · obtain ⟨hS, hS2⟩ := hS_any (T := T) hW hB hL q.2.2
    obtain ⟨T', hf, hx⟩ := c_X10_bestProtectionBySets (L := L) (xs := xs) (d := d) (t := t) (T := T) (by omega) hW g1 g2 m1 m2 hS
    have ee := zBp_r hW hB hL m.toNat q.1.1
    have vb : 0 ≤ zBp T m.toNat g ∧ zBp T m.toNat g ≤ 1000 := by
      have := zK_bd (b := zSp T m.toNat) (v := fun k => if 0 < zSp T m.toNat k then T.1 o1 (6 + 9 * k + 3) else 0) (T.1 o1 0).toNat g (fun j j1 => by
        have h := hW.2.2.2.2.1 (j : Int) (by omega) (by omega)
        unfold zOK at h
        show 0 ≤ (if 0 < zSp T m.toNat j then T.1 o1 (6 + 9 * (j : Int) + 3) else 0) ∧ (if 0 < zSp T m.toNat j then T.1 o1 (6 + 9 * (j : Int) + 3) else 0) ≤ 99
        split <;> omega)
      unfold zBp
      omega
    rw [if_pos q] at hx
    refine go_ok hI hf (by omega) (by omega) (w_L_bestProtectionBySets_ok (by omega) (by omega) hx) ?_ trivial
    intro t S e2 e3 _
    obtain ⟨A', hr, h⟩ := c_X11_bestProtectionBySets (L := L) (xs := xs) (d := d + 1) (t := t) (T := S) (F := T.1 142) (A := T.1 143) (by omega) hB g1 g2 m1 m2 hS2
    rw [zz_id e2 e3, if_pos q, if_pos q, ← ee] at h
    exact ⟨_, A', h, upR_eq _ _ _, fun j a _ _ => upR_ne _ _ a, fun j a => hr j (by omega)⟩
  · have hx := c_X10_bestProtectionBySets_no (L := L) (xs := xs) (d := d) (t := t) (T := T) (by omega) g1 g2 m1 m2 q
    refine go_no (v := 0) hI (zFr_refl T) (by omega) (by omega) (by omega) (by omega) (w_L_bestProtectionBySets_0 hx) ?_ trivial
    intro t S e2 e3 _
    have h := c_X11_bestProtectionBySets_no (L := L) (xs := xs) (d := d + 1) (t := t) (T := S) (F := T.1 142) (A := T.1 143) (by omega) g1 g2 m1 m2 q
    rw [zz_id e2 e3] at h
    exact ⟨_, _, h, upR_eq _ _ _, fun j a _ _ => upR_ne _ _ a, fun _ _ => rfl⟩
theorem s_outputAt (hd : 12 ≤ d) (hN : N ≤ 1000000) (hI : zIv T N) {x : Int32} : zGo (fun _ => True) L xs (d + 1) k_L_outputAt k_X11_outputAt [.int x] T t N := by
  obtain ⟨b, b1, b2, rfl⟩ := ze_int x
  obtain ⟨hW, hB, hL, hC, hT⟩ := hI.1
  have e0 := hL.1
  obtain ⟨ho1, ho2, ho3, ho4, ho5⟩ := hI.2.2.2.2.2.1
  have hx := c_X10_outputAt (L := L) (xs := xs) (d := d) (t := t) (T := T) (by omega) ho2 ho3 ho5 b1 b2
  by_cases q : 0 ≤ b ∧ b < T.1 140 1
  · rw [if_pos q] at hx
    have vb := ho5 b q.1 q.2
    refine go_ok hI (zFr_refl T) (by omega) (by omega) (w_L_outputAt_ok (by omega) (by omega) hx) ?_ trivial
    intro t S e2 e3 e6
    have h := c_X11_outputAt (L := L) (xs := xs) (d := d + 1) (t := t) (T := S) (F := T.1 142) (O := T.1 146) (by omega) (by omega) (by omega) b1 b2 (by rw [ho1, ho4]; exact ho5)
    rw [zz_46 e2 e6, zz_46' e6, if_pos (by omega), if_pos (by omega), ho4] at h
    rw [← zz_43 (F := upR (T.1 142) 0 _) e3] at h
    exact ⟨_, _, h, upR_eq _ _ _, fun j a _ _ => upR_ne _ _ a, fun _ _ => rfl⟩
  · rw [if_neg q] at hx
    refine go_no (v := 0) hI (zFr_refl T) (by omega) (by omega) (by omega) (by omega) (w_L_outputAt_2 hx) ?_ trivial
    intro t S e2 e3 e6
    have h := c_X11_outputAt (L := L) (xs := xs) (d := d + 1) (t := t) (T := S) (F := T.1 142) (O := T.1 146) (by omega) (by omega) (by omega) b1 b2 (by rw [ho1, ho4]; exact ho5)
    rw [zz_46 e2 e6, zz_46' e6, if_neg (by omega), if_neg (by omega)] at h
    rw [← zz_43 (F := upR (T.1 142) 0 _) e3] at h
    exact ⟨_, _, h, upR_eq _ _ _, fun j a _ _ => upR_ne _ _ a, fun _ _ => rfl⟩
theorem s_errorPosition (hd : 12 ≤ d) (hN : N ≤ 1000000) (hI : zIv T N) : zGo (fun _ => True) L xs (d + 1) k_L_errorPosition k_X11_errorPosition [] T t N := by
  obtain ⟨hW, hB, hL, hC, hT⟩ := hI.1
  have e0 := hL.1
  obtain ⟨he1, he2, ⟨he3, he4⟩, he5, he6⟩ := hI.2.2.2.2.1
  have hx := c_X10_errorPosition (L := L) (xs := xs) (d := d) (t := t) (T := T) (by omega) (by omega) (by omega)
  by_cases q : T.1 0 10 = -1
  · rw [if_pos q] at hx
    refine go_no (v := 0) hI (zFr_refl T) (by omega) (by omega) (by omega) (by omega) (w_L_errorPosition_5 hx) ?_ trivial
    intro t S e2 e3 _
    have h := c_X11_errorPosition (L := L) (xs := xs) (d := d + 1) (t := t) (T := S) (F := T.1 142) (by omega) (by omega) (by omega)
    rw [zz_42 e2, if_pos (by omega), if_pos (by omega)] at h
    rw [← zz_43 (F := upR (T.1 142) 0 _) e3] at h
    exact ⟨_, _, h, upR_eq _ _ _, fun j a _ _ => upR_ne _ _ a, fun _ _ => rfl⟩
  · rw [if_neg q] at hx
    refine go_ok hI (zFr_refl T) (by omega) (by omega) (w_L_errorPosition_ok (by omega) (by omega) hx) ?_ trivial
    intro t S e2 e3 _
    have h := c_X11_errorPosition (L := L) (xs := xs) (d := d + 1) (t := t) (T := S) (F := T.1 142) (by omega) (by omega) (by omega)
    rw [zz_42 e2, if_neg (by omega), if_neg (by omega), he1] at h
    rw [← zz_43 (F := upR (T.1 142) 0 _) e3] at h
    exact ⟨_, _, h, upR_eq _ _ _, fun j a _ _ => upR_ne _ _ a, fun _ _ => rfl⟩
theorem s_failedCommand (hd : 12 ≤ d) (hN : N ≤ 1000000) (hI : zIv T N) : zGo (fun _ => True) L xs (d + 1) k_L_failedCommand k_X11_failedCommand [] T t N := by
  obtain ⟨hW, hB, hL, hC, hT⟩ := hI.1
  have e0 := hL.1
  obtain ⟨he1, he2, ⟨he3, he4⟩, he5, he6⟩ := hI.2.2.2.2.1
  have hx := c_X10_failedCommand (L := L) (xs := xs) (d := d) (t := t) (T := T) (by omega) (by omega) (by omega)
  by_cases q : T.1 0 11 = -1
  · rw [if_pos q] at hx
    refine go_no (v := 0) hI (zFr_refl T) (by omega) (by omega) (by omega) (by omega) (w_L_failedCommand_5 hx) ?_ trivial
    intro t S e2 e3 _
    have h := c_X11_failedCommand (L := L) (xs := xs) (d := d + 1) (t := t) (T := S) (F := T.1 142) (by omega) (by omega) (by omega)
    rw [zz_42 e2, if_pos (by omega), if_pos (by omega)] at h
    rw [← zz_43 (F := upR (T.1 142) 0 _) e3] at h
    exact ⟨_, _, h, upR_eq _ _ _, fun j a _ _ => upR_ne _ _ a, fun _ _ => rfl⟩
  · rw [if_neg q] at hx
    refine go_ok hI (zFr_refl T) (by omega) (by omega) (w_L_failedCommand_ok (by omega) (by omega) hx) ?_ trivial
    intro t S e2 e3 _
    have h := c_X11_failedCommand (L := L) (xs := xs) (d := d + 1) (t := t) (T := S) (F := T.1 142) (by omega) (by omega) (by omega)
    rw [zz_42 e2, if_neg (by omega), if_neg (by omega), he2] at h
    rw [← zz_43 (F := upR (T.1 142) 0 _) e3] at h
    exact ⟨_, _, h, upR_eq _ _ _, fun j a _ _ => upR_ne _ _ a, fun _ _ => rfl⟩
end GO
