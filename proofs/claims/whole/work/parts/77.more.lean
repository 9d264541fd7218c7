/-! A CALL ON BOTH SIDES: TEXT, PROGRAMS, UNDO, SAVE, LINES -/
section GM
variable {L : Nat} {xs : Nat → Int32} {d t : Nat} {T T1 S U : zT} {N v c : Int} {F X A B : Int → Int}
/-- rows that are as they were, and what may have changed -/
theorem zIh_same (h : zIh T N) (s2 : S.1 142 2 = T.1 142 2) (s33 : S.1 33 = T.1 33) (sh : ∀ j, j < 8 → S.1 (35 + 8 * j) = T.1 (35 + 8 * j)) (s143 : ∀ j, 63 ≤ j → j < 567 → S.1 143 j = T.1 143 j) : zIh S N := by
  obtain ⟨h2, h3, h4⟩ := h
  refine ⟨by unfold zHis; rw [s33]; exact h2, by rw [s2, s33]; exact h3, fun i i0 i1 => ?_⟩
  rw [s33] at i1 ⊢
  rw [sh _ (by omega)]
  obtain ⟨_, _, c0, c8⟩ := h2
  exact zPr_on (h4 i i0 i1) (fun j j0 j1 => s143 (63 * (T.1 33 2 - i) + j) (by omega) (by omega))
theorem o1v : o1 = 1 := rfl
theorem o9v : o9 = 9 := rfl
theorem o17v : o17 = 17 := rfl
theorem s_append (hd : 12 ≤ d) (hI : zIv T N) {x : Int32} : zGo (fun _ => True) L xs (d + 1) k_L_append k_X11_append [.int (mv_ch x)] T t N := by
  obtain ⟨v, v0, v1, ev⟩ := ze_ch x
  rw [ev]
  obtain ⟨h1, h2, h3, ⟨ht1, ht2, ht3, ht4, ht5⟩, h5, h6, h7, h8⟩ := id hI
  have hx := c_X10_append (L := L) (xs := xs) (d := d) (t := t) (T := T) (by omega) v0 v1 ht2 ht3
  by_cases q : T.1 137 1 < 60
  · rw [if_pos q] at hx
    have hw := w_L_append_ok (by omega) (by omega) hx
    generalize hS : sD (sD (sD T 138 (upR (T.1 138) (T.1 137 1) v)) 137 (upR (T.1 137) 1 (T.1 137 1 + 1))) 147 (upR ((sD (sD T 138 (upR (T.1 138) (T.1 137 1) v)) 137 (upR (T.1 137) 1 (T.1 137 1 + 1))).1 147) 0 (T.1 137 1 + 1)) = S at hw
    have s142 : S.1 142 = T.1 142 := by rw [← hS, sD_ne _ _ (by decide), sD_ne _ _ (by decide), sD_ne _ _ (by decide)]
    have s144 : S.1 144 = T.1 144 := by rw [← hS, sD_ne _ _ (by decide), sD_ne _ _ (by decide), sD_ne _ _ (by decide)]
    have s147 : S.1 147 0 = T.1 137 1 + 1 := by rw [← hS, sD_eq, upR_eq]
    have s137 : S.1 137 1 = T.1 137 1 + 1 := by rw [← hS, sD_ne _ _ (by decide), sD_eq, upR_eq]
    have s138 : S.1 138 = upR (T.1 138) (T.1 137 1) v := by rw [← hS, sD_ne _ _ (by decide), sD_ne _ _ (by decide), sD_eq]
    have so : ∀ o, ¬ o = 138 → ¬ o = 137 → ¬ o = 147 → S.1 o = T.1 o := fun o a b e => by rw [← hS, sD_ne _ _ e, sD_ne _ _ b, sD_ne _ _ a]
    have s2 : S.2.1 = T.2.1 := by rw [← hS]; rfl
    have h := c_X11_append (L := L) (xs := xs) (d := d + 1) (t := t) (T := S) (F := T.1 142) (X := T.1 144) (v := v) (by omega) v0 v1 (by omega) (by omega)
    have e44 : sD (sD S 142 (T.1 142)) 144 (T.1 144) = S := by rw [← s142, sD_id, ← s144, sD_id]
    rw [e44, if_pos (by omega), if_pos (by omega), ht1] at h
    refine ⟨0, _, t, _, _, hw, h, ?_, by omega, ⟨by omega, by omega⟩, trivial, fun _ => ?_, by omega, ?_⟩
    · rw [sD_ne _ _ (by decide), sD_eq, upR_ne _ _ (by decide), upR_eq]
    · rw [sD_ne _ _ (by decide), sD_ne _ _ (by decide), s147]
    · have u142 : (sD (sD S 142 (upR (upR (T.1 142) 0 0) 7 (T.1 137 1 + 1))) 144 (upR (T.1 144) (T.1 137 1) v)).1 142 = upR (upR (T.1 142) 0 0) 7 (T.1 137 1 + 1) := by rw [sD_ne _ _ (by decide), sD_eq]
      have u144 : (sD (sD S 142 (upR (upR (T.1 142) 0 0) 7 (T.1 137 1 + 1))) 144 (upR (T.1 144) (T.1 137 1) v)).1 144 = upR (T.1 144) (T.1 137 1) v := by rw [sD_eq]
      have uo : ∀ o, ¬ o = 142 → ¬ o = 144 → (sD (sD S 142 (upR (upR (T.1 142) 0 0) 7 (T.1 137 1 + 1))) 144 (upR (T.1 144) (T.1 137 1) v)).1 o = S.1 o := fun o a b => by rw [sD_ne _ _ b, sD_ne _ _ a]
      have u2 : (sD (sD S 142 (upR (upR (T.1 142) 0 0) 7 (T.1 137 1 + 1))) 144 (upR (T.1 144) (T.1 137 1) v)).2.1 = T.2.1 := s2
      generalize sD (sD S 142 (upR (upR (T.1 142) 0 0) 7 (T.1 137 1 + 1))) 144 (upR (T.1 144) (T.1 137 1) v) = U at u142 u144 uo u2 ⊢
      have w : ∀ o, ¬ o = 142 → ¬ o = 144 → ¬ o = 138 → ¬ o = 137 → ¬ o = 147 → U.1 o = T.1 o := fun o a b c e f => by rw [uo o a b, so o c e f]
      have f : ∀ j, ¬ j = 0 → ¬ j = 7 → U.1 142 j = T.1 142 j := fun j a b => by rw [u142, upR_ne _ _ b, upR_ne _ _ a]
      refine ⟨?_, ?_, ?_, ?_, ?_, ?_, ?_, ?_⟩
      · rw [w o1 (by decide) (by decide) (by decide) (by decide) (by decide), w 143 (by decide) (by decide) (by decide) (by decide) (by decide)]; exact h1
      · exact zIh_same h2 (f 2 (by decide) (by decide)) (w 33 (by decide) (by decide) (by decide) (by decide) (by decide)) (fun j hj => w _ (by omega) (by omega) (by omega) (by omega) (by omega)) (fun j _ _ => by rw [w 143 (by decide) (by decide) (by decide) (by decide) (by decide)])
      · exact zIs_put h3 (by omega) (f 3 (by decide) (by decide)) (by rw [w 0 (by decide) (by decide) (by decide) (by decide) (by decide)]) (w o9 (by decide) (by decide) (by decide) (by decide) (by decide)) (fun j _ _ => by rw [w 143 (by decide) (by decide) (by decide) (by decide) (by decide)])
      · have e7 : U.1 142 7 = T.1 137 1 + 1 := by rw [u142, upR_eq]
        have e137 : U.1 137 1 = T.1 137 1 + 1 := by rw [uo 137 (by decide) (by decide), s137]
        have e138 : U.1 138 = upR (T.1 138) (T.1 137 1) v := by rw [uo 138 (by decide) (by decide), s138]
        refine ⟨by rw [e7, e137], by omega, by omega, by rw [u144, e138, ht4], fun j j0 j1 => ?_⟩
        rw [e137] at j1
        rw [e138]
        by_cases e : j = T.1 137 1
        · rw [upR_is _ _ e]; exact ⟨v0, v1⟩
        · rw [upR_ne _ _ e]; exact ht5 j j0 (by omega)
      · exact zIe_eq h5 (f 10 (by decide) (by decide)) (f 11 (by decide) (by decide)) (w 0 (by decide) (by decide) (by decide) (by decide) (by decide))
      · exact zIo_eq h6 (f 15 (by decide) (by decide)) (w 140 (by decide) (by decide) (by decide) (by decide) (by decide)) (w 141 (by decide) (by decide) (by decide) (by decide) (by decide)) (w 146 (by decide) (by decide) (by decide) (by decide) (by decide))
      · rw [u2]; exact h7
      · rw [w 139 (by decide) (by decide) (by decide) (by decide) (by decide)]; exact h8
  · rw [if_neg q] at hx
    have hw := w_L_append_1 hx
    have h := c_X11_append (L := L) (xs := xs) (d := d + 1) (t := t + 1) (T := T) (F := T.1 142) (X := T.1 144) (v := v) (by omega) v0 v1 (by omega) (by omega)
    have e44 : sD (sD T 142 (T.1 142)) 144 (T.1 144) = T := by rw [sD_id, sD_id]
    have e44' : sD (sD T 142 (upR (T.1 142) 0 1)) 144 (T.1 144) = sD T 142 (upR (T.1 142) 0 1) := by
      have : T.1 144 = (sD T 142 (upR (T.1 142) 0 1)).1 144 := by rw [sD_ne _ _ (by decide)]
      rw [this, sD_id]
    rw [e44, if_neg (by omega), if_neg (by omega), e44', ← zz_43 (F := upR (T.1 142) 0 1) (rfl : T.1 143 = T.1 143)] at h
    refine ⟨1, _, t + 1, _, _, hw, h, ?_, by omega, ⟨by omega, by omega⟩, trivial, fun _ => by omega, by omega, zIv_same hI (zSame_q (fun j a _ _ => upR_ne _ _ a) (fun _ _ => rfl))⟩
    rw [sD_ne _ _ (by decide), sD_eq, upR_eq]
theorem s_undo (hd : 12 ≤ d) (hI : zIv T N) : zGo (fun _ => True) L xs (d + 1) k_L_undo k_X11_undo [] T t N := by
  obtain ⟨h1, ⟨hH, hc2, hh⟩, h3, h4, h5, h6, h7, h8⟩ := id hI
  obtain ⟨n0, n8, c0, c8⟩ := id hH
  have es : (T.1 33 1 + 8 - 1) % 8 = (T.1 33 1 + 7 - 0) % 8 := by omega
  have hx := c_X10_undo (L := L) (xs := xs) (d := d) (t := t) (T := T) (by omega) hH (fun q => by rw [es]; exact (hh 0 (by omega) q).1)
  by_cases q : 0 < T.1 33 2
  · rw [if_pos q] at hx
    have hw := w_L_undo_ok (by omega) (by omega) hx
    have hz := hh 0 (by omega) q
    rw [← es] at hz
    generalize hS : sD (sD (sD T 33 (upR (upR (T.1 33) 1 ((T.1 33 1 + 8 - 1) % 8)) 2 (T.1 33 2 - 1))) o1 (zCpy (T.1 (35 + 8 * ((T.1 33 1 + 8 - 1) % 8).toNat)) (T.1 o1))) 147 (upR ((sD (sD T 33 (upR (upR (T.1 33) 1 ((T.1 33 1 + 8 - 1) % 8)) 2 (T.1 33 2 - 1))) o1 (zCpy (T.1 (35 + 8 * ((T.1 33 1 + 8 - 1) % 8).toNat)) (T.1 o1))).1 147) 0 (T.1 33 2 - 1)) = S at hw
    have so : ∀ o, ¬ o = 33 → ¬ o = o1 → ¬ o = 147 → S.1 o = T.1 o := fun o a b e => by rw [← hS, sD_ne _ _ e, sD_ne _ _ b, sD_ne _ _ a]
    have s147 : S.1 147 0 = T.1 33 2 - 1 := by rw [← hS, sD_eq, upR_eq]
    have s33 : S.1 33 = upR (upR (T.1 33) 1 ((T.1 33 1 + 8 - 1) % 8)) 2 (T.1 33 2 - 1) := by rw [← hS, sD_ne _ _ (by decide), sD_ne _ _ (by decide), sD_eq]
    have s1 : S.1 o1 = zCpy (T.1 (35 + 8 * ((T.1 33 1 + 8 - 1) % 8).toNat)) (T.1 o1) := by rw [← hS, sD_ne _ _ (by decide), sD_eq]
    have s2 : S.2.1 = T.2.1 := by rw [← hS]; rfl
    have h := c_X11_undo (L := L) (xs := xs) (d := d + 1) (t := t) (T := S) (F := T.1 142) (A := T.1 143) (by omega) (by omega) (by omega)
    rw [zz_id (so 142 (by decide) (by decide) (by decide)) (so 143 (by decide) (by decide) (by decide)), if_neg (by omega), if_neg (by omega), hc2] at h
    refine ⟨0, _, t, _, _, hw, h, ?_, by omega, ⟨by omega, by omega⟩, trivial, fun _ => ?_, by omega, ?_⟩
    · rw [sD_ne _ _ (by decide), sD_eq, upR_ne _ _ (by decide), upR_eq]
    · rw [sD_ne _ _ (by decide), sD_ne _ _ (by decide), s147]
    · have u142 : (sD (sD S 142 (upR (upR (T.1 142) 0 0) 2 (T.1 33 2 - 1))) 143 (rCp (T.1 33 2) 0 (T.1 143))).1 142 = upR (upR (T.1 142) 0 0) 2 (T.1 33 2 - 1) := by rw [sD_ne _ _ (by decide), sD_eq]
      have u143 : (sD (sD S 142 (upR (upR (T.1 142) 0 0) 2 (T.1 33 2 - 1))) 143 (rCp (T.1 33 2) 0 (T.1 143))).1 143 = rCp (T.1 33 2) 0 (T.1 143) := by rw [sD_eq]
      have uo : ∀ o, ¬ o = 142 → ¬ o = 143 → (sD (sD S 142 (upR (upR (T.1 142) 0 0) 2 (T.1 33 2 - 1))) 143 (rCp (T.1 33 2) 0 (T.1 143))).1 o = S.1 o := fun o a b => by rw [sD_ne _ _ b, sD_ne _ _ a]
      have u2 : (sD (sD S 142 (upR (upR (T.1 142) 0 0) 2 (T.1 33 2 - 1))) 143 (rCp (T.1 33 2) 0 (T.1 143))).2.1 = T.2.1 := s2
      generalize sD (sD S 142 (upR (upR (T.1 142) 0 0) 2 (T.1 33 2 - 1))) 143 (rCp (T.1 33 2) 0 (T.1 143)) = U at u142 u143 uo u2 ⊢
      have w : ∀ o, ¬ o = 142 → ¬ o = 143 → ¬ o = 33 → ¬ o = o1 → ¬ o = 147 → U.1 o = T.1 o := fun o a b c e f => by rw [uo o a b, so o c e f]
      have f : ∀ j, ¬ j = 0 → ¬ j = 2 → U.1 142 j = T.1 142 j := fun j a b => by rw [u142, upR_ne _ _ b, upR_ne _ _ a]
      have u33 : U.1 33 = upR (upR (T.1 33) 1 ((T.1 33 1 + 8 - 1) % 8)) 2 (T.1 33 2 - 1) := by rw [uo 33 (by decide) (by decide), s33]
      have v1 : U.1 33 1 = (T.1 33 1 + 8 - 1) % 8 := by rw [u33, upR_ne _ _ (by decide), upR_eq]
      have v2 : U.1 33 2 = T.1 33 2 - 1 := by rw [u33, upR_eq]
      refine ⟨?_, ⟨⟨by omega, by omega, by omega, by omega⟩, by rw [u142, upR_eq, v2], fun i i0 i1 => ?_⟩, ?_, ?_, ?_, ?_, ?_, ?_⟩
      · rw [uo o1 (by decide) (by decide), s1, u143]
        refine zPr_on (zPr_cpy hz _) (fun j j0 j1 => ?_)
        rw [rCp_is _ _ _ (by omega) (by omega)]
        show _ = T.1 143 (63 * (T.1 33 2 - 0) + j)
        exact congrArg _ (by omega)
      · rw [v1, v2]
        rw [v2] at i1
        have ei : (((T.1 33 1 + 8 - 1) % 8) + 7 - i) % 8 = (T.1 33 1 + 7 - (i + 1)) % 8 := by omega
        rw [ei, w _ (by omega) (by omega) (by omega) (by rw [o1v]; omega) (by omega)]
        refine zPr_on (hh (i + 1) (by omega) (by omega)) (fun j j0 j1 => ?_)
        show U.1 143 (63 * (T.1 33 2 - 1 - i) + j) = T.1 143 (63 * (T.1 33 2 - (i + 1)) + j)
        rw [u143, rCp_ne _ _ _ (by omega)]
        exact congrArg _ (by omega)
      · exact zIs_put h3 (by omega) (f 3 (by decide) (by decide)) (by rw [w 0 (by decide) (by decide) (by decide) (by decide) (by decide)]) (w o9 (by decide) (by decide) (by decide) (by decide) (by decide)) (fun j _ _ => by rw [u143, rCp_ne _ _ _ (by omega)])
      · exact zIt_eq h4 (f 7 (by decide) (by decide)) (by rw [w 137 (by decide) (by decide) (by decide) (by decide) (by decide)]) (w 138 (by decide) (by decide) (by decide) (by decide) (by decide)) (w 144 (by decide) (by decide) (by decide) (by decide) (by decide))
      · exact zIe_eq h5 (f 10 (by decide) (by decide)) (f 11 (by decide) (by decide)) (w 0 (by decide) (by decide) (by decide) (by decide) (by decide))
      · exact zIo_eq h6 (f 15 (by decide) (by decide)) (w 140 (by decide) (by decide) (by decide) (by decide) (by decide)) (w 141 (by decide) (by decide) (by decide) (by decide) (by decide)) (w 146 (by decide) (by decide) (by decide) (by decide) (by decide))
      · rw [u2]; exact h7
      · rw [w 139 (by decide) (by decide) (by decide) (by decide) (by decide)]; exact h8
  · rw [if_neg q] at hx
    refine go_no (v := 0) hI (zFr_refl T) (by omega) (by omega) (by omega) (by omega) (w_L_undo_1 hx) ?_ trivial
    intro t S e2 e3 _
    have h := c_X11_undo (L := L) (xs := xs) (d := d + 1) (t := t) (T := S) (F := T.1 142) (A := T.1 143) (by omega) (by omega) (by omega)
    rw [zz_id e2 e3, if_pos (by omega), if_pos (by omega)] at h
    exact ⟨_, _, h, upR_eq _ _ _, fun j a _ _ => upR_ne _ _ a, fun _ _ => rfl⟩
theorem s_save (hd : 12 ≤ d) (hI : zIv T N) : ∃ T1 T2, mv_cl L xs (d + 1) k_X10_save [.ref 0] (t, 149, mz T) = some (.inl none, (t, 149, mz T1)) ∧ mv_cl L xs (d + 1) k_X11_save [.ref 142] (t, 149, mz T1) = some (.inl none, (t, 149, mz T2)) ∧ zIv T2 N := by
  obtain ⟨h1, h2, h3, h4, h5, h6, h7, h8⟩ := id hI
  have hx := c_X10_save (L := L) (xs := xs) (d := d + 1) (t := t) (T := T) (by omega) h1.1
  generalize hS : sD (sD T o9 (zCpy (T.1 o1) (T.1 o9))) 0 (upR (T.1 0) 9 1) = S at hx
  have so : ∀ o, ¬ o = o9 → ¬ o = 0 → S.1 o = T.1 o := fun o a b => by rw [← hS, sD_ne _ _ b, sD_ne _ _ a]
  have s0 : S.1 0 = upR (T.1 0) 9 1 := by rw [← hS, sD_eq]
  have s9 : S.1 o9 = zCpy (T.1 o1) (T.1 o9) := by rw [← hS, sD_ne _ _ (by decide), sD_eq]
  have s2 : S.2.1 = T.2.1 := by rw [← hS]; rfl
  have h := c_X11_save (L := L) (xs := xs) (d := d + 1) (t := t) (T := S) (F := T.1 142) (A := T.1 143) (by omega)
  rw [zz_id (so 142 (by decide) (by decide)) (so 143 (by decide) (by decide))] at h
  refine ⟨_, _, hx, h, ?_⟩
  have u142 : (sD (sD S 142 (upR (upR (T.1 142) 0 0) 3 1)) 143 (rCp 0 9 (T.1 143))).1 142 = upR (upR (T.1 142) 0 0) 3 1 := by rw [sD_ne _ _ (by decide), sD_eq]
  have u143 : (sD (sD S 142 (upR (upR (T.1 142) 0 0) 3 1)) 143 (rCp 0 9 (T.1 143))).1 143 = rCp 0 9 (T.1 143) := by rw [sD_eq]
  have uo : ∀ o, ¬ o = 142 → ¬ o = 143 → (sD (sD S 142 (upR (upR (T.1 142) 0 0) 3 1)) 143 (rCp 0 9 (T.1 143))).1 o = S.1 o := fun o a b => by rw [sD_ne _ _ b, sD_ne _ _ a]
  have u2 : (sD (sD S 142 (upR (upR (T.1 142) 0 0) 3 1)) 143 (rCp 0 9 (T.1 143))).2.1 = T.2.1 := s2
  generalize sD (sD S 142 (upR (upR (T.1 142) 0 0) 3 1)) 143 (rCp 0 9 (T.1 143)) = U at u142 u143 uo u2 ⊢
  have w : ∀ o, ¬ o = 142 → ¬ o = 143 → ¬ o = o9 → ¬ o = 0 → U.1 o = T.1 o := fun o a b c e => by rw [uo o a b, so o c e]
  have f : ∀ j, ¬ j = 0 → ¬ j = 3 → U.1 142 j = T.1 142 j := fun j a b => by rw [u142, upR_ne _ _ b, upR_ne _ _ a]
  have u0 : U.1 0 = upR (T.1 0) 9 1 := by rw [uo 0 (by decide) (by decide), s0]
  obtain ⟨hH, hc2, hh⟩ := id h2
  obtain ⟨n0, n8, c0, c8⟩ := hH
  refine ⟨?_, ?_, ⟨?_, ?_, ?_⟩, ?_, ?_, ?_, ?_, ?_⟩
  · rw [w o1 (by decide) (by decide) (by decide) (by decide), u143]
    exact zPr_on h1 (fun j j0 j1 => rCp_ne _ _ _ (by omega))
  · exact zIh_same h2 (f 2 (by decide) (by decide)) (w 33 (by decide) (by decide) (by decide) (by decide)) (fun j hj => w _ (by omega) (by omega) (by rw [o9v]; omega) (by omega)) (fun j _ _ => by rw [u143, rCp_ne _ _ _ (by omega)])
  · rw [u142, upR_eq, u0, upR_eq]
  · rw [u0, upR_eq]; exact .inr rfl
  · intro _
    rw [uo o9 (by decide) (by decide), s9]
    refine zPr_on (zPr_cpy h1 _) (fun j j0 j1 => ?_)
    show U.1 143 (63 * 9 + j) = _
    rw [u143, rCp_is _ _ _ (by omega) (by omega)]
    exact congrArg _ (by omega)
  · exact zIt_eq h4 (f 7 (by decide) (by decide)) (by rw [w 137 (by decide) (by decide) (by decide) (by decide)]) (w 138 (by decide) (by decide) (by decide) (by decide)) (w 144 (by decide) (by decide) (by decide) (by decide))
  · unfold zIe
    rw [f 10 (by decide) (by decide), f 11 (by decide) (by decide), u0, upR_ne _ _ (by decide), upR_ne _ _ (by decide)]
    exact h5
  · exact zIo_eq h6 (f 15 (by decide) (by decide)) (w 140 (by decide) (by decide) (by decide) (by decide)) (w 141 (by decide) (by decide) (by decide) (by decide)) (w 146 (by decide) (by decide) (by decide) (by decide))
  · rw [u2]; exact h7
  · rw [w 139 (by decide) (by decide) (by decide) (by decide)]; exact h8
theorem s_restore (hd : 12 ≤ d) (hI : zIv T N) : ∃ (c : Int) (t2 : Nat) (T1 T2 : zT), mv_cl L xs (d + 1) k_L_restore [.ref 0] (t, 149, mz T) = some (.inl (some (.int (Int32.ofInt c))), (t2, 149, mz T1)) ∧ mv_cl L xs (d + 1) k_X11_restore [.ref 142] (t2, 149, mz T1) = some (.inl none, (t2, 149, mz T2)) ∧ T2.1 142 0 = c ∧ (0 ≤ c ∧ c ≤ 9) ∧ t2 ≤ t + 1 ∧ zIv T2 N := by
  obtain ⟨h1, h2, ⟨hs1, hs2, hs3⟩, h4, h5, h6, h7, h8⟩ := id hI
  have hx := c_X10_restore (L := L) (xs := xs) (d := d) (t := t) (T := T) (by omega) (fun q => (hs3 q).1) hs2
  by_cases q : T.1 0 9 = 1
  · rw [if_pos q] at hx
    have hw := w_L_restore_ok hx
    have hz := hs3 q
    generalize hS : sD (sD T o1 (zCpy (T.1 o9) (T.1 o1))) 33 (upR (T.1 33) 2 0) = S at hw
    have so : ∀ o, ¬ o = o1 → ¬ o = 33 → S.1 o = T.1 o := fun o a b => by rw [← hS, sD_ne _ _ b, sD_ne _ _ a]
    have s33 : S.1 33 = upR (T.1 33) 2 0 := by rw [← hS, sD_eq]
    have s1 : S.1 o1 = zCpy (T.1 o9) (T.1 o1) := by rw [← hS, sD_ne _ _ (by decide), sD_eq]
    have s2 : S.2.1 = T.2.1 := by rw [← hS]; rfl
    have h := c_X11_restore (L := L) (xs := xs) (d := d + 1) (t := t) (T := S) (F := T.1 142) (A := T.1 143) (by omega) (by omega)
    rw [zz_id (so 142 (by decide) (by decide)) (so 143 (by decide) (by decide)), if_neg (by omega)] at h
    refine ⟨0, t, _, _, hw, h, ?_, by omega, by omega, ?_⟩
    · rw [sD_ne _ _ (by decide), sD_eq, upR_ne _ _ (by decide), upR_eq]
    have u142 : (sD (sD S 142 (upR (upR (T.1 142) 0 0) 2 0)) 143 (rCp 9 0 (T.1 143))).1 142 = upR (upR (T.1 142) 0 0) 2 0 := by rw [sD_ne _ _ (by decide), sD_eq]
    have u143 : (sD (sD S 142 (upR (upR (T.1 142) 0 0) 2 0)) 143 (rCp 9 0 (T.1 143))).1 143 = rCp 9 0 (T.1 143) := by rw [sD_eq]
    have uo : ∀ o, ¬ o = 142 → ¬ o = 143 → (sD (sD S 142 (upR (upR (T.1 142) 0 0) 2 0)) 143 (rCp 9 0 (T.1 143))).1 o = S.1 o := fun o a b => by rw [sD_ne _ _ b, sD_ne _ _ a]
    have u2 : (sD (sD S 142 (upR (upR (T.1 142) 0 0) 2 0)) 143 (rCp 9 0 (T.1 143))).2.1 = T.2.1 := s2
    generalize sD (sD S 142 (upR (upR (T.1 142) 0 0) 2 0)) 143 (rCp 9 0 (T.1 143)) = U at u142 u143 uo u2 ⊢
    have w : ∀ o, ¬ o = 142 → ¬ o = 143 → ¬ o = o1 → ¬ o = 33 → U.1 o = T.1 o := fun o a b c e => by rw [uo o a b, so o c e]
    have f : ∀ j, ¬ j = 0 → ¬ j = 2 → U.1 142 j = T.1 142 j := fun j a b => by rw [u142, upR_ne _ _ b, upR_ne _ _ a]
    have u33 : U.1 33 = upR (T.1 33) 2 0 := by rw [uo 33 (by decide) (by decide), s33]
    have v1 : U.1 33 1 = T.1 33 1 := by rw [u33, upR_ne _ _ (by decide)]
    have v2 : U.1 33 2 = 0 := by rw [u33, upR_eq]
    obtain ⟨hH, hc2, hh⟩ := id h2
    obtain ⟨n0, n8, c0, c8⟩ := hH
    refine ⟨?_, ⟨⟨by omega, by omega, by omega, by omega⟩, by rw [u142, upR_eq, v2], fun i i0 i1 => by omega⟩, ?_, ?_, ?_, ?_, ?_, ?_⟩
    · rw [uo o1 (by decide) (by decide), s1, u143]
      refine zPr_on (zPr_cpy hz _) (fun j j0 j1 => ?_)
      rw [rCp_is _ _ _ (by omega) (by omega)]
      show _ = T.1 143 (63 * 9 + j)
      exact congrArg _ (by omega)
    · exact zIs_put ⟨hs1, hs2, hs3⟩ (by omega) (f 3 (by decide) (by decide)) (by rw [w 0 (by decide) (by decide) (by decide) (by decide)]) (w o9 (by decide) (by decide) (by decide) (by decide)) (fun j _ _ => by rw [u143, rCp_ne _ _ _ (by omega)])
    · exact zIt_eq h4 (f 7 (by decide) (by decide)) (by rw [w 137 (by decide) (by decide) (by decide) (by decide)]) (w 138 (by decide) (by decide) (by decide) (by decide)) (w 144 (by decide) (by decide) (by decide) (by decide))
    · exact zIe_eq h5 (f 10 (by decide) (by decide)) (f 11 (by decide) (by decide)) (w 0 (by decide) (by decide) (by decide) (by decide))
    · exact zIo_eq h6 (f 15 (by decide) (by decide)) (w 140 (by decide) (by decide) (by decide) (by decide)) (w 141 (by decide) (by decide) (by decide) (by decide)) (w 146 (by decide) (by decide) (by decide) (by decide))
    · rw [u2]; exact h7
    · rw [w 139 (by decide) (by decide) (by decide) (by decide)]; exact h8
  · rw [if_neg q] at hx
    have hw := w_L_restore_1 hx
    have h := c_X11_restore (L := L) (xs := xs) (d := d + 1) (t := t + 1) (T := T) (F := T.1 142) (A := T.1 143) (by omega) (by omega)
    rw [zz_id rfl rfl, if_pos (by omega)] at h
    refine ⟨1, t + 1, _, _, hw, h, ?_, by omega, by omega, zIv_same hI (zSame_q (fun j a _ _ => upR_ne _ _ a) (fun _ _ => rfl))⟩
    rw [sD_ne _ _ (by decide), sD_eq, upR_eq]
/-- a line is written on both sides -/
theorem zIv_line (hI : zIv T N) (P : zWp) (hP : zCh P) (h54 : P.1 ≤ 54) : zIv (sD (sD (sD (sD T 140 (upR (T.1 140) 1 P.1)) 141 P.2) 142 (upR (upR (T.1 142) 0 0) 15 P.1)) 146 P.2) N := by
  obtain ⟨h1, h2, h3, h4, h5, h6, h7, h8⟩ := id hI
  have w : ∀ o, ¬ o = 140 → ¬ o = 141 → ¬ o = 142 → ¬ o = 146 → (sD (sD (sD (sD T 140 (upR (T.1 140) 1 P.1)) 141 P.2) 142 (upR (upR (T.1 142) 0 0) 15 P.1)) 146 P.2).1 o = T.1 o := fun o a b c e => by rw [sD_ne _ _ e, sD_ne _ _ c, sD_ne _ _ b, sD_ne _ _ a]
  have u142 : (sD (sD (sD (sD T 140 (upR (T.1 140) 1 P.1)) 141 P.2) 142 (upR (upR (T.1 142) 0 0) 15 P.1)) 146 P.2).1 142 = upR (upR (T.1 142) 0 0) 15 P.1 := by rw [sD_ne _ _ (by decide), sD_eq]
  have u140 : (sD (sD (sD (sD T 140 (upR (T.1 140) 1 P.1)) 141 P.2) 142 (upR (upR (T.1 142) 0 0) 15 P.1)) 146 P.2).1 140 1 = P.1 := by rw [sD_ne _ _ (by decide), sD_ne _ _ (by decide), sD_ne _ _ (by decide), sD_eq, upR_eq]
  have u141 : (sD (sD (sD (sD T 140 (upR (T.1 140) 1 P.1)) 141 P.2) 142 (upR (upR (T.1 142) 0 0) 15 P.1)) 146 P.2).1 141 = P.2 := by rw [sD_ne _ _ (by decide), sD_ne _ _ (by decide), sD_eq]
  have u146 : (sD (sD (sD (sD T 140 (upR (T.1 140) 1 P.1)) 141 P.2) 142 (upR (upR (T.1 142) 0 0) 15 P.1)) 146 P.2).1 146 = P.2 := by rw [sD_eq]
  have u2 : (sD (sD (sD (sD T 140 (upR (T.1 140) 1 P.1)) 141 P.2) 142 (upR (upR (T.1 142) 0 0) 15 P.1)) 146 P.2).2.1 = T.2.1 := rfl
  generalize sD (sD (sD (sD T 140 (upR (T.1 140) 1 P.1)) 141 P.2) 142 (upR (upR (T.1 142) 0 0) 15 P.1)) 146 P.2 = U at w u142 u140 u141 u146 u2 ⊢
  have f : ∀ j, ¬ j = 0 → ¬ j = 15 → U.1 142 j = T.1 142 j := fun j a b => by rw [u142, upR_ne _ _ b, upR_ne _ _ a]
  refine ⟨?_, ?_, ?_, ?_, ?_, ?_, ?_, ?_⟩
  · rw [w o1 (by decide) (by decide) (by decide) (by decide), w 143 (by decide) (by decide) (by decide) (by decide)]; exact h1
  · exact zIh_same h2 (f 2 (by decide) (by decide)) (w 33 (by decide) (by decide) (by decide) (by decide)) (fun j hj => w _ (by omega) (by omega) (by omega) (by omega)) (fun j _ _ => by rw [w 143 (by decide) (by decide) (by decide) (by decide)])
  · exact zIs_put h3 (by omega) (f 3 (by decide) (by decide)) (by rw [w 0 (by decide) (by decide) (by decide) (by decide)]) (w o9 (by decide) (by decide) (by decide) (by decide)) (fun j _ _ => by rw [w 143 (by decide) (by decide) (by decide) (by decide)])
  · exact zIt_eq h4 (f 7 (by decide) (by decide)) (by rw [w 137 (by decide) (by decide) (by decide) (by decide)]) (w 138 (by decide) (by decide) (by decide) (by decide)) (w 144 (by decide) (by decide) (by decide) (by decide))
  · exact zIe_eq h5 (f 10 (by decide) (by decide)) (f 11 (by decide) (by decide)) (w 0 (by decide) (by decide) (by decide) (by decide))
  · refine ⟨by rw [u142, upR_eq, u140], by rw [u140]; exact hP.1, by rw [u140]; exact h54, by rw [u146, u141], fun j j0 j1 => ?_⟩
    rw [u140] at j1
    rw [u141]
    exact hP.2 j j0 j1
  · rw [u2]; exact h7
  · rw [w 139 (by decide) (by decide) (by decide) (by decide)]; exact h8
theorem s_writeChain (hd : 12 ≤ d) (hN : N ≤ 1000000) (hI : zIv T N) : zGz L xs (d + 1) k_X10_writeChain k_X11_writeChain T t N := by
  obtain ⟨hW, hB, hL, hC, hT⟩ := hI.1
  obtain ⟨ho1, ho2, ho3, ho4, ho5⟩ := hI.2.2.2.2.2.1
  have e0 := hL.1
  have w0 := hW.1
  have w5 := hW.2.1
  have hx := c_X10_writeChain (L := L) (xs := xs) (d := d + 1) (t := t) (T := T) (by omega) rfl hW
  have er := zWc_r hL (T.1 o1 0).toNat 0 (0, T.1 141) (by omega) (by omega)
  obtain ⟨hc, hl⟩ := zWc_ch hW (T.1 o1 0).toNat 0 (0, T.1 141) (by omega) (by omega) ⟨Int.le_refl 0, fun j a b => absurd b (by show ¬ j < 0; omega)⟩
  have hl2 : (zWc (T.1 o1) (T.1 o1 0).toNat 0 (0, T.1 141)).1 ≤ 54 := by
    have : ((0, T.1 141) : zWp).1 = 0 := rfl
    split at hl <;> omega
  have h := c_X11_writeChain (L := L) (xs := xs) (d := d + 1) (t := t) (T := sD (sD T 140 (upR (T.1 140) 1 (zWc (T.1 o1) (T.1 o1 0).toNat 0 (0, T.1 141)).1)) 141 (zWc (T.1 o1) (T.1 o1 0).toNat 0 (0, T.1 141)).2) (F := T.1 142) (A := T.1 143) (O := T.1 146) (by omega) (by rw [sD_ne _ _ (by decide), sD_ne _ _ (by decide)]) hB
  rw [zz_46 (by rw [sD_ne _ _ (by decide), sD_ne _ _ (by decide)]) (by rw [sD_ne _ _ (by decide), sD_ne _ _ (by decide)]), ho4, ← e0, ← er] at h
  have hc0 := hc.1
  exact ⟨_, _, _, hx, h, ⟨by omega, by omega⟩, zIv_line hI _ hc hl2⟩
theorem s_writeForecast (hd : 12 ≤ d) (hN : N ≤ 1000000) (hI : zIv T N) : zGz L xs (d + 1) k_X10_writeForecast k_X11_writeForecast T t N := by
  obtain ⟨hW, hB, hL, hC, hT⟩ := hI.1
  obtain ⟨ho1, ho2, ho3, ho4, ho5⟩ := hI.2.2.2.2.2.1
  have e2 := hL.2.2.1
  have w0 := hW.2.2.1
  have w5 := hW.2.2.2.1
  have hx := c_X10_writeForecast (L := L) (xs := xs) (d := d + 1) (t := t) (T := T) (by omega) rfl hW
  have er := zWf_r hL (T.1 o1 2).toNat 0 (0, T.1 141) (by omega) (by omega)
  obtain ⟨hc, hl⟩ := zWf_ch hW (T.1 o1 2).toNat 0 (0, T.1 141) (by omega) (by omega) ⟨Int.le_refl 0, fun j a b => absurd b (by show ¬ j < 0; omega)⟩
  have hl2 : (zWf (T.1 o1) (T.1 o1 2).toNat 0 (0, T.1 141)).1 ≤ 54 := by
    have : ((0, T.1 141) : zWp).1 = 0 := rfl
    omega
  have h := c_X11_writeForecast (L := L) (xs := xs) (d := d + 1) (t := t) (T := sD (sD T 140 (upR (T.1 140) 1 (zWf (T.1 o1) (T.1 o1 2).toNat 0 (0, T.1 141)).1)) 141 (zWf (T.1 o1) (T.1 o1 2).toNat 0 (0, T.1 141)).2) (F := T.1 142) (A := T.1 143) (O := T.1 146) (by omega) (by rw [sD_ne _ _ (by decide), sD_ne _ _ (by decide)]) hB
  rw [zz_46 (by rw [sD_ne _ _ (by decide), sD_ne _ _ (by decide)]) (by rw [sD_ne _ _ (by decide), sD_ne _ _ (by decide)]), ho4, ← e2, ← er] at h
  have hc0 := hc.1
  exact ⟨_, _, _, hx, h, ⟨by omega, by omega⟩, zIv_line hI _ hc hl2⟩
end GM
