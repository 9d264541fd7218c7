/-! A CALL ON BOTH SIDES: CHANGES, AND WHAT IS ASKED WITHOUT A WRAPPER -/
def zGz (L : Nat) (xs : Nat → Int32) (d kx km : Nat) (T : zT) (t : Nat) (N : Int) : Prop := ∃ (b : Int) (T1 T2 : zT), mv_cl L xs d kx [.ref 0] (t, 149, mz T) = some (.inl (some (.int (Int32.ofInt b))), (t, 149, mz T1)) ∧ mv_cl L xs d km [.ref 142] (t, 149, mz T1) = some (.inl (some (.int (Int32.ofInt b))), (t, 149, mz T2)) ∧ (-2147483648 ≤ b ∧ b < 2147483648) ∧ zIv T2 N
section GC
variable {L : Nat} {xs : Nat → Int32} {d t kw kx km : Nat} {as : List Value} {T T1 S : zT} {N v c : Int} {P : Int → Prop} {F X A B : Int → Int} {p q r : Int}
theorem gz_q (hI : zIv T N) (s : zFr T T1) (v1 : -2147483648 ≤ v) (v2 : v < 2147483648) (hx : mv_cl L xs d kx [.ref 0] (t, 149, mz T) = some (.inl (some (.int (Int32.ofInt v))), (t, 149, mz T1))) (hm : zAn L xs d km [] T v 0) : zGz L xs d kx km T t N := by
  have e2 : T1.1 142 = T.1 142 := s.2 142 (zJ_no (by omega))
  have e3 : T1.1 143 = T.1 143 := s.2 143 (zJ_no (by omega))
  have e6 : T1.1 146 = T.1 146 := s.2 146 (zJ_no (by omega))
  obtain ⟨F', A', h1, h2, h3, h4⟩ := hm t _ e2 e3 e6
  exact ⟨v, _, _, hx, h1, ⟨v1, v2⟩, zIv_same hI (zSame_trans (zSame_fr s) (zSame_q (fun j a b c => by rw [e2]; exact h3 j a b c) (fun j a => by rw [e3]; exact h4 j a)))⟩
theorem zGo_mono {M : Int} (h : zGo P L xs d kw km as T t N) (hM : N ≤ M) : zGo P L xs d kw km as T t M := by
  obtain ⟨c, b, t2, T1, T2, h1, h2, h3, h4, h5, h6, h7, h8, h9⟩ := h
  exact ⟨c, b, t2, T1, T2, h1, h2, h3, h4, h5, h6, h7, h8, zIv_mono h9 hM⟩
theorem s_basinCount (hd : 12 ≤ d) (hN : N ≤ 1000000) (hI : zIv T N) : zGz L xs (d + 1) k_X10_basinCount k_X11_basinCount T t N := by
  obtain ⟨hW, hB, hL, hC, hT⟩ := hI.1
  have e0 := hL.1
  have w0 := hW.1
  have w5 := hW.2.1
  have hx := c_X10_basinCount (L := L) (xs := xs) (d := d + 1) (t := t) (T := T) (by omega)
  have f2 := hW.2.2.1
  have f12 := hW.2.2.2.1
  have t0 := hT.1
  have t1 := hT.2.1
  refine gz_q hI (zFr_refl T) (by omega) (by omega) hx ?_
  intro t S e2 e3 _
  have h := c_X11_basinCount (L := L) (xs := xs) (d := d + 1) (t := t) (T := S) (F := T.1 142) (A := T.1 143) (by omega) 
  rw [zz_id e2 e3, ← hL.1] at h
  exact ⟨_, _, h, upR_eq _ _ _, fun j a _ _ => upR_ne _ _ a, fun _ _ => rfl⟩
theorem s_time (hd : 12 ≤ d) (hN : N ≤ 1000000) (hI : zIv T N) : zGz L xs (d + 1) k_X10_time k_X11_time T t N := by
  obtain ⟨hW, hB, hL, hC, hT⟩ := hI.1
  have e0 := hL.1
  have w0 := hW.1
  have w5 := hW.2.1
  have hx := c_X10_time (L := L) (xs := xs) (d := d + 1) (t := t) (T := T) (by omega)
  have f2 := hW.2.2.1
  have f12 := hW.2.2.2.1
  have t0 := hT.1
  have t1 := hT.2.1
  refine gz_q hI (zFr_refl T) (by omega) (by omega) hx ?_
  intro t S e2 e3 _
  have h := c_X11_time (L := L) (xs := xs) (d := d + 1) (t := t) (T := S) (F := T.1 142) (A := T.1 143) (by omega) 
  rw [zz_id e2 e3, ← hL.2.1] at h
  exact ⟨_, _, h, upR_eq _ _ _, fun j a _ _ => upR_ne _ _ a, fun _ _ => rfl⟩
theorem s_forecastLength (hd : 12 ≤ d) (hN : N ≤ 1000000) (hI : zIv T N) : zGz L xs (d + 1) k_X10_forecastLength k_X11_forecastLength T t N := by
  obtain ⟨hW, hB, hL, hC, hT⟩ := hI.1
  have e0 := hL.1
  have w0 := hW.1
  have w5 := hW.2.1
  have hx := c_X10_forecastLength (L := L) (xs := xs) (d := d + 1) (t := t) (T := T) (by omega)
  have f2 := hW.2.2.1
  have f12 := hW.2.2.2.1
  have t0 := hT.1
  have t1 := hT.2.1
  refine gz_q hI (zFr_refl T) (by omega) (by omega) hx ?_
  intro t S e2 e3 _
  have h := c_X11_forecastLength (L := L) (xs := xs) (d := d + 1) (t := t) (T := S) (F := T.1 142) (A := T.1 143) (by omega) 
  rw [zz_id e2 e3, ← hL.2.2.1] at h
  exact ⟨_, _, h, upR_eq _ _ _, fun j a _ _ => upR_ne _ _ a, fun _ _ => rfl⟩
theorem s_stored (hd : 12 ≤ d) (hN : N ≤ 1000000) (hI : zIv T N) : zGz L xs (d + 1) k_X10_stored k_X11_stored T t N := by
  obtain ⟨hW, hB, hL, hC, hT⟩ := hI.1
  have e0 := hL.1
  have w0 := hW.1
  have w5 := hW.2.1
  have hx := c_X10_stored (L := L) (xs := xs) (d := d + 1) (t := t) (T := T) (by omega) hW
  have ve := zSm_r hL (w := 1) (by omega) (by omega) (by omega) (T.1 o1 0).toNat 0 0 (by omega) (by omega)
  have vb := zSm_bd (A := T.1 o1) (w := 1) (M := 99) (T.1 o1 0).toNat 0 0 (fun k k0 k1 => by
    have := hW.2.2.2.2.1 k k0 (by omega)
    unfold zOK at this
    omega)
  refine gz_q hI (zFr_refl T) (by omega) (by omega) hx ?_
  intro t S e2 e3 _
  have h := c_X11_stored (L := L) (xs := xs) (d := d + 1) (t := t) (T := S) (F := T.1 142) (A := T.1 143) (by omega) hB.1 hB.2.1
  rw [zz_id e2 e3, ← e0, ← ve] at h
  exact ⟨_, _, h, upR_eq _ _ _, fun j a _ _ => upR_ne _ _ a, fun _ _ => rfl⟩
theorem s_storedByAccounts (hd : 12 ≤ d) (hN : N ≤ 1000000) (hI : zIv T N) : zGz L xs (d + 1) k_X10_storedByAccounts k_X11_storedByAccounts T t N := by
  obtain ⟨hW, hB, hL, hC, hT⟩ := hI.1
  have e0 := hL.1
  have w0 := hW.1
  have w5 := hW.2.1
  have hx := c_X10_storedByAccounts (L := L) (xs := xs) (d := d + 1) (t := t) (T := T) (by omega) hW (fun k k0 k1 => by
    have := hT.2.2.2.2 k k0 k1
    have := hT.2.1
    omega)
  have ve := zSm_r hL (w := 1) (by omega) (by omega) (by omega) (T.1 o1 0).toNat 0 0 (by omega) (by omega)
  have vb := zSm_bd (A := T.1 o1) (w := 1) (M := 99) (T.1 o1 0).toNat 0 0 (fun k k0 k1 => by
    have := hW.2.2.2.2.1 k k0 (by omega)
    unfold zOK at this
    omega)
  have hb : zBl (T.1 o1 0).toNat 0 (T.1 o1 4 + T.1 o1 5 - T.1 o1 3) (T.1 o1) = zSm 1 (T.1 o1 0).toNat 0 0 (T.1 o1) := by
    rw [zBl_S, zSm_S, Int.zero_add]
    exact hC
  rw [hb] at hx
  refine gz_q hI (zFr_refl T) (by omega) (by omega) hx ?_
  intro t S e2 e3 _
  have h := c_X11_storedByAccounts (L := L) (xs := xs) (d := d + 1) (t := t) (T := S) (F := T.1 142) (A := T.1 143) (by omega) hB.1 hB.2.1
  rw [zz_id e2 e3, ← e0, ← ve] at h
  exact ⟨_, _, h, upR_eq _ _ _, fun j a _ _ => upR_ne _ _ a, fun _ _ => rfl⟩
theorem s_isConsistent (hd : 12 ≤ d) (hN : N ≤ 1000000) (hI : zIv T N) : zGz L xs (d + 1) k_X10_isConsistent k_X11_isConsistent T t N := by
  obtain ⟨hW, hB, hL, hC, hT⟩ := hI.1
  have e0 := hL.1
  have w0 := hW.1
  have w5 := hW.2.1
  obtain ⟨T', hf, hx⟩ := c_X10_isConsistent (L := L) (xs := xs) (d := d + 1) (t := t) (T := T) (by omega) hW hC hT hN (fun T' e k k0 k1 => by
    obtain ⟨_, h1, h2⟩ := zSp_r (T := T') (B := T.1 143) (by rw [e]; exact hW) hB (by rw [e]; exact hL) 6 k0 (by rw [e]; exact k1)
    omega)
  refine gz_q hI hf (by omega) (by omega) hx ?_
  intro t S e2 e3 _
  have h := c_X11_isConsistent (L := L) (xs := xs) (d := d + 1) (t := t) (T := S) (F := T.1 142) (A := T.1 143) (by omega) 
  rw [zz_id e2 e3] at h
  exact ⟨_, _, h, upR_eq _ _ _, fun j a _ _ => upR_ne _ _ a, fun _ _ => rfl⟩
def zGl (L : Nat) (xs : Nat → Int32) (d kx km : Nat) (T : zT) (t : Nat) (N : Int) : Prop := ∃ (b : Int) (T1 T2 : zT), mv_cl L xs d kx [.ref 0] (t, 149, mz T) = some (.inl (some (.long (Int64.ofInt b))), (t, 149, mz T1)) ∧ mv_cl L xs d km [.ref 142] (t, 149, mz T1) = some (.inl (some (.long (Int64.ofInt b))), (t, 149, mz T2)) ∧ zIv T2 N
theorem s_riverTotal (hd : 12 ≤ d) (hN : N ≤ 1000000) (hI : zIv T N) : zGl L xs (d + 1) k_X10_riverTotal k_X11_riverTotal T t N := by
  obtain ⟨hW, hB, hL, hC, hT⟩ := hI.1
  have e3 := hL.2.2.2.1
  have t1 := hT.2.1
  have t2 := hT.2.2.1
  have t3 := hT.2.2.2.1
  have hx := c_X10_riverTotal (L := L) (xs := xs) (d := d + 1) (t := t) (T := T) (by omega)
  have h := c_X11_riverTotal (L := L) (xs := xs) (d := d + 1) (t := t) (T := T) (F := T.1 142) (A := T.1 143) (by omega) (by omega) (by omega)
  rw [zz_id rfl rfl, ← e3] at h
  exact ⟨_, _, _, hx, h, zIv_same hI (zSame_q (fun j a _ _ => upR_ne _ _ a) (fun _ _ => rfl))⟩
theorem s_meanFill (hd : 12 ≤ d) (hN : N ≤ 1000000) (hI : zIv T N) : ∃ (c : Int) (y : UInt64) (t2 : Nat) (T1 T2 : zT), mv_cl L xs (d + 1) k_L_meanFill [.ref 0, .ref 148] (t, 149, mz T) = some (.inl (some (.int (Int32.ofInt c))), (t2, 149, mz T1)) ∧ mv_cl L xs (d + 1) k_X11_meanFill [.ref 142] (t2, 149, mz T1) = some (.inl (some (.double y)), (t2, 149, mz T2)) ∧ T2.1 142 0 = c ∧ (0 ≤ c ∧ c ≤ 9) ∧ (c = 0 → T2.2.2.1 = y ∧ Jvm.FP.Core.dIsNaN y = false) ∧ t2 ≤ t + 1 ∧ zIv T2 N := by
  obtain ⟨hW, hB, hL, hC, hT⟩ := hI.1
  have e0 := hL.1
  have w5 := hW.2.1
  have hx := c_X10_meanFill (L := L) (xs := xs) (d := d) (t := t) (T := T) (by omega) hW
  by_cases g : 0 < T.1 o1 0
  · rw [if_pos g, zMn64_r hW hL] at hx
    have h := c_X11_meanFill (L := L) (xs := xs) (d := d + 1) (t := t) (T := ((T.1, T.2.1, zMn64 (T.1 143), T.2.2.2) : zT)) (F := T.1 142) (A := T.1 143) (by omega) hB
    rw [zz_id rfl rfl, if_pos (by omega), if_pos (by omega)] at h
    refine ⟨0, _, t, _, _, w_L_meanFill_ok hx, h, ?_, by omega, fun _ => ⟨rfl, ?_⟩, by omega, zIv_same hI (zSame_trans (S := ((T.1, T.2.1, zMn64 (T.1 143), T.2.2.2) : zT)) ⟨rfl, fun _ _ _ _ _ => rfl, fun _ _ _ _ => rfl, fun _ _ => rfl⟩ (zSame_q (fun j a _ _ => upR_ne _ _ a) (fun _ _ => rfl)))⟩
    · rw [sD_ne _ _ (by decide), sD_eq, upR_eq]
    · unfold zMn64
      exact Jvm.FP.Core.ddiv_out (zMf_nan _ _ _ fp_0 (fun j j0 j1 => by
        have := hB.2.2.2.2.1 j j0 (by omega)
        unfold zOK at this
        omega)) (Jvm.FP.Core.i2d_fin _) (fp_nz (by omega) (by omega))
  · rw [if_neg g] at hx
    have h := c_X11_meanFill (L := L) (xs := xs) (d := d + 1) (t := t + 1) (T := T) (F := T.1 142) (A := T.1 143) (by omega) hB
    rw [zz_id rfl rfl, if_neg (by omega), if_neg (by omega)] at h
    refine ⟨1, _, t + 1, _, _, w_L_meanFill_3 hx, h, ?_, by omega, fun _ => by omega, by omega, zIv_same hI (zSame_q (fun j a _ _ => upR_ne _ _ a) (fun _ _ => rfl))⟩
    rw [sD_ne _ _ (by decide), sD_eq, upR_eq]
theorem s_floodShare (hd : 12 ≤ d) (hN : N ≤ 1000000) (hI : zIv T N) : ∃ (c : Int) (y : UInt32) (t2 : Nat) (T1 T2 : zT), mv_cl L xs (d + 1) k_L_floodShare [.ref 0, .ref 148] (t, 149, mz T) = some (.inl (some (.int (Int32.ofInt c))), (t2, 149, mz T1)) ∧ mv_cl L xs (d + 1) k_X11_floodShare [.ref 142] (t2, 149, mz T1) = some (.inl (some (.float y)), (t2, 149, mz T2)) ∧ T2.1 142 0 = c ∧ (0 ≤ c ∧ c ≤ 9) ∧ (c = 0 → T2.2.2.1 = FP.f2d y ∧ Jvm.FP.Core.dIsNaN (FP.f2d y) = false ∧ mv_n64 (FP.f2d y) = true) ∧ t2 ≤ t + 1 ∧ zIv T2 N := by
  obtain ⟨hW, hB, hL, hC, hT⟩ := hI.1
  have e1 := hL.2.1
  have t0 := hT.1
  have t1 := hT.2.1
  have hx := c_X10_floodShare (L := L) (xs := xs) (d := d) (t := t) (T := T) (by omega) hW (by omega) (by omega)
  by_cases g : 0 < T.1 o1 1
  · rw [if_pos g, zFs32_r hW hL] at hx
    have hn : Jvm.FP.Core.dIsNaN (FP.f2d (zFs32 (T.1 143))) = false := by
      unfold zFs32
      have hs := fp_s (s := zSm 8 (T.1 143 0).toNat 0 0 (T.1 143)) (c := T.1 143 1) (by omega) (by omega)
      exact fp_w hs.1 hs.2
    have h := c_X11_floodShare (L := L) (xs := xs) (d := d + 1) (t := t) (T := ((T.1, T.2.1, FP.f2d (zFs32 (T.1 143)), T.2.2.2) : zT)) (F := T.1 142) (A := T.1 143) (by omega) hB (by omega) (by omega)
    rw [zz_id rfl rfl, if_pos (by omega), if_pos (by omega)] at h
    refine ⟨0, _, t, _, _, w_L_floodShare_ok (n64_of hn) hx, h, ?_, by omega, fun _ => ⟨rfl, hn, n64_of hn⟩, by omega, zIv_same hI (zSame_trans (S := ((T.1, T.2.1, FP.f2d (zFs32 (T.1 143)), T.2.2.2) : zT)) ⟨rfl, fun _ _ _ _ _ => rfl, fun _ _ _ _ => rfl, fun _ _ => rfl⟩ (zSame_q (fun j a _ _ => upR_ne _ _ a) (fun _ _ => rfl)))⟩
    rw [sD_ne _ _ (by decide), sD_eq, upR_eq]
  · rw [if_neg g] at hx
    have h := c_X11_floodShare (L := L) (xs := xs) (d := d + 1) (t := t + 1) (T := T) (F := T.1 142) (A := T.1 143) (by omega) hB (by omega) (by omega)
    rw [zz_id rfl rfl, if_neg (by omega), if_neg (by omega)] at h
    refine ⟨1, _, t + 1, _, _, w_L_floodShare_3 hx, h, ?_, by omega, fun _ => by omega, by omega, zIv_same hI (zSame_q (fun j a _ _ => upR_ne _ _ a) (fun _ _ => rfl))⟩
    rw [sD_ne _ _ (by decide), sD_eq, upR_eq]
theorem rEnF_at {j : Int} (h0 : ¬ j = 0) (h2 : ¬ j = 2) : rEnF 0 F j = F j := by
  unfold rEnF
  rw [if_pos rfl]
  split
  · rw [upR_ne _ _ h2, upR_ne _ _ h0]
  · rw [upR_ne _ _ h2, upR_ne _ _ h0]
theorem rEnF_2 : rEnF 0 F 2 = if F 2 = 8 then 8 else F 2 + 1 := by
  unfold rEnF
  rw [if_pos rfl]
  split
  · rw [upR_eq]
  · rw [upR_eq]
theorem rEnF_00 : rEnF 0 F 0 = 0 := by
  unfold rEnF
  rw [if_pos rfl]
  split
  · rw [upR_ne _ _ (by decide), upR_eq]
  · rw [upR_ne _ _ (by decide), upR_eq]
theorem zRm_at {o : Nat} (h33 : ¬ o = 33) (hs : ¬ o = 35 + 8 * (T.1 33 1).toNat) : (zRm T).1 o = T.1 o := by
  unfold zRm
  rw [sD_ne _ _ h33, sD_ne _ _ hs]
theorem zRm_33 : (zRm T).1 33 = upR (upR (T.1 33) 1 ((T.1 33 1 + 1) % 8)) 2 (min (T.1 33 2 + 1) 8) := by unfold zRm; rw [sD_eq]
theorem zRm_sl : (zRm T).1 (35 + 8 * (T.1 33 1).toNat) = zCpy (T.1 o1) (T.1 (35 + 8 * (T.1 33 1).toNat)) := by unfold zRm; rw [sD_ne _ _ (by omega), sD_eq]
theorem zIv_cmd {k : Nat} (hk : k < 8) (h : zIv T N) (hf : zfOf k (T.1 o1) p q r = 1010) (hS : ∀ o, ¬ o = 147 → S.1 o = (sD (zRm T) o1 (zCo k (T.1 o1) p q r)).1 o) (hS2 : S.2.1 = T.2.1) : zIv (sD (sD S 142 (rEnF 0 (upR (T.1 142) 4 v))) 143 (rEnA 0 (T.1 142) (rCo k (rCp 0 10 (T.1 143)) p q r))) (N + 30) := by
  obtain ⟨h1, h2, h3, h4, h5, h6, h7, h8⟩ := h
  obtain ⟨⟨n0, n8, c0, c8⟩, hc2, _⟩ := id h2
  have hr : zPr (T.1 o1) (rCp 0 10 (T.1 143)) N := zPr_on h1 (fun j j0 j1 => rCp_ne _ _ _ (by omega))
  have hcm := (zPr_cmd (p := p) (q := q) (r := r) hk hr hf).1
  have hB10 := hr.2.1
  have hf10 : zfOf k (rCp 0 10 (T.1 143)) p q r = 1010 := by rw [← zfOf_L hr.2.2.1 hr.1.1 hr.1.2.1]; exact hf
  have hX : ∀ {j : Int}, 63 ≤ j → rCo k (rCp 0 10 (T.1 143)) p q r j = rCp 0 10 (T.1 143) j := fun hj => rCo_hi hk hB10 hf10 hj
  have u : ∀ o, ¬ o = 142 → ¬ o = 143 → ¬ o = 147 → ¬ o = o1 → (sD (sD S 142 (rEnF 0 (upR (T.1 142) 4 v))) 143 (rEnA 0 (T.1 142) (rCo k (rCp 0 10 (T.1 143)) p q r))).1 o = (zRm T).1 o := fun o a b c e => by rw [sD_ne _ _ b, sD_ne _ _ a, hS o c, sD_ne _ _ e]
  have u1 : (sD (sD S 142 (rEnF 0 (upR (T.1 142) 4 v))) 143 (rEnA 0 (T.1 142) (rCo k (rCp 0 10 (T.1 143)) p q r))).1 o1 = zCo k (T.1 o1) p q r := by rw [sD_ne _ _ (by decide), sD_ne _ _ (by decide), hS o1 (by decide), sD_eq]
  have u142 : (sD (sD S 142 (rEnF 0 (upR (T.1 142) 4 v))) 143 (rEnA 0 (T.1 142) (rCo k (rCp 0 10 (T.1 143)) p q r))).1 142 = rEnF 0 (upR (T.1 142) 4 v) := by rw [sD_ne _ _ (by decide), sD_eq]
  have u143 : (sD (sD S 142 (rEnF 0 (upR (T.1 142) 4 v))) 143 (rEnA 0 (T.1 142) (rCo k (rCp 0 10 (T.1 143)) p q r))).1 143 = rEnA 0 (T.1 142) (rCo k (rCp 0 10 (T.1 143)) p q r) := by rw [sD_eq]
  have w : ∀ o, o < 33 ∨ 98 < o → ¬ o = 142 → ¬ o = 143 → ¬ o = 147 → ¬ o = o1 → (sD (sD S 142 (rEnF 0 (upR (T.1 142) 4 v))) 143 (rEnA 0 (T.1 142) (rCo k (rCp 0 10 (T.1 143)) p q r))).1 o = T.1 o := fun o z a b c e => by rw [u o a b c e, zRm_at (by omega) (by omega)]
  have e2 : (sD (sD S 142 (rEnF 0 (upR (T.1 142) 4 v))) 143 (rEnA 0 (T.1 142) (rCo k (rCp 0 10 (T.1 143)) p q r))).2.1 = T.2.1 := hS2
  generalize (sD (sD S 142 (rEnF 0 (upR (T.1 142) 4 v))) 143 (rEnA 0 (T.1 142) (rCo k (rCp 0 10 (T.1 143)) p q r))) = U at u u1 u142 u143 w e2 ⊢
  have o1v : o1 = 1 := rfl
  have o9v : o9 = 9 := rfl
  have f : ∀ j, ¬ j = 0 → ¬ j = 2 → ¬ j = 4 → U.1 142 j = T.1 142 j := fun j a b c => by rw [u142, rEnF_at a b, upR_ne _ _ c]
  refine ⟨?_, ?_, ?_, ?_, ?_, ?_, ?_, ?_⟩
  · rw [u1, u143]
    exact zPr_on hcm (fun j j0 j1 => rEnA_out (by omega) (by omega) (by omega))
  · refine zIh_put (F := T.1 142) (X := rCo k (rCp 0 10 (T.1 143)) p q r) h2 (by omega) ?_ ?_ ?_ ?_ rfl u143 ?_ ?_
    · rw [u 33 (by decide) (by decide) (by decide) (by decide), zRm_33]
    · rw [u142, rEnF_2, upR_ne _ _ (by decide)]
    · rw [u _ (by omega) (by omega) (by omega) (by omega), zRm_sl]
      exact zPr_cpy h1 _
    · intro j hj hn
      rw [u _ (by omega) (by omega) (by omega) (by omega), zRm_at (by omega) (by omega)]
    · intro j j0 j1
      rw [hX (by omega), rCp_is _ _ _ (by omega) (by omega)]
      exact congrArg _ (by omega)
    · intro j j0 j1
      rw [hX (by omega), rCp_ne _ _ _ (by omega)]
  · refine zIs_put h3 (by omega) (f 3 (by decide) (by decide) (by decide)) ?_ ?_ ?_
    · rw [w 0 (by omega) (by decide) (by decide) (by decide) (by decide)]
    · exact w o9 (by omega) (by decide) (by decide) (by decide) (by decide)
    · intro j j0 j1
      rw [u143, rEnA_out (by omega) (by omega) (by omega), hX (by omega), rCp_ne _ _ _ (by omega)]
  · exact zIt_eq h4 (f 7 (by decide) (by decide) (by decide)) (by rw [w 137 (by omega) (by decide) (by decide) (by decide) (by decide)]) (w 138 (by omega) (by decide) (by decide) (by decide) (by decide)) (w 144 (by omega) (by decide) (by decide) (by decide) (by decide))
  · exact zIe_eq h5 (f 10 (by decide) (by decide) (by decide)) (f 11 (by decide) (by decide) (by decide)) (w 0 (by omega) (by decide) (by decide) (by decide) (by decide))
  · exact zIo_eq h6 (f 15 (by decide) (by decide) (by decide)) (w 140 (by omega) (by decide) (by decide) (by decide) (by decide)) (w 141 (by omega) (by decide) (by decide) (by decide) (by decide)) (w 146 (by omega) (by decide) (by decide) (by decide) (by decide))
  · rw [e2]; exact h7
  · rw [w 139 (by omega) (by decide) (by decide) (by decide) (by decide)]; exact h8
theorem rTh_n0 (a b c e : Int) : rTh (((1010 : Nat) : Int) - 1010) a b c e = 0 := by unfold rTh; rw [if_neg (by omega), if_neg (by omega), if_neg (by omega), if_neg (by omega)]
theorem go_cmd {k : Nat} (hk : k < 8) {n1 n2 n3 : Int} (hI : zIv T N) (hx : mv_cl L xs d kx (.ref 0 :: as) (t, 149, mz T) = some (if zfOf k (T.1 o1) p q r = 1010 then (.inl (some (.int (Int32.ofInt (zCv k (T.1 o1) p q r)))), (t, 149, mz (sD (zRm T) o1 (zCo k (T.1 o1) p q r)))) else (.inr (zE (zfOf k (T.1 o1) p q r)), (t + 1, 149, mz T)))) (hm : ∀ (t : Nat) (S : zT) (F A : Int → Int), zWF (rCp 0 10 A) 99 → 0 ≤ F 2 → F 2 ≤ 8 → mv_cl L xs (d + 1) km (.ref 142 :: as) (t, 149, mz (sD (sD S 142 F) 143 A)) = some (.inl (some (.int (Int32.ofInt (if rPub k n1 n2 n3 (rCp 0 10 A) p q r = 0 then (if zfOf k (rCp 0 10 A) p q r = 1010 then rCv k (rCp 0 10 A) p q r else F 4) else 0)))), (t, 149, mz (sD (sD S 142 (rEnF (rPub k n1 n2 n3 (rCp 0 10 A) p q r) (if zfOf k (rCp 0 10 A) p q r = 1010 then upR F 4 (rCv k (rCp 0 10 A) p q r) else F))) 143 (rEnA (rPub k n1 n2 n3 (rCp 0 10 A) p q r) F (if zfOf k (rCp 0 10 A) p q r = 1010 then rCo k (rCp 0 10 A) p q r else rCp 0 10 A)))))) (wok : ∀ (v : Int) (T2 : zT), -2147483648 ≤ v → v < 2147483648 → mv_cl L xs d kx (.ref 0 :: as) (t, 149, mz T) = some (.inl (some (.int (Int32.ofInt v))), (t, 149, mz T2)) → mv_cl L xs (d + 1) kw (.ref 0 :: (as ++ [.ref 147])) (t, 149, mz T) = some (.inl (some (.int (Int32.ofInt 0))), (t, 149, mz (sD T2 147 (upR (T2.1 147) 0 v))))) (wno : ¬ zfOf k (T.1 o1) p q r = 1010 → mv_cl L xs d kx (.ref 0 :: as) (t, 149, mz T) = some (.inr (zE (zfOf k (T.1 o1) p q r)), (t + 1, 149, mz T)) → mv_cl L xs (d + 1) kw (.ref 0 :: (as ++ [.ref 147])) (t, 149, mz T) = some (.inl (some (.int (Int32.ofInt (rTh ((zfOf k (T.1 o1) p q r : Nat) - 1010) n1 n2 n3 0)))), (t + 1, 149, mz T)) ∧ 1 ≤ rTh ((zfOf k (T.1 o1) p q r : Nat) - 1010) n1 n2 n3 0 ∧ rTh ((zfOf k (T.1 o1) p q r : Nat) - 1010) n1 n2 n3 0 ≤ 9) : zGo (fun _ => True) L xs (d + 1) kw km as T t (N + 30) := by
  have hP := hI.1
  obtain ⟨⟨n0, n8, c0, c8⟩, hc2, _⟩ := hI.2.1
  have hr : zPr (T.1 o1) (rCp 0 10 (T.1 143)) N := zPr_on hP (fun j j0 j1 => rCp_ne _ _ _ (by omega))
  have ef : zfOf k (rCp 0 10 (T.1 143)) p q r = zfOf k (T.1 o1) p q r := (zfOf_L hr.2.2.1 hr.1.1 hr.1.2.1).symm
  by_cases hf : zfOf k (T.1 o1) p q r = 1010
  · rw [if_pos hf] at hx
    have vb := zCv_bd hk hP.1 hf
    have hw := wok _ _ (by omega) (by omega) hx
    have h := hm t (sD (sD (zRm T) o1 (zCo k (T.1 o1) p q r)) 147 (upR ((sD (zRm T) o1 (zCo k (T.1 o1) p q r)).1 147) 0 (zCv k (T.1 o1) p q r))) (T.1 142) (T.1 143) hr.2.1 (by omega) (by omega)
    have hth : rPub k n1 n2 n3 (rCp 0 10 (T.1 143)) p q r = 0 := by unfold rPub; rw [ef, hf]; exact rTh_n0 _ _ _ _
    have o1v : o1 = 1 := rfl
    rw [zz_id (by rw [sD_ne _ _ (by decide), sD_ne _ _ (by decide), zRm_at (by omega) (by omega)]) (by rw [sD_ne _ _ (by decide), sD_ne _ _ (by decide), zRm_at (by omega) (by omega)]), hth, ef, if_pos rfl, if_pos hf, if_pos hf, if_pos hf, ← (zPr_cmd hk hr hf).2] at h
    refine ⟨0, _, t, _, _, hw, h, ?_, by omega, ⟨by omega, by omega⟩, trivial, fun _ => ?_, by omega, ?_⟩
    · rw [sD_ne _ _ (by decide), sD_eq, rEnF_00]
    · rw [sD_ne _ _ (by decide), sD_ne _ _ (by decide), sD_eq, upR_eq]
    · exact zIv_cmd hk hI hf (fun o ho => by rw [sD_ne _ _ ho]) rfl
  · rw [if_neg hf] at hx
    obtain ⟨hw, c1, c9⟩ := wno hf hx
    refine zGo_mono (go_no (v := 0) hI (zFr_refl T) c1 c9 (by omega) (by omega) hw ?_ trivial) (by omega)
    intro t S e2 e3 _
    have h := hm t S (T.1 142) (T.1 143) hr.2.1 (by omega) (by omega)
    have hth : rPub k n1 n2 n3 (rCp 0 10 (T.1 143)) p q r = rTh ((zfOf k (T.1 o1) p q r : Nat) - 1010) n1 n2 n3 0 := by unfold rPub; rw [ef]
    rw [zz_id e2 e3, hth, ef, if_neg (by omega), if_neg hf, if_neg hf] at h
    refine ⟨_, _, h, ?_, ?_, ?_⟩
    · unfold rEnF; rw [if_neg (by omega), upR_eq]
    · intro j a _ _; unfold rEnF; rw [if_neg (by omega), upR_ne _ _ a]
    · intro j a
      unfold rEnA
      rw [if_neg (by omega)]
      by_cases g : 0 ≤ j ∧ j < 63
      · rw [rCp_is _ _ _ (by omega) (by omega), rCp_is _ _ _ (by omega) (by omega)]
        exact congrArg _ (by omega)
      · rw [rCp_ne _ _ _ (by omega), rCp_ne _ _ _ (by omega)]
theorem s_addBasin (hd : 12 ≤ d) (hN : N ≤ 1000000) (hI : zIv T N) {x y z : Int32} : zGo (fun _ => True) L xs (d + 1) k_L_addBasin k_X11_addBasin [.int x, .int y, .int z] T t (N + 30) := by
  obtain ⟨p, p1, p2, rfl⟩ := ze_int x
  obtain ⟨q, q1, q2, rfl⟩ := ze_int y
  obtain ⟨r, r1, r2, rfl⟩ := ze_int z
  obtain ⟨hW, hB, hL, hC, hT⟩ := hI.1
  have hx := c_X10_addBasin (L := L) (xs := xs) (d := d) (t := t) (T := T) (by omega) hW hI.2.1.1 p1 p2 q1 q2 r1 r2
  refine go_cmd (k := 0) (n1 := 0) (n2 := 1) (n3 := 2) (by omega) hI hx (fun t S F A hA f0 f8 => c_X11_addBasin (r := r) (by omega) hA p1 p2 q1 q2 r1 r2  f0 f8) (fun v T2 v1 v2 h => w_L_addBasin_ok v1 v2 h) (fun hf h => ?_)
  have hb := zfOf_bd 0 (T.1 o1) p q r
  rcases (by omega : zfOf 0 (T.1 o1) p q r = 1011 ∨ zfOf 0 (T.1 o1) p q r = 1012 ∨ zfOf 0 (T.1 o1) p q r = 1013) with e | e | e
  · exfalso
    unfold zfOf zfNew at e
    simp only at e
    repeat' split at e
    all_goals omega
  · rw [e] at h ⊢
    rw [show rTh (((1012 : Nat) : Int) - 1010) 0 1 2 0 = 1 by decide]
    exact ⟨w_L_addBasin_0 h, by omega, by omega⟩
  · rw [e] at h ⊢
    rw [show rTh (((1013 : Nat) : Int) - 1010) 0 1 2 0 = 2 by decide]
    exact ⟨w_L_addBasin_1 h, by omega, by omega⟩
theorem s_setGate (hd : 12 ≤ d) (hN : N ≤ 1000000) (hI : zIv T N) {x y : Int32} : zGo (fun _ => True) L xs (d + 1) k_L_setGate k_X11_setGate [.int x, .int y] T t (N + 30) := by
  obtain ⟨p, p1, p2, rfl⟩ := ze_int x
  obtain ⟨q, q1, q2, rfl⟩ := ze_int y
  obtain ⟨hW, hB, hL, hC, hT⟩ := hI.1
  have hx := c_X10_setGate (L := L) (xs := xs) (d := d) (t := t) (T := T) (by omega) hW hI.2.1.1 p1 p2 q1 q2
  refine go_cmd (k := 1) (n1 := 1) (n2 := 2) (n3 := 3) (by omega) hI hx (fun t S F A hA f0 f8 => c_X11_setGate (r := 0) (by omega) hA p1 p2 q1 q2 (by omega) (by omega) f0 f8) (fun v T2 v1 v2 h => w_L_setGate_ok v1 v2 h) (fun hf h => ?_)
  have hb := zfOf_bd 1 (T.1 o1) p q 0
  rcases (by omega : zfOf 1 (T.1 o1) p q 0 = 1011 ∨ zfOf 1 (T.1 o1) p q 0 = 1012 ∨ zfOf 1 (T.1 o1) p q 0 = 1013) with e | e | e
  · rw [e] at h ⊢
    rw [show rTh (((1011 : Nat) : Int) - 1010) 1 2 3 0 = 1 by decide]
    exact ⟨w_L_setGate_2 h, by omega, by omega⟩
  · rw [e] at h ⊢
    rw [show rTh (((1012 : Nat) : Int) - 1010) 1 2 3 0 = 2 by decide]
    exact ⟨w_L_setGate_0 h, by omega, by omega⟩
  · rw [e] at h ⊢
    rw [show rTh (((1013 : Nat) : Int) - 1010) 1 2 3 0 = 3 by decide]
    exact ⟨w_L_setGate_1 h, by omega, by omega⟩
theorem s_setAutomatic (hd : 12 ≤ d) (hN : N ≤ 1000000) (hI : zIv T N) {x y : Int32} : zGo (fun _ => True) L xs (d + 1) k_L_setAutomatic k_X11_setAutomatic [.int x, .int y] T t (N + 30) := by
  obtain ⟨p, p1, p2, rfl⟩ := ze_int x
  obtain ⟨q, q1, q2, rfl⟩ := ze_int y
  obtain ⟨hW, hB, hL, hC, hT⟩ := hI.1
  have hx := c_X10_setAutomatic (L := L) (xs := xs) (d := d) (t := t) (T := T) (by omega) hW hI.2.1.1 p1 p2 q1 q2
  refine go_cmd (k := 2) (n1 := 1) (n2 := 2) (n3 := 0) (by omega) hI hx (fun t S F A hA f0 f8 => c_X11_setAutomatic (r := 0) (by omega) hA p1 p2 q1 q2 (by omega) (by omega) f0 f8) (fun v T2 v1 v2 h => w_L_setAutomatic_ok v1 v2 h) (fun hf h => ?_)
  have hb := zfOf_bd 2 (T.1 o1) p q 0
  rcases (by omega : zfOf 2 (T.1 o1) p q 0 = 1011 ∨ zfOf 2 (T.1 o1) p q 0 = 1012 ∨ zfOf 2 (T.1 o1) p q 0 = 1013) with e | e | e
  · rw [e] at h ⊢
    rw [show rTh (((1011 : Nat) : Int) - 1010) 1 2 0 0 = 1 by decide]
    exact ⟨w_L_setAutomatic_2 h, by omega, by omega⟩
  · rw [e] at h ⊢
    rw [show rTh (((1012 : Nat) : Int) - 1010) 1 2 0 0 = 2 by decide]
    exact ⟨w_L_setAutomatic_0 h, by omega, by omega⟩
  · exfalso
    unfold zfOf zfAt zfR at e
    simp only at e
    repeat' split at e
    all_goals omega
theorem s_setManual (hd : 12 ≤ d) (hN : N ≤ 1000000) (hI : zIv T N) {x : Int32} : zGo (fun _ => True) L xs (d + 1) k_L_setManual k_X11_setManual [.int x] T t (N + 30) := by
  obtain ⟨p, p1, p2, rfl⟩ := ze_int x
  obtain ⟨hW, hB, hL, hC, hT⟩ := hI.1
  have hx := c_X10_setManual (L := L) (xs := xs) (d := d) (t := t) (T := T) (by omega) hW hI.2.1.1 p1 p2
  refine go_cmd (k := 3) (n1 := 1) (n2 := 0) (n3 := 2) (by omega) hI hx (fun t S F A hA f0 f8 => c_X11_setManual (r := 0) (q := 0) (by omega) hA p1 p2 (by omega) (by omega) (by omega) (by omega) f0 f8) (fun v T2 v1 v2 h => w_L_setManual_ok v1 v2 h) (fun hf h => ?_)
  have hb := zfOf_bd 3 (T.1 o1) p 0 0
  rcases (by omega : zfOf 3 (T.1 o1) p 0 0 = 1011 ∨ zfOf 3 (T.1 o1) p 0 0 = 1012 ∨ zfOf 3 (T.1 o1) p 0 0 = 1013) with e | e | e
  · rw [e] at h ⊢
    rw [show rTh (((1011 : Nat) : Int) - 1010) 1 0 2 0 = 1 by decide]
    exact ⟨w_L_setManual_2 h, by omega, by omega⟩
  · exfalso
    unfold zfOf zfHand at e
    simp only at e
    repeat' split at e
    all_goals omega
  · rw [e] at h ⊢
    rw [show rTh (((1013 : Nat) : Int) - 1010) 1 0 2 0 = 2 by decide]
    exact ⟨w_L_setManual_1 h, by omega, by omega⟩
theorem s_addRain (hd : 12 ≤ d) (hN : N ≤ 1000000) (hI : zIv T N) {x : Int32} : zGo (fun _ => True) L xs (d + 1) k_L_addRain k_X11_addRain [.int x] T t (N + 30) := by
  obtain ⟨p, p1, p2, rfl⟩ := ze_int x
  obtain ⟨hW, hB, hL, hC, hT⟩ := hI.1
  have hx := c_X10_addRain (L := L) (xs := xs) (d := d) (t := t) (T := T) (by omega) hW hI.2.1.1 p1 p2
  refine go_cmd (k := 4) (n1 := 0) (n2 := 1) (n3 := 2) (by omega) hI hx (fun t S F A hA f0 f8 => c_X11_addRain (r := 0) (q := 0) (by omega) hA p1 p2 (by omega) (by omega) (by omega) (by omega) f0 f8) (fun v T2 v1 v2 h => w_L_addRain_ok v1 v2 h) (fun hf h => ?_)
  have hb := zfOf_bd 4 (T.1 o1) p 0 0
  rcases (by omega : zfOf 4 (T.1 o1) p 0 0 = 1011 ∨ zfOf 4 (T.1 o1) p 0 0 = 1012 ∨ zfOf 4 (T.1 o1) p 0 0 = 1013) with e | e | e
  · exfalso
    unfold zfOf zfRain at e
    simp only at e
    repeat' split at e
    all_goals omega
  · rw [e] at h ⊢
    rw [show rTh (((1012 : Nat) : Int) - 1010) 0 1 2 0 = 1 by decide]
    exact ⟨w_L_addRain_0 h, by omega, by omega⟩
  · rw [e] at h ⊢
    rw [show rTh (((1013 : Nat) : Int) - 1010) 0 1 2 0 = 2 by decide]
    exact ⟨w_L_addRain_1 h, by omega, by omega⟩
theorem s_pour (hd : 12 ≤ d) (hN : N ≤ 1000000) (hI : zIv T N) {x y : Int32} : zGo (fun _ => True) L xs (d + 1) k_L_pour k_X11_pour [.int x, .int y] T t (N + 30) := by
  obtain ⟨p, p1, p2, rfl⟩ := ze_int x
  obtain ⟨q, q1, q2, rfl⟩ := ze_int y
  obtain ⟨hW, hB, hL, hC, hT⟩ := hI.1
  have hx := c_X10_pour (L := L) (xs := xs) (d := d) (t := t) (T := T) (by omega) hW hI.2.1.1 p1 p2 q1 q2
  refine go_cmd (k := 6) (n1 := 1) (n2 := 2) (n3 := 3) (by omega) hI hx (fun t S F A hA f0 f8 => c_X11_pour (r := 0) (by omega) hA p1 p2 q1 q2 (by omega) (by omega) f0 f8) (fun v T2 v1 v2 h => w_L_pour_ok v1 v2 h) (fun hf h => ?_)
  have hb := zfOf_bd 6 (T.1 o1) p q 0
  rcases (by omega : zfOf 6 (T.1 o1) p q 0 = 1011 ∨ zfOf 6 (T.1 o1) p q 0 = 1012 ∨ zfOf 6 (T.1 o1) p q 0 = 1013) with e | e | e
  · rw [e] at h ⊢
    rw [show rTh (((1011 : Nat) : Int) - 1010) 1 2 3 0 = 1 by decide]
    exact ⟨w_L_pour_2 h, by omega, by omega⟩
  · rw [e] at h ⊢
    rw [show rTh (((1012 : Nat) : Int) - 1010) 1 2 3 0 = 2 by decide]
    exact ⟨w_L_pour_0 h, by omega, by omega⟩
  · rw [e] at h ⊢
    rw [show rTh (((1013 : Nat) : Int) - 1010) 1 2 3 0 = 3 by decide]
    exact ⟨w_L_pour_1 h, by omega, by omega⟩
theorem s_advance (hd : 12 ≤ d) (hN : N ≤ 1000000) (hI : zIv T N) {x : Int32} : zGo (fun _ => True) L xs (d + 1) k_L_advance k_X11_advance [.int x] T t (N + 30) := by
  obtain ⟨p, p1, p2, rfl⟩ := ze_int x
  obtain ⟨hW, hB, hL, hC, hT⟩ := hI.1
  have hx := c_X10_advance (L := L) (xs := xs) (d := d) (t := t) (T := T) (by omega) hW hI.2.1.1 p1 p2
  refine go_cmd (k := 7) (n1 := 0) (n2 := 1) (n3 := 0) (by omega) hI hx (fun t S F A hA f0 f8 => c_X11_advance (r := 0) (q := 0) (by omega) hA (fun m _ => rPs_wf m hA) p1 p2 (by omega) (by omega) (by omega) (by omega) f0 f8) (fun v T2 v1 v2 h => w_L_advance_ok v1 v2 h) (fun hf h => ?_)
  have hb := zfOf_bd 7 (T.1 o1) p 0 0
  rcases (by omega : zfOf 7 (T.1 o1) p 0 0 = 1011 ∨ zfOf 7 (T.1 o1) p 0 0 = 1012 ∨ zfOf 7 (T.1 o1) p 0 0 = 1013) with e | e | e
  · exfalso
    unfold zfOf zfR at e
    simp only at e
    repeat' split at e
    all_goals omega
  · rw [e] at h ⊢
    rw [show rTh (((1012 : Nat) : Int) - 1010) 0 1 0 0 = 1 by decide]
    exact ⟨w_L_advance_0 h, by omega, by omega⟩
  · exfalso
    unfold zfOf zfR at e
    simp only at e
    repeat' split at e
    all_goals omega
theorem s_clearForecast (hd : 12 ≤ d) (hN : N ≤ 1000000) (hI : zIv T N) : zGz L xs (d + 1) k_X10_clearForecast k_X11_clearForecast T t (N + 30) := by
  obtain ⟨hW, hB, hL, hC, hT⟩ := hI.1
  have hP := hI.1
  obtain ⟨⟨n0, n8, c0, c8⟩, hc2, _⟩ := hI.2.1
  have hx := c_X10_clearForecast (L := L) (xs := xs) (d := d + 1) (t := t) (T := T) (by omega) hW hI.2.1.1
  have hf : zfOf 5 (T.1 o1) 0 0 0 = 1010 := rfl
  have hr : zPr (T.1 o1) (rCp 0 10 (T.1 143)) N := zPr_on hP (fun j j0 j1 => rCp_ne _ _ _ (by omega))
  rw [if_pos hf] at hx
  have vb := zCv_bd (by omega) hW hf
  have h := c_X11_clearForecast (L := L) (xs := xs) (d := d + 1) (t := t) (T := sD (zRm T) o1 (zCo 5 (T.1 o1) 0 0 0)) (F := T.1 142) (A := T.1 143) (p := 0) (q := 0) (r := 0) (by omega) hr.2.1 (by omega) (by omega) (by omega) (by omega) (by omega) (by omega) (by omega) (by omega)
  have hth : rPub 5 0 0 0 (rCp 0 10 (T.1 143)) 0 0 0 = 0 := rTh_n0 _ _ _ _
  have ef : zfOf 5 (rCp 0 10 (T.1 143)) 0 0 0 = 1010 := rfl
  have o1v : o1 = 1 := rfl
  rw [zz_id (by rw [sD_ne _ _ (by decide), zRm_at (by omega) (by omega)]) (by rw [sD_ne _ _ (by decide), zRm_at (by omega) (by omega)]), hth, if_pos rfl, if_pos ef, if_pos ef, if_pos ef, ← (zPr_cmd (by omega) hr hf).2] at h
  exact ⟨_, _, _, hx, h, ⟨by omega, by omega⟩, zIv_cmd (by omega) hI hf (fun _ _ => rfl) rfl⟩
end GC
