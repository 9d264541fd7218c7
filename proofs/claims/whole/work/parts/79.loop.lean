/-! THE LAW'S LOOP -/
section LP
variable {L : Nat} {xs : Nat → Int32} {d t : Nat} {T : zT} {i N : Int}
/-- one turn of the loop -/
def zTurn (L : Nat) (xs : Nat → Int32) (d t : Nat) (T : zT) (i N : Int) : Prop := ∃ (t2 : Nat) (T2 : zT), t2 ≤ t + 1 ∧ zIv T2 (N + 1800) ∧ ∀ R : mv_R, mv_Ev L xs (mv_cl L xs d) k_L_law 28 (lw_ls (i + 4)) [] (t2, 149, mz T2) R → mv_Ev L xs (mv_cl L xs d) k_L_law 28 (lw_ls i) [] (t, 149, mz T) R
theorem and_63 (x : Int32) : ∃ k : Nat, k < 64 ∧ x &&& Int32.ofInt 63 = Int32.ofInt ((k : Nat) : Int) := by
  refine ⟨(x &&& Int32.ofInt 63).toBitVec.toNat, ?_, ?_⟩
  · have e : (x &&& Int32.ofInt 63).toBitVec = x.toBitVec &&& 63#32 := rfl
    rw [e, BitVec.toNat_and]
    have h : x.toBitVec.toNat &&& (63#32).toNat ≤ (63#32).toNat := Nat.and_le_right
    have h2 : (63#32).toNat = 63 := rfl
    omega
  · apply Int32.toBitVec_inj.mp
    generalize (x &&& Int32.ofInt 63).toBitVec = y
    show y = BitVec.ofInt 32 (y.toNat : Int)
    rw [BitVec.ofInt_natCast, BitVec.ofNat_toNat, BitVec.setWidth_eq]
theorem tr_0 (i0 : 0 ≤ i) (iL : i + 4 ≤ L) (L9 : L ≤ 2048) (hd : 13 ≤ d) (hN : N ≤ 1000000) (hI : zIv T N) (h : xs i.toNat &&& Int32.ofInt 63 = Int32.ofInt 0) : zTurn L xs d t T i N := by
  obtain ⟨d, rfl⟩ : ∃ e, d = e + 1 := ⟨d - 1, by omega⟩
  obtain ⟨c, b, t2, T1, T2, hw, hm, hc, ⟨c0, c9⟩, ⟨b1, b2⟩, -, hb, ht, hI2⟩ := s_addBasin (L := L) (xs := xs) (d := d) (t := t) (T := T) (N := N) (x := xs (i + 1).toNat) (y := xs (i + 2).toNat) (z := xs (i + 3).toNat) (by omega) hN hI
  exact ⟨t2, T2, ht, zIv_mono hI2 (by omega), fun R H => ls_0 h i0 iL L9 (lc_0 i0 iL L9 (by omega) hw hm hc c0 c9 b1 b2 hb H)⟩
theorem tr_1 (i0 : 0 ≤ i) (iL : i + 4 ≤ L) (L9 : L ≤ 2048) (hd : 13 ≤ d) (hN : N ≤ 1000000) (hI : zIv T N) (h : xs i.toNat &&& Int32.ofInt 63 = Int32.ofInt 1) : zTurn L xs d t T i N := by
  obtain ⟨d, rfl⟩ : ∃ e, d = e + 1 := ⟨d - 1, by omega⟩
  obtain ⟨c, b, t2, T1, T2, hw, hm, hc, ⟨c0, c9⟩, ⟨b1, b2⟩, -, hb, ht, hI2⟩ := s_setGate (L := L) (xs := xs) (d := d) (t := t) (T := T) (N := N) (x := xs (i + 1).toNat) (y := xs (i + 2).toNat) (by omega) hN hI
  exact ⟨t2, T2, ht, zIv_mono hI2 (by omega), fun R H => ls_1 h i0 iL L9 (lc_1 i0 iL L9 (by omega) hw hm hc c0 c9 b1 b2 hb H)⟩
theorem tr_2 (i0 : 0 ≤ i) (iL : i + 4 ≤ L) (L9 : L ≤ 2048) (hd : 13 ≤ d) (hN : N ≤ 1000000) (hI : zIv T N) (h : xs i.toNat &&& Int32.ofInt 63 = Int32.ofInt 2) : zTurn L xs d t T i N := by
  obtain ⟨d, rfl⟩ : ∃ e, d = e + 1 := ⟨d - 1, by omega⟩
  obtain ⟨c, b, t2, T1, T2, hw, hm, hc, ⟨c0, c9⟩, ⟨b1, b2⟩, -, hb, ht, hI2⟩ := s_setAutomatic (L := L) (xs := xs) (d := d) (t := t) (T := T) (N := N) (x := xs (i + 1).toNat) (y := xs (i + 2).toNat) (by omega) hN hI
  exact ⟨t2, T2, ht, zIv_mono hI2 (by omega), fun R H => ls_2 h i0 iL L9 (lc_2 i0 iL L9 (by omega) hw hm hc c0 c9 b1 b2 hb H)⟩
theorem tr_3 (i0 : 0 ≤ i) (iL : i + 4 ≤ L) (L9 : L ≤ 2048) (hd : 13 ≤ d) (hN : N ≤ 1000000) (hI : zIv T N) (h : xs i.toNat &&& Int32.ofInt 63 = Int32.ofInt 3) : zTurn L xs d t T i N := by
  obtain ⟨d, rfl⟩ : ∃ e, d = e + 1 := ⟨d - 1, by omega⟩
  obtain ⟨c, b, t2, T1, T2, hw, hm, hc, ⟨c0, c9⟩, ⟨b1, b2⟩, -, hb, ht, hI2⟩ := s_setManual (L := L) (xs := xs) (d := d) (t := t) (T := T) (N := N) (x := xs (i + 1).toNat) (by omega) hN hI
  exact ⟨t2, T2, ht, zIv_mono hI2 (by omega), fun R H => ls_3 h i0 iL L9 (lc_3 i0 iL L9 (by omega) hw hm hc c0 c9 b1 b2 hb H)⟩
theorem tr_4 (i0 : 0 ≤ i) (iL : i + 4 ≤ L) (L9 : L ≤ 2048) (hd : 13 ≤ d) (hN : N ≤ 1000000) (hI : zIv T N) (h : xs i.toNat &&& Int32.ofInt 63 = Int32.ofInt 4) : zTurn L xs d t T i N := by
  obtain ⟨d, rfl⟩ : ∃ e, d = e + 1 := ⟨d - 1, by omega⟩
  obtain ⟨c, b, t2, T1, T2, hw, hm, hc, ⟨c0, c9⟩, ⟨b1, b2⟩, -, hb, ht, hI2⟩ := s_addRain (L := L) (xs := xs) (d := d) (t := t) (T := T) (N := N) (x := xs (i + 1).toNat) (by omega) hN hI
  exact ⟨t2, T2, ht, zIv_mono hI2 (by omega), fun R H => ls_4 h i0 iL L9 (lc_4 i0 iL L9 (by omega) hw hm hc c0 c9 b1 b2 hb H)⟩
theorem tr_5 (i0 : 0 ≤ i) (iL : i + 4 ≤ L) (L9 : L ≤ 2048) (hd : 13 ≤ d) (hN : N ≤ 1000000) (hI : zIv T N) (h : xs i.toNat &&& Int32.ofInt 63 = Int32.ofInt 5) : zTurn L xs d t T i N := by
  obtain ⟨d, rfl⟩ : ∃ e, d = e + 1 := ⟨d - 1, by omega⟩
  obtain ⟨b, T1, T2, hw, hm, ⟨b1, b2⟩, hI2⟩ := s_clearForecast (L := L) (xs := xs) (d := d) (t := t) (T := T) (N := N) (by omega) hN hI
  exact ⟨t, T2, by omega, zIv_mono hI2 (by omega), fun R H => ls_5 h i0 iL L9 (lc_5 i0 iL L9 (by omega) b1 b2 hw hm H)⟩
theorem tr_6 (i0 : 0 ≤ i) (iL : i + 4 ≤ L) (L9 : L ≤ 2048) (hd : 13 ≤ d) (hN : N ≤ 1000000) (hI : zIv T N) (h : xs i.toNat &&& Int32.ofInt 63 = Int32.ofInt 6) : zTurn L xs d t T i N := by
  obtain ⟨d, rfl⟩ : ∃ e, d = e + 1 := ⟨d - 1, by omega⟩
  obtain ⟨c, b, t2, T1, T2, hw, hm, hc, ⟨c0, c9⟩, ⟨b1, b2⟩, -, hb, ht, hI2⟩ := s_pour (L := L) (xs := xs) (d := d) (t := t) (T := T) (N := N) (x := xs (i + 1).toNat) (y := xs (i + 2).toNat) (by omega) hN hI
  exact ⟨t2, T2, ht, zIv_mono hI2 (by omega), fun R H => ls_6 h i0 iL L9 (lc_6 i0 iL L9 (by omega) hw hm hc c0 c9 b1 b2 hb H)⟩
theorem tr_7 (i0 : 0 ≤ i) (iL : i + 4 ≤ L) (L9 : L ≤ 2048) (hd : 13 ≤ d) (hN : N ≤ 1000000) (hI : zIv T N) (h : xs i.toNat &&& Int32.ofInt 63 = Int32.ofInt 7) : zTurn L xs d t T i N := by
  obtain ⟨d, rfl⟩ : ∃ e, d = e + 1 := ⟨d - 1, by omega⟩
  obtain ⟨c, b, t2, T1, T2, hw, hm, hc, ⟨c0, c9⟩, ⟨b1, b2⟩, -, hb, ht, hI2⟩ := s_advance (L := L) (xs := xs) (d := d) (t := t) (T := T) (N := N) (x := xs (i + 1).toNat) (by omega) hN hI
  exact ⟨t2, T2, ht, zIv_mono hI2 (by omega), fun R H => ls_7 h i0 iL L9 (lc_7 i0 iL L9 (by omega) hw hm hc c0 c9 b1 b2 hb H)⟩
theorem tr_8 (i0 : 0 ≤ i) (iL : i + 4 ≤ L) (L9 : L ≤ 2048) (hd : 13 ≤ d) (hN : N ≤ 1000000) (hI : zIv T N) (h : xs i.toNat &&& Int32.ofInt 63 = Int32.ofInt 8) : zTurn L xs d t T i N := by
  obtain ⟨d, rfl⟩ : ∃ e, d = e + 1 := ⟨d - 1, by omega⟩
  obtain ⟨b, T1, T2, hw, hm, ⟨b1, b2⟩, hI2⟩ := s_basinCount (L := L) (xs := xs) (d := d) (t := t) (T := T) (N := N) (by omega) hN hI
  exact ⟨t, T2, by omega, zIv_mono hI2 (by omega), fun R H => ls_8 h i0 iL L9 (lc_8 i0 iL L9 (by omega) b1 b2 hw hm H)⟩
theorem tr_9 (i0 : 0 ≤ i) (iL : i + 4 ≤ L) (L9 : L ≤ 2048) (hd : 13 ≤ d) (hN : N ≤ 1000000) (hI : zIv T N) (h : xs i.toNat &&& Int32.ofInt 63 = Int32.ofInt 9) : zTurn L xs d t T i N := by
  obtain ⟨d, rfl⟩ : ∃ e, d = e + 1 := ⟨d - 1, by omega⟩
  obtain ⟨c, b, t2, T1, T2, hw, hm, hc, ⟨c0, c9⟩, ⟨b1, b2⟩, -, hb, ht, hI2⟩ := s_capacity (L := L) (xs := xs) (d := d) (t := t) (T := T) (N := N) (x := xs (i + 1).toNat) (by omega) hN hI
  exact ⟨t2, T2, ht, zIv_mono hI2 (by omega), fun R H => ls_9 h i0 iL L9 (lc_9 i0 iL L9 (by omega) hw hm hc c0 c9 b1 b2 hb H)⟩
theorem tr_10 (i0 : 0 ≤ i) (iL : i + 4 ≤ L) (L9 : L ≤ 2048) (hd : 13 ≤ d) (hN : N ≤ 1000000) (hI : zIv T N) (h : xs i.toNat &&& Int32.ofInt 63 = Int32.ofInt 10) : zTurn L xs d t T i N := by
  obtain ⟨d, rfl⟩ : ∃ e, d = e + 1 := ⟨d - 1, by omega⟩
  obtain ⟨c, b, t2, T1, T2, hw, hm, hc, ⟨c0, c9⟩, ⟨b1, b2⟩, -, hb, ht, hI2⟩ := s_level (L := L) (xs := xs) (d := d) (t := t) (T := T) (N := N) (x := xs (i + 1).toNat) (by omega) hN hI
  exact ⟨t2, T2, ht, zIv_mono hI2 (by omega), fun R H => ls_10 h i0 iL L9 (lc_10 i0 iL L9 (by omega) hw hm hc c0 c9 b1 b2 hb H)⟩
theorem tr_11 (i0 : 0 ≤ i) (iL : i + 4 ≤ L) (L9 : L ≤ 2048) (hd : 13 ≤ d) (hN : N ≤ 1000000) (hI : zIv T N) (h : xs i.toNat &&& Int32.ofInt 63 = Int32.ofInt 11) : zTurn L xs d t T i N := by
  obtain ⟨d, rfl⟩ : ∃ e, d = e + 1 := ⟨d - 1, by omega⟩
  obtain ⟨c, b, t2, T1, T2, hw, hm, hc, ⟨c0, c9⟩, ⟨b1, b2⟩, -, hb, ht, hI2⟩ := s_catchment (L := L) (xs := xs) (d := d) (t := t) (T := T) (N := N) (x := xs (i + 1).toNat) (by omega) hN hI
  exact ⟨t2, T2, ht, zIv_mono hI2 (by omega), fun R H => ls_11 h i0 iL L9 (lc_11 i0 iL L9 (by omega) hw hm hc c0 c9 b1 b2 hb H)⟩
theorem tr_12 (i0 : 0 ≤ i) (iL : i + 4 ≤ L) (L9 : L ≤ 2048) (hd : 13 ≤ d) (hN : N ≤ 1000000) (hI : zIv T N) (h : xs i.toNat &&& Int32.ofInt 63 = Int32.ofInt 12) : zTurn L xs d t T i N := by
  obtain ⟨d, rfl⟩ : ∃ e, d = e + 1 := ⟨d - 1, by omega⟩
  obtain ⟨c, b, t2, T1, T2, hw, hm, hc, ⟨c0, c9⟩, ⟨b1, b2⟩, -, hb, ht, hI2⟩ := s_fieldValue (L := L) (xs := xs) (d := d) (t := t) (T := T) (N := N) (x := xs (i + 1).toNat) (by omega) hN hI
  exact ⟨t2, T2, ht, zIv_mono hI2 (by omega), fun R H => ls_12 h i0 iL L9 (lc_12 i0 iL L9 (by omega) hw hm hc c0 c9 b1 b2 hb H)⟩
theorem tr_13 (i0 : 0 ≤ i) (iL : i + 4 ≤ L) (L9 : L ≤ 2048) (hd : 13 ≤ d) (hN : N ≤ 1000000) (hI : zIv T N) (h : xs i.toNat &&& Int32.ofInt 63 = Int32.ofInt 13) : zTurn L xs d t T i N := by
  obtain ⟨d, rfl⟩ : ∃ e, d = e + 1 := ⟨d - 1, by omega⟩
  obtain ⟨c, b, t2, T1, T2, hw, hm, hc, ⟨c0, c9⟩, ⟨b1, b2⟩, -, hb, ht, hI2⟩ := s_opening (L := L) (xs := xs) (d := d) (t := t) (T := T) (N := N) (x := xs (i + 1).toNat) (by omega) hN hI
  exact ⟨t2, T2, ht, zIv_mono hI2 (by omega), fun R H => ls_13 h i0 iL L9 (lc_13 i0 iL L9 (by omega) hw hm hc c0 c9 b1 b2 hb H)⟩
theorem tr_14 (i0 : 0 ≤ i) (iL : i + 4 ≤ L) (L9 : L ≤ 2048) (hd : 13 ≤ d) (hN : N ≤ 1000000) (hI : zIv T N) (h : xs i.toNat &&& Int32.ofInt 63 = Int32.ofInt 14) : zTurn L xs d t T i N := by
  obtain ⟨d, rfl⟩ : ∃ e, d = e + 1 := ⟨d - 1, by omega⟩
  obtain ⟨c, b, t2, T1, T2, hw, hm, hc, ⟨c0, c9⟩, ⟨b1, b2⟩, hv, hb, ht, hI2⟩ := s_isAutomatic (L := L) (xs := xs) (d := d) (t := t) (T := T) (N := N) (x := xs (i + 1).toNat) (by omega) hN hI
  exact ⟨t2, T2, ht, zIv_mono hI2 (by omega), fun R H => ls_14 h i0 iL L9 (lc_14 i0 iL L9 (by omega) hw hm hc c0 c9 b1 b2 hv hb H)⟩
theorem tr_15 (i0 : 0 ≤ i) (iL : i + 4 ≤ L) (L9 : L ≤ 2048) (hd : 13 ≤ d) (hN : N ≤ 1000000) (hI : zIv T N) (h : xs i.toNat &&& Int32.ofInt 63 = Int32.ofInt 15) : zTurn L xs d t T i N := by
  obtain ⟨d, rfl⟩ : ∃ e, d = e + 1 := ⟨d - 1, by omega⟩
  obtain ⟨c, b, t2, T1, T2, hw, hm, hc, ⟨c0, c9⟩, ⟨b1, b2⟩, -, hb, ht, hI2⟩ := s_threshold (L := L) (xs := xs) (d := d) (t := t) (T := T) (N := N) (x := xs (i + 1).toNat) (by omega) hN hI
  exact ⟨t2, T2, ht, zIv_mono hI2 (by omega), fun R H => ls_15 h i0 iL L9 (lc_15 i0 iL L9 (by omega) hw hm hc c0 c9 b1 b2 hb H)⟩
theorem tr_16 (i0 : 0 ≤ i) (iL : i + 4 ≤ L) (L9 : L ≤ 2048) (hd : 13 ≤ d) (hN : N ≤ 1000000) (hI : zIv T N) (h : xs i.toNat &&& Int32.ofInt 63 = Int32.ofInt 16) : zTurn L xs d t T i N := by
  obtain ⟨d, rfl⟩ : ∃ e, d = e + 1 := ⟨d - 1, by omega⟩
  obtain ⟨c, b, t2, T1, T2, hw, hm, hc, ⟨c0, c9⟩, ⟨b1, b2⟩, -, hb, ht, hI2⟩ := s_spilled (L := L) (xs := xs) (d := d) (t := t) (T := T) (N := N) (x := xs (i + 1).toNat) (by omega) hN hI
  exact ⟨t2, T2, ht, zIv_mono hI2 (by omega), fun R H => ls_16 h i0 iL L9 (lc_16 i0 iL L9 (by omega) hw hm hc c0 c9 b1 b2 hb H)⟩
theorem tr_17 (i0 : 0 ≤ i) (iL : i + 4 ≤ L) (L9 : L ≤ 2048) (hd : 13 ≤ d) (hN : N ≤ 1000000) (hI : zIv T N) (h : xs i.toNat &&& Int32.ofInt 63 = Int32.ofInt 17) : zTurn L xs d t T i N := by
  obtain ⟨d, rfl⟩ : ∃ e, d = e + 1 := ⟨d - 1, by omega⟩
  obtain ⟨c, b, t2, T1, T2, hw, hm, hc, ⟨c0, c9⟩, ⟨b1, b2⟩, -, hb, ht, hI2⟩ := s_floodedSteps (L := L) (xs := xs) (d := d) (t := t) (T := T) (N := N) (x := xs (i + 1).toNat) (by omega) hN hI
  exact ⟨t2, T2, ht, zIv_mono hI2 (by omega), fun R H => ls_17 h i0 iL L9 (lc_17 i0 iL L9 (by omega) hw hm hc c0 c9 b1 b2 hb H)⟩
theorem tr_18 (i0 : 0 ≤ i) (iL : i + 4 ≤ L) (L9 : L ≤ 2048) (hd : 13 ≤ d) (hN : N ≤ 1000000) (hI : zIv T N) (h : xs i.toNat &&& Int32.ofInt 63 = Int32.ofInt 18) : zTurn L xs d t T i N := by
  obtain ⟨d, rfl⟩ : ∃ e, d = e + 1 := ⟨d - 1, by omega⟩
  obtain ⟨c, b, t2, T1, T2, hw, hm, hc, ⟨c0, c9⟩, ⟨b1, b2⟩, -, hb, ht, hI2⟩ := s_basinAtRank (L := L) (xs := xs) (d := d) (t := t) (T := T) (N := N) (x := xs (i + 1).toNat) (by omega) hN hI
  exact ⟨t2, T2, ht, zIv_mono hI2 (by omega), fun R H => ls_18 h i0 iL L9 (lc_18 i0 iL L9 (by omega) hw hm hc c0 c9 b1 b2 hb H)⟩
theorem tr_19 (i0 : 0 ≤ i) (iL : i + 4 ≤ L) (L9 : L ≤ 2048) (hd : 13 ≤ d) (hN : N ≤ 1000000) (hI : zIv T N) (h : xs i.toNat &&& Int32.ofInt 63 = Int32.ofInt 19) : zTurn L xs d t T i N := by
  obtain ⟨d, rfl⟩ : ∃ e, d = e + 1 := ⟨d - 1, by omega⟩
  obtain ⟨b, T1, T2, hw, hm, ⟨b1, b2⟩, hI2⟩ := s_time (L := L) (xs := xs) (d := d) (t := t) (T := T) (N := N) (by omega) hN hI
  exact ⟨t, T2, by omega, zIv_mono hI2 (by omega), fun R H => ls_19 h i0 iL L9 (lc_19 i0 iL L9 (by omega) b1 b2 hw hm H)⟩
theorem tr_20 (i0 : 0 ≤ i) (iL : i + 4 ≤ L) (L9 : L ≤ 2048) (hd : 13 ≤ d) (hN : N ≤ 1000000) (hI : zIv T N) (h : xs i.toNat &&& Int32.ofInt 63 = Int32.ofInt 20) : zTurn L xs d t T i N := by
  obtain ⟨d, rfl⟩ : ∃ e, d = e + 1 := ⟨d - 1, by omega⟩
  obtain ⟨b, T1, T2, hw, hm, ⟨b1, b2⟩, hI2⟩ := s_forecastLength (L := L) (xs := xs) (d := d) (t := t) (T := T) (N := N) (by omega) hN hI
  exact ⟨t, T2, by omega, zIv_mono hI2 (by omega), fun R H => ls_20 h i0 iL L9 (lc_20 i0 iL L9 (by omega) b1 b2 hw hm H)⟩
theorem tr_21 (i0 : 0 ≤ i) (iL : i + 4 ≤ L) (L9 : L ≤ 2048) (hd : 13 ≤ d) (hN : N ≤ 1000000) (hI : zIv T N) (h : xs i.toNat &&& Int32.ofInt 63 = Int32.ofInt 21) : zTurn L xs d t T i N := by
  obtain ⟨d, rfl⟩ : ∃ e, d = e + 1 := ⟨d - 1, by omega⟩
  obtain ⟨c, b, t2, T1, T2, hw, hm, hc, ⟨c0, c9⟩, ⟨b1, b2⟩, -, hb, ht, hI2⟩ := s_rainAt (L := L) (xs := xs) (d := d) (t := t) (T := T) (N := N) (x := xs (i + 1).toNat) (by omega) hN hI
  exact ⟨t2, T2, ht, zIv_mono hI2 (by omega), fun R H => ls_21 h i0 iL L9 (lc_21 i0 iL L9 (by omega) hw hm hc c0 c9 b1 b2 hb H)⟩
theorem tr_22 (i0 : 0 ≤ i) (iL : i + 4 ≤ L) (L9 : L ≤ 2048) (hd : 13 ≤ d) (hN : N ≤ 1000000) (hI : zIv T N) (h : xs i.toNat &&& Int32.ofInt 63 = Int32.ofInt 22) : zTurn L xs d t T i N := by
  obtain ⟨d, rfl⟩ : ∃ e, d = e + 1 := ⟨d - 1, by omega⟩
  obtain ⟨b, T1, T2, hw, hm, ⟨b1, b2⟩, hI2⟩ := s_stored (L := L) (xs := xs) (d := d) (t := t) (T := T) (N := N) (by omega) hN hI
  exact ⟨t, T2, by omega, zIv_mono hI2 (by omega), fun R H => ls_22 h i0 iL L9 (lc_22 i0 iL L9 (by omega) b1 b2 hw hm H)⟩
theorem tr_23 (i0 : 0 ≤ i) (iL : i + 4 ≤ L) (L9 : L ≤ 2048) (hd : 13 ≤ d) (hN : N ≤ 1000000) (hI : zIv T N) (h : xs i.toNat &&& Int32.ofInt 63 = Int32.ofInt 23) : zTurn L xs d t T i N := by
  obtain ⟨d, rfl⟩ : ∃ e, d = e + 1 := ⟨d - 1, by omega⟩
  obtain ⟨b, T1, T2, hw, hm, ⟨b1, b2⟩, hI2⟩ := s_storedByAccounts (L := L) (xs := xs) (d := d) (t := t) (T := T) (N := N) (by omega) hN hI
  exact ⟨t, T2, by omega, zIv_mono hI2 (by omega), fun R H => ls_23 h i0 iL L9 (lc_23 i0 iL L9 (by omega) b1 b2 hw hm H)⟩
theorem tr_24 (i0 : 0 ≤ i) (iL : i + 4 ≤ L) (L9 : L ≤ 2048) (hd : 13 ≤ d) (hN : N ≤ 1000000) (hI : zIv T N) (h : xs i.toNat &&& Int32.ofInt 63 = Int32.ofInt 24) : zTurn L xs d t T i N := by
  obtain ⟨d, rfl⟩ : ∃ e, d = e + 1 := ⟨d - 1, by omega⟩
  obtain ⟨b, T1, T2, hw, hm, hI2⟩ := s_riverTotal (L := L) (xs := xs) (d := d) (t := t) (T := T) (N := N) (by omega) hN hI
  exact ⟨t, T2, by omega, zIv_mono hI2 (by omega), fun R H => ls_24 h i0 iL L9 (lc_24 i0 iL L9 (by omega) hw hm H)⟩
theorem tr_25 (i0 : 0 ≤ i) (iL : i + 4 ≤ L) (L9 : L ≤ 2048) (hd : 13 ≤ d) (hN : N ≤ 1000000) (hI : zIv T N) (h : xs i.toNat &&& Int32.ofInt 63 = Int32.ofInt 25) : zTurn L xs d t T i N := by
  obtain ⟨d, rfl⟩ : ∃ e, d = e + 1 := ⟨d - 1, by omega⟩
  obtain ⟨c, y, t2, T1, T2, hw, hm, hc, ⟨c0, c9⟩, hb, ht, hI2⟩ := s_meanFill (L := L) (xs := xs) (d := d) (t := t) (T := T) (N := N) (by omega) hN hI
  exact ⟨t2, T2, ht, zIv_mono hI2 (by omega), fun R H => ls_25 h i0 iL L9 (lc_25 i0 iL L9 (by omega) hw hm hc c0 c9 hb H)⟩
theorem tr_26 (i0 : 0 ≤ i) (iL : i + 4 ≤ L) (L9 : L ≤ 2048) (hd : 13 ≤ d) (hN : N ≤ 1000000) (hI : zIv T N) (h : xs i.toNat &&& Int32.ofInt 63 = Int32.ofInt 26) : zTurn L xs d t T i N := by
  obtain ⟨d, rfl⟩ : ∃ e, d = e + 1 := ⟨d - 1, by omega⟩
  obtain ⟨c, y, t2, T1, T2, hw, hm, hc, ⟨c0, c9⟩, hb, ht, hI2⟩ := s_floodShare (L := L) (xs := xs) (d := d) (t := t) (T := T) (N := N) (by omega) hN hI
  exact ⟨t2, T2, ht, zIv_mono hI2 (by omega), fun R H => ls_26 h i0 iL L9 (lc_26 i0 iL L9 (by omega) hw hm hc c0 c9 hb H)⟩
theorem tr_27 (i0 : 0 ≤ i) (iL : i + 4 ≤ L) (L9 : L ≤ 2048) (hd : 13 ≤ d) (hN : N ≤ 1000000) (hI : zIv T N) (h : xs i.toNat &&& Int32.ofInt 63 = Int32.ofInt 27) : zTurn L xs d t T i N := by
  obtain ⟨d, rfl⟩ : ∃ e, d = e + 1 := ⟨d - 1, by omega⟩
  obtain ⟨c, b, t2, T1, T2, hw, hm, hc, ⟨c0, c9⟩, ⟨b1, b2⟩, -, hb, ht, hI2⟩ := s_levelAfter (L := L) (xs := xs) (d := d) (t := t) (T := T) (N := N) (x := xs (i + 1).toNat) (y := xs (i + 2).toNat) (by omega) hN hI
  exact ⟨t2, T2, ht, zIv_mono hI2 (by omega), fun R H => ls_27 h i0 iL L9 (lc_27 i0 iL L9 (by omega) hw hm hc c0 c9 b1 b2 hb H)⟩
theorem tr_28 (i0 : 0 ≤ i) (iL : i + 4 ≤ L) (L9 : L ≤ 2048) (hd : 13 ≤ d) (hN : N ≤ 1000000) (hI : zIv T N) (h : xs i.toNat &&& Int32.ofInt 63 = Int32.ofInt 28) : zTurn L xs d t T i N := by
  obtain ⟨d, rfl⟩ : ∃ e, d = e + 1 := ⟨d - 1, by omega⟩
  obtain ⟨c, b, t2, T1, T2, hw, hm, hc, ⟨c0, c9⟩, ⟨b1, b2⟩, -, hb, ht, hI2⟩ := s_spillOf (L := L) (xs := xs) (d := d) (t := t) (T := T) (N := N) (x := xs (i + 1).toNat) (y := xs (i + 2).toNat) (by omega) hN hI
  exact ⟨t2, T2, ht, zIv_mono hI2 (by omega), fun R H => ls_28 h i0 iL L9 (lc_28 i0 iL L9 (by omega) hw hm hc c0 c9 b1 b2 hb H)⟩
theorem tr_29 (i0 : 0 ≤ i) (iL : i + 4 ≤ L) (L9 : L ≤ 2048) (hd : 13 ≤ d) (hN : N ≤ 1000000) (hI : zIv T N) (h : xs i.toNat &&& Int32.ofInt 63 = Int32.ofInt 29) : zTurn L xs d t T i N := by
  obtain ⟨d, rfl⟩ : ∃ e, d = e + 1 := ⟨d - 1, by omega⟩
  obtain ⟨c, b, t2, T1, T2, hw, hm, hc, ⟨c0, c9⟩, ⟨b1, b2⟩, -, hb, ht, hI2⟩ := s_stepsUntilFlood (L := L) (xs := xs) (d := d) (t := t) (T := T) (N := N) (by omega) hN hI
  exact ⟨t2, T2, ht, zIv_mono hI2 (by omega), fun R H => ls_29 h i0 iL L9 (lc_29 i0 iL L9 (by omega) hw hm hc c0 c9 b1 b2 hb H)⟩
theorem tr_30 (i0 : 0 ≤ i) (iL : i + 4 ≤ L) (L9 : L ≤ 2048) (hd : 13 ≤ d) (hN : N ≤ 1000000) (hI : zIv T N) (h : xs i.toNat &&& Int32.ofInt 63 = Int32.ofInt 30) : zTurn L xs d t T i N := by
  obtain ⟨d, rfl⟩ : ∃ e, d = e + 1 := ⟨d - 1, by omega⟩
  obtain ⟨c, b, t2, T1, T2, hw, hm, hc, ⟨c0, c9⟩, ⟨b1, b2⟩, -, hb, ht, hI2⟩ := s_leastSpill (L := L) (xs := xs) (d := d) (t := t) (T := T) (N := N) (x := xs (i + 1).toNat) (y := xs (i + 2).toNat) (by omega) hN hI
  exact ⟨t2, T2, ht, zIv_mono hI2 (by omega), fun R H => ls_30 h i0 iL L9 (lc_30 i0 iL L9 (by omega) hw hm hc c0 c9 b1 b2 hb H)⟩
theorem tr_31 (i0 : 0 ≤ i) (iL : i + 4 ≤ L) (L9 : L ≤ 2048) (hd : 13 ≤ d) (hN : N ≤ 1000000) (hI : zIv T N) (h : xs i.toNat &&& Int32.ofInt 63 = Int32.ofInt 31) : zTurn L xs d t T i N := by
  obtain ⟨d, rfl⟩ : ∃ e, d = e + 1 := ⟨d - 1, by omega⟩
  obtain ⟨c, b, t2, T1, T2, hw, hm, hc, ⟨c0, c9⟩, ⟨b1, b2⟩, -, hb, ht, hI2⟩ := s_leastSpillByPruning (L := L) (xs := xs) (d := d) (t := t) (T := T) (N := N) (x := xs (i + 1).toNat) (y := xs (i + 2).toNat) (by omega) hN hI
  exact ⟨t2, T2, ht, zIv_mono hI2 (by omega), fun R H => ls_31 h i0 iL L9 (lc_31 i0 iL L9 (by omega) hw hm hc c0 c9 b1 b2 hb H)⟩
theorem tr_32 (i0 : 0 ≤ i) (iL : i + 4 ≤ L) (L9 : L ≤ 2048) (hd : 13 ≤ d) (hN : N ≤ 1000000) (hI : zIv T N) (h : xs i.toNat &&& Int32.ofInt 63 = Int32.ofInt 32) : zTurn L xs d t T i N := by
  obtain ⟨d, rfl⟩ : ∃ e, d = e + 1 := ⟨d - 1, by omega⟩
  obtain ⟨c, b, t2, T1, T2, hw, hm, hc, ⟨c0, c9⟩, ⟨b1, b2⟩, -, hb, ht, hI2⟩ := s_bestOpening (L := L) (xs := xs) (d := d) (t := t) (T := T) (N := N) (x := xs (i + 1).toNat) (y := xs (i + 2).toNat) (by omega) hN hI
  exact ⟨t2, T2, ht, zIv_mono hI2 (by omega), fun R H => ls_32 h i0 iL L9 (lc_32 i0 iL L9 (by omega) hw hm hc c0 c9 b1 b2 hb H)⟩
theorem tr_33 (i0 : 0 ≤ i) (iL : i + 4 ≤ L) (L9 : L ≤ 2048) (hd : 13 ≤ d) (hN : N ≤ 1000000) (hI : zIv T N) (h : xs i.toNat &&& Int32.ofInt 63 = Int32.ofInt 33) : zTurn L xs d t T i N := by
  obtain ⟨d, rfl⟩ : ∃ e, d = e + 1 := ⟨d - 1, by omega⟩
  obtain ⟨c, b, t2, T1, T2, hw, hm, hc, ⟨c0, c9⟩, ⟨b1, b2⟩, -, hb, ht, hI2⟩ := s_endangered (L := L) (xs := xs) (d := d) (t := t) (T := T) (N := N) (x := xs (i + 1).toNat) (by omega) hN hI
  exact ⟨t2, T2, ht, zIv_mono hI2 (by omega), fun R H => ls_33 h i0 iL L9 (lc_33 i0 iL L9 (by omega) hw hm hc c0 c9 b1 b2 hb H)⟩
theorem tr_34 (i0 : 0 ≤ i) (iL : i + 4 ≤ L) (L9 : L ≤ 2048) (hd : 13 ≤ d) (hN : N ≤ 1000000) (hI : zIv T N) (h : xs i.toNat &&& Int32.ofInt 63 = Int32.ofInt 34) : zTurn L xs d t T i N := by
  obtain ⟨d, rfl⟩ : ∃ e, d = e + 1 := ⟨d - 1, by omega⟩
  obtain ⟨c, b, t2, T1, T2, hw, hm, hc, ⟨c0, c9⟩, ⟨b1, b2⟩, -, hb, ht, hI2⟩ := s_bestProtection (L := L) (xs := xs) (d := d) (t := t) (T := T) (N := N) (x := xs (i + 1).toNat) (y := xs (i + 2).toNat) (by omega) hN hI
  exact ⟨t2, T2, ht, zIv_mono hI2 (by omega), fun R H => ls_34 h i0 iL L9 (lc_34 i0 iL L9 (by omega) hw hm hc c0 c9 b1 b2 hb H)⟩
theorem tr_35 (i0 : 0 ≤ i) (iL : i + 4 ≤ L) (L9 : L ≤ 2048) (hd : 13 ≤ d) (hN : N ≤ 1000000) (hI : zIv T N) (h : xs i.toNat &&& Int32.ofInt 63 = Int32.ofInt 35) : zTurn L xs d t T i N := by
  obtain ⟨d, rfl⟩ : ∃ e, d = e + 1 := ⟨d - 1, by omega⟩
  obtain ⟨c, b, t2, T1, T2, hw, hm, hc, ⟨c0, c9⟩, ⟨b1, b2⟩, -, hb, ht, hI2⟩ := s_bestProtectionBySets (L := L) (xs := xs) (d := d) (t := t) (T := T) (N := N) (x := xs (i + 1).toNat) (y := xs (i + 2).toNat) (by omega) hN hI
  exact ⟨t2, T2, ht, zIv_mono hI2 (by omega), fun R H => ls_35 h i0 iL L9 (lc_35 i0 iL L9 (by omega) hw hm hc c0 c9 b1 b2 hb H)⟩
theorem tr_36 (i0 : 0 ≤ i) (iL : i + 4 ≤ L) (L9 : L ≤ 2048) (hd : 13 ≤ d) (hN : N ≤ 1000000) (hI : zIv T N) (h : xs i.toNat &&& Int32.ofInt 63 = Int32.ofInt 36) : zTurn L xs d t T i N := by
  obtain ⟨d, rfl⟩ : ∃ e, d = e + 1 := ⟨d - 1, by omega⟩
  obtain ⟨c, b, t2, T1, T2, hw, hm, hc, ⟨c0, c9⟩, ⟨b1, b2⟩, -, hb, ht, hI2⟩ := s_bagsForAll (L := L) (xs := xs) (d := d) (t := t) (T := T) (N := N) (x := xs (i + 1).toNat) (by omega) hN hI
  exact ⟨t2, T2, ht, zIv_mono hI2 (by omega), fun R H => ls_36 h i0 iL L9 (lc_36 i0 iL L9 (by omega) hw hm hc c0 c9 b1 b2 hb H)⟩
theorem tr_37 (i0 : 0 ≤ i) (iL : i + 4 ≤ L) (L9 : L ≤ 2048) (hd : 13 ≤ d) (hN : N ≤ 1000000) (hI : zIv T N) (h : xs i.toNat &&& Int32.ofInt 63 = Int32.ofInt 37) : zTurn L xs d t T i N := by
  obtain ⟨d, rfl⟩ : ∃ e, d = e + 1 := ⟨d - 1, by omega⟩
  obtain ⟨b, T1, T2, hw, hm, ⟨b1, b2⟩, hI2⟩ := s_isConsistent (L := L) (xs := xs) (d := d) (t := t) (T := T) (N := N) (by omega) hN hI
  exact ⟨t, T2, by omega, zIv_mono hI2 (by omega), fun R H => ls_37 h i0 iL L9 (lc_37 i0 iL L9 (by omega) b1 b2 hw hm H)⟩
theorem tr_38 (i0 : 0 ≤ i) (iL : i + 4 ≤ L) (L9 : L ≤ 2048) (hd : 13 ≤ d) (hN : N ≤ 1000000) (hI : zIv T N) (h : xs i.toNat &&& Int32.ofInt 63 = Int32.ofInt 38) : zTurn L xs d t T i N := by
  obtain ⟨d, rfl⟩ : ∃ e, d = e + 1 := ⟨d - 1, by omega⟩
  obtain ⟨c, b, t2, T1, T2, hw, hm, hc, ⟨c0, c9⟩, ⟨b1, b2⟩, -, hb, ht, hI2⟩ := s_append (L := L) (xs := xs) (d := d) (t := t) (T := T) (N := N) (x := xs (i + 1).toNat) (by omega) hI
  exact ⟨t2, T2, ht, zIv_mono hI2 (by omega), fun R H => ls_38 h i0 iL L9 (lc_38 i0 iL L9 (by omega) hw hm hc c0 c9 b1 b2 hb H)⟩
theorem tr_39 (i0 : 0 ≤ i) (iL : i + 4 ≤ L) (L9 : L ≤ 2048) (hd : 13 ≤ d) (hN : N ≤ 1000000) (hI : zIv T N) (h : xs i.toNat &&& Int32.ofInt 63 = Int32.ofInt 39) : zTurn L xs d t T i N := by
  obtain ⟨d, rfl⟩ : ∃ e, d = e + 1 := ⟨d - 1, by omega⟩
  obtain ⟨c, b, t2, T1, T2, hw, hm, hc, ⟨c0, c9⟩, ⟨b1, b2⟩, -, hb, ht, hI2⟩ := s_run (L := L) (xs := xs) (d := d) (t := t) (T := T) (N := N) (by omega) hI
  exact ⟨t2, T2, ht, zIv_mono hI2 (by omega), fun R H => ls_39 h i0 iL L9 (lc_39 i0 iL L9 (by omega) hw hm hc c0 c9 b1 b2 hb H)⟩
theorem tr_40 (i0 : 0 ≤ i) (iL : i + 4 ≤ L) (L9 : L ≤ 2048) (hd : 13 ≤ d) (hN : N ≤ 1000000) (hI : zIv T N) (h : xs i.toNat &&& Int32.ofInt 63 = Int32.ofInt 40) : zTurn L xs d t T i N := by
  obtain ⟨d, rfl⟩ : ∃ e, d = e + 1 := ⟨d - 1, by omega⟩
  obtain ⟨c, b, t2, T1, T2, hw, hm, hc, ⟨c0, c9⟩, ⟨b1, b2⟩, -, hb, ht, hI2⟩ := s_errorPosition (L := L) (xs := xs) (d := d) (t := t) (T := T) (N := N) (by omega) hN hI
  exact ⟨t2, T2, ht, zIv_mono hI2 (by omega), fun R H => ls_40 h i0 iL L9 (lc_40 i0 iL L9 (by omega) hw hm hc c0 c9 b1 b2 hb H)⟩
theorem tr_41 (i0 : 0 ≤ i) (iL : i + 4 ≤ L) (L9 : L ≤ 2048) (hd : 13 ≤ d) (hN : N ≤ 1000000) (hI : zIv T N) (h : xs i.toNat &&& Int32.ofInt 63 = Int32.ofInt 41) : zTurn L xs d t T i N := by
  obtain ⟨d, rfl⟩ : ∃ e, d = e + 1 := ⟨d - 1, by omega⟩
  obtain ⟨c, b, t2, T1, T2, hw, hm, hc, ⟨c0, c9⟩, ⟨b1, b2⟩, -, hb, ht, hI2⟩ := s_failedCommand (L := L) (xs := xs) (d := d) (t := t) (T := T) (N := N) (by omega) hN hI
  exact ⟨t2, T2, ht, zIv_mono hI2 (by omega), fun R H => ls_41 h i0 iL L9 (lc_41 i0 iL L9 (by omega) hw hm hc c0 c9 b1 b2 hb H)⟩
theorem tr_42 (i0 : 0 ≤ i) (iL : i + 4 ≤ L) (L9 : L ≤ 2048) (hd : 13 ≤ d) (hN : N ≤ 1000000) (hI : zIv T N) (h : xs i.toNat &&& Int32.ofInt 63 = Int32.ofInt 42) : zTurn L xs d t T i N := by
  obtain ⟨d, rfl⟩ : ∃ e, d = e + 1 := ⟨d - 1, by omega⟩
  obtain ⟨b, T1, T2, hw, hm, ⟨b1, b2⟩, hI2⟩ := s_writeChain (L := L) (xs := xs) (d := d) (t := t) (T := T) (N := N) (by omega) hN hI
  exact ⟨t, T2, by omega, zIv_mono hI2 (by omega), fun R H => ls_42 h i0 iL L9 (lc_42 i0 iL L9 (by omega) b1 b2 hw hm H)⟩
theorem tr_43 (i0 : 0 ≤ i) (iL : i + 4 ≤ L) (L9 : L ≤ 2048) (hd : 13 ≤ d) (hN : N ≤ 1000000) (hI : zIv T N) (h : xs i.toNat &&& Int32.ofInt 63 = Int32.ofInt 43) : zTurn L xs d t T i N := by
  obtain ⟨d, rfl⟩ : ∃ e, d = e + 1 := ⟨d - 1, by omega⟩
  obtain ⟨b, T1, T2, hw, hm, ⟨b1, b2⟩, hI2⟩ := s_writeForecast (L := L) (xs := xs) (d := d) (t := t) (T := T) (N := N) (by omega) hN hI
  exact ⟨t, T2, by omega, zIv_mono hI2 (by omega), fun R H => ls_43 h i0 iL L9 (lc_43 i0 iL L9 (by omega) b1 b2 hw hm H)⟩
theorem tr_44 (i0 : 0 ≤ i) (iL : i + 4 ≤ L) (L9 : L ≤ 2048) (hd : 13 ≤ d) (hN : N ≤ 1000000) (hI : zIv T N) (h : xs i.toNat &&& Int32.ofInt 63 = Int32.ofInt 44) : zTurn L xs d t T i N := by
  obtain ⟨d, rfl⟩ : ∃ e, d = e + 1 := ⟨d - 1, by omega⟩
  obtain ⟨c, b, t2, T1, T2, hw, hm, hc, ⟨c0, c9⟩, ⟨b1, b2⟩, -, hb, ht, hI2⟩ := s_outputAt (L := L) (xs := xs) (d := d) (t := t) (T := T) (N := N) (x := xs (i + 1).toNat) (by omega) hN hI
  exact ⟨t2, T2, ht, zIv_mono hI2 (by omega), fun R H => ls_44 h i0 iL L9 (lc_44 i0 iL L9 (by omega) hw hm hc c0 c9 b1 b2 hb H)⟩
theorem tr_45 (i0 : 0 ≤ i) (iL : i + 4 ≤ L) (L9 : L ≤ 2048) (hd : 13 ≤ d) (hN : N ≤ 1000000) (hI : zIv T N) (h : xs i.toNat &&& Int32.ofInt 63 = Int32.ofInt 45) : zTurn L xs d t T i N := by
  obtain ⟨d, rfl⟩ : ∃ e, d = e + 1 := ⟨d - 1, by omega⟩
  obtain ⟨c, b, t2, T1, T2, hw, hm, hc, ⟨c0, c9⟩, ⟨b1, b2⟩, -, hb, ht, hI2⟩ := s_undo (L := L) (xs := xs) (d := d) (t := t) (T := T) (N := N) (by omega) hI
  exact ⟨t2, T2, ht, zIv_mono hI2 (by omega), fun R H => ls_45 h i0 iL L9 (lc_45 i0 iL L9 (by omega) hw hm hc c0 c9 b1 b2 hb H)⟩
theorem tr_46 (i0 : 0 ≤ i) (iL : i + 4 ≤ L) (L9 : L ≤ 2048) (hd : 13 ≤ d) (hN : N ≤ 1000000) (hI : zIv T N) (h : xs i.toNat &&& Int32.ofInt 63 = Int32.ofInt 46) : zTurn L xs d t T i N := by
  obtain ⟨d, rfl⟩ : ∃ e, d = e + 1 := ⟨d - 1, by omega⟩
  obtain ⟨T1, T2, hw, hm, hI2⟩ := s_save (L := L) (xs := xs) (d := d) (t := t) (T := T) (N := N) (by omega) hI
  exact ⟨t, T2, by omega, zIv_mono hI2 (by omega), fun R H => ls_46 h i0 iL L9 (lc_46 i0 iL L9 (by omega) hw hm H)⟩
theorem tr_47 (i0 : 0 ≤ i) (iL : i + 4 ≤ L) (L9 : L ≤ 2048) (hd : 13 ≤ d) (hN : N ≤ 1000000) (hI : zIv T N) (h : xs i.toNat &&& Int32.ofInt 63 = Int32.ofInt 47) : zTurn L xs d t T i N := by
  obtain ⟨d, rfl⟩ : ∃ e, d = e + 1 := ⟨d - 1, by omega⟩
  obtain ⟨c, t2, T1, T2, hw, hm, hc, ⟨c0, c9⟩, ht, hI2⟩ := s_restore (L := L) (xs := xs) (d := d) (t := t) (T := T) (N := N) (by omega) hI
  exact ⟨t2, T2, ht, zIv_mono hI2 (by omega), fun R H => ls_47 h i0 iL L9 (lc_47 i0 iL L9 (by omega) hw hm hc c0 c9 H)⟩
theorem lp_turn (i0 : 0 ≤ i) (iL : i + 4 ≤ L) (L9 : L ≤ 2048) (hd : 13 ≤ d) (hN : N ≤ 1000000) (hI : zIv T N) : zTurn L xs d t T i N := by
  obtain ⟨k, hk, h⟩ := and_63 (xs i.toNat)
  match k, hk, h with
  | 0, _, h => exact tr_0 i0 iL L9 hd hN hI h
  | 1, _, h => exact tr_1 i0 iL L9 hd hN hI h
  | 2, _, h => exact tr_2 i0 iL L9 hd hN hI h
  | 3, _, h => exact tr_3 i0 iL L9 hd hN hI h
  | 4, _, h => exact tr_4 i0 iL L9 hd hN hI h
  | 5, _, h => exact tr_5 i0 iL L9 hd hN hI h
  | 6, _, h => exact tr_6 i0 iL L9 hd hN hI h
  | 7, _, h => exact tr_7 i0 iL L9 hd hN hI h
  | 8, _, h => exact tr_8 i0 iL L9 hd hN hI h
  | 9, _, h => exact tr_9 i0 iL L9 hd hN hI h
  | 10, _, h => exact tr_10 i0 iL L9 hd hN hI h
  | 11, _, h => exact tr_11 i0 iL L9 hd hN hI h
  | 12, _, h => exact tr_12 i0 iL L9 hd hN hI h
  | 13, _, h => exact tr_13 i0 iL L9 hd hN hI h
  | 14, _, h => exact tr_14 i0 iL L9 hd hN hI h
  | 15, _, h => exact tr_15 i0 iL L9 hd hN hI h
  | 16, _, h => exact tr_16 i0 iL L9 hd hN hI h
  | 17, _, h => exact tr_17 i0 iL L9 hd hN hI h
  | 18, _, h => exact tr_18 i0 iL L9 hd hN hI h
  | 19, _, h => exact tr_19 i0 iL L9 hd hN hI h
  | 20, _, h => exact tr_20 i0 iL L9 hd hN hI h
  | 21, _, h => exact tr_21 i0 iL L9 hd hN hI h
  | 22, _, h => exact tr_22 i0 iL L9 hd hN hI h
  | 23, _, h => exact tr_23 i0 iL L9 hd hN hI h
  | 24, _, h => exact tr_24 i0 iL L9 hd hN hI h
  | 25, _, h => exact tr_25 i0 iL L9 hd hN hI h
  | 26, _, h => exact tr_26 i0 iL L9 hd hN hI h
  | 27, _, h => exact tr_27 i0 iL L9 hd hN hI h
  | 28, _, h => exact tr_28 i0 iL L9 hd hN hI h
  | 29, _, h => exact tr_29 i0 iL L9 hd hN hI h
  | 30, _, h => exact tr_30 i0 iL L9 hd hN hI h
  | 31, _, h => exact tr_31 i0 iL L9 hd hN hI h
  | 32, _, h => exact tr_32 i0 iL L9 hd hN hI h
  | 33, _, h => exact tr_33 i0 iL L9 hd hN hI h
  | 34, _, h => exact tr_34 i0 iL L9 hd hN hI h
  | 35, _, h => exact tr_35 i0 iL L9 hd hN hI h
  | 36, _, h => exact tr_36 i0 iL L9 hd hN hI h
  | 37, _, h => exact tr_37 i0 iL L9 hd hN hI h
  | 38, _, h => exact tr_38 i0 iL L9 hd hN hI h
  | 39, _, h => exact tr_39 i0 iL L9 hd hN hI h
  | 40, _, h => exact tr_40 i0 iL L9 hd hN hI h
  | 41, _, h => exact tr_41 i0 iL L9 hd hN hI h
  | 42, _, h => exact tr_42 i0 iL L9 hd hN hI h
  | 43, _, h => exact tr_43 i0 iL L9 hd hN hI h
  | 44, _, h => exact tr_44 i0 iL L9 hd hN hI h
  | 45, _, h => exact tr_45 i0 iL L9 hd hN hI h
  | 46, _, h => exact tr_46 i0 iL L9 hd hN hI h
  | 47, _, h => exact tr_47 i0 iL L9 hd hN hI h
  | 48, _, h => exact ⟨t, T, by omega, zIv_mono hI (by omega), fun R H => ls_48 h i0 iL L9 (lc_un H)⟩
  | 49, _, h => exact ⟨t, T, by omega, zIv_mono hI (by omega), fun R H => ls_49 h i0 iL L9 (lc_un H)⟩
  | 50, _, h => exact ⟨t, T, by omega, zIv_mono hI (by omega), fun R H => ls_50 h i0 iL L9 (lc_un H)⟩
  | 51, _, h => exact ⟨t, T, by omega, zIv_mono hI (by omega), fun R H => ls_51 h i0 iL L9 (lc_un H)⟩
  | 52, _, h => exact ⟨t, T, by omega, zIv_mono hI (by omega), fun R H => ls_52 h i0 iL L9 (lc_un H)⟩
  | 53, _, h => exact ⟨t, T, by omega, zIv_mono hI (by omega), fun R H => ls_53 h i0 iL L9 (lc_un H)⟩
  | 54, _, h => exact ⟨t, T, by omega, zIv_mono hI (by omega), fun R H => ls_54 h i0 iL L9 (lc_un H)⟩
  | 55, _, h => exact ⟨t, T, by omega, zIv_mono hI (by omega), fun R H => ls_55 h i0 iL L9 (lc_un H)⟩
  | 56, _, h => exact ⟨t, T, by omega, zIv_mono hI (by omega), fun R H => ls_56 h i0 iL L9 (lc_un H)⟩
  | 57, _, h => exact ⟨t, T, by omega, zIv_mono hI (by omega), fun R H => ls_57 h i0 iL L9 (lc_un H)⟩
  | 58, _, h => exact ⟨t, T, by omega, zIv_mono hI (by omega), fun R H => ls_58 h i0 iL L9 (lc_un H)⟩
  | 59, _, h => exact ⟨t, T, by omega, zIv_mono hI (by omega), fun R H => ls_59 h i0 iL L9 (lc_un H)⟩
  | 60, _, h => exact ⟨t, T, by omega, zIv_mono hI (by omega), fun R H => ls_60 h i0 iL L9 (lc_un H)⟩
  | 61, _, h => exact ⟨t, T, by omega, zIv_mono hI (by omega), fun R H => ls_61 h i0 iL L9 (lc_un H)⟩
  | 62, _, h => exact ⟨t, T, by omega, zIv_mono hI (by omega), fun R H => ls_62 h i0 iL L9 (lc_un H)⟩
  | 63, _, h => exact ⟨t, T, by omega, zIv_mono hI (by omega), fun R H => ls_63 h i0 iL L9 (lc_un H)⟩
  | k + 64, h, _ => exact absurd h (by omega)
theorem lp_L_law (L9 : L ≤ 2048) (hd : 13 ≤ d) : ∀ (n : Nat) (i : Int) (t : Nat) (T : zT) (N : Int), 0 ≤ i → i ≤ 2048 → (L : Int) ≤ i + 4 * n → N + 1800 * n ≤ 1000000 → zIv T N → ∃ (t2 : Nat) (T2 : zT), t2 ≤ t + n ∧ mv_Ev L xs (mv_cl L xs d) k_L_law 28 (lw_ls i) [] (t, 149, mz T) (.inl (some (.int (Int32.ofInt 1))), (t2, 149, mz T2))
  | 0, i, t, T, N, i0, i9, hn, hN, hI => ⟨t, T, by omega, lc_no i0 (by omega) L9 i9⟩
  | n + 1, i, t, T, N, i0, i9, hn, hN, hI => by
    by_cases iL : i + 4 ≤ L
    · obtain ⟨t1, T1, ht, hI1, hR⟩ := lp_turn (t := t) i0 iL L9 hd (by omega) hI
      obtain ⟨t2, T2, ht2, hE⟩ := lp_L_law L9 hd n (i + 4) t1 T1 (N + 1800) (by omega) (by omega) (by omega) (by omega) hI1
      exact ⟨t2, T2, by omega, hR _ hE⟩
    · exact ⟨t, T, by omega, lc_no i0 iL L9 i9⟩
end LP
