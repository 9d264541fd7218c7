/-! STEPS AGAIN AND AGAIN; PLANS -/
def rPs : Nat → (Int → Int) → (Int → Int)
  | 0, A => A
  | n + 1, A => rPs n (rSt A)
def rPv : Nat → Int → (Int → Int) → Int
  | 0, s, _ => s
  | n + 1, s, A => rPv n (s + rStv A) (rSt A)
theorem zfOf_bd (k : Nat) (A : Int → Int) (p q r : Int) : 1010 ≤ zfOf k A p q r ∧ zfOf k A p q r ≤ 1013 := by
  unfold zfOf zfNew zfGate zfAt zfHand zfRain zfPour zfR
  split <;> repeat' split
  all_goals omega
section PL
variable {A B C : Int → Int}
theorem zL_refl (A : Int → Int) : zL A A := ⟨rfl, rfl, rfl, rfl, fun _ _ _ _ _ _ _ => rfl, fun _ _ _ => rfl⟩
theorem zL_symm (h : zL A B) : zL B A := by
  obtain ⟨e0, e1, e2, e3, hb, hf⟩ := h
  refine ⟨e0.symm, e1.symm, e2.symm, e3.symm, fun k w h0 h1 h2 h3 h4 => ?_, fun j h0 h1 => (hf j h0 (by omega)).symm⟩
  refine (hb k w h0 (by omega) h2 h3 (fun e => ?_)).symm
  rw [hb k 5 h0 (by omega) (by omega) (by omega) (by omega)]
  exact h4 e
theorem zL_trans (h : zL A B) (g : zL B C) : zL A C := by
  obtain ⟨e0, e1, e2, e3, hb, hf⟩ := h
  obtain ⟨d0, d1, d2, d3, gb, gf⟩ := g
  refine ⟨e0.trans d0, e1.trans d1, e2.trans d2, e3.trans d3, fun k w h0 h1 h2 h3 h4 => ?_, fun j h0 h1 => (hf j h0 h1).trans (gf j h0 (by omega))⟩
  rw [hb k w h0 h1 h2 h3 h4]
  refine gb k w h0 (by omega) h2 h3 (fun e => ?_)
  rw [← hb k 5 h0 h1 (by omega) (by omega) (by omega)]
  exact h4 e
theorem rSt_wf1 (hB : zWF B 99) : zWF (rSt B) 99 := rSt_wf hB hB (zL_refl B)
theorem rPs_wf : ∀ (n : Nat) {B : Int → Int}, zWF B 99 → zWF (rPs n B) 99
  | 0, _, h => h
  | n + 1, _, h => rPs_wf n (rSt_wf1 h)
theorem zPs_wf : ∀ (n : Nat) {B : Int → Int}, zWF B 99 → zWF (zPs n B) 99
  | 0, _, h => h
  | n + 1, _, h => zPs_wf n (zSt_wf h)
theorem zL_steps : ∀ (n : Nat) {s : Int} {A B : Int → Int}, zWF A 99 → zWF B 99 → zL A B → zL (zPs n A) (rPs n B) ∧ zPv n s A = rPv n s B
  | 0, _, _, _, _, _, h => ⟨h, rfl⟩
  | n + 1, s, A, B, hA, hB, h => by
    obtain ⟨h1, h2⟩ := zL_step hA hB h
    rw [zPs, rPs, zPv, rPv, h2]
    exact zL_steps n (zSt_wf hA) (rSt_wf1 hB) h1
/-- two rows of the class -/
theorem zz_step (hA : zWF A 99) (hB : zWF B 99) (h : zL A B) : zL (zSt A) (zSt B) ∧ zStv A = zStv B := by
  obtain ⟨h1, h2⟩ := zL_step hA hB h
  obtain ⟨h3, h4⟩ := zL_step hB hB (zL_refl B)
  exact ⟨zL_trans h1 (zL_symm h3), h2.trans h4.symm⟩
theorem zz_steps : ∀ (n : Nat) {A B : Int → Int}, zWF A 99 → zWF B 99 → zL A B → zL (zPs n A) (zPs n B)
  | 0, _, _, _, _, h => h
  | n + 1, A, B, hA, hB, h => zz_steps n (zSt_wf hA) (zSt_wf hB) (zz_step hA hB h).1
/-- row 0 alone -/
theorem zL_on {B X : Int → Int} (h : zL A B) (h5 : A 0 ≤ 5) (h12 : A 2 ≤ 12) (e : ∀ j, 0 ≤ j → j < 63 → X j = B j) : zL A X := by
  obtain ⟨e0, e1, e2, e3, hb, hf⟩ := h
  refine ⟨by rw [e 0 (by omega) (by omega)]; exact e0, by rw [e 1 (by omega) (by omega)]; exact e1, by rw [e 2 (by omega) (by omega)]; exact e2, by rw [e 3 (by omega) (by omega)]; exact e3, fun k w h0 h1 h2 h3 h4 => ?_, fun j h0 h1 => ?_⟩
  · rw [e _ (by omega) (by omega)]; exact hb k w h0 h1 h2 h3 h4
  · rw [e _ (by omega) (by omega)]; exact hf j h0 h1
theorem zWF_on {B X : Int → Int} {m : Int} (h : zWF B m) (e : ∀ j, 0 ≤ j → j < 63 → X j = B j) : zWF X m := by
  obtain ⟨h0, h5, h2, h12, hk, hf⟩ := h
  have e0 := e 0 (by omega) (by omega)
  have e2 := e 2 (by omega) (by omega)
  refine ⟨by omega, by omega, by omega, by omega, fun k q0 q1 => zOK_eq (fun w q2 q3 => e _ (by omega) (by omega)) (hk k q0 (by omega)), fun j q0 q1 => ?_⟩
  rw [e _ (by omega) (by omega)]
  exact hf j q0 (by omega)
/-- a copy of a chain's row is alive as that -/
theorem zL_cpy (hB : zWF B 99) (A : Int → Int) : zL (zCpy B A) B := by
  obtain ⟨h0, h5, h2, h12, hk, hf⟩ := hB
  have e := fun j => zCpy_eq (A := A) h0 h5 h2 j
  have e0 : zCpy B A 0 = B 0 := by rw [e, if_pos (by omega)]
  have e2 : zCpy B A 2 = B 2 := by rw [e, if_pos (by omega)]
  refine ⟨e0, by rw [e, if_pos (by omega)], e2, by rw [e, if_pos (by omega)], fun k w h0 h1 h2 h3 h4 => ?_, fun j h0 h1 => ?_⟩
  · rw [e0] at h1
    rw [e, if_pos (by omega)]
  · rw [e2] at h1
    rw [e, if_pos (by omega)]
theorem zWF_cpy (hB : zWF B 99) (A : Int → Int) : zWF (zCpy B A) 99 := by
  obtain ⟨h0, h5, h2, h12, hk, hf⟩ := hB
  have e := fun j => zCpy_eq (A := A) h0 h5 h2 j
  have e0 : zCpy B A 0 = B 0 := by rw [e, if_pos (by omega)]
  have e2 : zCpy B A 2 = B 2 := by rw [e, if_pos (by omega)]
  refine ⟨by omega, by omega, by omega, by omega, fun k q0 q1 => ?_, fun j q0 q1 => ?_⟩
  · rw [e0] at q1
    exact zOK_eq (fun w q2 q3 => by rw [e, if_pos (by omega)]) (hk k q0 q1)
  · rw [e2] at q1
    rw [e, if_pos (by omega)]
    exact hf j q0 q1
theorem zCon_cpy (hB : zWF B 99) (A : Int → Int) (h : zCon B) : zCon (zCpy B A) := by
  obtain ⟨h0, h5, h2, h12, hk, hf⟩ := hB
  have e := fun j => zCpy_eq (A := A) h0 h5 h2 j
  unfold zCon at h ⊢
  rw [e 0, if_pos (by omega), e 4, if_pos (by omega), e 5, if_pos (by omega), e 3, if_pos (by omega), zS_eq (w := 7) (B := B) _ (fun k q0 q1 => by rw [e, if_pos (by omega)]), zS_eq (w := 1) (B := B) _ (fun k q0 q1 => by rw [e, if_pos (by omega)])]
  exact h
theorem zSv_bd : ∀ (n : Nat) {i : Int} {A : Int → Int}, 0 ≤ i → (∀ k, i ≤ k → k < i + n → (0 ≤ A (6 + 9 * k + 1) ∧ A (6 + 9 * k + 1) ≤ 200) ∧ 10 ≤ A (6 + 9 * k + 0)) → 0 ≤ zSv n i 0 A ∧ zSv n i 0 A ≤ 190 * n
  | 0, _, _, _, _ => by rw [zSv]; omega
  | n + 1, i, A, h0, h => by
    rw [zSv, zSv_s]
    have h1 := h i (by omega) (by omega)
    have ih := zSv_bd n (i := i + 1) (A := zSpo i A) (by omega) (fun k h2 h3 => by
      rw [zSpo_ne (by omega) (by omega) (by omega), zSpo_ne (by omega) (by omega) (by omega)]
      exact h k (by omega) (by omega))
    have : 0 ≤ zSpv i A ∧ zSpv i A ≤ 190 := by
      unfold zSpv
      split <;> omega
    omega
theorem zStv_bd (hA : zWF A 99) : 0 ≤ zStv A ∧ zStv A ≤ 950 := by
  have h0 := hA.1
  have h5 := hA.2.1
  have h := zSv_bd (A 0).toNat (i := 0) (A := zSt2 A) (by omega) (fun k h1 h2 => by
    have := zSt2_bd hA h1 (by omega)
    omega)
  unfold zStv
  omega
-- plans
def zMn (f : Int → Int) : Nat → Int → Int → Int
  | 0, _, m => m
  | n + 1, o, m => zMn f n (o + 1) (min m (f o))
/-- the lowest place of the least -/
def zAr (f : Int → Int) : Nat → Int → Int → Int → Int
  | 0, _, _, a => a
  | n + 1, o, m, a => zAr f n (o + 1) (min m (f o)) (if f o < m then o else a)
def zOp (b o : Int) (A : Int → Int) : Int → Int := upR A (6 + 9 * b + 4) o
def zPl : Nat → (Int → Int) → Int → Int
  | 0, _, _ => 0
  | l + 1, A, b => zMn (fun o => zStv (zOp b o A) + zPl l (zSt (zOp b o A)) b) 6 0 1000000
def zPa (l : Nat) (A : Int → Int) (b : Int) : Int := zAr (fun o => zStv (zOp b o A) + zPl l (zSt (zOp b o A)) b) 6 0 1000000 0
theorem zMn_le (f : Int → Int) : ∀ (n : Nat) (o m : Int), zMn f n o m ≤ m
  | 0, _, _ => by rw [zMn]; omega
  | n + 1, o, m => by rw [zMn]; have := zMn_le f n (o + 1) (min m (f o)); omega
theorem zMn_lef (f : Int → Int) : ∀ (n : Nat) (o m k : Int), o ≤ k → k < o + n → zMn f n o m ≤ f k
  | 0, _, _, _, h1, h2 => by omega
  | n + 1, o, m, k, h1, h2 => by
    rw [zMn]
    by_cases e : k = o
    · subst e
      have := zMn_le f n (k + 1) (min m (f k))
      omega
    · exact zMn_lef f n (o + 1) _ k (by omega) (by omega)
theorem zMn_ge (f : Int → Int) {z : Int} : ∀ (n : Nat) (o m : Int), z ≤ m → (∀ k, o ≤ k → k < o + n → z ≤ f k) → z ≤ zMn f n o m
  | 0, _, _, h, _ => by rw [zMn]; exact h
  | n + 1, o, m, h, g => by
    rw [zMn]
    exact zMn_ge f n (o + 1) _ (by have := g o (by omega) (by omega); omega) (fun k h1 h2 => g k (by omega) (by omega))
theorem zMn_congr {f g : Int → Int} : ∀ (n : Nat) (o m : Int), (∀ k, o ≤ k → k < o + n → f k = g k) → zMn f n o m = zMn g n o m
  | 0, _, _, _ => rfl
  | n + 1, o, m, h => by
    rw [zMn, zMn, h o (by omega) (by omega)]
    exact zMn_congr n (o + 1) _ (fun k h1 h2 => h k (by omega) (by omega))
theorem zAr_congr {f g : Int → Int} : ∀ (n : Nat) (o m a : Int), (∀ k, o ≤ k → k < o + n → f k = g k) → zAr f n o m a = zAr g n o m a
  | 0, _, _, _, _ => rfl
  | n + 1, o, m, a, h => by
    rw [zAr, zAr, h o (by omega) (by omega)]
    exact zAr_congr n (o + 1) _ _ (fun k h1 h2 => h k (by omega) (by omega))
theorem zWF_op {b o : Int} (hA : zWF A 99) (h0 : 0 ≤ b) (hb : b < A 0) (o0 : 0 ≤ o) (o5 : o ≤ 5) : zWF (zOp b o A) 99 := by
  obtain ⟨a0, a5, a2, a12, ak, af⟩ := hA
  unfold zOp
  have e := fun j (h : ¬ j = 6 + 9 * b + 4) => upR_ne A o h
  have e0 := e 0 (by omega)
  have e2 := e 2 (by omega)
  refine ⟨by omega, by omega, by omega, by omega, fun k q0 q1 => ?_, fun j q0 q1 => ?_⟩
  · by_cases ek : k = b
    · subst ek
      have h := ak k q0 (by omega)
      unfold zOK at h ⊢
      rw [e (6 + 9 * k + 0) (by omega), e (6 + 9 * k + 1) (by omega), e (6 + 9 * k + 2) (by omega), e (6 + 9 * k + 3) (by omega), e (6 + 9 * k + 5) (by omega), e (6 + 9 * k + 6) (by omega), upR_eq]
      omega
    · exact zOK_eq (fun w q2 q3 => e _ (by omega)) (ak k q0 (by omega))
  · rw [e _ (by omega)]
    exact af j q0 (by omega)
theorem zL_op {b o : Int} (h : zL A B) (h5 : A 0 ≤ 5) (h0 : 0 ≤ b) (hb : b < A 0) : zL (zOp b o A) (zOp b o B) := by
  obtain ⟨e0, e1, e2, e3, hk, hf⟩ := h
  unfold zOp
  refine ⟨by rw [upR_ne _ _ (by omega), upR_ne _ _ (by omega)]; exact e0, by rw [upR_ne _ _ (by omega), upR_ne _ _ (by omega)]; exact e1, by rw [upR_ne _ _ (by omega), upR_ne _ _ (by omega)]; exact e2, by rw [upR_ne _ _ (by omega), upR_ne _ _ (by omega)]; exact e3, fun k w q0 q1 q2 q3 q4 => ?_, fun j q0 q1 => ?_⟩
  · rw [upR_ne _ _ (by omega)] at q1
    by_cases e : 6 + 9 * k + w = 6 + 9 * b + 4
    · rw [upR_is _ _ e, upR_is _ _ e]
    · rw [upR_ne _ _ e, upR_ne _ _ e]
      refine hk k w q0 q1 q2 q3 (fun e9 => ?_)
      have := q4 e9
      rw [upR_ne _ _ (by omega)] at this
      exact this
  · rw [upR_ne _ _ (by omega)] at q1
    rw [upR_ne _ _ (by omega), upR_ne _ _ (by omega)]
    exact hf j q0 q1
theorem zPl_bd : ∀ (l : Nat) {A : Int → Int} {b : Int}, zWF A 99 → 0 ≤ b → b < A 0 → 0 ≤ zPl l A b ∧ zPl l A b ≤ 950 * l
  | 0, _, _, _, _, _ => by rw [zPl]; omega
  | l + 1, A, b, hA, h0, hb => by
    have h5 := hA.2.1
    have key : ∀ o, 0 ≤ o → o ≤ 5 → 0 ≤ zStv (zOp b o A) + zPl l (zSt (zOp b o A)) b ∧ zStv (zOp b o A) + zPl l (zSt (zOp b o A)) b ≤ 950 * (l + 1 : Nat) := by
      intro o q0 q1
      have hw := zWF_op hA h0 hb q0 q1
      have h1 := zStv_bd hw
      have e0 : zSt (zOp b o A) 0 = A 0 := by rw [zSt_0 hw.2.1]; unfold zOp; rw [upR_ne _ _ (by omega)]
      have h2 := zPl_bd l (zSt_wf hw) h0 (by omega)
      omega
    rw [zPl]
    refine ⟨zMn_ge _ 6 0 _ (by omega) (fun k q0 q1 => (key k q0 (by omega)).1), ?_⟩
    have := zMn_lef (fun o => zStv (zOp b o A) + zPl l (zSt (zOp b o A)) b) 6 0 1000000 0 (by omega) (by omega)
    have := (key 0 (by omega) (by omega)).2
    omega
theorem zPl_L : ∀ (l : Nat) {A B : Int → Int} {b : Int}, zWF A 99 → zWF B 99 → zL A B → 0 ≤ b → b < A 0 → zPl l A b = zPl l B b
  | 0, _, _, _, _, _, _, _, _ => rfl
  | l + 1, A, B, b, hA, hB, h, h0, hb => by
    rw [zPl, zPl]
    refine zMn_congr 6 0 _ (fun o q0 q1 => ?_)
    have wa := zWF_op hA h0 hb q0 (by omega : o ≤ 5)
    have wb := zWF_op hB h0 (by have := h.1; omega) q0 (by omega : o ≤ 5)
    obtain ⟨s1, s2⟩ := zz_step wa wb (zL_op h hA.2.1 h0 hb)
    have e0 : zSt (zOp b o A) 0 = A 0 := by rw [zSt_0 wa.2.1]; unfold zOp; rw [upR_ne _ _ (by omega)]
    rw [s2, zPl_L l (zSt_wf wa) (zSt_wf wb) s1 h0 (by omega)]
end PL
