/-! WHAT STANDS BETWEEN TWO CALLS -/
def zRw (r : Int) (B : Int → Int) : Int → Int := fun j => B (63 * r + j)
def zIh (T : zT) (M : Int) : Prop := zHis T ∧ T.1 142 2 = T.1 33 2 ∧ ∀ i : Int, 0 ≤ i → i < T.1 33 2 → zPr (T.1 (35 + 8 * ((T.1 33 1 + 7 - i) % 8).toNat)) (zRw (T.1 33 2 - i) (T.1 143)) M
def zIs (T : zT) (M : Int) : Prop := T.1 142 3 = T.1 0 9 ∧ (T.1 0 9 = 0 ∨ T.1 0 9 = 1) ∧ (T.1 0 9 = 1 → zPr (T.1 o9) (zRw 9 (T.1 143)) M)
def zIt (T : zT) : Prop := T.1 142 7 = T.1 137 1 ∧ 0 ≤ T.1 137 1 ∧ T.1 137 1 ≤ 60 ∧ T.1 144 = T.1 138 ∧ ∀ j, 0 ≤ j → j < T.1 137 1 → 0 ≤ T.1 138 j ∧ T.1 138 j < 65536
def zIe (T : zT) : Prop := T.1 142 10 = T.1 0 10 ∧ T.1 142 11 = T.1 0 11 ∧ (-1 ≤ T.1 0 10 ∧ T.1 0 10 ≤ 100) ∧ -1 ≤ T.1 0 11 ∧ T.1 0 11 ≤ 100
def zIo (T : zT) : Prop := T.1 142 15 = T.1 140 1 ∧ 0 ≤ T.1 140 1 ∧ T.1 140 1 ≤ 54 ∧ T.1 146 = T.1 141 ∧ ∀ j, 0 ≤ j → j < T.1 140 1 → 0 ≤ T.1 141 j ∧ T.1 141 j < 65536
def zIv (T : zT) (M : Int) : Prop := zPr (T.1 o1) (T.1 143) M ∧ zIh T M ∧ zIs T M ∧ zIt T ∧ zIe T ∧ zIo T ∧ T.2.1 < 8 ∧ zAb (T.1 139)
/-- nothing of it has changed -/
def zSame (T T' : zT) : Prop := T'.2.1 = T.2.1 ∧ (∀ o, ¬ zJ o → ¬ o = 142 → ¬ o = 143 → ¬ o = 147 → T'.1 o = T.1 o) ∧ (∀ j, ¬ j = 0 → ¬ j = 4 → ¬ j = 5 → T'.1 142 j = T.1 142 j) ∧ (∀ j, j < 630 → T'.1 143 j = T.1 143 j)
section IV
variable {T S : zT} {M N : Int} {F X A B : Int → Int} {p q r : Int}
theorem zJ_no {o : Nat} (h : o < 17 ∨ (25 < o ∧ o < 101) ∨ 136 < o) : ¬ zJ o := by
  rintro (e | e | e | ⟨j, hj, e⟩) <;> omega
theorem zSame_refl (T : zT) : zSame T T := ⟨rfl, fun _ _ _ _ _ => rfl, fun _ _ _ _ => rfl, fun _ _ => rfl⟩
theorem zSame_fr (h : zFr T S) : zSame T S := ⟨by rw [h.1], fun o ho _ _ _ => h.2 o ho, fun j _ _ _ => by rw [h.2 142 (zJ_no (by omega))], fun j _ => by rw [h.2 143 (zJ_no (by omega))]⟩
theorem zSame_trans {U : zT} (h : zSame T S) (g : zSame S U) : zSame T U := ⟨g.1.trans h.1, fun o a b c e => (g.2.1 o a b c e).trans (h.2.1 o a b c e), fun j a b c => (g.2.2.1 j a b c).trans (h.2.2.1 j a b c), fun j a => (g.2.2.2 j a).trans (h.2.2.2 j a)⟩
theorem zSame_147 (T : zT) (G : Int → Int) : zSame T (sD T 147 G) := ⟨rfl, fun o _ _ _ h => sD_ne T G h, fun j _ _ _ => by rw [sD_ne T G (by decide)], fun j _ => by rw [sD_ne T G (by decide)]⟩
theorem zSame_q (hF : ∀ j, ¬ j = 0 → ¬ j = 4 → ¬ j = 5 → F j = T.1 142 j) (hA : ∀ j, j < 630 → A j = T.1 143 j) : zSame T (sD (sD T 142 F) 143 A) := by
  refine ⟨rfl, fun o _ h2 h3 _ => by rw [sD_ne _ _ h3, sD_ne _ _ h2], fun j a b c => ?_, fun j a => ?_⟩
  · rw [sD_ne _ _ (by decide), sD_eq]; exact hF j a b c
  · rw [sD_eq]; exact hA j a
theorem zz_id (e2 : S.1 142 = F) (e3 : S.1 143 = A) : sD (sD S 142 F) 143 A = S := by subst e2; subst e3; rw [sD_id, sD_id]
theorem zz_43 (e3 : S.1 143 = A) : sD (sD S 142 F) 143 A = sD S 142 F := by
  have : A = (sD S 142 F).1 143 := by rw [sD_ne _ _ (by decide)]; exact e3.symm
  rw [this, sD_id]
theorem zIv_mono (h : zIv T M) (hM : M ≤ N) : zIv T N := by
  obtain ⟨h1, ⟨h2, h3, h4⟩, ⟨h5, h6, h7⟩, h8⟩ := h
  exact ⟨zPr_mono h1 hM, ⟨h2, h3, fun i a b => zPr_mono (h4 i a b) hM⟩, ⟨h5, h6, fun a => zPr_mono (h7 a) hM⟩, h8⟩
theorem zIv_same (h : zIv T M) (s : zSame T S) : zIv S M := by
  obtain ⟨h1, ⟨h2, h3, h4⟩, ⟨h5, h6, h7⟩, h8, h9, h10, h11, h12⟩ := h
  obtain ⟨e2, eo, eF, eA⟩ := s
  have k1 : S.1 o1 = T.1 o1 := eo o1 zJ_o1 (by decide) (by decide) (by decide)
  have k9 : S.1 o9 = T.1 o9 := eo o9 (zJ_no (.inl (by decide))) (by decide) (by decide) (by decide)
  have k0 : S.1 0 = T.1 0 := eo 0 (zJ_no (by omega)) (by decide) (by decide) (by decide)
  have k33 : S.1 33 = T.1 33 := eo 33 (zJ_no (by omega)) (by decide) (by decide) (by decide)
  have k137 : S.1 137 = T.1 137 := eo 137 (zJ_no (by omega)) (by decide) (by decide) (by decide)
  have k138 : S.1 138 = T.1 138 := eo 138 (zJ_no (by omega)) (by decide) (by decide) (by decide)
  have k139 : S.1 139 = T.1 139 := eo 139 (zJ_no (by omega)) (by decide) (by decide) (by decide)
  have k140 : S.1 140 = T.1 140 := eo 140 (zJ_no (by omega)) (by decide) (by decide) (by decide)
  have k141 : S.1 141 = T.1 141 := eo 141 (zJ_no (by omega)) (by decide) (by decide) (by decide)
  have k144 : S.1 144 = T.1 144 := eo 144 (zJ_no (by omega)) (by decide) (by decide) (by decide)
  have k146 : S.1 146 = T.1 146 := eo 146 (zJ_no (by omega)) (by decide) (by decide) (by decide)
  have kh : ∀ j, j < 8 → S.1 (35 + 8 * j) = T.1 (35 + 8 * j) := fun j hj => eo _ (zJ_no (by omega)) (by omega) (by omega) (by omega)
  refine ⟨?_, ⟨?_, ?_, ?_⟩, ⟨?_, ?_, ?_⟩, ?_, ?_, ?_, ?_, ?_⟩
  · rw [k1]; exact zPr_on h1 (fun j j0 j1 => eA j (by omega))
  · unfold zHis; rw [k33]; exact h2
  · rw [eF 2 (by decide) (by decide) (by decide), k33]; exact h3
  · intro i i0 i1
    rw [k33] at i1 ⊢
    rw [kh _ (by omega)]
    obtain ⟨_, _, c0, c8⟩ := h2
    exact zPr_on (h4 i i0 i1) (fun j j0 j1 => eA (63 * (T.1 33 2 - i) + j) (by omega))
  · rw [eF 3 (by decide) (by decide) (by decide), k0]; exact h5
  · rw [k0]; exact h6
  · rw [k0, k9]; exact fun a => zPr_on (h7 a) (fun j j0 j1 => eA (63 * 9 + j) (by omega))
  · unfold zIt; rw [eF 7 (by decide) (by decide) (by decide), k137, k144, k138]; exact h8
  · unfold zIe; rw [eF 10 (by decide) (by decide) (by decide), eF 11 (by decide) (by decide) (by decide), k0]; exact h9
  · unfold zIo; rw [eF 15 (by decide) (by decide) (by decide), k140, k146, k141]; exact h10
  · rw [e2]; exact h11
  · rw [k139]; exact h12
theorem rSf_at : ∀ (n : Nat) {k j : Int} {A : Int → Int}, rSf n k A j = if 63 * k ≤ j ∧ j < 63 * (k + n) then A (j + 63) else A j
  | 0, k, j, A => by rw [rSf, if_neg (by omega)]
  | n + 1, k, j, A => by
    rw [rSf, rSf_at n]
    by_cases h1 : 63 * k ≤ j ∧ j < 63 * k + 63
    · rw [if_neg (by omega), if_pos (by omega), rCp_is _ _ _ h1.1 h1.2]
      exact congrArg _ (by omega)
    · by_cases h2 : 63 * (k + 1) ≤ j ∧ j < 63 * (k + 1 + n)
      · rw [if_pos h2, if_pos (by omega), rCp_ne _ _ _ (by omega)]
      · rw [if_neg h2, if_neg (by omega), rCp_ne _ _ _ h1]
theorem rEnA_at {j : Int} (h0 : 0 ≤ F 2) (h8 : F 2 ≤ 8) : rEnA 0 F X j = if 63 * (if F 2 = 8 then 8 else F 2 + 1) ≤ j ∧ j < 63 * (if F 2 = 8 then 8 else F 2 + 1) + 63 then X (j - 63 * (if F 2 = 8 then 8 else F 2 + 1) + 630) else if F 2 = 8 ∧ 63 ≤ j ∧ j < 504 then X (j + 63) else X j := by
  unfold rEnA
  rw [if_pos rfl]
  by_cases h : F 2 = 8
  · rw [if_pos h, if_pos h]
    by_cases g : 63 * (8 : Int) ≤ j ∧ j < 63 * 8 + 63
    · rw [if_pos g, rCp_is _ _ _ g.1 g.2, rSf_at, if_neg (by omega)]
      exact congrArg _ (by omega)
    · rw [if_neg g, rCp_ne _ _ _ g, rSf_at]
      by_cases q : 63 ≤ j ∧ j < 504
      · rw [if_pos (by omega), if_pos ⟨h, q.1, q.2⟩]
      · rw [if_neg (by omega), if_neg (by omega)]
  · rw [if_neg h, if_neg h]
    by_cases g : 63 * (F 2 + 1) ≤ j ∧ j < 63 * (F 2 + 1) + 63
    · rw [if_pos g, rCp_is _ _ _ g.1 g.2]
      exact congrArg _ (by omega)
    · rw [if_neg g, if_neg (fun q => h q.1), rCp_ne _ _ _ g]
theorem rEnA_out {j : Int} (h0 : 0 ≤ F 2) (h8 : F 2 ≤ 8) (hj : j < 63 ∨ 567 ≤ j) : rEnA 0 F X j = X j := by
  rw [rEnA_at h0 h8, if_neg (by split <;> omega), if_neg (by omega)]
/-- a change is remembered on both sides -/
theorem zIh_put (h : zIh T M) (hM : M ≤ N) (s33 : S.1 33 = upR (upR (T.1 33) 1 ((T.1 33 1 + 1) % 8)) 2 (min (T.1 33 2 + 1) 8)) (s2 : S.1 142 2 = if T.1 142 2 = 8 then 8 else T.1 142 2 + 1) (sl : zPr (S.1 (35 + 8 * (T.1 33 1).toNat)) (T.1 143) M) (so : ∀ j, j < 8 → ¬ j = (T.1 33 1).toNat → S.1 (35 + 8 * j) = T.1 (35 + 8 * j)) (hF : F 2 = T.1 142 2) (s143 : S.1 143 = rEnA 0 F X) (x10 : ∀ j, 0 ≤ j → j < 63 → X (630 + j) = T.1 143 j) (xo : ∀ j, 63 ≤ j → j < 630 → X j = T.1 143 j) : zIh S N := by
  obtain ⟨⟨n0, n8, c0, c8⟩, h2, h3⟩ := h
  have e1 : S.1 33 1 = (T.1 33 1 + 1) % 8 := by rw [s33, upR_ne _ _ (by decide), upR_eq]
  have e2 : S.1 33 2 = min (T.1 33 2 + 1) 8 := by rw [s33, upR_eq]
  have hm : min (T.1 33 2 + 1) 8 = if T.1 33 2 = 8 then 8 else T.1 33 2 + 1 := by split <;> omega
  refine ⟨⟨by omega, by omega, by omega, by omega⟩, by rw [s2, e2, hm, h2], fun i i0 i1 => ?_⟩
  rw [e1, e2]
  by_cases hi : i = 0
  · subst hi
    have : ((((T.1 33 1 + 1) % 8) + 7 - 0) % 8).toNat = (T.1 33 1).toNat := by omega
    rw [this]
    refine zPr_on (zPr_mono sl hM) (fun j j0 j1 => ?_)
    show S.1 143 (63 * (min (T.1 33 2 + 1) 8 - 0) + j) = _
    rw [s143, rEnA_at (by omega) (by omega), hF, h2, hm, if_pos (by split <;> omega), ← x10 j j0 j1]
    exact congrArg _ (by omega)
  · have hs : ((((T.1 33 1 + 1) % 8) + 7 - i) % 8).toNat = ((T.1 33 1 + 7 - (i - 1)) % 8).toNat := by omega
    have hlt : ((T.1 33 1 + 7 - (i - 1)) % 8).toNat < 8 := by omega
    have hne : ¬ ((T.1 33 1 + 7 - (i - 1)) % 8).toNat = (T.1 33 1).toNat := by omega
    rw [hs, so _ hlt hne]
    refine zPr_on (zPr_mono (h3 (i - 1) (by omega) (by omega)) hM) (fun j j0 j1 => ?_)
    show S.1 143 (63 * (min (T.1 33 2 + 1) 8 - i) + j) = T.1 143 (63 * (T.1 33 2 - (i - 1)) + j)
    rw [s143, rEnA_at (by omega) (by omega), hF, h2, hm]
    by_cases hc : T.1 33 2 = 8
    · rw [if_pos hc, if_neg (by omega), if_pos ⟨hc, by omega, by omega⟩, xo _ (by omega) (by omega)]
      exact congrArg _ (by omega)
    · rw [if_neg hc, if_neg (by omega), if_neg (fun q => hc q.1), xo _ (by omega) (by omega)]
      exact congrArg _ (by omega)
theorem zIs_put (h : zIs T M) (hM : M ≤ N) (s3 : S.1 142 3 = T.1 142 3) (s0 : S.1 0 9 = T.1 0 9) (s9 : S.1 o9 = T.1 o9) (s143 : ∀ j, 567 ≤ j → j < 630 → S.1 143 j = T.1 143 j) : zIs S N := by
  obtain ⟨h1, h2, h3⟩ := h
  refine ⟨by rw [s3, s0]; exact h1, by rw [s0]; exact h2, fun a => ?_⟩
  rw [s0] at a
  rw [s9]
  exact zPr_on (zPr_mono (h3 a) hM) (fun j j0 j1 => s143 (63 * 9 + j) (by omega) (by omega))
theorem zIt_eq (h : zIt T) (s7 : S.1 142 7 = T.1 142 7) (s137 : S.1 137 1 = T.1 137 1) (s138 : S.1 138 = T.1 138) (s144 : S.1 144 = T.1 144) : zIt S := by unfold zIt; rw [s7, s137, s138, s144]; exact h
theorem zIe_eq (h : zIe T) (sa : S.1 142 10 = T.1 142 10) (sb : S.1 142 11 = T.1 142 11) (s0 : S.1 0 = T.1 0) : zIe S := by unfold zIe; rw [sa, sb, s0]; exact h
theorem zIo_eq (h : zIo T) (s15 : S.1 142 15 = T.1 142 15) (s140 : S.1 140 = T.1 140) (s141 : S.1 141 = T.1 141) (s146 : S.1 146 = T.1 146) : zIo S := by unfold zIo; rw [s15, s140, s141, s146]; exact h
/-- the reference's commands touch row 0 alone -/
theorem rFa_hi {j : Int} (hj : 63 ≤ j) : rFa A j = A j := rFa_ne (by omega) (by omega)
theorem rCl_hi : ∀ (n : Nat) {A : Int → Int} {j : Int}, 63 ≤ j → rCl n A j = A j
  | 0, _, _, _ => rfl
  | n + 1, A, j, h => by rw [rCl, rCl_hi n h, rFa_hi h]
theorem rCo_hi : ∀ {k : Nat}, k < 8 → zWF A 99 → zfOf k A p q r = 1010 → ∀ {j : Int}, 63 ≤ j → rCo k A p q r j = A j
  | 0, _, hA, hf, j, hj => by
    have a0 := hA.1
    have a5 : A 0 < 5 := by
      have hf : zfNew A p q r = 1010 := hf
      unfold zfNew at hf
      repeat' split at hf
      all_goals omega
    show rBd (A 0) p q r A j = A j
    rw [rBd_at, if_neg (by omega), if_neg (by omega), if_neg (by omega), if_neg (by omega), if_neg (by omega)]
  | 1, _, hA, hf, j, hj => by
    have a5 := hA.2.1
    have hf : zfGate A p q = 1010 := hf
    unfold zfGate at hf
    split at hf
    · show upR A (6 + 9 * p + 4) q j = A j
      rw [upR_ne _ _ (by omega)]
    · omega
  | 2, _, hA, hf, j, hj => by
    have a5 := hA.2.1
    have hf : zfAt A p q 0 99 = 1010 := hf
    unfold zfAt at hf
    split at hf
    · show upR (upR A (6 + 9 * p + 5) 1) (6 + 9 * p + 6) q j = A j
      rw [upR_ne _ _ (by omega), upR_ne _ _ (by omega)]
    · omega
  | 3, _, hA, hf, j, hj => by
    have a5 := hA.2.1
    have hf : zfHand A p = 1010 := hf
    unfold zfHand at hf
    split at hf
    · show upR (upR A (6 + 9 * p + 5) 0) (6 + 9 * p + 6) 0 j = A j
      rw [upR_ne _ _ (by omega), upR_ne _ _ (by omega)]
    · omega
  | 4, _, hA, hf, j, hj => by
    have a2 := hA.2.2.1
    have a12 := hA.2.2.2.1
    have hf : zfRain A p = 1010 := hf
    unfold zfRain at hf
    split at hf
    · omega
    · split at hf
      · omega
      · show upR (upR A (51 + A 2) p) 2 (A 2 + 1) j = A j
        rw [upR_ne _ _ (by omega), upR_ne _ _ (by omega)]
  | 5, _, hA, hf, j, hj => rCl_hi _ hj
  | 6, _, hA, hf, j, hj => by
    have a5 := hA.2.1
    have hf : zfPour A p q = 1010 := hf
    unfold zfPour at hf
    split at hf
    · show upR A (6 + 9 * p + 1) (A (6 + 9 * p + 1) + q) j = A j
      rw [upR_ne _ _ (by omega)]
    · omega
  | 7, _, hA, hf, j, hj => rPs_hi _ hA (by omega)
  | k + 8, h, _, _, _, _ => absurd h (by omega)
theorem rRun_hi : ∀ (cs : List (Nat × List Int)) {A : Int → Int}, (∀ c ∈ cs, c.1 < 8) → zWF A 99 → ∀ {j : Int}, 63 ≤ j → (rRun cs A).2 j = A j
  | [], _, _, _, _, _ => rfl
  | c :: cs, A, hc, hA, j, hj => by
    have hk := hc c List.mem_cons_self
    rw [rRun]
    split
    · next hf => rw [rRun_hi cs (fun x hx => hc x (List.mem_cons_of_mem _ hx)) (rCo_wf hk hA hf) hj, rCo_hi hk hA hf hj]
    · rfl
end IV
