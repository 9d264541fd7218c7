/-! THE REFERENCE: programs -/
section RF9
variable {L : Nat} {xs : Nat → Int32} {d t : Nat} {T : zT} {A B X F C : Int → Int}
/-- what a call of command() leaves -/
def rCm (X F C F' C' : Int → Int) : Prop := zPF F' X ∧ F' 13 = F 13 + 1 ∧ (∀ j, ¬ j = 8 → ¬ j = 9 → ¬ j = 13 → F' j = F j) ∧ (∀ j, j < 4 * F 13 → C' j = C j) ∧
  ((zOne X (F 7) (F 8)).1 = true → F' 9 = -1 ∧ F' 8 = (zOne X (F 7) (F 8)).2.1 ∧ F 8 < F' 8 ∧ F' 8 ≤ F 7 ∧ rRow C' (F 13) (zFst X (F 7) (F 8)) (zOne X (F 7) (F 8)).2.2) ∧
  ((zOne X (F 7) (F 8)).1 = false → F' 9 = (zOne X (F 7) (F 8)).2.1 ∧ 0 ≤ F' 9)
theorem zPat_le (X : Int → Int) (len : Int) : ∀ (cs : List Nat) (p : Int) (as : List Int), p ≤ (zPat X len cs p as).2.1 ∧ (p ≤ len → (zPat X len cs p as).2.1 ≤ len)
  | [], p, as => by rw [zPat]; exact ⟨Int.le_refl p, id⟩
  | c :: cs, p, as => by
    rw [zPat]
    split
    · split
      · next h =>
        have h1 := zDigB_iff.mp h
        have := zPat_le X len cs (p + 1) (as ++ [X p - 48])
        omega
      · exact ⟨Int.le_refl p, id⟩
    · split
      · split
        · next h =>
          split
          · next h2 =>
            have h1 := zDigB_iff.mp h2
            have := zPat_le X len cs (p + 2) (as ++ [10 * (X p - 48) + (X (p + 1) - 48)])
            omega
          · have h1 := zDigB_iff.mp h
            have := zPat_le X len cs (p + 1) (as ++ [X p - 48])
            omega
        · exact ⟨Int.le_refl p, id⟩
      · split
        · next h =>
          have := zPat_le X len cs (p + 1) as
          omega
        · exact ⟨Int.le_refl p, id⟩
theorem zOne_is {X : Int → Int} {len p : Int} {k : Nat} {cs : List Nat} {c : Nat} (hk : zFst X len p = k) (h8 : ¬ k = 8) (hc : mv_pat k = c :: cs) (h68 : ¬ c = 68) (h78 : ¬ c = 78) (hp : p < len) (hx : X p = c) : zOne X len p = zPat X len cs (p + 1) [] := by
  unfold zOne
  rw [hk, if_neg h8, hc, zPat, if_neg h68, if_neg h78, if_pos ⟨hp, hx⟩]
theorem rCm_0 (hP : zPF F X) (h9 : F 9 = -1) (hf : rSg F X = 98) (hm0 : 0 ≤ F 13) (hm : F 13 ≤ 60) (hP' : zPF (rDg X (2 : Int).toNat (rNd X 32 (rDg X (1 : Int).toNat (rNd X 32 (rDg X (2 : Int).toNat (rNd X 32 (rNd X 110 (rNd X 105 (rNd X 115 (rNd X 97 (rFa1 F))))))).2)).2)).2 X) : rCm X F C (rDg X (2 : Int).toNat (rNd X 32 (rDg X (1 : Int).toNat (rNd X 32 (rDg X (2 : Int).toNat (rNd X 32 (rNd X 110 (rNd X 105 (rNd X 115 (rNd X 97 (rFa1 F))))))).2)).2)).2 (upR (upR (upR (rC4 (F 13) 98 C) (4 * F 13 + 1) (rDg X (2 : Int).toNat (rNd X 32 (rNd X 110 (rNd X 105 (rNd X 115 (rNd X 97 (rFa1 F))))))).1) (4 * F 13 + 2) (rDg X (1 : Int).toNat (rNd X 32 (rDg X (2 : Int).toNat (rNd X 32 (rNd X 110 (rNd X 105 (rNd X 115 (rNd X 97 (rFa1 F))))))).2)).1) (4 * F 13 + 3) (rDg X (2 : Int).toNat (rNd X 32 (rDg X (1 : Int).toNat (rNd X 32 (rDg X (2 : Int).toNat (rNd X 32 (rNd X 110 (rNd X 105 (rNd X 115 (rNd X 97 (rFa1 F))))))).2)).2)).1) := by
  have hlt := rSg_lt (F := F) (X := X) (by omega)
  have hx : X (F 8) = 98 := by rw [← rSg_is (X := X) hlt]; exact hf
  obtain ⟨a, b, c9, e, f, g, h⟩ := id hP
  have hk : zFst X (F 7) (F 8) = 0 := by unfold zFst zLet8; rw [if_pos hlt, hx]; rfl
  have e1 : zOne X (F 7) (F 8) = zPat X (F 7) [97, 115, 105, 110, 32, 78, 32, 68, 32, 78] (F 8 + 1) [] := zOne_is hk (by decide) (c := 98) (cs := [97, 115, 105, 110, 32, 78, 32, 68, 32, 78]) rfl (by decide) (by decide) hlt hx
  have b7 : rFa1 F 7 = F 7 := by unfold rFa1; rw [upR_ne _ _ (by omega), upR_ne _ _ (by omega)]
  have b8 : rFa1 F 8 = F 8 + 1 := by unfold rFa1; rw [upR_eq]
  have b9 : rFa1 F 9 = -1 := by unfold rFa1; rw [upR_ne _ _ (by omega), upR_ne _ _ (by omega)]; exact h9
  have b13 : rFa1 F 13 = F 13 + 1 := by unfold rFa1; rw [upR_ne _ _ (by omega), upR_eq]
  have bj : ∀ j, ¬ j = 8 → ¬ j = 13 → rFa1 F j = F j := fun j h1 h2 => by unfold rFa1; rw [upR_ne _ _ h1, upR_ne _ _ h2]
  have hP0 : zPF (rFa1 F) X := by
    unfold zPF
    rw [b7, b8, b9]
    exact ⟨by omega, by omega, by omega, by omega, by omega, by omega, h⟩
  have key := rPt_ok X [97, 115, 105, 110, 32, 78, 32, 68, 32, 78] (rFa1 F) [] hP0 b9
  have er : rPt X [97, 115, 105, 110, 32, 78, 32, 68, 32, 78] (rFa1 F) [] = ((rDg X (2 : Int).toNat (rNd X 32 (rDg X (1 : Int).toNat (rNd X 32 (rDg X (2 : Int).toNat (rNd X 32 (rNd X 110 (rNd X 105 (rNd X 115 (rNd X 97 (rFa1 F))))))).2)).2)).2, [(rDg X (2 : Int).toNat (rNd X 32 (rNd X 110 (rNd X 105 (rNd X 115 (rNd X 97 (rFa1 F))))))).1, (rDg X (1 : Int).toNat (rNd X 32 (rDg X (2 : Int).toNat (rNd X 32 (rNd X 110 (rNd X 105 (rNd X 115 (rNd X 97 (rFa1 F))))))).2)).1, (rDg X (2 : Int).toNat (rNd X 32 (rDg X (1 : Int).toNat (rNd X 32 (rDg X (2 : Int).toNat (rNd X 32 (rNd X 110 (rNd X 105 (rNd X 115 (rNd X 97 (rFa1 F))))))).2)).2)).1]) := rfl
  rw [er, b7, b8, ← e1] at key
  dsimp only at key
  have hle := (zPat_le X (F 7) [97, 115, 105, 110, 32, 78, 32, 68, 32, 78] (F 8 + 1) []).2 (by omega)
  rw [← e1] at hle
  have hc4 := rC4_at (C := C) (m := F 13) (v := 98)
  have hj : ∀ j, ¬ j = 8 → ¬ j = 9 → (rDg X (2 : Int).toNat (rNd X 32 (rDg X (1 : Int).toNat (rNd X 32 (rDg X (2 : Int).toNat (rNd X 32 (rNd X 110 (rNd X 105 (rNd X 115 (rNd X 97 (rFa1 F))))))).2)).2)).2 j = rFa1 F j := by
    intro j h1 h2
    cases hq : (zOne X (F 7) (F 8)).1 with
    | true => rw [(key.1 hq).1, upR_ne _ _ h1]
    | false => exact (key.2.1 hq).2 j h1 h2
  refine ⟨hP', by rw [hj 13 (by omega) (by omega), b13], fun j h1 h2 h3 => by rw [hj j h1 h2, bj j h1 h3], fun j h1 => ?_, fun hq => ?_, fun hq => ?_⟩
  · rw [upR_ne _ _ (by omega), upR_ne _ _ (by omega), upR_ne _ _ (by omega), rC4_ne h1]
  · obtain ⟨k1, k2⟩ := key.1 hq
    refine ⟨by rw [k1, upR_ne _ _ (by omega)]; exact b9, by rw [k1, upR_eq], by rw [k1, upR_eq]; omega, by rw [k1, upR_eq]; exact hle, ?_⟩
    rw [hk]
    have k2 : [(rDg X (2 : Int).toNat (rNd X 32 (rNd X 110 (rNd X 105 (rNd X 115 (rNd X 97 (rFa1 F))))))).1, (rDg X (1 : Int).toNat (rNd X 32 (rDg X (2 : Int).toNat (rNd X 32 (rNd X 110 (rNd X 105 (rNd X 115 (rNd X 97 (rFa1 F))))))).2)).1, (rDg X (2 : Int).toNat (rNd X 32 (rDg X (1 : Int).toNat (rNd X 32 (rDg X (2 : Int).toNat (rNd X 32 (rNd X 110 (rNd X 105 (rNd X 115 (rNd X 97 (rFa1 F))))))).2)).2)).1] = (zOne X (F 7) (F 8)).2.2 := k2
    rw [← k2]
    refine ⟨?_, ?_, ?_, ?_⟩
    · rw [upR_ne _ _ (by omega), upR_ne _ _ (by omega), upR_ne _ _ (by omega), hc4.1]; rfl
    · rw [upR_ne _ _ (by omega), upR_ne _ _ (by omega), upR_eq]; rfl
    · rw [upR_ne _ _ (by omega), upR_eq]; rfl
    · rw [upR_eq]; rfl
  · have k1 := key.2.1 hq
    exact ⟨k1.1, by rw [k1.1]; omega⟩
theorem rCm_1 (hP : zPF F X) (h9 : F 9 = -1) (hf : rSg F X = 103) (hm0 : 0 ≤ F 13) (hm : F 13 ≤ 60) (hP' : zPF (rDg X (1 : Int).toNat (rNd X 32 (rDg X (1 : Int).toNat (rNd X 32 (rNd X 101 (rNd X 116 (rNd X 97 (rFa1 F)))))).2)).2 X) : rCm X F C (rDg X (1 : Int).toNat (rNd X 32 (rDg X (1 : Int).toNat (rNd X 32 (rNd X 101 (rNd X 116 (rNd X 97 (rFa1 F)))))).2)).2 (upR (upR (rC4 (F 13) 103 C) (4 * F 13 + 1) (rDg X (1 : Int).toNat (rNd X 32 (rNd X 101 (rNd X 116 (rNd X 97 (rFa1 F)))))).1) (4 * F 13 + 2) (rDg X (1 : Int).toNat (rNd X 32 (rDg X (1 : Int).toNat (rNd X 32 (rNd X 101 (rNd X 116 (rNd X 97 (rFa1 F)))))).2)).1) := by
  have hlt := rSg_lt (F := F) (X := X) (by omega)
  have hx : X (F 8) = 103 := by rw [← rSg_is (X := X) hlt]; exact hf
  obtain ⟨a, b, c9, e, f, g, h⟩ := id hP
  have hk : zFst X (F 7) (F 8) = 1 := by unfold zFst zLet8; rw [if_pos hlt, hx]; rfl
  have e1 : zOne X (F 7) (F 8) = zPat X (F 7) [97, 116, 101, 32, 68, 32, 68] (F 8 + 1) [] := zOne_is hk (by decide) (c := 103) (cs := [97, 116, 101, 32, 68, 32, 68]) rfl (by decide) (by decide) hlt hx
  have b7 : rFa1 F 7 = F 7 := by unfold rFa1; rw [upR_ne _ _ (by omega), upR_ne _ _ (by omega)]
  have b8 : rFa1 F 8 = F 8 + 1 := by unfold rFa1; rw [upR_eq]
  have b9 : rFa1 F 9 = -1 := by unfold rFa1; rw [upR_ne _ _ (by omega), upR_ne _ _ (by omega)]; exact h9
  have b13 : rFa1 F 13 = F 13 + 1 := by unfold rFa1; rw [upR_ne _ _ (by omega), upR_eq]
  have bj : ∀ j, ¬ j = 8 → ¬ j = 13 → rFa1 F j = F j := fun j h1 h2 => by unfold rFa1; rw [upR_ne _ _ h1, upR_ne _ _ h2]
  have hP0 : zPF (rFa1 F) X := by
    unfold zPF
    rw [b7, b8, b9]
    exact ⟨by omega, by omega, by omega, by omega, by omega, by omega, h⟩
  have key := rPt_ok X [97, 116, 101, 32, 68, 32, 68] (rFa1 F) [] hP0 b9
  have er : rPt X [97, 116, 101, 32, 68, 32, 68] (rFa1 F) [] = ((rDg X (1 : Int).toNat (rNd X 32 (rDg X (1 : Int).toNat (rNd X 32 (rNd X 101 (rNd X 116 (rNd X 97 (rFa1 F)))))).2)).2, [(rDg X (1 : Int).toNat (rNd X 32 (rNd X 101 (rNd X 116 (rNd X 97 (rFa1 F)))))).1, (rDg X (1 : Int).toNat (rNd X 32 (rDg X (1 : Int).toNat (rNd X 32 (rNd X 101 (rNd X 116 (rNd X 97 (rFa1 F)))))).2)).1]) := rfl
  rw [er, b7, b8, ← e1] at key
  dsimp only at key
  have hle := (zPat_le X (F 7) [97, 116, 101, 32, 68, 32, 68] (F 8 + 1) []).2 (by omega)
  rw [← e1] at hle
  have hc4 := rC4_at (C := C) (m := F 13) (v := 103)
  have hj : ∀ j, ¬ j = 8 → ¬ j = 9 → (rDg X (1 : Int).toNat (rNd X 32 (rDg X (1 : Int).toNat (rNd X 32 (rNd X 101 (rNd X 116 (rNd X 97 (rFa1 F)))))).2)).2 j = rFa1 F j := by
    intro j h1 h2
    cases hq : (zOne X (F 7) (F 8)).1 with
    | true => rw [(key.1 hq).1, upR_ne _ _ h1]
    | false => exact (key.2.1 hq).2 j h1 h2
  refine ⟨hP', by rw [hj 13 (by omega) (by omega), b13], fun j h1 h2 h3 => by rw [hj j h1 h2, bj j h1 h3], fun j h1 => ?_, fun hq => ?_, fun hq => ?_⟩
  · rw [upR_ne _ _ (by omega), upR_ne _ _ (by omega), rC4_ne h1]
  · obtain ⟨k1, k2⟩ := key.1 hq
    refine ⟨by rw [k1, upR_ne _ _ (by omega)]; exact b9, by rw [k1, upR_eq], by rw [k1, upR_eq]; omega, by rw [k1, upR_eq]; exact hle, ?_⟩
    rw [hk]
    have k2 : [(rDg X (1 : Int).toNat (rNd X 32 (rNd X 101 (rNd X 116 (rNd X 97 (rFa1 F)))))).1, (rDg X (1 : Int).toNat (rNd X 32 (rDg X (1 : Int).toNat (rNd X 32 (rNd X 101 (rNd X 116 (rNd X 97 (rFa1 F)))))).2)).1] = (zOne X (F 7) (F 8)).2.2 := k2
    rw [← k2]
    refine ⟨?_, ?_, ?_, ?_⟩
    · rw [upR_ne _ _ (by omega), upR_ne _ _ (by omega), hc4.1]; rfl
    · rw [upR_ne _ _ (by omega), upR_eq]; rfl
    · rw [upR_eq]; rfl
    · rw [upR_ne _ _ (by omega), upR_ne _ _ (by omega), hc4.2.2.2]; rfl
  · have k1 := key.2.1 hq
    exact ⟨k1.1, by rw [k1.1]; omega⟩
theorem rCm_2 (hP : zPF F X) (h9 : F 9 = -1) (hf : rSg F X = 97) (hm0 : 0 ≤ F 13) (hm : F 13 ≤ 60) (hP' : zPF (rDg X (2 : Int).toNat (rNd X 32 (rDg X (1 : Int).toNat (rNd X 32 (rNd X 111 (rNd X 116 (rNd X 117 (rFa1 F)))))).2)).2 X) : rCm X F C (rDg X (2 : Int).toNat (rNd X 32 (rDg X (1 : Int).toNat (rNd X 32 (rNd X 111 (rNd X 116 (rNd X 117 (rFa1 F)))))).2)).2 (upR (upR (rC4 (F 13) 97 C) (4 * F 13 + 1) (rDg X (1 : Int).toNat (rNd X 32 (rNd X 111 (rNd X 116 (rNd X 117 (rFa1 F)))))).1) (4 * F 13 + 2) (rDg X (2 : Int).toNat (rNd X 32 (rDg X (1 : Int).toNat (rNd X 32 (rNd X 111 (rNd X 116 (rNd X 117 (rFa1 F)))))).2)).1) := by
  have hlt := rSg_lt (F := F) (X := X) (by omega)
  have hx : X (F 8) = 97 := by rw [← rSg_is (X := X) hlt]; exact hf
  obtain ⟨a, b, c9, e, f, g, h⟩ := id hP
  have hk : zFst X (F 7) (F 8) = 2 := by unfold zFst zLet8; rw [if_pos hlt, hx]; rfl
  have e1 : zOne X (F 7) (F 8) = zPat X (F 7) [117, 116, 111, 32, 68, 32, 78] (F 8 + 1) [] := zOne_is hk (by decide) (c := 97) (cs := [117, 116, 111, 32, 68, 32, 78]) rfl (by decide) (by decide) hlt hx
  have b7 : rFa1 F 7 = F 7 := by unfold rFa1; rw [upR_ne _ _ (by omega), upR_ne _ _ (by omega)]
  have b8 : rFa1 F 8 = F 8 + 1 := by unfold rFa1; rw [upR_eq]
  have b9 : rFa1 F 9 = -1 := by unfold rFa1; rw [upR_ne _ _ (by omega), upR_ne _ _ (by omega)]; exact h9
  have b13 : rFa1 F 13 = F 13 + 1 := by unfold rFa1; rw [upR_ne _ _ (by omega), upR_eq]
  have bj : ∀ j, ¬ j = 8 → ¬ j = 13 → rFa1 F j = F j := fun j h1 h2 => by unfold rFa1; rw [upR_ne _ _ h1, upR_ne _ _ h2]
  have hP0 : zPF (rFa1 F) X := by
    unfold zPF
    rw [b7, b8, b9]
    exact ⟨by omega, by omega, by omega, by omega, by omega, by omega, h⟩
  have key := rPt_ok X [117, 116, 111, 32, 68, 32, 78] (rFa1 F) [] hP0 b9
  have er : rPt X [117, 116, 111, 32, 68, 32, 78] (rFa1 F) [] = ((rDg X (2 : Int).toNat (rNd X 32 (rDg X (1 : Int).toNat (rNd X 32 (rNd X 111 (rNd X 116 (rNd X 117 (rFa1 F)))))).2)).2, [(rDg X (1 : Int).toNat (rNd X 32 (rNd X 111 (rNd X 116 (rNd X 117 (rFa1 F)))))).1, (rDg X (2 : Int).toNat (rNd X 32 (rDg X (1 : Int).toNat (rNd X 32 (rNd X 111 (rNd X 116 (rNd X 117 (rFa1 F)))))).2)).1]) := rfl
  rw [er, b7, b8, ← e1] at key
  dsimp only at key
  have hle := (zPat_le X (F 7) [117, 116, 111, 32, 68, 32, 78] (F 8 + 1) []).2 (by omega)
  rw [← e1] at hle
  have hc4 := rC4_at (C := C) (m := F 13) (v := 97)
  have hj : ∀ j, ¬ j = 8 → ¬ j = 9 → (rDg X (2 : Int).toNat (rNd X 32 (rDg X (1 : Int).toNat (rNd X 32 (rNd X 111 (rNd X 116 (rNd X 117 (rFa1 F)))))).2)).2 j = rFa1 F j := by
    intro j h1 h2
    cases hq : (zOne X (F 7) (F 8)).1 with
    | true => rw [(key.1 hq).1, upR_ne _ _ h1]
    | false => exact (key.2.1 hq).2 j h1 h2
  refine ⟨hP', by rw [hj 13 (by omega) (by omega), b13], fun j h1 h2 h3 => by rw [hj j h1 h2, bj j h1 h3], fun j h1 => ?_, fun hq => ?_, fun hq => ?_⟩
  · rw [upR_ne _ _ (by omega), upR_ne _ _ (by omega), rC4_ne h1]
  · obtain ⟨k1, k2⟩ := key.1 hq
    refine ⟨by rw [k1, upR_ne _ _ (by omega)]; exact b9, by rw [k1, upR_eq], by rw [k1, upR_eq]; omega, by rw [k1, upR_eq]; exact hle, ?_⟩
    rw [hk]
    have k2 : [(rDg X (1 : Int).toNat (rNd X 32 (rNd X 111 (rNd X 116 (rNd X 117 (rFa1 F)))))).1, (rDg X (2 : Int).toNat (rNd X 32 (rDg X (1 : Int).toNat (rNd X 32 (rNd X 111 (rNd X 116 (rNd X 117 (rFa1 F)))))).2)).1] = (zOne X (F 7) (F 8)).2.2 := k2
    rw [← k2]
    refine ⟨?_, ?_, ?_, ?_⟩
    · rw [upR_ne _ _ (by omega), upR_ne _ _ (by omega), hc4.1]; rfl
    · rw [upR_ne _ _ (by omega), upR_eq]; rfl
    · rw [upR_eq]; rfl
    · rw [upR_ne _ _ (by omega), upR_ne _ _ (by omega), hc4.2.2.2]; rfl
  · have k1 := key.2.1 hq
    exact ⟨k1.1, by rw [k1.1]; omega⟩
theorem rCm_3 (hP : zPF F X) (h9 : F 9 = -1) (hf : rSg F X = 104) (hm0 : 0 ≤ F 13) (hm : F 13 ≤ 60) (hP' : zPF (rDg X (1 : Int).toNat (rNd X 32 (rNd X 100 (rNd X 110 (rNd X 97 (rFa1 F)))))).2 X) : rCm X F C (rDg X (1 : Int).toNat (rNd X 32 (rNd X 100 (rNd X 110 (rNd X 97 (rFa1 F)))))).2 (upR (rC4 (F 13) 104 C) (4 * F 13 + 1) (rDg X (1 : Int).toNat (rNd X 32 (rNd X 100 (rNd X 110 (rNd X 97 (rFa1 F)))))).1) := by
  have hlt := rSg_lt (F := F) (X := X) (by omega)
  have hx : X (F 8) = 104 := by rw [← rSg_is (X := X) hlt]; exact hf
  obtain ⟨a, b, c9, e, f, g, h⟩ := id hP
  have hk : zFst X (F 7) (F 8) = 3 := by unfold zFst zLet8; rw [if_pos hlt, hx]; rfl
  have e1 : zOne X (F 7) (F 8) = zPat X (F 7) [97, 110, 100, 32, 68] (F 8 + 1) [] := zOne_is hk (by decide) (c := 104) (cs := [97, 110, 100, 32, 68]) rfl (by decide) (by decide) hlt hx
  have b7 : rFa1 F 7 = F 7 := by unfold rFa1; rw [upR_ne _ _ (by omega), upR_ne _ _ (by omega)]
  have b8 : rFa1 F 8 = F 8 + 1 := by unfold rFa1; rw [upR_eq]
  have b9 : rFa1 F 9 = -1 := by unfold rFa1; rw [upR_ne _ _ (by omega), upR_ne _ _ (by omega)]; exact h9
  have b13 : rFa1 F 13 = F 13 + 1 := by unfold rFa1; rw [upR_ne _ _ (by omega), upR_eq]
  have bj : ∀ j, ¬ j = 8 → ¬ j = 13 → rFa1 F j = F j := fun j h1 h2 => by unfold rFa1; rw [upR_ne _ _ h1, upR_ne _ _ h2]
  have hP0 : zPF (rFa1 F) X := by
    unfold zPF
    rw [b7, b8, b9]
    exact ⟨by omega, by omega, by omega, by omega, by omega, by omega, h⟩
  have key := rPt_ok X [97, 110, 100, 32, 68] (rFa1 F) [] hP0 b9
  have er : rPt X [97, 110, 100, 32, 68] (rFa1 F) [] = ((rDg X (1 : Int).toNat (rNd X 32 (rNd X 100 (rNd X 110 (rNd X 97 (rFa1 F)))))).2, [(rDg X (1 : Int).toNat (rNd X 32 (rNd X 100 (rNd X 110 (rNd X 97 (rFa1 F)))))).1]) := rfl
  rw [er, b7, b8, ← e1] at key
  dsimp only at key
  have hle := (zPat_le X (F 7) [97, 110, 100, 32, 68] (F 8 + 1) []).2 (by omega)
  rw [← e1] at hle
  have hc4 := rC4_at (C := C) (m := F 13) (v := 104)
  have hj : ∀ j, ¬ j = 8 → ¬ j = 9 → (rDg X (1 : Int).toNat (rNd X 32 (rNd X 100 (rNd X 110 (rNd X 97 (rFa1 F)))))).2 j = rFa1 F j := by
    intro j h1 h2
    cases hq : (zOne X (F 7) (F 8)).1 with
    | true => rw [(key.1 hq).1, upR_ne _ _ h1]
    | false => exact (key.2.1 hq).2 j h1 h2
  refine ⟨hP', by rw [hj 13 (by omega) (by omega), b13], fun j h1 h2 h3 => by rw [hj j h1 h2, bj j h1 h3], fun j h1 => ?_, fun hq => ?_, fun hq => ?_⟩
  · rw [upR_ne _ _ (by omega), rC4_ne h1]
  · obtain ⟨k1, k2⟩ := key.1 hq
    refine ⟨by rw [k1, upR_ne _ _ (by omega)]; exact b9, by rw [k1, upR_eq], by rw [k1, upR_eq]; omega, by rw [k1, upR_eq]; exact hle, ?_⟩
    rw [hk]
    have k2 : [(rDg X (1 : Int).toNat (rNd X 32 (rNd X 100 (rNd X 110 (rNd X 97 (rFa1 F)))))).1] = (zOne X (F 7) (F 8)).2.2 := k2
    rw [← k2]
    refine ⟨?_, ?_, ?_, ?_⟩
    · rw [upR_ne _ _ (by omega), hc4.1]; rfl
    · rw [upR_eq]; rfl
    · rw [upR_ne _ _ (by omega), hc4.2.2.1]; rfl
    · rw [upR_ne _ _ (by omega), hc4.2.2.2]; rfl
  · have k1 := key.2.1 hq
    exact ⟨k1.1, by rw [k1.1]; omega⟩
theorem rCm_4 (hP : zPF F X) (h9 : F 9 = -1) (hf : rSg F X = 114) (hm0 : 0 ≤ F 13) (hm : F 13 ≤ 60) (hP' : zPF (rDg X (2 : Int).toNat (rNd X 32 (rNd X 110 (rNd X 105 (rNd X 97 (rFa1 F)))))).2 X) : rCm X F C (rDg X (2 : Int).toNat (rNd X 32 (rNd X 110 (rNd X 105 (rNd X 97 (rFa1 F)))))).2 (upR (rC4 (F 13) 114 C) (4 * F 13 + 1) (rDg X (2 : Int).toNat (rNd X 32 (rNd X 110 (rNd X 105 (rNd X 97 (rFa1 F)))))).1) := by
  have hlt := rSg_lt (F := F) (X := X) (by omega)
  have hx : X (F 8) = 114 := by rw [← rSg_is (X := X) hlt]; exact hf
  obtain ⟨a, b, c9, e, f, g, h⟩ := id hP
  have hk : zFst X (F 7) (F 8) = 4 := by unfold zFst zLet8; rw [if_pos hlt, hx]; rfl
  have e1 : zOne X (F 7) (F 8) = zPat X (F 7) [97, 105, 110, 32, 78] (F 8 + 1) [] := zOne_is hk (by decide) (c := 114) (cs := [97, 105, 110, 32, 78]) rfl (by decide) (by decide) hlt hx
  have b7 : rFa1 F 7 = F 7 := by unfold rFa1; rw [upR_ne _ _ (by omega), upR_ne _ _ (by omega)]
  have b8 : rFa1 F 8 = F 8 + 1 := by unfold rFa1; rw [upR_eq]
  have b9 : rFa1 F 9 = -1 := by unfold rFa1; rw [upR_ne _ _ (by omega), upR_ne _ _ (by omega)]; exact h9
  have b13 : rFa1 F 13 = F 13 + 1 := by unfold rFa1; rw [upR_ne _ _ (by omega), upR_eq]
  have bj : ∀ j, ¬ j = 8 → ¬ j = 13 → rFa1 F j = F j := fun j h1 h2 => by unfold rFa1; rw [upR_ne _ _ h1, upR_ne _ _ h2]
  have hP0 : zPF (rFa1 F) X := by
    unfold zPF
    rw [b7, b8, b9]
    exact ⟨by omega, by omega, by omega, by omega, by omega, by omega, h⟩
  have key := rPt_ok X [97, 105, 110, 32, 78] (rFa1 F) [] hP0 b9
  have er : rPt X [97, 105, 110, 32, 78] (rFa1 F) [] = ((rDg X (2 : Int).toNat (rNd X 32 (rNd X 110 (rNd X 105 (rNd X 97 (rFa1 F)))))).2, [(rDg X (2 : Int).toNat (rNd X 32 (rNd X 110 (rNd X 105 (rNd X 97 (rFa1 F)))))).1]) := rfl
  rw [er, b7, b8, ← e1] at key
  dsimp only at key
  have hle := (zPat_le X (F 7) [97, 105, 110, 32, 78] (F 8 + 1) []).2 (by omega)
  rw [← e1] at hle
  have hc4 := rC4_at (C := C) (m := F 13) (v := 114)
  have hj : ∀ j, ¬ j = 8 → ¬ j = 9 → (rDg X (2 : Int).toNat (rNd X 32 (rNd X 110 (rNd X 105 (rNd X 97 (rFa1 F)))))).2 j = rFa1 F j := by
    intro j h1 h2
    cases hq : (zOne X (F 7) (F 8)).1 with
    | true => rw [(key.1 hq).1, upR_ne _ _ h1]
    | false => exact (key.2.1 hq).2 j h1 h2
  refine ⟨hP', by rw [hj 13 (by omega) (by omega), b13], fun j h1 h2 h3 => by rw [hj j h1 h2, bj j h1 h3], fun j h1 => ?_, fun hq => ?_, fun hq => ?_⟩
  · rw [upR_ne _ _ (by omega), rC4_ne h1]
  · obtain ⟨k1, k2⟩ := key.1 hq
    refine ⟨by rw [k1, upR_ne _ _ (by omega)]; exact b9, by rw [k1, upR_eq], by rw [k1, upR_eq]; omega, by rw [k1, upR_eq]; exact hle, ?_⟩
    rw [hk]
    have k2 : [(rDg X (2 : Int).toNat (rNd X 32 (rNd X 110 (rNd X 105 (rNd X 97 (rFa1 F)))))).1] = (zOne X (F 7) (F 8)).2.2 := k2
    rw [← k2]
    refine ⟨?_, ?_, ?_, ?_⟩
    · rw [upR_ne _ _ (by omega), hc4.1]; rfl
    · rw [upR_eq]; rfl
    · rw [upR_ne _ _ (by omega), hc4.2.2.1]; rfl
    · rw [upR_ne _ _ (by omega), hc4.2.2.2]; rfl
  · have k1 := key.2.1 hq
    exact ⟨k1.1, by rw [k1.1]; omega⟩
theorem rCm_5 (hP : zPF F X) (h9 : F 9 = -1) (hf : rSg F X = 99) (hm0 : 0 ≤ F 13) (hm : F 13 ≤ 60) (hP' : zPF (rNd X 114 (rNd X 97 (rNd X 101 (rNd X 108 (rFa1 F))))) X) : rCm X F C (rNd X 114 (rNd X 97 (rNd X 101 (rNd X 108 (rFa1 F))))) (rC4 (F 13) 99 C) := by
  have hlt := rSg_lt (F := F) (X := X) (by omega)
  have hx : X (F 8) = 99 := by rw [← rSg_is (X := X) hlt]; exact hf
  obtain ⟨a, b, c9, e, f, g, h⟩ := id hP
  have hk : zFst X (F 7) (F 8) = 5 := by unfold zFst zLet8; rw [if_pos hlt, hx]; rfl
  have e1 : zOne X (F 7) (F 8) = zPat X (F 7) [108, 101, 97, 114] (F 8 + 1) [] := zOne_is hk (by decide) (c := 99) (cs := [108, 101, 97, 114]) rfl (by decide) (by decide) hlt hx
  have b7 : rFa1 F 7 = F 7 := by unfold rFa1; rw [upR_ne _ _ (by omega), upR_ne _ _ (by omega)]
  have b8 : rFa1 F 8 = F 8 + 1 := by unfold rFa1; rw [upR_eq]
  have b9 : rFa1 F 9 = -1 := by unfold rFa1; rw [upR_ne _ _ (by omega), upR_ne _ _ (by omega)]; exact h9
  have b13 : rFa1 F 13 = F 13 + 1 := by unfold rFa1; rw [upR_ne _ _ (by omega), upR_eq]
  have bj : ∀ j, ¬ j = 8 → ¬ j = 13 → rFa1 F j = F j := fun j h1 h2 => by unfold rFa1; rw [upR_ne _ _ h1, upR_ne _ _ h2]
  have hP0 : zPF (rFa1 F) X := by
    unfold zPF
    rw [b7, b8, b9]
    exact ⟨by omega, by omega, by omega, by omega, by omega, by omega, h⟩
  have key := rPt_ok X [108, 101, 97, 114] (rFa1 F) [] hP0 b9
  have er : rPt X [108, 101, 97, 114] (rFa1 F) [] = ((rNd X 114 (rNd X 97 (rNd X 101 (rNd X 108 (rFa1 F))))), []) := rfl
  rw [er, b7, b8, ← e1] at key
  dsimp only at key
  have hle := (zPat_le X (F 7) [108, 101, 97, 114] (F 8 + 1) []).2 (by omega)
  rw [← e1] at hle
  have hc4 := rC4_at (C := C) (m := F 13) (v := 99)
  have hj : ∀ j, ¬ j = 8 → ¬ j = 9 → (rNd X 114 (rNd X 97 (rNd X 101 (rNd X 108 (rFa1 F))))) j = rFa1 F j := by
    intro j h1 h2
    cases hq : (zOne X (F 7) (F 8)).1 with
    | true => rw [(key.1 hq).1, upR_ne _ _ h1]
    | false => exact (key.2.1 hq).2 j h1 h2
  refine ⟨hP', by rw [hj 13 (by omega) (by omega), b13], fun j h1 h2 h3 => by rw [hj j h1 h2, bj j h1 h3], fun j h1 => ?_, fun hq => ?_, fun hq => ?_⟩
  · rw [rC4_ne h1]
  · obtain ⟨k1, k2⟩ := key.1 hq
    refine ⟨by rw [k1, upR_ne _ _ (by omega)]; exact b9, by rw [k1, upR_eq], by rw [k1, upR_eq]; omega, by rw [k1, upR_eq]; exact hle, ?_⟩
    rw [hk]
    have k2 : [] = (zOne X (F 7) (F 8)).2.2 := k2
    rw [← k2]
    refine ⟨?_, ?_, ?_, ?_⟩
    · rw [hc4.1]; rfl
    · rw [hc4.2.1]; rfl
    · rw [hc4.2.2.1]; rfl
    · rw [hc4.2.2.2]; rfl
  · have k1 := key.2.1 hq
    exact ⟨k1.1, by rw [k1.1]; omega⟩
theorem rCm_6 (hP : zPF F X) (h9 : F 9 = -1) (hf : rSg F X = 112) (hm0 : 0 ≤ F 13) (hm : F 13 ≤ 60) (hP' : zPF (rDg X (2 : Int).toNat (rNd X 32 (rDg X (1 : Int).toNat (rNd X 32 (rNd X 114 (rNd X 117 (rNd X 111 (rFa1 F)))))).2)).2 X) : rCm X F C (rDg X (2 : Int).toNat (rNd X 32 (rDg X (1 : Int).toNat (rNd X 32 (rNd X 114 (rNd X 117 (rNd X 111 (rFa1 F)))))).2)).2 (upR (upR (rC4 (F 13) 112 C) (4 * F 13 + 1) (rDg X (1 : Int).toNat (rNd X 32 (rNd X 114 (rNd X 117 (rNd X 111 (rFa1 F)))))).1) (4 * F 13 + 2) (rDg X (2 : Int).toNat (rNd X 32 (rDg X (1 : Int).toNat (rNd X 32 (rNd X 114 (rNd X 117 (rNd X 111 (rFa1 F)))))).2)).1) := by
  have hlt := rSg_lt (F := F) (X := X) (by omega)
  have hx : X (F 8) = 112 := by rw [← rSg_is (X := X) hlt]; exact hf
  obtain ⟨a, b, c9, e, f, g, h⟩ := id hP
  have hk : zFst X (F 7) (F 8) = 6 := by unfold zFst zLet8; rw [if_pos hlt, hx]; rfl
  have e1 : zOne X (F 7) (F 8) = zPat X (F 7) [111, 117, 114, 32, 68, 32, 78] (F 8 + 1) [] := zOne_is hk (by decide) (c := 112) (cs := [111, 117, 114, 32, 68, 32, 78]) rfl (by decide) (by decide) hlt hx
  have b7 : rFa1 F 7 = F 7 := by unfold rFa1; rw [upR_ne _ _ (by omega), upR_ne _ _ (by omega)]
  have b8 : rFa1 F 8 = F 8 + 1 := by unfold rFa1; rw [upR_eq]
  have b9 : rFa1 F 9 = -1 := by unfold rFa1; rw [upR_ne _ _ (by omega), upR_ne _ _ (by omega)]; exact h9
  have b13 : rFa1 F 13 = F 13 + 1 := by unfold rFa1; rw [upR_ne _ _ (by omega), upR_eq]
  have bj : ∀ j, ¬ j = 8 → ¬ j = 13 → rFa1 F j = F j := fun j h1 h2 => by unfold rFa1; rw [upR_ne _ _ h1, upR_ne _ _ h2]
  have hP0 : zPF (rFa1 F) X := by
    unfold zPF
    rw [b7, b8, b9]
    exact ⟨by omega, by omega, by omega, by omega, by omega, by omega, h⟩
  have key := rPt_ok X [111, 117, 114, 32, 68, 32, 78] (rFa1 F) [] hP0 b9
  have er : rPt X [111, 117, 114, 32, 68, 32, 78] (rFa1 F) [] = ((rDg X (2 : Int).toNat (rNd X 32 (rDg X (1 : Int).toNat (rNd X 32 (rNd X 114 (rNd X 117 (rNd X 111 (rFa1 F)))))).2)).2, [(rDg X (1 : Int).toNat (rNd X 32 (rNd X 114 (rNd X 117 (rNd X 111 (rFa1 F)))))).1, (rDg X (2 : Int).toNat (rNd X 32 (rDg X (1 : Int).toNat (rNd X 32 (rNd X 114 (rNd X 117 (rNd X 111 (rFa1 F)))))).2)).1]) := rfl
  rw [er, b7, b8, ← e1] at key
  dsimp only at key
  have hle := (zPat_le X (F 7) [111, 117, 114, 32, 68, 32, 78] (F 8 + 1) []).2 (by omega)
  rw [← e1] at hle
  have hc4 := rC4_at (C := C) (m := F 13) (v := 112)
  have hj : ∀ j, ¬ j = 8 → ¬ j = 9 → (rDg X (2 : Int).toNat (rNd X 32 (rDg X (1 : Int).toNat (rNd X 32 (rNd X 114 (rNd X 117 (rNd X 111 (rFa1 F)))))).2)).2 j = rFa1 F j := by
    intro j h1 h2
    cases hq : (zOne X (F 7) (F 8)).1 with
    | true => rw [(key.1 hq).1, upR_ne _ _ h1]
    | false => exact (key.2.1 hq).2 j h1 h2
  refine ⟨hP', by rw [hj 13 (by omega) (by omega), b13], fun j h1 h2 h3 => by rw [hj j h1 h2, bj j h1 h3], fun j h1 => ?_, fun hq => ?_, fun hq => ?_⟩
  · rw [upR_ne _ _ (by omega), upR_ne _ _ (by omega), rC4_ne h1]
  · obtain ⟨k1, k2⟩ := key.1 hq
    refine ⟨by rw [k1, upR_ne _ _ (by omega)]; exact b9, by rw [k1, upR_eq], by rw [k1, upR_eq]; omega, by rw [k1, upR_eq]; exact hle, ?_⟩
    rw [hk]
    have k2 : [(rDg X (1 : Int).toNat (rNd X 32 (rNd X 114 (rNd X 117 (rNd X 111 (rFa1 F)))))).1, (rDg X (2 : Int).toNat (rNd X 32 (rDg X (1 : Int).toNat (rNd X 32 (rNd X 114 (rNd X 117 (rNd X 111 (rFa1 F)))))).2)).1] = (zOne X (F 7) (F 8)).2.2 := k2
    rw [← k2]
    refine ⟨?_, ?_, ?_, ?_⟩
    · rw [upR_ne _ _ (by omega), upR_ne _ _ (by omega), hc4.1]; rfl
    · rw [upR_ne _ _ (by omega), upR_eq]; rfl
    · rw [upR_eq]; rfl
    · rw [upR_ne _ _ (by omega), upR_ne _ _ (by omega), hc4.2.2.2]; rfl
  · have k1 := key.2.1 hq
    exact ⟨k1.1, by rw [k1.1]; omega⟩
theorem rCm_7 (hP : zPF F X) (h9 : F 9 = -1) (hf : rSg F X = 115) (hm0 : 0 ≤ F 13) (hm : F 13 ≤ 60) (hP' : zPF (rDg X (2 : Int).toNat (rNd X 32 (rNd X 112 (rNd X 101 (rNd X 116 (rFa1 F)))))).2 X) : rCm X F C (rDg X (2 : Int).toNat (rNd X 32 (rNd X 112 (rNd X 101 (rNd X 116 (rFa1 F)))))).2 (upR (rC4 (F 13) 115 C) (4 * F 13 + 1) (rDg X (2 : Int).toNat (rNd X 32 (rNd X 112 (rNd X 101 (rNd X 116 (rFa1 F)))))).1) := by
  have hlt := rSg_lt (F := F) (X := X) (by omega)
  have hx : X (F 8) = 115 := by rw [← rSg_is (X := X) hlt]; exact hf
  obtain ⟨a, b, c9, e, f, g, h⟩ := id hP
  have hk : zFst X (F 7) (F 8) = 7 := by unfold zFst zLet8; rw [if_pos hlt, hx]; rfl
  have e1 : zOne X (F 7) (F 8) = zPat X (F 7) [116, 101, 112, 32, 78] (F 8 + 1) [] := zOne_is hk (by decide) (c := 115) (cs := [116, 101, 112, 32, 78]) rfl (by decide) (by decide) hlt hx
  have b7 : rFa1 F 7 = F 7 := by unfold rFa1; rw [upR_ne _ _ (by omega), upR_ne _ _ (by omega)]
  have b8 : rFa1 F 8 = F 8 + 1 := by unfold rFa1; rw [upR_eq]
  have b9 : rFa1 F 9 = -1 := by unfold rFa1; rw [upR_ne _ _ (by omega), upR_ne _ _ (by omega)]; exact h9
  have b13 : rFa1 F 13 = F 13 + 1 := by unfold rFa1; rw [upR_ne _ _ (by omega), upR_eq]
  have bj : ∀ j, ¬ j = 8 → ¬ j = 13 → rFa1 F j = F j := fun j h1 h2 => by unfold rFa1; rw [upR_ne _ _ h1, upR_ne _ _ h2]
  have hP0 : zPF (rFa1 F) X := by
    unfold zPF
    rw [b7, b8, b9]
    exact ⟨by omega, by omega, by omega, by omega, by omega, by omega, h⟩
  have key := rPt_ok X [116, 101, 112, 32, 78] (rFa1 F) [] hP0 b9
  have er : rPt X [116, 101, 112, 32, 78] (rFa1 F) [] = ((rDg X (2 : Int).toNat (rNd X 32 (rNd X 112 (rNd X 101 (rNd X 116 (rFa1 F)))))).2, [(rDg X (2 : Int).toNat (rNd X 32 (rNd X 112 (rNd X 101 (rNd X 116 (rFa1 F)))))).1]) := rfl
  rw [er, b7, b8, ← e1] at key
  dsimp only at key
  have hle := (zPat_le X (F 7) [116, 101, 112, 32, 78] (F 8 + 1) []).2 (by omega)
  rw [← e1] at hle
  have hc4 := rC4_at (C := C) (m := F 13) (v := 115)
  have hj : ∀ j, ¬ j = 8 → ¬ j = 9 → (rDg X (2 : Int).toNat (rNd X 32 (rNd X 112 (rNd X 101 (rNd X 116 (rFa1 F)))))).2 j = rFa1 F j := by
    intro j h1 h2
    cases hq : (zOne X (F 7) (F 8)).1 with
    | true => rw [(key.1 hq).1, upR_ne _ _ h1]
    | false => exact (key.2.1 hq).2 j h1 h2
  refine ⟨hP', by rw [hj 13 (by omega) (by omega), b13], fun j h1 h2 h3 => by rw [hj j h1 h2, bj j h1 h3], fun j h1 => ?_, fun hq => ?_, fun hq => ?_⟩
  · rw [upR_ne _ _ (by omega), rC4_ne h1]
  · obtain ⟨k1, k2⟩ := key.1 hq
    refine ⟨by rw [k1, upR_ne _ _ (by omega)]; exact b9, by rw [k1, upR_eq], by rw [k1, upR_eq]; omega, by rw [k1, upR_eq]; exact hle, ?_⟩
    rw [hk]
    have k2 : [(rDg X (2 : Int).toNat (rNd X 32 (rNd X 112 (rNd X 101 (rNd X 116 (rFa1 F)))))).1] = (zOne X (F 7) (F 8)).2.2 := k2
    rw [← k2]
    refine ⟨?_, ?_, ?_, ?_⟩
    · rw [upR_ne _ _ (by omega), hc4.1]; rfl
    · rw [upR_eq]; rfl
    · rw [upR_ne _ _ (by omega), hc4.2.2.1]; rfl
    · rw [upR_ne _ _ (by omega), hc4.2.2.2]; rfl
  · have k1 := key.2.1 hq
    exact ⟨k1.1, by rw [k1.1]; omega⟩
theorem c_X11_command (hX : T.1 144 = X) (hP : zPF F X) (h9 : F 9 = -1) (hp8 : F 8 ≤ F 7) (hm0 : 0 ≤ F 13) (hm : F 13 ≤ 60) (hd : 5 ≤ d) : ∃ F' C', rCm X F C F' C' ∧ mv_cl L xs d k_X11_command [.ref 142] (t, 149, mz (sD (sD T 142 F) 145 C)) = some (.inl none, (t, 149, mz (sD (sD T 142 F') 145 C'))) := by
  have hs := rSg_bd hP
  by_cases l0 : rSg F X = 98
  · obtain ⟨h1, h2⟩ := c_X11_command_98 (L := L) (xs := xs) (t := t) (d := d) (C := C) hX hP l0 hm0 hm hd
    exact ⟨_, _, rCm_0 hP h9 l0 hm0 hm h2, h1⟩
  by_cases l1 : rSg F X = 103
  · obtain ⟨h1, h2⟩ := c_X11_command_103 (L := L) (xs := xs) (t := t) (d := d) (C := C) hX hP l1 hm0 hm hd
    exact ⟨_, _, rCm_1 hP h9 l1 hm0 hm h2, h1⟩
  by_cases l2 : rSg F X = 97
  · obtain ⟨h1, h2⟩ := c_X11_command_97 (L := L) (xs := xs) (t := t) (d := d) (C := C) hX hP l2 hm0 hm hd
    exact ⟨_, _, rCm_2 hP h9 l2 hm0 hm h2, h1⟩
  by_cases l3 : rSg F X = 104
  · obtain ⟨h1, h2⟩ := c_X11_command_104 (L := L) (xs := xs) (t := t) (d := d) (C := C) hX hP l3 hm0 hm hd
    exact ⟨_, _, rCm_3 hP h9 l3 hm0 hm h2, h1⟩
  by_cases l4 : rSg F X = 114
  · obtain ⟨h1, h2⟩ := c_X11_command_114 (L := L) (xs := xs) (t := t) (d := d) (C := C) hX hP l4 hm0 hm hd
    exact ⟨_, _, rCm_4 hP h9 l4 hm0 hm h2, h1⟩
  by_cases l5 : rSg F X = 99
  · obtain ⟨h1, h2⟩ := c_X11_command_99 (L := L) (xs := xs) (t := t) (d := d) (C := C) hX hP l5 hm0 hm hd
    exact ⟨_, _, rCm_5 hP h9 l5 hm0 hm h2, h1⟩
  by_cases l6 : rSg F X = 112
  · obtain ⟨h1, h2⟩ := c_X11_command_112 (L := L) (xs := xs) (t := t) (d := d) (C := C) hX hP l6 hm0 hm hd
    exact ⟨_, _, rCm_6 hP h9 l6 hm0 hm h2, h1⟩
  by_cases l7 : rSg F X = 115
  · obtain ⟨h1, h2⟩ := c_X11_command_115 (L := L) (xs := xs) (t := t) (d := d) (C := C) hX hP l7 hm0 hm hd
    exact ⟨_, _, rCm_7 hP h9 l7 hm0 hm h2, h1⟩
  obtain ⟨a, b, c9, e, f, g, h⟩ := id hP
  have hz : zFst X (F 7) (F 8) = 8 := by
    unfold zFst
    split
    · next hlt =>
      rw [rSg_is hlt] at l0 l1 l2 l3 l4 l5 l6 l7
      unfold zLet8
      rw [if_neg l0, if_neg l1, if_neg l2, if_neg l3, if_neg l4, if_neg l5, if_neg l6, if_neg l7]
    · rfl
  have hz1 : zOne X (F 7) (F 8) = (false, F 8, []) := by unfold zOne; rw [if_pos hz]
  have hw := fun Y => c_X11_isWord_no (L := L) (xs := xs) (t := t) (d := d - 1) (T := sD T 145 Y) (F := rFa1 F) (v := rSg F X) (by omega) hs.1 hs.2 ⟨l0, l1, l2, l3, l4, l5, l6, l7⟩
  have hP0 : zPF (upR F 13 (F 13 + 1)) X := by unfold zPF; rw [upR_ne _ _ (by omega), upR_ne _ _ (by omega), upR_ne _ _ (by omega)]; exact hP
  have hs0 : rSg (upR F 13 (F 13 + 1)) X = rSg F X := by unfold rSg; rw [upR_ne _ _ (by omega), upR_ne _ _ (by omega)]
  have s1 := fun Y => c_X11_sign (L := L) (xs := xs) (t := t) (d := d - 1) (T := sD T 145 Y) (by rw [sD_ne T Y (by decide)]; exact hX) hP0 (by omega)
  rw [hs0] at s1
  simp only [rFa1, sD_comm T (o := 145) (p := 142) _ _ (by decide)] at s1 hw
  have e8 : upR F 13 (F 13 + 1) 8 = F 8 := upR_ne _ _ (by omega)
  refine ⟨upR (upR (upR (upR F 13 (F 13 + 1)) 8 (F 8 + 1)) 8 (F 8)) 9 (F 8), rC4 (F 13) (rSg F X) C, ⟨?_, ?_, ?_, ?_, ?_, ?_⟩, ?_⟩
  · refine zPF_9 (zPF_8 (zPF_8 ?_ ?_ ?_) ?_ ?_) ?_ ?_ <;> try omega

  · rw [upR_ne _ _ (by omega), upR_ne _ _ (by omega), upR_ne _ _ (by omega), upR_eq]
  · intro j h1 h2 h3
    rw [upR_ne _ _ h2, upR_ne _ _ h1, upR_ne _ _ h1, upR_ne _ _ h3]
  · intro j h1
    exact rC4_ne h1
  · intro hq; rw [hz1] at hq; cases hq
  · intro hq; rw [hz1]; exact ⟨by rw [upR_eq], by rw [upR_eq]; exact a⟩
  · obtain ⟨d, rfl⟩ : ∃ e, d = e + 1 := ⟨d - 1, by omega⟩
    apply mv_cl_of
    simp only [mv_il, Value.category, Nat.zero_add, Nat.reduceAdd]
    simp only [Nat.add_sub_cancel] at s1 hw
    simp (disch := omega) only [mv_Ev_row r_X11_command_0, mv_Ev_row r_X11_command_1, mv_Ev_row r_X11_command_2, mv_Ev_row r_X11_command_5, mv_Ev_row r_X11_command_6, mv_Ev_row r_X11_command_7, mv_Ev_row r_X11_command_8, mv_Ev_row r_X11_command_11, mv_Ev_row r_X11_command_12, mv_Ev_row r_X11_command_13, mv_Ev_row r_X11_command_14, mv_Ev_row r_X11_command_17, mv_Ev_row r_X11_command_18, mv_Ev_row r_X11_command_19, mv_Ev_row r_X11_command_22, mv_Ev_row r_X11_command_23, mv_Ev_row r_X11_command_26, mv_Ev_row r_X11_command_27, mv_Ev_row r_X11_command_28, mv_Ev_row r_X11_command_32, mv_Ev_row r_X11_command_33, mv_Ev_row r_X11_command_36, mv_Ev_row r_X11_command_37, mv_Ev_row r_X11_command_40, mv_Ev_row r_X11_command_41, mv_Ev_row r_X11_command_43, mv_Ev_row r_X11_command_44, mv_Ev_row r_X11_command_45, mv_Ev_row r_X11_command_46, mv_Ev_row r_X11_command_49, mv_Ev_row r_X11_command_52, mv_Ev_row r_X11_command_53, mv_Ev_row r_X11_command_56, mv_Ev_row r_X11_command_57, mv_Ev_row r_X11_command_58, mv_Ev_row r_X11_command_59, mv_Ev_row r_X11_command_60, mv_Ev_row r_X11_command_61, mv_Ev_row r_X11_command_64, mv_Ev_row r_X11_command_65, mv_Ev_row r_X11_command_66, mv_Ev_row r_X11_command_69, mv_Ev_row r_X11_command_70, mv_Ev_row r_X11_command_71, mv_Ev_row r_X11_command_74, mv_Ev_row r_X11_command_77, mv_Ev_row r_X11_command_78, mv_Ev_row r_X11_command_79, mv_Ev_row r_X11_command_82, mv_Ev_row r_X11_command_83, mv_Ev_row r_X11_command_84, mv_Ev_row r_X11_command_87, mv_Ev_row r_X11_command_88, mv_Ev_row r_X11_command_89, mv_Ev_row r_X11_command_180, mv_Ev_row r_X11_command_181, mv_Ev_row r_X11_command_184, mv_Ev_row r_X11_command_185, mv_Ev_row r_X11_command_186, mv_Ev_row r_X11_command_187, mv_Ev_row r_X11_command_188, mv_Ev_row r_X11_command_189, mv_Ev_row r_X11_command_192, mv_Ev_row r_X11_command_193, mv_Ev_row r_X11_command_194, mv_Ev_row r_X11_command_197, mv_Ev_row r_X11_command_198, mv_Ev_row r_X11_command_199, mv_Ev_row r_X11_command_200, mv_Ev_row r_X11_command_201, mv_Ev_row r_X11_command_202, mv_Ev_row r_X11_command_205, mv_Ev_row r_X11_command_206, mv_Ev_row r_X11_command_207, mv_Ev_row r_X11_command_210, mv_Ev_row r_X11_command_211, mv_Ev_row r_X11_command_212, mv_Ev_row r_X11_command_213, mv_Ev_row r_X11_command_214, mv_Ev_row r_X11_command_215, mv_Ev_row r_X11_command_218, mv_Ev_row r_X11_command_219, mv_Ev_row r_X11_command_222, mv_Ev_row r_X11_command_223, mv_Ev_row r_X11_command_226, mv_Ev_row r_X11_command_227, mv_Ev_row r_X11_command_228, mv_Ev_row r_X11_command_229, mv_Ev_row r_X11_command_230, mv_Ev_row r_X11_command_231, mv_Ev_row r_X11_command_234, mv_Ev_row r_X11_command_235, mv_Ev_row r_X11_command_236, mv_Ev_row r_X11_command_239, mv_Ev_row r_X11_command_240, mv_Ev_row r_X11_command_241, mv_Ev_row r_X11_command_242, mv_Ev_row r_X11_command_243, mv_Ev_row r_X11_command_244, mv_Ev_row r_X11_command_247, mv_Ev_row r_X11_command_248, mv_Ev_row r_X11_command_251, mv_Ev_row r_X11_command_252, mv_Ev_row r_X11_command_255, mv_Ev_row r_X11_command_256, mv_Ev_row r_X11_command_257, mv_Ev_row r_X11_command_258, mv_Ev_row r_X11_command_259, mv_Ev_row r_X11_command_260, mv_Ev_row r_X11_command_263, mv_Ev_row r_X11_command_264, mv_Ev_row r_X11_command_265, mv_Ev_row r_X11_command_268, mv_Ev_row r_X11_command_269, mv_Ev_row r_X11_command_270, mv_Ev_row r_X11_command_271, mv_Ev_row r_X11_command_272, mv_Ev_row r_X11_command_273, mv_Ev_row r_X11_command_276, mv_Ev_row r_X11_command_277, mv_Ev_row r_X11_command_280, mv_Ev_row r_X11_command_281, mv_Ev_row r_X11_command_284, mv_Ev_row r_X11_command_285, mv_Ev_row r_X11_command_286, mv_Ev_row r_X11_command_287, mv_Ev_row r_X11_command_288, mv_Ev_row r_X11_command_289, mv_Ev_row r_X11_command_292, mv_Ev_row r_X11_command_293, mv_Ev_row r_X11_command_296, mv_Ev_row r_X11_command_297, mv_Ev_row r_X11_command_300, mv_Ev_row r_X11_command_301, mv_Ev_row r_X11_command_302, mv_Ev_row r_X11_command_303, mv_Ev_row r_X11_command_304, mv_Ev_row r_X11_command_305, mv_Ev_row r_X11_command_308, mv_Ev_row r_X11_command_309, mv_Ev_row r_X11_command_312, ea_iconst, ea_aload_n, gg_8_13, ea_imul, ea_istore_n, gg_8_8, ea_dup_i, ea_dup_r, ea_iadd, pp_8_13, kv_X11_sign, ea_istore, ea_iload, ea_icmp, gg_8_12, ea_iload_n, ea_iinc, eb_inc, ea_goto, pp_8_8, kv_X11_isWord, ea_ifc, pp_8_9, ea_vret, kv_X11_number, ar_st0 ai_145, cz_eq, cz_ne, cz_lt, cz_ge, cz_gt, cz_le, c0_eq, c0_ne, c0_lt, c0_ge, c0_gt, c0_le, mv_ac, decide_eq_true_eq, not_true_eq_false, and_self, and_true, true_and, ea_2n, ea_2f, ea_2c, ea_if, if_pos, if_neg, mv_lk, mv_f1, mv_f2, Value.category, List.filter, ↓reduceIte, Nat.reduceEqDiff, Nat.reduceAdd, Nat.reduceLT, Nat.reduceBEq, Nat.zero_add, Nat.add_zero, Nat.zero_ne_one, Nat.one_ne_zero, Bool.not_true, Bool.not_false, Bool.and_true, Bool.true_and, Bool.and_false, Bool.false_and, BEq.rfl, beq_self_eq_true, Bool.false_eq_true, reduceCtorEq, not_false_eq_true, fv0, fv1, fv2, fv3, eb_l0, eb_l1, eb_l2, eb_l3, eb_l4, eb_l5, eb_s0, eb_s1, eb_s2, eb_s3, eb_s4, eb_s5, oz_add, oz_sub, oz_mul, oz_neg, ol_add, ol_sub, sD_eq, sD_sD, sD_ne, sD_in, sD_in2, sD_in3, upR_is, upR_ne, mk_v, mk_n, mk_x, mk_i, mv_cs, Nat.reduceLeDiff, mv_ch_z, nh_X11_command, s1, e8]
    rw [mv_Ev_row r_X11_command_30]
    simp (disch := omega) only [mv_Ev_row r_X11_command_0, mv_Ev_row r_X11_command_1, mv_Ev_row r_X11_command_2, mv_Ev_row r_X11_command_5, mv_Ev_row r_X11_command_6, mv_Ev_row r_X11_command_7, mv_Ev_row r_X11_command_8, mv_Ev_row r_X11_command_11, mv_Ev_row r_X11_command_12, mv_Ev_row r_X11_command_13, mv_Ev_row r_X11_command_14, mv_Ev_row r_X11_command_17, mv_Ev_row r_X11_command_18, mv_Ev_row r_X11_command_19, mv_Ev_row r_X11_command_22, mv_Ev_row r_X11_command_23, mv_Ev_row r_X11_command_26, mv_Ev_row r_X11_command_27, mv_Ev_row r_X11_command_28, mv_Ev_row r_X11_command_32, mv_Ev_row r_X11_command_33, mv_Ev_row r_X11_command_36, mv_Ev_row r_X11_command_37, mv_Ev_row r_X11_command_40, mv_Ev_row r_X11_command_41, mv_Ev_row r_X11_command_43, mv_Ev_row r_X11_command_44, mv_Ev_row r_X11_command_45, mv_Ev_row r_X11_command_46, mv_Ev_row r_X11_command_49, mv_Ev_row r_X11_command_52, mv_Ev_row r_X11_command_53, mv_Ev_row r_X11_command_56, mv_Ev_row r_X11_command_57, mv_Ev_row r_X11_command_58, mv_Ev_row r_X11_command_59, mv_Ev_row r_X11_command_60, mv_Ev_row r_X11_command_61, mv_Ev_row r_X11_command_64, mv_Ev_row r_X11_command_65, mv_Ev_row r_X11_command_66, mv_Ev_row r_X11_command_69, mv_Ev_row r_X11_command_70, mv_Ev_row r_X11_command_71, mv_Ev_row r_X11_command_74, mv_Ev_row r_X11_command_77, mv_Ev_row r_X11_command_78, mv_Ev_row r_X11_command_79, mv_Ev_row r_X11_command_82, mv_Ev_row r_X11_command_83, mv_Ev_row r_X11_command_84, mv_Ev_row r_X11_command_87, mv_Ev_row r_X11_command_88, mv_Ev_row r_X11_command_89, mv_Ev_row r_X11_command_180, mv_Ev_row r_X11_command_181, mv_Ev_row r_X11_command_184, mv_Ev_row r_X11_command_185, mv_Ev_row r_X11_command_186, mv_Ev_row r_X11_command_187, mv_Ev_row r_X11_command_188, mv_Ev_row r_X11_command_189, mv_Ev_row r_X11_command_192, mv_Ev_row r_X11_command_193, mv_Ev_row r_X11_command_194, mv_Ev_row r_X11_command_197, mv_Ev_row r_X11_command_198, mv_Ev_row r_X11_command_199, mv_Ev_row r_X11_command_200, mv_Ev_row r_X11_command_201, mv_Ev_row r_X11_command_202, mv_Ev_row r_X11_command_205, mv_Ev_row r_X11_command_206, mv_Ev_row r_X11_command_207, mv_Ev_row r_X11_command_210, mv_Ev_row r_X11_command_211, mv_Ev_row r_X11_command_212, mv_Ev_row r_X11_command_213, mv_Ev_row r_X11_command_214, mv_Ev_row r_X11_command_215, mv_Ev_row r_X11_command_218, mv_Ev_row r_X11_command_219, mv_Ev_row r_X11_command_222, mv_Ev_row r_X11_command_223, mv_Ev_row r_X11_command_226, mv_Ev_row r_X11_command_227, mv_Ev_row r_X11_command_228, mv_Ev_row r_X11_command_229, mv_Ev_row r_X11_command_230, mv_Ev_row r_X11_command_231, mv_Ev_row r_X11_command_234, mv_Ev_row r_X11_command_235, mv_Ev_row r_X11_command_236, mv_Ev_row r_X11_command_239, mv_Ev_row r_X11_command_240, mv_Ev_row r_X11_command_241, mv_Ev_row r_X11_command_242, mv_Ev_row r_X11_command_243, mv_Ev_row r_X11_command_244, mv_Ev_row r_X11_command_247, mv_Ev_row r_X11_command_248, mv_Ev_row r_X11_command_251, mv_Ev_row r_X11_command_252, mv_Ev_row r_X11_command_255, mv_Ev_row r_X11_command_256, mv_Ev_row r_X11_command_257, mv_Ev_row r_X11_command_258, mv_Ev_row r_X11_command_259, mv_Ev_row r_X11_command_260, mv_Ev_row r_X11_command_263, mv_Ev_row r_X11_command_264, mv_Ev_row r_X11_command_265, mv_Ev_row r_X11_command_268, mv_Ev_row r_X11_command_269, mv_Ev_row r_X11_command_270, mv_Ev_row r_X11_command_271, mv_Ev_row r_X11_command_272, mv_Ev_row r_X11_command_273, mv_Ev_row r_X11_command_276, mv_Ev_row r_X11_command_277, mv_Ev_row r_X11_command_280, mv_Ev_row r_X11_command_281, mv_Ev_row r_X11_command_284, mv_Ev_row r_X11_command_285, mv_Ev_row r_X11_command_286, mv_Ev_row r_X11_command_287, mv_Ev_row r_X11_command_288, mv_Ev_row r_X11_command_289, mv_Ev_row r_X11_command_292, mv_Ev_row r_X11_command_293, mv_Ev_row r_X11_command_296, mv_Ev_row r_X11_command_297, mv_Ev_row r_X11_command_300, mv_Ev_row r_X11_command_301, mv_Ev_row r_X11_command_302, mv_Ev_row r_X11_command_303, mv_Ev_row r_X11_command_304, mv_Ev_row r_X11_command_305, mv_Ev_row r_X11_command_308, mv_Ev_row r_X11_command_309, mv_Ev_row r_X11_command_312, ea_iconst, ea_aload_n, gg_8_13, ea_imul, ea_istore_n, gg_8_8, ea_dup_i, ea_dup_r, ea_iadd, pp_8_13, kv_X11_sign, ea_istore, ea_iload, ea_icmp, gg_8_12, ea_iload_n, ea_iinc, eb_inc, ea_goto, pp_8_8, kv_X11_isWord, ea_ifc, pp_8_9, ea_vret, kv_X11_number, ar_st0 ai_145, cz_eq, cz_ne, cz_lt, cz_ge, cz_gt, cz_le, c0_eq, c0_ne, c0_lt, c0_ge, c0_gt, c0_le, mv_ac, decide_eq_true_eq, not_true_eq_false, and_self, and_true, true_and, ea_2n, ea_2f, ea_2c, ea_if, if_pos, if_neg, mv_lk, mv_f1, mv_f2, Value.category, List.filter, ↓reduceIte, Nat.reduceEqDiff, Nat.reduceAdd, Nat.reduceLT, Nat.reduceBEq, Nat.zero_add, Nat.add_zero, Nat.zero_ne_one, Nat.one_ne_zero, Bool.not_true, Bool.not_false, Bool.and_true, Bool.true_and, Bool.and_false, Bool.false_and, BEq.rfl, beq_self_eq_true, Bool.false_eq_true, reduceCtorEq, not_false_eq_true, fv0, fv1, fv2, fv3, eb_l0, eb_l1, eb_l2, eb_l3, eb_l4, eb_l5, eb_s0, eb_s1, eb_s2, eb_s3, eb_s4, eb_s5, oz_add, oz_sub, oz_mul, oz_neg, ol_add, ol_sub, sD_eq, sD_sD, sD_ne, sD_in, sD_in2, sD_in3, upR_is, upR_ne, mk_v, mk_n, mk_x, mk_i, mv_cs, Nat.reduceLeDiff, mv_ch_z, nh_X11_command, s1, e8]
    rw [mv_Ev_row r_X11_command_30]
    simp (disch := omega) only [mv_Ev_row r_X11_command_0, mv_Ev_row r_X11_command_1, mv_Ev_row r_X11_command_2, mv_Ev_row r_X11_command_5, mv_Ev_row r_X11_command_6, mv_Ev_row r_X11_command_7, mv_Ev_row r_X11_command_8, mv_Ev_row r_X11_command_11, mv_Ev_row r_X11_command_12, mv_Ev_row r_X11_command_13, mv_Ev_row r_X11_command_14, mv_Ev_row r_X11_command_17, mv_Ev_row r_X11_command_18, mv_Ev_row r_X11_command_19, mv_Ev_row r_X11_command_22, mv_Ev_row r_X11_command_23, mv_Ev_row r_X11_command_26, mv_Ev_row r_X11_command_27, mv_Ev_row r_X11_command_28, mv_Ev_row r_X11_command_32, mv_Ev_row r_X11_command_33, mv_Ev_row r_X11_command_36, mv_Ev_row r_X11_command_37, mv_Ev_row r_X11_command_40, mv_Ev_row r_X11_command_41, mv_Ev_row r_X11_command_43, mv_Ev_row r_X11_command_44, mv_Ev_row r_X11_command_45, mv_Ev_row r_X11_command_46, mv_Ev_row r_X11_command_49, mv_Ev_row r_X11_command_52, mv_Ev_row r_X11_command_53, mv_Ev_row r_X11_command_56, mv_Ev_row r_X11_command_57, mv_Ev_row r_X11_command_58, mv_Ev_row r_X11_command_59, mv_Ev_row r_X11_command_60, mv_Ev_row r_X11_command_61, mv_Ev_row r_X11_command_64, mv_Ev_row r_X11_command_65, mv_Ev_row r_X11_command_66, mv_Ev_row r_X11_command_69, mv_Ev_row r_X11_command_70, mv_Ev_row r_X11_command_71, mv_Ev_row r_X11_command_74, mv_Ev_row r_X11_command_77, mv_Ev_row r_X11_command_78, mv_Ev_row r_X11_command_79, mv_Ev_row r_X11_command_82, mv_Ev_row r_X11_command_83, mv_Ev_row r_X11_command_84, mv_Ev_row r_X11_command_87, mv_Ev_row r_X11_command_88, mv_Ev_row r_X11_command_89, mv_Ev_row r_X11_command_180, mv_Ev_row r_X11_command_181, mv_Ev_row r_X11_command_184, mv_Ev_row r_X11_command_185, mv_Ev_row r_X11_command_186, mv_Ev_row r_X11_command_187, mv_Ev_row r_X11_command_188, mv_Ev_row r_X11_command_189, mv_Ev_row r_X11_command_192, mv_Ev_row r_X11_command_193, mv_Ev_row r_X11_command_194, mv_Ev_row r_X11_command_197, mv_Ev_row r_X11_command_198, mv_Ev_row r_X11_command_199, mv_Ev_row r_X11_command_200, mv_Ev_row r_X11_command_201, mv_Ev_row r_X11_command_202, mv_Ev_row r_X11_command_205, mv_Ev_row r_X11_command_206, mv_Ev_row r_X11_command_207, mv_Ev_row r_X11_command_210, mv_Ev_row r_X11_command_211, mv_Ev_row r_X11_command_212, mv_Ev_row r_X11_command_213, mv_Ev_row r_X11_command_214, mv_Ev_row r_X11_command_215, mv_Ev_row r_X11_command_218, mv_Ev_row r_X11_command_219, mv_Ev_row r_X11_command_222, mv_Ev_row r_X11_command_223, mv_Ev_row r_X11_command_226, mv_Ev_row r_X11_command_227, mv_Ev_row r_X11_command_228, mv_Ev_row r_X11_command_229, mv_Ev_row r_X11_command_230, mv_Ev_row r_X11_command_231, mv_Ev_row r_X11_command_234, mv_Ev_row r_X11_command_235, mv_Ev_row r_X11_command_236, mv_Ev_row r_X11_command_239, mv_Ev_row r_X11_command_240, mv_Ev_row r_X11_command_241, mv_Ev_row r_X11_command_242, mv_Ev_row r_X11_command_243, mv_Ev_row r_X11_command_244, mv_Ev_row r_X11_command_247, mv_Ev_row r_X11_command_248, mv_Ev_row r_X11_command_251, mv_Ev_row r_X11_command_252, mv_Ev_row r_X11_command_255, mv_Ev_row r_X11_command_256, mv_Ev_row r_X11_command_257, mv_Ev_row r_X11_command_258, mv_Ev_row r_X11_command_259, mv_Ev_row r_X11_command_260, mv_Ev_row r_X11_command_263, mv_Ev_row r_X11_command_264, mv_Ev_row r_X11_command_265, mv_Ev_row r_X11_command_268, mv_Ev_row r_X11_command_269, mv_Ev_row r_X11_command_270, mv_Ev_row r_X11_command_271, mv_Ev_row r_X11_command_272, mv_Ev_row r_X11_command_273, mv_Ev_row r_X11_command_276, mv_Ev_row r_X11_command_277, mv_Ev_row r_X11_command_280, mv_Ev_row r_X11_command_281, mv_Ev_row r_X11_command_284, mv_Ev_row r_X11_command_285, mv_Ev_row r_X11_command_286, mv_Ev_row r_X11_command_287, mv_Ev_row r_X11_command_288, mv_Ev_row r_X11_command_289, mv_Ev_row r_X11_command_292, mv_Ev_row r_X11_command_293, mv_Ev_row r_X11_command_296, mv_Ev_row r_X11_command_297, mv_Ev_row r_X11_command_300, mv_Ev_row r_X11_command_301, mv_Ev_row r_X11_command_302, mv_Ev_row r_X11_command_303, mv_Ev_row r_X11_command_304, mv_Ev_row r_X11_command_305, mv_Ev_row r_X11_command_308, mv_Ev_row r_X11_command_309, mv_Ev_row r_X11_command_312, ea_iconst, ea_aload_n, gg_8_13, ea_imul, ea_istore_n, gg_8_8, ea_dup_i, ea_dup_r, ea_iadd, pp_8_13, kv_X11_sign, ea_istore, ea_iload, ea_icmp, gg_8_12, ea_iload_n, ea_iinc, eb_inc, ea_goto, pp_8_8, kv_X11_isWord, ea_ifc, pp_8_9, ea_vret, kv_X11_number, ar_st0 ai_145, cz_eq, cz_ne, cz_lt, cz_ge, cz_gt, cz_le, c0_eq, c0_ne, c0_lt, c0_ge, c0_gt, c0_le, mv_ac, decide_eq_true_eq, not_true_eq_false, and_self, and_true, true_and, ea_2n, ea_2f, ea_2c, ea_if, if_pos, if_neg, mv_lk, mv_f1, mv_f2, Value.category, List.filter, ↓reduceIte, Nat.reduceEqDiff, Nat.reduceAdd, Nat.reduceLT, Nat.reduceBEq, Nat.zero_add, Nat.add_zero, Nat.zero_ne_one, Nat.one_ne_zero, Bool.not_true, Bool.not_false, Bool.and_true, Bool.true_and, Bool.and_false, Bool.false_and, BEq.rfl, beq_self_eq_true, Bool.false_eq_true, reduceCtorEq, not_false_eq_true, fv0, fv1, fv2, fv3, eb_l0, eb_l1, eb_l2, eb_l3, eb_l4, eb_l5, eb_s0, eb_s1, eb_s2, eb_s3, eb_s4, eb_s5, oz_add, oz_sub, oz_mul, oz_neg, ol_add, ol_sub, sD_eq, sD_sD, sD_ne, sD_in, sD_in2, sD_in3, upR_is, upR_ne, mk_v, mk_n, mk_x, mk_i, mv_cs, Nat.reduceLeDiff, mv_ch_z, nh_X11_command, s1, e8]
    rw [mv_Ev_row r_X11_command_30]
    simp (disch := omega) only [mv_Ev_row r_X11_command_0, mv_Ev_row r_X11_command_1, mv_Ev_row r_X11_command_2, mv_Ev_row r_X11_command_5, mv_Ev_row r_X11_command_6, mv_Ev_row r_X11_command_7, mv_Ev_row r_X11_command_8, mv_Ev_row r_X11_command_11, mv_Ev_row r_X11_command_12, mv_Ev_row r_X11_command_13, mv_Ev_row r_X11_command_14, mv_Ev_row r_X11_command_17, mv_Ev_row r_X11_command_18, mv_Ev_row r_X11_command_19, mv_Ev_row r_X11_command_22, mv_Ev_row r_X11_command_23, mv_Ev_row r_X11_command_26, mv_Ev_row r_X11_command_27, mv_Ev_row r_X11_command_28, mv_Ev_row r_X11_command_32, mv_Ev_row r_X11_command_33, mv_Ev_row r_X11_command_36, mv_Ev_row r_X11_command_37, mv_Ev_row r_X11_command_40, mv_Ev_row r_X11_command_41, mv_Ev_row r_X11_command_43, mv_Ev_row r_X11_command_44, mv_Ev_row r_X11_command_45, mv_Ev_row r_X11_command_46, mv_Ev_row r_X11_command_49, mv_Ev_row r_X11_command_52, mv_Ev_row r_X11_command_53, mv_Ev_row r_X11_command_56, mv_Ev_row r_X11_command_57, mv_Ev_row r_X11_command_58, mv_Ev_row r_X11_command_59, mv_Ev_row r_X11_command_60, mv_Ev_row r_X11_command_61, mv_Ev_row r_X11_command_64, mv_Ev_row r_X11_command_65, mv_Ev_row r_X11_command_66, mv_Ev_row r_X11_command_69, mv_Ev_row r_X11_command_70, mv_Ev_row r_X11_command_71, mv_Ev_row r_X11_command_74, mv_Ev_row r_X11_command_77, mv_Ev_row r_X11_command_78, mv_Ev_row r_X11_command_79, mv_Ev_row r_X11_command_82, mv_Ev_row r_X11_command_83, mv_Ev_row r_X11_command_84, mv_Ev_row r_X11_command_87, mv_Ev_row r_X11_command_88, mv_Ev_row r_X11_command_89, mv_Ev_row r_X11_command_180, mv_Ev_row r_X11_command_181, mv_Ev_row r_X11_command_184, mv_Ev_row r_X11_command_185, mv_Ev_row r_X11_command_186, mv_Ev_row r_X11_command_187, mv_Ev_row r_X11_command_188, mv_Ev_row r_X11_command_189, mv_Ev_row r_X11_command_192, mv_Ev_row r_X11_command_193, mv_Ev_row r_X11_command_194, mv_Ev_row r_X11_command_197, mv_Ev_row r_X11_command_198, mv_Ev_row r_X11_command_199, mv_Ev_row r_X11_command_200, mv_Ev_row r_X11_command_201, mv_Ev_row r_X11_command_202, mv_Ev_row r_X11_command_205, mv_Ev_row r_X11_command_206, mv_Ev_row r_X11_command_207, mv_Ev_row r_X11_command_210, mv_Ev_row r_X11_command_211, mv_Ev_row r_X11_command_212, mv_Ev_row r_X11_command_213, mv_Ev_row r_X11_command_214, mv_Ev_row r_X11_command_215, mv_Ev_row r_X11_command_218, mv_Ev_row r_X11_command_219, mv_Ev_row r_X11_command_222, mv_Ev_row r_X11_command_223, mv_Ev_row r_X11_command_226, mv_Ev_row r_X11_command_227, mv_Ev_row r_X11_command_228, mv_Ev_row r_X11_command_229, mv_Ev_row r_X11_command_230, mv_Ev_row r_X11_command_231, mv_Ev_row r_X11_command_234, mv_Ev_row r_X11_command_235, mv_Ev_row r_X11_command_236, mv_Ev_row r_X11_command_239, mv_Ev_row r_X11_command_240, mv_Ev_row r_X11_command_241, mv_Ev_row r_X11_command_242, mv_Ev_row r_X11_command_243, mv_Ev_row r_X11_command_244, mv_Ev_row r_X11_command_247, mv_Ev_row r_X11_command_248, mv_Ev_row r_X11_command_251, mv_Ev_row r_X11_command_252, mv_Ev_row r_X11_command_255, mv_Ev_row r_X11_command_256, mv_Ev_row r_X11_command_257, mv_Ev_row r_X11_command_258, mv_Ev_row r_X11_command_259, mv_Ev_row r_X11_command_260, mv_Ev_row r_X11_command_263, mv_Ev_row r_X11_command_264, mv_Ev_row r_X11_command_265, mv_Ev_row r_X11_command_268, mv_Ev_row r_X11_command_269, mv_Ev_row r_X11_command_270, mv_Ev_row r_X11_command_271, mv_Ev_row r_X11_command_272, mv_Ev_row r_X11_command_273, mv_Ev_row r_X11_command_276, mv_Ev_row r_X11_command_277, mv_Ev_row r_X11_command_280, mv_Ev_row r_X11_command_281, mv_Ev_row r_X11_command_284, mv_Ev_row r_X11_command_285, mv_Ev_row r_X11_command_286, mv_Ev_row r_X11_command_287, mv_Ev_row r_X11_command_288, mv_Ev_row r_X11_command_289, mv_Ev_row r_X11_command_292, mv_Ev_row r_X11_command_293, mv_Ev_row r_X11_command_296, mv_Ev_row r_X11_command_297, mv_Ev_row r_X11_command_300, mv_Ev_row r_X11_command_301, mv_Ev_row r_X11_command_302, mv_Ev_row r_X11_command_303, mv_Ev_row r_X11_command_304, mv_Ev_row r_X11_command_305, mv_Ev_row r_X11_command_308, mv_Ev_row r_X11_command_309, mv_Ev_row r_X11_command_312, ea_iconst, ea_aload_n, gg_8_13, ea_imul, ea_istore_n, gg_8_8, ea_dup_i, ea_dup_r, ea_iadd, pp_8_13, kv_X11_sign, ea_istore, ea_iload, ea_icmp, gg_8_12, ea_iload_n, ea_iinc, eb_inc, ea_goto, pp_8_8, kv_X11_isWord, ea_ifc, pp_8_9, ea_vret, kv_X11_number, ar_st0 ai_145, cz_eq, cz_ne, cz_lt, cz_ge, cz_gt, cz_le, c0_eq, c0_ne, c0_lt, c0_ge, c0_gt, c0_le, mv_ac, decide_eq_true_eq, not_true_eq_false, and_self, and_true, true_and, ea_2n, ea_2f, ea_2c, ea_if, if_pos, if_neg, mv_lk, mv_f1, mv_f2, Value.category, List.filter, ↓reduceIte, Nat.reduceEqDiff, Nat.reduceAdd, Nat.reduceLT, Nat.reduceBEq, Nat.zero_add, Nat.add_zero, Nat.zero_ne_one, Nat.one_ne_zero, Bool.not_true, Bool.not_false, Bool.and_true, Bool.true_and, Bool.and_false, Bool.false_and, BEq.rfl, beq_self_eq_true, Bool.false_eq_true, reduceCtorEq, not_false_eq_true, fv0, fv1, fv2, fv3, eb_l0, eb_l1, eb_l2, eb_l3, eb_l4, eb_l5, eb_s0, eb_s1, eb_s2, eb_s3, eb_s4, eb_s5, oz_add, oz_sub, oz_mul, oz_neg, ol_add, ol_sub, sD_eq, sD_sD, sD_ne, sD_in, sD_in2, sD_in3, upR_is, upR_ne, mk_v, mk_n, mk_x, mk_i, mv_cs, Nat.reduceLeDiff, mv_ch_z, nh_X11_command, s1, e8]
    rw [mv_Ev_row r_X11_command_30]
    simp (disch := omega) only [mv_Ev_row r_X11_command_0, mv_Ev_row r_X11_command_1, mv_Ev_row r_X11_command_2, mv_Ev_row r_X11_command_5, mv_Ev_row r_X11_command_6, mv_Ev_row r_X11_command_7, mv_Ev_row r_X11_command_8, mv_Ev_row r_X11_command_11, mv_Ev_row r_X11_command_12, mv_Ev_row r_X11_command_13, mv_Ev_row r_X11_command_14, mv_Ev_row r_X11_command_17, mv_Ev_row r_X11_command_18, mv_Ev_row r_X11_command_19, mv_Ev_row r_X11_command_22, mv_Ev_row r_X11_command_23, mv_Ev_row r_X11_command_26, mv_Ev_row r_X11_command_27, mv_Ev_row r_X11_command_28, mv_Ev_row r_X11_command_32, mv_Ev_row r_X11_command_33, mv_Ev_row r_X11_command_36, mv_Ev_row r_X11_command_37, mv_Ev_row r_X11_command_40, mv_Ev_row r_X11_command_41, mv_Ev_row r_X11_command_43, mv_Ev_row r_X11_command_44, mv_Ev_row r_X11_command_45, mv_Ev_row r_X11_command_46, mv_Ev_row r_X11_command_49, mv_Ev_row r_X11_command_52, mv_Ev_row r_X11_command_53, mv_Ev_row r_X11_command_56, mv_Ev_row r_X11_command_57, mv_Ev_row r_X11_command_58, mv_Ev_row r_X11_command_59, mv_Ev_row r_X11_command_60, mv_Ev_row r_X11_command_61, mv_Ev_row r_X11_command_64, mv_Ev_row r_X11_command_65, mv_Ev_row r_X11_command_66, mv_Ev_row r_X11_command_69, mv_Ev_row r_X11_command_70, mv_Ev_row r_X11_command_71, mv_Ev_row r_X11_command_74, mv_Ev_row r_X11_command_77, mv_Ev_row r_X11_command_78, mv_Ev_row r_X11_command_79, mv_Ev_row r_X11_command_82, mv_Ev_row r_X11_command_83, mv_Ev_row r_X11_command_84, mv_Ev_row r_X11_command_87, mv_Ev_row r_X11_command_88, mv_Ev_row r_X11_command_89, mv_Ev_row r_X11_command_180, mv_Ev_row r_X11_command_181, mv_Ev_row r_X11_command_184, mv_Ev_row r_X11_command_185, mv_Ev_row r_X11_command_186, mv_Ev_row r_X11_command_187, mv_Ev_row r_X11_command_188, mv_Ev_row r_X11_command_189, mv_Ev_row r_X11_command_192, mv_Ev_row r_X11_command_193, mv_Ev_row r_X11_command_194, mv_Ev_row r_X11_command_197, mv_Ev_row r_X11_command_198, mv_Ev_row r_X11_command_199, mv_Ev_row r_X11_command_200, mv_Ev_row r_X11_command_201, mv_Ev_row r_X11_command_202, mv_Ev_row r_X11_command_205, mv_Ev_row r_X11_command_206, mv_Ev_row r_X11_command_207, mv_Ev_row r_X11_command_210, mv_Ev_row r_X11_command_211, mv_Ev_row r_X11_command_212, mv_Ev_row r_X11_command_213, mv_Ev_row r_X11_command_214, mv_Ev_row r_X11_command_215, mv_Ev_row r_X11_command_218, mv_Ev_row r_X11_command_219, mv_Ev_row r_X11_command_222, mv_Ev_row r_X11_command_223, mv_Ev_row r_X11_command_226, mv_Ev_row r_X11_command_227, mv_Ev_row r_X11_command_228, mv_Ev_row r_X11_command_229, mv_Ev_row r_X11_command_230, mv_Ev_row r_X11_command_231, mv_Ev_row r_X11_command_234, mv_Ev_row r_X11_command_235, mv_Ev_row r_X11_command_236, mv_Ev_row r_X11_command_239, mv_Ev_row r_X11_command_240, mv_Ev_row r_X11_command_241, mv_Ev_row r_X11_command_242, mv_Ev_row r_X11_command_243, mv_Ev_row r_X11_command_244, mv_Ev_row r_X11_command_247, mv_Ev_row r_X11_command_248, mv_Ev_row r_X11_command_251, mv_Ev_row r_X11_command_252, mv_Ev_row r_X11_command_255, mv_Ev_row r_X11_command_256, mv_Ev_row r_X11_command_257, mv_Ev_row r_X11_command_258, mv_Ev_row r_X11_command_259, mv_Ev_row r_X11_command_260, mv_Ev_row r_X11_command_263, mv_Ev_row r_X11_command_264, mv_Ev_row r_X11_command_265, mv_Ev_row r_X11_command_268, mv_Ev_row r_X11_command_269, mv_Ev_row r_X11_command_270, mv_Ev_row r_X11_command_271, mv_Ev_row r_X11_command_272, mv_Ev_row r_X11_command_273, mv_Ev_row r_X11_command_276, mv_Ev_row r_X11_command_277, mv_Ev_row r_X11_command_280, mv_Ev_row r_X11_command_281, mv_Ev_row r_X11_command_284, mv_Ev_row r_X11_command_285, mv_Ev_row r_X11_command_286, mv_Ev_row r_X11_command_287, mv_Ev_row r_X11_command_288, mv_Ev_row r_X11_command_289, mv_Ev_row r_X11_command_292, mv_Ev_row r_X11_command_293, mv_Ev_row r_X11_command_296, mv_Ev_row r_X11_command_297, mv_Ev_row r_X11_command_300, mv_Ev_row r_X11_command_301, mv_Ev_row r_X11_command_302, mv_Ev_row r_X11_command_303, mv_Ev_row r_X11_command_304, mv_Ev_row r_X11_command_305, mv_Ev_row r_X11_command_308, mv_Ev_row r_X11_command_309, mv_Ev_row r_X11_command_312, ea_iconst, ea_aload_n, gg_8_13, ea_imul, ea_istore_n, gg_8_8, ea_dup_i, ea_dup_r, ea_iadd, pp_8_13, kv_X11_sign, ea_istore, ea_iload, ea_icmp, gg_8_12, ea_iload_n, ea_iinc, eb_inc, ea_goto, pp_8_8, kv_X11_isWord, ea_ifc, pp_8_9, ea_vret, kv_X11_number, ar_st0 ai_145, cz_eq, cz_ne, cz_lt, cz_ge, cz_gt, cz_le, c0_eq, c0_ne, c0_lt, c0_ge, c0_gt, c0_le, mv_ac, decide_eq_true_eq, not_true_eq_false, and_self, and_true, true_and, ea_2n, ea_2f, ea_2c, ea_if, if_pos, if_neg, mv_lk, mv_f1, mv_f2, Value.category, List.filter, ↓reduceIte, Nat.reduceEqDiff, Nat.reduceAdd, Nat.reduceLT, Nat.reduceBEq, Nat.zero_add, Nat.add_zero, Nat.zero_ne_one, Nat.one_ne_zero, Bool.not_true, Bool.not_false, Bool.and_true, Bool.true_and, Bool.and_false, Bool.false_and, BEq.rfl, beq_self_eq_true, Bool.false_eq_true, reduceCtorEq, not_false_eq_true, fv0, fv1, fv2, fv3, eb_l0, eb_l1, eb_l2, eb_l3, eb_l4, eb_l5, eb_s0, eb_s1, eb_s2, eb_s3, eb_s4, eb_s5, oz_add, oz_sub, oz_mul, oz_neg, ol_add, ol_sub, sD_eq, sD_sD, sD_ne, sD_in, sD_in2, sD_in3, upR_is, upR_ne, mk_v, mk_n, mk_x, mk_i, mv_cs, Nat.reduceLeDiff, mv_ch_z, nh_X11_command, s1, e8]
    rw [mv_Ev_row r_X11_command_30]
    simp (disch := omega) only [mv_Ev_row r_X11_command_0, mv_Ev_row r_X11_command_1, mv_Ev_row r_X11_command_2, mv_Ev_row r_X11_command_5, mv_Ev_row r_X11_command_6, mv_Ev_row r_X11_command_7, mv_Ev_row r_X11_command_8, mv_Ev_row r_X11_command_11, mv_Ev_row r_X11_command_12, mv_Ev_row r_X11_command_13, mv_Ev_row r_X11_command_14, mv_Ev_row r_X11_command_17, mv_Ev_row r_X11_command_18, mv_Ev_row r_X11_command_19, mv_Ev_row r_X11_command_22, mv_Ev_row r_X11_command_23, mv_Ev_row r_X11_command_26, mv_Ev_row r_X11_command_27, mv_Ev_row r_X11_command_28, mv_Ev_row r_X11_command_32, mv_Ev_row r_X11_command_33, mv_Ev_row r_X11_command_36, mv_Ev_row r_X11_command_37, mv_Ev_row r_X11_command_40, mv_Ev_row r_X11_command_41, mv_Ev_row r_X11_command_43, mv_Ev_row r_X11_command_44, mv_Ev_row r_X11_command_45, mv_Ev_row r_X11_command_46, mv_Ev_row r_X11_command_49, mv_Ev_row r_X11_command_52, mv_Ev_row r_X11_command_53, mv_Ev_row r_X11_command_56, mv_Ev_row r_X11_command_57, mv_Ev_row r_X11_command_58, mv_Ev_row r_X11_command_59, mv_Ev_row r_X11_command_60, mv_Ev_row r_X11_command_61, mv_Ev_row r_X11_command_64, mv_Ev_row r_X11_command_65, mv_Ev_row r_X11_command_66, mv_Ev_row r_X11_command_69, mv_Ev_row r_X11_command_70, mv_Ev_row r_X11_command_71, mv_Ev_row r_X11_command_74, mv_Ev_row r_X11_command_77, mv_Ev_row r_X11_command_78, mv_Ev_row r_X11_command_79, mv_Ev_row r_X11_command_82, mv_Ev_row r_X11_command_83, mv_Ev_row r_X11_command_84, mv_Ev_row r_X11_command_87, mv_Ev_row r_X11_command_88, mv_Ev_row r_X11_command_89, mv_Ev_row r_X11_command_180, mv_Ev_row r_X11_command_181, mv_Ev_row r_X11_command_184, mv_Ev_row r_X11_command_185, mv_Ev_row r_X11_command_186, mv_Ev_row r_X11_command_187, mv_Ev_row r_X11_command_188, mv_Ev_row r_X11_command_189, mv_Ev_row r_X11_command_192, mv_Ev_row r_X11_command_193, mv_Ev_row r_X11_command_194, mv_Ev_row r_X11_command_197, mv_Ev_row r_X11_command_198, mv_Ev_row r_X11_command_199, mv_Ev_row r_X11_command_200, mv_Ev_row r_X11_command_201, mv_Ev_row r_X11_command_202, mv_Ev_row r_X11_command_205, mv_Ev_row r_X11_command_206, mv_Ev_row r_X11_command_207, mv_Ev_row r_X11_command_210, mv_Ev_row r_X11_command_211, mv_Ev_row r_X11_command_212, mv_Ev_row r_X11_command_213, mv_Ev_row r_X11_command_214, mv_Ev_row r_X11_command_215, mv_Ev_row r_X11_command_218, mv_Ev_row r_X11_command_219, mv_Ev_row r_X11_command_222, mv_Ev_row r_X11_command_223, mv_Ev_row r_X11_command_226, mv_Ev_row r_X11_command_227, mv_Ev_row r_X11_command_228, mv_Ev_row r_X11_command_229, mv_Ev_row r_X11_command_230, mv_Ev_row r_X11_command_231, mv_Ev_row r_X11_command_234, mv_Ev_row r_X11_command_235, mv_Ev_row r_X11_command_236, mv_Ev_row r_X11_command_239, mv_Ev_row r_X11_command_240, mv_Ev_row r_X11_command_241, mv_Ev_row r_X11_command_242, mv_Ev_row r_X11_command_243, mv_Ev_row r_X11_command_244, mv_Ev_row r_X11_command_247, mv_Ev_row r_X11_command_248, mv_Ev_row r_X11_command_251, mv_Ev_row r_X11_command_252, mv_Ev_row r_X11_command_255, mv_Ev_row r_X11_command_256, mv_Ev_row r_X11_command_257, mv_Ev_row r_X11_command_258, mv_Ev_row r_X11_command_259, mv_Ev_row r_X11_command_260, mv_Ev_row r_X11_command_263, mv_Ev_row r_X11_command_264, mv_Ev_row r_X11_command_265, mv_Ev_row r_X11_command_268, mv_Ev_row r_X11_command_269, mv_Ev_row r_X11_command_270, mv_Ev_row r_X11_command_271, mv_Ev_row r_X11_command_272, mv_Ev_row r_X11_command_273, mv_Ev_row r_X11_command_276, mv_Ev_row r_X11_command_277, mv_Ev_row r_X11_command_280, mv_Ev_row r_X11_command_281, mv_Ev_row r_X11_command_284, mv_Ev_row r_X11_command_285, mv_Ev_row r_X11_command_286, mv_Ev_row r_X11_command_287, mv_Ev_row r_X11_command_288, mv_Ev_row r_X11_command_289, mv_Ev_row r_X11_command_292, mv_Ev_row r_X11_command_293, mv_Ev_row r_X11_command_296, mv_Ev_row r_X11_command_297, mv_Ev_row r_X11_command_300, mv_Ev_row r_X11_command_301, mv_Ev_row r_X11_command_302, mv_Ev_row r_X11_command_303, mv_Ev_row r_X11_command_304, mv_Ev_row r_X11_command_305, mv_Ev_row r_X11_command_308, mv_Ev_row r_X11_command_309, mv_Ev_row r_X11_command_312, ea_iconst, ea_aload_n, gg_8_13, ea_imul, ea_istore_n, gg_8_8, ea_dup_i, ea_dup_r, ea_iadd, pp_8_13, kv_X11_sign, ea_istore, ea_iload, ea_icmp, gg_8_12, ea_iload_n, ea_iinc, eb_inc, ea_goto, pp_8_8, kv_X11_isWord, ea_ifc, pp_8_9, ea_vret, kv_X11_number, ar_st0 ai_145, cz_eq, cz_ne, cz_lt, cz_ge, cz_gt, cz_le, c0_eq, c0_ne, c0_lt, c0_ge, c0_gt, c0_le, mv_ac, decide_eq_true_eq, not_true_eq_false, and_self, and_true, true_and, ea_2n, ea_2f, ea_2c, ea_if, if_pos, if_neg, mv_lk, mv_f1, mv_f2, Value.category, List.filter, ↓reduceIte, Nat.reduceEqDiff, Nat.reduceAdd, Nat.reduceLT, Nat.reduceBEq, Nat.zero_add, Nat.add_zero, Nat.zero_ne_one, Nat.one_ne_zero, Bool.not_true, Bool.not_false, Bool.and_true, Bool.true_and, Bool.and_false, Bool.false_and, BEq.rfl, beq_self_eq_true, Bool.false_eq_true, reduceCtorEq, not_false_eq_true, fv0, fv1, fv2, fv3, eb_l0, eb_l1, eb_l2, eb_l3, eb_l4, eb_l5, eb_s0, eb_s1, eb_s2, eb_s3, eb_s4, eb_s5, oz_add, oz_sub, oz_mul, oz_neg, ol_add, ol_sub, sD_eq, sD_sD, sD_ne, sD_in, sD_in2, sD_in3, upR_is, upR_ne, mk_v, mk_n, mk_x, mk_i, mv_cs, Nat.reduceLeDiff, mv_ch_z, nh_X11_command, hw, e8, rC4]
end RF9
