/-! READING PROGRAMS, AS NUMBERS; THE REFERENCE READS SO -/
def zDig (X : Int → Int) (len p : Int) : Prop := p < len ∧ 48 ≤ X p ∧ X p ≤ 57
def zDigB (X : Int → Int) (len p : Int) : Bool := decide (p < len) && (decide (48 ≤ X p) && decide (X p ≤ 57))
/-- a pattern: D a digit, N a number of one or two digits -/
def zPat (X : Int → Int) (len : Int) : List Nat → Int → List Int → Bool × Int × List Int
  | [], p, as => (true, p, as)
  | c :: cs, p, as =>
    if c = 68 then (if zDigB X len p = true then zPat X len cs (p + 1) (as ++ [X p - 48]) else (false, p, as))
    else if c = 78 then (if zDigB X len p = true then (if zDigB X len (p + 1) = true then zPat X len cs (p + 2) (as ++ [10 * (X p - 48) + (X (p + 1) - 48)]) else zPat X len cs (p + 1) (as ++ [X p - 48])) else (false, p, as))
    else if p < len ∧ X p = c then zPat X len cs (p + 1) as else (false, p, as)
def zLet8 (v : Int) : Nat := if v = 98 then 0 else if v = 103 then 1 else if v = 97 then 2 else if v = 104 then 3 else if v = 114 then 4 else if v = 99 then 5 else if v = 112 then 6 else if v = 115 then 7 else 8
def zFst (X : Int → Int) (len p : Int) : Nat := if p < len then zLet8 (X p) else 8
def zOne (X : Int → Int) (len p : Int) : Bool × Int × List Int := if zFst X len p = 8 then (false, p, []) else zPat X len (mv_pat (zFst X len p)) p []
def zRcp (X : Int → Int) (len p : Int) : Int := if 0 < p then p + 1 else p
/-- a command behind what was read -/
def zRc (X : Int → Int) (len p : Int) : Bool × Int × List Int := if 0 < p ∧ ¬ (p < len ∧ X p = 59) then (false, p, []) else zOne X len (zRcp X len p)
def zPg (X : Int → Int) (len : Int) : Nat → Int → Bool × Int × List (Nat × List Int)
  | 0, p => (false, p, [])
  | n + 1, p => if (zRc X len p).1 = true then (if (zRc X len p).2.1 = len then (true, len, [(zFst X len (zRcp X len p), (zRc X len p).2.2)])
      else ((zPg X len n (zRc X len p).2.1).1, (zPg X len n (zRc X len p).2.1).2.1, (zFst X len (zRcp X len p), (zRc X len p).2.2) :: (zPg X len n (zRc X len p).2.1).2.2)) else (false, (zRc X len p).2.1, [])
theorem zDigB_iff {X : Int → Int} {len p : Int} : zDigB X len p = true ↔ (p < len ∧ 48 ≤ X p ∧ X p ≤ 57) := by simp [zDigB]
/-- the reference's way through a pattern -/
def rPt (X : Int → Int) : List Nat → (Int → Int) → List Int → (Int → Int) × List Int
  | [], F, as => (F, as)
  | c :: cs, F, as => if c = 68 then rPt X cs (rDg X 1 F).2 (as ++ [(rDg X 1 F).1]) else if c = 78 then rPt X cs (rDg X 2 F).2 (as ++ [(rDg X 2 F).1]) else rPt X cs (rNd X c F) as
theorem upR_id (A : Int → Int) (k : Int) : upR A k (A k) = A := by
  funext j
  unfold upR
  split
  · next e => rw [e]
  · rfl
theorem rPt_err (X : Int → Int) : ∀ (cs : List Nat) (F : Int → Int) (as : List Int), 0 ≤ F 9 → (rPt X cs F as).1 = F
  | [], _, _, _ => rfl
  | c :: cs, F, as, h => by
    have e1 : (rDg X 1 F).2 = F := by unfold rDg; rw [if_pos h]
    have e2 : (rDg X 2 F).2 = F := by unfold rDg; rw [if_pos h]
    have e3 : rNd X c F = F := by unfold rNd; rw [if_pos h]
    rw [rPt]
    split
    · rw [e1]; exact rPt_err X cs F _ h
    · split
      · rw [e2]; exact rPt_err X cs F _ h
      · rw [e3]; exact rPt_err X cs F _ h
theorem rSg_dig {F X : Int → Int} : (48 ≤ rSg F X ∧ rSg F X ≤ 57) ↔ zDigB X (F 7) (F 8) = true := by
  rw [zDigB_iff]
  unfold rSg
  split
  · next h => exact ⟨fun q => ⟨h, q.1, q.2⟩, fun q => ⟨q.2.1, q.2.2⟩⟩
  · next h => exact ⟨fun q => by omega, fun q => absurd q.1 h⟩
theorem rSg_is {F X : Int → Int} (h : F 8 < F 7) : rSg F X = X (F 8) := by unfold rSg; rw [if_pos h]
theorem upR_8 {F : Int → Int} {p q : Int} : upR (upR F 8 p) 8 q = upR F 8 q := upR_up F 8 p q
/-- a failed way: where it fails, and what else stays -/
def rFail (F F' : Int → Int) (p : Int) : Prop := F' 9 = p ∧ ∀ j, ¬ j = 8 → ¬ j = 9 → F' j = F j
theorem rPt_ok (X : Int → Int) : ∀ (cs : List Nat) (F : Int → Int) (as : List Int), zPF F X → F 9 = -1 →
    ((zPat X (F 7) cs (F 8) as).1 = true → (rPt X cs F as).1 = upR F 8 (zPat X (F 7) cs (F 8) as).2.1 ∧ (rPt X cs F as).2 = (zPat X (F 7) cs (F 8) as).2.2) ∧
    ((zPat X (F 7) cs (F 8) as).1 = false → rFail F (rPt X cs F as).1 (zPat X (F 7) cs (F 8) as).2.1) ∧ F 8 ≤ (zPat X (F 7) cs (F 8) as).2.1 ∧ (zPat X (F 7) cs (F 8) as).2.1 ≤ 61
  | [], F, as, hP, h9 => by
    rw [rPt, zPat]
    exact ⟨fun _ => ⟨(upR_id F 8).symm, rfl⟩, fun h => (by cases h), by show F 8 ≤ F 8; omega, hP.2.1⟩
  | c :: cs, F, as, hP, h9 => by
    have hd0 : ¬ 0 ≤ F 9 := by omega
    obtain ⟨a, b, c9, e, f, g, hx⟩ := id hP
    have fail : ∀ F' : Int → Int, F' = upR F 9 (F 8) → rFail F F' (F 8) := fun F' e9 => by subst e9; exact ⟨upR_eq _ _ _, fun j _ h2 => upR_ne _ _ h2⟩
    have errd : ∀ n, ¬ zDigB X (F 7) (F 8) = true → (rDg X n F).2 = upR F 9 (F 8) := fun n h => by unfold rDg; rw [if_neg hd0, if_neg (fun q => h (rSg_dig.mp q))]
    rw [rPt, zPat]
    by_cases k1 : c = 68
    · rw [if_pos k1, if_pos k1]
      by_cases hd : zDigB X (F 7) (F 8) = true
      · obtain ⟨d1, d2, d3⟩ := zDigB_iff.mp hd
        rw [if_pos hd]
        have e1 : rDg X 1 F = (X (F 8) - 48, upR F 8 (F 8 + 1)) := by
          unfold rDg
          rw [if_neg hd0, if_pos (rSg_dig.mpr hd), rNl, if_pos (rSg_dig.mpr hd), rNl, rSg_is d1]
          congr 1
          omega
        rw [e1]
        have ih := rPt_ok X cs (upR F 8 (F 8 + 1)) (as ++ [X (F 8) - 48]) (zPF_8 hP (by omega) (by omega)) (by rw [upR_ne _ _ (by omega)]; exact h9)
        rw [upR_eq, upR_ne _ _ (by omega), upR_8] at ih
        exact ⟨ih.1, fun h => ⟨(ih.2.1 h).1, fun j h1 h2 => by rw [(ih.2.1 h).2 j h1 h2, upR_ne _ _ h1]⟩, by omega, by omega⟩
      · rw [if_neg hd, errd 1 hd]
        refine ⟨fun h => (by cases h), fun _ => ?_, by show F 8 ≤ F 8; omega, b⟩
        rw [rPt_err X cs _ _ (by rw [upR_eq]; exact a)]
        exact fail _ rfl
    · rw [if_neg k1, if_neg k1]
      by_cases k2 : c = 78
      · rw [if_pos k2, if_pos k2]
        by_cases hd : zDigB X (F 7) (F 8) = true
        · obtain ⟨d1, d2, d3⟩ := zDigB_iff.mp hd
          rw [if_pos hd]
          have hP1 := zPF_8 (p := F 8 + 1) hP (by omega) (by omega)
          have b7 : upR F 8 (F 8 + 1) 7 = F 7 := upR_ne _ _ (by omega)
          have b8 : upR F 8 (F 8 + 1) 8 = F 8 + 1 := upR_eq _ _ _
          by_cases hd2 : zDigB X (F 7) (F 8 + 1) = true
          · obtain ⟨g1, g2, g3⟩ := zDigB_iff.mp hd2
            rw [if_pos hd2]
            have e1 : rDg X 2 F = (10 * (X (F 8) - 48) + (X (F 8 + 1) - 48), upR F 8 (F 8 + 2)) := by
              unfold rDg
              rw [if_neg hd0, if_pos (rSg_dig.mpr hd), rNl, if_pos (rSg_dig.mpr hd), rNl, if_pos (rSg_dig.mpr (by rw [b7, b8]; exact hd2)), rNl, rSg_is d1, rSg_is (by rw [b7, b8]; exact g1), b8, upR_8]
              congr 1
              · omega
              · congr 1
                omega
            rw [e1]
            have ih := rPt_ok X cs (upR F 8 (F 8 + 2)) (as ++ [10 * (X (F 8) - 48) + (X (F 8 + 1) - 48)]) (zPF_8 hP (by omega) (by omega)) (by rw [upR_ne _ _ (by omega)]; exact h9)
            rw [upR_eq, upR_ne _ _ (by omega), upR_8] at ih
            exact ⟨ih.1, fun h => ⟨(ih.2.1 h).1, fun j h1 h2 => by rw [(ih.2.1 h).2 j h1 h2, upR_ne _ _ h1]⟩, by omega, by omega⟩
          · rw [if_neg hd2]
            have e1 : rDg X 2 F = (X (F 8) - 48, upR F 8 (F 8 + 1)) := by
              unfold rDg
              rw [if_neg hd0, if_pos (rSg_dig.mpr hd), rNl, if_pos (rSg_dig.mpr hd), rNl, if_neg (fun q => hd2 (by have := rSg_dig.mp q; rw [b7, b8] at this; exact this)), rSg_is d1]
              congr 1
              omega
            rw [e1]
            have ih := rPt_ok X cs (upR F 8 (F 8 + 1)) (as ++ [X (F 8) - 48]) hP1 (by rw [upR_ne _ _ (by omega)]; exact h9)
            rw [upR_eq, upR_ne _ _ (by omega), upR_8] at ih
            exact ⟨ih.1, fun h => ⟨(ih.2.1 h).1, fun j h1 h2 => by rw [(ih.2.1 h).2 j h1 h2, upR_ne _ _ h1]⟩, by omega, by omega⟩
        · rw [if_neg hd, errd 2 hd]
          refine ⟨fun h => (by cases h), fun _ => ?_, by show F 8 ≤ F 8; omega, b⟩
          rw [rPt_err X cs _ _ (by rw [upR_eq]; exact a)]
          exact fail _ rfl
      · rw [if_neg k2, if_neg k2]
        by_cases hc : F 8 < F 7 ∧ X (F 8) = c
        · rw [if_pos hc]
          have e1 : rNd X c F = upR F 8 (F 8 + 1) := by
            unfold rNd
            rw [if_neg hd0, if_pos (by rw [rSg_is hc.1]; exact hc.2)]
          rw [e1]
          have ih := rPt_ok X cs (upR F 8 (F 8 + 1)) as (zPF_8 hP (by omega) (by omega)) (by rw [upR_ne _ _ (by omega)]; exact h9)
          rw [upR_eq, upR_ne _ _ (by omega), upR_8] at ih
          exact ⟨ih.1, fun h => ⟨(ih.2.1 h).1, fun j h1 h2 => by rw [(ih.2.1 h).2 j h1 h2, upR_ne _ _ h1]⟩, by omega, by omega⟩
        · rw [if_neg hc]
          have e1 : rNd X c F = upR F 9 (F 8) := by
            unfold rNd
            rw [if_neg hd0, if_neg]
            intro q
            apply hc
            have h0 : F 8 < F 7 := rSg_lt (F := F) (X := X) (by omega)
            exact ⟨h0, by rw [← rSg_is (X := X) h0]; exact q⟩
          rw [e1]
          refine ⟨fun h => (by cases h), fun _ => ?_, by show F 8 ≤ F 8; omega, b⟩
          rw [rPt_err X cs _ _ (by rw [upR_eq]; exact a)]
          exact fail _ rfl
/-- the letter of a command -/
def zChr (k : Nat) : Int := match k with | 0 => 98 | 1 => 103 | 2 => 97 | 3 => 104 | 4 => 114 | 5 => 99 | 6 => 112 | _ => 115
def rRow (C : Int → Int) (m : Int) (k : Nat) (as : List Int) : Prop := C (4 * m) = zChr k ∧ C (4 * m + 1) = as.getD 0 0 ∧ C (4 * m + 2) = as.getD 1 0 ∧ C (4 * m + 3) = as.getD 2 0
theorem rC4_at {C : Int → Int} {m v : Int} : rC4 m v C (4 * m) = v ∧ rC4 m v C (4 * m + 1) = 0 ∧ rC4 m v C (4 * m + 2) = 0 ∧ rC4 m v C (4 * m + 3) = 0 := by
  unfold rC4
  refine ⟨upR_eq _ _ _, ?_, ?_, ?_⟩
  · rw [upR_ne _ _ (by omega), upR_ne _ _ (by omega), upR_ne _ _ (by omega), upR_is _ _ (by omega)]
  · rw [upR_ne _ _ (by omega), upR_ne _ _ (by omega), upR_is _ _ (by omega)]
  · rw [upR_ne _ _ (by omega), upR_is _ _ (by omega)]
theorem rC4_ne {C : Int → Int} {m v j : Int} (h : j < 4 * m) : rC4 m v C j = C j := by
  unfold rC4
  rw [upR_ne _ _ (by omega), upR_ne _ _ (by omega), upR_ne _ _ (by omega), upR_ne _ _ (by omega), upR_ne _ _ (by omega)]

