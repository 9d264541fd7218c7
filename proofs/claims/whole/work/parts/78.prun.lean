/-! A CALL ON BOTH SIDES: A PROGRAM IS RUN -/
section GR
variable {L : Nat} {xs : Nat → Int32} {d t : Nat} {T U : zT} {N M : Int}
theorem zIv_run (h : zIv T N) (hM : N ≤ M) (p1 : zPr (U.1 o1) (U.1 143) M) (p2 : zIh U M) (s3 : U.1 142 3 = T.1 142 3) (s0 : U.1 0 9 = T.1 0 9) (s9 : U.1 o9 = T.1 o9) (s143 : ∀ j, 567 ≤ j → j < 630 → U.1 143 j = T.1 143 j) (s7 : U.1 142 7 = 0) (s137 : U.1 137 1 = 0) (s138 : U.1 138 = T.1 138) (s144 : U.1 144 = T.1 144) (pe : zIe U) (s15 : U.1 142 15 = T.1 142 15) (s140 : U.1 140 = T.1 140) (s141 : U.1 141 = T.1 141) (s146 : U.1 146 = T.1 146) (c : U.2.1 < 8) (ab : zAb (U.1 139)) : zIv U M := by
  obtain ⟨h1, h2, h3, ⟨_, _, _, h4, _⟩, h5, h6, h7, h8⟩ := h
  exact ⟨p1, p2, zIs_put h3 hM s3 s0 s9 s143, ⟨by rw [s7, s137], by omega, by omega, by rw [s144, s138, h4], fun j a b => by omega⟩, pe, zIo_eq h6 s15 s140 s141 s146, c, ab⟩
theorem s_run (hd : 12 ≤ d) (hI : zIv T N) : zGo (fun _ => True) L xs (d + 1) k_L_run k_X11_run [] T t (N + 1800) := by
  obtain ⟨h1, h2, h3, ⟨ht1, ht2, ht3, ht4, ht5⟩, ⟨he1, he2, ⟨he3, he4⟩, he5, he6⟩, h6, h7, h8⟩ := id hI
  obtain ⟨hH, hc2, hh⟩ := id h2
  obtain ⟨n0, n8, c0, c8⟩ := id hH
  have hr : zPr (T.1 o1) (rCp 0 10 (T.1 143)) N := zPr_on h1 (fun j j0 j1 => rCp_ne _ _ _ (by omega))
  have hcs : ∀ c ∈ (zPg (T.1 138) (T.1 137 1) 60 0).2.2, c.1 < 8 := fun c hc => (zPg_k _ _ _ _ c hc).1
  obtain ⟨hz1, hz2⟩ := zRun_r _ hcs hr
  have hlen := zPg_len (T.1 138) (T.1 137 1) 60 0
  have hle := zRun_le (zPg (T.1 138) (T.1 137 1) 60 0).2.2 (T.1 o1)
  have hhi : ∀ {j : Int}, 63 ≤ j → (rRun (zPg (T.1 138) (T.1 137 1) 60 0).2.2 (rCp 0 10 (T.1 143))).2 j = rCp 0 10 (T.1 143) j := fun hj => rRun_hi _ hcs hr.2.1 hj
  have hmod : ∀ (t : Nat) (S : zT), S.1 142 = T.1 142 → S.1 143 = T.1 143 → S.1 144 = T.1 144 → _ := fun t S e2 e3 e4 => c_X11_run (L := L) (xs := xs) (d := d + 1) (t := t) (T := S) (F := T.1 142) (A := T.1 143) (X := T.1 138) (by rw [e4, ht4]) (by omega) (by omega) (by omega) (by rw [ht1]; exact ht5) (by omega) (by omega) (by omega) (by omega) h1.2.1
  rw [ht1] at hmod
  cases ok : (zPg (T.1 138) (T.1 137 1) 60 0).1 with
  | false =>
    obtain ⟨T', ⟨u1, u2, u3, u4, u5⟩, e0, eo1, e33, eh, hx⟩ := c_X10_run_no (L := L) (xs := xs) (t := t) (d := d) (T := T) (by omega) ht2 ht3 ht5 h7 h8 ok
    have hw := w_L_run_0 hx
    have k : ∀ o, 98 < o → ¬ o = 137 → ¬ o = 139 → T'.1 o = T.1 o := fun o a b c => u5 o (by omega) (by rw [o1v]; omega) (by rw [o17v]; omega) b c (by omega) (fun j hj => by omega)
    obtain ⟨F', C', A', v, h, f7, f3, f15, hno, _⟩ := hmod (t + 1) T' (k 142 (by omega) (by omega) (by omega)) (k 143 (by omega) (by omega) (by omega)) (k 144 (by omega) (by omega) (by omega))
    obtain ⟨f0, f2, f10, f10a, f10b, f11, fA⟩ := hno ok
    rw [zz_id (k 142 (by omega) (by omega) (by omega)) (k 143 (by omega) (by omega) (by omega))] at h
    obtain ⟨v', b1, b2, ev⟩ := ze_int (Int32.ofInt v)
    rw [ev] at h
    refine ⟨1, v', t + 1, _, _, hw, h, ?_, by omega, ⟨b1, b2⟩, trivial, fun _ => by omega, by omega, ?_⟩
    · rw [sD_ne _ _ (by decide), sD_eq]; exact f0
    · have w142 : (sD (sD (sD T' 145 C') 142 F') 143 A').1 142 = F' := by rw [sD_ne _ _ (by decide), sD_eq]
      have w143 : (sD (sD (sD T' 145 C') 142 F') 143 A').1 143 = T.1 143 := by rw [sD_eq, fA]
      have wo : ∀ o, ¬ o = 142 → ¬ o = 143 → ¬ o = 145 → (sD (sD (sD T' 145 C') 142 F') 143 A').1 o = T'.1 o := fun o a b c => by rw [sD_ne _ _ b, sD_ne _ _ a, sD_ne _ _ c]
      have w2 : (sD (sD (sD T' 145 C') 142 F') 143 A').2.1 = T'.2.1 := rfl
      generalize sD (sD (sD T' 145 C') 142 F') 143 A' = U at w142 w143 wo w2 ⊢
      have kk : ∀ o, 98 < o → ¬ o = 137 → ¬ o = 139 → ¬ o = 142 → ¬ o = 143 → ¬ o = 145 → U.1 o = T.1 o := fun o a b c e f g => by rw [wo o e f g, k o a b c]
      refine zIv_run hI (by omega) ?_ (zIh_same (T := T) (N := N + 1800) ?_ ?_ ?_ ?_ ?_) ?_ ?_ ?_ ?_ ?_ ?_ ?_ ?_ ?_ ?_ ?_ ?_ ?_ ?_ ?_
      · rw [wo o1 (by decide) (by decide) (by decide), eo1, w143]; exact zPr_mono h1 (by omega)
      · exact ⟨hH, hc2, fun i a b => zPr_mono (hh i a b) (by omega)⟩
      · rw [w142, f2]
      · rw [wo 33 (by decide) (by decide) (by decide), e33]
      · intro j hj; rw [wo _ (by omega) (by omega) (by omega), eh j hj]
      · intro j _ _; rw [w143]
      · rw [w142, f3]
      · rw [wo 0 (by decide) (by decide) (by decide), e0, upR_ne _ _ (by decide)]
      · rw [wo o9 (by decide) (by decide) (by decide)]; exact u5 o9 (by decide) (by decide) (by decide) (by decide) (by decide) (by decide) (fun j hj => by rw [o9v]; omega)
      · intro j _ _; rw [w143]
      · rw [w142, f7]
      · rw [wo 137 (by decide) (by decide) (by decide), u4]
      · rw [wo 138 (by decide) (by decide) (by decide)]; exact k 138 (by omega) (by omega) (by omega)
      · exact kk 144 (by omega) (by omega) (by omega) (by omega) (by omega) (by omega)
      · refine ⟨?_, ?_, ?_, ?_⟩
        · rw [w142, wo 0 (by decide) (by decide) (by decide), e0, upR_eq, f10]
        · rw [w142, wo 0 (by decide) (by decide) (by decide), e0, upR_ne _ _ (by decide), f11, he2]
        · rw [wo 0 (by decide) (by decide) (by decide), e0, upR_eq, ← f10]; omega
        · rw [wo 0 (by decide) (by decide) (by decide), e0, upR_ne _ _ (by decide)]; exact ⟨he5, he6⟩
      · rw [w142, f15]
      · exact kk 140 (by omega) (by omega) (by omega) (by omega) (by omega) (by omega)
      · exact kk 141 (by omega) (by omega) (by omega) (by omega) (by omega) (by omega)
      · exact kk 146 (by omega) (by omega) (by omega) (by omega) (by omega) (by omega)
      · rw [w2]; exact u2
      · rw [wo 139 (by decide) (by decide) (by decide)]; exact u3
  | true =>
    by_cases hs : (zRun (zPg (T.1 138) (T.1 137 1) 60 0).2.2 (T.1 o1)).1 < (zPg (T.1 138) (T.1 137 1) 60 0).2.2.length
    · obtain ⟨T', ⟨u1, u2, u3, u4, u5⟩, e0, ⟨Y, Z, eo1⟩, e33, eh, hx⟩ := c_X10_run_fail (L := L) (xs := xs) (t := t) (d := d) (T := T) (by omega) ht2 ht3 ht5 h7 h8 h1.1 hH ok hs
      have hw := w_L_run_4 hx
      have k : ∀ o, 98 < o → ¬ o = 137 → ¬ o = 139 → T'.1 o = T.1 o := fun o a b c => u5 o (by omega) (by rw [o1v]; omega) (by rw [o17v]; omega) b c (by omega) (fun j hj => by omega)
      obtain ⟨F', C', A', v, h, f7, f3, f15, _, hyes⟩ := hmod (t + 1) T' (k 142 (by omega) (by omega) (by omega)) (k 143 (by omega) (by omega) (by omega)) (k 144 (by omega) (by omega) (by omega))
      obtain ⟨f10, _, hf⟩ := hyes ok
      obtain ⟨f0, f2, f11, fA⟩ := hf (by omega)
      rw [zz_id (k 142 (by omega) (by omega) (by omega)) (k 143 (by omega) (by omega) (by omega))] at h
      obtain ⟨v', b1, b2, ev⟩ := ze_int (Int32.ofInt v)
      rw [ev] at h
      refine ⟨2, v', t + 1, _, _, hw, h, ?_, by omega, ⟨b1, b2⟩, trivial, fun _ => by omega, by omega, ?_⟩
      · rw [sD_ne _ _ (by decide), sD_eq]; exact f0
      · have w142 : (sD (sD (sD T' 145 C') 142 F') 143 A').1 142 = F' := by rw [sD_ne _ _ (by decide), sD_eq]
        have w143 : ∀ j, 0 ≤ j → j < 630 → (sD (sD (sD T' 145 C') 142 F') 143 A').1 143 j = T.1 143 j := fun j j0 j1 => by
          rw [sD_eq, fA]
          by_cases g : j < 63
          · rw [rCp_is _ _ _ (by omega) (by omega), hhi (by omega), rCp_is _ _ _ (by omega) (by omega)]
            exact congrArg _ (by omega)
          · rw [rCp_ne _ _ _ (by omega), hhi (by omega), rCp_ne _ _ _ (by omega)]
        have wo : ∀ o, ¬ o = 142 → ¬ o = 143 → ¬ o = 145 → (sD (sD (sD T' 145 C') 142 F') 143 A').1 o = T'.1 o := fun o a b c => by rw [sD_ne _ _ b, sD_ne _ _ a, sD_ne _ _ c]
        have w2 : (sD (sD (sD T' 145 C') 142 F') 143 A').2.1 = T'.2.1 := rfl
        generalize sD (sD (sD T' 145 C') 142 F') 143 A' = U at w142 w143 wo w2 ⊢
        have kk : ∀ o, 98 < o → ¬ o = 137 → ¬ o = 139 → ¬ o = 142 → ¬ o = 143 → ¬ o = 145 → U.1 o = T.1 o := fun o a b c e f g => by rw [wo o e f g, k o a b c]
        refine zIv_run hI (by omega) ?_ (zIh_same (T := T) (N := N + 1800) ?_ ?_ ?_ ?_ ?_) ?_ ?_ ?_ ?_ ?_ ?_ ?_ ?_ ?_ ?_ ?_ ?_ ?_ ?_ ?_
        · rw [wo o1 (by decide) (by decide) (by decide), eo1]
          exact zPr_on (zPr_cpy (zPr_cpy (zPr_mono h1 (by omega)) Y) Z) (fun j j0 j1 => w143 j j0 (by omega))
        · exact ⟨hH, hc2, fun i a b => zPr_mono (hh i a b) (by omega)⟩
        · rw [w142, f2]
        · rw [wo 33 (by decide) (by decide) (by decide), e33]
        · intro j hj; rw [wo _ (by omega) (by omega) (by omega), eh j hj]
        · intro j j0 j1; exact w143 j (by omega) (by omega)
        · rw [w142, f3]
        · rw [wo 0 (by decide) (by decide) (by decide), e0, upR_ne _ _ (by decide)]
        · rw [wo o9 (by decide) (by decide) (by decide)]; exact u5 o9 (by decide) (by decide) (by decide) (by decide) (by decide) (by decide) (fun j hj => by rw [o9v]; omega)
        · intro j j0 j1; exact w143 j (by omega) (by omega)
        · rw [w142, f7]
        · rw [wo 137 (by decide) (by decide) (by decide), u4]
        · rw [wo 138 (by decide) (by decide) (by decide)]; exact k 138 (by omega) (by omega) (by omega)
        · exact kk 144 (by omega) (by omega) (by omega) (by omega) (by omega) (by omega)
        · refine ⟨?_, ?_, ?_, ?_⟩
          · rw [w142, wo 0 (by decide) (by decide) (by decide), e0, upR_ne _ _ (by decide), f10, he1]
          · rw [w142, wo 0 (by decide) (by decide) (by decide), e0, upR_eq, f11, hz1]
          · rw [wo 0 (by decide) (by decide) (by decide), e0, upR_ne _ _ (by decide)]; exact ⟨he3, he4⟩
          · rw [wo 0 (by decide) (by decide) (by decide), e0, upR_eq]; omega
        · rw [w142, f15]
        · exact kk 140 (by omega) (by omega) (by omega) (by omega) (by omega) (by omega)
        · exact kk 141 (by omega) (by omega) (by omega) (by omega) (by omega) (by omega)
        · exact kk 146 (by omega) (by omega) (by omega) (by omega) (by omega) (by omega)
        · rw [w2]; exact u2
        · rw [wo 139 (by decide) (by decide) (by decide)]; exact u3
    · obtain ⟨T', ⟨u1, u2, u3, u4, u5⟩, e0, eo1, e33, eh, ⟨Y, Z, esl⟩, hx⟩ := c_X10_run_ok (L := L) (xs := xs) (t := t) (d := d) (T := T) (by omega) ht2 ht3 ht5 h7 h8 h1.1 hH ok hs
      have hw := w_L_run_ok (by omega) (by omega) hx
      have k : ∀ o, 98 < o → ¬ o = 137 → ¬ o = 139 → T'.1 o = T.1 o := fun o a b c => u5 o (by omega) (by rw [o1v]; omega) (by rw [o17v]; omega) b c (by omega) (fun j hj => by omega)
      generalize hS : sD T' 147 (upR (T'.1 147) 0 ((zPg (T.1 138) (T.1 137 1) 60 0).2.2.length : Nat)) = S at hw
      have so : ∀ o, ¬ o = 147 → S.1 o = T'.1 o := fun o a => by rw [← hS, sD_ne _ _ a]
      have s147 : S.1 147 0 = ((zPg (T.1 138) (T.1 137 1) 60 0).2.2.length : Nat) := by rw [← hS, sD_eq, upR_eq]
      have s2 : S.2.1 = T'.2.1 := by rw [← hS]; rfl
      have k142 : S.1 142 = T.1 142 := by rw [so 142 (by decide)]; exact k 142 (by omega) (by omega) (by omega)
      have k143 : S.1 143 = T.1 143 := by rw [so 143 (by decide)]; exact k 143 (by omega) (by omega) (by omega)
      have k144 : S.1 144 = T.1 144 := by rw [so 144 (by decide)]; exact k 144 (by omega) (by omega) (by omega)
      obtain ⟨F', C', A', v, h, f7, f3, f15, _, hyes⟩ := hmod t S k142 k143 k144
      obtain ⟨f10, hf, _⟩ := hyes ok
      obtain ⟨fv, f0, f2, f11, fA⟩ := hf (by omega)
      rw [zz_id k142 k143, fv] at h
      refine ⟨0, _, t, _, _, hw, h, ?_, by omega, ⟨by omega, by omega⟩, trivial, fun _ => ?_, by omega, ?_⟩
      · rw [sD_ne _ _ (by decide), sD_eq]; exact f0
      · rw [sD_ne _ _ (by decide), sD_ne _ _ (by decide), sD_ne _ _ (by decide), s147]
      · have w142 : (sD (sD (sD S 145 C') 142 F') 143 A').1 142 = F' := by rw [sD_ne _ _ (by decide), sD_eq]
        have w143 : (sD (sD (sD S 145 C') 142 F') 143 A').1 143 = rEnA 0 (T.1 142) (rRun (zPg (T.1 138) (T.1 137 1) 60 0).2.2 (rCp 0 10 (T.1 143))).2 := by rw [sD_eq, fA]
        have wo : ∀ o, ¬ o = 142 → ¬ o = 143 → ¬ o = 145 → ¬ o = 147 → (sD (sD (sD S 145 C') 142 F') 143 A').1 o = T'.1 o := fun o a b c e => by rw [sD_ne _ _ b, sD_ne _ _ a, sD_ne _ _ c, so o e]
        have w2 : (sD (sD (sD S 145 C') 142 F') 143 A').2.1 = T'.2.1 := s2
        generalize sD (sD (sD S 145 C') 142 F') 143 A' = U at w142 w143 wo w2 ⊢
        have kk : ∀ o, 98 < o → ¬ o = 137 → ¬ o = 139 → ¬ o = 142 → ¬ o = 143 → ¬ o = 145 → ¬ o = 147 → U.1 o = T.1 o := fun o a b c e f g q => by rw [wo o e f g q, k o a b c]
        refine zIv_run hI (by omega) ?_ (zIh_put (F := T.1 142) (X := (rRun (zPg (T.1 138) (T.1 137 1) 60 0).2.2 (rCp 0 10 (T.1 143))).2) h2 (by omega) ?_ ?_ ?_ ?_ rfl w143 ?_ ?_) ?_ ?_ ?_ ?_ ?_ ?_ ?_ ?_ ?_ ?_ ?_ ?_ ?_ ?_ ?_
        · rw [wo o1 (by decide) (by decide) (by decide) (by decide), eo1, w143]
          exact zPr_on (zPr_mono hz2 (by omega)) (fun j j0 j1 => rEnA_out (by omega) (by omega) (by omega))
        · rw [wo 33 (by decide) (by decide) (by decide) (by decide), e33]
        · rw [w142, f2]
        · rw [wo _ (by omega) (by omega) (by omega) (by omega), esl]
          exact zPr_cpy (zPr_cpy h1 Y) Z
        · intro j hj hn; rw [wo _ (by omega) (by omega) (by omega) (by omega), eh j hj hn]
        · intro j j0 j1
          rw [hhi (by omega), rCp_is _ _ _ (by omega) (by omega)]
          exact congrArg _ (by omega)
        · intro j j0 j1
          rw [hhi (by omega), rCp_ne _ _ _ (by omega)]
        · rw [w142, f3]
        · rw [wo 0 (by decide) (by decide) (by decide) (by decide), e0]
        · rw [wo o9 (by decide) (by decide) (by decide) (by decide)]; exact u5 o9 (by decide) (by decide) (by decide) (by decide) (by decide) (by decide) (fun j hj => by rw [o9v]; omega)
        · intro j j0 j1
          rw [w143, rEnA_out (by omega) (by omega) (by omega), hhi (by omega), rCp_ne _ _ _ (by omega)]
        · rw [w142, f7]
        · rw [wo 137 (by decide) (by decide) (by decide) (by decide), u4]
        · rw [wo 138 (by decide) (by decide) (by decide) (by decide)]; exact k 138 (by omega) (by omega) (by omega)
        · exact kk 144 (by omega) (by omega) (by omega) (by omega) (by omega) (by omega) (by omega)
        · unfold zIe
          rw [w142, wo 0 (by decide) (by decide) (by decide) (by decide), e0, f10, f11]
          exact ⟨he1, he2, ⟨he3, he4⟩, he5, he6⟩
        · rw [w142, f15]
        · exact kk 140 (by omega) (by omega) (by omega) (by omega) (by omega) (by omega) (by omega)
        · exact kk 141 (by omega) (by omega) (by omega) (by omega) (by omega) (by omega) (by omega)
        · exact kk 146 (by omega) (by omega) (by omega) (by omega) (by omega) (by omega) (by omega)
        · rw [w2]; exact u2
        · rw [wo 139 (by decide) (by decide) (by decide) (by decide)]; exact u3
end GR
