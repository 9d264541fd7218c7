/-! A BASIN SPILLS AT LEAST A UNIT IN EACH STEP IN WHICH IT IS FLOODED -/
def zFd (A : Int → Int) : Prop := ∀ k, 0 ≤ k → k < A 0 → A (6 + 9 * k + 8) ≤ A (6 + 9 * k + 7)
section FLD
variable {A : Int → Int} {p q r : Int}
theorem zSt_fd (hA : zWF A 99) (h : zFd A) : zFd (zSt A) := by
  have a5 := hA.2.1
  intro k q0 q1
  rw [zSt_0 a5] at q1
  have h7 := zSt_s hA q0 q1
  have h8 := zSt_n hA q0 q1
  have ht := h k q0 q1
  have hs := zSpv_bd hA q0 q1
  have hv : zSt2 A (6 + 9 * k + 0) < zSt2 A (6 + 9 * k + 1) → 1 ≤ zSpv k (zSt2 A) := fun hh => by unfold zSpv; rw [if_pos hh]; omega
  rw [h8]
  split
  · next hh => have := hv hh; omega
  · omega
theorem zPs_fd : ∀ (n : Nat) {A : Int → Int}, zWF A 99 → zFd A → zFd (zPs n A)
  | 0, _, _, h => h
  | n + 1, _, hA, h => zPs_fd n (zSt_wf hA) (zSt_fd hA h)
theorem zFd_of {X : Int → Int} (h : zFd A) (e0 : X 0 = A 0) (ek : ∀ k, 0 ≤ k → k < A 0 → X (6 + 9 * k + 7) = A (6 + 9 * k + 7) ∧ X (6 + 9 * k + 8) = A (6 + 9 * k + 8)) : zFd X := by
  intro k q0 q1
  rw [e0] at q1
  have h1 := h k q0 q1
  have h2 := ek k q0 q1
  omega
theorem zCo_fd : ∀ {k : Nat}, k < 8 → zWF A 99 → zFd A → zfOf k A p q r = 1010 → zFd (zCo k A p q r)
  | 0, _, hA, h, hf => by
    obtain ⟨a0, a5, a2, a12, ak, af⟩ := hA
    unfold zfOf zfNew at hf
    simp only at hf
    repeat' split at hf
    all_goals try omega
    have e := fun j => zBeg_at (i := A 0) (p := p) (q := q) (r := r) (j := j) (A := A)
    have xh : ∀ j, ¬ j = 0 → ¬ (6 + 9 * A 0 ≤ j ∧ j < 6 + 9 * A 0 + 9) → upR (zBeg (A 0) p q r A) 0 (A 0 + 1) j = A j := fun j h1 h2 => by rw [upR_ne _ _ h1, e, if_neg (by omega), if_neg (by omega), if_neg (by omega), if_neg h2]
    unfold zCo
    simp only
    intro k q0 q1
    rw [upR_eq] at q1
    by_cases ek : k = A 0
    · subst ek
      have v7 : upR (zBeg (A 0) p q r A) 0 (A 0 + 1) (6 + 9 * A 0 + 7) = 0 := by rw [upR_ne _ _ (by omega), e, if_neg (by omega), if_neg (by omega), if_neg (by omega), if_pos (by omega)]
      have v8 : upR (zBeg (A 0) p q r A) 0 (A 0 + 1) (6 + 9 * A 0 + 8) = 0 := by rw [upR_ne _ _ (by omega), e, if_neg (by omega), if_neg (by omega), if_neg (by omega), if_pos (by omega)]
      omega
    · rw [xh (6 + 9 * k + 7) (by omega) (by omega), xh (6 + 9 * k + 8) (by omega) (by omega)]
      exact h k q0 (by omega)
  | 1, _, hA, h, hf => by
    have a5 := hA.2.1
    unfold zfOf zfGate at hf
    simp only at hf
    repeat' split at hf
    all_goals try omega
    unfold zCo
    simp only
    exact zFd_of h (upR_ne _ _ (by omega)) (fun k q0 q1 => ⟨upR_ne _ _ (by omega), upR_ne _ _ (by omega)⟩)
  | 2, _, hA, h, hf => by
    have a5 := hA.2.1
    unfold zfOf zfAt zfR at hf
    simp only at hf
    repeat' split at hf
    all_goals try omega
    have x : ∀ j, ¬ j = 6 + 9 * p + 5 → ¬ j = 6 + 9 * p + 6 → upR (upR A (6 + 9 * p + 5) 1) (6 + 9 * p + 6) q j = A j := fun j h1 h2 => by rw [upR_ne _ _ h2, upR_ne _ _ h1]
    unfold zCo
    simp only
    exact zFd_of h (x _ (by omega) (by omega)) (fun k q0 q1 => ⟨x _ (by omega) (by omega), x _ (by omega) (by omega)⟩)
  | 3, _, hA, h, hf => by
    have a5 := hA.2.1
    unfold zfOf zfHand at hf
    simp only at hf
    repeat' split at hf
    all_goals try omega
    unfold zCo
    simp only
    exact zFd_of h (upR_ne _ _ (by omega)) (fun k q0 q1 => ⟨upR_ne _ _ (by omega), upR_ne _ _ (by omega)⟩)
  | 4, _, hA, h, hf => by
    have a5 := hA.2.1
    have a2 := hA.2.2.1
    unfold zfOf zfRain at hf
    simp only at hf
    repeat' split at hf
    all_goals try omega
    have x : ∀ j, ¬ j = 2 → ¬ j = 51 + A 2 → upR (upR A (51 + A 2) p) 2 (A 2 + 1) j = A j := fun j h1 h2 => by rw [upR_ne _ _ h1, upR_ne _ _ h2]
    unfold zCo
    simp only
    exact zFd_of h (x _ (by omega) (by omega)) (fun k q0 q1 => ⟨x _ (by omega) (by omega), x _ (by omega) (by omega)⟩)
  | 5, _, hA, h, _ => by
    have a5 := hA.2.1
    unfold zCo
    simp only
    exact zFd_of h (upR_ne _ _ (by omega)) (fun k q0 q1 => ⟨upR_ne _ _ (by omega), upR_ne _ _ (by omega)⟩)
  | 6, _, hA, h, hf => by
    have a5 := hA.2.1
    unfold zfOf zfPour at hf
    simp only at hf
    repeat' split at hf
    all_goals try omega
    unfold zCo
    simp only
    have x : ∀ j, ¬ j = 5 → ¬ j = 6 + 9 * p + 1 → upR (upR A (6 + 9 * p + 1) (A (6 + 9 * p + 1) + q)) 5 (A 5 + q) j = A j := fun j h1 h2 => by rw [upR_ne _ _ h1, upR_ne _ _ h2]
    exact zFd_of h (x _ (by omega) (by omega)) (fun k q0 q1 => ⟨x _ (by omega) (by omega), x _ (by omega) (by omega)⟩)
  | 7, _, hA, h, _ => zPs_fd _ hA h
  | k + 8, h, _, _, _ => absurd h (by omega)
end FLD
section BEG
variable {z : Nat} {kad0 kad sec : Nat → Nat} {dC : Nat → ClassId} {dI : Nat → Nat → Nat} {cA : Nat → ClassId} {L : Nat} {xs : Nat → Int32}
variable {p : Program} {l : Launch} {e : Env} {R : Room} {s0 s : State} {m : MethodId} {args : Array Value} {below : List Frame} {meth : Method} {c : Code} {Q : State → Prop} {D : va_G} {cB : ClassId} {d1 d2 : Nat} {ka kv : Nat → Nat}
variable {pc nx a b w9 : Nat} {ls : mv_V} {st : List Value} {σ : mv_S}
theorem mp_nwa (hG : mo_G z kad0 dC dI cA L xs p s0 m args meth c D cB d1 d2 ka kv) {u w : Nat} {F : Nat → mo_T} (hin : mv_in k_L_law pc = some (.newarray .int, nx, a, b, w9)) (h142 : σ.2.1 = 142) (hsm : mo_sm σ) (hbd : mv_cc σ ≤ 500000 ∧ mv_ss σ ≤ 5000000 ∧ w ≤ 1500) (hls : ∀ q ∈ ls, mo_rf (3000 + u) q.2) (hst : ∀ v ∈ st, mo_rf (3000 + u) v) {x : Int32} {n : Nat} (hx9 : x = nI n) (hn9 : n ≤ 5)
    (k : mo_W z kad0 dC dI cA p l e s0 m args below meth c D cB (u + 1, w + 1, mo_up F u (.inr (.inr (.inl (n, fun _ => 0))))) nx ls (.ref (3000 + u) :: st) σ) : mo_W z kad0 dC dI cA p l e s0 m args below meth c D cB (u, w, F) pc ls (.int x :: st) σ := mo_nwa (τ := (u, w, F)) hG hin h142 hsm hbd hls hst hx9 hn9 k
/-- no things at all -/
theorem mo_drop {u w : Nat} {F F0 : Nat → mo_T} (k : mo_W z kad0 dC dI cA p l e s0 m args below meth c D cB (0, w, F0) pc ls st σ) : mo_W z kad0 dC dI cA p l e s0 m args below meth c D cB (u, w, F) pc ls st σ := by
  intro kad sec s R lsA Q hk hB hM hX hl hR hQ
  exact k kad sec s R lsA Q hk hB hM (fun i hi => absurd hi (Nat.not_lt_zero i)) hl hR hQ
/-- fewer locals -/
theorem mo_sub {τ : mo_S} {ls' : mv_V} (ks : List Nat) (h : ∀ ad : Nat → Nat, lv_pick (mv_lm ad ls) ks = mv_lm ad ls') (k : mo_W z kad0 dC dI cA p l e s0 m args below meth c D cB τ pc ls' st σ) : mo_W z kad0 dC dI cA p l e s0 m args below meth c D cB τ pc ls st σ := by
  intro kad sec s R lsA Q hk hB hM hX hl hR hQ
  exact k kad sec s R lsA Q hk hB hM hX (lv_sub hl ks (h _)) hR hQ
theorem mo_f1 {n i : Nat} {ls : mv_V} (h : ∀ q ∈ ls, mo_rf n q.2) : ∀ q ∈ mv_f1 i ls, mo_rf n q.2 := fun q hq => h q (List.mem_filter.mp hq).1
theorem mo_cns {n i : Nat} {v : Value} {ls : mv_V} (hv : mo_rf n v) (h : ∀ q ∈ ls, mo_rf n q.2) : ∀ q ∈ (i, v) :: ls, mo_rf n q.2 := fun q hq => by
  rcases List.mem_cons.mp hq with e | e
  · rw [e]; exact hv
  · exact h q e
theorem mc_l3 {x : Int32} (h : mv_lk 3 ls = some (.int x)) : mv_stp L xs (.iload_n 3, nx, a, b, w9) ls st σ = some (.inl (nx, ls, .int x :: st, σ)) := by
  show mv_ld 0 (mv_lk 3 ls) nx ls st σ = _
  rw [h]
  rfl
/-- two empty texts and a row -/
theorem mc_begin (hG : mo_G z kad0 dC dI cA L xs p s0 m args meth c D cB d1 d2 ka kv) {t w n : Nat} {h : mv_H} (hsm : mo_sm (t, 142, h)) {F : Nat → mo_T} (hbd : mv_cc (t, 142, h) ≤ 500000 ∧ mv_ss (t, 142, h) ≤ 5000000 ∧ w ≤ 1400) (hr : ∀ q ∈ ls, mo_rf 3000 q.2) (h3 : ∀ x y z9 : Value, mv_lk 3 ((12, y) :: mv_f1 12 ((11, z9) :: mv_f1 11 ls)) = some (.int (nI n))) (hn : n ≤ 5)
    (k9 : mo_W z kad0 dC dI cA p l e s0 m args below meth c D cB (3, w + 3, mo_up (mo_up (mo_up F 0 (.inl [])) 1 (.inl [])) 2 (.inr (.inr (.inl (n, fun _ => 0))))) 79 ((13, .ref 3002) :: mv_f1 13 ((12, .ref 3001) :: mv_f1 12 ((11, .ref 3000) :: mv_f1 11 ls))) [] (t, 142, h)) :
    mo_W z kad0 dC dI cA p l e s0 m args below meth c D cB (0, w, F) 66 ls [] (t, 142, h) := by
  refine mp_ldc hG (i := 0) (by decide) r_L_law_66 rfl hsm ⟨hbd.1, hbd.2.1, by omega⟩ hr mo_s0 ?_
  refine mp_row hG r_L_law_68 rfl ⟨hbd.1, hbd.2.1, by omega⟩ ?_
  have hr1 : ∀ q ∈ (11, Value.ref 3000) :: mv_f1 11 ls, mo_rf 3001 q.2 := mo_cns (Nat.le_of_ble_eq_true rfl) (mo_f1 (fun q hq => mo_rf_mono (by omega) (hr q hq)))
  refine mp_ldc hG (i := 0) (by decide) r_L_law_70 rfl hsm ⟨hbd.1, hbd.2.1, by omega⟩ hr1 mo_s0 ?_
  refine mp_row hG r_L_law_72 rfl ⟨hbd.1, hbd.2.1, by omega⟩ ?_
  have hr2 : ∀ q ∈ (12, Value.ref 3001) :: mv_f1 12 ((11, Value.ref 3000) :: mv_f1 11 ls), mo_rf 3002 q.2 := mo_cns (Nat.le_of_ble_eq_true rfl) (mo_f1 (fun q hq => mo_rf_mono (by omega) (hr1 q hq)))
  refine mp_row hG r_L_law_74 (mc_l3 (h3 .null (.ref 3001) (.ref 3000))) ⟨hbd.1, hbd.2.1, by omega⟩ ?_
  refine mp_nwa hG r_L_law_75 rfl hsm ⟨hbd.1, hbd.2.1, by omega⟩ hr2 mo_s0 rfl hn ?_
  exact mp_row hG r_L_law_77 rfl ⟨hbd.1, hbd.2.1, by omega⟩ k9
end BEG
