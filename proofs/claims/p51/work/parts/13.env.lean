/-! WHAT STANDS STILL, SEEN FROM A CALLEE; CALLS -/
theorem mv_En_to {z : Nat} {kad : Nat → Nat} {dC : Nat → ClassId} {dI : Nat → Nat → Nat} {cA : Nat → ClassId} {L : Nat} {xs : Nat → Int32} {s U : State} {H : Heap} {locs : List Loc}
    (h : mv_En z kad dC dI cA L xs s) (hW : s.WarmedH U.vm) (hS : va_S (mv_A1 z) s.heap H locs) (hU : U.heap = H) : mv_En z kad dC dI cA L xs U := by
  subst hU
  have hvm := hW.alike
  obtain ⟨h1, h2, h3, h4, h5, h7, ⟨h8, h9, h10⟩, h12, h13, h14, h16, h17⟩ := h
  refine ⟨va_K.moved hvm h1, Nat.le_trans h2 hS.1, fun a ha => (va_Z.moved hvm (h3 a ha)).kept hS.2.1, fun i hi => ⟨(va_O.moved hvm (h4 i hi).1).kept hS.2.1, (va_OF.moved hvm (h4 i hi).2).kept hS.2.1⟩, h5,
    (va_T.moved hvm h7).kept hS.2.1, ⟨h8, h9, (va_X.moved hvm h10).kept (hS.2.1 _ (Nat.lt_of_lt_of_le h9 h2) (fun q => absurd q.1 (Nat.not_le.mpr h9)))⟩, (vx_Zq.moved hvm h12).kept hS.2.1, (vx_Zq.moved hvm h13).kept hS.2.1, fun w hw hn => ?_, fun i j hi hj hij => va_Nc.moved hvm (h16 i j hi hj hij), fun o k tx hw => (h17 o k tx hw).imp fun a ha => vk_R.warm hW ha⟩
  have h15 := h14 w hw hn
  unfold mv_nest at hn
  split at hn
  · exact va_Nw.warmF hW h15
  · exact va_Nw.warmM hW h15
  · exact va_Nw.warmC hW h15
  · exact va_Nw.warmD hW h15
  · next C => exact va_AO.moved (C := C) hvm h15
  · cases hn
section CALL
variable {z : Nat} {kad : Nat → Nat} {dC : Nat → ClassId} {dI : Nat → Nat → Nat} {cA : Nat → ClassId} {L : Nat} {xs : Nat → Int32}
variable {p : Program} {l : Launch} {e : Env} {R : Room} {s : State} {m : MethodId} {args : Array Value} {below : List Frame} {meth : Method} {c : Code} {Q : State → Prop} {c0 s0 M : Nat}
variable {pc pc' nx a b w : Nat} {ls ls' : mv_V} {st st' : List Value} {σ σ' : mv_S}
noncomputable def mv_hh (M : Nat) : List (Nat × Nat × Nat × Nat) := (mv_hl M mv_hs).map (fun q => (q.1, q.2.1, q.2.2.1, q.2.2.2.1))
noncomputable def mv_w1 (M : Nat) : Cond := if mv_nh M = true then .code (mv_mi M).2.1 (mv_mi M).1 (mv_mi M).2.2.1 (mv_mi M).2.2.2.1 else .codeWith (mv_mi M).2.1 (mv_mi M).1 (mv_mi M).2.2.1 (mv_mi M).2.2.2.1 (mv_hh M)
noncomputable def mv_ws (M : Nat) : List Cond := mv_w1 M :: mv_TS
def mv_rm (d mc ms : Nat) : Room := { frames := 20 + d, cells := mc, slots := ms, locals := 300 + 60 * d }
def mv_Pc (z : Nat) (kad : Nat → Nat) (dC : Nat → ClassId) (dI : Nat → Nat → Nat) (cA : Nat → ClassId) (L : Nat) (xs : Nat → Int32) (as : List Value) (σ : mv_S) : Array Value → State → Prop :=
  va_Pc (as.map (mv_cv (mv_ad z kad))) (fun U => mv_En z kad dC dI cA L xs U ∧ mv_Mo z kad dC dI cA σ U.heap)
def mv_Qc (z : Nat) (kad : Nat → Nat) (dC : Nat → ClassId) (dI : Nat → Nat → Nat) (cA : Nat → ClassId) (r : mv_R) : Array Value → State → Outcome → State → Prop := fun _ st o t =>
  ∃ v, r.1 = .inl v ∧ o = .returned (v.map (mv_cv (mv_ad z kad))) ∧ mv_Mo z kad dC dI cA r.2 t.heap ∧ va_F (mv_A1 z) st t
def mv_XC (z : Nat) (kad : Nat → Nat) (dC : Nat → ClassId) (dI : Nat → Nat → Nat) (cA : Nat → ClassId) (r : mv_R) : String → State → State → Prop := fun E st t =>
  ∃ k, r.1 = .inr k ∧ mv_e6 k = true ∧ E = mv_ec k ∧ mv_Mo z kad dC dI cA r.2 t.heap ∧ va_F (mv_A1 z) st t
/-- the contract of M at depth d, at these arguments, from σ -/
def mv_Ct (z : Nat) (kad : Nat → Nat) (dC : Nat → ClassId) (dI : Nat → Nat → Nat) (cA : Nat → ClassId) (L : Nat) (xs : Nat → Int32) (l : Launch) (d M : Nat) (as : List Value) (σ : mv_S) (r : mv_R) : Prop :=
  vx_Met l (mv_mi M).2.1 (mv_ws M) (mv_rm d (mv_cc r.2 - mv_cc σ) (mv_ss r.2 - mv_ss σ)) (mv_Pc z kad dC dI cA L xs as σ) (mv_Qc z kad dC dI cA r) (mv_XC z kad dC dI cA r) (mv_cc r.2 - mv_cc σ) (mv_ss r.2 - mv_ss σ) (mv_A1 z)
theorem mv_blind {as : List Value} {σ : mv_S} : FrameBlind (mv_Pc z kad dC dI cA L xs as σ) := by
  intro a U g mk h
  obtain ⟨h1, h2, h3⟩ := h
  exact ⟨h1, mv_En_to h2 (by exact State.WarmedH.refl U) (va_S.rf (A := mv_A1 z) (H0 := U.heap)) rfl, h3⟩
/-- a call that is run: the walk goes on behind it -/
theorem mv_after {r : mv_R} {H : Heap} {locs : List Loc} {cells slots : Nat} {lsA : Array Slot} {st0 rest : List Value} {aa : Array Value}
    (hr : vx_Run p l e R s m args below meth c H locs cells slots (mv_cc r.2 - mv_cc σ) (mv_ss r.2 - mv_ss σ) (F0 m pc lsA st0) rest (mv_Qc z kad dC dI cA r aa) (mv_XC z kad dC dI cA r) (mv_A1 z))
    (hS : va_S (mv_A1 z) s.heap H locs) (hl : lv_has lsA c.maxLocals (mv_lm (mv_ad z kad) ls)) (hc : cells + c0 = mv_cc σ) (hs : slots + s0 = mv_ss σ) (hm : mv_cc σ ≤ mv_cc r.2 ∧ mv_ss σ ≤ mv_ss r.2)
    (kv : ∀ v, r.1 = .inl v → ∀ (H1 : Heap) (locs1 : List Loc) (cells1 slots1 : Nat), mv_Mo z kad dC dI cA r.2 H1 → va_S (mv_A1 z) s.heap H1 locs1 → cells1 + c0 = mv_cc r.2 → slots1 + s0 = mv_ss r.2 → W p l e R s m args below meth c H1 locs1 cells1 slots1 Q (F0 m (pc + 3) lsA ((v.map (mv_cv (mv_ad z kad))).toList ++ rest)))
    (kx : ∀ k, r.1 = .inr k → mv_e6 k = true → ∀ (H1 : Heap) (locs1 : List Loc) (cells1 slots1 : Nat) (q : Addr) (ce : Cell), mv_Mo z kad dC dI cA r.2 H1 → va_S (mv_A1 z) s.heap H1 locs1 → cells1 + c0 = mv_cc r.2 → slots1 + s0 = mv_ss r.2 → H1[q]? = some ce → ce.vm = .none → s.vm.findClass (mv_ec k) = some ce.cls → vx_W p l e R s m args below meth c H1 locs1 cells1 slots1 Q (F0 m pc lsA rest) q) :
    W p l e R s m args below meth c H locs cells slots Q (F0 m pc lsA st0) := by
  intro T hT X
  rcases hr T hT X with ⟨v, st₀, t, T', L1, h0, X', hL, e1, e2, ⟨v', hv', ho, hMo, hF⟩, st⟩ | ⟨q, st₀, t, T', L1, E, ce, h0, X', hL, e1, e2, ⟨k, hk, hk6, rfl, hMo, hF⟩, hce, hcv, hcl, st⟩
  · have hv : v = v'.map (mv_cv (mv_ad z kad)) := by cases ho; rfl
    subst hv
    have hS1 : va_S (mv_A1 z) s.heap T'.heap (locs ++ L1) := by
      refine ⟨Nat.le_trans hS.1 ?_, fun q h1 h2 => ?_, fun x hx => ?_⟩
      · rw [e1, ← h0]; exact hF.1
      · rw [e1, ← hS.2.1 q h1 h2, ← h0]
        exact hF.2 q (by rw [h0]; exact Nat.lt_of_lt_of_le h1 hS.1) h2
      · rcases List.mem_append.mp hx with h | h
        · exact hS.2.2 x h
        · exact hL x h
    obtain ⟨t2, a1, b1⟩ := kv v' hv' T'.heap (locs ++ L1) (cells + (mv_cc r.2 - mv_cc σ)) (slots + (mv_ss r.2 - mv_ss σ)) (by rw [e1]; exact hMo) hS1 (by omega) (by omega) T' rfl X'
    exact ⟨t2, st t2 a1, b1⟩
  · have hS1 : va_S (mv_A1 z) s.heap T'.heap (locs ++ L1) := by
      refine ⟨Nat.le_trans hS.1 ?_, fun q h1 h2 => ?_, fun x hx => ?_⟩
      · rw [e1, ← h0]; exact hF.1
      · rw [e1, ← hS.2.1 q h1 h2, ← h0]
        exact hF.2 q (by rw [h0]; exact Nat.lt_of_lt_of_le h1 hS.1) h2
      · rcases List.mem_append.mp hx with h | h
        · exact hS.2.2 x h
        · exact hL x h
    obtain ⟨t2, a1, b1⟩ := kx k hk hk6 T'.heap (locs ++ L1) (cells + (mv_cc r.2 - mv_cc σ)) (slots + (mv_ss r.2 - mv_ss σ)) q ce (by rw [e1]; exact hMo) hS1 (by omega) (by omega) (by rw [e1]; exact hce) hcv hcl T' rfl X'
    exact ⟨t2, st.trans a1, b1⟩
end CALL
