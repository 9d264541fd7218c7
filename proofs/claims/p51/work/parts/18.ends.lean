/-! THE CONTRACT OF EVERY CALL -/
def mv_ownB (X : String) (ix : Nat) (rx : ByteArray) (names : List String) : List Cond :=
  Bundle.throwableAtoms ++ Bundle.throwableSAtoms ++ mv_chainA X ix rx names ++
  [.instantiable X 6, .castable X X, .selects X Bundle.tFill0 Bundle.tFill0, .selects X Bundle.tFill Bundle.tFill,
   .lays X Bundle.tN "cause" "Ljava/lang/Throwable;", .lays X Bundle.tN "stackTrace" Bundle.steD, .lays X Bundle.tN "suppressedExceptions" Bundle.listD, .lays X Bundle.tN "detailMessage" "Ljava/lang/String;",
   .isRef (.static Bundle.tN "UNASSIGNED_STACK" Bundle.steD), .isRef (.static Bundle.tN "SUPPRESSED_SENTINEL" Bundle.listD),
   .fieldLink Bundle.tN 198 Bundle.tN "backtrace" "Ljava/lang/Object;", .lays Bundle.tN Bundle.tN "backtrace" "Ljava/lang/Object;", .lays X Bundle.tN "backtrace" "Ljava/lang/Object;"]
theorem mv_own_mem {own X : String} {ic ix : Nat} {rx : ByteArray} {names : List String} {w : Cond} (h : w ∈ mv_ownA own ic X ix rx names) : w = .methodLink own ic (Bundle.initS X) ∨ w ∈ mv_ownB X ix rx names := by
  unfold mv_ownA at h
  unfold mv_ownB
  rcases List.mem_append.mp h with h | h
  · exact Or.inr (List.mem_append_left _ h)
  · rcases List.mem_cons.mp h with h | h
    · exact Or.inl h
    · exact Or.inr (List.mem_append_right _ h)
theorem mv_twB : ∀ k, mv_e6 k = true → (((mv_ownB (mv_ec k) (mv_ixx k) (mv_rx k) mv_nms).filter vx_no).all (fun w => lw_tbl.elem w && (goodWord w || mv_nest w) && vx_ot w)) = true := fun k hk => (by decide +kernel : ∀ k, k < 6 → mv_e6 k = true → (((mv_ownB (mv_ec k) (mv_ixx k) (mv_rx k) mv_nms).filter vx_no).all (fun w => lw_tbl.elem w && (goodWord w || mv_nest w) && vx_ot w)) = true) k (mv_e6_lt hk) hk
theorem mv_twI : ∀ k, mv_e6 k = true → lw_tbl.elem (Cond.initialized (mv_ec k)) = true := fun k hk => (by decide +kernel : ∀ k, k < 6 → mv_e6 k = true → lw_tbl.elem (Cond.initialized (mv_ec k)) = true) k (mv_e6_lt hk) hk
/-- a throw's rows: new, dup, ldc or ldc_w, invokespecial, athrow; its words -/
noncomputable def mv_tck (M : Nat) (q : Nat × mv_I) : Bool := match q with
  | (pc, (.new i, _, a, k, w)) => !decide (a = 99) || (mv_nh M && decide (mv_e6 k = true) && decide (lw_tbl[w]? = some (.classLink (mv_mi M).2.1.cls i (mv_ec k))) &&
      (match mv_in M (pc + 3), mv_in M (pc + 4) with
        | some (.dup, _), some (.ldc _, _, _, _, w2) => (match lw_tbl[w2]?, mv_in M (pc + 4), mv_in M (pc + 6), mv_in M (pc + 9) with
          | some (.stringRef o j _), some (.ldc is, _), some (.invokespecial ic, _, _, _, w3), some (.athrow, _) => decide (o = (mv_mi M).2.1.cls) && decide (j = is) && decide (lw_tbl[w3]? = some (.methodLink (mv_mi M).2.1.cls ic (Bundle.initS (mv_ec k))))
          | _, _, _, _ => false)
        | some (.dup, _), some (.ldc_w _, _, _, _, w2) => (match lw_tbl[w2]?, mv_in M (pc + 4), mv_in M (pc + 7), mv_in M (pc + 10) with
          | some (.stringRef o j _), some (.ldc_w is, _), some (.invokespecial ic, _, _, _, w3), some (.athrow, _) => decide (o = (mv_mi M).2.1.cls) && decide (j = is) && decide (lw_tbl[w3]? = some (.methodLink (mv_mi M).2.1.cls ic (Bundle.initS (mv_ec k))))
          | _, _, _, _ => false)
        | _, _ => false))
  | _ => true
theorem mv_tck_all : ((List.range 127).all (fun M => (mv_tb M).all (mv_tck M))) = true := by decide +kernel
theorem mv_tck_at {M pc : Nat} {r : mv_I} (hM : M < 127) (h : mv_in M pc = some r) : mv_tck M (pc, r) = true := by
  unfold mv_in at h
  exact List.all_eq_true.mp (List.all_eq_true.mp mv_tck_all M (List.mem_range.mpr hM)) _ (mv_find_mem h)
section CT
variable {z : Nat} {kad : Nat → Nat} {dC : Nat → ClassId} {dI : Nat → Nat → Nat} {cA : Nat → ClassId} {L : Nat} {xs : Nat → Int32}
variable {p : Program} {l : Launch} {e : Env} {R : Room} {s : State} {m : MethodId} {args : Array Value} {below : List Frame} {meth : Method} {c : Code} {Q : State → Prop} {c0 s0 M d : Nat}
set_option maxHeartbeats 8000000 in
theorem mv_ret_inv {i : Instr} {nx a b w : Nat} {ls : mv_V} {st : List Value} {σ σ' : mv_S} {v : Option Value} (h : mv_stp L xs (i, nx, a, b, w) ls st σ = some (.inr (.inl (.inl v, σ')))) :
    σ' = σ ∧ ((i = .ireturn ∧ ∃ x, st = [.int x] ∧ v = some (.int x) ∧ (a = 0 ∨ (a = 1 ∧ (x = 0 ∨ x = 1)) ∨ (a = 2 ∧ mv_ch x = x))) ∨ (i = .lreturn ∧ ∃ x, st = [.long x] ∧ v = some (.long x)) ∨ (i = .freturn ∧ ∃ x, st = [.float x] ∧ v = some (.float x)) ∨
      (i = .dreturn ∧ ∃ x, st = [.double x] ∧ v = some (.double x)) ∨ (i = .areturn ∧ ∃ x, st = [.ref x] ∧ v = some (.ref x)) ∨ (i = .areturn ∧ st = [.null] ∧ v = some .null) ∨ (i = .return_ ∧ st = [] ∧ v = none)) := by
  simp only [mv_stp] at h
  split at h
  all_goals (try unfold mv_ld at h) <;> (try unfold mv_so at h) <;> (try unfold mv_get at h) <;> (try unfold mv_put at h) <;> (try unfold mv_aa at h) <;> (try unfold mv_al at h) <;> (try unfold mv_as at h) <;> (try unfold mv_aas at h) <;> (try unfold mv_len at h) <;> (try unfold mv_new at h) <;> (try unfold mv_nwa at h) <;> (try unfold mv_sw2 at h) <;> (try unfold mv_call at h) <;> (try unfold mv_r1 at h) <;> (try unfold mv_rt at h) <;> (try unfold mv_nx at h)
  all_goals repeat' split at h
  all_goals first
    | (cases h; done)
    | (next hg => cases h; exact ⟨rfl, Or.inl ⟨rfl, _, rfl, rfl, hg⟩⟩)
    | (cases h; exact ⟨rfl, Or.inr (Or.inl ⟨rfl, _, rfl, rfl⟩)⟩)
    | (cases h; exact ⟨rfl, Or.inr (Or.inr (Or.inl ⟨rfl, _, rfl, rfl⟩))⟩)
    | (cases h; exact ⟨rfl, Or.inr (Or.inr (Or.inr (Or.inl ⟨rfl, _, rfl, rfl⟩)))⟩)
    | (cases h; exact ⟨rfl, Or.inr (Or.inr (Or.inr (Or.inr (Or.inl ⟨rfl, _, rfl, rfl⟩))))⟩)
    | (cases h; exact ⟨rfl, Or.inr (Or.inr (Or.inr (Or.inr (Or.inr (Or.inl ⟨rfl, rfl, rfl⟩)))))⟩)
    | (cases h; exact ⟨rfl, Or.inr (Or.inr (Or.inr (Or.inr (Or.inr (Or.inr ⟨rfl, rfl, rfl⟩)))))⟩)
/-- a method's own return -/
theorem mv_end {pc : Nat} {ls : mv_V} {st : List Value} {σ : mv_S} {v : Option Value} {r : mv_I} {mc ms : Nat} (hF : mv_Fx z kad dC dI cA L xs p R s m args meth c M) (hr : meth.sig.returnType = (mv_mi M).2.2.2.1) (hlocks : meth.locks = false)
    (hin : mv_in M pc = some r) (hs : mv_stp L xs r ls st σ = some (.inr (.inl (.inl v, σ)))) {XC : String → State → State → Prop} (hmc : mc + c0 = mv_cc σ) (hms : ms + s0 = mv_ss σ) :
    mv_W z kad dC dI cA p l e R s m args below meth c (vx_MQ below (mv_Qc z kad dC dI cA (.inl v, σ)) XC args s mc ms (mv_A1 z)) c0 s0 pc ls st σ := by
  obtain ⟨hok, hlen⟩ := mv_row hin
  have hrt := mv_row4 hin
  obtain ⟨hx, hb, hml, hown, hts, hE, -, hRf, hRl⟩ := id hF
  obtain ⟨i, nx, a, b, w⟩ := r
  have hdec := mv_okd hok
  intro H locs cells slots lsA hM hS hl hc hs9
  have e1 : cells = mc := by omega
  have e2 : slots = ms := by omega
  subst e1; subst e2
  refine vx_ret ?_
  obtain ⟨-, ⟨rfl, x, rfl, rfl, ha⟩ | ⟨rfl, x, rfl, rfl⟩ | ⟨rfl, x, rfl, rfl⟩ | ⟨rfl, x, rfl, rfl⟩ | ⟨rfl, x, rfl, rfl⟩ | ⟨rfl, rfl, rfl⟩ | ⟨rfl, rfl, rfl⟩⟩ := mv_ret_inv hs
  · obtain ⟨hd, -⟩ := mv_dec hdec hlen (Nat.succ_ne_zero _)
    have hrt : (mv_mi M).2.2.2.1 = some (if a = 0 then .int else if a = 1 then .boolean else .char) := of_decide_eq_true hrt
    rcases ha with rfl | ⟨rfl, ha⟩ | ⟨rfl, ha⟩
    · exact W.iret hx hb (hr.trans hrt) (fun t ht hW => ⟨_, rfl, rfl, by rw [ht]; exact hM, hS.F ht⟩) hS.2.2 hd hlocks
    · exact W.zret hx hb (hr.trans hrt) (by rcases ha with rfl | rfl <;> rfl) (fun t ht hW => ⟨_, rfl, rfl, by rw [ht]; exact hM, hS.F ht⟩) hS.2.2 hd hlocks
    · exact W.zret hx hb (hr.trans hrt) (by show narrow .char (.int x) = .int x; rw [← ha]; exact pk_nc x) (fun t ht hW => ⟨_, rfl, rfl, by rw [ht]; exact hM, hS.F ht⟩) hS.2.2 hd hlocks
  · obtain ⟨hd, -⟩ := mv_dec hdec hlen (Nat.succ_ne_zero _)
    exact W.lret hx hb (hr.trans (of_decide_eq_true hrt)) (fun t ht hW => ⟨_, rfl, rfl, by rw [ht]; exact hM, hS.F ht⟩) hS.2.2 hd hlocks
  · obtain ⟨hd, -⟩ := mv_dec hdec hlen (Nat.succ_ne_zero _)
    exact W.fret hx hb (hr.trans (of_decide_eq_true hrt)) (fun t ht hW => ⟨_, rfl, rfl, by rw [ht]; exact hM, hS.F ht⟩) hS.2.2 hd hlocks
  · obtain ⟨hd, -⟩ := mv_dec hdec hlen (Nat.succ_ne_zero _)
    exact W.dret hx hb (hr.trans (of_decide_eq_true hrt)) (fun t ht hW => ⟨_, rfl, rfl, by rw [ht]; exact hM, hS.F ht⟩) hS.2.2 hd hlocks
  · obtain ⟨hd, -⟩ := mv_dec hdec hlen (Nat.succ_ne_zero _)
    have hrt : ∃ n, (mv_mi M).2.2.2.1 = some (.object n) := by
      simp only [mv_rck] at hrt
      split at hrt
      · next n e9 => exact ⟨n, e9⟩
      · cases hrt
    obtain ⟨n, hrt⟩ := hrt
    exact W.aret hx hb (hr.trans hrt) (Or.inl ⟨n, rfl⟩) (Or.inr ⟨_, rfl⟩) (fun t ht hW => ⟨_, rfl, rfl, by rw [ht]; exact hM, hS.F ht⟩) hS.2.2 hd hlocks
  · obtain ⟨hd, -⟩ := mv_dec hdec hlen (Nat.succ_ne_zero _)
    have hrt : ∃ n, (mv_mi M).2.2.2.1 = some (.object n) := by
      simp only [mv_rck] at hrt
      split at hrt
      · next n e9 => exact ⟨n, e9⟩
      · cases hrt
    obtain ⟨n, hrt⟩ := hrt
    exact W.aret hx hb (hr.trans hrt) (Or.inl ⟨n, rfl⟩) (Or.inl rfl) (fun t ht hW => ⟨_, rfl, rfl, by rw [ht]; exact hM, hS.F ht⟩) hS.2.2 hd hlocks
  · obtain ⟨hd, -⟩ := mv_dec hdec hlen (Nat.succ_ne_zero _)
    exact W.vret hx hb (hr.trans (of_decide_eq_true hrt)) (fun t ht hW => ⟨_, rfl, rfl, by rw [ht]; exact hM, hS.F ht⟩) hS.2.2 hd hlocks
end CT
