def R_law : String := "SluiceChainLaw"
def lw_P (b : Addr) (xs : List Int32) (args : Array Value) (s : State) : Prop := args = #[.ref b] ∧ s.IntsAt b xs ∧ xs.length ≤ 2048 ∧ (Jvm.Cond.and given_1 narrow_1).before args s = true
/-- what a walk over the start with the record d0 says of its end, said of the start itself -/
theorem lw_closed {s t : State} {o : Outcome} {d0 : Drawn} {L : List Loc} {k n : Nat} (hd0 : s.drawn.sameBut d0 lw_cs) (hv : ∃ v, o = .returned v) (hW : (s.setDrawn d0).WarmedH t.vm) (hs : (s.setDrawn d0).sameButNew ({ t with vm := s.vm } : State) L k n) : State.butDraws s t lw_cs (fun t1 => Framed s o t1 L k n) := by
  have h2 : t.drawn = d0 := congrArg State.drawn hs.1
  refine ⟨⟨hv, hW, State.sameButNew.setDrawn hs s.drawn⟩, ?_, by decide⟩
  rw [h2]
  exact hd0
def lw_Q (_ : Array Value) (s : State) (o : Outcome) (t : State) : Prop := o = .returned (some (.int 1)) ∧ State.butDraws s t lw_cs (fun t1 => Framed s o t1 [] 603072 7198826)
def lw_Z (below : List Frame) (a : Array Value) (s : State) : State → Prop := fun t => ∃ o, t.status = .running ∧ Ended t below o ∧ lw_Q a s o t
/-- the law's own end, with 1 on the stack, nothing written that was there before, its room as the claim has it; d0: the record of draws at this point (at the entry s.drawn: begin with 'refine W.base ?_' and 'have hd0 := Drawn.sameBut.refl s.drawn lw_cs') -/
theorem lw_ret {p : Program} {l : Launch} {e : Env} {s : State} {m : MethodId} {below : List Frame} {meth : Method} {c : Code} {b : Nat} {d0 : Drawn} (hd0 : s.drawn.sameBut d0 lw_cs) (hx : p.tables.exec = Jvm.exec) (hb : c.code = code) (hr : meth.sig.returnType = ret) (hlocks : meth.locks = false) {pc : Nat} {H : Heap} {ls : Array Slot} (hdg : decode code pc = .ok (.ireturn, 1)) : W p l e room_1 (s.setDrawn d0) m #[Value.ref b] below meth c H [] 603072 7198826 (lw_Z below #[Value.ref b] s) (F0 m pc ls [.int 1]) := by
  intro T hT X
  obtain ⟨fs, hret, hrun, hended, hW, hframe⟩ := X.leave (v := some (.int 1)) (hlocks := hlocks) (fun h => by rw [hr] at h; cases h)
  have hmeth' : T.vm.method? m = some meth := X.method'
  refine ⟨T.setFrames fs, ?_, .returned (some (.int 1)), hrun, hended, rfl, lw_closed hd0 ⟨_, rfl⟩ hW hframe⟩
  jvm_step X.here [X.here.top, hx, hb, hdg, hmeth', hr, ret, narrow_b1]
  (try refine ⟨rfl, ?_⟩); (try refine ⟨rfl, ?_⟩)
  first | (intro acts; rw [hret _ acts rfl rfl rfl]) | rw [hret _ _ rfl rfl rfl]
  exact Steps.refl _
/-- what holds at the law's entry: the machine, the code, the tables' words (any of lw_tbl by 'hts w (by decide +kernel)'), the script of L ints xs at the cell b, what the Statement gives of the start (any of its parts by flat_of_before) -/
def lw_At (p : Program) (s : State) (m : MethodId) (meth : Method) (c : Code) (b L : Nat) (xs : Nat → Int32) : Prop :=
  p.tables.exec = Jvm.exec ∧ c.code = code ∧ meth.sig.returnType = ret ∧ c.maxLocals = 9 ∧ s.vm.findClass R_law = some m.cls ∧ (∀ w ∈ lw_tbl, w.before #[Value.ref b] s = true) ∧ va_X b L xs s s.heap ∧ b < s.heap.size ∧ meth.locks = false ∧ (Jvm.Cond.and given_1 narrow_1).before #[Value.ref b] s = true
/-! THE START: from the entry of the law through the frame theorem to its end -/
theorem nh_law : mv_nh k_L_law = true := by decide +kernel
set_option maxRecDepth 100000 in
theorem mi_law : mv_mi k_L_law = (code, (⟨"SluiceChainLaw", "law", "([I)Z"⟩ : MethodName), 9, some .boolean, 0, 0, 0, 0, 0) := rfl
theorem sl_149 : mv_sl 149 ≤ 7000000 := by decide +kernel
theorem whole_start {p : Program} {e : Env} {s : State} {m : MethodId} {below : List Frame} {meth : Method} {c : Code} (l : Launch) (hflags : l.flags = flags0) {b L : Nat} {xs : Nat → Int32} (hL : L ≤ 2048) (C0 : lw_At p s m meth c b L xs) : W p l e room_1 s m #[Value.ref b] below meth c s.heap [] 0 0 (lw_Z below #[Value.ref b] s) (entryFrame m ([Value.ref b] : List Value).toArray 9) := by
  obtain ⟨hx, hb, hr, hml, hown, hts, hX, hbl, hlocks, hgv⟩ := C0
  have hfl : nx_fl #[Value.ref b] s := ⟨flat_of_before _ hgv, hts⟩
  obtain ⟨kad, dC, dI, cA, ek, hE⟩ := nx_En hfl (Nat.lt_of_le_of_lt hL (by decide)) hbl hX
  obtain ⟨t2, T2, ht2, f, hf⟩ := law_run (L := L) (xs := xs) hL
  have hF : mv_Fx s.heap.size kad dC dI cA L xs p room_1 s m #[Value.ref b] meth c k_L_law :=
    ⟨hx, by rw [mi_law]; exact hb, by rw [mi_law]; exact hml, by rw [mi_law]; exact hown, fun w hw => hts w (List.mem_filter.mp hw).1, hE, fun h => by rw [mi_law] at h; exact absurd h (by decide), by show 12 ≤ 2048; decide, by show 200 ≤ 94400; decide⟩
  have hlt : l.stackTraces = false := by
    unfold Launch.stackTraces
    rw [hflags]
    decide +kernel
  have h149 := sl_149
  have e0 : mv_ad s.heap.size kad 2000 = b := (if_neg (by decide)).trans ek
  have hl := lv_entry ([Value.ref b]) (n := 9) (Nat.le_of_ble_eq_true rfl)
  rw [lg_entry_eq]
  generalize (lg_sl ([Value.ref b]) ++ List.replicate (9 - (lg_sl ([Value.ref b])).length) Slot.unset).toArray = lsE at hl ⊢
  have hl : lv_has lsE c.maxLocals (mv_lm (mv_ad s.heap.size kad) [(0, .ref 2000)]) := by
    rw [hml]
    show lv_has lsE 9 [(0, .ref (mv_ad s.heap.size kad 2000))]
    rw [e0]
    exact hl
  have hMo : mv_Mo s.heap.size kad dC dI cA (0, 0, fun _ _ => .null) s.heap := ⟨fun k q h => by simp [mv_wl] at h, fun _ => rfl, Nat.zero_le _⟩
  have hfr := mv_frame (C := mv_cl L xs 13) (c0 := 0) (s0 := 0) (d := 13) (Q := lw_Z below #[Value.ref b] s) (below := below) (l := l) (e := e) (res := (.inl (some (.int (Int32.ofInt 1))), (t2, 149, mz T2)))
    (mv_sound hlt 13) (mv_cl_mono (L := L) (xs := xs) 13) hF ⟨by show 21 + 13 ≤ 2048; decide, by show 345 + 60 * 13 ≤ 94400; decide⟩ (fun h => by rw [nh_law] at h; cases h) ⟨by show 149 + t2 ≤ 603072 + 0; omega, by show mv_sl 149 + 6 * t2 ≤ 7198826 + 0; omega⟩ ?_ ?_ ?_ f 0 [(0, .ref 2000)] [] (0, 0, fun _ _ => .null) hf
  · exact hfr s.heap [] 0 0 lsE hMo va_S.rf hl rfl rfl
  · intro v pc ls st σ r hin hs hres
    obtain ⟨hok, hlen⟩ := mv_row hin
    obtain ⟨i, nx, a, b9, w⟩ := r
    have hdec := mv_okd hok
    have hv : some (.int (Int32.ofInt 1)) = v := Sum.inl.inj (congrArg Prod.fst hres)
    have hσ : (t2, 149, mz T2) = σ := congrArg Prod.snd hres
    subst hσ
    intro H locs cells slots lsA hM hS hl hc hs9
    obtain ⟨-, ⟨rfl, x9, rfl, hv2, -⟩ | ⟨-, x9, -, hv2⟩ | ⟨-, x9, -, hv2⟩ | ⟨-, x9, -, hv2⟩ | ⟨-, x9, -, hv2⟩ | ⟨-, -, hv2⟩ | ⟨-, -, hv2⟩⟩ := mv_ret_inv hs
    · obtain ⟨hd, -⟩ := mv_dec hdec hlen (Nat.succ_ne_zero _)
      have hx9 : x9 = 1 := by
        have h9 := hv.trans hv2
        have h8 : Int32.ofInt 1 = x9 := Value.int.inj (Option.some.inj h9)
        rw [← h8]; rfl
      subst hx9
      have hd : decode code pc = .ok (.ireturn, 1) := by rw [mi_law] at hd; exact hd
      have hc : cells + 0 = 149 + t2 := hc
      have hs9 : slots + 0 = mv_sl 149 + 6 * t2 := hs9
      refine va_forget hS.2.2 ?_
      refine W.widen (k := 603072) (n := 7198826) (by omega) (by omega) ?_
      exact W.base (lw_ret (Drawn.sameBut.refl s.drawn lw_cs) hx hb hr hlocks hd)
    all_goals (have h9 := hv.trans hv2; cases h9)
  · intro k i nx w pc ls st σ hin h149 hcat hres
    have h9 := congrArg Prod.fst hres
    cases h9
  · intro k _ hk
    cases hk
