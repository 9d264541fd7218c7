def R_law : String := "SluiceChainLaw"
def lw_P (b : Addr) (xs : List Int32) (args : Array Value) (s : State) : Prop := args = #[.ref b] ∧ s.IntsAt b xs ∧ xs.length ≤ 260 ∧ (Jvm.Cond.and given_1 narrow_1).before args s = true
/-- what a walk over the start with the record d0 says of its end, said of the start itself -/
theorem lw_closed {s t : State} {o : Outcome} {d0 : Drawn} {L : List Loc} {k n : Nat} (hd0 : s.drawn.sameBut d0 lw_cs) (hv : ∃ v, o = .returned v) (hW : (s.setDrawn d0).WarmedH t.vm) (hs : (s.setDrawn d0).sameButNew ({ t with vm := s.vm } : State) L k n) : State.butDraws s t lw_cs (fun t1 => Framed s o t1 L k n) := by
  have h2 : t.drawn = d0 := congrArg State.drawn hs.1
  refine ⟨⟨hv, hW, State.sameButNew.setDrawn hs s.drawn⟩, ?_, by decide⟩
  rw [h2]
  exact hd0
def lw_Q (_ : Array Value) (s : State) (o : Outcome) (t : State) : Prop := o = .returned (some (.int 1)) ∧ State.butDraws s t lw_cs (fun t1 => Framed s o t1 [] 699368 6992185)
def lw_Z (below : List Frame) (a : Array Value) (s : State) : State → Prop := fun t => ∃ o, t.status = .running ∧ Ended t below o ∧ lw_Q a s o t
/-- the law's own end, with 1 on the stack, nothing written that was there before, its room as the claim has it; d0: the record of draws at this point (at the entry s.drawn: begin with 'refine W.base ?_' and 'have hd0 := Drawn.sameBut.refl s.drawn lw_cs') -/
theorem lw_ret {p : Program} {l : Launch} {e : Env} {s : State} {m : MethodId} {below : List Frame} {meth : Method} {c : Code} {b : Nat} {d0 : Drawn} (hd0 : s.drawn.sameBut d0 lw_cs) (hx : p.tables.exec = Jvm.exec) (hb : c.code = code) (hr : meth.sig.returnType = ret) (hlocks : meth.locks = false) {pc : Nat} {H : Heap} {ls : Array Slot} (hdg : decode code pc = .ok (.ireturn, 1)) : W p l e room_1 (s.setDrawn d0) m #[Value.ref b] below meth c H [] 699368 6992185 (lw_Z below #[Value.ref b] s) (F0 m pc ls [.int 1]) := by
  intro T hT X
  obtain ⟨fs, hret, hrun, hended, hW, hframe⟩ := X.leave (v := some (.int 1)) (hlocks := hlocks) (fun h => by rw [hr] at h; cases h)
  have hmeth' : T.vm.method? m = some meth := X.method'
  refine ⟨T.setFrames fs, ?_, .returned (some (.int 1)), hrun, hended, rfl, lw_closed hd0 ⟨_, rfl⟩ hW hframe⟩
  jvm_step X.here [X.here.top, hx, hb, hdg, hmeth', hr, ret, narrow_b1]
  (try refine ⟨rfl, ?_⟩); (try refine ⟨rfl, ?_⟩)
  first | (intro acts; rw [hret _ acts rfl rfl rfl]) | rw [hret _ _ rfl rfl rfl]
  exact Steps.refl _
/-- what holds at the law's entry: the machine, the code, the tables' words (any of lw_tbl by 'hts w (by decide +kernel)'), the script of L ints xs at the cell b, what the Statement gives of the start (any of its parts by flat_of_before) -/
def lw_At (p : Program) (s : State) (m : MethodId) (meth : Method) (c : Code) (b L : Nat) (xs : Nat → Int32) : Prop :=
  p.tables.exec = Jvm.exec ∧ c.code = code ∧ meth.sig.returnType = ret ∧ c.maxLocals = 23 ∧ s.vm.findClass R_law = some m.cls ∧ (∀ w ∈ lw_tbl, w.before #[Value.ref b] s = true) ∧ va_X b L xs s s.heap ∧ b < s.heap.size ∧ meth.locks = false ∧ (Jvm.Cond.and given_1 narrow_1).before #[Value.ref b] s = true
/-! THE START: from the entry of the law to its end -/
theorem whole_start {p : Program} {e : Env} {s : State} {m : MethodId} {below : List Frame} {meth : Method} {c : Code} (l : Launch) (hflags : l.flags = flags0) {b L : Nat} {xs : Nat → Int32} (hL : L ≤ 260) (C0 : lw_At p s m meth c b L xs) : W p l e room_1 s m #[Value.ref b] below meth c s.heap [] 0 0 (lw_Z below #[Value.ref b] s) (entryFrame m ([Value.ref b] : List Value).toArray 23) := by
  obtain ⟨hx, hb, hr, hml, hown, hts, hX, hbl, hlocks, hgv⟩ := C0
  have hfl : nx_fl #[Value.ref b] s := ⟨flat_of_before _ hgv, hts⟩
  obtain ⟨kad, dC, dI, cA, ek, hE⟩ := nx_En hfl (Nat.lt_of_le_of_lt hL (by decide)) hbl hX
  obtain ⟨D, cB, d1, d2, ka, kv, hG⟩ := ng_G hfl hx hb hml hr hlocks hown hE
  have hlt : l.stackTraces = false := by
    unfold Launch.stackTraces
    rw [hflags]
    decide +kernel
  have h0 := lw_0 (F := fun _ => .inl []) (l := l) (e := e) (below := below) hG hlt (by omega)
  have e0 : mv_ad s.heap.size kad 2000 = b := (if_neg (by decide)).trans ek
  have hl := lv_entry ([Value.ref b]) (n := 23) (Nat.le_of_ble_eq_true rfl)
  rw [lg_entry_eq]
  generalize (lg_sl ([Value.ref b]) ++ List.replicate (23 - (lg_sl ([Value.ref b])).length) Slot.unset).toArray = lsE at hl ⊢
  have hl : lv_has lsE 23 (mv_lm (mv_ad s.heap.size kad) [(0, .ref 2000)]) := by
    show lv_has lsE 23 [(0, .ref (mv_ad s.heap.size kad 2000))]
    rw [e0]
    exact hl
  have hMo : mv_Mo s.heap.size kad dC dI cA (0, 0, fun _ _ => .null) s.heap := ⟨fun k q h => by simp [mv_wl] at h, fun _ => rfl, Nat.zero_le _⟩
  exact h0 kad (fun _ => 0) s room_1 lsE (lw_Z below #[Value.ref b] s) (fun _ _ => rfl) ⟨rfl, Nat.le_refl _, fun _ _ => rfl⟩ hMo (fun i hi => absurd hi (Nat.not_lt_zero i)) hl
    ⟨by show 60 ≤ 2048; decide, by show 4000 ≤ 94400; decide, by show 600000 ≤ 699368 + (0 + 0) + 20 * 0; decide, by show 6990000 ≤ 6992185 + (mv_sl 0 + 6 * 0) + 1300 * 0; omega⟩
    (fun t Lc hrun hend hW hs hl => ⟨_, hrun, hend, rfl, lw_closed (Drawn.sameBut.refl s.drawn lw_cs) ⟨_, rfl⟩ hW (State.sameButNew.drop_fresh (L := []) (J := Lc) hs hl)⟩)
