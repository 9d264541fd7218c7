/-! TEXTS: StringBuilder and String at any point of the law's walk, by the library's own laws -/
/-- the state with another heap -/
def tU (s : State) (H : Heap) : State := { s with heap := H }
/-- a builder at b over the array da, of the letters cs; its array has at most K places -/
def tBd (s : State) (H : Heap) (st b da K : Nat) (cs : List Int) : Prop :=
  ∃ (x : Jvm.Free.SBG.Fix) (bC A : Cell), x.b = b ∧ x.st = st ∧ Jvm.Free.SBG.Bd x bC da A cs.length (tU s H) ∧ (∀ (i : Nat) (v : Int), cs[i]? = some v → A.slots[i]? = some (.int (Int32.ofInt v))) ∧ A.slots.size ≤ K
/-- a String at a over the array sd, of the letters cs -/
def tSl (s : State) (H : Heap) (a sd : Nat) (cs : List Int) : Prop :=
  ∃ (q : Jvm.Free.SB.SQ) (cS : ClassId), Jvm.Free.SB.SQ.sa q = a ∧ Jvm.Free.SB.SQ.sd q = sd ∧ Jvm.Free.SBG.Sl q cS (tU s H) ∧ Jvm.Free.SB.SQ.len q = cs.length ∧ ∀ (i : Nat) (v : Int), cs[i]? = some v → (Jvm.Free.SB.SQ.SA q).slots[i]? = some (.int (Int32.ofInt v))
theorem tBd_keep {s : State} {H H' : Heap} {st b da K : Nat} {cs : List Int} (h : tBd s H st b da K cs) (hk : ∀ (q : Nat) (cy : Cell), q = b ∨ q = da ∨ q = st → H[q]? = some cy → H'[q]? = some cy) : tBd s H' st b da K cs := by
  obtain ⟨x, bC, A, h1, h2, h3, h4, h5⟩ := h
  have hb := h3.1.hb
  have hd := h3.1.hd
  refine ⟨x, bC, A, h1, h2, h3.carry (U := tU s H) (U' := tU s H') (Vm.Alike.refl _) (hk _ _ (Or.inl h1) hb) (hk _ _ (Or.inr (Or.inl rfl)) hd) (fun c hc => hk _ _ (Or.inr (Or.inr h2)) hc), h4, h5⟩
theorem tSl_keep {s : State} {H H' : Heap} {a sd : Nat} {cs : List Int} (h : tSl s H a sd cs) (hk : ∀ (q : Nat) (cy : Cell), q = a ∨ q = sd → H[q]? = some cy → H'[q]? = some cy) : tSl s H' a sd cs := by
  obtain ⟨q, cS, h1, h2, h3, h4, h5⟩ := h
  exact ⟨q, cS, h1, h2, h3.carry (U := tU s H) (U' := tU s H') (Vm.Alike.refl _) (hk _ _ (Or.inl h1) h3.1.ha) (hk _ _ (Or.inr h2) h3.1.hd), h4, h5⟩
theorem tBd_lt {s : State} {H : Heap} {st b da K : Nat} {cs : List Int} (h : tBd s H st b da K cs) : b < H.size ∧ da < H.size ∧ st < H.size ∧ b ≠ da ∧ b ≠ st ∧ da ≠ st := by
  obtain ⟨x, bC, A, h1, h2, h3, h4, h5⟩ := h
  have hb : H[x.b]? = some bC := h3.1.hb
  have hd : H[da]? = some A := h3.1.hd
  obtain ⟨cf, i, k, f, c1, -, -, -, -, hs, -, -⟩ := h3.2.2.2.2.1
  have hs : H[x.st]? = some c1 := hs
  have e1 : x.b ≠ da := h3.1.apart
  have e2 : x.b ≠ x.st := h3.2.2.2.2.2.2.1
  have e3 : da ≠ x.st := h3.2.2.2.2.2.2.2.1
  subst h1 h2
  exact ⟨(Array.getElem?_eq_some_iff.mp hb).1, (Array.getElem?_eq_some_iff.mp hd).1, (Array.getElem?_eq_some_iff.mp hs).1, e1, e2, e3⟩
theorem tSl_lt {s : State} {H : Heap} {a sd : Nat} {cs : List Int} (h : tSl s H a sd cs) : a < H.size ∧ sd < H.size := by
  obtain ⟨q, cS, h1, h2, h3, h4, h5⟩ := h
  have hb : H[Jvm.Free.SB.SQ.sa q]? = some _ := h3.1.ha
  have hd : H[Jvm.Free.SB.SQ.sd q]? = some _ := h3.1.hd
  rw [h1] at hb
  rw [h2] at hd
  exact ⟨(Array.getElem?_eq_some_iff.mp hb).1, (Array.getElem?_eq_some_iff.mp hd).1⟩
/-- the digits of a number below 100 -/
def zDg (v : Int) : List Int := if 9 < v then [48 + v / 10, 48 + v % 10] else [48 + v % 10]
theorem zDg_len {v : Int} : (zDg v).length ≤ 2 ∧ 1 ≤ (zDg v).length := by
  unfold zDg
  split <;> exact ⟨by simp, by simp⟩
/-- Integer's two tables -/
def tTb (s : State) (H : Heap) (st d1 d2 : Nat) : Prop :=
  ∃ D1 D2 : Cell, Jvm.Free.SBG.Tbl (tU s H) "DigitOnes" st d1 D1 ∧ Jvm.Free.SBG.Tbl (tU s H) "DigitTens" st d2 D2 ∧ ∀ r : Nat, r < 100 → Jvm.Free.SBG.iAt D1 r = Int32.ofInt (48 + ((r % 10 : Nat) : Int)) ∧ Jvm.Free.SBG.iAt D2 r = Int32.ofInt (48 + ((r / 10 : Nat) : Int))
section TX
variable {p : Program} {l : Launch} {e : Env} {R : Room} {s : State} {m : MethodId} {args : Array Value} {below : List Frame} {meth : Method} {c : Code} {Q : State → Prop}
variable {cc : ByteArray} {own : String} {H : Heap} {locs : List Loc} {cells slots : Nat} {lsA : Array Slot} {rest : List Value} {pc : Nat}
theorem tgrow {L n K : Nat} (hL : L ≤ K) (hn : n ≤ 100) : Jvm.Free.SBG.grownN L n ≤ 2 * K + 102 := by
  unfold Jvm.Free.SBG.grownN
  omega
theorem tApp {cs ds : List Int} {A A' B : Cell} (h1 : ∀ (i : Nat) (v : Int), cs[i]? = some v → A.slots[i]? = some (.int (Int32.ofInt v))) (h2 : ∀ (i : Nat) (v : Int), ds[i]? = some v → B.slots[i]? = some (.int (Int32.ofInt v)))
    (g1 : ∀ i, i < cs.length → A'.slots[i]? = A.slots[i]?) (g2 : ∀ i, i < ds.length → A'.slots[cs.length + i]? = B.slots[i]?) : ∀ (i : Nat) (v : Int), (cs ++ ds)[i]? = some v → A'.slots[i]? = some (.int (Int32.ofInt v)) := by
  intro i v h
  by_cases hi : i < cs.length
  · rw [List.getElem?_append_left hi] at h
    rw [g1 i hi]
    exact h1 i v h
  · rw [List.getElem?_append_right (by omega)] at h
    have hj : i - cs.length < ds.length := (List.getElem?_eq_some_iff.mp h).1
    have := g2 (i - cs.length) hj
    rw [show cs.length + (i - cs.length) = i by omega] at this
    rw [this]
    exact h2 _ v h
/-- new StringBuilder(): new, dup, the constructor -/
theorem tw_new (hx : p.tables.exec = Jvm.exec) (hb : c.code = cc) (hml : lsA.size = c.maxLocals) (hown : s.vm.findClass own = some m.cls) {i j : Nat}
    (hcl : (Cond.classLink own i "java/lang/StringBuilder").before args s = true) (hins : (Cond.instantiable "java/lang/StringBuilder" 4).before args s = true) (hini : (Cond.initialized "java/lang/StringBuilder").before args s = true)
    (hlink : (Cond.methodLink own j Jvm.Free.SB.sbInitN).before args s = true) (hinst : (Cond.instanceMethod Jvm.Free.SB.sbInitN).before args s = true) (htab : Jvm.Free.SB.SBInit.tab.before args s = true)
    (hlays : ∀ w ∈ Jvm.Stand.sbLays, w.before args s = true) {st : Nat} (hcmp : Jvm.Free.SB.CompactAt (tU s H) st 1) (hf : s.heap.size ≤ H.size)
    (hcat : (rest.map fun v => v.category).sum ≤ 8) (hR : 11 ≤ R.frames ∧ 340 ≤ R.locals ∧ cells + 2 ≤ R.cells ∧ slots + 20 ≤ R.slots)
    (hd0 : decode cc pc = .ok (.new i, 3)) (hd3 : decode cc (pc + 3) = .ok (.dup, 1)) (hd4 : decode cc (pc + 4) = .ok (.invokespecial j, 3))
    (k : ∀ (H' : Heap) (b da : Nat), H.size ≤ b → H.size ≤ da → tBd s H' st b da 16 [] → H.size ≤ H'.size → (∀ (q : Nat) (cy : Cell), H[q]? = some cy → H'[q]? = some cy) → W p l e R s m args below meth c H' locs (cells + 2) (slots + 20) Q (F0 m (pc + 7) lsA (.ref b :: rest))) :
    W p l e R s m args below meth c H locs cells slots Q (F0 m pc lsA rest) := by
  intro T hT X
  subst hT
  have hdd : decode c.code pc = .ok (.new i, 3) := by rw [hb]; exact hd0
  obtain ⟨vm₁, cC, kC, hfcC, hkC, hkind, hsz4, X₁, st1⟩ := X.newCold hx (own := own) (C := "java/lang/StringBuilder") (index := i) (n := 4) hown hcl hins hini (g := F0 m pc lsA rest) rfl hdd (by omega) (by omega)
  have hc1 : ((T.setVm vm₁).pushCell { cls := cC, slots := kC.instanceTypes.map defaultValue, vm := .none }).heap[T.heap.size]? = some { cls := cC, slots := kC.instanceTypes.map defaultValue, vm := .none } := State.heap_pushCell_size (T.setVm vm₁) { cls := cC, slots := kC.instanceTypes.map defaultValue, vm := .none }
  have hs1 : ((T.setVm vm₁).pushCell { cls := cC, slots := kC.instanceTypes.map defaultValue, vm := .none }).heap.size = T.heap.size + 1 := by simp [State.pushCell, State.setVm]
  have hk1 : ∀ (q : Nat) (cy : Cell), T.heap[q]? = some cy → ((T.setVm vm₁).pushCell { cls := cC, slots := kC.instanceTypes.map defaultValue, vm := .none }).heap[q]? = some cy := fun q cy h => by
    have hlt : q < T.heap.size := (Array.getElem?_eq_some_iff.mp h).1
    show (T.heap.push _)[q]? = some cy
    rw [Array.getElem?_push_lt hlt, ← Array.getElem?_eq_getElem hlt]; exact h
  generalize (T.setVm vm₁).pushCell { cls := cC, slots := kC.instanceTypes.map defaultValue, vm := .none } = U₁ at X₁ st1 hk1 hc1 hs1
  have hst : st < T.heap.size := by
    obtain ⟨_, _, _, _, c1, _, _, _, _, h5, _⟩ := hcmp
    exact (Array.getElem?_eq_some_iff.mp h5).1
  have K4 : W p l e R s m args below meth c U₁.heap locs (cells + 1) (slots + 4) Q (F0 m (pc + 4) lsA (.ref T.heap.size :: .ref T.heap.size :: rest)) := by
    intro T2 hT2 X2
    have hd4' : decode c.code (pc + 4) = .ok (.invokespecial j, 3) := by rw [hb]; exact hd4
    have hcmp2 : Jvm.Free.SB.CompactAt T2 st 1 := Jvm.Free.SBG.compact_carry (U := tU s T.heap) X2.warmed.alike (fun cc h => by rw [hT2]; exact hk1 _ cc h) hcmp
    obtain ⟨T3, L3, x, bC, hxb, hxst, hxz, X3, hL3, hB3, hsz3, kept3, come3⟩ := X2.sbInitG hx hown hlink hinst hini htab hlays hcmp2 (by decide) hfcC hkC hkind (by rw [hT2]; exact hc1) (Nat.ne_of_gt hst)
      (W := 9) (g := F0 m (pc + 4) lsA (.ref T.heap.size :: .ref T.heap.size :: rest)) rfl hml (Steps.refl _) (rest := .ref T.heap.size :: rest) rfl (by show 2 * 0 + (1 + (rest.map fun v => v.category).sum) ≤ 9; omega) hd4' (by omega) (by omega) (by omega) (by omega)
    have X4 := X3.dropFresh (fun w hw => by rw [hL3 w hw]; exact hf)
    have e2 : T2.heap.size = T.heap.size + 1 := by rw [hT2]; exact hs1
    have hB5 : tBd s T3.heap st T.heap.size T2.heap.size 16 [] := by
      refine ⟨x, bC, _, hxb, hxst, hB3.carry (U := T3) (U' := tU s T3.heap) X3.warmed.alike.symm hB3.1.hb hB3.1.hd (fun _ h => h), fun i v h => by simp at h, ?_⟩
      simp [Jvm.Free.SB.zeros]
    obtain ⟨t, a1, b1⟩ := k T3.heap T.heap.size T2.heap.size (Nat.le_refl _) (by omega) hB5 (by omega) (fun q cy h => kept3 q cy (fun e9 => absurd e9 (Nat.ne_of_lt (Array.getElem?_eq_some_iff.mp h).1)) (by rw [hT2]; exact hk1 q cy h)) T3 rfl X4
    exact ⟨t, come3.trans a1, b1⟩
  obtain ⟨t, a1, b1⟩ := lv_dup hx hb (va := .ref T.heap.size) hd3 rfl K4 U₁ rfl X₁
  exact ⟨t, st1 t a1, b1⟩
/-- append(String) -/
theorem tw_apps (hx : p.tables.exec = Jvm.exec) (hb : c.code = cc) (hml : lsA.size = c.maxLocals) (hown : s.vm.findClass own = some m.cls) {j : Nat}
    (hlink : (Cond.methodLink own j Jvm.Free.SB.sbAppendSN).before args s = true) (hdecl : (Cond.declares Jvm.Free.SB.sbAppendSN).before args s = true) (hsel : (Cond.selects Jvm.Free.SB.SBC Jvm.Free.SB.sbAppendSN Jvm.Free.SB.sbAppendSN).before args s = true)
    (hinst : (Cond.instanceMethod Jvm.Free.SB.sbAppendSN).before args s = true) (hini : (Cond.initialized Jvm.Free.SB.SBC).before args s = true) (htabR : Jvm.Free.SB.SBAppendS.tab.before args s = true) (htabG : Jvm.Free.SB.SBAppendSG.tab.before args s = true)
    {st b da K a sd : Nat} {cs ds : List Int} (hB : tBd s H st b da K cs) (hS : tSl s H a sd ds) (hap : a ≠ st ∧ a ≠ da ∧ sd ≠ da ∧ a ≠ b ∧ sd ≠ b) (hlen : cs.length + ds.length ≤ 100) (hK : K ≤ 100000) (hf : s.heap.size ≤ b ∧ s.heap.size ≤ da)
    (hcat : (rest.map fun v => v.category).sum ≤ 8) (hR : 11 ≤ R.frames ∧ 340 ≤ R.locals ∧ cells + 1 ≤ R.cells ∧ slots + (2 * K + 102) ≤ R.slots)
    (hd : decode cc pc = .ok (.invokevirtual j, 3))
    (k : ∀ (H' : Heap) (da' : Nat), (da' = da ∨ da' = H.size) → tBd s H' st b da' (2 * K + 102) (cs ++ ds) → H.size ≤ H'.size → (∀ (q : Nat) (cy : Cell), q ≠ b → q ≠ da → H[q]? = some cy → H'[q]? = some cy) → W p l e R s m args below meth c H' locs (cells + 1) (slots + (2 * K + 102)) Q (F0 m (pc + 3) lsA (.ref b :: rest))) :
    W p l e R s m args below meth c H locs cells slots Q (F0 m pc lsA (.ref a :: .ref b :: rest)) := by
  intro T hT X
  subst hT
  obtain ⟨x, bC, A, rfl, rfl, h3, h4, h5⟩ := hB
  obtain ⟨q, cS, rfl, rfl, g3, g4, g5⟩ := hS
  have hB2 : Jvm.Free.SBG.Bd x bC da A cs.length T := h3.carry (U := tU s T.heap) (U' := T) X.warmed.alike h3.1.hb h3.1.hd (fun _ h => h)
  have hS2 : Jvm.Free.SBG.Sl q cS T := g3.carry (U := tU s T.heap) (U' := T) X.warmed.alike g3.1.ha g3.1.hd
  have hgr : Jvm.Free.SBG.grownN A.slots.size (cs.length + Jvm.Free.SB.SQ.len q) ≤ 2 * K + 102 := tgrow h5 (by rw [g4]; exact hlen)
  obtain ⟨T', L', bC', da', A', X', hL', hB', c1, c2, c3, c4, c5, c6, come⟩ := X.sbAppendS hx hown hlink hdecl hsel hinst hini htabR htabG hB2 hS2 ⟨hap.1, hap.2.1, hap.2.2.1, hap.2.2.2.1, hap.2.2.2.2⟩ (cap := 2 * K + 102) hgr (by omega)
    (W := 8) (g := F0 m pc lsA (.ref (Jvm.Free.SB.SQ.sa q) :: .ref x.b :: rest)) rfl hml (Steps.refl _) (rest := rest) rfl (by show 2 * 0 + _ ≤ 8; omega) (by rw [hb]; exact hd) (by omega) (by omega) (by omega) (by omega)
  have X4 := X'.dropFresh (fun w hw => by rcases hL' w hw with h | h <;> rw [h]; exact hf.2; exact hf.1)
  rw [g4] at hB'
  have hB5 : tBd s T'.heap x.st x.b da' (2 * K + 102) (cs ++ ds) := by
    refine ⟨x, bC', A', rfl, rfl, ?_, tApp h4 g5 c1 (fun i hi => c2 i (by rw [g4]; exact hi)), Nat.le_trans c4 hgr⟩
    rw [List.length_append]
    exact hB'.carry (U := T') (U' := tU s T'.heap) X'.warmed.alike.symm hB'.1.hb hB'.1.hd (fun _ h => h)
  obtain ⟨t, a1, b1⟩ := k T'.heap da' c3 hB5 c5 (fun y cy h1 h2 h => c6 y cy h1 h2 h) T' rfl X4
  exact ⟨t, come.trans a1, b1⟩
/-- toString -/
theorem tw_tos (hx : p.tables.exec = Jvm.exec) (hb : c.code = cc) (hml : lsA.size = c.maxLocals) (hown : s.vm.findClass own = some m.cls) {j : Nat}
    (hlink : (Cond.methodLink own j Jvm.Free.SB.sbToStringN).before args s = true) (hdecl : (Cond.declares Jvm.Free.SB.sbToStringN).before args s = true) (hsel : (Cond.selects Jvm.Free.SB.SBC Jvm.Free.SB.sbToStringN Jvm.Free.SB.sbToStringN).before args s = true)
    (hinst : (Cond.instanceMethod Jvm.Free.SB.sbToStringN).before args s = true) (hini : (Cond.initialized Jvm.Free.SB.SBC).before args s = true) (htabR : Jvm.Free.SB.SBToString.tab.before args s = true) (htabF : Jvm.Free.SB.SBToStringF.tab.before args s = true)
    (hwords : ∀ w ∈ Jvm.Free.SBG.strLays, w.before args s = true) {st b da K : Nat} {cs : List Int} (hB : tBd s H st b da K cs)
    (hcat : (rest.map fun v => v.category).sum ≤ 8) (hR : 11 ≤ R.frames ∧ 340 ≤ R.locals ∧ cells + 2 ≤ R.cells ∧ slots + (4 + K) ≤ R.slots)
    (hd : decode cc pc = .ok (.invokevirtual j, 3))
    (k : ∀ (H' : Heap) (sd : Nat), H.size ≤ sd → tSl s H' H.size sd cs → H.size ≤ H'.size → (∀ (q : Nat) (cy : Cell), H[q]? = some cy → H'[q]? = some cy) → W p l e R s m args below meth c H' locs (cells + 2) (slots + (4 + cs.length)) Q (F0 m (pc + 3) lsA (.ref H.size :: rest))) :
    W p l e R s m args below meth c H locs cells slots Q (F0 m pc lsA (.ref b :: rest)) := by
  intro T hT X
  subst hT
  obtain ⟨x, bC, A, rfl, rfl, h3, h4, h5⟩ := hB
  have hB2 : Jvm.Free.SBG.Bd x bC da A cs.length T := h3.carry (U := tU s T.heap) (U' := T) X.warmed.alike h3.1.hb h3.1.hd (fun _ h => h)
  obtain ⟨T', q, cS, X', hqa, hqd, hql, hS', -, -, hby, keep, come⟩ := X.sbToStringG hx hown hlink hdecl hsel hinst hini htabR htabF hwords hB2
    (W := 8) (g := F0 m pc lsA (.ref x.b :: rest)) rfl hml (Steps.refl _) (rest := rest) rfl (by show 2 * 0 + _ ≤ 8; omega) (by rw [hb]; exact hd) (by omega) (by omega) (by omega) (by omega)
  have hS5 : tSl s T'.heap T.heap.size (Jvm.Free.SB.SQ.sd q) cs := by
    refine ⟨q, cS, hqa, rfl, hS'.carry (U := T') (U' := tU s T'.heap) X'.warmed.alike.symm hS'.1.ha hS'.1.hd, hql, fun i v h => ?_⟩
    rw [hby i (List.getElem?_eq_some_iff.mp h).1]
    exact h4 i v h
  have hle : T.heap.size ≤ T'.heap.size := by
    have h1 : T'.heap[Jvm.Free.SB.SQ.sa q]? = some _ := hS'.1.ha
    rw [hqa] at h1
    exact Nat.le_of_lt (Array.getElem?_eq_some_iff.mp h1).1
  obtain ⟨t, a1, b1⟩ := k T'.heap (Jvm.Free.SB.SQ.sd q) (Nat.le_of_lt hqd) hS5 hle (fun y cy h => keep y cy h) T' rfl X'
  exact ⟨t, come.trans a1, b1⟩
theorem put_at (A : Cell) (pos : Nat) (x : Int32) (j : Nat) (hp : pos < A.slots.size) : (Jvm.Free.SBG.put A pos x).slots[j]? = if j = pos then some (.int x.toInt8.toInt32) else A.slots[j]? := by
  unfold Jvm.Free.SBG.put
  by_cases h : j = pos
  · subst h
    rw [if_pos rfl]
    simp [Cell.setSlot, hp]
  · rw [if_neg h]
    simp [Cell.setSlot, Array.getElem?_setIfInBounds, Ne.symm h]
theorem b8_id : ∀ r : Nat, r < 10 → (Int32.ofInt (48 + (r : Int))).toInt8.toInt32 = Int32.ofInt (48 + (r : Int)) := by decide +kernel
theorem out_at {n : Nat} (hn : n < 100) {A D1 D2 : Cell} {idx da ist d1 d2 n0 : Nat} (hidx : idx = n0 + (zDg n).length) (hA : idx ≤ A.slots.size)
    (hD : ∀ r : Nat, r < 100 → Jvm.Free.SBG.iAt D1 r = Int32.ofInt (48 + ((r % 10 : Nat) : Int)) ∧ Jvm.Free.SBG.iAt D2 r = Int32.ofInt (48 + ((r / 10 : Nat) : Int))) :
    ∀ (i : Nat) (v : Int), (zDg n)[i]? = some v → (Jvm.Free.SBG.GetChars.outCell ⟨nI n, n, idx, da, A, ist, d1, D1, d2, D2⟩).slots[n0 + i]? = some (.int (Int32.ofInt v)) := by
  intro i v h
  obtain ⟨e1, e2⟩ := hD n hn
  have hneg : ¬ (nI n : Int32) < 0 := nI_pos (by omega)
  have r1 := b8_id (n % 10) (by omega)
  have r2 := b8_id (n / 10) (by omega)
  unfold Jvm.Free.SBG.GetChars.outCell
  dsimp only
  rw [if_neg hneg]
  unfold Jvm.Free.SBG.digLoop
  rw [if_neg (by omega)]
  unfold zDg at h hidx
  by_cases h9 : 9 < n
  · rw [if_pos (show (9 : Int) < (n : Int) by omega)] at h hidx
    have hidx : idx = n0 + 2 := hidx
    rw [if_pos h9]
    dsimp only
    rw [put_at _ _ _ _ (by rw [(Jvm.Free.SBG.put_facts _ _ _).2.2]; omega), put_at _ _ _ _ (by omega), e1, e2, r1, r2]
    match i, h with
    | 0, h =>
      rw [if_pos (by omega)]
      cases h
      rfl
    | 1, h =>
      rw [if_neg (by omega), if_pos (by omega)]
      cases h
      rfl
    | i + 2, h => simp at h
  · rw [if_neg (show ¬ (9 : Int) < (n : Int) by omega)] at h hidx
    have hidx : idx = n0 + 1 := hidx
    rw [if_neg h9]
    dsimp only
    rw [put_at _ _ _ _ (by omega), e1, r1]
    match i, h with
    | 0, h =>
      rw [if_pos (by omega)]
      cases h
      rfl
    | i + 1, h => simp at h
theorem dig_len {n : Nat} (hn : n < 100) : Jvm.Free.SBG.digits n + Jvm.Free.SBG.GetChars.sgn (nI n) = (zDg n).length := by
  unfold Jvm.Free.SBG.digits Jvm.Free.SBG.GetChars.sgn zDg
  rw [if_neg (nI_pos (by omega))]
  by_cases h9 : 9 < n
  · rw [if_neg (by omega), if_pos (by omega), if_pos (show (9 : Int) < (n : Int) by omega)]; rfl
  · rw [if_pos (by omega), if_neg (show ¬ (9 : Int) < (n : Int) by omega)]; rfl
/-- append(int), of a number from 0 to 99 -/
theorem tw_appi (hx : p.tables.exec = Jvm.exec) (hb : c.code = cc) (hml : lsA.size = c.maxLocals) (hown : s.vm.findClass own = some m.cls) {j : Nat}
    (hlink : (Cond.methodLink own j Jvm.Free.SBG.SbAppendI.siN).before args s = true) (hdecl : (Cond.declares Jvm.Free.SBG.SbAppendI.siN).before args s = true) (hsel : (Cond.selects Jvm.Free.SB.SBC Jvm.Free.SBG.SbAppendI.siN Jvm.Free.SBG.SbAppendI.siN).before args s = true)
    (hinst : (Cond.instanceMethod Jvm.Free.SBG.SbAppendI.siN).before args s = true) (hini : (Cond.initialized Jvm.Free.SB.SBC).before args s = true) (htab : Jvm.Free.SBG.SbAppendI.tab.before args s = true)
    {st b da K ist d1 d2 : Nat} {cs : List Int} {v : Int} (v0 : 0 ≤ v) (v1 : v ≤ 99) (hB : tBd s H st b da K cs) (hT : tTb s H ist d1 d2) (hap : b ≠ ist ∧ b ≠ d1 ∧ b ≠ d2 ∧ da ≠ ist ∧ da ≠ d1 ∧ da ≠ d2) (hlen : cs.length ≤ 98) (hK : K ≤ 100000) (hf : s.heap.size ≤ b ∧ s.heap.size ≤ da ∧ s.heap.size ≤ H.size)
    (hcat : (rest.map fun v => v.category).sum ≤ 8) (hR : 11 ≤ R.frames ∧ 340 ≤ R.locals ∧ cells + 1 ≤ R.cells ∧ slots + (2 * K + 102) ≤ R.slots)
    (hd : decode cc pc = .ok (.invokevirtual j, 3))
    (k : ∀ (H' : Heap) (da' : Nat), (da' = da ∨ da' = H.size) → tBd s H' st b da' (2 * K + 102) (cs ++ zDg v) → H.size ≤ H'.size → (∀ (q : Nat) (cy : Cell), q ≠ b → q ≠ da → H[q]? = some cy → H'[q]? = some cy) → W p l e R s m args below meth c H' locs (cells + 1) (slots + (2 * K + 102)) Q (F0 m (pc + 3) lsA (.ref b :: rest))) :
    W p l e R s m args below meth c H locs cells slots Q (F0 m pc lsA (.int (Int32.ofInt v) :: .ref b :: rest)) := by
  obtain ⟨n, rfl⟩ : ∃ n : Nat, v = (n : Int) := ⟨v.toNat, by omega⟩
  have hn : n < 100 := by omega
  have hv : Int32.ofInt (n : Int) = nI n := rfl
  rw [hv]
  intro T hT0 X
  subst hT0
  obtain ⟨x, bC, A, rfl, rfl, h3, h4, h5⟩ := hB
  obtain ⟨D1, D2, t1, t2, hD⟩ := hT
  have hB2 : Jvm.Free.SBG.Bd x bC da A cs.length T := h3.carry (U := tU s T.heap) (U' := T) X.warmed.alike h3.1.hb h3.1.hd (fun _ h => h)
  have hdl := dig_len hn
  have hzl := zDg_len (v := (n : Int))
  have hgr : Jvm.Free.SBG.grownN A.slots.size (cs.length + (Jvm.Free.SBG.digits n + Jvm.Free.SBG.GetChars.sgn (nI n))) ≤ 2 * K + 102 := tgrow h5 (by rw [hdl]; omega)
  have hg1 : Jvm.Free.SBG.Tbl T "DigitOnes" ist d1 D1 := Jvm.Free.SBG.Tbl.move (U := tU s T.heap) (U' := T) X.warmed.alike (fun _ h => h) (by obtain ⟨_, _, _, _, _, -, -, -, -, -, -, -, h9, -⟩ := t1; exact h9) t1
  have hg2 : Jvm.Free.SBG.Tbl T "DigitTens" ist d2 D2 := Jvm.Free.SBG.Tbl.move (U := tU s T.heap) (U' := T) X.warmed.alike (fun _ h => h) (by obtain ⟨_, _, _, _, _, -, -, -, -, -, -, -, h9, -⟩ := t2; exact h9) t2
  obtain ⟨T', L', bC', da', A1, X', hL', hB', c1, c4, c3, c5, c6, come⟩ := X.sbAppendI hx hown hlink hdecl hsel hinst hini htab hB2 (v := nI n) (nn := n) (by omega) (by rw [if_neg (nI_pos (by omega))]; unfold Jvm.Free.SBG.negI; rw [Int32.ofInt_neg]; rfl) hg1 hg2 hap (cap := 2 * K + 102) hgr (by omega)
    (W := 8) (g := F0 m pc lsA (.int (nI n) :: .ref x.b :: rest)) rfl hml (Steps.refl _) (rest := rest) rfl (by show 2 * 0 + _ ≤ 8; omega) (by rw [hb]; exact hd) (by omega) (by omega) (by omega) (by omega)
  have X4 := X'.dropFresh (fun w hw => by
    rcases hL' w hw with h | h <;> rw [h]
    · exact hf.1
    · rcases c3 with h9 | h9 <;> rw [h9]
      · exact hf.2.1
      · exact hf.2.2)
  rw [hdl] at hB' c1 c4
  have hsz : cs.length + (zDg (n : Int)).length ≤ A1.slots.size := by
    have h9 : cs.length + (zDg (n : Int)).length ≤ _ := hB'.1.nle
    have h8 : (Jvm.Free.SBG.GetChars.outCell ⟨nI n, n, cs.length + (zDg (n : Int)).length, da', A1, ist, d1, D1, d2, D2⟩).slots.size = A1.slots.size := by
      unfold Jvm.Free.SBG.GetChars.outCell
      dsimp only
      rw [if_neg (nI_pos (by omega))]
      exact (Jvm.Free.SBG.digLoop_facts D1 D2 5 A1 n _).2.2.1
    rw [h8] at h9
    exact h9
  have ho := out_at hn (A := A1) (D1 := D1) (D2 := D2) (idx := cs.length + (zDg (n : Int)).length) (da := da') (ist := ist) (d1 := d1) (d2 := d2) (n0 := cs.length) rfl hsz hD
  have hB5 : tBd s T'.heap x.st x.b da' (2 * K + 102) (cs ++ zDg (n : Int)) := by
    refine ⟨x, bC', _, rfl, rfl, ?_, fun i v h => ?_, Nat.le_trans c4 (by rw [← hdl]; exact hgr)⟩
    · rw [List.length_append]
      exact hB'.carry (U := T') (U' := tU s T'.heap) X'.warmed.alike.symm hB'.1.hb hB'.1.hd (fun _ h => h)
    · by_cases hi : i < cs.length
      · rw [List.getElem?_append_left hi] at h
        rw [c1 i hi]
        exact h4 i v h
      · rw [List.getElem?_append_right (by omega)] at h
        have := ho (i - cs.length) v h
        rw [show cs.length + (i - cs.length) = i by omega] at this
        exact this
  obtain ⟨t, a1, b1⟩ := k T'.heap da' c3 hB5 c5 (fun y cy h1 h2 h => c6 y cy h1 h2 h) T' rfl X4
  exact ⟨t, come.trans a1, b1⟩
end TX
