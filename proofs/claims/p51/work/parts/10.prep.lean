/-! PREPARATION: inversions; rows over fields and arrays -/
theorem mv_nx_inv {nx pc : Nat} {ls ls' : mv_V} {st st' : List Value} {σ σ' : mv_S} (h : mv_nx nx ls st σ = some (.inl (pc, ls', st', σ'))) : pc = nx ∧ ls' = ls ∧ st' = st ∧ σ' = σ := by
  unfold mv_nx at h
  cases h
  exact ⟨rfl, rfl, rfl, rfl⟩
theorem mv_dec {bs : ByteArray} {pc nx : Nat} {i : Instr} {q : Nat × Nat × Nat} (h : decode bs pc = .ok (i, nx - pc)) (h2 : mv_lok (pc, (i, nx, q)) = true) (h3 : mv_w i ≠ 0) : decode bs pc = .ok (i, mv_w i) ∧ nx = pc + mv_w i := by
  simp only [mv_lok, Bool.or_eq_true, decide_eq_true_eq] at h2
  rcases h2 with h2 | h2
  · exact absurd h2 h3
  · have e : nx - pc = mv_w i := by omega
    rw [e] at h
    exact ⟨h, h2⟩
theorem mv_okd {bs : ByteArray} {own : String} {pc nx a b w : Nat} {i : Instr} (h : mv_ok bs own (pc, (i, nx, a, b, w)) = true) : decode bs pc = .ok (i, nx - pc) := by
  unfold mv_ok at h
  simp only [Bool.and_eq_true, decide_eq_true_eq] at h
  exact h.1.1
def mv_tg : Instr → Option Int
  | .goto o => some o | .if_icmp _ o => some o | .ifCond _ o => some o | .if_acmp _ o => some o | .ifnonnull o => some o | _ => none
theorem mv_okt {bs : ByteArray} {own : String} {pc nx a b w : Nat} {i : Instr} {off : Int} (h : mv_ok bs own (pc, (i, nx, a, b, w)) = true) (h2 : mv_tg i = some off) : (pc : Int) + off = (a : Int) := by
  unfold mv_ok at h
  unfold mv_tg at h2
  split at h2 <;> first | (cases h2; simp only [Bool.and_eq_true, decide_eq_true_eq] at h; exact h.2) | cases h2
theorem mv_ld_inv0 {v : Option Value} {nx pc : Nat} {ls ls' : mv_V} {st st' : List Value} {σ σ' : mv_S} (h : mv_ld 0 v nx ls st σ = some (.inl (pc, ls', st', σ'))) : ∃ x, v = some (.int x) ∧ pc = nx ∧ ls' = ls ∧ st' = .int x :: st ∧ σ' = σ := by
  cases v with
  | none => simp [mv_ld] at h
  | some v => cases v <;> first | exact ⟨_, rfl, mv_nx_inv h⟩ | (simp [mv_ld] at h; done)
theorem mv_ld_inv1 {v : Option Value} {nx pc : Nat} {ls ls' : mv_V} {st st' : List Value} {σ σ' : mv_S} (h : mv_ld 1 v nx ls st σ = some (.inl (pc, ls', st', σ'))) : ∃ x, v = some (.long x) ∧ pc = nx ∧ ls' = ls ∧ st' = .long x :: st ∧ σ' = σ := by
  cases v with
  | none => simp [mv_ld] at h
  | some v => cases v <;> first | exact ⟨_, rfl, mv_nx_inv h⟩ | (simp [mv_ld] at h; done)
theorem mv_ld_inv2 {v : Option Value} {nx pc : Nat} {ls ls' : mv_V} {st st' : List Value} {σ σ' : mv_S} (h : mv_ld 2 v nx ls st σ = some (.inl (pc, ls', st', σ'))) : ∃ x, v = some (.float x) ∧ pc = nx ∧ ls' = ls ∧ st' = .float x :: st ∧ σ' = σ := by
  cases v with
  | none => simp [mv_ld] at h
  | some v => cases v <;> first | exact ⟨_, rfl, mv_nx_inv h⟩ | (simp [mv_ld] at h; done)
theorem mv_ld_inv3 {v : Option Value} {nx pc : Nat} {ls ls' : mv_V} {st st' : List Value} {σ σ' : mv_S} (h : mv_ld 3 v nx ls st σ = some (.inl (pc, ls', st', σ'))) : ∃ x, v = some (.double x) ∧ pc = nx ∧ ls' = ls ∧ st' = .double x :: st ∧ σ' = σ := by
  cases v with
  | none => simp [mv_ld] at h
  | some v => cases v <;> first | exact ⟨_, rfl, mv_nx_inv h⟩ | (simp [mv_ld] at h; done)
theorem mv_ld_inv4 {v : Option Value} {nx pc : Nat} {ls ls' : mv_V} {st st' : List Value} {σ σ' : mv_S} (h : mv_ld 4 v nx ls st σ = some (.inl (pc, ls', st', σ'))) : (∃ x, v = some (.ref x) ∧ pc = nx ∧ ls' = ls ∧ st' = .ref x :: st ∧ σ' = σ) ∨ (v = some .null ∧ pc = nx ∧ ls' = ls ∧ st' = .null :: st ∧ σ' = σ) := by
  cases v with
  | none => simp [mv_ld] at h
  | some v => cases v <;> first | exact Or.inl ⟨_, rfl, mv_nx_inv h⟩ | exact Or.inr ⟨rfl, mv_nx_inv h⟩ | (simp [mv_ld] at h; done)
theorem mv_so_inv0 {i nx pc : Nat} {ls ls' : mv_V} {st st' : List Value} {σ σ' : mv_S} (h : mv_so 0 i nx ls st σ = some (.inl (pc, ls', st', σ'))) : ∃ x st1, st = .int x :: st1 ∧ pc = nx ∧ ls' = (i, .int x) :: mv_f1 i ls ∧ st' = st1 ∧ σ' = σ := by
  cases st with
  | nil => simp [mv_so] at h
  | cons v st => cases v <;> first | exact ⟨_, _, rfl, mv_nx_inv h⟩ | (simp [mv_so] at h; done)
theorem mv_so_inv1 {i nx pc : Nat} {ls ls' : mv_V} {st st' : List Value} {σ σ' : mv_S} (h : mv_so 1 i nx ls st σ = some (.inl (pc, ls', st', σ'))) : ∃ x st1, st = .long x :: st1 ∧ pc = nx ∧ ls' = (i, .long x) :: mv_f2 i ls ∧ st' = st1 ∧ σ' = σ := by
  cases st with
  | nil => simp [mv_so] at h
  | cons v st => cases v <;> first | exact ⟨_, _, rfl, mv_nx_inv h⟩ | (simp [mv_so] at h; done)
theorem mv_so_inv2 {i nx pc : Nat} {ls ls' : mv_V} {st st' : List Value} {σ σ' : mv_S} (h : mv_so 2 i nx ls st σ = some (.inl (pc, ls', st', σ'))) : ∃ x st1, st = .float x :: st1 ∧ pc = nx ∧ ls' = (i, .float x) :: mv_f1 i ls ∧ st' = st1 ∧ σ' = σ := by
  cases st with
  | nil => simp [mv_so] at h
  | cons v st => cases v <;> first | exact ⟨_, _, rfl, mv_nx_inv h⟩ | (simp [mv_so] at h; done)
theorem mv_so_inv3 {i nx pc : Nat} {ls ls' : mv_V} {st st' : List Value} {σ σ' : mv_S} (h : mv_so 3 i nx ls st σ = some (.inl (pc, ls', st', σ'))) : ∃ x st1, st = .double x :: st1 ∧ pc = nx ∧ ls' = (i, .double x) :: mv_f2 i ls ∧ st' = st1 ∧ σ' = σ := by
  cases st with
  | nil => simp [mv_so] at h
  | cons v st => cases v <;> first | exact ⟨_, _, rfl, mv_nx_inv h⟩ | (simp [mv_so] at h; done)
theorem mv_so_inv4 {i nx pc : Nat} {ls ls' : mv_V} {st st' : List Value} {σ σ' : mv_S} (h : mv_so 4 i nx ls st σ = some (.inl (pc, ls', st', σ'))) : (∃ x st1, st = .ref x :: st1 ∧ pc = nx ∧ ls' = (i, .ref x) :: mv_f1 i ls ∧ st' = st1 ∧ σ' = σ) ∨ (∃ st1, st = .null :: st1 ∧ pc = nx ∧ ls' = (i, .null) :: mv_f1 i ls ∧ st' = st1 ∧ σ' = σ) := by
  cases st with
  | nil => simp [mv_so] at h
  | cons v st => cases v <;> first | exact Or.inl ⟨_, _, rfl, mv_nx_inv h⟩ | exact Or.inr ⟨_, rfl, mv_nx_inv h⟩ | (simp [mv_so] at h; done)
theorem mv_r1_no {a : Nat} {st st' : List Value} {σ σ' : mv_S} {pc : Nat} {ls' : mv_V} (h : mv_r1 a st σ = some (.inl (pc, ls', st', σ'))) : False := by
  unfold mv_r1 at h
  split at h
  · split at h <;> cases h
  · cases h
/-- a frame of method M -/
def mv_Fx (z : Nat) (kad : Nat → Nat) (dC : Nat → ClassId) (dI : Nat → Nat → Nat) (cA : Nat → ClassId) (L : Nat) (xs : Nat → Int32) (p : Program) (R : Room) (s : State) (m : MethodId) (args : Array Value) (meth : Method) (c : Code) (M : Nat) : Prop :=
  p.tables.exec = Jvm.exec ∧ c.code = (mv_mi M).1 ∧ c.maxLocals = (mv_mi M).2.2.1 ∧ s.vm.findClass (mv_mi M).2.1.cls = some m.cls ∧ (∀ w ∈ mv_TS, w.before args s = true) ∧ mv_En z kad dC dI cA L xs s ∧ ((mv_mi M).2.1.name = "<init>" → meth.name = "<init>") ∧ 12 ≤ R.frames ∧ 200 ≤ R.locals
/-- at pc, with what the small machine has there, the walk goes on -/
def mv_W (z : Nat) (kad : Nat → Nat) (dC : Nat → ClassId) (dI : Nat → Nat → Nat) (cA : Nat → ClassId) (p : Program) (l : Launch) (e : Env) (R : Room) (s : State) (m : MethodId) (args : Array Value) (below : List Frame) (meth : Method) (c : Code) (Q : State → Prop) (c0 s0 : Nat) (pc : Nat) (ls : mv_V) (st : List Value) (σ : mv_S) : Prop :=
  ∀ (H : Heap) (locs : List Loc) (cells slots : Nat) (lsA : Array Slot), mv_Mo z kad dC dI cA σ H → va_S (mv_A1 z) s.heap H locs → lv_has lsA c.maxLocals (mv_lm (mv_ad z kad) ls) → cells + c0 = mv_cc σ → slots + s0 = mv_ss σ →
    W p l e R s m args below meth c H locs cells slots Q (F0 m pc lsA (st.map (mv_cv (mv_ad z kad))))
section PREP
variable {z : Nat} {kad : Nat → Nat} {dC : Nat → ClassId} {dI : Nat → Nat → Nat} {cA : Nat → ClassId} {L : Nat} {xs : Nat → Int32}
variable {p : Program} {l : Launch} {e : Env} {R : Room} {s : State} {m : MethodId} {args : Array Value} {below : List Frame} {meth : Method} {c : Code} {Q : State → Prop} {c0 s0 M : Nat}
variable {pc pc' nx a b w : Nat} {ls ls' : mv_V} {st st' : List Value} {σ σ' : mv_S}
theorem mv_s_ldc {i : Nat} (hF : mv_Fx z kad dC dI cA L xs p R s m args meth c M) (hok : mv_ok (mv_mi M).1 (mv_mi M).2.1.cls (pc, (.ldc i, nx, a, b, w)) = true) (hlen : mv_lok (pc, (.ldc i, nx, a, b, w)) = true)
    (h : (if a = 1 then mv_nx nx ls (.int (Int32.ofNat b) :: st) σ else none) = some (.inl (pc', ls', st', σ'))) (k : mv_W z kad dC dI cA p l e R s m args below meth c Q c0 s0 pc' ls' st' σ') : mv_W z kad dC dI cA p l e R s m args below meth c Q c0 s0 pc ls st σ := by
  obtain ⟨hx, hb, hml, hown, hts, hE, -, hRf, hRl⟩ := id hF
  have hdec := mv_okd hok
  split at h
  · next hg =>
    obtain ⟨rfl, rfl, rfl, rfl⟩ := mv_nx_inv h
    obtain ⟨hd, rfl⟩ := mv_dec hdec hlen (Nat.succ_ne_zero _)
    intro H locs cells slots lsA hM hS hl hc hs
    have hw : lw_tbl[w]? = some (.constant (mv_mi M).2.1.cls i (Int32.ofNat b)) := by
      unfold mv_ok at hok
      simp only [Bool.and_eq_true, Bool.or_eq_true, decide_eq_true_eq] at hok
      rcases hok.2 with h0 | h0
      · omega
      · exact h0
    exact lv_ldc hx hb hown (hts _ (mv_TS_of hw rfl)) hd (k _ _ _ _ _ hM hS hl hc hs)
  · cases h
theorem mv_s_icmp {cd : ClassFile.Cond} {off : Int} {x y : Int32} (hF : mv_Fx z kad dC dI cA L xs p R s m args meth c M) (hok : mv_ok (mv_mi M).1 (mv_mi M).2.1.cls (pc, (.if_icmp cd off, nx, a, b, w)) = true) (hlen : mv_lok (pc, (.if_icmp cd off, nx, a, b, w)) = true)
    (h : mv_nx (if mv_cmp cd x y = true then a else nx) ls st σ = some (.inl (pc', ls', st', σ'))) (k : mv_W z kad dC dI cA p l e R s m args below meth c Q c0 s0 pc' ls' st' σ') : mv_W z kad dC dI cA p l e R s m args below meth c Q c0 s0 pc ls (.int y :: .int x :: st) σ := by
  obtain ⟨hx, hb, hml, hown, hts, hE, -, hRf, hRl⟩ := id hF
  have hdec := mv_okd hok
  have ht := mv_okt hok rfl
  obtain ⟨rfl, rfl, rfl, rfl⟩ := mv_nx_inv h
  obtain ⟨hd, rfl⟩ := mv_dec hdec hlen (Nat.succ_ne_zero _)
  intro H locs cells slots lsA hM hS hl hc hs
  have k9 := k _ _ _ _ _ hM hS hl hc hs
  cases cd with
  | eq => exact lv_icmp_eq hx hb hd ht (fun hh => by rw [if_pos (show mv_cmp ClassFile.Cond.eq x y = true from decide_eq_true hh)] at k9; exact k9) (fun hh => by rw [if_neg (show ¬ mv_cmp ClassFile.Cond.eq x y = true from fun q => hh (of_decide_eq_true q))] at k9; exact k9)
  | ne => exact lv_icmp_ne hx hb hd ht (fun hh => by rw [if_pos (show mv_cmp ClassFile.Cond.ne x y = true from decide_eq_true hh)] at k9; exact k9) (fun hh => by rw [if_neg (show ¬ mv_cmp ClassFile.Cond.ne x y = true from fun q => (of_decide_eq_true q) hh)] at k9; exact k9)
  | lt => exact lv_icmp_lt hx hb hd ht (fun hh => by rw [if_pos (show mv_cmp ClassFile.Cond.lt x y = true from decide_eq_true hh)] at k9; exact k9) (fun hh => by rw [if_neg (show ¬ mv_cmp ClassFile.Cond.lt x y = true from fun q => hh (of_decide_eq_true q))] at k9; exact k9)
  | ge => exact lv_icmp_ge hx hb hd ht (fun hh => by rw [if_pos (show mv_cmp ClassFile.Cond.ge x y = true from decide_eq_true hh)] at k9; exact k9) (fun hh => by rw [if_neg (show ¬ mv_cmp ClassFile.Cond.ge x y = true from fun q => hh (of_decide_eq_true q))] at k9; exact k9)
  | gt => exact lv_icmp_gt hx hb hd ht (fun hh => by rw [if_pos (show mv_cmp ClassFile.Cond.gt x y = true from decide_eq_true hh)] at k9; exact k9) (fun hh => by rw [if_neg (show ¬ mv_cmp ClassFile.Cond.gt x y = true from fun q => hh (of_decide_eq_true q))] at k9; exact k9)
  | le => exact lv_icmp_le hx hb hd ht (fun hh => by rw [if_pos (show mv_cmp ClassFile.Cond.le x y = true from decide_eq_true hh)] at k9; exact k9) (fun hh => by rw [if_neg (show ¬ mv_cmp ClassFile.Cond.le x y = true from fun q => hh (of_decide_eq_true q))] at k9; exact k9)
theorem mv_s_if {cd : ClassFile.Cond} {off : Int} {x : Int32} (hF : mv_Fx z kad dC dI cA L xs p R s m args meth c M) (hok : mv_ok (mv_mi M).1 (mv_mi M).2.1.cls (pc, (.ifCond cd off, nx, a, b, w)) = true) (hlen : mv_lok (pc, (.ifCond cd off, nx, a, b, w)) = true)
    (h : mv_nx (if mv_cmp cd x 0 = true then a else nx) ls st σ = some (.inl (pc', ls', st', σ'))) (k : mv_W z kad dC dI cA p l e R s m args below meth c Q c0 s0 pc' ls' st' σ') : mv_W z kad dC dI cA p l e R s m args below meth c Q c0 s0 pc ls (.int x :: st) σ := by
  obtain ⟨hx, hb, hml, hown, hts, hE, -, hRf, hRl⟩ := id hF
  have hdec := mv_okd hok
  have ht := mv_okt hok rfl
  obtain ⟨rfl, rfl, rfl, rfl⟩ := mv_nx_inv h
  obtain ⟨hd, rfl⟩ := mv_dec hdec hlen (Nat.succ_ne_zero _)
  intro H locs cells slots lsA hM hS hl hc hs
  have k9 := k _ _ _ _ _ hM hS hl hc hs
  cases cd with
  | eq => exact lv_if_eq hx hb hd ht (fun hh => by rw [if_pos (show mv_cmp ClassFile.Cond.eq x 0 = true from decide_eq_true hh)] at k9; exact k9) (fun hh => by rw [if_neg (show ¬ mv_cmp ClassFile.Cond.eq x 0 = true from fun q => hh (of_decide_eq_true q))] at k9; exact k9)
  | ne => exact lv_if_ne hx hb hd ht (fun hh => by rw [if_pos (show mv_cmp ClassFile.Cond.ne x 0 = true from decide_eq_true hh)] at k9; exact k9) (fun hh => by rw [if_neg (show ¬ mv_cmp ClassFile.Cond.ne x 0 = true from fun q => (of_decide_eq_true q) hh)] at k9; exact k9)
  | lt => exact lv_if_lt hx hb hd ht (fun hh => by rw [if_pos (show mv_cmp ClassFile.Cond.lt x 0 = true from decide_eq_true hh)] at k9; exact k9) (fun hh => by rw [if_neg (show ¬ mv_cmp ClassFile.Cond.lt x 0 = true from fun q => hh (of_decide_eq_true q))] at k9; exact k9)
  | ge => exact lv_if_ge hx hb hd ht (fun hh => by rw [if_pos (show mv_cmp ClassFile.Cond.ge x 0 = true from decide_eq_true hh)] at k9; exact k9) (fun hh => by rw [if_neg (show ¬ mv_cmp ClassFile.Cond.ge x 0 = true from fun q => hh (of_decide_eq_true q))] at k9; exact k9)
  | gt => exact lv_if_gt hx hb hd ht (fun hh => by rw [if_pos (show mv_cmp ClassFile.Cond.gt x 0 = true from decide_eq_true hh)] at k9; exact k9) (fun hh => by rw [if_neg (show ¬ mv_cmp ClassFile.Cond.gt x 0 = true from fun q => hh (of_decide_eq_true q))] at k9; exact k9)
  | le => exact lv_if_le hx hb hd ht (fun hh => by rw [if_pos (show mv_cmp ClassFile.Cond.le x 0 = true from decide_eq_true hh)] at k9; exact k9) (fun hh => by rw [if_neg (show ¬ mv_cmp ClassFile.Cond.le x 0 = true from fun q => hh (of_decide_eq_true q))] at k9; exact k9)
end PREP
