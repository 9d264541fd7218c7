/-! THE SMALL MACHINE OVER THE JVM: addresses, the world of the objects, what stands still -/
noncomputable def mv_TS : List Cond := lw_tbl.filter goodWord
theorem mv_TS_of {w : Cond} {k : Nat} (h : lw_tbl[k]? = some w) (hg : goodWord w = true) : w ∈ mv_TS := List.mem_filter.mpr ⟨List.mem_of_getElem? h, hg⟩
def mv_ad (z : Nat) (kad : Nat → Nat) (o : Nat) : Nat := if o < 1000 then z + o else kad o
def mv_cv (ad : Nat → Nat) (v : Value) : Value := match v with
  | .ref o => .ref (ad o)
  | v => v
theorem mv_cv_cat (ad : Nat → Nat) (v : Value) : (mv_cv ad v).category = v.category := by cases v <;> rfl
def mv_lm (ad : Nat → Nat) (ls : mv_V) : mv_V := ls.map (fun q => (q.1, mv_cv ad q.2))
theorem mv_lk_mem : ∀ {ls : mv_V} {i : Nat} {v : Value}, mv_lk i ls = some v → (i, v) ∈ ls
  | [], _, _, h => by simp [mv_lk] at h
  | (j, w) :: l, i, v, h => by
    unfold mv_lk at h
    split at h
    · next e => cases h; subst e; exact List.mem_cons_self
    · exact List.mem_cons_of_mem _ (mv_lk_mem h)
theorem mv_lat {ad : Nat → Nat} {lsA : Array Slot} {n : Nat} {ls : mv_V} (h : lv_has lsA n (mv_lm ad ls)) {i : Nat} {v : Value} (hk : mv_lk i ls = some v) : lsA[i]? = some (.val (mv_cv ad v)) :=
  h.2.2 (i, mv_cv ad v) (List.mem_map.mpr ⟨(i, v), mv_lk_mem hk, rfl⟩)
theorem mv_f1_map (ad : Nat → Nat) (i : Nat) (ls : mv_V) : (mv_lm ad ls).filter (fun q => !(q.1 == i) && !(q.1 + 1 == i && q.2.category == 2)) = mv_lm ad (mv_f1 i ls) := by
  simp only [mv_lm, mv_f1, List.filter_map, Function.comp_def, mv_cv_cat]
theorem mv_f2_map (ad : Nat → Nat) (i : Nat) (ls : mv_V) : (mv_lm ad ls).filter (fun q => !(q.1 == i) && (!(q.1 == i + 1) && !(q.1 + 1 == i && q.2.category == 2))) = mv_lm ad (mv_f2 i ls) := by
  simp only [mv_lm, mv_f2, List.filter_map, Function.comp_def, mv_cv_cat]
theorem mv_st1 (ad : Nat → Nat) (i : Nat) (v : Value) (ls : mv_V) : (i, mv_cv ad v) :: (mv_lm ad ls).filter (fun q => !(q.1 == i) && !(q.1 + 1 == i && q.2.category == 2)) = mv_lm ad ((i, v) :: mv_f1 i ls) := by rw [mv_f1_map]; rfl
theorem mv_st2 (ad : Nat → Nat) (i : Nat) (v : Value) (ls : mv_V) : (i, mv_cv ad v) :: (mv_lm ad ls).filter (fun q => !(q.1 == i) && (!(q.1 == i + 1) && !(q.1 + 1 == i && q.2.category == 2))) = mv_lm ad ((i, v) :: mv_f2 i ls) := by rw [mv_f2_map]; rfl
-- the world
def mv_iv (v : Value) : Int32 := match v with | .int x => x | _ => 0
def mv_lv (v : Value) : Int64 := match v with | .long x => x | _ => 0
def mv_bv (v : Value) : UInt64 := match v with | .double x => x | _ => 0
def mv_ov (ad : Nat → Nat) (v : Value) : Option Nat := match v with | .ref o => some (ad o) | _ => none
def mv_ce (ad : Nat → Nat) (cA : Nat → ClassId) (o : Nat) (f : Nat → Value) : va_E :=
  if (mv_kd o).1 < 8 then .inr ((mv_kd o).1, (List.range (mv_kd o).2).map (fun j => mv_cv ad (f j)))
  else .inl (cA (mv_kd o).1, ((mv_kd o).2, if (mv_kd o).1 < 24 then .inl (fun j => mv_iv (f j)) else .inr (.inr (.inr (.inr (fun j => mv_ov ad (f j)))))))
def mv_wl (ad : Nat → Nat) (cA : Nat → ClassId) (n : Nat) (h : mv_H) : va_W := (List.range n).map (fun o => (ad o, mv_ce ad cA o (h o)))
theorem mv_upo_eq (h : mv_H) (o : Nat) (f : Nat → Value) : mv_upo h o f o = f := by funext j; simp [mv_upo]
theorem mv_upo_ne (h : mv_H) {o p : Nat} (f : Nat → Value) (e : ¬ p = o) : mv_upo h o f p = h p := by funext j; simp [mv_upo, e]
theorem mv_wl_get {ad : Nat → Nat} {cA : Nat → ClassId} {n o : Nat} {h : mv_H} (ho : o < n) : (mv_wl ad cA n h)[o]? = some (ad o, mv_ce ad cA o (h o)) := by
  simp [mv_wl, List.getElem?_map, List.getElem?_range ho]
theorem mv_wl_set {ad : Nat → Nat} {cA : Nat → ClassId} {n o : Nat} {h : mv_H} (f : Nat → Value) : (mv_wl ad cA n h).set o (ad o, mv_ce ad cA o f) = mv_wl ad cA n (mv_upo h o f) := by
  apply List.ext_getElem?
  intro j
  rw [List.getElem?_set]
  by_cases hj : j < n
  · rw [mv_wl_get hj, mv_wl_get hj]
    by_cases e : o = j
    · subst e
      simp [mv_wl, hj, mv_upo_eq]
    · have e' : ¬ j = o := fun h => e h.symm
      simp [e, mv_upo_ne _ _ e']
  · have h1 : (mv_wl ad cA n h)[j]? = none := by simp [mv_wl]; omega
    have h2 : (mv_wl ad cA n (mv_upo h o f))[j]? = none := by simp [mv_wl]; omega
    rw [h1, h2]
    by_cases e : o = j
    · subst e
      have : ¬ o < (mv_wl ad cA n h).length := by simp [mv_wl]; omega
      simp [this]
    · simp [e]
theorem mv_up_o (h : mv_H) (o k : Nat) (v : Value) : mv_up h o k v = mv_upo h o (fun j => if j = k then v else h o j) := by
  funext p j
  by_cases e : p = o
  · subst e; simp [mv_up, mv_upo]
  · simp [mv_up, mv_upo, e]
theorem mv_wl_push {ad : Nat → Nat} {cA : Nat → ClassId} {n : Nat} {h : mv_H} (f : Nat → Value) : mv_wl ad cA (n + 1) (mv_upo h n f) = mv_wl ad cA n h ++ [(ad n, mv_ce ad cA n f)] := by
  unfold mv_wl
  rw [List.range_succ, List.map_append]
  congr 1
  · apply List.map_congr_left
    intro o ho
    have : ¬ o = n := by have := List.mem_range.mp ho; omega
    rw [mv_upo_ne _ _ this]
  · simp [mv_upo_eq]
/-- where the objects lie -/
def mv_A1 (z q : Nat) : Prop := z ≤ q ∧ q < z + 142
theorem mv_wl_D {z : Nat} {kad : Nat → Nat} {cA : Nat → ClassId} {n : Nat} {h : mv_H} (hn : n ≤ 142) : va_D (mv_A1 z) (mv_wl (mv_ad z kad) cA n h) := by
  have key : ∀ (i : Nat) (p : Nat × va_E), (mv_wl (mv_ad z kad) cA n h)[i]? = some p → p.1 = z + i ∧ i < n := by
    intro i p hp
    by_cases hi : i < n
    · rw [mv_wl_get hi] at hp
      cases hp
      refine ⟨?_, hi⟩
      show mv_ad z kad i = z + i
      unfold mv_ad
      rw [if_pos (by omega)]
    · have h1 : (mv_wl (mv_ad z kad) cA n h)[i]? = none := by simp [mv_wl]; omega
      rw [h1] at hp; cases hp
  refine ⟨fun i j p q hp hq e => ?_, fun k q hq => ?_⟩
  · have h1 := key i p hp
    have h2 := key j q hq
    omega
  · have h1 := key k q hq
    show z ≤ q.1 ∧ q.1 < z + 142
    omega
def mv_tys (cA : Nat → ClassId) : List (ClassId × FieldType) := [(cA 20, .int), (cA 21, .char), (cA 22, .byte), (cA 23, .char), (cA 24, .object "SluiceChain$Basin"), (cA 25, .object "SluiceChain$Chain")]
/-- what the heap holds -/
def mv_Mo (z : Nat) (kad : Nat → Nat) (dC : Nat → ClassId) (dI : Nat → Nat → Nat) (cA : Nat → ClassId) (σ : mv_S) (H : Heap) : Prop :=
  va_P (dC, dI) mv_cls (mv_wl (mv_ad z kad) cA σ.2.1 σ.2.2) H ∧ (σ.2.1 < 142 → H.size = z + σ.2.1) ∧ σ.2.1 ≤ 142
/-- what has been made so far: things, and their places -/
def mv_sl : Nat → Nat
  | 0 => 0
  | n + 1 => mv_sl n + (mv_kd n).2
def mv_cc (σ : mv_S) : Nat := σ.2.1 + σ.1
def mv_ss (σ : mv_S) : Nat := mv_sl σ.2.1 + 6 * σ.1
/-- what may be thrown here: all but UnsupportedOperationException -/
def mv_e6 (k : Nat) : Bool := decide (k < 6) && !decide (k = 4)
def mv_e5 (k : Nat) : Bool := mv_e6 k && !decide (k = 3)
theorem mv_e6_lt {k : Nat} (h : mv_e6 k = true) : k < 6 := by
  simp only [mv_e6, Bool.and_eq_true, decide_eq_true_eq] at h
  exact h.1
/-- the classes of what is thrown, by their numbers -/
def mv_ec (k : Nat) : String := match k with
  | 0 => "java/lang/IllegalArgumentException" | 1 => "java/lang/IllegalStateException" | 2 => "java/lang/IndexOutOfBoundsException" | 3 => "java/lang/ArithmeticException" | 4 => "java/lang/UnsupportedOperationException" | _ => "java/util/NoSuchElementException"
/-- words that go over to a callee by themselves -/
def mv_nest (w : Cond) : Bool := match w with
  | .fieldLinkNest _ _ _ _ _ _ => true
  | .methodLinkNest _ _ _ _ => true
  | .castable _ _ => true
  | .declares _ => true
  | .arrayOver (.object _) => true
  | _ => false
/-- what stands still: classes, constants, the script -/
def mv_En (z : Nat) (kad : Nat → Nat) (dC : Nat → ClassId) (dI : Nat → Nat → Nat) (cA : Nat → ClassId) (L : Nat) (xs : Nat → Int32) (U : State) : Prop :=
  va_K (dC, dI) mv_cls (mv_tys cA) U ∧ z ≤ U.heap.size ∧
  (∀ a ∈ [1000, 1001, 1002, 1003, 1004, 1005, 1006, 1007, 1010, 1011, 1012, 1013, 1021], va_Z (mv_sn a).1 (mv_sn a).2.1 (mv_sn a).2.2 (.ref (kad a)) (mv_A1 z) U U.heap) ∧
  (∀ i, i < 8 → va_O "SluiceChain$Command" (kad (1000 + i)) (mv_A1 z) U U.heap ∧ va_OF "java/lang/Enum" "ordinal" "I" (.int (nI i)) (kad (1000 + i)) (mv_A1 z) U U.heap) ∧
  (∀ i j, i < 14 → j < 14 → kad (1000 + i) = kad (1000 + j) → i = j) ∧
  va_T .int (kad 1021) 8 (fun i => .int (nI (mv_sm i))) (mv_A1 z) U U.heap ∧
  (L < 2 ^ 31 ∧ kad 2000 < z ∧ va_X (kad 2000) L xs U U.heap) ∧
  vx_Zq Bundle.tN "UNASSIGNED_STACK" Bundle.steD (mv_A1 z) U U.heap ∧ vx_Zq Bundle.tN "SUPPRESSED_SENTINEL" Bundle.listD (mv_A1 z) U U.heap ∧
  (∀ w ∈ lw_tbl, mv_nest w = true → va_Nw w U) ∧ (∀ i j, mv_e6 i = true → mv_e5 j = true → i ≠ j → va_Nc (mv_ec i) (mv_ec j) U) ∧ (∀ own k tx, Cond.stringRef own k tx ∈ lw_tbl → ∃ a, vk_R own k tx a U)
theorem mv_EnN {z : Nat} {kad : Nat → Nat} {dC : Nat → ClassId} {dI : Nat → Nat → Nat} {cA : Nat → ClassId} {L : Nat} {xs : Nat → Int32} {U : State} (h : mv_En z kad dC dI cA L xs U) {w : Cond} {k : Nat} (hw : lw_tbl[k]? = some w) (hn : mv_nest w = true) : va_Nw w U := by
  obtain ⟨-, -, -, -, -, -, -, -, -, h, -, -⟩ := h
  exact h w (List.mem_of_getElem? hw) hn
