/-! THE SMALL MACHINE OVER THE JVM: addresses, the world of the objects, what stands still -/
noncomputable def mv_TS : List Cond := lw_tbl.filter goodWord
theorem mv_TS_of {w : Cond} {k : Nat} (h : lw_tbl[k]? = some w) (hg : goodWord w = true) : w ∈ mv_TS := List.mem_filter.mpr ⟨List.mem_of_getElem? h, hg⟩
def mv_ad (z : Nat) (kad : Nat → Nat) (o : Nat) : Nat := if o < 1000 then z + o else kad o
def mv_cv (ad : Nat → Nat) (v : Value) : Value := match v with
  | .ref o => .ref (ad o)
  | v => v
theorem mv_cv_cat (ad : Nat → Nat) (v : Value) : (mv_cv ad v).category = v.category := by cases v <;> rfl
def mv_lm (ad : Nat → Nat) (ls : mv_V) : mv_V := ls.map (fun q => (q.1, mv_cv ad q.2))
theorem mv_lk_mem : ∀ {ls : mv_V} {i : Nat} {v : Value}, mv_lk i ls = some v → (i, v) ∈ ls
  | [], _, _, h => by simp [mv_lk] at h
  | (j, w) :: l, i, v, h => by
    unfold mv_lk at h
    split at h
    · next e => cases h; subst e; exact List.mem_cons_self
    · exact List.mem_cons_of_mem _ (mv_lk_mem h)
theorem mv_lat {ad : Nat → Nat} {lsA : Array Slot} {n : Nat} {ls : mv_V} (h : lv_has lsA n (mv_lm ad ls)) {i : Nat} {v : Value} (hk : mv_lk i ls = some v) : lsA[i]? = some (.val (mv_cv ad v)) :=
  h.2.2 (i, mv_cv ad v) (List.mem_map.mpr ⟨(i, v), mv_lk_mem hk, rfl⟩)
theorem mv_f1_map (ad : Nat → Nat) (i : Nat) (ls : mv_V) : (mv_lm ad ls).filter (fun q => !(q.1 == i) && !(q.1 + 1 == i && q.2.category == 2)) = mv_lm ad (mv_f1 i ls) := by
  simp only [mv_lm, mv_f1, List.filter_map, Function.comp_def, mv_cv_cat]
theorem mv_f2_map (ad : Nat → Nat) (i : Nat) (ls : mv_V) : (mv_lm ad ls).filter (fun q => !(q.1 == i) && (!(q.1 == i + 1) && !(q.1 + 1 == i && q.2.category == 2))) = mv_lm ad (mv_f2 i ls) := by
  simp only [mv_lm, mv_f2, List.filter_map, Function.comp_def, mv_cv_cat]
theorem mv_st1 (ad : Nat → Nat) (i : Nat) (v : Value) (ls : mv_V) : (i, mv_cv ad v) :: (mv_lm ad ls).filter (fun q => !(q.1 == i) && !(q.1 + 1 == i && q.2.category == 2)) = mv_lm ad ((i, v) :: mv_f1 i ls) := by rw [mv_f1_map]; rfl
theorem mv_st2 (ad : Nat → Nat) (i : Nat) (v : Value) (ls : mv_V) : (i, mv_cv ad v) :: (mv_lm ad ls).filter (fun q => !(q.1 == i) && (!(q.1 == i + 1) && !(q.1 + 1 == i && q.2.category == 2))) = mv_lm ad ((i, v) :: mv_f2 i ls) := by rw [mv_f2_map]; rfl
-- the world
def mv_iv (v : Value) : Int32 := match v with | .int x => x | _ => 0
def mv_lv (v : Value) : Int64 := match v with | .long x => x | _ => 0
def mv_bv (v : Value) : UInt64 := match v with | .double x => x | _ => 0
def mv_ov (ad : Nat → Nat) (v : Value) : Option Nat := match v with | .ref o => some (ad o) | _ => none
def mv_ce (ad : Nat → Nat) (cA : Nat → ClassId) (o : Nat) (f : Nat → Value) : va_E :=
  if (mv_kd o).1 < 8 then .inr ((mv_kd o).1, (List.range (mv_kd o).2).map (fun j => mv_cv ad (f j)))
  else .inl (cA (mv_kd o).1, ((mv_kd o).2, if (mv_kd o).1 < 24 then .inl (fun j => mv_iv (f j)) else .inr (.inr (.inr (.inr (fun j => mv_ov ad (f j)))))))
def mv_wl (ad : Nat → Nat) (cA : Nat → ClassId) (wx : va_W) (n : Nat) (h : mv_H) : va_W := (List.range n).map (fun o => (ad o, mv_ce ad cA o (h o))) ++ wx
theorem mv_upo_eq (h : mv_H) (o : Nat) (f : Nat → Value) : mv_upo h o f o = f := by funext j; simp [mv_upo]
theorem mv_upo_ne (h : mv_H) {o p : Nat} (f : Nat → Value) (e : ¬ p = o) : mv_upo h o f p = h p := by funext j; simp [mv_upo, e]
theorem mv_wl_get {ad : Nat → Nat} {cA : Nat → ClassId} {wx : va_W} {n o : Nat} {h : mv_H} (ho : o < n) : (mv_wl ad cA wx n h)[o]? = some (ad o, mv_ce ad cA o (h o)) := by
  unfold mv_wl
  rw [List.getElem?_append_left (by simpa using ho)]
  simp [List.getElem?_map, List.getElem?_range ho]
theorem mv_wl_hi {ad : Nat → Nat} {cA : Nat → ClassId} {wx : va_W} {n j : Nat} {h : mv_H} (hj : ¬ j < n) : (mv_wl ad cA wx n h)[j]? = wx[j - n]? := by
  unfold mv_wl
  rw [List.getElem?_append_right (by simp; omega)]
  simp
theorem mv_wl_len {ad : Nat → Nat} {cA : Nat → ClassId} {wx : va_W} {n : Nat} {h : mv_H} : (mv_wl ad cA wx n h).length = n + wx.length := by simp [mv_wl]
theorem mv_wl_set {ad : Nat → Nat} {cA : Nat → ClassId} {wx : va_W} {n o : Nat} {h : mv_H} (ho : o < n) (f : Nat → Value) : (mv_wl ad cA wx n h).set o (ad o, mv_ce ad cA o f) = mv_wl ad cA wx n (mv_upo h o f) := by
  apply List.ext_getElem?
  intro j
  rw [List.getElem?_set]
  by_cases hj : j < n
  · rw [mv_wl_get hj, mv_wl_get hj, mv_wl_len]
    by_cases e : o = j
    · subst e
      rw [if_pos rfl, if_pos (by omega), mv_upo_eq]
    · have e' : ¬ j = o := fun h => e h.symm
      rw [if_neg e, mv_upo_ne _ _ e']
  · rw [mv_wl_hi hj, mv_wl_hi hj, if_neg (by omega)]
theorem mv_up_o (h : mv_H) (o k : Nat) (v : Value) : mv_up h o k v = mv_upo h o (fun j => if j = k then v else h o j) := by
  funext p j
  by_cases e : p = o
  · subst e; simp [mv_up, mv_upo]
  · simp [mv_up, mv_upo, e]
theorem mv_wl_push {ad : Nat → Nat} {cA : Nat → ClassId} {n : Nat} {h : mv_H} (f : Nat → Value) : mv_wl ad cA [] (n + 1) (mv_upo h n f) = mv_wl ad cA [] n h ++ [(ad n, mv_ce ad cA n f)] := by
  unfold mv_wl
  rw [List.range_succ, List.map_append, List.append_nil, List.append_nil]
  congr 1
  · apply List.map_congr_left
    intro o ho
    have : ¬ o = n := by have := List.mem_range.mp ho; omega
    rw [mv_upo_ne _ _ this]
  · simp [mv_upo_eq]
/-- how many objects there are, and where those beside them lie -/
def mv_Md (z : Nat) (wx : va_W) (n : Nat) : Prop := n ≤ 142 ∧ va_D (fun q => z + 142 ≤ q) wx ∧ (n < 142 → wx = [])
theorem mv_wl_D {z : Nat} {kad : Nat → Nat} {cA : Nat → ClassId} {wx : va_W} {n : Nat} {h : mv_H} (hn : mv_Md z wx n) : va_D (fun q => z ≤ q) (mv_wl (mv_ad z kad) cA wx n h) := by
  have key : ∀ (i : Nat) (p : Nat × va_E), (mv_wl (mv_ad z kad) cA wx n h)[i]? = some p → (i < n ∧ p.1 = z + i) ∨ (¬ i < n ∧ wx[i - n]? = some p ∧ z + 142 ≤ p.1) := by
    intro i p hp
    have hn1 := hn.1
    by_cases hi : i < n
    · rw [mv_wl_get hi] at hp
      cases hp
      refine Or.inl ⟨hi, ?_⟩
      show mv_ad z kad i = z + i
      unfold mv_ad
      rw [if_pos (by omega)]
    · rw [mv_wl_hi hi] at hp
      exact Or.inr ⟨hi, hp, hn.2.1.2 _ _ hp⟩
  refine ⟨fun i j p q hp hq e => ?_, fun k q hq => ?_⟩
  · have hn1 := hn.1
    rcases key i p hp with ⟨h1, h2⟩ | ⟨h1, h2, h3⟩
    · rcases key j q hq with ⟨g1, g2⟩ | ⟨g1, g2, g3⟩
      · omega
      · omega
    · rcases key j q hq with ⟨g1, g2⟩ | ⟨g1, g2, g3⟩
      · omega
      · have := hn.2.1.1 _ _ p q h2 g2 e
        omega
  · show z ≤ q.1
    rcases key k q hq with ⟨h1, h2⟩ | ⟨h1, h2, h3⟩ <;> omega
def mv_tys (cA : Nat → ClassId) : List (ClassId × FieldType) := [(cA 20, .int), (cA 21, .char), (cA 22, .byte), (cA 23, .char), (cA 24, .object "SluiceChain$Basin"), (cA 25, .object "SluiceChain$Chain")]
/-- the law's own texts: "", " ", "/", "|", ":", "~", "," -/
def mv_tx (i : Nat) : List Nat := match i with
  | 0 => [] | 1 => [32] | 2 => [47] | 3 => [124] | 4 => [58] | 5 => [126] | _ => [44]
def mv_txl : List Nat := [0, 1, 1, 1, 1, 1, 1]
def mv_txb : List (List Int32) := [[], [32], [47], [124], [58], [126], [44]]
/-- what the heap holds -/
def mv_Mo (z : Nat) (kad : Nat → Nat) (dC : Nat → ClassId) (dI : Nat → Nat → Nat) (cA : Nat → ClassId) (wx : va_W) (σ : mv_S) (H : Heap) : Prop :=
  va_P (dC, dI) mv_cls (mv_wl (mv_ad z kad) cA wx σ.2.1 σ.2.2) H ∧ (σ.2.1 < 142 → H.size = z + σ.2.1) ∧ mv_Md z wx σ.2.1
/-- what has been made so far: things, and their places -/
def mv_sl : Nat → Nat
  | 0 => 0
  | n + 1 => mv_sl n + (mv_kd n).2
def mv_cc (σ : mv_S) : Nat := σ.2.1 + σ.1
def mv_ss (σ : mv_S) : Nat := mv_sl σ.2.1 + 6 * σ.1
/-- what may be thrown here: all but UnsupportedOperationException -/
def mv_e6 (k : Nat) : Bool := decide (k < 6) && !decide (k = 4)
theorem mv_e6_lt {k : Nat} (h : mv_e6 k = true) : k < 6 := by
  simp only [mv_e6, Bool.and_eq_true, decide_eq_true_eq] at h
  exact h.1
/-- the classes of what is thrown, by their numbers -/
def mv_ec (k : Nat) : String := match k with
  | 0 => "java/lang/IllegalArgumentException" | 1 => "java/lang/IllegalStateException" | 2 => "java/lang/IndexOutOfBoundsException" | 3 => "java/lang/ArithmeticException" | 4 => "java/lang/UnsupportedOperationException" | _ => "java/util/NoSuchElementException"
/-- words that go over to a callee by themselves -/
def mv_nest (w : Cond) : Bool := match w with
  | .fieldLinkNest _ _ _ _ _ _ => true
  | .methodLinkNest _ _ _ _ => true
  | .castable _ _ => true
  | .declares _ => true
  | .arrayOver (.object _) => true
  | _ => false
/-- what stands still: classes, constants, the script -/
def mv_En (z : Nat) (kad : Nat → Nat) (dC : Nat → ClassId) (dI : Nat → Nat → Nat) (cA : Nat → ClassId) (L : Nat) (xs : Nat → Int32) (U : State) : Prop :=
  va_K (dC, dI) mv_cls (mv_tys cA) U ∧ z ≤ U.heap.size ∧
  (∀ a ∈ [1000, 1001, 1002, 1003, 1004, 1005, 1006, 1007, 1010, 1011, 1012, 1013, 1021], va_Z (mv_sn a).1 (mv_sn a).2.1 (mv_sn a).2.2 (.ref (kad a)) (fun q => z ≤ q) U U.heap) ∧
  (∀ i, i < 8 → va_O "SluiceChain$Command" (kad (1000 + i)) (fun q => z ≤ q) U U.heap ∧ va_OF "java/lang/Enum" "ordinal" "I" (.int (nI i)) (kad (1000 + i)) (fun q => z ≤ q) U U.heap) ∧
  (∀ i j, i < 14 → j < 14 → kad (1000 + i) = kad (1000 + j) → i = j) ∧
  va_T .int (kad 1021) 8 (fun i => .int (nI (mv_sm i))) (fun q => z ≤ q) U U.heap ∧
  (L < 2 ^ 31 ∧ kad 2000 < z ∧ va_X (kad 2000) L xs U U.heap) ∧
  vk_S 7 mv_txl mv_txb (fun i => kad (1050 + i)) (fun i => kad (1060 + i)) (fun q => z ≤ q) U U.heap ∧
  vx_Zq Bundle.tN "UNASSIGNED_STACK" Bundle.steD (fun q => z ≤ q) U U.heap ∧ vx_Zq Bundle.tN "SUPPRESSED_SENTINEL" Bundle.listD (fun q => z ≤ q) U U.heap ∧
  (∀ w ∈ lw_tbl, mv_nest w = true → va_Nw w U) ∧ (∀ i j, mv_e6 i = true → mv_e6 j = true → i ≠ j → va_Nc (mv_ec i) (mv_ec j) U) ∧ (∀ own k tx, Cond.stringRef own k tx ∈ lw_tbl → ∃ a, vk_R own k tx a U) ∧
  va_Z "java/lang/String" "COMPACT_STRINGS" "Z" (.int 1) (fun q => z ≤ q) U U.heap ∧ va_Zq "jdk/internal/util/Preconditions" "SIOOBE_FORMATTER" "Ljava/util/function/BiFunction;" (fun q => z ≤ q) U U.heap
theorem mv_EnN {z : Nat} {kad : Nat → Nat} {dC : Nat → ClassId} {dI : Nat → Nat → Nat} {cA : Nat → ClassId} {L : Nat} {xs : Nat → Int32} {U : State} (h : mv_En z kad dC dI cA L xs U) {w : Cond} {k : Nat} (hw : lw_tbl[k]? = some w) (hn : mv_nest w = true) : va_Nw w U := by
  obtain ⟨-, -, -, -, -, -, -, -, -, -, h, -, -⟩ := h
  exact h w (List.mem_of_getElem? hw) hn
