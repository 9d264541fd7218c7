/-! THE JDK'S OWN METHODS: ordinal, length, charAt -/
def yj_ord : MethodName := ⟨"java/lang/Enum", "ordinal", "()I"⟩
theorem dj_ord_0 : decode prog_22_method_2_code 0 = .ok (.aload_n 0, 1) := by decide +kernel
theorem dj_ord_1 : decode prog_22_method_2_code 1 = .ok (.getfield 7, 3) := by decide +kernel
theorem dj_ord_4 : decode prog_22_method_2_code 4 = .ok (.ireturn, 1) := by decide +kernel
theorem wj_ord : Cond.code yj_ord prog_22_method_2_code 1 (some .int) ∈ mv_TS := mv_TS_of (k := 849) (by decide +kernel) rfl
noncomputable def wl_ord : List Cond := Cond.code yj_ord prog_22_method_2_code 1 (some .int) :: mv_TS
def yj_len : MethodName := ⟨"java/lang/String", "length", "()I"⟩
theorem dj_len_0 : decode prog_31_method_54_code 0 = .ok (.aload_n 0, 1) := by decide +kernel
theorem dj_len_1 : decode prog_31_method_54_code 1 = .ok (.getfield 9, 3) := by decide +kernel
theorem dj_len_4 : decode prog_31_method_54_code 4 = .ok (.arraylength, 1) := by decide +kernel
theorem dj_len_5 : decode prog_31_method_54_code 5 = .ok (.aload_n 0, 1) := by decide +kernel
theorem dj_len_6 : decode prog_31_method_54_code 6 = .ok (.invokevirtual 335, 3) := by decide +kernel
theorem dj_len_9 : decode prog_31_method_54_code 9 = .ok (.ishr, 1) := by decide +kernel
theorem dj_len_10 : decode prog_31_method_54_code 10 = .ok (.ireturn, 1) := by decide +kernel
theorem wj_len : Cond.code yj_len prog_31_method_54_code 1 (some .int) ∈ mv_TS := mv_TS_of (k := 990) (by decide +kernel) rfl
noncomputable def wl_len : List Cond := Cond.code yj_len prog_31_method_54_code 1 (some .int) :: mv_TS
def yj_cod : MethodName := ⟨"java/lang/String", "coder", "()B"⟩
theorem dj_cod_0 : decode prog_31_method_152_code 0 = .ok (.getstatic 38, 3) := by decide +kernel
theorem dj_cod_3 : decode prog_31_method_152_code 3 = .ok (.ifCond .eq 10, 3) := by decide +kernel
theorem dj_cod_6 : decode prog_31_method_152_code 6 = .ok (.aload_n 0, 1) := by decide +kernel
theorem dj_cod_7 : decode prog_31_method_152_code 7 = .ok (.getfield 15, 3) := by decide +kernel
theorem dj_cod_10 : decode prog_31_method_152_code 10 = .ok (.goto 4, 3) := by decide +kernel
theorem dj_cod_14 : decode prog_31_method_152_code 14 = .ok (.ireturn, 1) := by decide +kernel
theorem wj_cod : Cond.code yj_cod prog_31_method_152_code 1 (some .byte) ∈ mv_TS := mv_TS_of (k := 994) (by decide +kernel) rfl
noncomputable def wl_cod : List Cond := Cond.code yj_cod prog_31_method_152_code 1 (some .byte) :: mv_TS
def yj_lat : MethodName := ⟨"java/lang/String", "isLatin1", "()Z"⟩
theorem dj_lat_0 : decode prog_31_method_154_code 0 = .ok (.getstatic 38, 3) := by decide +kernel
theorem dj_lat_3 : decode prog_31_method_154_code 3 = .ok (.ifCond .eq 14, 3) := by decide +kernel
theorem dj_lat_6 : decode prog_31_method_154_code 6 = .ok (.aload_n 0, 1) := by decide +kernel
theorem dj_lat_7 : decode prog_31_method_154_code 7 = .ok (.getfield 15, 3) := by decide +kernel
theorem dj_lat_10 : decode prog_31_method_154_code 10 = .ok (.ifCond .ne 7, 3) := by decide +kernel
theorem dj_lat_13 : decode prog_31_method_154_code 13 = .ok (.iconst 1, 1) := by decide +kernel
theorem dj_lat_14 : decode prog_31_method_154_code 14 = .ok (.goto 4, 3) := by decide +kernel
theorem dj_lat_18 : decode prog_31_method_154_code 18 = .ok (.ireturn, 1) := by decide +kernel
theorem wj_lat : Cond.code yj_lat prog_31_method_154_code 1 (some .boolean) ∈ mv_TS := mv_TS_of (k := 1009) (by decide +kernel) rfl
noncomputable def wl_lat : List Cond := Cond.code yj_lat prog_31_method_154_code 1 (some .boolean) :: mv_TS
def yj_cha : MethodName := ⟨"java/lang/String", "charAt", "(I)C"⟩
theorem dj_cha_0 : decode prog_31_method_56_code 0 = .ok (.aload_n 0, 1) := by decide +kernel
theorem dj_cha_1 : decode prog_31_method_56_code 1 = .ok (.invokevirtual 492, 3) := by decide +kernel
theorem dj_cha_4 : decode prog_31_method_56_code 4 = .ok (.ifCond .eq 12, 3) := by decide +kernel
theorem dj_cha_7 : decode prog_31_method_56_code 7 = .ok (.aload_n 0, 1) := by decide +kernel
theorem dj_cha_8 : decode prog_31_method_56_code 8 = .ok (.getfield 9, 3) := by decide +kernel
theorem dj_cha_11 : decode prog_31_method_56_code 11 = .ok (.iload_n 1, 1) := by decide +kernel
theorem dj_cha_12 : decode prog_31_method_56_code 12 = .ok (.invokestatic 495, 3) := by decide +kernel
theorem dj_cha_15 : decode prog_31_method_56_code 15 = .ok (.ireturn, 1) := by decide +kernel
theorem wj_cha : Cond.code yj_cha prog_31_method_56_code 2 (some .char) ∈ mv_TS := mv_TS_of (k := 1005) (by decide +kernel) rfl
noncomputable def wl_cha : List Cond := Cond.code yj_cha prog_31_method_56_code 2 (some .char) :: mv_TS
def yj_lch : MethodName := ⟨"java/lang/StringLatin1", "charAt", "([BI)C"⟩
theorem dj_lch_0 : decode prog_33_method_2_code 0 = .ok (.iload_n 1, 1) := by decide +kernel
theorem dj_lch_1 : decode prog_33_method_2_code 1 = .ok (.aload_n 0, 1) := by decide +kernel
theorem dj_lch_2 : decode prog_33_method_2_code 2 = .ok (.arraylength, 1) := by decide +kernel
theorem dj_lch_3 : decode prog_33_method_2_code 3 = .ok (.invokestatic 9, 3) := by decide +kernel
theorem dj_lch_6 : decode prog_33_method_2_code 6 = .ok (.aload_n 0, 1) := by decide +kernel
theorem dj_lch_7 : decode prog_33_method_2_code 7 = .ok (.iload_n 1, 1) := by decide +kernel
theorem dj_lch_8 : decode prog_33_method_2_code 8 = .ok (.baload, 1) := by decide +kernel
theorem dj_lch_9 : decode prog_33_method_2_code 9 = .ok (.sipush 255, 3) := by decide +kernel
theorem dj_lch_12 : decode prog_33_method_2_code 12 = .ok (.iand, 1) := by decide +kernel
theorem dj_lch_13 : decode prog_33_method_2_code 13 = .ok (.i2c, 1) := by decide +kernel
theorem dj_lch_14 : decode prog_33_method_2_code 14 = .ok (.ireturn, 1) := by decide +kernel
theorem wj_lch : Cond.code yj_lch prog_33_method_2_code 2 (some .char) ∈ mv_TS := mv_TS_of (k := 1012) (by decide +kernel) rfl
noncomputable def wl_lch : List Cond := Cond.code yj_lch prog_33_method_2_code 2 (some .char) :: mv_TS
def yj_sci : MethodName := ⟨"java/lang/String", "checkIndex", "(II)V"⟩
theorem dj_sci_0 : decode prog_31_method_155_code 0 = .ok (.iload_n 0, 1) := by decide +kernel
theorem dj_sci_1 : decode prog_31_method_155_code 1 = .ok (.iload_n 1, 1) := by decide +kernel
theorem dj_sci_2 : decode prog_31_method_155_code 2 = .ok (.getstatic 1053, 3) := by decide +kernel
theorem dj_sci_5 : decode prog_31_method_155_code 5 = .ok (.invokestatic 1059, 3) := by decide +kernel
theorem dj_sci_8 : decode prog_31_method_155_code 8 = .ok (.pop, 1) := by decide +kernel
theorem dj_sci_9 : decode prog_31_method_155_code 9 = .ok (.return_, 1) := by decide +kernel
theorem wj_sci : Cond.code yj_sci prog_31_method_155_code 2 none ∈ mv_TS := mv_TS_of (k := 1015) (by decide +kernel) rfl
noncomputable def wl_sci : List Cond := Cond.code yj_sci prog_31_method_155_code 2 none :: mv_TS
def yj_pci : MethodName := ⟨"jdk/internal/util/Preconditions", "checkIndex", "(IILjava/util/function/BiFunction;)I"⟩
theorem dj_pci_0 : decode prog_42_method_11_code 0 = .ok (.iload_n 0, 1) := by decide +kernel
theorem dj_pci_1 : decode prog_42_method_11_code 1 = .ok (.ifCond .lt 8, 3) := by decide +kernel
theorem dj_pci_4 : decode prog_42_method_11_code 4 = .ok (.iload_n 0, 1) := by decide +kernel
theorem dj_pci_5 : decode prog_42_method_11_code 5 = .ok (.iload_n 1, 1) := by decide +kernel
theorem dj_pci_6 : decode prog_42_method_11_code 6 = .ok (.if_icmp .lt 10, 3) := by decide +kernel
theorem dj_pci_16 : decode prog_42_method_11_code 16 = .ok (.iload_n 0, 1) := by decide +kernel
theorem dj_pci_17 : decode prog_42_method_11_code 17 = .ok (.ireturn, 1) := by decide +kernel
theorem wj_pci : Cond.code yj_pci prog_42_method_11_code 3 (some .int) ∈ mv_TS := mv_TS_of (k := 1020) (by decide +kernel) rfl
noncomputable def wl_pci : List Cond := Cond.code yj_pci prog_42_method_11_code 3 (some .int) :: mv_TS
theorem wf_ord : Cond.fieldLink "java/lang/Enum" 7 "java/lang/Enum" "ordinal" "I" ∈ mv_TS := mv_TS_of (k := 1289) (by decide +kernel) rfl
theorem wf_cod : Cond.fieldLink "java/lang/String" 15 "java/lang/String" "coder" "B" ∈ mv_TS := mv_TS_of (k := 1247) (by decide +kernel) rfl
theorem wf_val : Cond.fieldLink "java/lang/String" 9 "java/lang/String" "value" "[B" ∈ mv_TS := mv_TS_of (k := 1246) (by decide +kernel) rfl
theorem wf_cst : Cond.fieldLink "java/lang/String" 38 "java/lang/String" "COMPACT_STRINGS" "Z" ∈ mv_TS := mv_TS_of (k := 995) (by decide +kernel) rfl
theorem wf_sio : Cond.fieldLink "java/lang/String" 1053 "jdk/internal/util/Preconditions" "SIOOBE_FORMATTER" "Ljava/util/function/BiFunction;" ∈ mv_TS := mv_TS_of (k := 1016) (by decide +kernel) rfl
theorem wi_str : Cond.initialized "java/lang/String" ∈ mv_TS := mv_TS_of (k := 81) (by decide +kernel) rfl
theorem wi_lat : Cond.initialized "java/lang/StringLatin1" ∈ mv_TS := mv_TS_of (k := 90) (by decide +kernel) rfl
theorem wi_pre : Cond.initialized "jdk/internal/util/Preconditions" ∈ mv_TS := mv_TS_of (k := 89) (by decide +kernel) rfl
theorem wi_enu : Cond.initialized "java/lang/Enum" ∈ mv_TS := mv_TS_of (k := 68) (by decide +kernel) rfl
theorem wm_cod : Cond.methodLink "java/lang/String" 335 yj_cod ∈ mv_TS := mv_TS_of (k := 991) (by decide +kernel) rfl
theorem wm_lat : Cond.methodLink "java/lang/String" 492 yj_lat ∈ mv_TS := mv_TS_of (k := 1006) (by decide +kernel) rfl
theorem wm_lch : Cond.methodLink "java/lang/String" 495 yj_lch ∈ mv_TS := mv_TS_of (k := 1010) (by decide +kernel) rfl
theorem wm_sci : Cond.methodLink "java/lang/StringLatin1" 9 yj_sci ∈ mv_TS := mv_TS_of (k := 1013) (by decide +kernel) rfl
theorem wm_pci : Cond.methodLink "java/lang/String" 1059 yj_pci ∈ mv_TS := mv_TS_of (k := 1018) (by decide +kernel) rfl
theorem wn_cod : Cond.instanceMethod yj_cod ∈ mv_TS := mv_TS_of (k := 992) (by decide +kernel) rfl
theorem ws_cod : Cond.selects "java/lang/String" yj_cod yj_cod ∈ mv_TS := mv_TS_of (k := 993) (by decide +kernel) rfl
theorem wn_lat : Cond.instanceMethod yj_lat ∈ mv_TS := mv_TS_of (k := 1007) (by decide +kernel) rfl
theorem ws_lat : Cond.selects "java/lang/String" yj_lat yj_lat ∈ mv_TS := mv_TS_of (k := 1008) (by decide +kernel) rfl
theorem wn_cha : Cond.instanceMethod yj_cha ∈ mv_TS := mv_TS_of (k := 1003) (by decide +kernel) rfl
theorem ws_cha : Cond.selects "java/lang/String" yj_cha yj_cha ∈ mv_TS := mv_TS_of (k := 1004) (by decide +kernel) rfl
theorem wn_len : Cond.instanceMethod yj_len ∈ mv_TS := mv_TS_of (k := 988) (by decide +kernel) rfl
theorem ws_len : Cond.selects "java/lang/String" yj_len yj_len ∈ mv_TS := mv_TS_of (k := 989) (by decide +kernel) rfl
theorem wt_lch : Cond.static yj_lch ∈ mv_TS := mv_TS_of (k := 1011) (by decide +kernel) rfl
theorem wt_sci : Cond.static yj_sci ∈ mv_TS := mv_TS_of (k := 1014) (by decide +kernel) rfl
theorem wt_pci : Cond.static yj_pci ∈ mv_TS := mv_TS_of (k := 1019) (by decide +kernel) rfl
theorem wn_ord : Cond.instanceMethod yj_ord ∈ mv_TS := mv_TS_of (k := 848) (by decide +kernel) rfl
theorem wx_ord : Cond.sameMethod "SluiceChain$Command" "java/lang/Enum" "ordinal" "()I" ∈ mv_TS := mv_TS_of (k := 845) (by decide +kernel) rfl
theorem ws_ord : Cond.selects "SluiceChain$Command" ⟨"SluiceChain$Command", "ordinal", "()I"⟩ yj_ord ∈ mv_TS := mv_TS_of (k := 847) (by decide +kernel) rfl
theorem gj_of {W0 : Cond} {l : List Cond} (h : ∀ w ∈ l, w ∈ mv_TS) : GoodIn (W0 :: mv_TS) (l ++ mv_TS) := by
  intro w hw
  have : w ∈ mv_TS := by
    rcases List.mem_append.mp hw with q | q
    · exact h w q
    · exact q
  exact ⟨List.mem_cons_of_mem _ this, good_of_word (List.mem_filter.mp this).2⟩
theorem gj_ts {l : List Cond} (h : ∀ w ∈ l, w ∈ mv_TS) : GoodIn mv_TS (l ++ mv_TS) := by
  intro w hw
  have : w ∈ mv_TS := by
    rcases List.mem_append.mp hw with q | q
    · exact h w q
    · exact q
  exact ⟨this, good_of_word (List.mem_filter.mp this).2⟩
def vj_N : Nat → Prop := fun _ => False
/-- a String constant, as it stands, and what the JDK's methods read beside it -/
def vj_S (a b n : Nat) (f : Nat → Value) (U : State) : Prop := va_O "java/lang/String" a vj_N U U.heap ∧ va_OF "java/lang/String" "coder" "B" (.int 0) a vj_N U U.heap ∧ va_OF "java/lang/String" "value" "[B" (.ref b) a vj_N U U.heap ∧ va_T .byte b n f vj_N U U.heap ∧ va_Z "java/lang/String" "COMPACT_STRINGS" "Z" (.int 1) vj_N U U.heap ∧ va_Zq "jdk/internal/util/Preconditions" "SIOOBE_FORMATTER" "Ljava/util/function/BiFunction;" vj_N U U.heap
theorem vj_S.to {a b n : Nat} {f : Nat → Value} {u U : State} (h : vj_S a b n f u) (hvm : u.vm.Alike U.vm) (hh : U.heap = u.heap) : vj_S a b n f U := by
  unfold vj_S
  rw [hh]
  obtain ⟨h1, h2, h3, h4, h5, h6⟩ := h
  exact ⟨va_O.moved hvm h1, va_OF.moved hvm h2, va_OF.moved hvm h3, va_T.moved hvm h4, va_Z.moved hvm h5, va_Zq.moved hvm h6⟩
theorem vj_recv {a b n : Nat} {f : Nat → Value} {s : State} (h : vj_S a b n f s) : ∃ cell : Cell, s.heap[a]? = some cell ∧ cell.vm.isStatics = false ∧ s.vm.findClass "java/lang/String" = some cell.cls := by
  obtain ⟨⟨cell, h1, h2, h3, -⟩, -⟩ := h
  exact ⟨cell, h1, h2, h3⟩
theorem cj_ord (l : Launch) (h0 : Heap) (a : Nat) (v : Int32) : Met l yj_ord wl_ord ({ frames := 0, cells := 0, slots := 0, locals := 0 } : Room) (va_Pc [.ref a] (fun U => U.heap = h0 ∧ va_OF "java/lang/Enum" "ordinal" "I" (.int v) a vj_N U U.heap)) (va_Qi (fun r (_ : Unit) => r = v) (fun _ t => t.heap = h0) vj_N) 0 0 vj_N := by
  refine Met.ofW (cc := prog_22_method_2_code) (maxL := 1) (ret := (some .int)) (by decide) rfl ?_
  intro p e s m args below meth c s₁ B hml hv
  obtain ⟨rfl, rfl, hO⟩ := hv
  have hx := B.exec
  have hb := B.bytes
  have hr := B.returns
  have hts : ∀ w ∈ wl_ord, w.before _ s = true := atoms_spec (ws := wl_ord) B.pre
  have hT : ∀ {w : Cond}, w ∈ mv_TS → w.before _ s = true := fun h => hts _ (List.mem_cons_of_mem _ h)
  have hown : s.vm.findClass "java/lang/Enum" = some m.cls := findClass_of_methodNamed B.named
  have hlocks := B.notSynchronized
  have hS : va_S vj_N s.heap s.heap [] := va_S.rf
  have hl := lv_entry ([.ref a]) (n := 1) (Nat.le_of_ble_eq_true rfl)
  rw [lg_entry_eq]
  generalize (lg_sl ([.ref a]) ++ List.replicate (1 - (lg_sl ([.ref a])).length) Slot.unset).toArray = ls at hl ⊢
  have hl : lv_has ls 1 [(0, .ref a)] := hl
  refine lv_aload_n hx hb dj_ord_0 rfl (lv_at hl 0 rfl) ?_
  refine vk_getf hx hb hO hS hown (hT wf_ord) (fun _ h => h) dj_ord_1 ?_
  exact W.iret (v := v) hx hb hr (fun t ht hW => ⟨⟨v, (), rfl, rfl, ht⟩, hS.F ht⟩) hS.2.2 dj_ord_4
theorem cj_cod (l : Launch) (h0 : Heap) (a b n : Nat) (f : Nat → Value) : Met l yj_cod wl_cod ({ frames := 0, cells := 0, slots := 0, locals := 0 } : Room) (va_Pc [.ref a] (fun U => U.heap = h0 ∧ vj_S a b n f U)) (va_Qi (fun r (_ : Unit) => r = 0) (fun _ t => t.heap = h0) vj_N) 0 0 vj_N := by
  refine Met.ofW (cc := prog_31_method_152_code) (maxL := 1) (ret := (some .byte)) (by decide) rfl ?_
  intro p e s m args below meth c s₁ B hml hv
  obtain ⟨rfl, rfl, hO⟩ := hv
  have hx := B.exec
  have hb := B.bytes
  have hr := B.returns
  have hts : ∀ w ∈ wl_cod, w.before _ s = true := atoms_spec (ws := wl_cod) B.pre
  have hT : ∀ {w : Cond}, w ∈ mv_TS → w.before _ s = true := fun h => hts _ (List.mem_cons_of_mem _ h)
  have hown : s.vm.findClass "java/lang/String" = some m.cls := findClass_of_methodNamed B.named
  have hlocks := B.notSynchronized
  have hS : va_S vj_N s.heap s.heap [] := va_S.rf
  have hl := lv_entry ([.ref a]) (n := 1) (Nat.le_of_ble_eq_true rfl)
  rw [lg_entry_eq]
  generalize (lg_sl ([.ref a]) ++ List.replicate (1 - (lg_sl ([.ref a])).length) Slot.unset).toArray = ls at hl ⊢
  have hl : lv_has ls 1 [(0, .ref a)] := hl
  refine va_gets hx hb hO.2.2.2.2.1 hS hown (hT wf_cst) (fun _ h => h) dj_cod_0 ?_
  refine lv_if_eq hx hb dj_cod_3 (tgt := 13) rfl (fun h => absurd h (by decide)) (fun _ => ?_)
  refine lv_aload_n hx hb dj_cod_6 rfl (lv_at hl 0 rfl) ?_
  refine vk_getf hx hb hO.2.1 hS hown (hT wf_cod) (fun _ h => h) dj_cod_7 ?_
  refine lv_goto hx hb dj_cod_10 (tgt := 14) rfl ?_
  exact W.zret (v := 0) hx hb hr (by decide) (fun t ht hW => ⟨⟨0, (), rfl, rfl, ht⟩, hS.F ht⟩) hS.2.2 dj_cod_14
theorem cj_lat (l : Launch) (h0 : Heap) (a b n : Nat) (f : Nat → Value) : Met l yj_lat wl_lat ({ frames := 0, cells := 0, slots := 0, locals := 0 } : Room) (va_Pc [.ref a] (fun U => U.heap = h0 ∧ vj_S a b n f U)) (va_Qi (fun r (_ : Unit) => r = 1) (fun _ t => t.heap = h0) vj_N) 0 0 vj_N := by
  refine Met.ofW (cc := prog_31_method_154_code) (maxL := 1) (ret := (some .boolean)) (by decide) rfl ?_
  intro p e s m args below meth c s₁ B hml hv
  obtain ⟨rfl, rfl, hO⟩ := hv
  have hx := B.exec
  have hb := B.bytes
  have hr := B.returns
  have hts : ∀ w ∈ wl_lat, w.before _ s = true := atoms_spec (ws := wl_lat) B.pre
  have hT : ∀ {w : Cond}, w ∈ mv_TS → w.before _ s = true := fun h => hts _ (List.mem_cons_of_mem _ h)
  have hown : s.vm.findClass "java/lang/String" = some m.cls := findClass_of_methodNamed B.named
  have hlocks := B.notSynchronized
  have hS : va_S vj_N s.heap s.heap [] := va_S.rf
  have hl := lv_entry ([.ref a]) (n := 1) (Nat.le_of_ble_eq_true rfl)
  rw [lg_entry_eq]
  generalize (lg_sl ([.ref a]) ++ List.replicate (1 - (lg_sl ([.ref a])).length) Slot.unset).toArray = ls at hl ⊢
  have hl : lv_has ls 1 [(0, .ref a)] := hl
  refine va_gets hx hb hO.2.2.2.2.1 hS hown (hT wf_cst) (fun _ h => h) dj_lat_0 ?_
  refine lv_if_eq hx hb dj_lat_3 (tgt := 17) rfl (fun h => absurd h (by decide)) (fun _ => ?_)
  refine lv_aload_n hx hb dj_lat_6 rfl (lv_at hl 0 rfl) ?_
  refine vk_getf hx hb hO.2.1 hS hown (hT wf_cod) (fun _ h => h) dj_lat_7 ?_
  refine lv_if_ne hx hb dj_lat_10 (tgt := 17) rfl (fun h => absurd rfl h) (fun _ => ?_)
  refine lv_iconst (v := 1) hx hb dj_lat_13 (by decide) ?_
  refine lv_goto hx hb dj_lat_14 (tgt := 18) rfl ?_
  exact W.zret (v := 1) hx hb hr (by decide) (fun t ht hW => ⟨⟨1, (), rfl, rfl, ht⟩, hS.F ht⟩) hS.2.2 dj_lat_18
theorem cj_pci (l : Launch) (h0 : Heap) (i n : Int32) (v : Value) (hv : v = .null ∨ ∃ q, v = .ref q) (hi : ¬ i < 0) (hn : i < n) : Met l yj_pci wl_pci ({ frames := 0, cells := 0, slots := 0, locals := 0 } : Room) (va_Pc [.int i, .int n, v] (fun U => U.heap = h0 ∧ True)) (va_Qi (fun r (_ : Unit) => r = i) (fun _ t => t.heap = h0) vj_N) 0 0 vj_N := by
  have hc : lg_sl [.int i, .int n, v] = [.val (.int i), .val (.int n), .val v] := by rcases hv with rfl | ⟨q, rfl⟩ <;> rfl
  have hla : lv_args 0 [.int i, .int n, v] = [(0, .int i), (1, .int n), (2, v)] := by rcases hv with rfl | ⟨q, rfl⟩ <;> rfl
  refine Met.ofW (cc := prog_42_method_11_code) (maxL := 3) (ret := (some .int)) (by decide) rfl ?_
  intro p e s m args below meth c s₁ B hml hv
  obtain ⟨rfl, rfl, hO⟩ := hv
  have hx := B.exec
  have hb := B.bytes
  have hr := B.returns
  have hts : ∀ w ∈ wl_pci, w.before _ s = true := atoms_spec (ws := wl_pci) B.pre
  have hT : ∀ {w : Cond}, w ∈ mv_TS → w.before _ s = true := fun h => hts _ (List.mem_cons_of_mem _ h)
  have hown : s.vm.findClass "jdk/internal/util/Preconditions" = some m.cls := findClass_of_methodNamed B.named
  have hlocks := B.notSynchronized
  have hS : va_S vj_N s.heap s.heap [] := va_S.rf
  have hl := lv_entry ([.int i, .int n, v]) (n := 3) (by rw [hc]; exact Nat.le_refl 3)
  rw [hla] at hl
  rw [lg_entry_eq]
  generalize (lg_sl ([.int i, .int n, v]) ++ List.replicate (3 - (lg_sl ([.int i, .int n, v])).length) Slot.unset).toArray = ls at hl ⊢
  have hl : lv_has ls 3 [(0, .int i), (1, .int n), (2, v)] := hl
  refine lv_iload_n hx hb dj_pci_0 rfl (lv_at hl 0 rfl) ?_
  refine lv_if_lt hx hb dj_pci_1 (tgt := 9) rfl (fun h => absurd h hi) (fun _ => ?_)
  refine lv_iload_n hx hb dj_pci_4 rfl (lv_at hl 0 rfl) ?_
  refine lv_iload_n hx hb dj_pci_5 rfl (lv_at hl 1 rfl) ?_
  refine lv_icmp_lt hx hb dj_pci_6 (tgt := 16) rfl (fun _ => ?_) (fun h => absurd hn h)
  refine lv_iload_n hx hb dj_pci_16 rfl (lv_at hl 0 rfl) ?_
  exact W.iret (v := i) hx hb hr (fun t ht hW => ⟨⟨i, (), rfl, rfl, ht⟩, hS.F ht⟩) hS.2.2 dj_pci_17
theorem cj_len (l : Launch) (h0 : Heap) (a b n : Nat) (f : Nat → Value) : Met l yj_len wl_len ({ frames := 1, cells := 0, slots := 0, locals := 20 } : Room) (va_Pc [.ref a] (fun U => U.heap = h0 ∧ vj_S a b n f U)) (va_Qi (fun r (_ : Unit) => r = Int32.ofNat n) (fun _ t => t.heap = h0) vj_N) 0 0 vj_N := by
  refine Met.ofW (cc := prog_31_method_54_code) (maxL := 1) (ret := (some .int)) (by decide) rfl ?_
  intro p e s m args below meth c s₁ B hml hv
  obtain ⟨rfl, rfl, hO⟩ := hv
  have hx := B.exec
  have hb := B.bytes
  have hr := B.returns
  have hts : ∀ w ∈ wl_len, w.before _ s = true := atoms_spec (ws := wl_len) B.pre
  have hT : ∀ {w : Cond}, w ∈ mv_TS → w.before _ s = true := fun h => hts _ (List.mem_cons_of_mem _ h)
  have hown : s.vm.findClass "java/lang/String" = some m.cls := findClass_of_methodNamed B.named
  have hlocks := B.notSynchronized
  have hS : va_S vj_N s.heap s.heap [] := va_S.rf
  have hl := lv_entry ([.ref a]) (n := 1) (Nat.le_of_ble_eq_true rfl)
  rw [lg_entry_eq]
  generalize (lg_sl ([.ref a]) ++ List.replicate (1 - (lg_sl ([.ref a])).length) Slot.unset).toArray = ls at hl ⊢
  have hl : lv_has ls 1 [(0, .ref a)] := hl
  refine lv_aload_n hx hb dj_len_0 rfl (lv_at hl 0 rfl) ?_
  refine vk_getf hx hb hO.2.2.1 hS hown (hT wf_val) (fun _ h => h) dj_len_1 ?_
  refine va_tlen hx hb hO.2.2.2.1 hS (v := Int32.ofNat n) rfl dj_len_4 ?_
  refine lv_aload_n hx hb dj_len_5 rfl (lv_at hl 0 rfl) ?_
  have hg : GoodIn wl_len (wsV "java/lang/String" 335 "java/lang/String" yj_cod wl_cod) := gj_of (l := [.methodLink "java/lang/String" 335 yj_cod, .instanceMethod yj_cod, .selects "java/lang/String" yj_cod yj_cod, .initialized "java/lang/String", Cond.code yj_cod prog_31_method_152_code 1 (some .byte)]) (by
    intro w hw
    simp only [List.mem_cons, List.not_mem_nil, or_false] at hw
    rcases hw with rfl | rfl | rfl | rfl | rfl
    · exact wm_cod
    · exact wn_cod
    · exact ws_cod
    · exact wi_str
    · exact wj_cod)
  refine va_calli (va_runV (As := []) (rest := [.int (Int32.ofNat n)]) ⟨hx, hb, hml, hown, hts⟩ (cj_cod l s.heap a b n f) (cwV 0 hts hg rfl rfl rfl (by decide +kernel) ⟨Nat.le_of_ble_eq_true rfl, Nat.le_of_ble_eq_true rfl⟩) ⟨fun a U g mk q => by obtain ⟨q0, q1, q2⟩ := q; exact ⟨q0, q1, q2.to (U := U.calling g mk a) (Vm.Alike.refl U.vm) rfl⟩, vj_recv hO, fun U hU hW => ⟨rfl, hU, hO.to hW.alike hU⟩⟩ rfl rfl hl.1 rfl (lv_room (Nat.le_of_ble_eq_true rfl)) dj_len_6 ⟨Nat.zero_le _, Nat.zero_le _⟩) hS (fun q _ h => h.elim) (fun q h => h.elim) (fun r u t H1 locs1 ht hvm hw hB hz1 hk1 hS1 => ?_)
  have hH : H1 = s.heap := ht.symm.trans hB
  subst hH
  have hw : r = 0 := hw
  subst hw
  refine lv_ishr hx hb dj_len_9 ?_
  rw [show (Int32.ofNat n >>> ((0 : Int32) &&& 31)) = Int32.ofNat n by rw [show ((0 : Int32) &&& 31) = 0 by decide]; simp]
  exact W.iret (v := Int32.ofNat n) hx hb hr (fun t ht hW => ⟨⟨Int32.ofNat n, (), rfl, rfl, ht⟩, hS1.F ht⟩) hS1.2.2 dj_len_10
theorem cj_sci (l : Launch) (h0 : Heap) (i n : Int32) (hi : ¬ i < 0) (hn : i < n) : Met l yj_sci wl_sci ({ frames := 1, cells := 0, slots := 0, locals := 22 } : Room) (va_Pc [.int i, .int n] (fun U => U.heap = h0 ∧ va_Zq "jdk/internal/util/Preconditions" "SIOOBE_FORMATTER" "Ljava/util/function/BiFunction;" vj_N U U.heap)) (va_Qv (fun (_ : Unit) => True) (fun _ t => t.heap = h0) vj_N) 0 0 vj_N := by
  refine Met.ofW (cc := prog_31_method_155_code) (maxL := 2) (ret := none) (by decide) rfl ?_
  intro p e s m args below meth c s₁ B hml hv
  obtain ⟨rfl, rfl, hO⟩ := hv
  have hx := B.exec
  have hb := B.bytes
  have hr := B.returns
  have hts : ∀ w ∈ wl_sci, w.before _ s = true := atoms_spec (ws := wl_sci) B.pre
  have hT : ∀ {w : Cond}, w ∈ mv_TS → w.before _ s = true := fun h => hts _ (List.mem_cons_of_mem _ h)
  have hown : s.vm.findClass "java/lang/String" = some m.cls := findClass_of_methodNamed B.named
  have hlocks := B.notSynchronized
  have hS : va_S vj_N s.heap s.heap [] := va_S.rf
  have hl := lv_entry ([.int i, .int n]) (n := 2) (Nat.le_of_ble_eq_true rfl)
  rw [lg_entry_eq]
  generalize (lg_sl ([.int i, .int n]) ++ List.replicate (2 - (lg_sl ([.int i, .int n])).length) Slot.unset).toArray = ls at hl ⊢
  have hl : lv_has ls 2 [(0, .int i), (1, .int n)] := hl
  refine lv_iload_n hx hb dj_sci_0 rfl (lv_at hl 0 rfl) ?_
  refine lv_iload_n hx hb dj_sci_1 rfl (lv_at hl 1 rfl) ?_
  have hg : GoodIn wl_sci (va_wsS "java/lang/String" 1059 yj_pci wl_pci) := gj_of (l := [.methodLink "java/lang/String" 1059 yj_pci, .static yj_pci, .initialized "jdk/internal/util/Preconditions", Cond.code yj_pci prog_42_method_11_code 3 (some .int)]) (by
    intro w hw
    simp only [List.mem_cons, List.not_mem_nil, or_false] at hw
    rcases hw with rfl | rfl | rfl | rfl
    · exact wm_pci
    · exact wt_pci
    · exact wi_pre
    · exact wj_pci)
  have key : ∀ v : Value, (v = .null ∨ ∃ q, v = .ref q) → W p l e (headSpec wl_sci ({ frames := 1, cells := 0, slots := 0, locals := 22 } : Room)).room s m #[Value.int i, Value.int n] below meth c s.heap [] 0 0 (MQ below (va_Qv (fun (_ : Unit) => True) (fun _ t => t.heap = s.heap) vj_N) #[Value.int i, Value.int n] s 0 0 vj_N) (F0 m 5 ls [v, .int n, .int i]) := by
    intro v hv
    refine va_calli (va_runS (As := [.int i, .int n, v]) (rest := []) ⟨hx, hb, hml, hown, hts⟩ (cj_pci l s.heap i n v hv hi hn) (va_cwS 3 hts hg rfl rfl rfl (by decide +kernel) ⟨Nat.le_of_ble_eq_true rfl, Nat.le_of_ble_eq_true rfl⟩) ⟨fun a U g mk q => q, fun U hU hW => ⟨rfl, hU, trivial⟩⟩ rfl rfl hl.1 rfl (lv_room (Nat.le_of_ble_eq_true rfl)) dj_sci_5 ⟨Nat.zero_le _, Nat.zero_le _⟩) hS (fun q _ h => h.elim) (fun q h => h.elim) (fun r u t H1 locs1 ht hvm hw hB hz1 hk1 hS1 => ?_)
    have hH : H1 = s.heap := ht.symm.trans hB
    subst hH
    refine lv_pop hx hb dj_sci_8 rfl ?_
    exact W.vret hx hb hr (fun t ht hW => ⟨⟨(), rfl, trivial, ht⟩, hS1.F ht⟩) hS1.2.2 dj_sci_9
  rcases hO with hO | ⟨q, hO⟩
  · exact va_gets hx hb hO hS hown (hT wf_sio) (fun _ h => h) dj_sci_2 (key _ (.inl rfl))
  · exact va_gets hx hb hO hS hown (hT wf_sio) (fun _ h => h) dj_sci_2 (key _ (.inr ⟨q, rfl⟩))
theorem cj_lch (l : Launch) (h0 : Heap) (a b n : Nat) (f : Nat → Value) (i v : Int32) (hi : vp_in i n) (hn : ¬ i < 0 ∧ i < Int32.ofNat n) (hv : f i.toNatClampNeg = .int v) : Met l yj_lch wl_lch ({ frames := 2, cells := 0, slots := 0, locals := 43 } : Room) (va_Pc [.ref b, .int i] (fun U => U.heap = h0 ∧ vj_S a b n f U)) (va_Qi (fun r (_ : Unit) => r = v &&& 255) (fun _ t => t.heap = h0) vj_N) 0 0 vj_N := by
  refine Met.ofW (cc := prog_33_method_2_code) (maxL := 2) (ret := (some .char)) (by decide) rfl ?_
  intro p e s m args below meth c s₁ B hml hv
  obtain ⟨rfl, rfl, hO⟩ := hv
  have hx := B.exec
  have hb := B.bytes
  have hr := B.returns
  have hts : ∀ w ∈ wl_lch, w.before _ s = true := atoms_spec (ws := wl_lch) B.pre
  have hT : ∀ {w : Cond}, w ∈ mv_TS → w.before _ s = true := fun h => hts _ (List.mem_cons_of_mem _ h)
  have hown : s.vm.findClass "java/lang/StringLatin1" = some m.cls := findClass_of_methodNamed B.named
  have hlocks := B.notSynchronized
  have hS : va_S vj_N s.heap s.heap [] := va_S.rf
  have hl := lv_entry ([.ref b, .int i]) (n := 2) (Nat.le_of_ble_eq_true rfl)
  rw [lg_entry_eq]
  generalize (lg_sl ([.ref b, .int i]) ++ List.replicate (2 - (lg_sl ([.ref b, .int i])).length) Slot.unset).toArray = ls at hl ⊢
  have hl : lv_has ls 2 [(0, .ref b), (1, .int i)] := hl
  refine lv_iload_n hx hb dj_lch_0 rfl (lv_at hl 1 rfl) ?_
  refine lv_aload_n hx hb dj_lch_1 rfl (lv_at hl 0 rfl) ?_
  refine va_tlen hx hb hO.2.2.2.1 hS (v := Int32.ofNat n) rfl dj_lch_2 ?_
  have hg : GoodIn wl_lch (va_wsS "java/lang/StringLatin1" 9 yj_sci wl_sci) := gj_of (l := [.methodLink "java/lang/StringLatin1" 9 yj_sci, .static yj_sci, .initialized "java/lang/String", Cond.code yj_sci prog_31_method_155_code 2 none]) (by
    intro w hw
    simp only [List.mem_cons, List.not_mem_nil, or_false] at hw
    rcases hw with rfl | rfl | rfl | rfl
    · exact wm_sci
    · exact wt_sci
    · exact wi_str
    · exact wj_sci)
  refine va_callv (va_runS (As := [.int i, .int (Int32.ofNat n)]) (rest := []) ⟨hx, hb, hml, hown, hts⟩ (cj_sci l s.heap i (Int32.ofNat n) hn.1 hn.2) (va_cwS 2 hts hg rfl rfl rfl (by decide +kernel) ⟨Nat.le_of_ble_eq_true rfl, Nat.le_of_ble_eq_true rfl⟩) ⟨fun a U g mk q => by obtain ⟨q0, q1, q2⟩ := q; exact ⟨q0, q1, va_Zq.moved (u := U) (U := U.calling g mk a) (Vm.Alike.refl U.vm) q2⟩, fun U hU hW => ⟨rfl, hU, by rw [hU]; exact va_Zq.moved hW.alike hO.2.2.2.2.2⟩⟩ rfl rfl hl.1 rfl (lv_room (Nat.le_of_ble_eq_true rfl)) dj_lch_3 ⟨Nat.zero_le _, Nat.zero_le _⟩) hS (fun q _ h => h.elim) (fun q h => h.elim) (fun u t H1 locs1 ht hvm hw hB hz1 hk1 hS1 => ?_)
  have hH : H1 = s.heap := ht.symm.trans hB
  subst hH
  refine lv_aload_n hx hb dj_lch_6 rfl (lv_at hl 0 rfl) ?_
  refine lv_iload_n hx hb dj_lch_7 rfl (lv_at hl 1 rfl) ?_
  refine va_tb hx hb hO.2.2.2.1 hS1 hi hv dj_lch_8 ?_
  refine lv_sipush (v := 255) hx hb dj_lch_9 (by decide) ?_
  refine lv_iand hx hb dj_lch_12 ?_
  refine lv_i2c hx hb dj_lch_13 (sc_c2 v) ?_
  exact W.zret hx hb hr (sc_nar v) (fun t ht hW => ⟨⟨_, (), rfl, rfl, ht⟩, hS1.F ht⟩) hS1.2.2 dj_lch_14
theorem cj_cha (l : Launch) (h0 : Heap) (a b n : Nat) (f : Nat → Value) (i v : Int32) (hi : vp_in i n) (hn : ¬ i < 0 ∧ i < Int32.ofNat n) (hv : f i.toNatClampNeg = .int v) : Met l yj_cha wl_cha ({ frames := 3, cells := 0, slots := 0, locals := 64 } : Room) (va_Pc [.ref a, .int i] (fun U => U.heap = h0 ∧ vj_S a b n f U)) (va_Qi (fun r (_ : Unit) => r = v &&& 255) (fun _ t => t.heap = h0) vj_N) 0 0 vj_N := by
  refine Met.ofW (cc := prog_31_method_56_code) (maxL := 2) (ret := (some .char)) (by decide) rfl ?_
  intro p e s m args below meth c s₁ B hml hv
  obtain ⟨rfl, rfl, hO⟩ := hv
  have hx := B.exec
  have hb := B.bytes
  have hr := B.returns
  have hts : ∀ w ∈ wl_cha, w.before _ s = true := atoms_spec (ws := wl_cha) B.pre
  have hT : ∀ {w : Cond}, w ∈ mv_TS → w.before _ s = true := fun h => hts _ (List.mem_cons_of_mem _ h)
  have hown : s.vm.findClass "java/lang/String" = some m.cls := findClass_of_methodNamed B.named
  have hlocks := B.notSynchronized
  have hS : va_S vj_N s.heap s.heap [] := va_S.rf
  have hl := lv_entry ([.ref a, .int i]) (n := 2) (Nat.le_of_ble_eq_true rfl)
  rw [lg_entry_eq]
  generalize (lg_sl ([.ref a, .int i]) ++ List.replicate (2 - (lg_sl ([.ref a, .int i])).length) Slot.unset).toArray = ls at hl ⊢
  have hl : lv_has ls 2 [(0, .ref a), (1, .int i)] := hl
  refine lv_aload_n hx hb dj_cha_0 rfl (lv_at hl 0 rfl) ?_
  have hg : GoodIn wl_cha (wsV "java/lang/String" 492 "java/lang/String" yj_lat wl_lat) := gj_of (l := [.methodLink "java/lang/String" 492 yj_lat, .instanceMethod yj_lat, .selects "java/lang/String" yj_lat yj_lat, .initialized "java/lang/String", Cond.code yj_lat prog_31_method_154_code 1 (some .boolean)]) (by
    intro w hw
    simp only [List.mem_cons, List.not_mem_nil, or_false] at hw
    rcases hw with rfl | rfl | rfl | rfl | rfl
    · exact wm_lat
    · exact wn_lat
    · exact ws_lat
    · exact wi_str
    · exact wj_lat)
  have hg2 : GoodIn wl_cha (va_wsS "java/lang/String" 495 yj_lch wl_lch) := gj_of (l := [.methodLink "java/lang/String" 495 yj_lch, .static yj_lch, .initialized "java/lang/StringLatin1", Cond.code yj_lch prog_33_method_2_code 2 (some .char)]) (by
    intro w hw
    simp only [List.mem_cons, List.not_mem_nil, or_false] at hw
    rcases hw with rfl | rfl | rfl | rfl
    · exact wm_lch
    · exact wt_lch
    · exact wi_lat
    · exact wj_lch)
  refine va_calli (va_runV (As := []) (rest := []) ⟨hx, hb, hml, hown, hts⟩ (cj_lat l s.heap a b n f) (cwV 0 hts hg rfl rfl rfl (by decide +kernel) ⟨Nat.le_of_ble_eq_true rfl, Nat.le_of_ble_eq_true rfl⟩) ⟨fun a U g mk q => by obtain ⟨q0, q1, q2⟩ := q; exact ⟨q0, q1, q2.to (U := U.calling g mk a) (Vm.Alike.refl U.vm) rfl⟩, vj_recv hO, fun U hU hW => ⟨rfl, hU, hO.to hW.alike hU⟩⟩ rfl rfl hl.1 rfl (lv_room (Nat.le_of_ble_eq_true rfl)) dj_cha_1 ⟨Nat.zero_le _, Nat.zero_le _⟩) hS (fun q _ h => h.elim) (fun q h => h.elim) (fun r u t H1 locs1 ht hvm hw hB hz1 hk1 hS1 => ?_)
  have hH : H1 = s.heap := ht.symm.trans hB
  subst hH
  have hw : r = 1 := hw
  subst hw
  refine lv_if_eq hx hb dj_cha_4 (tgt := 16) rfl (fun h => absurd h (by decide)) (fun _ => ?_)
  refine lv_aload_n hx hb dj_cha_7 rfl (lv_at hl 0 rfl) ?_
  refine vk_getf hx hb hO.2.2.1 hS1 hown (hT wf_val) (fun _ h => h) dj_cha_8 ?_
  refine lv_iload_n hx hb dj_cha_11 rfl (lv_at hl 1 rfl) ?_
  refine va_calli (va_runS (As := [.ref b, .int i]) (rest := []) ⟨hx, hb, hml, hown, hts⟩ (cj_lch l s.heap a b n f i v hi hn hv) (va_cwS 2 hts hg2 rfl rfl rfl (by decide +kernel) ⟨Nat.le_of_ble_eq_true rfl, Nat.le_of_ble_eq_true rfl⟩) ⟨fun a U g mk q => by obtain ⟨q0, q1, q2⟩ := q; exact ⟨q0, q1, q2.to (U := U.calling g mk a) (Vm.Alike.refl U.vm) rfl⟩, fun U hU hW => ⟨rfl, hU, hO.to hW.alike hU⟩⟩ rfl rfl hl.1 rfl (lv_room (Nat.le_of_ble_eq_true rfl)) dj_cha_12 ⟨Nat.zero_le _, Nat.zero_le _⟩) hS1 (fun q _ h => h.elim) (fun q h => h.elim) (fun r u t H2 locs2 ht2 hvm2 hw2 hB2 hz2 hk2 hS2 => ?_)
  have hH : H2 = s.heap := ht2.symm.trans hB2
  subst hH
  have hw2 : r = v &&& 255 := hw2
  subst hw2
  exact W.zret hx hb hr (sc_nar v) (fun t ht hW => ⟨⟨_, (), rfl, rfl, ht⟩, hS2.F ht⟩) hS2.2.2 dj_cha_15
