/-! WHAT THE STATEMENT GIVES OF THE START: the texts' world -/
theorem ng_s : (lw_tbl)[1116]? = some (Cond.selects "java/lang/StringBuilder" ⟨"java/lang/AbstractStringBuilder", "isLatin1", "()Z"⟩ ⟨"java/lang/AbstractStringBuilder", "isLatin1", "()Z"⟩) := by decide +kernel
theorem ng_p_ens : (lw_tbl)[1083]? = some (Cond.privateMethod yj_ens) := by decide +kernel
theorem ng_i_ens : (lw_tbl)[1084]? = some (Cond.instanceMethod yj_ens) := by decide +kernel
theorem ng_p_ncp : (lw_tbl)[1087]? = some (Cond.privateMethod yj_ncp) := by decide +kernel
theorem ng_i_ncp : (lw_tbl)[1088]? = some (Cond.instanceMethod yj_ncp) := by decide +kernel
theorem ng_p_put : (lw_tbl)[1135]? = some (Cond.privateMethod yj_put) := by decide +kernel
theorem ng_i_put : (lw_tbl)[1136]? = some (Cond.instanceMethod yj_put) := by decide +kernel
theorem ng_p_inf : (lw_tbl)[1139]? = some (Cond.privateMethod yj_inf) := by decide +kernel
theorem ng_i_inf : (lw_tbl)[1140]? = some (Cond.instanceMethod yj_inf) := by decide +kernel
theorem ng_o1 : (flatC nx_G)[113]? = some (Cond.arrayOf (.static "java/lang/Integer" "DigitOnes" "[B") .byte) := by decide +kernel
theorem ng_o2 : (flatC nx_G)[114]? = some (Cond.eq (.length (.static "java/lang/Integer" "DigitOnes" "[B")) (.int (Int32.ofNat 100))) := by decide +kernel
theorem ng_o3 : ∀ i, i < 100 → (flatC nx_G)[[115, 116, 117, 118, 119, 120, 121, 122, 123, 124, 125, 126, 127, 128, 129, 130, 131, 132, 133, 134, 135, 136, 137, 138, 139, 140, 141, 142, 143, 144, 145, 146, 147, 148, 149, 150, 151, 152, 153, 154, 155, 156, 157, 158, 159, 160, 161, 162, 163, 164, 165, 166, 167, 168, 169, 170, 171, 172, 173, 174, 175, 176, 177, 178, 179, 180, 181, 182, 183, 184, 185, 186, 187, 188, 189, 190, 191, 192, 193, 194, 195, 196, 197, 198, 199, 200, 201, 202, 203, 204, 205, 206, 207, 208, 209, 210, 211, 212, 213, 214].getD i 0]? = some (Cond.eq (.elem (.static "java/lang/Integer" "DigitOnes" "[B") (.int (Int32.ofNat i))) (.int (nI (48 + i % 10)))) := by decide +kernel
theorem ng_o4 : (lw_tbl)[1182]? = some (Cond.laysStatic "java/lang/Integer" "DigitOnes" "[B") := by decide +kernel
theorem ng_t1 : (flatC nx_G)[216]? = some (Cond.arrayOf (.static "java/lang/Integer" "DigitTens" "[B") .byte) := by decide +kernel
theorem ng_t2 : (flatC nx_G)[217]? = some (Cond.eq (.length (.static "java/lang/Integer" "DigitTens" "[B")) (.int (Int32.ofNat 100))) := by decide +kernel
theorem ng_t3 : ∀ i, i < 100 → (flatC nx_G)[[218, 219, 220, 221, 222, 223, 224, 225, 226, 227, 228, 229, 230, 231, 232, 233, 234, 235, 236, 237, 238, 239, 240, 241, 242, 243, 244, 245, 246, 247, 248, 249, 250, 251, 252, 253, 254, 255, 256, 257, 258, 259, 260, 261, 262, 263, 264, 265, 266, 267, 268, 269, 270, 271, 272, 273, 274, 275, 276, 277, 278, 279, 280, 281, 282, 283, 284, 285, 286, 287, 288, 289, 290, 291, 292, 293, 294, 295, 296, 297, 298, 299, 300, 301, 302, 303, 304, 305, 306, 307, 308, 309, 310, 311, 312, 313, 314, 315, 316, 317].getD i 0]? = some (Cond.eq (.elem (.static "java/lang/Integer" "DigitTens" "[B") (.int (Int32.ofNat i))) (.int (nI (48 + i / 10)))) := by decide +kernel
theorem ng_t4 : (lw_tbl)[1184]? = some (Cond.laysStatic "java/lang/Integer" "DigitTens" "[B") := by decide +kernel
theorem ng_I : (lw_tbl)[92]? = some (Cond.initialized "java/lang/Integer") := by decide +kernel
theorem ng_cl : (lw_tbl)[1107]? = some (Cond.castable "[B" "java/lang/Cloneable") := by decide +kernel
theorem ng_sb : (lw_tbl)[1042]? = some (Cond.instantiable "java/lang/StringBuilder" 4) := by decide +kernel
theorem ng_st : (lw_tbl)[795]? = some (Cond.instantiable "java/lang/String" 4) := by decide +kernel
theorem ng_a : ∀ i, i < 7 → (flatC nx_G)[[795, 810, 827, 845, 864, 884, 905].getD i 0]? = some (Cond.exactly (.string "SluiceChainLaw" (mo_cp i)) "java/lang/String") := by decide +kernel
theorem ng_b : ∀ i, i < 7 → (flatC nx_G)[[796, 811, 828, 846, 865, 885, 906].getD i 0]? = some (Cond.eq (.field (.string "SluiceChainLaw" (mo_cp i)) "java/lang/String" "coder" "B") (.int 0)) := by decide +kernel
theorem ng_c : ∀ i, i < 7 → (flatC nx_G)[[797, 812, 829, 847, 866, 886, 907].getD i 0]? = some (Cond.arrayOf (.field (.string "SluiceChainLaw" (mo_cp i)) "java/lang/String" "value" "[B") .byte) := by decide +kernel
theorem ng_d : ∀ i, i < 7 → (flatC nx_G)[[798, 813, 830, 848, 867, 887, 908].getD i 0]? = some (Cond.eq (.length (.field (.string "SluiceChainLaw" (mo_cp i)) "java/lang/String" "value" "[B")) (.int (Int32.ofNat (mo_cs i).length))) := by decide +kernel
theorem ng_e : ∀ i, i < 7 → (flatC nx_G)[[0, 814, 831, 849, 868, 888, 909].getD i 0]? = some ((if i = 0 then (flatC nx_G).getD 0 .tt else Cond.eq (.elem (.field (.string "SluiceChainLaw" (mo_cp i)) "java/lang/String" "value" "[B") (.int (Int32.ofNat 0))) (.int (Int32.ofInt ((mo_cs i).getD 0 0))))) := by decide +kernel
theorem ng_r : ∀ i, i < 7 → (lw_tbl)[[1253, 1254, 1255, 1256, 1257, 1258, 1259].getD i 0]? = some (Cond.stringRef "SluiceChainLaw" (mo_cp i) (mo_ct i)) := by decide +kernel
section NXG
variable {args : Array Value} {s : State}
theorem ng_tTS (h : nx_fl args s) : ∀ w ∈ tTS, w.before args s = true := by
  intro w hw
  rcases List.mem_append.mp hw with q | q
  · have hs := h.t ng_s
    simp only [tSel, List.mem_cons, List.not_mem_nil, or_false] at q
    rcases q with rfl | rfl | rfl | rfl
    · exact tselP (x := ⟨"java/lang/AbstractStringBuilder", "isLatin1", "()Z"⟩) rfl ⟨by decide, by decide⟩ hs (h.t ng_p_ens) (h.t ng_i_ens)
    · exact tselP (x := ⟨"java/lang/AbstractStringBuilder", "isLatin1", "()Z"⟩) rfl ⟨by decide, by decide⟩ hs (h.t ng_p_ncp) (h.t ng_i_ncp)
    · exact tselP (x := ⟨"java/lang/AbstractStringBuilder", "isLatin1", "()Z"⟩) rfl ⟨by decide, by decide⟩ hs (h.t ng_p_put) (h.t ng_i_put)
    · exact tselP (x := ⟨"java/lang/AbstractStringBuilder", "isLatin1", "()Z"⟩) rfl ⟨by decide, by decide⟩ hs (h.t ng_p_inf) (h.t ng_i_inf)
  · exact h.2 w (List.mem_filter.mp q).1
theorem ng_len : ∀ i, i < 7 → (mo_cs i).length ≤ 1 ∧ (i = 0 → (mo_cs i).length = 0) := by decide
theorem ng_G {p : Program} {m : MethodId} {meth : Method} {c : Code} {kad : Nat → Nat} {dC : Nat → ClassId} {dI : Nat → Nat → Nat} {cA : Nat → ClassId} {L : Nat} {xs : Nat → Int32} (h : nx_fl args s) (hx : p.tables.exec = Jvm.exec) (hb : c.code = code) (hml : c.maxLocals = 23) (hr : meth.sig.returnType = ret) (hlocks : meth.locks = false) (hown : s.vm.findClass "SluiceChainLaw" = some m.cls) (hE : mv_En s.heap.size kad dC dI cA L xs s) :
    ∃ (D : va_G) (cB : ClassId) (d1 d2 : Nat) (ka kv : Nat → Nat), mo_G s.heap.size kad dC dI cA L xs p s m args meth c D cB d1 d2 ka kv := by
  have hA : ∀ a : Nat, a < s.heap.size → ¬ (fun q => s.heap.size ≤ q) a := fun a ha => Nat.not_le.mpr ha
  have hT := ng_tTS h
  obtain ⟨c0, i0, k0⟩ := u_known (C := "java/lang/StringBuilder") (T := TJ4) (N := 4) (ws := tTS) (args := args) (s := s) hT tinJ4 (h.t ng_sb)
  obtain ⟨c1, i1, k1⟩ := u_known (C := "java/lang/String") (T := TJ0) (N := 4) (ws := tTS) (args := args) (s := s) hT tinJ0 (h.t ng_st)
  obtain ⟨cB, kB, comp, g1, g2, g3⟩ := Cond.arrayClass_spec (args := args) (first := s) (o := none) (s := s) (idx := []) (h.t na_b)
  obtain ⟨d1, hd1, hT1⟩ := va_Tof (args := args) (s := s) (tm := .static "java/lang/Integer" "DigitOnes" "[B") (ty := .byte) (N := 100) (f := fun j => .int (nI (48 + j % 10))) (A := fun q => s.heap.size ≤ q) (by decide) (h.g ng_o1) (va_eqt (h.g ng_o2)) (fun j hj => va_eqt (h.g (ng_o3 j hj))) hA
  obtain ⟨d2, hd2, hT2⟩ := va_Tof (args := args) (s := s) (tm := .static "java/lang/Integer" "DigitTens" "[B") (ty := .byte) (N := 100) (f := fun j => .int (nI (48 + j / 10))) (A := fun q => s.heap.size ≤ q) (by decide) (h.g ng_t1) (va_eqt (h.g ng_t2)) (fun j hj => va_eqt (h.g (ng_t3 j hj))) hA
  have hs : ∀ i : Nat, ∃ q : Nat × Nat, i < 7 → vk_R "SluiceChainLaw" (mo_cp i) (mo_ct i) q.1 s ∧ tR4 q.1 q.2 (mo_cs i).length (fun j => Int32.ofInt ((mo_cs i).getD j 0)) (fun q => s.heap.size ≤ q) s s.heap := by
    intro i
    by_cases hi : i < 7
    · obtain ⟨a, _, _, _, q1, -⟩ := Cond.exactly_spec (args := args) (first := s) (o := none) (s := s) (idx := []) (h.g (ng_a i hi))
      obtain ⟨l1, l2⟩ := ng_len i hi
      obtain ⟨v, hv, hTv⟩ := va_Tof (args := args) (s := s) (tm := .field (.string "SluiceChainLaw" (mo_cp i)) "java/lang/String" "value" "[B") (ty := .byte) (N := (mo_cs i).length) (f := fun j => .int (Int32.ofInt ((mo_cs i).getD j 0))) (A := fun q => s.heap.size ≤ q) (by omega) (h.g (ng_c i hi)) (va_eqt (h.g (ng_d i hi))) (fun j hj => by
        have hj0 : j = 0 := by omega
        have hi0 : ¬ i = 0 := fun e => by have := l2 e; omega
        subst hj0
        have he := h.g (ng_e i hi)
        rw [if_neg hi0] at he
        exact va_eqt he) hA
      exact ⟨(a, v), fun _ => ⟨vk_R.of (h.t (ng_r i hi)) q1, va_Oof (h.g (ng_a i hi)) q1 hA, vk_OFof q1 (va_eqt (h.g (ng_b i hi))) hA, vk_OFof q1 hv hA, hTv⟩⟩
    · exact ⟨(0, 0), fun q => absurd q hi⟩
  obtain ⟨sq, hsq⟩ := Classical.axiomOfChoice hs
  refine ⟨(fun c => if c = 0 then c0 else c1, fun c => if c = 0 then i0 else i1), cB, d1, d2, fun i => (sq i).1, fun i => (sq i).2, hx, hb, hml, hr, hlocks, hown, hT, hE, rfl, ⟨fun c q hq => ?_, fun k q hq => ?_⟩, ⟨va_Zof (h.t nt_c) (h.t ni_s) (va_eqi (h.g nx_c)) hA, va_Zref (h.t ng_o4) (h.t ng_I) hd1 hA, hT1, va_Zref (h.t ng_t4) (h.t ng_I) hd2 hA, hT2⟩, va_Nw.of rfl (h.t ng_cl), va_Zqof (h.t nt_s) (h.t ni_p) (h.g nx_s) hA, fun i hi => hsq i hi⟩
  · match c, hq with
    | 0, hq => cases hq; exact k0
    | 1, hq => cases hq; exact k1
    | c + 2, hq => cases hq
  · match k, hq with
    | 0, hq => cases hq; exact ⟨fun n z => ⟨fun k q => (by cases q), kB, g2, comp, g3⟩, g1⟩
    | k + 1, hq => cases hq
end NXG
