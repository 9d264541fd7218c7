/-! WHAT THE STATEMENT GIVES OF THE START: the texts' world -/
theorem ng_s : (lw_tbl)[1116]? = some (Cond.selects "java/lang/StringBuilder" ⟨"java/lang/AbstractStringBuilder", "isLatin1", "()Z"⟩ ⟨"java/lang/AbstractStringBuilder", "isLatin1", "()Z"⟩) := by decide +kernel
theorem ng_p_ens : (lw_tbl)[1083]? = some (Cond.privateMethod yj_ens) := by decide +kernel
theorem ng_i_ens : (lw_tbl)[1084]? = some (Cond.instanceMethod yj_ens) := by decide +kernel
theorem ng_p_ncp : (lw_tbl)[1087]? = some (Cond.privateMethod yj_ncp) := by decide +kernel
theorem ng_i_ncp : (lw_tbl)[1088]? = some (Cond.instanceMethod yj_ncp) := by decide +kernel
theorem ng_p_put : (lw_tbl)[1135]? = some (Cond.privateMethod yj_put) := by decide +kernel
theorem ng_i_put : (lw_tbl)[1136]? = some (Cond.instanceMethod yj_put) := by decide +kernel
theorem ng_p_inf : (lw_tbl)[1139]? = some (Cond.privateMethod yj_inf) := by decide +kernel
theorem ng_i_inf : (lw_tbl)[1140]? = some (Cond.instanceMethod yj_inf) := by decide +kernel
theorem ng_o1 : (flatC nx_G)[113]? = some (Cond.arrayOf (.static "java/lang/Integer" "DigitOnes" "[B") .byte) := by decide +kernel
theorem ng_o2 : (flatC nx_G)[114]? = some (Cond.eq (.length (.static "java/lang/Integer" "DigitOnes" "[B")) (.int (Int32.ofNat 100))) := by decide +kernel
theorem ng_o3 : ∀ i, i < 100 → (flatC nx_G)[[115, 116, 117, 118, 119, 120, 121, 122, 123, 124, 125, 126, 127, 128, 129, 130, 131, 132, 133, 134, 135, 136, 137, 138, 139, 140, 141, 142, 143, 144, 145, 146, 147, 148, 149, 150, 151, 152, 153, 154, 155, 156, 157, 158, 159, 160, 161, 162, 163, 164, 165, 166, 167, 168, 169, 170, 171, 172, 173, 174, 175, 176, 177, 178, 179, 180, 181, 182, 183, 184, 185, 186, 187, 188, 189, 190, 191, 192, 193, 194, 195, 196, 197, 198, 199, 200, 201, 202, 203, 204, 205, 206, 207, 208, 209, 210, 211, 212, 213, 214].getD i 0]? = some (Cond.eq (.elem (.static "java/lang/Integer" "DigitOnes" "[B") (.int (Int32.ofNat i))) (.int (nI (48 + i % 10)))) := by decide +kernel
theorem ng_o4 : (lw_tbl)[1182]? = some (Cond.laysStatic "java/lang/Integer" "DigitOnes" "[B") := by decide +kernel
theorem ng_t1 : (flatC nx_G)[216]? = some (Cond.arrayOf (.static "java/lang/Integer" "DigitTens" "[B") .byte) := by decide +kernel
theorem ng_t2 : (flatC nx_G)[217]? = some (Cond.eq (.length (.static "java/lang/Integer" "DigitTens" "[B")) (.int (Int32.ofNat 100))) := by decide +kernel
theorem ng_t3 : ∀ i, i < 100 → (flatC nx_G)[[218, 219, 220, 221, 222, 223, 224, 225, 226, 227, 228, 229, 230, 231, 232, 233, 234, 235, 236, 237, 238, 239, 240, 241, 242, 243, 244, 245, 246, 247, 248, 249, 250, 251, 252, 253, 254, 255, 256, 257, 258, 259, 260, 261, 262, 263, 264, 265, 266, 267, 268, 269, 270, 271, 272, 273, 274, 275, 276, 277, 278, 279, 280, 281, 282, 283, 284, 285, 286, 287, 288, 289, 290, 291, 292, 293, 294, 295, 296, 297, 298, 299, 300, 301, 302, 303, 304, 305, 306, 307, 308, 309, 310, 311, 312, 313, 314, 315, 316, 317].getD i 0]? = some (Cond.eq (.elem (.static "java/lang/Integer" "DigitTens" "[B") (.int (Int32.ofNat i))) (.int (nI (48 + i / 10)))) := by decide +kernel
theorem ng_t4 : (lw_tbl)[1184]? = some (Cond.laysStatic "java/lang/Integer" "DigitTens" "[B") := by decide +kernel
theorem ng_I : (lw_tbl)[92]? = some (Cond.initialized "java/lang/Integer") := by decide +kernel
theorem ng_cl : (lw_tbl)[1107]? = some (Cond.castable "[B" "java/lang/Cloneable") := by decide +kernel
theorem ng_sb : (lw_tbl)[1042]? = some (Cond.instantiable "java/lang/StringBuilder" 4) := by decide +kernel
theorem ng_st : (lw_tbl)[795]? = some (Cond.instantiable "java/lang/String" 4) := by decide +kernel
theorem ng_a : ∀ i, i < 7 → (flatC nx_G)[[795, 810, 827, 845, 864, 884, 905].getD i 0]? = some (Cond.exactly (.string "SluiceChainLaw" (mo_cp i)) "java/lang/String") := by decide +kernel
theorem ng_b : ∀ i, i < 7 → (flatC nx_G)[[796, 811, 828, 846, 865, 885, 906].getD i 0]? = some (Cond.eq (.field (.string "SluiceChainLaw" (mo_cp i)) "java/lang/String" "coder" "B") (.int 0)) := by decide +kernel
theorem ng_c : ∀ i, i < 7 → (flatC nx_G)[[797, 812, 829, 847, 866, 886, 907].getD i 0]? = some (Cond.arrayOf (.field (.string "SluiceChainLaw" (mo_cp i)) "java/lang/String" "value" "[B") .byte) := by decide +kernel
theorem ng_d : ∀ i, i < 7 → (flatC nx_G)[[798, 813, 830, 848, 867, 887, 908].getD i 0]? = some (Cond.eq (.length (.field (.string "SluiceChainLaw" (mo_cp i)) "java/lang/String" "value" "[B")) (.int (Int32.ofNat (mo_cs i).length))) := by decide +kernel
theorem ng_e : ∀ i, i < 7 → (flatC nx_G)[[0, 814, 831, 849, 868, 888, 909].getD i 0]? = some ((if i = 0 then (flatC nx_G).getD 0 .tt else Cond.eq (.elem (.field (.string "SluiceChainLaw" (mo_cp i)) "java/lang/String" "value" "[B") (.int (Int32.ofNat 0))) (.int (Int32.ofInt ((mo_cs i).getD 0 0))))) := by decide +kernel
theorem ng_r : ∀ i, i < 7 → (lw_tbl)[[1253, 1254, 1255, 1256, 1257, 1258, 1259].getD i 0]? = some (Cond.stringRef "SluiceChainLaw" (mo_cp i) (mo_ct i)) := by decide +kernel
section NXG
variable {args : Array Value} {s : State}
theorem ng_tTS (h : nx_fl args s) : ∀ w ∈ tTS, w.before args s = true := by
  intro w hw
  rcases List.mem_append.mp hw with q | q
  · have hs := h.t ng_s
    simp only [tSel, List.mem_cons, List.not_mem_nil, or_false] at q
    rcases q with rfl | rfl | rfl | rfl
    · exact tselP rfl ⟨by decide, by decide⟩ hs (h.t ng_p_ens) (h.t ng_i_ens)
    · exact tselP rfl ⟨by decide, by decide⟩ hs (h.t ng_p_ncp) (h.t ng_i_ncp)
    · exact tselP rfl ⟨by decide, by decide⟩ hs (h.t ng_p_put) (h.t ng_i_put)
    · exact tselP rfl ⟨by decide, by decide⟩ hs (h.t ng_p_inf) (h.t ng_i_inf)
  · exact h.2 w (List.mem_filter.mp q).1
end NXG
