def yj_abi : MethodName := ⟨"java/lang/AbstractStringBuilder", "<init>", "(I)V"⟩
theorem dj_abi_0 : decode prog_15_method_2_code 0 = .ok (.aload_n 0, 1) := by decide +kernel
theorem dj_abi_1 : decode prog_15_method_2_code 1 = .ok (.invokespecial 3, 3) := by decide +kernel
theorem dj_abi_4 : decode prog_15_method_2_code 4 = .ok (.getstatic 18, 3) := by decide +kernel
theorem dj_abi_7 : decode prog_15_method_2_code 7 = .ok (.ifCond .eq 18, 3) := by decide +kernel
theorem dj_abi_10 : decode prog_15_method_2_code 10 = .ok (.aload_n 0, 1) := by decide +kernel
theorem dj_abi_11 : decode prog_15_method_2_code 11 = .ok (.iload_n 1, 1) := by decide +kernel
theorem dj_abi_12 : decode prog_15_method_2_code 12 = .ok (.newarray .byte, 2) := by decide +kernel
theorem dj_abi_14 : decode prog_15_method_2_code 14 = .ok (.putfield 15, 3) := by decide +kernel
theorem dj_abi_17 : decode prog_15_method_2_code 17 = .ok (.aload_n 0, 1) := by decide +kernel
theorem dj_abi_18 : decode prog_15_method_2_code 18 = .ok (.iconst 0, 1) := by decide +kernel
theorem dj_abi_19 : decode prog_15_method_2_code 19 = .ok (.putfield 22, 3) := by decide +kernel
theorem dj_abi_22 : decode prog_15_method_2_code 22 = .ok (.goto 16, 3) := by decide +kernel
theorem dj_abi_25 : decode prog_15_method_2_code 25 = .ok (.aload_n 0, 1) := by decide +kernel
theorem dj_abi_26 : decode prog_15_method_2_code 26 = .ok (.iload_n 1, 1) := by decide +kernel
theorem dj_abi_27 : decode prog_15_method_2_code 27 = .ok (.invokestatic 26, 3) := by decide +kernel
theorem dj_abi_30 : decode prog_15_method_2_code 30 = .ok (.putfield 15, 3) := by decide +kernel
theorem dj_abi_33 : decode prog_15_method_2_code 33 = .ok (.aload_n 0, 1) := by decide +kernel
theorem dj_abi_34 : decode prog_15_method_2_code 34 = .ok (.iconst 1, 1) := by decide +kernel
theorem dj_abi_35 : decode prog_15_method_2_code 35 = .ok (.putfield 22, 3) := by decide +kernel
theorem dj_abi_38 : decode prog_15_method_2_code 38 = .ok (.return_, 1) := by decide +kernel
def yj_bin : MethodName := ⟨"java/lang/StringBuilder", "<init>", "()V"⟩
theorem dj_bin_0 : decode prog_32_method_1_code 0 = .ok (.aload_n 0, 1) := by decide +kernel
theorem dj_bin_1 : decode prog_32_method_1_code 1 = .ok (.bipush 16, 2) := by decide +kernel
theorem dj_bin_3 : decode prog_32_method_1_code 3 = .ok (.invokespecial 1, 3) := by decide +kernel
theorem dj_bin_6 : decode prog_32_method_1_code 6 = .ok (.return_, 1) := by decide +kernel
def yj_isl : MethodName := ⟨"java/lang/AbstractStringBuilder", "isLatin1", "()Z"⟩
theorem dj_isl_0 : decode prog_15_method_68_code 0 = .ok (.getstatic 18, 3) := by decide +kernel
theorem dj_isl_3 : decode prog_15_method_68_code 3 = .ok (.ifCond .eq 14, 3) := by decide +kernel
theorem dj_isl_6 : decode prog_15_method_68_code 6 = .ok (.aload_n 0, 1) := by decide +kernel
theorem dj_isl_7 : decode prog_15_method_68_code 7 = .ok (.getfield 22, 3) := by decide +kernel
theorem dj_isl_10 : decode prog_15_method_68_code 10 = .ok (.ifCond .ne 7, 3) := by decide +kernel
theorem dj_isl_13 : decode prog_15_method_68_code 13 = .ok (.iconst 1, 1) := by decide +kernel
theorem dj_isl_14 : decode prog_15_method_68_code 14 = .ok (.goto 4, 3) := by decide +kernel
theorem dj_isl_17 : decode prog_15_method_68_code 17 = .ok (.iconst 0, 1) := by decide +kernel
theorem dj_isl_18 : decode prog_15_method_68_code 18 = .ok (.ireturn, 1) := by decide +kernel
def yj_gvl : MethodName := ⟨"java/lang/AbstractStringBuilder", "getValue", "()[B"⟩
theorem dj_gvl_0 : decode prog_15_method_64_code 0 = .ok (.aload_n 0, 1) := by decide +kernel
theorem dj_gvl_1 : decode prog_15_method_64_code 1 = .ok (.getfield 15, 3) := by decide +kernel
theorem dj_gvl_4 : decode prog_15_method_64_code 4 = .ok (.areturn, 1) := by decide +kernel
def yj_aln : MethodName := ⟨"java/lang/AbstractStringBuilder", "length", "()I"⟩
theorem dj_aln_0 : decode prog_15_method_6_code 0 = .ok (.aload_n 0, 1) := by decide +kernel
theorem dj_aln_1 : decode prog_15_method_6_code 1 = .ok (.getfield 79, 3) := by decide +kernel
theorem dj_aln_4 : decode prog_15_method_6_code 4 = .ok (.ireturn, 1) := by decide +kernel
def yj_bln : MethodName := ⟨"java/lang/StringBuilder", "length", "()I"⟩
theorem dj_bln_0 : decode prog_32_method_93_code 0 = .ok (.aload_n 0, 1) := by decide +kernel
theorem dj_bln_1 : decode prog_32_method_93_code 1 = .ok (.invokespecial 343, 3) := by decide +kernel
theorem dj_bln_4 : decode prog_32_method_93_code 4 = .ok (.ireturn, 1) := by decide +kernel
def yj_ncp : MethodName := ⟨"java/lang/AbstractStringBuilder", "newCapacity", "(I)I"⟩
theorem dj_ncp_0 : decode prog_15_method_10_code 0 = .ok (.aload_n 0, 1) := by decide +kernel
theorem dj_ncp_1 : decode prog_15_method_10_code 1 = .ok (.getfield 15, 3) := by decide +kernel
theorem dj_ncp_4 : decode prog_15_method_10_code 4 = .ok (.arraylength, 1) := by decide +kernel
theorem dj_ncp_5 : decode prog_15_method_10_code 5 = .ok (.istore_n 2, 1) := by decide +kernel
theorem dj_ncp_6 : decode prog_15_method_10_code 6 = .ok (.iload_n 1, 1) := by decide +kernel
theorem dj_ncp_7 : decode prog_15_method_10_code 7 = .ok (.aload_n 0, 1) := by decide +kernel
theorem dj_ncp_8 : decode prog_15_method_10_code 8 = .ok (.getfield 22, 3) := by decide +kernel
theorem dj_ncp_11 : decode prog_15_method_10_code 11 = .ok (.ishl, 1) := by decide +kernel
theorem dj_ncp_12 : decode prog_15_method_10_code 12 = .ok (.istore_n 3, 1) := by decide +kernel
theorem dj_ncp_13 : decode prog_15_method_10_code 13 = .ok (.iload_n 3, 1) := by decide +kernel
theorem dj_ncp_14 : decode prog_15_method_10_code 14 = .ok (.iload_n 2, 1) := by decide +kernel
theorem dj_ncp_15 : decode prog_15_method_10_code 15 = .ok (.isub, 1) := by decide +kernel
theorem dj_ncp_16 : decode prog_15_method_10_code 16 = .ok (.istore 4, 2) := by decide +kernel
theorem dj_ncp_18 : decode prog_15_method_10_code 18 = .ok (.iload_n 2, 1) := by decide +kernel
theorem dj_ncp_19 : decode prog_15_method_10_code 19 = .ok (.iload 4, 2) := by decide +kernel
theorem dj_ncp_21 : decode prog_15_method_10_code 21 = .ok (.iload_n 2, 1) := by decide +kernel
theorem dj_ncp_22 : decode prog_15_method_10_code 22 = .ok (.iconst 2, 1) := by decide +kernel
theorem dj_ncp_23 : decode prog_15_method_10_code 23 = .ok (.aload_n 0, 1) := by decide +kernel
theorem dj_ncp_24 : decode prog_15_method_10_code 24 = .ok (.getfield 22, 3) := by decide +kernel
theorem dj_ncp_27 : decode prog_15_method_10_code 27 = .ok (.ishl, 1) := by decide +kernel
theorem dj_ncp_28 : decode prog_15_method_10_code 28 = .ok (.iadd, 1) := by decide +kernel
theorem dj_ncp_29 : decode prog_15_method_10_code 29 = .ok (.invokestatic 114, 3) := by decide +kernel
theorem dj_ncp_32 : decode prog_15_method_10_code 32 = .ok (.istore 5, 2) := by decide +kernel
theorem dj_ncp_34 : decode prog_15_method_10_code 34 = .ok (.iload 5, 2) := by decide +kernel
theorem dj_ncp_36 : decode prog_15_method_10_code 36 = .ok (.ldc 39, 2) := by decide +kernel
theorem dj_ncp_38 : decode prog_15_method_10_code 38 = .ok (.if_icmp .ne 13, 3) := by decide +kernel
theorem dj_ncp_41 : decode prog_15_method_10_code 41 = .ok (.new 120, 3) := by decide +kernel
theorem dj_ncp_44 : decode prog_15_method_10_code 44 = .ok (.dup, 1) := by decide +kernel
theorem dj_ncp_45 : decode prog_15_method_10_code 45 = .ok (.ldc 122, 2) := by decide +kernel
theorem dj_ncp_47 : decode prog_15_method_10_code 47 = .ok (.invokespecial 124, 3) := by decide +kernel
theorem dj_ncp_50 : decode prog_15_method_10_code 50 = .ok (.athrow, 1) := by decide +kernel
theorem dj_ncp_51 : decode prog_15_method_10_code 51 = .ok (.iload 5, 2) := by decide +kernel
theorem dj_ncp_53 : decode prog_15_method_10_code 53 = .ok (.aload_n 0, 1) := by decide +kernel
theorem dj_ncp_54 : decode prog_15_method_10_code 54 = .ok (.getfield 22, 3) := by decide +kernel
theorem dj_ncp_57 : decode prog_15_method_10_code 57 = .ok (.ishr, 1) := by decide +kernel
theorem dj_ncp_58 : decode prog_15_method_10_code 58 = .ok (.ireturn, 1) := by decide +kernel
def yj_nln : MethodName := ⟨"jdk/internal/util/ArraysSupport", "newLength", "(III)I"⟩
theorem dj_nln_0 : decode prog_41_method_27_code 0 = .ok (.iload_n 0, 1) := by decide +kernel
theorem dj_nln_1 : decode prog_41_method_27_code 1 = .ok (.iload_n 1, 1) := by decide +kernel
theorem dj_nln_2 : decode prog_41_method_27_code 2 = .ok (.iload_n 2, 1) := by decide +kernel
theorem dj_nln_3 : decode prog_41_method_27_code 3 = .ok (.invokestatic 194, 3) := by decide +kernel
theorem dj_nln_6 : decode prog_41_method_27_code 6 = .ok (.iadd, 1) := by decide +kernel
theorem dj_nln_7 : decode prog_41_method_27_code 7 = .ok (.istore_n 3, 1) := by decide +kernel
theorem dj_nln_8 : decode prog_41_method_27_code 8 = .ok (.iconst 0, 1) := by decide +kernel
theorem dj_nln_9 : decode prog_41_method_27_code 9 = .ok (.iload_n 3, 1) := by decide +kernel
theorem dj_nln_10 : decode prog_41_method_27_code 10 = .ok (.if_icmp .ge 11, 3) := by decide +kernel
theorem dj_nln_13 : decode prog_41_method_27_code 13 = .ok (.iload_n 3, 1) := by decide +kernel
theorem dj_nln_14 : decode prog_41_method_27_code 14 = .ok (.ldc 200, 2) := by decide +kernel
theorem dj_nln_16 : decode prog_41_method_27_code 16 = .ok (.if_icmp .gt 5, 3) := by decide +kernel
theorem dj_nln_19 : decode prog_41_method_27_code 19 = .ok (.iload_n 3, 1) := by decide +kernel
theorem dj_nln_20 : decode prog_41_method_27_code 20 = .ok (.ireturn, 1) := by decide +kernel
theorem dj_nln_21 : decode prog_41_method_27_code 21 = .ok (.iload_n 0, 1) := by decide +kernel
theorem dj_nln_22 : decode prog_41_method_27_code 22 = .ok (.iload_n 1, 1) := by decide +kernel
theorem dj_nln_23 : decode prog_41_method_27_code 23 = .ok (.invokestatic 201, 3) := by decide +kernel
theorem dj_nln_26 : decode prog_41_method_27_code 26 = .ok (.ireturn, 1) := by decide +kernel
def yj_cpo : MethodName := ⟨"java/util/Arrays", "copyOf", "([BI)[B"⟩
theorem dj_cpo_0 : decode prog_39_method_121_code 0 = .ok (.iload_n 1, 1) := by decide +kernel
theorem dj_cpo_1 : decode prog_39_method_121_code 1 = .ok (.aload_n 0, 1) := by decide +kernel
theorem dj_cpo_2 : decode prog_39_method_121_code 2 = .ok (.arraylength, 1) := by decide +kernel
theorem dj_cpo_3 : decode prog_39_method_121_code 3 = .ok (.if_icmp .ne 11, 3) := by decide +kernel
theorem dj_cpo_6 : decode prog_39_method_121_code 6 = .ok (.aload_n 0, 1) := by decide +kernel
theorem dj_cpo_7 : decode prog_39_method_121_code 7 = .ok (.invokevirtual 310, 3) := by decide +kernel
theorem dj_cpo_10 : decode prog_39_method_121_code 10 = .ok (.checkcast 311, 3) := by decide +kernel
theorem dj_cpo_13 : decode prog_39_method_121_code 13 = .ok (.areturn, 1) := by decide +kernel
theorem dj_cpo_14 : decode prog_39_method_121_code 14 = .ok (.iload_n 1, 1) := by decide +kernel
theorem dj_cpo_15 : decode prog_39_method_121_code 15 = .ok (.newarray .byte, 2) := by decide +kernel
theorem dj_cpo_17 : decode prog_39_method_121_code 17 = .ok (.astore_n 2, 1) := by decide +kernel
theorem dj_cpo_18 : decode prog_39_method_121_code 18 = .ok (.aload_n 0, 1) := by decide +kernel
theorem dj_cpo_19 : decode prog_39_method_121_code 19 = .ok (.iconst 0, 1) := by decide +kernel
theorem dj_cpo_20 : decode prog_39_method_121_code 20 = .ok (.aload_n 2, 1) := by decide +kernel
theorem dj_cpo_21 : decode prog_39_method_121_code 21 = .ok (.iconst 0, 1) := by decide +kernel
theorem dj_cpo_22 : decode prog_39_method_121_code 22 = .ok (.aload_n 0, 1) := by decide +kernel
theorem dj_cpo_23 : decode prog_39_method_121_code 23 = .ok (.arraylength, 1) := by decide +kernel
theorem dj_cpo_24 : decode prog_39_method_121_code 24 = .ok (.iload_n 1, 1) := by decide +kernel
theorem dj_cpo_25 : decode prog_39_method_121_code 25 = .ok (.invokestatic 304, 3) := by decide +kernel
theorem dj_cpo_28 : decode prog_39_method_121_code 28 = .ok (.invokestatic 150, 3) := by decide +kernel
theorem dj_cpo_31 : decode prog_39_method_121_code 31 = .ok (.aload_n 2, 1) := by decide +kernel
theorem dj_cpo_32 : decode prog_39_method_121_code 32 = .ok (.areturn, 1) := by decide +kernel
def yj_ens : MethodName := ⟨"java/lang/AbstractStringBuilder", "ensureCapacityInternal", "(I)V"⟩
theorem dj_ens_0 : decode prog_15_method_9_code 0 = .ok (.aload_n 0, 1) := by decide +kernel
theorem dj_ens_1 : decode prog_15_method_9_code 1 = .ok (.getfield 15, 3) := by decide +kernel
theorem dj_ens_4 : decode prog_15_method_9_code 4 = .ok (.arraylength, 1) := by decide +kernel
theorem dj_ens_5 : decode prog_15_method_9_code 5 = .ok (.aload_n 0, 1) := by decide +kernel
theorem dj_ens_6 : decode prog_15_method_9_code 6 = .ok (.getfield 22, 3) := by decide +kernel
theorem dj_ens_9 : decode prog_15_method_9_code 9 = .ok (.ishr, 1) := by decide +kernel
theorem dj_ens_10 : decode prog_15_method_9_code 10 = .ok (.istore_n 2, 1) := by decide +kernel
theorem dj_ens_11 : decode prog_15_method_9_code 11 = .ok (.iload_n 1, 1) := by decide +kernel
theorem dj_ens_12 : decode prog_15_method_9_code 12 = .ok (.iload_n 2, 1) := by decide +kernel
theorem dj_ens_13 : decode prog_15_method_9_code 13 = .ok (.isub, 1) := by decide +kernel
theorem dj_ens_14 : decode prog_15_method_9_code 14 = .ok (.ifCond .le 24, 3) := by decide +kernel
theorem dj_ens_17 : decode prog_15_method_9_code 17 = .ok (.aload_n 0, 1) := by decide +kernel
theorem dj_ens_18 : decode prog_15_method_9_code 18 = .ok (.aload_n 0, 1) := by decide +kernel
theorem dj_ens_19 : decode prog_15_method_9_code 19 = .ok (.getfield 15, 3) := by decide +kernel
theorem dj_ens_22 : decode prog_15_method_9_code 22 = .ok (.aload_n 0, 1) := by decide +kernel
theorem dj_ens_23 : decode prog_15_method_9_code 23 = .ok (.iload_n 1, 1) := by decide +kernel
theorem dj_ens_24 : decode prog_15_method_9_code 24 = .ok (.invokevirtual 104, 3) := by decide +kernel
theorem dj_ens_27 : decode prog_15_method_9_code 27 = .ok (.aload_n 0, 1) := by decide +kernel
theorem dj_ens_28 : decode prog_15_method_9_code 28 = .ok (.getfield 22, 3) := by decide +kernel
theorem dj_ens_31 : decode prog_15_method_9_code 31 = .ok (.ishl, 1) := by decide +kernel
theorem dj_ens_32 : decode prog_15_method_9_code 32 = .ok (.invokestatic 108, 3) := by decide +kernel
theorem dj_ens_35 : decode prog_15_method_9_code 35 = .ok (.putfield 15, 3) := by decide +kernel
theorem dj_ens_38 : decode prog_15_method_9_code 38 = .ok (.return_, 1) := by decide +kernel
def yj_inf : MethodName := ⟨"java/lang/AbstractStringBuilder", "inflateIfNeededFor", "(Ljava/lang/String;)V"⟩
theorem dj_inf_0 : decode prog_15_method_71_code 0 = .ok (.getstatic 18, 3) := by decide +kernel
theorem dj_inf_3 : decode prog_15_method_71_code 3 = .ok (.ifCond .eq 18, 3) := by decide +kernel
theorem dj_inf_6 : decode prog_15_method_71_code 6 = .ok (.aload_n 0, 1) := by decide +kernel
theorem dj_inf_7 : decode prog_15_method_71_code 7 = .ok (.getfield 22, 3) := by decide +kernel
theorem dj_inf_10 : decode prog_15_method_71_code 10 = .ok (.aload_n 1, 1) := by decide +kernel
theorem dj_inf_11 : decode prog_15_method_71_code 11 = .ok (.invokevirtual 40, 3) := by decide +kernel
theorem dj_inf_14 : decode prog_15_method_71_code 14 = .ok (.if_icmp .eq 7, 3) := by decide +kernel
theorem dj_inf_17 : decode prog_15_method_71_code 17 = .ok (.aload_n 0, 1) := by decide +kernel
theorem dj_inf_18 : decode prog_15_method_71_code 18 = .ok (.invokevirtual 195, 3) := by decide +kernel
theorem dj_inf_21 : decode prog_15_method_71_code 21 = .ok (.return_, 1) := by decide +kernel
def yj_gby : MethodName := ⟨"java/lang/String", "getBytes", "([BIB)V"⟩
theorem dj_gby_0 : decode prog_31_method_147_code 0 = .ok (.aload_n 0, 1) := by decide +kernel
theorem dj_gby_1 : decode prog_31_method_147_code 1 = .ok (.invokevirtual 335, 3) := by decide +kernel
theorem dj_gby_4 : decode prog_31_method_147_code 4 = .ok (.iload_n 3, 1) := by decide +kernel
theorem dj_gby_5 : decode prog_31_method_147_code 5 = .ok (.if_icmp .ne 23, 3) := by decide +kernel
theorem dj_gby_8 : decode prog_31_method_147_code 8 = .ok (.aload_n 0, 1) := by decide +kernel
theorem dj_gby_9 : decode prog_31_method_147_code 9 = .ok (.getfield 9, 3) := by decide +kernel
theorem dj_gby_12 : decode prog_31_method_147_code 12 = .ok (.iconst 0, 1) := by decide +kernel
theorem dj_gby_13 : decode prog_31_method_147_code 13 = .ok (.aload_n 1, 1) := by decide +kernel
theorem dj_gby_14 : decode prog_31_method_147_code 14 = .ok (.iload_n 2, 1) := by decide +kernel
theorem dj_gby_15 : decode prog_31_method_147_code 15 = .ok (.iload_n 3, 1) := by decide +kernel
theorem dj_gby_16 : decode prog_31_method_147_code 16 = .ok (.ishl, 1) := by decide +kernel
theorem dj_gby_17 : decode prog_31_method_147_code 17 = .ok (.aload_n 0, 1) := by decide +kernel
theorem dj_gby_18 : decode prog_31_method_147_code 18 = .ok (.getfield 9, 3) := by decide +kernel
theorem dj_gby_21 : decode prog_31_method_147_code 21 = .ok (.arraylength, 1) := by decide +kernel
theorem dj_gby_22 : decode prog_31_method_147_code 22 = .ok (.invokestatic 212, 3) := by decide +kernel
theorem dj_gby_25 : decode prog_31_method_147_code 25 = .ok (.goto 18, 3) := by decide +kernel
theorem dj_gby_28 : decode prog_31_method_147_code 28 = .ok (.aload_n 0, 1) := by decide +kernel
theorem dj_gby_29 : decode prog_31_method_147_code 29 = .ok (.getfield 9, 3) := by decide +kernel
theorem dj_gby_32 : decode prog_31_method_147_code 32 = .ok (.iconst 0, 1) := by decide +kernel
theorem dj_gby_33 : decode prog_31_method_147_code 33 = .ok (.aload_n 1, 1) := by decide +kernel
theorem dj_gby_34 : decode prog_31_method_147_code 34 = .ok (.iload_n 2, 1) := by decide +kernel
theorem dj_gby_35 : decode prog_31_method_147_code 35 = .ok (.aload_n 0, 1) := by decide +kernel
theorem dj_gby_36 : decode prog_31_method_147_code 36 = .ok (.getfield 9, 3) := by decide +kernel
theorem dj_gby_39 : decode prog_31_method_147_code 39 = .ok (.arraylength, 1) := by decide +kernel
theorem dj_gby_40 : decode prog_31_method_147_code 40 = .ok (.invokestatic 106, 3) := by decide +kernel
theorem dj_gby_43 : decode prog_31_method_147_code 43 = .ok (.return_, 1) := by decide +kernel
def yj_put : MethodName := ⟨"java/lang/AbstractStringBuilder", "putStringAt", "(ILjava/lang/String;)V"⟩
theorem dj_put_0 : decode prog_15_method_73_code 0 = .ok (.aload_n 0, 1) := by decide +kernel
theorem dj_put_1 : decode prog_15_method_73_code 1 = .ok (.aload_n 2, 1) := by decide +kernel
theorem dj_put_2 : decode prog_15_method_73_code 2 = .ok (.invokevirtual 397, 3) := by decide +kernel
theorem dj_put_5 : decode prog_15_method_73_code 5 = .ok (.aload_n 2, 1) := by decide +kernel
theorem dj_put_6 : decode prog_15_method_73_code 6 = .ok (.aload_n 0, 1) := by decide +kernel
theorem dj_put_7 : decode prog_15_method_73_code 7 = .ok (.getfield 15, 3) := by decide +kernel
theorem dj_put_10 : decode prog_15_method_73_code 10 = .ok (.iload_n 1, 1) := by decide +kernel
theorem dj_put_11 : decode prog_15_method_73_code 11 = .ok (.aload_n 0, 1) := by decide +kernel
theorem dj_put_12 : decode prog_15_method_73_code 12 = .ok (.getfield 22, 3) := by decide +kernel
theorem dj_put_15 : decode prog_15_method_73_code 15 = .ok (.invokevirtual 399, 3) := by decide +kernel
theorem dj_put_18 : decode prog_15_method_73_code 18 = .ok (.return_, 1) := by decide +kernel
def yj_aps : MethodName := ⟨"java/lang/AbstractStringBuilder", "append", "(Ljava/lang/String;)Ljava/lang/AbstractStringBuilder;"⟩
theorem dj_aps_0 : decode prog_15_method_22_code 0 = .ok (.aload_n 1, 1) := by decide +kernel
theorem dj_aps_1 : decode prog_15_method_22_code 1 = .ok (.ifnonnull 8, 3) := by decide +kernel
theorem dj_aps_4 : decode prog_15_method_22_code 4 = .ok (.aload_n 0, 1) := by decide +kernel
theorem dj_aps_5 : decode prog_15_method_22_code 5 = .ok (.invokevirtual 204, 3) := by decide +kernel
theorem dj_aps_8 : decode prog_15_method_22_code 8 = .ok (.areturn, 1) := by decide +kernel
theorem dj_aps_9 : decode prog_15_method_22_code 9 = .ok (.aload_n 1, 1) := by decide +kernel
theorem dj_aps_10 : decode prog_15_method_22_code 10 = .ok (.invokevirtual 32, 3) := by decide +kernel
theorem dj_aps_13 : decode prog_15_method_22_code 13 = .ok (.istore_n 2, 1) := by decide +kernel
theorem dj_aps_14 : decode prog_15_method_22_code 14 = .ok (.aload_n 0, 1) := by decide +kernel
theorem dj_aps_15 : decode prog_15_method_22_code 15 = .ok (.aload_n 0, 1) := by decide +kernel
theorem dj_aps_16 : decode prog_15_method_22_code 16 = .ok (.getfield 79, 3) := by decide +kernel
theorem dj_aps_19 : decode prog_15_method_22_code 19 = .ok (.iload_n 2, 1) := by decide +kernel
theorem dj_aps_20 : decode prog_15_method_22_code 20 = .ok (.iadd, 1) := by decide +kernel
theorem dj_aps_21 : decode prog_15_method_22_code 21 = .ok (.invokevirtual 100, 3) := by decide +kernel
theorem dj_aps_24 : decode prog_15_method_22_code 24 = .ok (.aload_n 0, 1) := by decide +kernel
theorem dj_aps_25 : decode prog_15_method_22_code 25 = .ok (.aload_n 0, 1) := by decide +kernel
theorem dj_aps_26 : decode prog_15_method_22_code 26 = .ok (.getfield 79, 3) := by decide +kernel
theorem dj_aps_29 : decode prog_15_method_22_code 29 = .ok (.aload_n 1, 1) := by decide +kernel
theorem dj_aps_30 : decode prog_15_method_22_code 30 = .ok (.invokevirtual 208, 3) := by decide +kernel
theorem dj_aps_33 : decode prog_15_method_22_code 33 = .ok (.aload_n 0, 1) := by decide +kernel
theorem dj_aps_34 : decode prog_15_method_22_code 34 = .ok (.dup, 1) := by decide +kernel
theorem dj_aps_35 : decode prog_15_method_22_code 35 = .ok (.getfield 79, 3) := by decide +kernel
theorem dj_aps_38 : decode prog_15_method_22_code 38 = .ok (.iload_n 2, 1) := by decide +kernel
theorem dj_aps_39 : decode prog_15_method_22_code 39 = .ok (.iadd, 1) := by decide +kernel
theorem dj_aps_40 : decode prog_15_method_22_code 40 = .ok (.putfield 79, 3) := by decide +kernel
theorem dj_aps_43 : decode prog_15_method_22_code 43 = .ok (.aload_n 0, 1) := by decide +kernel
theorem dj_aps_44 : decode prog_15_method_22_code 44 = .ok (.areturn, 1) := by decide +kernel
def yj_sps : MethodName := ⟨"java/lang/StringBuilder", "append", "(Ljava/lang/String;)Ljava/lang/StringBuilder;"⟩
theorem dj_sps_0 : decode prog_32_method_7_code 0 = .ok (.aload_n 0, 1) := by decide +kernel
theorem dj_sps_1 : decode prog_32_method_7_code 1 = .ok (.aload_n 1, 1) := by decide +kernel
theorem dj_sps_2 : decode prog_32_method_7_code 2 = .ok (.invokespecial 29, 3) := by decide +kernel
theorem dj_sps_5 : decode prog_32_method_7_code 5 = .ok (.pop, 1) := by decide +kernel
theorem dj_sps_6 : decode prog_32_method_7_code 6 = .ok (.aload_n 0, 1) := by decide +kernel
theorem dj_sps_7 : decode prog_32_method_7_code 7 = .ok (.areturn, 1) := by decide +kernel
def yj_ssz : MethodName := ⟨"java/lang/Integer", "stringSize", "(I)I"⟩
theorem dj_ssz_0 : decode prog_27_method_13_code 0 = .ok (.iconst 1, 1) := by decide +kernel
theorem dj_ssz_1 : decode prog_27_method_13_code 1 = .ok (.istore_n 1, 1) := by decide +kernel
theorem dj_ssz_2 : decode prog_27_method_13_code 2 = .ok (.iload_n 0, 1) := by decide +kernel
theorem dj_ssz_3 : decode prog_27_method_13_code 3 = .ok (.ifCond .lt 8, 3) := by decide +kernel
theorem dj_ssz_6 : decode prog_27_method_13_code 6 = .ok (.iconst 0, 1) := by decide +kernel
theorem dj_ssz_7 : decode prog_27_method_13_code 7 = .ok (.istore_n 1, 1) := by decide +kernel
theorem dj_ssz_8 : decode prog_27_method_13_code 8 = .ok (.iload_n 0, 1) := by decide +kernel
theorem dj_ssz_9 : decode prog_27_method_13_code 9 = .ok (.ineg, 1) := by decide +kernel
theorem dj_ssz_10 : decode prog_27_method_13_code 10 = .ok (.istore_n 0, 1) := by decide +kernel
theorem dj_ssz_11 : decode prog_27_method_13_code 11 = .ok (.bipush (-10), 2) := by decide +kernel
theorem dj_ssz_13 : decode prog_27_method_13_code 13 = .ok (.istore_n 2, 1) := by decide +kernel
theorem dj_ssz_14 : decode prog_27_method_13_code 14 = .ok (.iconst 1, 1) := by decide +kernel
theorem dj_ssz_15 : decode prog_27_method_13_code 15 = .ok (.istore_n 3, 1) := by decide +kernel
theorem dj_ssz_16 : decode prog_27_method_13_code 16 = .ok (.iload_n 3, 1) := by decide +kernel
theorem dj_ssz_17 : decode prog_27_method_13_code 17 = .ok (.bipush 10, 2) := by decide +kernel
theorem dj_ssz_19 : decode prog_27_method_13_code 19 = .ok (.if_icmp .ge 23, 3) := by decide +kernel
theorem dj_ssz_22 : decode prog_27_method_13_code 22 = .ok (.iload_n 0, 1) := by decide +kernel
theorem dj_ssz_23 : decode prog_27_method_13_code 23 = .ok (.iload_n 2, 1) := by decide +kernel
theorem dj_ssz_24 : decode prog_27_method_13_code 24 = .ok (.if_icmp .le 7, 3) := by decide +kernel
theorem dj_ssz_27 : decode prog_27_method_13_code 27 = .ok (.iload_n 3, 1) := by decide +kernel
theorem dj_ssz_28 : decode prog_27_method_13_code 28 = .ok (.iload_n 1, 1) := by decide +kernel
theorem dj_ssz_29 : decode prog_27_method_13_code 29 = .ok (.iadd, 1) := by decide +kernel
theorem dj_ssz_30 : decode prog_27_method_13_code 30 = .ok (.ireturn, 1) := by decide +kernel
theorem dj_ssz_31 : decode prog_27_method_13_code 31 = .ok (.bipush 10, 2) := by decide +kernel
theorem dj_ssz_33 : decode prog_27_method_13_code 33 = .ok (.iload_n 2, 1) := by decide +kernel
theorem dj_ssz_34 : decode prog_27_method_13_code 34 = .ok (.imul, 1) := by decide +kernel
theorem dj_ssz_35 : decode prog_27_method_13_code 35 = .ok (.istore_n 2, 1) := by decide +kernel
theorem dj_ssz_36 : decode prog_27_method_13_code 36 = .ok (.iinc 3 1, 3) := by decide +kernel
theorem dj_ssz_39 : decode prog_27_method_13_code 39 = .ok (.goto (-23), 3) := by decide +kernel
theorem dj_ssz_42 : decode prog_27_method_13_code 42 = .ok (.bipush 10, 2) := by decide +kernel
theorem dj_ssz_44 : decode prog_27_method_13_code 44 = .ok (.iload_n 1, 1) := by decide +kernel
theorem dj_ssz_45 : decode prog_27_method_13_code 45 = .ok (.iadd, 1) := by decide +kernel
theorem dj_ssz_46 : decode prog_27_method_13_code 46 = .ok (.ireturn, 1) := by decide +kernel
def yj_gch : MethodName := ⟨"java/lang/Integer", "getChars", "(II[B)I"⟩
theorem dj_gch_0 : decode prog_27_method_12_code 0 = .ok (.iload_n 1, 1) := by decide +kernel
theorem dj_gch_1 : decode prog_27_method_12_code 1 = .ok (.istore 5, 2) := by decide +kernel
theorem dj_gch_3 : decode prog_27_method_12_code 3 = .ok (.iload_n 0, 1) := by decide +kernel
theorem dj_gch_4 : decode prog_27_method_12_code 4 = .ok (.ifCond .ge 7, 3) := by decide +kernel
theorem dj_gch_7 : decode prog_27_method_12_code 7 = .ok (.iconst 1, 1) := by decide +kernel
theorem dj_gch_8 : decode prog_27_method_12_code 8 = .ok (.goto 4, 3) := by decide +kernel
theorem dj_gch_11 : decode prog_27_method_12_code 11 = .ok (.iconst 0, 1) := by decide +kernel
theorem dj_gch_12 : decode prog_27_method_12_code 12 = .ok (.istore 6, 2) := by decide +kernel
theorem dj_gch_14 : decode prog_27_method_12_code 14 = .ok (.iload 6, 2) := by decide +kernel
theorem dj_gch_16 : decode prog_27_method_12_code 16 = .ok (.ifCond .ne 6, 3) := by decide +kernel
theorem dj_gch_19 : decode prog_27_method_12_code 19 = .ok (.iload_n 0, 1) := by decide +kernel
theorem dj_gch_20 : decode prog_27_method_12_code 20 = .ok (.ineg, 1) := by decide +kernel
theorem dj_gch_21 : decode prog_27_method_12_code 21 = .ok (.istore_n 0, 1) := by decide +kernel
theorem dj_gch_22 : decode prog_27_method_12_code 22 = .ok (.iload_n 0, 1) := by decide +kernel
theorem dj_gch_23 : decode prog_27_method_12_code 23 = .ok (.bipush (-100), 2) := by decide +kernel
theorem dj_gch_25 : decode prog_27_method_12_code 25 = .ok (.if_icmp .gt 47, 3) := by decide +kernel
theorem dj_gch_28 : decode prog_27_method_12_code 28 = .ok (.iload_n 0, 1) := by decide +kernel
theorem dj_gch_29 : decode prog_27_method_12_code 29 = .ok (.bipush 100, 2) := by decide +kernel
theorem dj_gch_31 : decode prog_27_method_12_code 31 = .ok (.idiv, 1) := by decide +kernel
theorem dj_gch_32 : decode prog_27_method_12_code 32 = .ok (.istore_n 3, 1) := by decide +kernel
theorem dj_gch_33 : decode prog_27_method_12_code 33 = .ok (.iload_n 3, 1) := by decide +kernel
theorem dj_gch_34 : decode prog_27_method_12_code 34 = .ok (.bipush 100, 2) := by decide +kernel
theorem dj_gch_36 : decode prog_27_method_12_code 36 = .ok (.imul, 1) := by decide +kernel
theorem dj_gch_37 : decode prog_27_method_12_code 37 = .ok (.iload_n 0, 1) := by decide +kernel
theorem dj_gch_38 : decode prog_27_method_12_code 38 = .ok (.isub, 1) := by decide +kernel
theorem dj_gch_39 : decode prog_27_method_12_code 39 = .ok (.istore 4, 2) := by decide +kernel
theorem dj_gch_41 : decode prog_27_method_12_code 41 = .ok (.iload_n 3, 1) := by decide +kernel
theorem dj_gch_42 : decode prog_27_method_12_code 42 = .ok (.istore_n 0, 1) := by decide +kernel
theorem dj_gch_43 : decode prog_27_method_12_code 43 = .ok (.aload_n 2, 1) := by decide +kernel
theorem dj_gch_44 : decode prog_27_method_12_code 44 = .ok (.iinc 5 (-1), 3) := by decide +kernel
theorem dj_gch_47 : decode prog_27_method_12_code 47 = .ok (.iload 5, 2) := by decide +kernel
theorem dj_gch_49 : decode prog_27_method_12_code 49 = .ok (.getstatic 83, 3) := by decide +kernel
theorem dj_gch_52 : decode prog_27_method_12_code 52 = .ok (.iload 4, 2) := by decide +kernel
theorem dj_gch_54 : decode prog_27_method_12_code 54 = .ok (.baload, 1) := by decide +kernel
theorem dj_gch_55 : decode prog_27_method_12_code 55 = .ok (.bastore, 1) := by decide +kernel
theorem dj_gch_56 : decode prog_27_method_12_code 56 = .ok (.aload_n 2, 1) := by decide +kernel
theorem dj_gch_57 : decode prog_27_method_12_code 57 = .ok (.iinc 5 (-1), 3) := by decide +kernel
theorem dj_gch_60 : decode prog_27_method_12_code 60 = .ok (.iload 5, 2) := by decide +kernel
theorem dj_gch_62 : decode prog_27_method_12_code 62 = .ok (.getstatic 87, 3) := by decide +kernel
theorem dj_gch_65 : decode prog_27_method_12_code 65 = .ok (.iload 4, 2) := by decide +kernel
theorem dj_gch_67 : decode prog_27_method_12_code 67 = .ok (.baload, 1) := by decide +kernel
theorem dj_gch_68 : decode prog_27_method_12_code 68 = .ok (.bastore, 1) := by decide +kernel
theorem dj_gch_69 : decode prog_27_method_12_code 69 = .ok (.goto (-47), 3) := by decide +kernel
theorem dj_gch_72 : decode prog_27_method_12_code 72 = .ok (.aload_n 2, 1) := by decide +kernel
theorem dj_gch_73 : decode prog_27_method_12_code 73 = .ok (.iinc 5 (-1), 3) := by decide +kernel
theorem dj_gch_76 : decode prog_27_method_12_code 76 = .ok (.iload 5, 2) := by decide +kernel
theorem dj_gch_78 : decode prog_27_method_12_code 78 = .ok (.getstatic 83, 3) := by decide +kernel
theorem dj_gch_81 : decode prog_27_method_12_code 81 = .ok (.iload_n 0, 1) := by decide +kernel
theorem dj_gch_82 : decode prog_27_method_12_code 82 = .ok (.ineg, 1) := by decide +kernel
theorem dj_gch_83 : decode prog_27_method_12_code 83 = .ok (.baload, 1) := by decide +kernel
theorem dj_gch_84 : decode prog_27_method_12_code 84 = .ok (.bastore, 1) := by decide +kernel
theorem dj_gch_85 : decode prog_27_method_12_code 85 = .ok (.iload_n 0, 1) := by decide +kernel
theorem dj_gch_86 : decode prog_27_method_12_code 86 = .ok (.bipush (-9), 2) := by decide +kernel
theorem dj_gch_88 : decode prog_27_method_12_code 88 = .ok (.if_icmp .ge 16, 3) := by decide +kernel
theorem dj_gch_91 : decode prog_27_method_12_code 91 = .ok (.aload_n 2, 1) := by decide +kernel
theorem dj_gch_92 : decode prog_27_method_12_code 92 = .ok (.iinc 5 (-1), 3) := by decide +kernel
theorem dj_gch_95 : decode prog_27_method_12_code 95 = .ok (.iload 5, 2) := by decide +kernel
theorem dj_gch_97 : decode prog_27_method_12_code 97 = .ok (.getstatic 87, 3) := by decide +kernel
theorem dj_gch_100 : decode prog_27_method_12_code 100 = .ok (.iload_n 0, 1) := by decide +kernel
theorem dj_gch_101 : decode prog_27_method_12_code 101 = .ok (.ineg, 1) := by decide +kernel
theorem dj_gch_102 : decode prog_27_method_12_code 102 = .ok (.baload, 1) := by decide +kernel
theorem dj_gch_103 : decode prog_27_method_12_code 103 = .ok (.bastore, 1) := by decide +kernel
theorem dj_gch_104 : decode prog_27_method_12_code 104 = .ok (.iload 6, 2) := by decide +kernel
theorem dj_gch_106 : decode prog_27_method_12_code 106 = .ok (.ifCond .eq 12, 3) := by decide +kernel
theorem dj_gch_109 : decode prog_27_method_12_code 109 = .ok (.aload_n 2, 1) := by decide +kernel
theorem dj_gch_110 : decode prog_27_method_12_code 110 = .ok (.iinc 5 (-1), 3) := by decide +kernel
theorem dj_gch_113 : decode prog_27_method_12_code 113 = .ok (.iload 5, 2) := by decide +kernel
theorem dj_gch_115 : decode prog_27_method_12_code 115 = .ok (.bipush 45, 2) := by decide +kernel
theorem dj_gch_117 : decode prog_27_method_12_code 117 = .ok (.bastore, 1) := by decide +kernel
theorem dj_gch_118 : decode prog_27_method_12_code 118 = .ok (.iload 5, 2) := by decide +kernel
theorem dj_gch_120 : decode prog_27_method_12_code 120 = .ok (.ireturn, 1) := by decide +kernel
def yj_api : MethodName := ⟨"java/lang/AbstractStringBuilder", "append", "(I)Ljava/lang/AbstractStringBuilder;"⟩
theorem dj_api_0 : decode prog_15_method_32_code 0 = .ok (.aload_n 0, 1) := by decide +kernel
theorem dj_api_1 : decode prog_15_method_32_code 1 = .ok (.getfield 79, 3) := by decide +kernel
theorem dj_api_4 : decode prog_15_method_32_code 4 = .ok (.istore_n 2, 1) := by decide +kernel
theorem dj_api_5 : decode prog_15_method_32_code 5 = .ok (.iload_n 2, 1) := by decide +kernel
theorem dj_api_6 : decode prog_15_method_32_code 6 = .ok (.iload_n 1, 1) := by decide +kernel
theorem dj_api_7 : decode prog_15_method_32_code 7 = .ok (.invokestatic 245, 3) := by decide +kernel
theorem dj_api_10 : decode prog_15_method_32_code 10 = .ok (.iadd, 1) := by decide +kernel
theorem dj_api_11 : decode prog_15_method_32_code 11 = .ok (.istore_n 3, 1) := by decide +kernel
theorem dj_api_12 : decode prog_15_method_32_code 12 = .ok (.aload_n 0, 1) := by decide +kernel
theorem dj_api_13 : decode prog_15_method_32_code 13 = .ok (.iload_n 3, 1) := by decide +kernel
theorem dj_api_14 : decode prog_15_method_32_code 14 = .ok (.invokevirtual 100, 3) := by decide +kernel
theorem dj_api_17 : decode prog_15_method_32_code 17 = .ok (.aload_n 0, 1) := by decide +kernel
theorem dj_api_18 : decode prog_15_method_32_code 18 = .ok (.invokevirtual 83, 3) := by decide +kernel
theorem dj_api_21 : decode prog_15_method_32_code 21 = .ok (.ifCond .eq 16, 3) := by decide +kernel
theorem dj_api_24 : decode prog_15_method_32_code 24 = .ok (.iload_n 1, 1) := by decide +kernel
theorem dj_api_25 : decode prog_15_method_32_code 25 = .ok (.iload_n 3, 1) := by decide +kernel
theorem dj_api_26 : decode prog_15_method_32_code 26 = .ok (.aload_n 0, 1) := by decide +kernel
theorem dj_api_27 : decode prog_15_method_32_code 27 = .ok (.getfield 15, 3) := by decide +kernel
theorem dj_api_30 : decode prog_15_method_32_code 30 = .ok (.invokestatic 248, 3) := by decide +kernel
theorem dj_api_33 : decode prog_15_method_32_code 33 = .ok (.pop, 1) := by decide +kernel
theorem dj_api_34 : decode prog_15_method_32_code 34 = .ok (.goto 14, 3) := by decide +kernel
theorem dj_api_37 : decode prog_15_method_32_code 37 = .ok (.iload_n 1, 1) := by decide +kernel
theorem dj_api_38 : decode prog_15_method_32_code 38 = .ok (.iload_n 2, 1) := by decide +kernel
theorem dj_api_39 : decode prog_15_method_32_code 39 = .ok (.iload_n 3, 1) := by decide +kernel
theorem dj_api_40 : decode prog_15_method_32_code 40 = .ok (.aload_n 0, 1) := by decide +kernel
theorem dj_api_41 : decode prog_15_method_32_code 41 = .ok (.getfield 15, 3) := by decide +kernel
theorem dj_api_44 : decode prog_15_method_32_code 44 = .ok (.invokestatic 251, 3) := by decide +kernel
theorem dj_api_47 : decode prog_15_method_32_code 47 = .ok (.pop, 1) := by decide +kernel
theorem dj_api_48 : decode prog_15_method_32_code 48 = .ok (.aload_n 0, 1) := by decide +kernel
theorem dj_api_49 : decode prog_15_method_32_code 49 = .ok (.iload_n 3, 1) := by decide +kernel
theorem dj_api_50 : decode prog_15_method_32_code 50 = .ok (.putfield 79, 3) := by decide +kernel
theorem dj_api_53 : decode prog_15_method_32_code 53 = .ok (.aload_n 0, 1) := by decide +kernel
theorem dj_api_54 : decode prog_15_method_32_code 54 = .ok (.areturn, 1) := by decide +kernel
def yj_spi : MethodName := ⟨"java/lang/StringBuilder", "append", "(I)Ljava/lang/StringBuilder;"⟩
theorem dj_spi_0 : decode prog_32_method_15_code 0 = .ok (.aload_n 0, 1) := by decide +kernel
theorem dj_spi_1 : decode prog_32_method_15_code 1 = .ok (.iload_n 1, 1) := by decide +kernel
theorem dj_spi_2 : decode prog_32_method_15_code 2 = .ok (.invokespecial 53, 3) := by decide +kernel
theorem dj_spi_5 : decode prog_32_method_15_code 5 = .ok (.pop, 1) := by decide +kernel
theorem dj_spi_6 : decode prog_32_method_15_code 6 = .ok (.aload_n 0, 1) := by decide +kernel
theorem dj_spi_7 : decode prog_32_method_15_code 7 = .ok (.areturn, 1) := by decide +kernel
def yj_chl : MethodName := ⟨"java/util/Arrays", "checkLength", "(II)V"⟩
theorem dj_chl_0 : decode prog_39_method_131_code 0 = .ok (.iload_n 1, 1) := by decide +kernel
theorem dj_chl_1 : decode prog_39_method_131_code 1 = .ok (.iload_n 0, 1) := by decide +kernel
theorem dj_chl_2 : decode prog_39_method_131_code 2 = .ok (.if_icmp .ge 35, 3) := by decide +kernel
theorem dj_chl_5 : decode prog_39_method_131_code 5 = .ok (.new 43, 3) := by decide +kernel
theorem dj_chl_8 : decode prog_39_method_131_code 8 = .ok (.dup, 1) := by decide +kernel
theorem dj_chl_9 : decode prog_39_method_131_code 9 = .ok (.new 45, 3) := by decide +kernel
theorem dj_chl_12 : decode prog_39_method_131_code 12 = .ok (.dup, 1) := by decide +kernel
theorem dj_chl_13 : decode prog_39_method_131_code 13 = .ok (.invokespecial 47, 3) := by decide +kernel
theorem dj_chl_16 : decode prog_39_method_131_code 16 = .ok (.iload_n 0, 1) := by decide +kernel
theorem dj_chl_17 : decode prog_39_method_131_code 17 = .ok (.invokevirtual 54, 3) := by decide +kernel
theorem dj_chl_20 : decode prog_39_method_131_code 20 = .ok (.ldc_w 337, 3) := by decide +kernel
theorem dj_chl_23 : decode prog_39_method_131_code 23 = .ok (.invokevirtual 50, 3) := by decide +kernel
theorem dj_chl_26 : decode prog_39_method_131_code 26 = .ok (.iload_n 1, 1) := by decide +kernel
theorem dj_chl_27 : decode prog_39_method_131_code 27 = .ok (.invokevirtual 54, 3) := by decide +kernel
theorem dj_chl_30 : decode prog_39_method_131_code 30 = .ok (.invokevirtual 61, 3) := by decide +kernel
theorem dj_chl_33 : decode prog_39_method_131_code 33 = .ok (.invokespecial 65, 3) := by decide +kernel
theorem dj_chl_36 : decode prog_39_method_131_code 36 = .ok (.athrow, 1) := by decide +kernel
theorem dj_chl_37 : decode prog_39_method_131_code 37 = .ok (.return_, 1) := by decide +kernel
def yj_crb : MethodName := ⟨"java/util/Arrays", "copyOfRangeByte", "([BII)[B"⟩
theorem dj_crb_0 : decode prog_39_method_133_code 0 = .ok (.iload_n 1, 1) := by decide +kernel
theorem dj_crb_1 : decode prog_39_method_133_code 1 = .ok (.iload_n 2, 1) := by decide +kernel
theorem dj_crb_2 : decode prog_39_method_133_code 2 = .ok (.invokestatic 343, 3) := by decide +kernel
theorem dj_crb_5 : decode prog_39_method_133_code 5 = .ok (.iload_n 2, 1) := by decide +kernel
theorem dj_crb_6 : decode prog_39_method_133_code 6 = .ok (.iload_n 1, 1) := by decide +kernel
theorem dj_crb_7 : decode prog_39_method_133_code 7 = .ok (.isub, 1) := by decide +kernel
theorem dj_crb_8 : decode prog_39_method_133_code 8 = .ok (.istore_n 3, 1) := by decide +kernel
theorem dj_crb_9 : decode prog_39_method_133_code 9 = .ok (.iload_n 3, 1) := by decide +kernel
theorem dj_crb_10 : decode prog_39_method_133_code 10 = .ok (.newarray .byte, 2) := by decide +kernel
theorem dj_crb_12 : decode prog_39_method_133_code 12 = .ok (.astore 4, 2) := by decide +kernel
theorem dj_crb_14 : decode prog_39_method_133_code 14 = .ok (.aload_n 0, 1) := by decide +kernel
theorem dj_crb_15 : decode prog_39_method_133_code 15 = .ok (.iload_n 1, 1) := by decide +kernel
theorem dj_crb_16 : decode prog_39_method_133_code 16 = .ok (.aload 4, 2) := by decide +kernel
theorem dj_crb_18 : decode prog_39_method_133_code 18 = .ok (.iconst 0, 1) := by decide +kernel
theorem dj_crb_19 : decode prog_39_method_133_code 19 = .ok (.aload_n 0, 1) := by decide +kernel
theorem dj_crb_20 : decode prog_39_method_133_code 20 = .ok (.arraylength, 1) := by decide +kernel
theorem dj_crb_21 : decode prog_39_method_133_code 21 = .ok (.iload_n 1, 1) := by decide +kernel
theorem dj_crb_22 : decode prog_39_method_133_code 22 = .ok (.isub, 1) := by decide +kernel
theorem dj_crb_23 : decode prog_39_method_133_code 23 = .ok (.iload_n 3, 1) := by decide +kernel
theorem dj_crb_24 : decode prog_39_method_133_code 24 = .ok (.invokestatic 304, 3) := by decide +kernel
theorem dj_crb_27 : decode prog_39_method_133_code 27 = .ok (.invokestatic 150, 3) := by decide +kernel
theorem dj_crb_30 : decode prog_39_method_133_code 30 = .ok (.aload 4, 2) := by decide +kernel
theorem dj_crb_32 : decode prog_39_method_133_code 32 = .ok (.areturn, 1) := by decide +kernel
def yj_cor : MethodName := ⟨"java/util/Arrays", "copyOfRange", "([BII)[B"⟩
theorem dj_cor_0 : decode prog_39_method_132_code 0 = .ok (.iload_n 1, 1) := by decide +kernel
theorem dj_cor_1 : decode prog_39_method_132_code 1 = .ok (.ifCond .ne 9, 3) := by decide +kernel
theorem dj_cor_4 : decode prog_39_method_132_code 4 = .ok (.iload_n 2, 1) := by decide +kernel
theorem dj_cor_5 : decode prog_39_method_132_code 5 = .ok (.aload_n 0, 1) := by decide +kernel
theorem dj_cor_6 : decode prog_39_method_132_code 6 = .ok (.arraylength, 1) := by decide +kernel
theorem dj_cor_7 : decode prog_39_method_132_code 7 = .ok (.if_icmp .eq 10, 3) := by decide +kernel
theorem dj_cor_10 : decode prog_39_method_132_code 10 = .ok (.aload_n 0, 1) := by decide +kernel
theorem dj_cor_11 : decode prog_39_method_132_code 11 = .ok (.iload_n 1, 1) := by decide +kernel
theorem dj_cor_12 : decode prog_39_method_132_code 12 = .ok (.iload_n 2, 1) := by decide +kernel
theorem dj_cor_13 : decode prog_39_method_132_code 13 = .ok (.invokestatic 339, 3) := by decide +kernel
theorem dj_cor_16 : decode prog_39_method_132_code 16 = .ok (.areturn, 1) := by decide +kernel
theorem dj_cor_17 : decode prog_39_method_132_code 17 = .ok (.aload_n 0, 1) := by decide +kernel
theorem dj_cor_18 : decode prog_39_method_132_code 18 = .ok (.invokevirtual 310, 3) := by decide +kernel
theorem dj_cor_21 : decode prog_39_method_132_code 21 = .ok (.checkcast 311, 3) := by decide +kernel
theorem dj_cor_24 : decode prog_39_method_132_code 24 = .ok (.areturn, 1) := by decide +kernel
def yj_sva : MethodName := ⟨"java/lang/String", "<init>", "(Ljava/lang/AbstractStringBuilder;Ljava/lang/Void;)V"⟩
theorem dj_sva_0 : decode prog_31_method_150_code 0 = .ok (.aload_n 0, 1) := by decide +kernel
theorem dj_sva_1 : decode prog_31_method_150_code 1 = .ok (.invokespecial 1, 3) := by decide +kernel
theorem dj_sva_4 : decode prog_31_method_150_code 4 = .ok (.aload_n 1, 1) := by decide +kernel
theorem dj_sva_5 : decode prog_31_method_150_code 5 = .ok (.invokevirtual 552, 3) := by decide +kernel
theorem dj_sva_8 : decode prog_31_method_150_code 8 = .ok (.astore_n 3, 1) := by decide +kernel
theorem dj_sva_9 : decode prog_31_method_150_code 9 = .ok (.aload_n 1, 1) := by decide +kernel
theorem dj_sva_10 : decode prog_31_method_150_code 10 = .ok (.invokevirtual 549, 3) := by decide +kernel
theorem dj_sva_13 : decode prog_31_method_150_code 13 = .ok (.istore 4, 2) := by decide +kernel
theorem dj_sva_15 : decode prog_31_method_150_code 15 = .ok (.aload_n 1, 1) := by decide +kernel
theorem dj_sva_16 : decode prog_31_method_150_code 16 = .ok (.invokevirtual 1047, 3) := by decide +kernel
theorem dj_sva_19 : decode prog_31_method_150_code 19 = .ok (.ifCond .eq 22, 3) := by decide +kernel
theorem dj_sva_22 : decode prog_31_method_150_code 22 = .ok (.aload_n 0, 1) := by decide +kernel
theorem dj_sva_23 : decode prog_31_method_150_code 23 = .ok (.iconst 0, 1) := by decide +kernel
theorem dj_sva_24 : decode prog_31_method_150_code 24 = .ok (.putfield 15, 3) := by decide +kernel
theorem dj_sva_27 : decode prog_31_method_150_code 27 = .ok (.aload_n 0, 1) := by decide +kernel
theorem dj_sva_28 : decode prog_31_method_150_code 28 = .ok (.aload_n 3, 1) := by decide +kernel
theorem dj_sva_29 : decode prog_31_method_150_code 29 = .ok (.iconst 0, 1) := by decide +kernel
theorem dj_sva_30 : decode prog_31_method_150_code 30 = .ok (.iload 4, 2) := by decide +kernel
theorem dj_sva_32 : decode prog_31_method_150_code 32 = .ok (.invokestatic 54, 3) := by decide +kernel
theorem dj_sva_35 : decode prog_31_method_150_code 35 = .ok (.putfield 9, 3) := by decide +kernel
theorem dj_sva_38 : decode prog_31_method_150_code 38 = .ok (.goto 59, 3) := by decide +kernel
theorem dj_sva_41 : decode prog_31_method_150_code 41 = .ok (.getstatic 38, 3) := by decide +kernel
theorem dj_sva_44 : decode prog_31_method_150_code 44 = .ok (.ifCond .eq 35, 3) := by decide +kernel
theorem dj_sva_47 : decode prog_31_method_150_code 47 = .ok (.aload_n 1, 1) := by decide +kernel
theorem dj_sva_48 : decode prog_31_method_150_code 48 = .ok (.getfield 1048, 3) := by decide +kernel
theorem dj_sva_51 : decode prog_31_method_150_code 51 = .ok (.ifCond .eq 28, 3) := by decide +kernel
theorem dj_sva_54 : decode prog_31_method_150_code 54 = .ok (.aload_n 0, 1) := by decide +kernel
theorem dj_sva_55 : decode prog_31_method_150_code 55 = .ok (.aload_n 3, 1) := by decide +kernel
theorem dj_sva_56 : decode prog_31_method_150_code 56 = .ok (.iconst 0, 1) := by decide +kernel
theorem dj_sva_57 : decode prog_31_method_150_code 57 = .ok (.iload 4, 2) := by decide +kernel
theorem dj_sva_59 : decode prog_31_method_150_code 59 = .ok (.invokestatic 1051, 3) := by decide +kernel
theorem dj_sva_62 : decode prog_31_method_150_code 62 = .ok (.putfield 9, 3) := by decide +kernel
theorem dj_sva_65 : decode prog_31_method_150_code 65 = .ok (.aload_n 0, 1) := by decide +kernel
theorem dj_sva_66 : decode prog_31_method_150_code 66 = .ok (.aload_n 0, 1) := by decide +kernel
theorem dj_sva_67 : decode prog_31_method_150_code 67 = .ok (.getfield 9, 3) := by decide +kernel
theorem dj_sva_70 : decode prog_31_method_150_code 70 = .ok (.iload 4, 2) := by decide +kernel
theorem dj_sva_72 : decode prog_31_method_150_code 72 = .ok (.invokestatic 47, 3) := by decide +kernel
theorem dj_sva_75 : decode prog_31_method_150_code 75 = .ok (.putfield 15, 3) := by decide +kernel
theorem dj_sva_78 : decode prog_31_method_150_code 78 = .ok (.return_, 1) := by decide +kernel
theorem dj_sva_79 : decode prog_31_method_150_code 79 = .ok (.aload_n 0, 1) := by decide +kernel
theorem dj_sva_80 : decode prog_31_method_150_code 80 = .ok (.iconst 1, 1) := by decide +kernel
theorem dj_sva_81 : decode prog_31_method_150_code 81 = .ok (.putfield 15, 3) := by decide +kernel
theorem dj_sva_84 : decode prog_31_method_150_code 84 = .ok (.aload_n 0, 1) := by decide +kernel
theorem dj_sva_85 : decode prog_31_method_150_code 85 = .ok (.aload_n 3, 1) := by decide +kernel
theorem dj_sva_86 : decode prog_31_method_150_code 86 = .ok (.iconst 0, 1) := by decide +kernel
theorem dj_sva_87 : decode prog_31_method_150_code 87 = .ok (.iload 4, 2) := by decide +kernel
theorem dj_sva_89 : decode prog_31_method_150_code 89 = .ok (.iconst 1, 1) := by decide +kernel
theorem dj_sva_90 : decode prog_31_method_150_code 90 = .ok (.ishl, 1) := by decide +kernel
theorem dj_sva_91 : decode prog_31_method_150_code 91 = .ok (.invokestatic 54, 3) := by decide +kernel
theorem dj_sva_94 : decode prog_31_method_150_code 94 = .ok (.putfield 9, 3) := by decide +kernel
theorem dj_sva_97 : decode prog_31_method_150_code 97 = .ok (.return_, 1) := by decide +kernel
def yj_sin : MethodName := ⟨"java/lang/String", "<init>", "(Ljava/lang/StringBuilder;)V"⟩
theorem dj_sin_0 : decode prog_31_method_53_code 0 = .ok (.aload_n 0, 1) := by decide +kernel
theorem dj_sin_1 : decode prog_31_method_53_code 1 = .ok (.aload_n 1, 1) := by decide +kernel
theorem dj_sin_2 : decode prog_31_method_53_code 2 = .ok (.aconst_null, 1) := by decide +kernel
theorem dj_sin_3 : decode prog_31_method_53_code 3 = .ok (.invokespecial 489, 3) := by decide +kernel
theorem dj_sin_6 : decode prog_31_method_53_code 6 = .ok (.return_, 1) := by decide +kernel
def yj_tos : MethodName := ⟨"java/lang/StringBuilder", "toString", "()Ljava/lang/String;"⟩
theorem dj_tos_0 : decode prog_32_method_42_code 0 = .ok (.new 18, 3) := by decide +kernel
theorem dj_tos_3 : decode prog_32_method_42_code 3 = .ok (.dup, 1) := by decide +kernel
theorem dj_tos_4 : decode prog_32_method_42_code 4 = .ok (.aload_n 0, 1) := by decide +kernel
theorem dj_tos_5 : decode prog_32_method_42_code 5 = .ok (.invokespecial 137, 3) := by decide +kernel
theorem dj_tos_8 : decode prog_32_method_42_code 8 = .ok (.areturn, 1) := by decide +kernel
/-- the tables' words, and what is selected on a builder of the private methods above it -/
def tSel : List Cond := [Cond.selects "java/lang/StringBuilder" yj_ens yj_ens, Cond.selects "java/lang/StringBuilder" yj_ncp yj_ncp, Cond.selects "java/lang/StringBuilder" yj_put yj_put, Cond.selects "java/lang/StringBuilder" yj_inf yj_inf]
noncomputable def tTS : List Cond := tSel ++ mv_TS
theorem tTS_of {w : Cond} (h : w ∈ mv_TS) : w ∈ tTS := List.mem_append_right _ h
theorem tTS_good {w : Cond} (h : w ∈ tTS) : goodWord w = true := by
  rcases List.mem_append.mp h with q | q
  · exact List.all_eq_true.mp (show tSel.all goodWord = true by decide +kernel) w q
  · exact (List.mem_filter.mp q).2
theorem tgj {W0 : Cond} {l : List Cond} (h : ∀ w ∈ l, w ∈ tTS) : GoodIn (W0 :: tTS) (l ++ tTS) := by
  intro w hw
  have : w ∈ tTS := by
    rcases List.mem_append.mp hw with q | q
    · exact h w q
    · exact q
  exact ⟨List.mem_cons_of_mem _ this, good_of_word (tTS_good this)⟩
theorem tgjm {W0 : Cond} {l : List Cond} (h : ∀ w ∈ l, w ∈ tTS) : GoodIn (W0 :: tTS) (l ++ mv_TS) := by
  intro w hw
  have : w ∈ tTS := by
    rcases List.mem_append.mp hw with q | q
    · exact h w q
    · exact tTS_of q
  exact ⟨List.mem_cons_of_mem _ this, good_of_word (tTS_good this)⟩
theorem wsel_ens : Cond.selects "java/lang/StringBuilder" yj_ens yj_ens ∈ tTS := List.mem_append_left _ (List.mem_of_getElem? (i := 0) rfl)
theorem wsel_ncp : Cond.selects "java/lang/StringBuilder" yj_ncp yj_ncp ∈ tTS := List.mem_append_left _ (List.mem_of_getElem? (i := 1) rfl)
theorem wsel_put : Cond.selects "java/lang/StringBuilder" yj_put yj_put ∈ tTS := List.mem_append_left _ (List.mem_of_getElem? (i := 2) rfl)
theorem wsel_inf : Cond.selects "java/lang/StringBuilder" yj_inf yj_inf ∈ tTS := List.mem_append_left _ (List.mem_of_getElem? (i := 3) rfl)
theorem wt_len2 : Cond.code yj_len prog_31_method_54_code 1 (some .int) ∈ tTS := tTS_of wj_len
theorem wt_cod2 : Cond.code yj_cod prog_31_method_152_code 1 (some .byte) ∈ tTS := tTS_of wj_cod
theorem wj_abi : Cond.code yj_abi prog_15_method_2_code 2 (Option.none : Option Jvm.ClassFile.FieldType) ∈ tTS := tTS_of (mv_TS_of (k := 1048) (by decide +kernel) rfl)
noncomputable def wl_abi : List Cond := Cond.code yj_abi prog_15_method_2_code 2 (Option.none : Option Jvm.ClassFile.FieldType) :: tTS
theorem wj_bin : Cond.code yj_bin prog_32_method_1_code 1 (Option.none : Option Jvm.ClassFile.FieldType) ∈ tTS := tTS_of (mv_TS_of (k := 1045) (by decide +kernel) rfl)
noncomputable def wl_bin : List Cond := Cond.code yj_bin prog_32_method_1_code 1 (Option.none : Option Jvm.ClassFile.FieldType) :: tTS
theorem wj_isl : Cond.code yj_isl prog_15_method_68_code 1 (Option.some Jvm.ClassFile.FieldType.boolean) ∈ tTS := tTS_of (mv_TS_of (k := 1117) (by decide +kernel) rfl)
noncomputable def wl_isl : List Cond := Cond.code yj_isl prog_15_method_68_code 1 (Option.some Jvm.ClassFile.FieldType.boolean) :: tTS
theorem wj_gvl : Cond.code yj_gvl prog_15_method_64_code 1 (Option.some (Jvm.ClassFile.FieldType.array Jvm.ClassFile.FieldType.byte)) ∈ tTS := tTS_of (mv_TS_of (k := 1209) (by decide +kernel) rfl)
noncomputable def wl_gvl : List Cond := Cond.code yj_gvl prog_15_method_64_code 1 (Option.some (Jvm.ClassFile.FieldType.array Jvm.ClassFile.FieldType.byte)) :: tTS
theorem wj_aln : Cond.code yj_aln prog_15_method_6_code 1 (Option.some Jvm.ClassFile.FieldType.int) ∈ tTS := tTS_of (mv_TS_of (k := 1217) (by decide +kernel) rfl)
noncomputable def wl_aln : List Cond := Cond.code yj_aln prog_15_method_6_code 1 (Option.some Jvm.ClassFile.FieldType.int) :: tTS
theorem wj_bln : Cond.code yj_bln prog_32_method_93_code 1 (Option.some Jvm.ClassFile.FieldType.int) ∈ tTS := tTS_of (mv_TS_of (k := 1215) (by decide +kernel) rfl)
noncomputable def wl_bln : List Cond := Cond.code yj_bln prog_32_method_93_code 1 (Option.some Jvm.ClassFile.FieldType.int) :: tTS
theorem wj_ncp : Cond.code yj_ncp prog_15_method_10_code 6 (Option.some Jvm.ClassFile.FieldType.int) ∈ tTS := tTS_of (mv_TS_of (k := 1089) (by decide +kernel) rfl)
noncomputable def wl_ncp : List Cond := Cond.code yj_ncp prog_15_method_10_code 6 (Option.some Jvm.ClassFile.FieldType.int) :: tTS
theorem wj_nln : Cond.code yj_nln prog_41_method_27_code 4 (Option.some Jvm.ClassFile.FieldType.int) ∈ tTS := tTS_of (mv_TS_of (k := 1092) (by decide +kernel) rfl)
noncomputable def wl_nln : List Cond := Cond.code yj_nln prog_41_method_27_code 4 (Option.some Jvm.ClassFile.FieldType.int) :: tTS
theorem wj_cpo : Cond.code yj_cpo prog_39_method_121_code 3 (Option.some (Jvm.ClassFile.FieldType.array Jvm.ClassFile.FieldType.byte)) ∈ tTS := tTS_of (mv_TS_of (k := 1101) (by decide +kernel) rfl)
noncomputable def wl_cpo : List Cond := Cond.code yj_cpo prog_39_method_121_code 3 (Option.some (Jvm.ClassFile.FieldType.array Jvm.ClassFile.FieldType.byte)) :: tTS
theorem wj_ens : Cond.code yj_ens prog_15_method_9_code 3 (Option.none : Option Jvm.ClassFile.FieldType) ∈ tTS := tTS_of (mv_TS_of (k := 1085) (by decide +kernel) rfl)
noncomputable def wl_ens : List Cond := Cond.code yj_ens prog_15_method_9_code 3 (Option.none : Option Jvm.ClassFile.FieldType) :: tTS
theorem wj_inf : Cond.code yj_inf prog_15_method_71_code 2 (Option.none : Option Jvm.ClassFile.FieldType) ∈ tTS := tTS_of (mv_TS_of (k := 1141) (by decide +kernel) rfl)
noncomputable def wl_inf : List Cond := Cond.code yj_inf prog_15_method_71_code 2 (Option.none : Option Jvm.ClassFile.FieldType) :: tTS
theorem wj_gby : Cond.code yj_gby prog_31_method_147_code 4 (Option.none : Option Jvm.ClassFile.FieldType) ∈ tTS := tTS_of (mv_TS_of (k := 1165) (by decide +kernel) rfl)
noncomputable def wl_gby : List Cond := Cond.code yj_gby prog_31_method_147_code 4 (Option.none : Option Jvm.ClassFile.FieldType) :: tTS
theorem wj_put : Cond.code yj_put prog_15_method_73_code 3 (Option.none : Option Jvm.ClassFile.FieldType) ∈ tTS := tTS_of (mv_TS_of (k := 1137) (by decide +kernel) rfl)
noncomputable def wl_put : List Cond := Cond.code yj_put prog_15_method_73_code 3 (Option.none : Option Jvm.ClassFile.FieldType) :: tTS
theorem wj_aps : Cond.code yj_aps prog_15_method_22_code 3 (Option.some (Jvm.ClassFile.FieldType.object "java/lang/AbstractStringBuilder")) ∈ tTS := tTS_of (mv_TS_of (k := 1077) (by decide +kernel) rfl)
noncomputable def wl_aps : List Cond := Cond.code yj_aps prog_15_method_22_code 3 (Option.some (Jvm.ClassFile.FieldType.object "java/lang/AbstractStringBuilder")) :: tTS
theorem wj_sps : Cond.code yj_sps prog_32_method_7_code 2 (Option.some (Jvm.ClassFile.FieldType.object "java/lang/StringBuilder")) ∈ tTS := tTS_of (mv_TS_of (k := 1074) (by decide +kernel) rfl)
noncomputable def wl_sps : List Cond := Cond.code yj_sps prog_32_method_7_code 2 (Option.some (Jvm.ClassFile.FieldType.object "java/lang/StringBuilder")) :: tTS
theorem wj_ssz : Cond.code yj_ssz prog_27_method_13_code 4 (Option.some Jvm.ClassFile.FieldType.int) ∈ tTS := tTS_of (mv_TS_of (k := 1177) (by decide +kernel) rfl)
noncomputable def wl_ssz : List Cond := Cond.code yj_ssz prog_27_method_13_code 4 (Option.some Jvm.ClassFile.FieldType.int) :: tTS
theorem wj_gch : Cond.code yj_gch prog_27_method_12_code 7 (Option.some Jvm.ClassFile.FieldType.int) ∈ tTS := tTS_of (mv_TS_of (k := 1180) (by decide +kernel) rfl)
noncomputable def wl_gch : List Cond := Cond.code yj_gch prog_27_method_12_code 7 (Option.some Jvm.ClassFile.FieldType.int) :: tTS
theorem wj_api : Cond.code yj_api prog_15_method_32_code 4 (Option.some (Jvm.ClassFile.FieldType.object "java/lang/AbstractStringBuilder")) ∈ tTS := tTS_of (mv_TS_of (k := 1174) (by decide +kernel) rfl)
noncomputable def wl_api : List Cond := Cond.code yj_api prog_15_method_32_code 4 (Option.some (Jvm.ClassFile.FieldType.object "java/lang/AbstractStringBuilder")) :: tTS
theorem wj_spi : Cond.code yj_spi prog_32_method_15_code 2 (Option.some (Jvm.ClassFile.FieldType.object "java/lang/StringBuilder")) ∈ tTS := tTS_of (mv_TS_of (k := 1171) (by decide +kernel) rfl)
noncomputable def wl_spi : List Cond := Cond.code yj_spi prog_32_method_15_code 2 (Option.some (Jvm.ClassFile.FieldType.object "java/lang/StringBuilder")) :: tTS
theorem wj_chl : Cond.code yj_chl prog_39_method_131_code 2 (Option.none : Option Jvm.ClassFile.FieldType) ∈ tTS := tTS_of (mv_TS_of (k := 1227) (by decide +kernel) rfl)
noncomputable def wl_chl : List Cond := Cond.code yj_chl prog_39_method_131_code 2 (Option.none : Option Jvm.ClassFile.FieldType) :: tTS
theorem wj_crb : Cond.code yj_crb prog_39_method_133_code 5 (Option.some (Jvm.ClassFile.FieldType.array Jvm.ClassFile.FieldType.byte)) ∈ tTS := tTS_of (mv_TS_of (k := 1224) (by decide +kernel) rfl)
noncomputable def wl_crb : List Cond := Cond.code yj_crb prog_39_method_133_code 5 (Option.some (Jvm.ClassFile.FieldType.array Jvm.ClassFile.FieldType.byte)) :: tTS
theorem wj_cor : Cond.code yj_cor prog_39_method_132_code 3 (Option.some (Jvm.ClassFile.FieldType.array Jvm.ClassFile.FieldType.byte)) ∈ tTS := tTS_of (mv_TS_of (k := 1221) (by decide +kernel) rfl)
noncomputable def wl_cor : List Cond := Cond.code yj_cor prog_39_method_132_code 3 (Option.some (Jvm.ClassFile.FieldType.array Jvm.ClassFile.FieldType.byte)) :: tTS
theorem wj_sva : Cond.code yj_sva prog_31_method_150_code 5 (Option.none : Option Jvm.ClassFile.FieldType) ∈ tTS := tTS_of (mv_TS_of (k := 1203) (by decide +kernel) rfl)
noncomputable def wl_sva : List Cond := Cond.code yj_sva prog_31_method_150_code 5 (Option.none : Option Jvm.ClassFile.FieldType) :: tTS
theorem wj_sin : Cond.code yj_sin prog_31_method_53_code 2 (Option.none : Option Jvm.ClassFile.FieldType) ∈ tTS := tTS_of (mv_TS_of (k := 1200) (by decide +kernel) rfl)
noncomputable def wl_sin : List Cond := Cond.code yj_sin prog_31_method_53_code 2 (Option.none : Option Jvm.ClassFile.FieldType) :: tTS
theorem wj_tos : Cond.code yj_tos prog_32_method_42_code 1 (Option.some (Jvm.ClassFile.FieldType.object "java/lang/String")) ∈ tTS := tTS_of (mv_TS_of (k := 1196) (by decide +kernel) rfl)
noncomputable def wl_tos : List Cond := Cond.code yj_tos prog_32_method_42_code 1 (Option.some (Jvm.ClassFile.FieldType.object "java/lang/String")) :: tTS
/-! TEXTS: worlds of a builder, its bytes, and a String -/
abbrev tcl : List vw_C := [("java/lang/StringBuilder", TJ4, 4), ("java/lang/String", TJ0, 4)]
abbrev tB (da n : Nat) : va_E := .inr (0, [.ref da, .int 0, .int 0, .int (nI n)])
abbrev tA (cB : ClassId) (L : Nat) (f : Nat → Int32) : va_E := .inl (cB, L, .inl f)
abbrev tW (b da : Nat) (cB : ClassId) (n L : Nat) (f : Nat → Int32) : va_W := [(b, tB da n), (da, tA cB L f)]
abbrev tP (D : va_G) (cB : ClassId) (A : Nat → Prop) (ws : va_W) (U : State) : Prop := va_P D tcl ws U.heap ∧ va_K D tcl [(cB, .byte)] U ∧ va_D A ws
theorem tP_to {D : va_G} {cB : ClassId} {A : Nat → Prop} {ws : va_W} {u U : State} (h : tP D cB A ws u) (hvm : u.vm.Alike U.vm) (hh : U.heap = u.heap) : tP D cB A ws U := ⟨by rw [hh]; exact h.1, va_K.moved hvm h.2.1, h.2.2⟩
/-- what stands still beside a world -/
def tFact (F : (Nat → Prop) → State → Heap → Prop) : Prop := (∀ (A : Nat → Prop) (u U : State) (H : Heap), u.vm.Alike U.vm → F A u H → F A U H) ∧ (∀ (A : Nat → Prop) (U : State) (H H1 : Heap), F A U H → (∀ a : Nat, a < H.size → ¬ A a → H1[a]? = H[a]?) → F A U H1) ∧ ∀ (A B : Nat → Prop) (U : State) (H : Heap), F A U H → (∀ q, B q → A q) → F B U H
theorem tFact.moved {F : (Nat → Prop) → State → Heap → Prop} (h : tFact F) {A : Nat → Prop} {u U : State} {H : Heap} (hv : u.vm.Alike U.vm) (q : F A u H) : F A U H := h.1 _ _ _ _ hv q
theorem tFact.kept {F : (Nat → Prop) → State → Heap → Prop} (h : tFact F) {A : Nat → Prop} {U : State} {H H1 : Heap} (q : F A U H) (hq : ∀ a : Nat, a < H.size → ¬ A a → H1[a]? = H[a]?) : F A U H1 := h.2.1 _ _ _ _ q hq
theorem tFact.narrow {F : (Nat → Prop) → State → Heap → Prop} (h : tFact F) {A B : Nat → Prop} {U : State} {H : Heap} (q : F A U H) (hAB : ∀ q, B q → A q) : F B U H := h.2.2 _ _ _ _ q hAB
theorem tFact.to {F : (Nat → Prop) → State → Heap → Prop} (hF : tFact F) {A A' : Nat → Prop} {s U : State} {H : Heap} {locs : List Loc} (h : F A s s.heap) (hS : va_S A s.heap H locs) (hn : ∀ q, A' q → A q) (hU : U.heap = H) (hvm : s.vm.Alike U.vm) : F A' U U.heap := by
  rw [hU]
  exact hF.moved hvm (hF.narrow (hF.kept h hS.2.1) hn)
def tT : (Nat → Prop) → State → Heap → Prop := fun _ _ _ => True
theorem tT_ok : tFact tT := ⟨fun _ _ _ _ _ _ => trivial, fun _ _ _ _ _ _ => trivial, fun _ _ _ _ _ _ => trivial⟩
def tC : (Nat → Prop) → State → Heap → Prop := fun A U H => va_Z "java/lang/String" "COMPACT_STRINGS" "Z" (.int 1) A U H
theorem tC_ok : tFact tC := ⟨fun _ _ _ _ h q => va_Z.moved h q, fun _ _ _ _ h q => va_Z.kept h q, fun _ _ _ _ h q => va_Z.narrow h q⟩
theorem tZq_ok {C n d : String} : tFact (fun A U H => va_Zq C n d A U H) := by
  refine ⟨fun _ _ _ _ h q => va_Zq.moved h q, fun _ _ _ _ h q => ?_, fun _ _ _ _ h q => ?_⟩
  · rcases h with h | ⟨t, h⟩
    · exact .inl (h.kept q)
    · exact .inr ⟨t, h.kept q⟩
  · rcases h with h | ⟨t, h⟩
    · exact .inl (h.narrow q)
    · exact .inr ⟨t, h.narrow q⟩
/-- a String, as it stands -/
def tR (a sd n : Nat) (f : Nat → Int32) : (Nat → Prop) → State → Heap → Prop := fun A U H => va_O "java/lang/String" a A U H ∧ va_OF "java/lang/String" "coder" "B" (.int 0) a A U H ∧ va_OF "java/lang/String" "value" "[B" (.ref sd) a A U H ∧ va_T .byte sd n (fun j => .int (f j)) A U H ∧ tC A U H ∧ va_Zq "jdk/internal/util/Preconditions" "SIOOBE_FORMATTER" "Ljava/util/function/BiFunction;" A U H
theorem tR_ok {a sd n : Nat} {f : Nat → Int32} : tFact (tR a sd n f) := by
  refine ⟨fun A u U H h q => ?_, fun A U H H1 q' q => ?_, fun A B U H q' q => ?_⟩
  · obtain ⟨h1, h2, h3, h4, h5, h6⟩ := q
    exact ⟨va_O.moved h h1, va_OF.moved h h2, va_OF.moved h h3, va_T.moved h h4, tC_ok.moved h h5, tZq_ok.moved h h6⟩
  · obtain ⟨h1, h2, h3, h4, h5, h6⟩ := q'
    exact ⟨h1.kept q, h2.kept q, h3.kept q, h4.kept q, tC_ok.kept h5 q, tZq_ok.kept h6 q⟩
  · obtain ⟨h1, h2, h3, h4, h5, h6⟩ := q'
    exact ⟨h1.narrow q, h2.narrow q, h3.narrow q, h4.narrow q, tC_ok.narrow h5 q, tZq_ok.narrow h6 q⟩
theorem tR_j {a sd n : Nat} {f : Nat → Int32} {U : State} (h : tR a sd n f vj_N U U.heap) : vj_S a sd n (fun j => .int (f j)) U := h
theorem tR_c {a sd n : Nat} {f : Nat → Int32} {A : Nat → Prop} {U : State} {H : Heap} (h : tR a sd n f A U H) : tC A U H := h.2.2.2.2.1
theorem tR_recv {a sd n : Nat} {f : Nat → Int32} {A : Nat → Prop} {s : State} {H : Heap} {locs : List Loc} (h : tR a sd n f A s s.heap) (hS : va_S A s.heap H locs) : ∃ cell : Cell, H[a]? = some cell ∧ cell.vm.isStatics = false ∧ s.vm.findClass "java/lang/String" = some cell.cls := by
  obtain ⟨⟨cell, h1, h2, h3, -⟩, -⟩ := tR_ok.kept h hS.2.1
  exact ⟨cell, h1, h2, h3⟩
/-- Integer's tables -/
def tG (d1 d2 : Nat) : (Nat → Prop) → State → Heap → Prop := fun A U H => tC A U H ∧ va_Z "java/lang/Integer" "DigitOnes" "[B" (.ref d1) A U H ∧ va_T .byte d1 100 (fun j => .int (nI (48 + j % 10))) A U H ∧ va_Z "java/lang/Integer" "DigitTens" "[B" (.ref d2) A U H ∧ va_T .byte d2 100 (fun j => .int (nI (48 + j / 10))) A U H
theorem tG_ok {d1 d2 : Nat} : tFact (tG d1 d2) := by
  refine ⟨fun A u U H h q => ?_, fun A U H H1 q' q => ?_, fun A B U H q' q => ?_⟩
  · obtain ⟨h1, h2, h3, h4, h5⟩ := q
    exact ⟨tC_ok.moved h h1, va_Z.moved h h2, va_T.moved h h3, va_Z.moved h h4, va_T.moved h h5⟩
  · obtain ⟨h1, h2, h3, h4, h5⟩ := q'
    exact ⟨tC_ok.kept h1 q, h2.kept q, h3.kept q, h4.kept q, h5.kept q⟩
  · obtain ⟨h1, h2, h3, h4, h5⟩ := q'
    exact ⟨tC_ok.narrow h1 q, h2.narrow q, h3.narrow q, h4.narrow q, h5.narrow q⟩
/-- a contract's start -/
def tS (h0 : Heap) (D : va_G) (cB : ClassId) (ws : va_W) (F : (Nat → Prop) → State → Heap → Prop) (A : Nat → Prop) : State → Prop := fun U => U.heap = h0 ∧ tP D cB (fun _ => True) ws U ∧ F A U U.heap
theorem tBlind {h0 : Heap} {D : va_G} {cB : ClassId} {ws : va_W} {F : (Nat → Prop) → State → Heap → Prop} (hF : tFact F) {A : Nat → Prop} {av : List Value} : FrameBlind (va_Pc av (tS h0 D cB ws F A)) := fun a U g mk q => by
  obtain ⟨q0, q1, q2, q3⟩ := q
  exact ⟨q0, q1, tP_to (u := U) (U := U.calling g mk a) q2 (Vm.Alike.refl U.vm) rfl, hF.moved (u := U) (U := U.calling g mk a) (Vm.Alike.refl U.vm) q3⟩
theorem tBlind1 {h0 : Heap} {av : List Value} : FrameBlind (va_Pc av (fun U => U.heap = h0)) := fun a U g mk q => q
theorem tPre {D : va_G} {cB : ClassId} {ws wc : va_W} {F : (Nat → Prop) → State → Heap → Prop} (hF : tFact F) {A A' AD : Nat → Prop} {s : State} {H : Heap} {locs : List Loc} (hP : va_P D tcl ws H) (hK : va_K D tcl [(cB, .byte)] s) (hD : va_D AD ws) (hE : F A s s.heap) (hS : va_S A s.heap H locs) (is : List Nat) (h1 : is.filterMap (fun i => ws[i]?) = wc) (h2 : va_nd is = true) (h3 : is.map (fun i => ws[i]?) = wc.map some) (hn : ∀ q, A' q → A q) : ∀ U : State, U.heap = H → s.WarmedH U.vm → tS H D cB wc F A' U :=
  fun U hU hW => ⟨hU, ⟨by rw [hU]; exact hP.sub is h1, va_K.moved hW.alike hK, (hD.sub is h2 h3).weaken (fun _ _ _ _ => trivial)⟩, hF.to hE hS hn hU hW.alike⟩
theorem tgood {W0 : Cond} {y : MethodName} {b : ByteArray} {mx : Nat} {r : Option FieldType} (h : Cond.code y b mx r ∈ tTS) : GoodIn (W0 :: tTS) (Cond.code y b mx r :: tTS) := tgj (l := [Cond.code y b mx r]) (fun w hw => by rw [List.mem_singleton.mp hw]; exact h)
theorem tm1 {a : Cond} (h1 : a ∈ tTS) : ∀ w ∈ [a], w ∈ tTS := fun w hw => by rw [List.mem_singleton.mp hw]; exact h1
theorem tm4 {a b c d : Cond} (h1 : a ∈ tTS) (h2 : b ∈ tTS) (h3 : c ∈ tTS) (h4 : d ∈ tTS) : ∀ w ∈ [a, b, c, d], w ∈ tTS := List.forall_mem_cons.mpr ⟨h1, List.forall_mem_cons.mpr ⟨h2, List.forall_mem_cons.mpr ⟨h3, tm1 h4⟩⟩⟩
theorem tm5 {a b c d e : Cond} (h1 : a ∈ tTS) (h2 : b ∈ tTS) (h3 : c ∈ tTS) (h4 : d ∈ tTS) (h5 : e ∈ tTS) : ∀ w ∈ [a, b, c, d, e], w ∈ tTS := List.forall_mem_cons.mpr ⟨h1, tm4 h2 h3 h4 h5⟩
theorem tm6 {a b c d e f : Cond} (h1 : a ∈ tTS) (h2 : b ∈ tTS) (h3 : c ∈ tTS) (h4 : d ∈ tTS) (h5 : e ∈ tTS) (h6 : f ∈ tTS) : ∀ w ∈ [a, b, c, d, e, f], w ∈ tTS := List.forall_mem_cons.mpr ⟨h1, tm5 h2 h3 h4 h5 h6⟩
theorem tm7 {a b c d e f g : Cond} (h1 : a ∈ tTS) (h2 : b ∈ tTS) (h3 : c ∈ tTS) (h4 : d ∈ tTS) (h5 : e ∈ tTS) (h6 : f ∈ tTS) (h7 : g ∈ tTS) : ∀ w ∈ [a, b, c, d, e, f, g], w ∈ tTS := List.forall_mem_cons.mpr ⟨h1, tm6 h2 h3 h4 h5 h6 h7⟩
theorem tinJ4 : ∀ w ∈ u_ws RJ4 TJ4 4, w ∈ tTS := fun w h => tTS_of (List.mem_filter.mpr ⟨(goodIn_r (big := lw_tbl) _ [1062, 1064, 1066, 1068] (by decide +kernel) (by decide +kernel) w h).1, List.all_eq_true.mp (show (u_ws RJ4 TJ4 4).all goodWord = true by decide +kernel) w h⟩)
theorem tinJ0 : ∀ w ∈ u_ws RJ0 TJ0 4, w ∈ tTS := fun w h => tTS_of (List.mem_filter.mpr ⟨(goodIn_r (big := lw_tbl) _ [796, 798, 1248, 1250] (by decide +kernel) (by decide +kernel) w h).1, List.all_eq_true.mp (show (u_ws RJ0 TJ0 4).all goodWord = true by decide +kernel) w h⟩)
/-- a private method of the class above is selected on a builder -/
theorem tselP {C : String} {x y : MethodName} {s : State} {args : Array Value} (hC : y.cls = x.cls) (hy : y.cls ≠ "java/lang/invoke/MethodHandle" ∧ y.cls ≠ "java/lang/invoke/VarHandle") (hsel : (Cond.selects C x x).before args s = true) (hpriv : (Cond.privateMethod y).before args s = true) (hinst : (Cond.instanceMethod y).before args s = true) : (Cond.selects C y y).before args s = true := by
  obtain ⟨mk, methM, hnamed, hmethM, -, -⟩ := Cond.instanceMethod_spec hinst
  have hfound : s.methodFound? y.cls y.name y.desc = some mk := State.methodFound?_of_named hnamed hy
  have hsl : ∀ c : ClassId, selectMethod {} s.vm c mk = .method mk := fun c => selectMethod_private hmethM (Cond.privateMethod_at hpriv mk methM hnamed hmethM)
  simp only [Cond.before, Cond.holds, Cond.value] at hsel
  cases hc : s.vm.findClass C with
  | none => simp [hc] at hsel
  | some c =>
    cases hr : s.methodFound? x.cls x.name x.desc with
    | none => simp [hc, hr] at hsel
    | some r =>
      cases hm : s.methodNamed? x with
      | none => simp [hc, hr, hm] at hsel
      | some m =>
        simp only [hc, hr, hm] at hsel
        have hk : (s.vm.classes[m.cls]?).any (!·.isInterface) = true := by
          cases hs : selectMethod {} s.vm c r with
          | method m' =>
            simp only [hs] at hsel
            have h9 : m' = m ∧ Option.any (fun x => !x.isInterface) s.vm.classes[m.cls]? = true := by simpa using hsel
            exact h9.2
          | _ => simp [hs] at hsel
        have e1 : s.vm.findClass x.cls = some m.cls := findClass_of_methodNamed hm
        have e2 : s.vm.findClass y.cls = some mk.cls := findClass_of_methodNamed hnamed
        rw [hC, e1] at e2
        have e3 : m.cls = mk.cls := Option.some.inj e2
        simp only [Cond.before, Cond.holds, Cond.value, hc, hfound, hnamed, hsl c]
        rw [e3] at hk
        simpa using hk
theorem tcwU {own C : String} {index maxL mc ms : Nat} {y : MethodName} {bytes : ByteArray} {ret : Option FieldType} {k0 : Cond} {rm : Room} {R : Room} {s : State} {args : Array Value} (n : Nat) (hts : ∀ w ∈ (k0 :: tTS), w.before args s = true) (hc : Cond.code y bytes maxL ret ∈ tTS) (hl : Cond.methodLink own index y ∈ tTS) (hsm : Cond.sameMethod y.cls y.cls y.name y.desc ∈ tTS) (hsel : (Cond.selects C y y).before args s = true) (hin : Cond.instanceMethod y ∈ tTS) (hini : Cond.initialized y.cls ∈ tTS) (hrc : rm.cells = mc) (hrs : rm.slots = ms)
    (hd : y.cls ≠ "java/lang/invoke/MethodHandle" ∧ y.cls ≠ "java/lang/invoke/VarHandle" ∧ (parseMethodDescriptor y.desc).map (fun d => d.parameters.length) = some n) (hR : rm.frames + 1 ≤ R.frames ∧ 8 + (maxL + 11) + rm.locals ≤ R.locals) : va_CU R s args own C y.cls index y y bytes maxL ret (Cond.code y bytes maxL ret :: tTS) rm mc ms n := by
  have h : ∀ {w : Cond}, w ∈ tTS → w.before args s = true := fun h => hts _ (List.mem_cons_of_mem _ h)
  refine ⟨⟨hrc, hrs, hR.1, hR.2, pay_in hts (tgood hc), List.mem_cons_self⟩, h hc, h hini, ⟨hd.1, hd.2.1⟩, fun sig q => ?_, h hl, h hsm, va_Decl.of (h hin) (h hc), hsel, h hin⟩
  have h2 := hd.2.2
  rw [q] at h2
  exact (Option.some.inj h2).symm
theorem tsameB {cA cB : ClassId} {D : va_G} {cl : List vw_C} {s : State} (hK : va_K D cl ([(cB, .byte)] ++ [(cA, .byte)]) s) : cA = cB := by
  have h1 := (hK.2 0 _ rfl).2
  have h2 := (hK.2 1 _ rfl).2
  exact Option.some.inj (Eq.trans (Eq.symm (show s.vm.findClass _ = some cA from h2)) (show s.vm.findClass _ = some cB from h1))

theorem wq_0 : Cond.methodLink "jdk/internal/util/ArraysSupport" 194 Lib.Math.max.name ∈ tTS := tTS_of (mv_TS_of (k := 1093) (by decide +kernel) rfl)
theorem wq_1 : Cond.static Lib.Math.max.name ∈ tTS := tTS_of (mv_TS_of (k := 703) (by decide +kernel) rfl)
theorem wq_2 : Cond.code Lib.Math.max.name Lib.Math.max.code 2 (some .int) ∈ tTS := tTS_of (mv_TS_of (k := 704) (by decide +kernel) rfl)
theorem wq_3 : Cond.initialized "java/lang/Math" ∈ tTS := tTS_of (mv_TS_of (k := 79) (by decide +kernel) rfl)
theorem wq_4 : Cond.constant "jdk/internal/util/ArraysSupport" 200 2147483639 ∈ tTS := tTS_of (mv_TS_of (k := 1094) (by decide +kernel) rfl)
theorem cq_nln (l : Launch) (h0 : Heap) (o mn pf r : Nat) (hr : nI o + (if nI mn < nI pf then nI pf else nI mn) = nI r) (hp : 0 < r) (h1 : r < 2 ^ 28) : Met l yj_nln wl_nln ({ frames := 1, cells := 0, slots := 0, locals := 80 } : Room) (va_Pc [.int (nI o), .int (nI mn), .int (nI pf)] (fun U => U.heap = h0)) (va_Qi (fun v (_ : Unit) => v = nI r) (fun _ t => t.heap = h0) vj_N) 0 (0) vj_N := by
  refine Met.ofW (cc := prog_41_method_27_code) (maxL := 4) (ret := (Option.some Jvm.ClassFile.FieldType.int)) (by decide) rfl ?_
  intro p e s m args below meth c s₁ B hml hv
  obtain ⟨rfl, rfl⟩ := hv
  have hx := B.exec
  have hb := B.bytes
  have hR := B.returns
  have hts : ∀ w ∈ wl_nln, w.before _ s = true := atoms_spec (ws := wl_nln) B.pre
  have hT : ∀ {w : Cond}, w ∈ tTS → w.before _ s = true := fun h => hts _ (List.mem_cons_of_mem _ h)
  have hown : s.vm.findClass "jdk/internal/util/ArraysSupport" = some m.cls := findClass_of_methodNamed B.named
  have hlocks := B.notSynchronized
  have hin : meth.name = "newLength" := (name_of_methodNamed B.named B.method).1
  have hS : va_S vj_N s.heap s.heap [] := va_S.rf
  have hl := lv_entry ([.int (nI o), .int (nI mn), .int (nI pf)]) (n := 4) (Nat.le_of_ble_eq_true rfl)
  rw [lg_entry_eq]
  generalize (lg_sl ([.int (nI o), .int (nI mn), .int (nI pf)]) ++ List.replicate (4 - (lg_sl ([.int (nI o), .int (nI mn), .int (nI pf)])).length) Slot.unset).toArray = ls at hl ⊢
  have hl : lv_has ls 4 [(0, .int (nI o)), (1, .int (nI mn)), (2, .int (nI pf))] := hl
  refine lv_iload_n hx hb dj_nln_0 rfl (lv_at hl 0 rfl) ?_
  refine lv_iload_n hx hb dj_nln_1 rfl (lv_at hl 1 rfl) ?_
  refine lv_iload_n hx hb dj_nln_2 rfl (lv_at hl 2 rfl) ?_
  refine va_mmax hx hb (hml.trans hl.1.symm) hown (hT wq_0) (hT wq_1) (hT wq_3) (hT wq_2) (Nat.le_of_ble_eq_true rfl) (Nat.le_of_ble_eq_true rfl) (by first | exact Nat.zero_le _ | exact Nat.le_refl _) (by first | exact Nat.zero_le _ | exact Nat.le_refl _) dj_nln_3 ?_
  refine lv_iadd hx hb dj_nln_6 ?_
  rw [hr]
  refine lv_istore_n (lv' := [(3, .int (nI r)), (0, .int (nI o)), (1, .int (nI mn)), (2, .int (nI pf))]) hx hb dj_nln_7 rfl hl (by decide) rfl (fun ls hl => ?_)
  refine lv_iconst (v := 0) hx hb dj_nln_8 (by decide) ?_
  refine lv_iload_n hx hb dj_nln_9 rfl (lv_at hl 0 rfl) ?_
  refine lv_icmp_ge hx hb dj_nln_10 (tgt := 21) rfl (fun h => absurd h (nI_nle hp (by omega))) (fun _ => ?_)
  refine lv_iload_n hx hb dj_nln_13 rfl (lv_at hl 0 rfl) ?_
  refine lv_ldc hx hb hown (hT wq_4) dj_nln_14 ?_
  refine lv_icmp_gt hx hb dj_nln_16 (tgt := 21) rfl (fun h => absurd h (show ¬ nI 2147483639 < nI r from nI_nlt (by omega) (by decide))) (fun _ => ?_)
  refine lv_iload_n hx hb dj_nln_19 rfl (lv_at hl 0 rfl) ?_
  exact W.iret (v := nI r) hx hb hR (fun t ht hW => ⟨⟨nI r, (), rfl, rfl, ht⟩, hS.F ht⟩) hS.2.2 dj_nln_20
theorem wq_5 : Cond.fieldLink "java/lang/AbstractStringBuilder" 15 "java/lang/AbstractStringBuilder" "value" "[B" ∈ tTS := tTS_of (mv_TS_of (k := 1058) (by decide +kernel) rfl)
theorem wq_6 : Cond.fieldLink "java/lang/AbstractStringBuilder" 22 "java/lang/AbstractStringBuilder" "coder" "B" ∈ tTS := tTS_of (mv_TS_of (k := 1059) (by decide +kernel) rfl)
theorem wq_7 : Cond.methodLink "java/lang/AbstractStringBuilder" 114 yj_nln ∈ tTS := tTS_of (mv_TS_of (k := 1090) (by decide +kernel) rfl)
theorem wq_8 : Cond.static yj_nln ∈ tTS := tTS_of (mv_TS_of (k := 1091) (by decide +kernel) rfl)
theorem wq_9 : Cond.initialized "jdk/internal/util/ArraysSupport" ∈ tTS := tTS_of (mv_TS_of (k := 86) (by decide +kernel) rfl)
theorem wq_10 : Cond.constant "java/lang/AbstractStringBuilder" 39 2147483647 ∈ tTS := tTS_of (mv_TS_of (k := 1098) (by decide +kernel) rfl)
theorem cq_ncp (l : Launch) (h0 : Heap) (D : va_G) (cB : ClassId) (b da n L : Nat) (f : Nat → Int32) (q : Nat) (hL : L < q) (hq : q ≤ 65536) : Met l yj_ncp wl_ncp ({ frames := 2, cells := 0, slots := 0, locals := 103 } : Room) (va_Pc [.ref b, .int (nI q)] (tS h0 D cB (tW b da cB n L f) tT vj_N)) (va_Qi (fun v (_ : Unit) => v = nI (sb_cap q L)) (fun _ t => t.heap = h0) vj_N) 0 (0) vj_N := by
  refine Met.ofW (cc := prog_15_method_10_code) (maxL := 6) (ret := (Option.some Jvm.ClassFile.FieldType.int)) (by decide) rfl ?_
  intro p e s m args below meth c s₁ B hml hv
  obtain ⟨rfl, rfl, ⟨hP, hK, hD0⟩, hE⟩ := hv
  have hx := B.exec
  have hb := B.bytes
  have hR := B.returns
  have hts : ∀ w ∈ wl_ncp, w.before _ s = true := atoms_spec (ws := wl_ncp) B.pre
  have hT : ∀ {w : Cond}, w ∈ tTS → w.before _ s = true := fun h => hts _ (List.mem_cons_of_mem _ h)
  have hown : s.vm.findClass "java/lang/AbstractStringBuilder" = some m.cls := findClass_of_methodNamed B.named
  have hlocks := B.notSynchronized
  have hin : meth.name = "newCapacity" := (name_of_methodNamed B.named B.method).1
  have hS : va_S vj_N s.heap s.heap [] := va_S.rf
  have hD := hD0
  have hl := lv_entry ([.ref b, .int (nI q)]) (n := 6) (Nat.le_of_ble_eq_true rfl)
  rw [lg_entry_eq]
  generalize (lg_sl ([.ref b, .int (nI q)]) ++ List.replicate (6 - (lg_sl ([.ref b, .int (nI q)])).length) Slot.unset).toArray = ls at hl ⊢
  have hl : lv_has ls 6 [(0, .ref b), (1, .int (nI q))] := hl
  refine lv_aload_n hx hb dj_ncp_0 rfl (lv_at hl 0 rfl) ?_
  refine va_get (ref := "java/lang/AbstractStringBuilder") hx hb (fun w h => hT h) tinJ4 hown hK hP 0 rfl rfl 0 (by decide) (hT wq_5) (fun _ h => h) rfl dj_ncp_1 ?_
  refine va_alen hx hb hK hP 1 0 rfl rfl (v := nI L) rfl dj_ncp_4 ?_
  refine lv_istore_n (lv' := [(2, .int (nI L)), (0, .ref b), (1, .int (nI q))]) hx hb dj_ncp_5 rfl hl (by decide) rfl (fun ls hl => ?_)
  refine lv_iload_n hx hb dj_ncp_6 rfl (lv_at hl 2 rfl) ?_
  refine lv_aload_n hx hb dj_ncp_7 rfl (lv_at hl 1 rfl) ?_
  refine va_get (ref := "java/lang/AbstractStringBuilder") hx hb (fun w h => hT h) tinJ4 hown hK hP 0 rfl rfl 1 (by decide) (hT wq_6) (fun _ h => h) rfl dj_ncp_8 ?_
  refine lv_ishl hx hb dj_ncp_11 ?_
  rw [sb_shl0]
  refine lv_istore_n (lv' := [(3, .int (nI q)), (2, .int (nI L)), (0, .ref b), (1, .int (nI q))]) hx hb dj_ncp_12 rfl hl (by decide) rfl (fun ls hl => ?_)
  refine lv_iload_n hx hb dj_ncp_13 rfl (lv_at hl 0 rfl) ?_
  refine lv_iload_n hx hb dj_ncp_14 rfl (lv_at hl 1 rfl) ?_
  refine lv_isub hx hb dj_ncp_15 ?_
  rw [pk_sub (Nat.le_of_lt hL)]
  refine lv_istore (lv' := [(4, .int (nI (q - L))), (3, .int (nI q)), (2, .int (nI L)), (0, .ref b), (1, .int (nI q))]) hx hb dj_ncp_16 hl (by decide) rfl (fun ls hl => ?_)
  refine lv_iload_n hx hb dj_ncp_18 rfl (lv_at hl 2 rfl) ?_
  refine lv_iload hx hb dj_ncp_19 (lv_at hl 0 rfl) ?_
  refine lv_iload_n hx hb dj_ncp_21 rfl (lv_at hl 2 rfl) ?_
  refine lv_iconst (v := 2) hx hb dj_ncp_22 (by decide) ?_
  refine lv_aload_n hx hb dj_ncp_23 rfl (lv_at hl 3 rfl) ?_
  refine va_get (ref := "java/lang/AbstractStringBuilder") hx hb (fun w h => hT h) tinJ4 hown hK hP 0 rfl rfl 1 (by decide) (hT wq_6) (fun _ h => h) rfl dj_ncp_24 ?_
  refine lv_ishl hx hb dj_ncp_27 ?_
  rw [sb_shl0]
  refine lv_iadd hx hb dj_ncp_28 ?_
  rw [show nI L + 2 = nI (L + 2) from nI_add L 2]
  have hg := sb_cap_ge q L
  have hcap : sb_cap q L = L + (if q - L < L + 2 then L + 2 else q - L) := by
    unfold sb_cap
    rw [if_neg (by omega)]
    split <;> split <;> omega
  have e3 : nI L + (if nI (q - L) < nI (L + 2) then nI (L + 2) else nI (q - L)) = nI (sb_cap q L) := by
    rw [hcap]
    by_cases h2 : q - L < L + 2
    · rw [if_pos h2, if_pos (nI_lt h2 (by omega))]
      exact nI_add L (L + 2)
    · rw [if_neg h2, if_neg (nI_nlt (by omega) (by omega))]
      exact nI_add L (q - L)
  have hbd : sb_cap q L < 2 ^ 28 := by
    rw [hcap]
    split <;> omega
  refine va_calli (va_runS (As := [.int (nI L), .int (nI (q - L)), .int (nI (L + 2))]) (rest := []) ⟨hx, hb, hml, hown, hts⟩ (cq_nln l s.heap L (q - L) (L + 2) (sb_cap q L) e3 (by omega) hbd) (va_cwS 3 hts (tgj (l := [Cond.methodLink "java/lang/AbstractStringBuilder" 114 yj_nln, Cond.static yj_nln, Cond.initialized "jdk/internal/util/ArraysSupport", _]) (tm4 wq_7 wq_8 wq_9 wj_nln)) rfl rfl rfl (by decide +kernel) ⟨Nat.le_of_ble_eq_true rfl, Nat.le_of_ble_eq_true rfl⟩) ⟨tBlind1, fun U hU hW => ⟨rfl, hU⟩⟩ rfl rfl hl.1 rfl (lv_room (Nat.le_of_ble_eq_true rfl)) dj_ncp_29 ⟨Nat.le_of_ble_eq_true rfl, by show _ + 0 ≤ _; first | exact Nat.zero_le _ | omega⟩) hS (fun q _ h => h.elim) (fun q h => h.elim) (fun r u t H1 locs1 ht hvm hw hB hz1 hk1 hS1 => ?_)
  have hH := ht.symm.trans hB
  subst hH
  have hS := hS1
  have hw := hw
  subst hw
  refine lv_istore (lv' := [(5, .int (nI (sb_cap q L))), (4, .int (nI (q - L))), (3, .int (nI q)), (2, .int (nI L)), (0, .ref b), (1, .int (nI q))]) hx hb dj_ncp_32 hl (by decide) rfl (fun ls hl => ?_)
  refine lv_iload hx hb dj_ncp_34 (lv_at hl 0 rfl) ?_
  refine lv_ldc hx hb hown (hT wq_10) dj_ncp_36 ?_
  refine lv_icmp_ne hx hb dj_ncp_38 (tgt := 51) rfl (fun _ => ?_) (fun h => absurd h (show nI (sb_cap q L) ≠ nI 2147483647 from fun h => by have := (nI_eq (by omega) (by decide)).mp h; omega))
  refine lv_iload hx hb dj_ncp_51 (lv_at hl 0 rfl) ?_
  refine lv_aload_n hx hb dj_ncp_53 rfl (lv_at hl 4 rfl) ?_
  refine va_get (ref := "java/lang/AbstractStringBuilder") hx hb (fun w h => hT h) tinJ4 hown hK hP 0 rfl rfl 1 (by decide) (hT wq_6) (fun _ h => h) rfl dj_ncp_54 ?_
  refine lv_ishr hx hb dj_ncp_57 ?_
  rw [sb_shr0]
  exact W.iret (v := nI (sb_cap q L)) hx hb hR (fun t ht hW => ⟨⟨nI (sb_cap q L), (), rfl, rfl, ht⟩, hS.F ht⟩) hS.2.2 dj_ncp_58
theorem wq_11 : Cond.fieldLink "java/lang/AbstractStringBuilder" 79 "java/lang/AbstractStringBuilder" "count" "I" ∈ tTS := tTS_of (mv_TS_of (k := 1061) (by decide +kernel) rfl)
theorem cq_aln (l : Launch) (h0 : Heap) (D : va_G) (cB : ClassId) (b da n L : Nat) (f : Nat → Int32) : Met l yj_aln wl_aln ({ frames := 1, cells := 0, slots := 0, locals := 80 } : Room) (va_Pc [.ref b] (tS h0 D cB (tW b da cB n L f) tT vj_N)) (va_Qi (fun v (_ : Unit) => v = nI n) (fun _ t => t.heap = h0) vj_N) 0 (0) vj_N := by
  refine Met.ofW (cc := prog_15_method_6_code) (maxL := 1) (ret := (Option.some Jvm.ClassFile.FieldType.int)) (by decide) rfl ?_
  intro p e s m args below meth c s₁ B hml hv
  obtain ⟨rfl, rfl, ⟨hP, hK, hD0⟩, hE⟩ := hv
  have hx := B.exec
  have hb := B.bytes
  have hR := B.returns
  have hts : ∀ w ∈ wl_aln, w.before _ s = true := atoms_spec (ws := wl_aln) B.pre
  have hT : ∀ {w : Cond}, w ∈ tTS → w.before _ s = true := fun h => hts _ (List.mem_cons_of_mem _ h)
  have hown : s.vm.findClass "java/lang/AbstractStringBuilder" = some m.cls := findClass_of_methodNamed B.named
  have hlocks := B.notSynchronized
  have hin : meth.name = "length" := (name_of_methodNamed B.named B.method).1
  have hS : va_S vj_N s.heap s.heap [] := va_S.rf
  have hD := hD0
  have hl := lv_entry ([.ref b]) (n := 1) (Nat.le_of_ble_eq_true rfl)
  rw [lg_entry_eq]
  generalize (lg_sl ([.ref b]) ++ List.replicate (1 - (lg_sl ([.ref b])).length) Slot.unset).toArray = ls at hl ⊢
  have hl : lv_has ls 1 [(0, .ref b)] := hl
  refine lv_aload_n hx hb dj_aln_0 rfl (lv_at hl 0 rfl) ?_
  refine va_get (ref := "java/lang/AbstractStringBuilder") hx hb (fun w h => hT h) tinJ4 hown hK hP 0 rfl rfl 3 (by decide) (hT wq_11) (fun _ h => h) rfl dj_aln_1 ?_
  exact W.iret (v := nI n) hx hb hR (fun t ht hW => ⟨⟨nI n, (), rfl, rfl, ht⟩, hS.F ht⟩) hS.2.2 dj_aln_4
theorem cq_gvl (l : Launch) (h0 : Heap) (D : va_G) (cB : ClassId) (b da n L : Nat) (f : Nat → Int32) : Met l yj_gvl wl_gvl ({ frames := 1, cells := 0, slots := 0, locals := 80 } : Room) (va_Pc [.ref b] (tS h0 D cB (tW b da cB n L f) tT vj_N)) (va_Qr (fun (_ : Unit) => True) (fun _ a t => a = da ∧ t.heap = h0) vj_N) 0 (0) vj_N := by
  refine Met.ofW (cc := prog_15_method_64_code) (maxL := 1) (ret := (Option.some (Jvm.ClassFile.FieldType.array Jvm.ClassFile.FieldType.byte))) (by decide) rfl ?_
  intro p e s m args below meth c s₁ B hml hv
  obtain ⟨rfl, rfl, ⟨hP, hK, hD0⟩, hE⟩ := hv
  have hx := B.exec
  have hb := B.bytes
  have hR := B.returns
  have hts : ∀ w ∈ wl_gvl, w.before _ s = true := atoms_spec (ws := wl_gvl) B.pre
  have hT : ∀ {w : Cond}, w ∈ tTS → w.before _ s = true := fun h => hts _ (List.mem_cons_of_mem _ h)
  have hown : s.vm.findClass "java/lang/AbstractStringBuilder" = some m.cls := findClass_of_methodNamed B.named
  have hlocks := B.notSynchronized
  have hin : meth.name = "getValue" := (name_of_methodNamed B.named B.method).1
  have hS : va_S vj_N s.heap s.heap [] := va_S.rf
  have hD := hD0
  have hl := lv_entry ([.ref b]) (n := 1) (Nat.le_of_ble_eq_true rfl)
  rw [lg_entry_eq]
  generalize (lg_sl ([.ref b]) ++ List.replicate (1 - (lg_sl ([.ref b])).length) Slot.unset).toArray = ls at hl ⊢
  have hl : lv_has ls 1 [(0, .ref b)] := hl
  refine lv_aload_n hx hb dj_gvl_0 rfl (lv_at hl 0 rfl) ?_
  refine va_get (ref := "java/lang/AbstractStringBuilder") hx hb (fun w h => hT h) tinJ4 hown hK hP 0 rfl rfl 0 (by decide) (hT wq_5) (fun _ h => h) rfl dj_gvl_1 ?_
  exact W.aret hx hb hR (.inr ⟨_, rfl⟩) (.inr ⟨_, rfl⟩) (fun t ht hW => ⟨⟨(), da, rfl, trivial, rfl, ht⟩, hS.F ht⟩) hS.2.2 dj_gvl_4
theorem wq_12 : Cond.fieldLink "java/lang/AbstractStringBuilder" 18 "java/lang/String" "COMPACT_STRINGS" "Z" ∈ tTS := tTS_of (mv_TS_of (k := 1050) (by decide +kernel) rfl)
theorem cq_isl (l : Launch) (h0 : Heap) (D : va_G) (cB : ClassId) (b da n L : Nat) (f : Nat → Int32) : Met l yj_isl wl_isl ({ frames := 1, cells := 0, slots := 0, locals := 80 } : Room) (va_Pc [.ref b] (tS h0 D cB (tW b da cB n L f) tC vj_N)) (va_Qi (fun v (_ : Unit) => v = 1) (fun _ t => t.heap = h0) vj_N) 0 (0) vj_N := by
  refine Met.ofW (cc := prog_15_method_68_code) (maxL := 1) (ret := (Option.some Jvm.ClassFile.FieldType.boolean)) (by decide) rfl ?_
  intro p e s m args below meth c s₁ B hml hv
  obtain ⟨rfl, rfl, ⟨hP, hK, hD0⟩, hE⟩ := hv
  have hx := B.exec
  have hb := B.bytes
  have hR := B.returns
  have hts : ∀ w ∈ wl_isl, w.before _ s = true := atoms_spec (ws := wl_isl) B.pre
  have hT : ∀ {w : Cond}, w ∈ tTS → w.before _ s = true := fun h => hts _ (List.mem_cons_of_mem _ h)
  have hown : s.vm.findClass "java/lang/AbstractStringBuilder" = some m.cls := findClass_of_methodNamed B.named
  have hlocks := B.notSynchronized
  have hin : meth.name = "isLatin1" := (name_of_methodNamed B.named B.method).1
  have hS : va_S vj_N s.heap s.heap [] := va_S.rf
  have hD := hD0
  have hl := lv_entry ([.ref b]) (n := 1) (Nat.le_of_ble_eq_true rfl)
  rw [lg_entry_eq]
  generalize (lg_sl ([.ref b]) ++ List.replicate (1 - (lg_sl ([.ref b])).length) Slot.unset).toArray = ls at hl ⊢
  have hl : lv_has ls 1 [(0, .ref b)] := hl
  refine va_gets hx hb (hE) hS hown (hT wq_12) (fun _ h => h) dj_isl_0 ?_
  refine lv_if_eq hx hb dj_isl_3 (tgt := 17) rfl (fun h => absurd h (by decide)) (fun _ => ?_)
  refine lv_aload_n hx hb dj_isl_6 rfl (lv_at hl 0 rfl) ?_
  refine va_get (ref := "java/lang/AbstractStringBuilder") hx hb (fun w h => hT h) tinJ4 hown hK hP 0 rfl rfl 1 (by decide) (hT wq_6) (fun _ h => h) rfl dj_isl_7 ?_
  refine lv_if_ne hx hb dj_isl_10 (tgt := 17) rfl (fun h => absurd h (fun h => h rfl)) (fun _ => ?_)
  refine lv_iconst (v := 1) hx hb dj_isl_13 (by decide) ?_
  refine lv_goto hx hb dj_isl_14 (tgt := 18) rfl ?_
  exact W.zret (v := 1) hx hb hR (by decide) (fun t ht hW => ⟨⟨1, (), rfl, rfl, ht⟩, hS.F ht⟩) hS.2.2 dj_isl_18
theorem wq_13 : Cond.superclass "java/lang/StringBuilder" "java/lang/AbstractStringBuilder" ∈ tTS := tTS_of (mv_TS_of (k := 1070) (by decide +kernel) rfl)
theorem wq_14 : Cond.methodLink "java/lang/StringBuilder" 343 yj_aln ∈ tTS := tTS_of (mv_TS_of (k := 1216) (by decide +kernel) rfl)
theorem wq_15 : Cond.sameMethod "java/lang/AbstractStringBuilder" "java/lang/AbstractStringBuilder" "length" "()I" ∈ tTS := tTS_of (mv_TS_of (k := 1212) (by decide +kernel) rfl)
theorem wq_16 : Cond.instanceMethod yj_aln ∈ tTS := tTS_of (mv_TS_of (k := 1211) (by decide +kernel) rfl)
theorem wq_17 : Cond.initialized "java/lang/AbstractStringBuilder" ∈ tTS := tTS_of (mv_TS_of (k := 83) (by decide +kernel) rfl)
theorem cq_bln (l : Launch) (h0 : Heap) (D : va_G) (cB : ClassId) (b da n L : Nat) (f : Nat → Int32) : Met l yj_bln wl_bln ({ frames := 2, cells := 0, slots := 0, locals := 100 } : Room) (va_Pc [.ref b] (tS h0 D cB (tW b da cB n L f) tT vj_N)) (va_Qi (fun v (_ : Unit) => v = nI n) (fun _ t => t.heap = h0) vj_N) 0 (0) vj_N := by
  refine Met.ofW (cc := prog_32_method_93_code) (maxL := 1) (ret := (Option.some Jvm.ClassFile.FieldType.int)) (by decide) rfl ?_
  intro p e s m args below meth c s₁ B hml hv
  obtain ⟨rfl, rfl, ⟨hP, hK, hD0⟩, hE⟩ := hv
  have hx := B.exec
  have hb := B.bytes
  have hR := B.returns
  have hts : ∀ w ∈ wl_bln, w.before _ s = true := atoms_spec (ws := wl_bln) B.pre
  have hT : ∀ {w : Cond}, w ∈ tTS → w.before _ s = true := fun h => hts _ (List.mem_cons_of_mem _ h)
  have hown : s.vm.findClass "java/lang/StringBuilder" = some m.cls := findClass_of_methodNamed B.named
  have hlocks := B.notSynchronized
  have hin : meth.name = "length" := (name_of_methodNamed B.named B.method).1
  have hS : va_S vj_N s.heap s.heap [] := va_S.rf
  have hD := hD0
  have hl := lv_entry ([.ref b]) (n := 1) (Nat.le_of_ble_eq_true rfl)
  rw [lg_entry_eq]
  generalize (lg_sl ([.ref b]) ++ List.replicate (1 - (lg_sl ([.ref b])).length) Slot.unset).toArray = ls at hl ⊢
  have hl : lv_has ls 1 [(0, .ref b)] := hl
  refine lv_aload_n hx hb dj_bln_0 rfl (lv_at hl 0 rfl) ?_
  refine va_calli (va_runSU (hK.1 0 _ rfl).2 (As := []) (rest := []) ⟨hx, hb, hml, hown, hts⟩ (cq_aln l s.heap D cB b da n L f) (va_cwSU 0 hts (tgj (l := [Cond.methodLink "java/lang/StringBuilder" 343 yj_aln, Cond.sameMethod "java/lang/AbstractStringBuilder" "java/lang/AbstractStringBuilder" "length" "()I", Cond.superclass "java/lang/StringBuilder" "java/lang/AbstractStringBuilder", Cond.instanceMethod yj_aln, Cond.initialized "java/lang/AbstractStringBuilder", _]) (tm6 wq_14 wq_15 wq_13 wq_16 wq_17 wj_aln)) rfl rfl rfl (by decide +kernel) ⟨Nat.le_of_ble_eq_true rfl, Nat.le_of_ble_eq_true rfl⟩) ⟨tBlind tT_ok, va_recv hK hP (ci := 0) rfl (q0 := 0) rfl, fun U hU hW => ⟨rfl, tPre (A' := vj_N) tT_ok hP hK hD trivial hS [0, 1] rfl rfl rfl (fun q h => h.elim) U hU hW⟩⟩ rfl rfl hl.1 rfl (lv_room (Nat.le_of_ble_eq_true rfl)) dj_bln_1 ⟨Nat.le_of_ble_eq_true rfl, by show _ + 0 ≤ _; first | exact Nat.zero_le _ | omega⟩) hS (fun q _ h => h.elim) (fun q h => h.elim) (fun r u t H1 locs1 ht hvm hw hB hz1 hk1 hS1 => ?_)
  have hH := ht.symm.trans hB
  subst hH
  have hS := hS1
  have hw := hw
  subst hw
  exact W.iret (v := nI n) hx hb hR (fun t ht hW => ⟨⟨nI n, (), rfl, rfl, ht⟩, hS.F ht⟩) hS.2.2 dj_bln_4
theorem wq_18 : Cond.arrayClass .byte ∈ tTS := tTS_of (mv_TS_of (k := 408) (by decide +kernel) rfl)
theorem wq_19 : Cond.methodLink "java/util/Arrays" 304 Lib.Math.min.name ∈ tTS := tTS_of (mv_TS_of (k := 1109) (by decide +kernel) rfl)
theorem wq_20 : Cond.static Lib.Math.min.name ∈ tTS := tTS_of (mv_TS_of (k := 656) (by decide +kernel) rfl)
theorem wq_21 : Cond.code Lib.Math.min.name Lib.Math.min.code 2 (some .int) ∈ tTS := tTS_of (mv_TS_of (k := 657) (by decide +kernel) rfl)
theorem wq_22 : Cond.methodLink "java/util/Arrays" 150 arraycopyName ∈ tTS := tTS_of (mv_TS_of (k := 1110) (by decide +kernel) rfl)
theorem wq_23 : Cond.static arraycopyName ∈ tTS := tTS_of (mv_TS_of (k := 1111) (by decide +kernel) rfl)
theorem wq_24 : Cond.native arraycopyName ∈ tTS := tTS_of (mv_TS_of (k := 1112) (by decide +kernel) rfl)
theorem wq_25 : Cond.initialized "java/lang/System" ∈ tTS := tTS_of (mv_TS_of (k := 88) (by decide +kernel) rfl)
theorem cq_cpo (l : Launch) (h0 : Heap) (D : va_G) (cB : ClassId) (da L : Nat) (f : Nat → Int32) (q K : Nat) (hL : L < q) (hq : q ≤ 65536) (hK9 : q ≤ K) (hf : sb_Fit f) : Met l yj_cpo wl_cpo ({ frames := 1, cells := 1, slots := K, locals := 80 } : Room) (va_Pc [.ref da, .int (nI q)] (tS h0 D cB [(da, tA cB L f)] tT (va_A [(da, tA cB L f)] h0.size))) (va_Qr (fun (_ : Unit) => True) (fun _ a t => tP D cB (va_A [(da, tA cB L f)] h0.size) [(da, tA cB L f), (a, tA cB q (va_cpy f (fun _ => 0) 0 0 L))] t) (va_A [(da, tA cB L f)] h0.size)) 1 (K) (va_A [(da, tA cB L f)] h0.size) := by
  refine Met.ofW (cc := prog_39_method_121_code) (maxL := 3) (ret := (Option.some (Jvm.ClassFile.FieldType.array Jvm.ClassFile.FieldType.byte))) (by decide) rfl ?_
  intro p e s m args below meth c s₁ B hml hv
  obtain ⟨rfl, rfl, ⟨hP, hK, hD0⟩, hE⟩ := hv
  have hx := B.exec
  have hb := B.bytes
  have hR := B.returns
  have hts : ∀ w ∈ wl_cpo, w.before _ s = true := atoms_spec (ws := wl_cpo) B.pre
  have hT : ∀ {w : Cond}, w ∈ tTS → w.before _ s = true := fun h => hts _ (List.mem_cons_of_mem _ h)
  have hown : s.vm.findClass "java/util/Arrays" = some m.cls := findClass_of_methodNamed B.named
  have hlocks := B.notSynchronized
  have hin : meth.name = "copyOf" := (name_of_methodNamed B.named B.method).1
  have hD := hD0.self (sz := s.heap.size)
  generalize hAe : va_A [(da, tA cB L f)] s.heap.size = A at hD hE ⊢
  have hA : ∀ q : Nat, s.heap.size ≤ q → A q := fun q h => by rw [← hAe]; exact Or.inr h
  have hS : va_S A s.heap s.heap [] := va_S.rf
  have hl := lv_entry ([.ref da, .int (nI q)]) (n := 3) (Nat.le_of_ble_eq_true rfl)
  rw [lg_entry_eq]
  generalize (lg_sl ([.ref da, .int (nI q)]) ++ List.replicate (3 - (lg_sl ([.ref da, .int (nI q)])).length) Slot.unset).toArray = ls at hl ⊢
  have hl : lv_has ls 3 [(0, .ref da), (1, .int (nI q))] := hl
  refine lv_iload_n hx hb dj_cpo_0 rfl (lv_at hl 1 rfl) ?_
  refine lv_aload_n hx hb dj_cpo_1 rfl (lv_at hl 0 rfl) ?_
  refine va_alen hx hb hK hP 0 0 rfl rfl (v := nI L) rfl dj_cpo_2 ?_
  refine lv_icmp_ne hx hb dj_cpo_3 (tgt := 14) rfl (fun _ => ?_) (fun h => absurd h (fun h => by have := (nI_eq (by omega) (by omega)).mp h; omega))
  refine lv_iload_n hx hb dj_cpo_14 rfl (lv_at hl 1 rfl) ?_
  refine va_newa (atype := .byte) (ty := .byte) hx hb (hT wq_18) rfl hK hP hD hS hA (n := nI q) (N' := q) (a0 := (q, .inl (fun _ => 0))) (fun cA => rfl) (nI_pos (by omega)) (nI_clamp (by omega)) (by show q * 1 ≤ _; omega) ((show 0 + 1 ≤ 1 by omega)) ((show 0 + q ≤ K by omega)) dj_cpo_15 (fun a cA H hK hP hD hS => ?_)
  have ecA := tsameB hK
  subst ecA
  have hK := hK.sub (tys' := [(cA, .byte)]) [0] rfl
  refine lv_astore_n (lv' := [(2, .ref a), (0, .ref da), (1, .int (nI q))]) hx hb dj_cpo_17 rfl hl (by decide) rfl (fun ls hl => ?_)
  refine lv_aload_n hx hb dj_cpo_18 rfl (lv_at hl 1 rfl) ?_
  refine lv_iconst (v := 0) hx hb dj_cpo_19 (by decide) ?_
  refine lv_aload_n hx hb dj_cpo_20 rfl (lv_at hl 0 rfl) ?_
  refine lv_iconst (v := 0) hx hb dj_cpo_21 (by decide) ?_
  refine lv_aload_n hx hb dj_cpo_22 rfl (lv_at hl 1 rfl) ?_
  refine va_alen hx hb hK hP 0 0 rfl rfl (v := nI L) rfl dj_cpo_23 ?_
  refine lv_iload_n hx hb dj_cpo_24 rfl (lv_at hl 2 rfl) ?_
  refine va_mmin hx hb (hml.trans hl.1.symm) hown (hT wq_19) (hT wq_20) (hT wq_3) (hT wq_21) (Nat.le_of_ble_eq_true rfl) (Nat.le_of_ble_eq_true rfl) (by first | exact Nat.zero_le _ | exact Nat.le_refl _) (show 0 + q ≤ K by omega) dj_cpo_25 ?_
  rw [show (if nI q < nI L then nI q else nI L) = nI L from if_neg (nI_nlt (by omega) (by omega))]
  refine va_copyi hx hb (hml.trans hl.1.symm) hown (hT wq_22) (hT wq_24) (hT wq_23) (hT wq_25) hK hP hD hS 0 1 0 0 rfl rfl rfl rfl rfl (by decide) (by decide) (nI_pos (by omega)) (by rw [nI_clamp (by omega), sb_cl0]; omega) (by rw [nI_clamp (by omega), sb_cl0]; omega) (fun i _ => hf _) (Nat.le_of_ble_eq_true rfl) (Nat.le_of_ble_eq_true rfl) dj_cpo_28 (fun H locs hP hD hS => ?_)
  rw [nI_clamp (by omega), sb_cl0] at hP hD
  refine lv_aload_n hx hb dj_cpo_31 rfl (lv_at hl 0 rfl) ?_
  refine W.widen (k := 1) (n := K) (by omega) (by omega) ?_
  exact W.aret hx hb hR (.inr ⟨_, rfl⟩) (.inr ⟨_, rfl⟩) (fun t ht hW => ⟨⟨(), a, rfl, trivial, by rw [ht]; exact hP, va_K.moved hW.alike hK, hD⟩, hS.F ht⟩) hS.2.2 dj_cpo_32
theorem wq_26 : Cond.methodLink "java/lang/AbstractStringBuilder" 104 yj_ncp ∈ tTS := tTS_of (mv_TS_of (k := 1086) (by decide +kernel) rfl)
theorem wq_27 : Cond.sameMethod "java/lang/AbstractStringBuilder" "java/lang/AbstractStringBuilder" "newCapacity" "(I)I" ∈ tTS := tTS_of (mv_TS_of (k := 1264) (by decide +kernel) rfl)
theorem wq_28 : Cond.instanceMethod yj_ncp ∈ tTS := tTS_of (mv_TS_of (k := 1088) (by decide +kernel) rfl)
theorem wq_29 : Cond.methodLink "java/lang/AbstractStringBuilder" 108 yj_cpo ∈ tTS := tTS_of (mv_TS_of (k := 1099) (by decide +kernel) rfl)
theorem wq_30 : Cond.static yj_cpo ∈ tTS := tTS_of (mv_TS_of (k := 1100) (by decide +kernel) rfl)
theorem wq_31 : Cond.initialized "java/util/Arrays" ∈ tTS := tTS_of (mv_TS_of (k := 87) (by decide +kernel) rfl)
theorem cq_ens (l : Launch) (h0 : Heap) (D : va_G) (cB : ClassId) (b da n L : Nat) (f : Nat → Int32) (q K : Nat) (hLL : L ≤ 30000) (hq : q ≤ 65536) (hK9 : 2 * L + 2 + q ≤ K) (hf : sb_Fit f) : Met l yj_ens wl_ens ({ frames := 3, cells := 1, slots := K, locals := 128 } : Room) (va_Pc [.ref b, .int (nI q)] (tS h0 D cB (tW b da cB n L f) tT (va_A (tW b da cB n L f) h0.size))) (va_Qv (fun u : Nat × Nat × (Nat → Int32) => q ≤ u.2.1 ∧ L ≤ u.2.1 ∧ (u.2.1 ≤ L ∨ u.2.1 ≤ 2 * q) ∧ sb_Fit u.2.2 ∧ ∀ j, j < L → u.2.2 j = f j) (fun u t => tP D cB (va_A (tW b da cB n L f) h0.size) (tW b u.1 cB n u.2.1 u.2.2) t) (va_A (tW b da cB n L f) h0.size)) 1 (K) (va_A (tW b da cB n L f) h0.size) := by
  refine Met.ofW (cc := prog_15_method_9_code) (maxL := 3) (ret := (Option.none : Option Jvm.ClassFile.FieldType)) (by decide) rfl ?_
  intro p e s m args below meth c s₁ B hml hv
  obtain ⟨rfl, rfl, ⟨hP, hK, hD0⟩, hE⟩ := hv
  have hx := B.exec
  have hb := B.bytes
  have hR := B.returns
  have hts : ∀ w ∈ wl_ens, w.before _ s = true := atoms_spec (ws := wl_ens) B.pre
  have hT : ∀ {w : Cond}, w ∈ tTS → w.before _ s = true := fun h => hts _ (List.mem_cons_of_mem _ h)
  have hown : s.vm.findClass "java/lang/AbstractStringBuilder" = some m.cls := findClass_of_methodNamed B.named
  have hlocks := B.notSynchronized
  have hin : meth.name = "ensureCapacityInternal" := (name_of_methodNamed B.named B.method).1
  have hD := hD0.self (sz := s.heap.size)
  generalize hAe : va_A (tW b da cB n L f) s.heap.size = A at hD hE ⊢
  have hA : ∀ q : Nat, s.heap.size ≤ q → A q := fun q h => by rw [← hAe]; exact Or.inr h
  have hS : va_S A s.heap s.heap [] := va_S.rf
  have hl := lv_entry ([.ref b, .int (nI q)]) (n := 3) (Nat.le_of_ble_eq_true rfl)
  rw [lg_entry_eq]
  generalize (lg_sl ([.ref b, .int (nI q)]) ++ List.replicate (3 - (lg_sl ([.ref b, .int (nI q)])).length) Slot.unset).toArray = ls at hl ⊢
  have hl : lv_has ls 3 [(0, .ref b), (1, .int (nI q))] := hl
  refine lv_aload_n hx hb dj_ens_0 rfl (lv_at hl 0 rfl) ?_
  refine va_get (ref := "java/lang/AbstractStringBuilder") hx hb (fun w h => hT h) tinJ4 hown hK hP 0 rfl rfl 0 (by decide) (hT wq_5) (fun _ h => h) rfl dj_ens_1 ?_
  refine va_alen hx hb hK hP 1 0 rfl rfl (v := nI L) rfl dj_ens_4 ?_
  refine lv_aload_n hx hb dj_ens_5 rfl (lv_at hl 0 rfl) ?_
  refine va_get (ref := "java/lang/AbstractStringBuilder") hx hb (fun w h => hT h) tinJ4 hown hK hP 0 rfl rfl 1 (by decide) (hT wq_6) (fun _ h => h) rfl dj_ens_6 ?_
  refine lv_ishr hx hb dj_ens_9 ?_
  rw [sb_shr0]
  refine lv_istore_n (lv' := [(2, .int (nI L)), (0, .ref b), (1, .int (nI q))]) hx hb dj_ens_10 rfl hl (by decide) rfl (fun ls hl => ?_)
  refine lv_iload_n hx hb dj_ens_11 rfl (lv_at hl 2 rfl) ?_
  refine lv_iload_n hx hb dj_ens_12 rfl (lv_at hl 0 rfl) ?_
  refine lv_isub hx hb dj_ens_13 ?_
  have e1 : (nI q - nI L).toInt = (q : Int) - L := pk_sub_toInt (by omega) (by omega)
  refine lv_if_le hx hb dj_ens_14 (tgt := 38) rfl (fun h9 => ?_) (fun h9 => ?_)
  · have h8 : q ≤ L := by rw [Int32.le_iff_toInt_le, e1, Int32.toInt_zero] at h9; omega
    refine W.widen (k := 1) (n := K) (by omega) (by omega) ?_
    exact W.vret hx hb hR (fun t ht hW => ⟨⟨(da, L, f), rfl, ⟨h8, Nat.le_refl _, Or.inl (Nat.le_refl _), hf, fun _ _ => rfl⟩, by rw [ht]; exact hP, va_K.moved hW.alike hK, hD⟩, hS.F ht⟩) hS.2.2 dj_ens_38
  have h8 : L < q := by rw [Int32.le_iff_toInt_le, e1, Int32.toInt_zero] at h9; omega
  refine lv_aload_n hx hb dj_ens_17 rfl (lv_at hl 1 rfl) ?_
  refine lv_aload_n hx hb dj_ens_18 rfl (lv_at hl 1 rfl) ?_
  refine va_get (ref := "java/lang/AbstractStringBuilder") hx hb (fun w h => hT h) tinJ4 hown hK hP 0 rfl rfl 0 (by decide) (hT wq_5) (fun _ h => h) rfl dj_ens_19 ?_
  refine lv_aload_n hx hb dj_ens_22 rfl (lv_at hl 1 rfl) ?_
  refine lv_iload_n hx hb dj_ens_23 rfl (lv_at hl 2 rfl) ?_
  have hcp : sb_cap q L ≤ 2 * L + 2 + q := by unfold sb_cap; split; omega; split <;> omega
  have hcp2 : sb_cap q L ≤ 2 * q := by unfold sb_cap; split; omega; split <;> omega
  have hcg := sb_cap_ge q L
  have hcb : sb_cap q L ≤ 65536 := by unfold sb_cap; split; omega; split <;> omega
  refine va_calli (va_runU (As := [.int (nI q)]) (rest := [.ref da, .ref b]) ⟨hx, hb, hml, hown, hts⟩ (cq_ncp l _ D cB b da n L f q h8 hq) (tcwU (C := "java/lang/StringBuilder") 1 hts wj_ncp wq_26 wq_27 (hT wsel_ncp) wq_28 wq_17 rfl rfl (by decide +kernel) ⟨Nat.le_of_ble_eq_true rfl, Nat.le_of_ble_eq_true rfl⟩) ⟨tBlind tT_ok, va_recv hK hP (ci := 0) rfl (q0 := 0) rfl, fun U hU hW => ⟨rfl, tPre (wc := (tW b da cB n L f)) (A' := vj_N) tT_ok hP hK hD trivial hS [0, 1] rfl rfl rfl (fun q h => h.elim) U hU hW⟩⟩ rfl rfl hl.1 rfl (lv_room (Nat.le_of_ble_eq_true rfl)) dj_ens_24 ⟨by first | exact Nat.zero_le _ | exact Nat.le_refl _, by first | exact Nat.zero_le _ | exact Nat.le_refl _⟩) hS (fun q _ h => h.elim) (fun q h => h.elim) (fun r u t H1 locs1 ht hvm hw hB hz1 hk1 hS1 => ?_)
  have hH := ht.symm.trans hB
  subst hH
  have hS := hS1
  subst hw
  refine lv_aload_n hx hb dj_ens_27 rfl (lv_at hl 1 rfl) ?_
  refine va_get (ref := "java/lang/AbstractStringBuilder") hx hb (fun w h => hT h) tinJ4 hown hK hP 0 rfl rfl 1 (by decide) (hT wq_6) (fun _ h => h) rfl dj_ens_28 ?_
  refine lv_ishl hx hb dj_ens_31 ?_
  rw [sb_shl0]
  have hFc := va_free (wc := [(da, tA cB L f)]) hD hS hA [1] rfl
  refine va_callr (va_runS (As := [.ref da, .int (nI (sb_cap q L))]) (rest := [.ref b]) ⟨hx, hb, hml, hown, hts⟩ (cq_cpo l _ D cB da L f (sb_cap q L) K (by omega) hcb (by omega) hf) (va_cwS 2 hts (tgj (l := [Cond.methodLink "java/lang/AbstractStringBuilder" 108 yj_cpo, Cond.static yj_cpo, Cond.initialized "java/util/Arrays", _]) (tm4 wq_29 wq_30 wq_31 wj_cpo)) rfl rfl rfl (by decide +kernel) ⟨Nat.le_of_ble_eq_true rfl, Nat.le_of_ble_eq_true rfl⟩) ⟨tBlind tT_ok, fun U hU hW => ⟨rfl, tPre (wc := [(da, tA cB L f)]) tT_ok hP hK hD trivial hS [1] rfl rfl rfl hFc U hU hW⟩⟩ rfl rfl hl.1 rfl (lv_room (Nat.le_of_ble_eq_true rfl)) dj_ens_32 ⟨(show 0 + 1 ≤ 1 by omega), (show 0 + K ≤ K by omega)⟩) hS (fun q _ h => hFc q h) hFc (fun u d2 t H1 locs1 ht hvm hw hB hz1 hk1 hS => ?_)
  obtain ⟨hP1, hK1, hD1⟩ := hB
  rw [ht] at hP1
  have hK := va_K.moved hvm.symm hK1
  obtain ⟨hP, hD⟩ := va_join (wr := [(b, tB da n)]) (w1 := [(da, tA cB L f), (d2, tA cB (sb_cap q L) (va_cpy f (fun _ => 0) 0 0 L))]) hP hD [1] [0] rfl rfl (by decide) (by decide) hk1 hFc hP1 hD1
  dsimp only [List.nil_append, List.cons_append] at hP hD
  refine va_put (ref := "java/lang/AbstractStringBuilder") hx hb (fun w h => hT h) tinJ4 tyJ4 tyJ4_ok nmJ4 hown hK hP hD hS 0 rfl rfl 0 (by decide) (hT wq_5) (fun _ h => h) rfl (tyJ4_ok 0 (by decide)) rfl rfl (show 0 < 4 by decide) dj_ens_35 (fun H locs hP hD hS => ?_)
  have hP := hP.sub (ws' := tW b d2 cB n (sb_cap q L) (va_cpy f (fun _ => 0) 0 0 L)) [0, 2] rfl
  have hD := hD.sub (ws' := tW b d2 cB n (sb_cap q L) (va_cpy f (fun _ => 0) 0 0 L)) [0, 2] (by decide) rfl
  refine W.widen (k := 1) (n := K) (by omega) (by omega) ?_
  exact W.vret hx hb hR (fun t ht hW => ⟨⟨(d2, sb_cap q L, va_cpy f (fun _ => 0) 0 0 L), rfl, ⟨hcg, by show L ≤ sb_cap q L; omega, Or.inr hcp2, sb_fitC hf sb_fit0, fun j hj => show va_cpy f (fun _ => 0) 0 0 L j = f j from sb_cpy0 hj⟩, by rw [ht]; exact hP, va_K.moved hW.alike hK, hD⟩, hS.F ht⟩) hS.2.2 dj_ens_38
theorem tBlindJ {h0 : Heap} {a b n : Nat} {f : Nat → Value} {av : List Value} : FrameBlind (va_Pc av (fun U => U.heap = h0 ∧ vj_S a b n f U)) := fun x U g mk q => by
  obtain ⟨q0, q1, q2⟩ := q
  exact ⟨q0, q1, q2.to (U := U.calling g mk x) (Vm.Alike.refl U.vm) rfl⟩
theorem wq_32 : Cond.methodLink "java/lang/AbstractStringBuilder" 40 yj_cod ∈ tTS := tTS_of (mv_TS_of (k := 1142) (by decide +kernel) rfl)
theorem wq_33 : Cond.instanceMethod yj_cod ∈ tTS := tTS_of (mv_TS_of (k := 992) (by decide +kernel) rfl)
theorem wq_34 : Cond.selects "java/lang/String" yj_cod yj_cod ∈ tTS := tTS_of (mv_TS_of (k := 993) (by decide +kernel) rfl)
theorem wq_35 : Cond.initialized "java/lang/String" ∈ tTS := tTS_of (mv_TS_of (k := 81) (by decide +kernel) rfl)
theorem cq_inf (l : Launch) (h0 : Heap) (D : va_G) (cB : ClassId) (b da n L : Nat) (f : Nat → Int32) (a sd wd : Nat) (g : Nat → Int32) : Met l yj_inf wl_inf ({ frames := 1, cells := 0, slots := 0, locals := 80 } : Room) (va_Pc [.ref b, .ref a] (tS h0 D cB (tW b da cB n L f) (tR a sd wd g) vj_N)) (va_Qv (fun (_ : Unit) => True) (fun _ t => t.heap = h0) vj_N) 0 (0) vj_N := by
  refine Met.ofW (cc := prog_15_method_71_code) (maxL := 2) (ret := (Option.none : Option Jvm.ClassFile.FieldType)) (by decide) rfl ?_
  intro p e s m args below meth c s₁ B hml hv
  obtain ⟨rfl, rfl, ⟨hP, hK, hD0⟩, hE⟩ := hv
  have hx := B.exec
  have hb := B.bytes
  have hR := B.returns
  have hts : ∀ w ∈ wl_inf, w.before _ s = true := atoms_spec (ws := wl_inf) B.pre
  have hT : ∀ {w : Cond}, w ∈ tTS → w.before _ s = true := fun h => hts _ (List.mem_cons_of_mem _ h)
  have hown : s.vm.findClass "java/lang/AbstractStringBuilder" = some m.cls := findClass_of_methodNamed B.named
  have hlocks := B.notSynchronized
  have hin : meth.name = "inflateIfNeededFor" := (name_of_methodNamed B.named B.method).1
  have hS : va_S vj_N s.heap s.heap [] := va_S.rf
  have hD := hD0
  have hl := lv_entry ([.ref b, .ref a]) (n := 2) (Nat.le_of_ble_eq_true rfl)
  rw [lg_entry_eq]
  generalize (lg_sl ([.ref b, .ref a]) ++ List.replicate (2 - (lg_sl ([.ref b, .ref a])).length) Slot.unset).toArray = ls at hl ⊢
  have hl : lv_has ls 2 [(0, .ref b), (1, .ref a)] := hl
  refine va_gets hx hb (tR_c hE) hS hown (hT wq_12) (fun _ h => h) dj_inf_0 ?_
  refine lv_if_eq hx hb dj_inf_3 (tgt := 21) rfl (fun h => absurd h (by decide)) (fun _ => ?_)
  refine lv_aload_n hx hb dj_inf_6 rfl (lv_at hl 0 rfl) ?_
  refine va_get (ref := "java/lang/AbstractStringBuilder") hx hb (fun w h => hT h) tinJ4 hown hK hP 0 rfl rfl 1 (by decide) (hT wq_6) (fun _ h => h) rfl dj_inf_7 ?_
  refine lv_aload_n hx hb dj_inf_10 rfl (lv_at hl 1 rfl) ?_
  refine va_calli (va_runV (As := []) (rest := [.int 0]) ⟨hx, hb, hml, hown, hts⟩ (cj_cod l _ a sd wd _) (cwV 0 hts (tgjm (l := [Cond.methodLink "java/lang/AbstractStringBuilder" 40 yj_cod, Cond.instanceMethod yj_cod, Cond.selects "java/lang/String" yj_cod yj_cod, Cond.initialized "java/lang/String", _]) (tm5 wq_32 wq_33 wq_34 wq_35 wt_cod2)) rfl rfl rfl (by decide +kernel) ⟨Nat.le_of_ble_eq_true rfl, Nat.le_of_ble_eq_true rfl⟩) ⟨tBlindJ, tR_recv hE hS, fun U hU hW => ⟨rfl, hU, tR_j (tR_ok.to (A' := vj_N) hE hS (fun q h => h.elim) hU hW.alike)⟩⟩ rfl rfl hl.1 rfl (lv_room (Nat.le_of_ble_eq_true rfl)) dj_inf_11 ⟨by first | exact Nat.zero_le _ | exact Nat.le_refl _, by first | exact Nat.zero_le _ | exact Nat.le_refl _⟩) hS (fun q _ h => h.elim) (fun q h => h.elim) (fun r u t H1 locs1 ht hvm hw hB hz1 hk1 hS1 => ?_)
  have hH := ht.symm.trans hB
  subst hH
  have hS := hS1
  subst hw
  refine lv_icmp_eq hx hb dj_inf_14 (tgt := 21) rfl (fun _ => ?_) (fun h => absurd rfl h)
  exact W.vret hx hb hR (fun t ht hW => ⟨⟨(), rfl, trivial, ht⟩, hS.F ht⟩) hS.2.2 dj_inf_21
theorem wq_36 : Cond.methodLink "java/lang/String" 335 yj_cod ∈ tTS := tTS_of (mv_TS_of (k := 991) (by decide +kernel) rfl)
theorem wq_37 : Cond.fieldLink "java/lang/String" 9 "java/lang/String" "value" "[B" ∈ tTS := tTS_of (mv_TS_of (k := 1246) (by decide +kernel) rfl)
theorem wq_38 : Cond.methodLink "java/lang/String" 212 arraycopyName ∈ tTS := tTS_of (mv_TS_of (k := 1166) (by decide +kernel) rfl)
theorem cq_gby (l : Launch) (h0 : Heap) (D : va_G) (cB : ClassId) (da L : Nat) (f : Nat → Int32) (a sd wd : Nat) (g : Nat → Int32) (k : Nat) (hk : k + wd ≤ L) (hL : L < 2 ^ 30) (hg : sb_Fit g) : Met l yj_gby wl_gby ({ frames := 1, cells := 0, slots := 0, locals := 80 } : Room) (va_Pc [.ref a, .ref da, .int (nI k), .int 0] (tS h0 D cB [(da, tA cB L f)] (tR a sd wd g) (va_A [(da, tA cB L f)] h0.size))) (va_Qv (fun (_ : Unit) => True) (fun _ t => tP D cB (va_A [(da, tA cB L f)] h0.size) [(da, tA cB L (va_cpy g f 0 k wd))] t) (va_A [(da, tA cB L f)] h0.size)) 0 (0) (va_A [(da, tA cB L f)] h0.size) := by
  refine Met.ofW (cc := prog_31_method_147_code) (maxL := 4) (ret := (Option.none : Option Jvm.ClassFile.FieldType)) (by decide) rfl ?_
  intro p e s m args below meth c s₁ B hml hv
  obtain ⟨rfl, rfl, ⟨hP, hK, hD0⟩, hE⟩ := hv
  have hx := B.exec
  have hb := B.bytes
  have hR := B.returns
  have hts : ∀ w ∈ wl_gby, w.before _ s = true := atoms_spec (ws := wl_gby) B.pre
  have hT : ∀ {w : Cond}, w ∈ tTS → w.before _ s = true := fun h => hts _ (List.mem_cons_of_mem _ h)
  have hown : s.vm.findClass "java/lang/String" = some m.cls := findClass_of_methodNamed B.named
  have hlocks := B.notSynchronized
  have hin : meth.name = "getBytes" := (name_of_methodNamed B.named B.method).1
  have hD := hD0.self (sz := s.heap.size)
  generalize hAe : va_A [(da, tA cB L f)] s.heap.size = A at hD hE ⊢
  have hA : ∀ q : Nat, s.heap.size ≤ q → A q := fun q h => by rw [← hAe]; exact Or.inr h
  have hS : va_S A s.heap s.heap [] := va_S.rf
  have hl := lv_entry ([.ref a, .ref da, .int (nI k), .int 0]) (n := 4) (Nat.le_of_ble_eq_true rfl)
  rw [lg_entry_eq]
  generalize (lg_sl ([.ref a, .ref da, .int (nI k), .int 0]) ++ List.replicate (4 - (lg_sl ([.ref a, .ref da, .int (nI k), .int 0])).length) Slot.unset).toArray = ls at hl ⊢
  have hl : lv_has ls 4 [(0, .ref a), (1, .ref da), (2, .int (nI k)), (3, .int 0)] := hl
  refine lv_aload_n hx hb dj_gby_0 rfl (lv_at hl 0 rfl) ?_
  refine va_calli (va_runV (As := []) (rest := []) ⟨hx, hb, hml, hown, hts⟩ (cj_cod l _ a sd wd _) (cwV 0 hts (tgjm (l := [Cond.methodLink "java/lang/String" 335 yj_cod, Cond.instanceMethod yj_cod, Cond.selects "java/lang/String" yj_cod yj_cod, Cond.initialized "java/lang/String", _]) (tm5 wq_36 wq_33 wq_34 wq_35 wt_cod2)) rfl rfl rfl (by decide +kernel) ⟨Nat.le_of_ble_eq_true rfl, Nat.le_of_ble_eq_true rfl⟩) ⟨tBlindJ, tR_recv hE hS, fun U hU hW => ⟨rfl, hU, tR_j (tR_ok.to (A' := vj_N) hE hS (fun q h => h.elim) hU hW.alike)⟩⟩ rfl rfl hl.1 rfl (lv_room (Nat.le_of_ble_eq_true rfl)) dj_gby_1 ⟨by first | exact Nat.zero_le _ | exact Nat.le_refl _, by first | exact Nat.zero_le _ | exact Nat.le_refl _⟩) hS (fun q _ h => h.elim) (fun q h => h.elim) (fun r u t H1 locs1 ht hvm hw hB hz1 hk1 hS1 => ?_)
  have hH := ht.symm.trans hB
  subst hH
  have hS := hS1
  subst hw
  refine lv_iload_n hx hb dj_gby_4 rfl (lv_at hl 3 rfl) ?_
  refine lv_icmp_ne hx hb dj_gby_5 (tgt := 28) rfl (fun h => absurd h (fun h => h rfl)) (fun _ => ?_)
  refine lv_aload_n hx hb dj_gby_8 rfl (lv_at hl 0 rfl) ?_
  refine vk_getf hx hb hE.2.2.1 hS hown (hT wq_37) (fun _ h => h) dj_gby_9 ?_
  refine lv_iconst (v := 0) hx hb dj_gby_12 (by decide) ?_
  refine lv_aload_n hx hb dj_gby_13 rfl (lv_at hl 1 rfl) ?_
  refine lv_iload_n hx hb dj_gby_14 rfl (lv_at hl 2 rfl) ?_
  refine lv_iload_n hx hb dj_gby_15 rfl (lv_at hl 3 rfl) ?_
  refine lv_ishl hx hb dj_gby_16 ?_
  rw [sb_shl0]
  refine lv_aload_n hx hb dj_gby_17 rfl (lv_at hl 0 rfl) ?_
  refine vk_getf hx hb hE.2.2.1 hS hown (hT wq_37) (fun _ h => h) dj_gby_18 ?_
  refine va_tlen hx hb hE.2.2.2.1 hS (v := nI wd) rfl dj_gby_21 ?_
  refine vk_copyt hx hb (hml.trans hl.1.symm) hown (hT wq_38) (hT wq_24) (hT wq_23) (hT wq_25) hK hP hD hS hE.2.2.2.1 0 0 rfl rfl (by decide) (nI_pos (by omega)) (nI_pos (by omega)) (by rw [sb_cl0, nI_clamp (by omega)]; omega) (by rw [nI_clamp (by omega), nI_clamp (by omega)]; omega) (fun i _ => hg _) (Nat.le_of_ble_eq_true rfl) (Nat.le_of_ble_eq_true rfl) dj_gby_22 (fun H locs hP hD hS => ?_)
  rw [nI_clamp (n := wd) (by omega), nI_clamp (n := k) (by omega), sb_cl0] at hP hD
  refine lv_goto hx hb dj_gby_25 (tgt := 43) rfl ?_
  exact W.vret hx hb hR (fun t ht hW => ⟨⟨(), rfl, trivial, by rw [ht]; exact hP, va_K.moved hW.alike hK, hD⟩, hS.F ht⟩) hS.2.2 dj_gby_43
theorem wq_39 : Cond.methodLink "java/lang/AbstractStringBuilder" 397 yj_inf ∈ tTS := tTS_of (mv_TS_of (k := 1138) (by decide +kernel) rfl)
theorem wq_40 : Cond.sameMethod "java/lang/AbstractStringBuilder" "java/lang/AbstractStringBuilder" "inflateIfNeededFor" "(Ljava/lang/String;)V" ∈ tTS := tTS_of (mv_TS_of (k := 1266) (by decide +kernel) rfl)
theorem wq_41 : Cond.instanceMethod yj_inf ∈ tTS := tTS_of (mv_TS_of (k := 1140) (by decide +kernel) rfl)
theorem wq_42 : Cond.methodLink "java/lang/AbstractStringBuilder" 399 yj_gby ∈ tTS := tTS_of (mv_TS_of (k := 1162) (by decide +kernel) rfl)
theorem wq_43 : Cond.instanceMethod yj_gby ∈ tTS := tTS_of (mv_TS_of (k := 1163) (by decide +kernel) rfl)
theorem wq_44 : Cond.selects "java/lang/String" yj_gby yj_gby ∈ tTS := tTS_of (mv_TS_of (k := 1164) (by decide +kernel) rfl)
theorem cq_put (l : Launch) (h0 : Heap) (D : va_G) (cB : ClassId) (b da n L : Nat) (f : Nat → Int32) (a sd wd : Nat) (g : Nat → Int32) (k : Nat) (hk : k + wd ≤ L) (hL : L < 2 ^ 30) (hg : sb_Fit g) : Met l yj_put wl_put ({ frames := 2, cells := 0, slots := 0, locals := 103 } : Room) (va_Pc [.ref b, .int (nI k), .ref a] (tS h0 D cB (tW b da cB n L f) (tR a sd wd g) (va_A (tW b da cB n L f) h0.size))) (va_Qv (fun (_ : Unit) => True) (fun _ t => tP D cB (va_A (tW b da cB n L f) h0.size) (tW b da cB n L (va_cpy g f 0 k wd)) t) (va_A (tW b da cB n L f) h0.size)) 0 (0) (va_A (tW b da cB n L f) h0.size) := by
  refine Met.ofW (cc := prog_15_method_73_code) (maxL := 3) (ret := (Option.none : Option Jvm.ClassFile.FieldType)) (by decide) rfl ?_
  intro p e s m args below meth c s₁ B hml hv
  obtain ⟨rfl, rfl, ⟨hP, hK, hD0⟩, hE⟩ := hv
  have hx := B.exec
  have hb := B.bytes
  have hR := B.returns
  have hts : ∀ w ∈ wl_put, w.before _ s = true := atoms_spec (ws := wl_put) B.pre
  have hT : ∀ {w : Cond}, w ∈ tTS → w.before _ s = true := fun h => hts _ (List.mem_cons_of_mem _ h)
  have hown : s.vm.findClass "java/lang/AbstractStringBuilder" = some m.cls := findClass_of_methodNamed B.named
  have hlocks := B.notSynchronized
  have hin : meth.name = "putStringAt" := (name_of_methodNamed B.named B.method).1
  have hD := hD0.self (sz := s.heap.size)
  generalize hAe : va_A (tW b da cB n L f) s.heap.size = A at hD hE ⊢
  have hA : ∀ q : Nat, s.heap.size ≤ q → A q := fun q h => by rw [← hAe]; exact Or.inr h
  have hS : va_S A s.heap s.heap [] := va_S.rf
  have hl := lv_entry ([.ref b, .int (nI k), .ref a]) (n := 3) (Nat.le_of_ble_eq_true rfl)
  rw [lg_entry_eq]
  generalize (lg_sl ([.ref b, .int (nI k), .ref a]) ++ List.replicate (3 - (lg_sl ([.ref b, .int (nI k), .ref a])).length) Slot.unset).toArray = ls at hl ⊢
  have hl : lv_has ls 3 [(0, .ref b), (1, .int (nI k)), (2, .ref a)] := hl
  refine lv_aload_n hx hb dj_put_0 rfl (lv_at hl 0 rfl) ?_
  refine lv_aload_n hx hb dj_put_1 rfl (lv_at hl 2 rfl) ?_
  refine va_callv (va_runU (As := [.ref a]) (rest := []) ⟨hx, hb, hml, hown, hts⟩ (cq_inf l _ D cB b da n L f a sd wd g) (tcwU (C := "java/lang/StringBuilder") 1 hts wj_inf wq_39 wq_40 (hT wsel_inf) wq_41 wq_17 rfl rfl (by decide +kernel) ⟨Nat.le_of_ble_eq_true rfl, Nat.le_of_ble_eq_true rfl⟩) ⟨tBlind tR_ok, va_recv hK hP (ci := 0) rfl (q0 := 0) rfl, fun U hU hW => ⟨rfl, tPre (wc := (tW b da cB n L f)) (A' := vj_N) tR_ok hP hK hD hE hS [0, 1] rfl rfl rfl (fun q h => h.elim) U hU hW⟩⟩ rfl rfl hl.1 rfl (lv_room (Nat.le_of_ble_eq_true rfl)) dj_put_2 ⟨by first | exact Nat.zero_le _ | exact Nat.le_refl _, by first | exact Nat.zero_le _ | exact Nat.le_refl _⟩) hS (fun q _ h => h.elim) (fun q h => h.elim) (fun u t H1 locs1 ht hvm hw hB hz1 hk1 hS1 => ?_)
  have hH := ht.symm.trans hB
  subst hH
  have hS := hS1
  refine lv_aload_n hx hb dj_put_5 rfl (lv_at hl 2 rfl) ?_
  refine lv_aload_n hx hb dj_put_6 rfl (lv_at hl 0 rfl) ?_
  refine va_get (ref := "java/lang/AbstractStringBuilder") hx hb (fun w h => hT h) tinJ4 hown hK hP 0 rfl rfl 0 (by decide) (hT wq_5) (fun _ h => h) rfl dj_put_7 ?_
  refine lv_iload_n hx hb dj_put_10 rfl (lv_at hl 1 rfl) ?_
  refine lv_aload_n hx hb dj_put_11 rfl (lv_at hl 0 rfl) ?_
  refine va_get (ref := "java/lang/AbstractStringBuilder") hx hb (fun w h => hT h) tinJ4 hown hK hP 0 rfl rfl 1 (by decide) (hT wq_6) (fun _ h => h) rfl dj_put_12 ?_
  have hFc := va_free (wc := [(da, tA cB L f)]) hD hS hA [1] rfl
  refine va_callv (va_runV (As := [.ref da, .int (nI k), .int 0]) (rest := []) ⟨hx, hb, hml, hown, hts⟩ (cq_gby l _ D cB da L f a sd wd g k hk hL hg) (cwV 3 hts (tgj (l := [Cond.methodLink "java/lang/AbstractStringBuilder" 399 yj_gby, Cond.instanceMethod yj_gby, Cond.selects "java/lang/String" yj_gby yj_gby, Cond.initialized "java/lang/String", _]) (tm5 wq_42 wq_43 wq_44 wq_35 wj_gby)) rfl rfl rfl (by decide +kernel) ⟨Nat.le_of_ble_eq_true rfl, Nat.le_of_ble_eq_true rfl⟩) ⟨tBlind tR_ok, tR_recv hE hS, fun U hU hW => ⟨rfl, tPre (wc := [(da, tA cB L f)]) tR_ok hP hK hD hE hS [1] rfl rfl rfl hFc U hU hW⟩⟩ rfl rfl hl.1 rfl (lv_room (Nat.le_of_ble_eq_true rfl)) dj_put_15 ⟨(Nat.zero_le _), (Nat.zero_le _)⟩) hS (fun q _ h => hFc q h) hFc (fun u t H1 locs1 ht hvm hw hB hz1 hk1 hS => ?_)
  obtain ⟨hP1, hK1, hD1⟩ := hB
  rw [ht] at hP1
  have hK := va_K.moved hvm.symm hK1
  obtain ⟨hP, hD⟩ := va_join (wr := [(b, tB da n)]) (w1 := [(da, tA cB L (va_cpy g f 0 k wd))]) hP hD [1] [0] rfl rfl (by decide) (by decide) hk1 hFc hP1 hD1
  dsimp only [List.nil_append, List.cons_append] at hP hD
  exact W.vret hx hb hR (fun t ht hW => ⟨⟨(), rfl, trivial, by rw [ht]; exact hP, va_K.moved hW.alike hK, hD⟩, hS.F ht⟩) hS.2.2 dj_put_18
theorem wq_45 : Cond.methodLink "java/lang/AbstractStringBuilder" 32 yj_len ∈ tTS := tTS_of (mv_TS_of (k := 1133) (by decide +kernel) rfl)
theorem wq_46 : Cond.instanceMethod yj_len ∈ tTS := tTS_of (mv_TS_of (k := 988) (by decide +kernel) rfl)
theorem wq_47 : Cond.selects "java/lang/String" yj_len yj_len ∈ tTS := tTS_of (mv_TS_of (k := 989) (by decide +kernel) rfl)
theorem wq_48 : Cond.methodLink "java/lang/AbstractStringBuilder" 100 yj_ens ∈ tTS := tTS_of (mv_TS_of (k := 1082) (by decide +kernel) rfl)
theorem wq_49 : Cond.sameMethod "java/lang/AbstractStringBuilder" "java/lang/AbstractStringBuilder" "ensureCapacityInternal" "(I)V" ∈ tTS := tTS_of (mv_TS_of (k := 1263) (by decide +kernel) rfl)
theorem wq_50 : Cond.instanceMethod yj_ens ∈ tTS := tTS_of (mv_TS_of (k := 1084) (by decide +kernel) rfl)
theorem wq_51 : Cond.methodLink "java/lang/AbstractStringBuilder" 208 yj_put ∈ tTS := tTS_of (mv_TS_of (k := 1134) (by decide +kernel) rfl)
theorem wq_52 : Cond.sameMethod "java/lang/AbstractStringBuilder" "java/lang/AbstractStringBuilder" "putStringAt" "(ILjava/lang/String;)V" ∈ tTS := tTS_of (mv_TS_of (k := 1265) (by decide +kernel) rfl)
theorem wq_53 : Cond.instanceMethod yj_put ∈ tTS := tTS_of (mv_TS_of (k := 1136) (by decide +kernel) rfl)
theorem cq_aps (l : Launch) (h0 : Heap) (D : va_G) (cB : ClassId) (b da n L : Nat) (f : Nat → Int32) (a sd wd : Nat) (g : Nat → Int32) (hnL : n ≤ L) (hLL : L ≤ 30000) (hwd : wd ≤ 1000) (Kc : Nat) (hK9 : 2 * L + 2 + (n + wd) ≤ Kc) (hf : sb_Fit f) (hg : sb_Fit g) : Met l yj_aps wl_aps ({ frames := 4, cells := 1, slots := Kc, locals := 150 } : Room) (va_Pc [.ref b, .ref a] (tS h0 D cB (tW b da cB n L f) (tR a sd wd g) (va_A (tW b da cB n L f) h0.size))) (va_Qr (fun u : Nat × Nat × (Nat → Int32) => n + wd ≤ u.2.1 ∧ (u.2.1 ≤ L ∨ u.2.1 ≤ 2 * (n + wd)) ∧ sb_Fit u.2.2 ∧ (∀ j, j < n → u.2.2 j = f j) ∧ ∀ j, j < wd → u.2.2 (n + j) = g j) (fun u x t => x = b ∧ tP D cB (va_A (tW b da cB n L f) h0.size) (tW b u.1 cB (n + wd) u.2.1 u.2.2) t) (va_A (tW b da cB n L f) h0.size)) 1 (Kc) (va_A (tW b da cB n L f) h0.size) := by
  refine Met.ofW (cc := prog_15_method_22_code) (maxL := 3) (ret := (Option.some (Jvm.ClassFile.FieldType.object "java/lang/AbstractStringBuilder"))) (by decide) rfl ?_
  intro p e s m args below meth c s₁ B hml hv
  obtain ⟨rfl, rfl, ⟨hP, hK, hD0⟩, hE⟩ := hv
  have hx := B.exec
  have hb := B.bytes
  have hR := B.returns
  have hts : ∀ w ∈ wl_aps, w.before _ s = true := atoms_spec (ws := wl_aps) B.pre
  have hT : ∀ {w : Cond}, w ∈ tTS → w.before _ s = true := fun h => hts _ (List.mem_cons_of_mem _ h)
  have hown : s.vm.findClass "java/lang/AbstractStringBuilder" = some m.cls := findClass_of_methodNamed B.named
  have hlocks := B.notSynchronized
  have hin : meth.name = "append" := (name_of_methodNamed B.named B.method).1
  have hD := hD0.self (sz := s.heap.size)
  generalize hAe : va_A (tW b da cB n L f) s.heap.size = A at hD hE ⊢
  have hA : ∀ q : Nat, s.heap.size ≤ q → A q := fun q h => by rw [← hAe]; exact Or.inr h
  have hS : va_S A s.heap s.heap [] := va_S.rf
  have hl := lv_entry ([.ref b, .ref a]) (n := 3) (Nat.le_of_ble_eq_true rfl)
  rw [lg_entry_eq]
  generalize (lg_sl ([.ref b, .ref a]) ++ List.replicate (3 - (lg_sl ([.ref b, .ref a])).length) Slot.unset).toArray = ls at hl ⊢
  have hl : lv_has ls 3 [(0, .ref b), (1, .ref a)] := hl
  refine lv_aload_n hx hb dj_aps_0 rfl (lv_at hl 1 rfl) ?_
  refine lv_ifnonnull hx hb dj_aps_1 (tgt := 9) rfl ?_
  refine lv_aload_n hx hb dj_aps_9 rfl (lv_at hl 1 rfl) ?_
  refine va_calli (va_runV (As := []) (rest := []) ⟨hx, hb, hml, hown, hts⟩ (cj_len l _ a sd wd _) (cwV 0 hts (tgjm (l := [Cond.methodLink "java/lang/AbstractStringBuilder" 32 yj_len, Cond.instanceMethod yj_len, Cond.selects "java/lang/String" yj_len yj_len, Cond.initialized "java/lang/String", _]) (tm5 wq_45 wq_46 wq_47 wq_35 wt_len2)) rfl rfl rfl (by decide +kernel) ⟨Nat.le_of_ble_eq_true rfl, Nat.le_of_ble_eq_true rfl⟩) ⟨tBlindJ, tR_recv hE hS, fun U hU hW => ⟨rfl, hU, tR_j (tR_ok.to (A' := vj_N) hE hS (fun q h => h.elim) hU hW.alike)⟩⟩ rfl rfl hl.1 rfl (lv_room (Nat.le_of_ble_eq_true rfl)) dj_aps_10 ⟨by first | exact Nat.zero_le _ | exact Nat.le_refl _, by first | exact Nat.zero_le _ | exact Nat.le_refl _⟩) hS (fun q _ h => h.elim) (fun q h => h.elim) (fun r u t H1 locs1 ht hvm hw hB hz1 hk1 hS1 => ?_)
  have hH := ht.symm.trans hB
  subst hH
  have hS := hS1
  subst hw
  refine lv_istore_n (lv' := [(2, .int (nI wd)), (0, .ref b), (1, .ref a)]) hx hb dj_aps_13 rfl hl (by decide) rfl (fun ls hl => ?_)
  refine lv_aload_n hx hb dj_aps_14 rfl (lv_at hl 1 rfl) ?_
  refine lv_aload_n hx hb dj_aps_15 rfl (lv_at hl 1 rfl) ?_
  refine va_get (ref := "java/lang/AbstractStringBuilder") hx hb (fun w h => hT h) tinJ4 hown hK hP 0 rfl rfl 3 (by decide) (hT wq_11) (fun _ h => h) rfl dj_aps_16 ?_
  refine lv_iload_n hx hb dj_aps_19 rfl (lv_at hl 0 rfl) ?_
  refine lv_iadd hx hb dj_aps_20 ?_
  rw [nI_add]
  have hFc := va_free (wc := (tW b da cB n L f)) hD hS hA [0, 1] rfl
  refine va_callv (va_runU (As := [.int (nI (n + wd))]) (rest := []) ⟨hx, hb, hml, hown, hts⟩ (cq_ens l _ D cB b da n L f (n + wd) Kc hLL (by omega) hK9 hf) (tcwU (C := "java/lang/StringBuilder") 1 hts wj_ens wq_48 wq_49 (hT wsel_ens) wq_50 wq_17 rfl rfl (by decide +kernel) ⟨Nat.le_of_ble_eq_true rfl, Nat.le_of_ble_eq_true rfl⟩) ⟨tBlind tT_ok, va_recv hK hP (ci := 0) rfl (q0 := 0) rfl, fun U hU hW => ⟨rfl, tPre (wc := (tW b da cB n L f)) tT_ok hP hK hD trivial hS [0, 1] rfl rfl rfl hFc U hU hW⟩⟩ rfl rfl hl.1 rfl (lv_room (Nat.le_of_ble_eq_true rfl)) dj_aps_21 ⟨(show 0 + 1 ≤ 1 by omega), (show 0 + Kc ≤ Kc by omega)⟩) hS (fun q _ h => hFc q h) hFc (fun u t H1 locs1 ht hvm hw hB hz1 hk1 hS => ?_)
  obtain ⟨⟨d2, L2, f2⟩, rfl⟩ : ∃ z, z = u := ⟨_, rfl⟩
  obtain ⟨hw1, hw2, hw3, hw4, hw5⟩ := hw
  dsimp only at hw1 hw2 hw3 hw4 hw5 hB
  obtain ⟨hP1, hK1, hD1⟩ := hB
  rw [ht] at hP1
  have hK := va_K.moved hvm.symm hK1
  obtain ⟨hP, hD⟩ := va_join (wr := []) (w1 := tW b d2 cB n L2 f2) hP hD [0, 1] [] rfl rfl (by decide) (by decide) hk1 hFc hP1 hD1
  dsimp only [List.nil_append, List.cons_append] at hP hD
  refine lv_aload_n hx hb dj_aps_24 rfl (lv_at hl 1 rfl) ?_
  refine lv_aload_n hx hb dj_aps_25 rfl (lv_at hl 1 rfl) ?_
  refine va_get (ref := "java/lang/AbstractStringBuilder") hx hb (fun w h => hT h) tinJ4 hown hK hP 0 rfl rfl 3 (by decide) (hT wq_11) (fun _ h => h) rfl dj_aps_26 ?_
  refine lv_aload_n hx hb dj_aps_29 rfl (lv_at hl 2 rfl) ?_
  have hFc := va_free (wc := (tW b d2 cB n L2 f2)) hD hS hA [0, 1] rfl
  refine va_callv (va_runU (As := [.int (nI n), .ref a]) (rest := []) ⟨hx, hb, hml, hown, hts⟩ (cq_put l _ D cB b d2 n L2 f2 a sd wd g n hw1 (by omega) hg) (tcwU (C := "java/lang/StringBuilder") 2 hts wj_put wq_51 wq_52 (hT wsel_put) wq_53 wq_17 rfl rfl (by decide +kernel) ⟨Nat.le_of_ble_eq_true rfl, Nat.le_of_ble_eq_true rfl⟩) ⟨tBlind tR_ok, va_recv hK hP (ci := 0) rfl (q0 := 0) rfl, fun U hU hW => ⟨rfl, tPre (wc := (tW b d2 cB n L2 f2)) tR_ok hP hK hD hE hS [0, 1] rfl rfl rfl hFc U hU hW⟩⟩ rfl rfl hl.1 rfl (lv_room (Nat.le_of_ble_eq_true rfl)) dj_aps_30 ⟨(show 0 + 1 + 0 ≤ 1 by omega), (show 0 + Kc + 0 ≤ Kc by omega)⟩) hS (fun q _ h => hFc q h) hFc (fun u t H1 locs1 ht hvm hw hB hz1 hk1 hS => ?_)
  obtain ⟨hP1, hK1, hD1⟩ := hB
  rw [ht] at hP1
  have hK := va_K.moved hvm.symm hK1
  obtain ⟨hP, hD⟩ := va_join (wr := []) (w1 := tW b d2 cB n L2 (va_cpy g f2 0 n wd)) hP hD [0, 1] [] rfl rfl (by decide) (by decide) hk1 hFc hP1 hD1
  dsimp only [List.nil_append, List.cons_append] at hP hD
  refine lv_aload_n hx hb dj_aps_33 rfl (lv_at hl 1 rfl) ?_
  refine lv_dup hx hb dj_aps_34 rfl ?_
  refine va_get (ref := "java/lang/AbstractStringBuilder") hx hb (fun w h => hT h) tinJ4 hown hK hP 0 rfl rfl 3 (by decide) (hT wq_11) (fun _ h => h) rfl dj_aps_35 ?_
  refine lv_iload_n hx hb dj_aps_38 rfl (lv_at hl 0 rfl) ?_
  refine lv_iadd hx hb dj_aps_39 ?_
  rw [nI_add]
  refine va_put (ref := "java/lang/AbstractStringBuilder") hx hb (fun w h => hT h) tinJ4 tyJ4 tyJ4_ok nmJ4 hown hK hP hD hS 0 rfl rfl 3 (by decide) (hT wq_11) (fun _ h => h) rfl (tyJ4_ok 3 (by decide)) rfl rfl (show 3 < 4 by decide) dj_aps_40 (fun H locs hP hD hS => ?_)
  refine lv_aload_n hx hb dj_aps_43 rfl (lv_at hl 1 rfl) ?_
  refine W.widen (k := 1) (n := Kc) (by omega) (by omega) ?_
  refine W.aret hx hb hR (.inl ⟨_, rfl⟩) (.inr ⟨_, rfl⟩) (fun t ht hW => ⟨⟨(d2, L2, va_cpy g f2 0 n wd), b, rfl, ⟨hw1, hw3, sb_fitC hg hw4, fun j hj => ?_, fun j hj => ?_⟩, rfl, by rw [ht]; exact hP, va_K.moved hW.alike hK, hD⟩, hS.F ht⟩) hS.2.2 dj_aps_44
  · show va_cpy g f2 0 n wd j = f j
    rw [pk_cpy_out (by omega)]
    exact hw5 j (by omega)
  · show va_cpy g f2 0 n wd (n + j) = g j
    rw [pk_cpy_in (by omega) (by omega)]
    congr 1
    omega
theorem wq_54 : Cond.methodLink "java/lang/StringBuilder" 29 yj_aps ∈ tTS := tTS_of (mv_TS_of (k := 1075) (by decide +kernel) rfl)
theorem wq_55 : Cond.sameMethod "java/lang/AbstractStringBuilder" "java/lang/AbstractStringBuilder" "append" "(Ljava/lang/String;)Ljava/lang/AbstractStringBuilder;" ∈ tTS := tTS_of (mv_TS_of (k := 1261) (by decide +kernel) rfl)
theorem wq_56 : Cond.instanceMethod yj_aps ∈ tTS := tTS_of (mv_TS_of (k := 1076) (by decide +kernel) rfl)
theorem cq_sps (l : Launch) (h0 : Heap) (D : va_G) (cB : ClassId) (b da n L : Nat) (f : Nat → Int32) (a sd wd : Nat) (g : Nat → Int32) (hnL : n ≤ L) (hLL : L ≤ 30000) (hwd : wd ≤ 1000) (Kc : Nat) (hK9 : 2 * L + 2 + (n + wd) ≤ Kc) (hf : sb_Fit f) (hg : sb_Fit g) : Met l yj_sps wl_sps ({ frames := 5, cells := 1, slots := Kc, locals := 172 } : Room) (va_Pc [.ref b, .ref a] (tS h0 D cB (tW b da cB n L f) (tR a sd wd g) (va_A (tW b da cB n L f) h0.size))) (va_Qr (fun u : Nat × Nat × (Nat → Int32) => n + wd ≤ u.2.1 ∧ (u.2.1 ≤ L ∨ u.2.1 ≤ 2 * (n + wd)) ∧ sb_Fit u.2.2 ∧ (∀ j, j < n → u.2.2 j = f j) ∧ ∀ j, j < wd → u.2.2 (n + j) = g j) (fun u x t => x = b ∧ tP D cB (va_A (tW b da cB n L f) h0.size) (tW b u.1 cB (n + wd) u.2.1 u.2.2) t) (va_A (tW b da cB n L f) h0.size)) 1 (Kc) (va_A (tW b da cB n L f) h0.size) := by
  refine Met.ofW (cc := prog_32_method_7_code) (maxL := 2) (ret := (Option.some (Jvm.ClassFile.FieldType.object "java/lang/StringBuilder"))) (by decide) rfl ?_
  intro p e s m args below meth c s₁ B hml hv
  obtain ⟨rfl, rfl, ⟨hP, hK, hD0⟩, hE⟩ := hv
  have hx := B.exec
  have hb := B.bytes
  have hR := B.returns
  have hts : ∀ w ∈ wl_sps, w.before _ s = true := atoms_spec (ws := wl_sps) B.pre
  have hT : ∀ {w : Cond}, w ∈ tTS → w.before _ s = true := fun h => hts _ (List.mem_cons_of_mem _ h)
  have hown : s.vm.findClass "java/lang/StringBuilder" = some m.cls := findClass_of_methodNamed B.named
  have hlocks := B.notSynchronized
  have hin : meth.name = "append" := (name_of_methodNamed B.named B.method).1
  have hD := hD0.self (sz := s.heap.size)
  generalize hAe : va_A (tW b da cB n L f) s.heap.size = A at hD hE ⊢
  have hA : ∀ q : Nat, s.heap.size ≤ q → A q := fun q h => by rw [← hAe]; exact Or.inr h
  have hS : va_S A s.heap s.heap [] := va_S.rf
  have hl := lv_entry ([.ref b, .ref a]) (n := 2) (Nat.le_of_ble_eq_true rfl)
  rw [lg_entry_eq]
  generalize (lg_sl ([.ref b, .ref a]) ++ List.replicate (2 - (lg_sl ([.ref b, .ref a])).length) Slot.unset).toArray = ls at hl ⊢
  have hl : lv_has ls 2 [(0, .ref b), (1, .ref a)] := hl
  refine lv_aload_n hx hb dj_sps_0 rfl (lv_at hl 0 rfl) ?_
  refine lv_aload_n hx hb dj_sps_1 rfl (lv_at hl 1 rfl) ?_
  have hFc := va_free (wc := (tW b da cB n L f)) hD hS hA [0, 1] rfl
  refine va_callr (va_runSU (hK.1 0 _ rfl).2 (As := [.ref a]) (rest := []) ⟨hx, hb, hml, hown, hts⟩ (cq_aps l _ D cB b da n L f a sd wd g hnL hLL hwd Kc hK9 hf hg) (va_cwSU 1 hts (tgj (l := [Cond.methodLink "java/lang/StringBuilder" 29 yj_aps, Cond.sameMethod "java/lang/AbstractStringBuilder" "java/lang/AbstractStringBuilder" "append" "(Ljava/lang/String;)Ljava/lang/AbstractStringBuilder;", Cond.superclass "java/lang/StringBuilder" "java/lang/AbstractStringBuilder", Cond.instanceMethod yj_aps, Cond.initialized "java/lang/AbstractStringBuilder", _]) (tm6 wq_54 wq_55 wq_13 wq_56 wq_17 wj_aps)) rfl rfl rfl (by decide +kernel) ⟨Nat.le_of_ble_eq_true rfl, Nat.le_of_ble_eq_true rfl⟩) ⟨tBlind tR_ok, va_recv hK hP (ci := 0) rfl (q0 := 0) rfl, fun U hU hW => ⟨rfl, tPre (wc := (tW b da cB n L f)) tR_ok hP hK hD hE hS [0, 1] rfl rfl rfl hFc U hU hW⟩⟩ rfl rfl hl.1 rfl (lv_room (Nat.le_of_ble_eq_true rfl)) dj_sps_2 ⟨(show 0 + 1 ≤ 1 by omega), (show 0 + Kc ≤ Kc by omega)⟩) hS (fun q _ h => hFc q h) hFc (fun u ra t H1 locs1 ht hvm hw hB hz1 hk1 hS => ?_)
  obtain ⟨⟨d2, L2, f2⟩, rfl⟩ : ∃ z, z = u := ⟨_, rfl⟩
  obtain ⟨hra, hB⟩ := hB
  rw [hra]
  obtain ⟨hP1, hK1, hD1⟩ := hB
  rw [ht] at hP1
  have hK := va_K.moved hvm.symm hK1
  obtain ⟨hP, hD⟩ := va_join (wr := []) (w1 := tW b d2 cB (n + wd) L2 f2) hP hD [0, 1] [] rfl rfl (by decide) (by decide) hk1 hFc hP1 hD1
  dsimp only [List.nil_append, List.cons_append] at hP hD
  refine lv_pop hx hb dj_sps_5 rfl ?_
  refine lv_aload_n hx hb dj_sps_6 rfl (lv_at hl 0 rfl) ?_
  refine W.widen (k := 1) (n := Kc) (by omega) (by omega) ?_
  exact W.aret hx hb hR (.inl ⟨_, rfl⟩) (.inr ⟨_, rfl⟩) (fun t ht hW => ⟨⟨(d2, L2, f2), _, rfl, hw, rfl, by rw [ht]; exact hP, va_K.moved hW.alike hK, hD⟩, hS.F ht⟩) hS.2.2 dj_sps_7
def tdl (v : Nat) : Nat := if v < 10 then 1 else 2
def tdg (v j : Nat) : Nat := if v < 10 then 48 + v % 10 else if j = 0 then 48 + v / 10 else 48 + v % 10
theorem tneg {a b : Nat} (ha : a < 2 ^ 31) (hb : b < 2 ^ 31) : -nI a ≤ -nI b ↔ b ≤ a := sb_nle ha hb
theorem tnarB : ∀ c, c < 128 → vp_nar .byte (nI c) = nI c := by decide +kernel
theorem tfitB : ∀ c, c < 128 → fits .byte (.int (nI c)) = true := by decide +kernel
theorem cq_ssz (l : Launch) (h0 : Heap) (v : Nat) (hv : v < 100) : Met l yj_ssz wl_ssz ({ frames := 1, cells := 0, slots := 0, locals := 80 } : Room) (va_Pc [.int (nI v)] (fun U => U.heap = h0)) (va_Qi (fun r (_ : Unit) => r = nI (tdl v)) (fun _ t => t.heap = h0) vj_N) 0 (0) vj_N := by
  refine Met.ofW (cc := prog_27_method_13_code) (maxL := 4) (ret := (Option.some Jvm.ClassFile.FieldType.int)) (by decide) rfl ?_
  intro p e s m args below meth c s₁ B hml hv
  obtain ⟨rfl, rfl⟩ := hv
  have hx := B.exec
  have hb := B.bytes
  have hR := B.returns
  have hts : ∀ w ∈ wl_ssz, w.before _ s = true := atoms_spec (ws := wl_ssz) B.pre
  have hT : ∀ {w : Cond}, w ∈ tTS → w.before _ s = true := fun h => hts _ (List.mem_cons_of_mem _ h)
  have hown : s.vm.findClass "java/lang/Integer" = some m.cls := findClass_of_methodNamed B.named
  have hlocks := B.notSynchronized
  have hin : meth.name = "stringSize" := (name_of_methodNamed B.named B.method).1
  have hS : va_S vj_N s.heap s.heap [] := va_S.rf
  have hl := lv_entry ([.int (nI v)]) (n := 4) (Nat.le_of_ble_eq_true rfl)
  rw [lg_entry_eq]
  generalize (lg_sl ([.int (nI v)]) ++ List.replicate (4 - (lg_sl ([.int (nI v)])).length) Slot.unset).toArray = ls at hl ⊢
  have hl : lv_has ls 4 [(0, .int (nI v))] := hl
  refine lv_iconst (v := 1) hx hb dj_ssz_0 (by decide) ?_
  refine lv_istore_n (lv' := [(1, .int 1), (0, .int (nI v))]) hx hb dj_ssz_1 rfl hl (by decide) rfl (fun ls hl => ?_)
  refine lv_iload_n hx hb dj_ssz_2 rfl (lv_at hl 1 rfl) ?_
  refine lv_if_lt hx hb dj_ssz_3 (tgt := 11) rfl (fun h => absurd h (nI_pos (by omega))) (fun _ => ?_)
  refine lv_iconst (v := 0) hx hb dj_ssz_6 (by decide) ?_
  refine lv_istore_n (lv' := [(1, .int 0), (0, .int (nI v))]) hx hb dj_ssz_7 rfl hl (by decide) rfl (fun ls hl => ?_)
  refine lv_iload_n hx hb dj_ssz_8 rfl (lv_at hl 1 rfl) ?_
  refine lv_ineg hx hb dj_ssz_9 ?_
  refine lv_istore_n (lv' := [(0, .int (-nI v)), (1, .int 0)]) hx hb dj_ssz_10 rfl hl (by decide) rfl (fun ls hl => ?_)
  refine lv_bipush (v := -nI 10) hx hb dj_ssz_11 (by decide) ?_
  refine lv_istore_n (lv' := [(2, .int (-nI 10)), (0, .int (-nI v)), (1, .int 0)]) hx hb dj_ssz_13 rfl hl (by decide) rfl (fun ls hl => ?_)
  refine lv_iconst (v := 1) hx hb dj_ssz_14 (by decide) ?_
  refine lv_istore_n (lv' := [(3, .int 1), (2, .int (-nI 10)), (0, .int (-nI v)), (1, .int 0)]) hx hb dj_ssz_15 rfl hl (by decide) rfl (fun ls hl => ?_)
  refine lv_iload_n hx hb dj_ssz_16 rfl (lv_at hl 0 rfl) ?_
  refine lv_bipush (v := 10) hx hb dj_ssz_17 (by decide) ?_
  refine lv_icmp_ge hx hb dj_ssz_19 (tgt := 42) rfl (fun h => absurd h (by decide)) (fun _ => ?_)
  refine lv_iload_n hx hb dj_ssz_22 rfl (lv_at hl 2 rfl) ?_
  refine lv_iload_n hx hb dj_ssz_23 rfl (lv_at hl 1 rfl) ?_
  refine lv_icmp_le hx hb dj_ssz_24 (tgt := 31) rfl (fun h9 => ?_) (fun h9 => ?_)
  rotate_left
  · have h8 : v < 10 := by rw [tneg (by omega) (by omega)] at h9; omega
    refine lv_iload_n hx hb dj_ssz_27 rfl (lv_at hl 0 rfl) ?_
    refine lv_iload_n hx hb dj_ssz_28 rfl (lv_at hl 3 rfl) ?_
    refine lv_iadd hx hb dj_ssz_29 ?_
    rw [show (1 : Int32) + 0 = nI (tdl v) by unfold tdl; rw [if_pos h8]; decide]
    exact W.iret (v := nI (tdl v)) hx hb hR (fun t ht hW => ⟨⟨nI (tdl v), (), rfl, rfl, ht⟩, hS.F ht⟩) hS.2.2 dj_ssz_30
  have h8 : 10 ≤ v := by rw [tneg (by omega) (by omega)] at h9; omega
  refine lv_bipush (v := 10) hx hb dj_ssz_31 (by decide) ?_
  refine lv_iload_n hx hb dj_ssz_33 rfl (lv_at hl 1 rfl) ?_
  refine lv_imul hx hb dj_ssz_34 ?_
  rw [show (10 : Int32) * -nI 10 = -nI 100 by decide]
  refine lv_istore_n (lv' := [(2, .int (-nI 100)), (3, .int 1), (0, .int (-nI v)), (1, .int 0)]) hx hb dj_ssz_35 rfl hl (by decide) rfl (fun ls hl => ?_)
  refine lv_iinc (v := 2) (lv' := [(3, .int (2)), (2, .int (-nI 100)), (0, .int (-nI v)), (1, .int 0)]) hx hb dj_ssz_36 hl (k := 1) rfl (by decide) (by decide) rfl (fun ls hl => ?_)
  refine lv_goto hx hb dj_ssz_39 (tgt := 16) rfl ?_
  refine lv_iload_n hx hb dj_ssz_16 rfl (lv_at hl 0 rfl) ?_
  refine lv_bipush (v := 10) hx hb dj_ssz_17 (by decide) ?_
  refine lv_icmp_ge hx hb dj_ssz_19 (tgt := 42) rfl (fun h => absurd h (by decide)) (fun _ => ?_)
  refine lv_iload_n hx hb dj_ssz_22 rfl (lv_at hl 2 rfl) ?_
  refine lv_iload_n hx hb dj_ssz_23 rfl (lv_at hl 1 rfl) ?_
  refine lv_icmp_le hx hb dj_ssz_24 (tgt := 31) rfl (fun h => absurd h (by rw [tneg (by omega) (by omega)]; omega)) (fun _ => ?_)
  refine lv_iload_n hx hb dj_ssz_27 rfl (lv_at hl 0 rfl) ?_
  refine lv_iload_n hx hb dj_ssz_28 rfl (lv_at hl 3 rfl) ?_
  refine lv_iadd hx hb dj_ssz_29 ?_
  rw [show (2 : Int32) + 0 = nI (tdl v) by unfold tdl; rw [if_neg (by omega)]; decide]
  exact W.iret (v := nI (tdl v)) hx hb hR (fun t ht hW => ⟨⟨nI (tdl v), (), rfl, rfl, ht⟩, hS.F ht⟩) hS.2.2 dj_ssz_30
theorem wq_57 : Cond.fieldLink "java/lang/Integer" 83 "java/lang/Integer" "DigitOnes" "[B" ∈ tTS := tTS_of (mv_TS_of (k := 1181) (by decide +kernel) rfl)
theorem wq_58 : Cond.fieldLink "java/lang/Integer" 87 "java/lang/Integer" "DigitTens" "[B" ∈ tTS := tTS_of (mv_TS_of (k := 1183) (by decide +kernel) rfl)
theorem cq_gch (l : Launch) (h0 : Heap) (D : va_G) (cB : ClassId) (da L : Nat) (f : Nat → Int32) (d1 d2 : Nat) (v k : Nat) (hv : v < 100) (hk : k ≤ L) (hL : L < 2 ^ 30) (hkd : tdl v ≤ k) (hf : sb_Fit f) : Met l yj_gch wl_gch ({ frames := 1, cells := 0, slots := 0, locals := 80 } : Room) (va_Pc [.int (nI v), .int (nI k), .ref da] (tS h0 D cB [(da, tA cB L f)] (tG d1 d2) (va_A [(da, tA cB L f)] h0.size))) (va_Qi (fun (_ : Int32) (u : Nat → Int32) => sb_Fit u ∧ (∀ j, j < k - tdl v → u j = f j) ∧ ∀ j, j < tdl v → u (k - tdl v + j) = nI (tdg v j)) (fun u t => tP D cB (va_A [(da, tA cB L f)] h0.size) [(da, tA cB L u)] t) (va_A [(da, tA cB L f)] h0.size)) 0 (0) (va_A [(da, tA cB L f)] h0.size) := by
  refine Met.ofW (cc := prog_27_method_12_code) (maxL := 7) (ret := (Option.some Jvm.ClassFile.FieldType.int)) (by decide) rfl ?_
  intro p e s m args below meth c s₁ B hml hv
  obtain ⟨rfl, rfl, ⟨hP, hK, hD0⟩, hE⟩ := hv
  have hx := B.exec
  have hb := B.bytes
  have hR := B.returns
  have hts : ∀ w ∈ wl_gch, w.before _ s = true := atoms_spec (ws := wl_gch) B.pre
  have hT : ∀ {w : Cond}, w ∈ tTS → w.before _ s = true := fun h => hts _ (List.mem_cons_of_mem _ h)
  have hown : s.vm.findClass "java/lang/Integer" = some m.cls := findClass_of_methodNamed B.named
  have hlocks := B.notSynchronized
  have hin : meth.name = "getChars" := (name_of_methodNamed B.named B.method).1
  have hD := hD0.self (sz := s.heap.size)
  generalize hAe : va_A [(da, tA cB L f)] s.heap.size = A at hD hE ⊢
  have hA : ∀ q : Nat, s.heap.size ≤ q → A q := fun q h => by rw [← hAe]; exact Or.inr h
  have hS : va_S A s.heap s.heap [] := va_S.rf
  have hl := lv_entry ([.int (nI v), .int (nI k), .ref da]) (n := 7) (Nat.le_of_ble_eq_true rfl)
  rw [lg_entry_eq]
  generalize (lg_sl ([.int (nI v), .int (nI k), .ref da]) ++ List.replicate (7 - (lg_sl ([.int (nI v), .int (nI k), .ref da])).length) Slot.unset).toArray = ls at hl ⊢
  have hl : lv_has ls 7 [(0, .int (nI v)), (1, .int (nI k)), (2, .ref da)] := hl
  refine lv_iload_n hx hb dj_gch_0 rfl (lv_at hl 1 rfl) ?_
  refine lv_istore (lv' := [(5, .int (nI k)), (0, .int (nI v)), (1, .int (nI k)), (2, .ref da)]) hx hb dj_gch_1 hl (by decide) rfl (fun ls hl => ?_)
  refine lv_iload_n hx hb dj_gch_3 rfl (lv_at hl 1 rfl) ?_
  refine lv_if_ge hx hb dj_gch_4 (tgt := 11) rfl (fun _ => ?_) (fun h => absurd (show nI v ≥ 0 from nI_pos' (by omega)) h)
  refine lv_iconst (v := 0) hx hb dj_gch_11 (by decide) ?_
  refine lv_istore (lv' := [(6, .int 0), (5, .int (nI k)), (0, .int (nI v)), (1, .int (nI k)), (2, .ref da)]) hx hb dj_gch_12 hl (by decide) rfl (fun ls hl => ?_)
  refine lv_iload hx hb dj_gch_14 (lv_at hl 0 rfl) ?_
  refine lv_if_ne hx hb dj_gch_16 (tgt := 22) rfl (fun h => absurd h (fun h => h rfl)) (fun _ => ?_)
  refine lv_iload_n hx hb dj_gch_19 rfl (lv_at hl 2 rfl) ?_
  refine lv_ineg hx hb dj_gch_20 ?_
  refine lv_istore_n (lv' := [(0, .int (-nI v)), (6, .int 0), (5, .int (nI k)), (1, .int (nI k)), (2, .ref da)]) hx hb dj_gch_21 rfl hl (by decide) rfl (fun ls hl => ?_)
  refine lv_iload_n hx hb dj_gch_22 rfl (lv_at hl 0 rfl) ?_
  refine lv_bipush (v := -nI 100) hx hb dj_gch_23 (by decide) ?_
  refine lv_icmp_gt hx hb dj_gch_25 (tgt := 72) rfl (fun _ => ?_) (fun h => absurd (show -nI v > -nI 100 from (sb_nlt (by omega) (by omega)).mpr (by omega)) h)
  have hk1 : 0 < k := by unfold tdl at hkd; split at hkd <;> omega
  refine lv_aload_n hx hb dj_gch_72 rfl (lv_at hl 4 rfl) ?_
  refine lv_iinc (v := nI (k - 1)) (lv' := [(5, .int (nI (k - 1))), (0, .int (-nI v)), (6, .int 0), (1, .int (nI k)), (2, .ref da)]) hx hb dj_gch_73 hl (k := 2) rfl (sb_m1 (by omega)) (by decide) rfl (fun ls hl => ?_)
  refine lv_iload hx hb dj_gch_76 (lv_at hl 0 rfl) ?_
  refine va_gets hx hb hE.2.1 hS hown (hT wq_57) (fun _ h => h) dj_gch_78 ?_
  refine lv_iload_n hx hb dj_gch_81 rfl (lv_at hl 1 rfl) ?_
  refine lv_ineg hx hb dj_gch_82 ?_
  rw [show - -nI v = nI v from Int32.neg_neg]
  refine va_tb hx hb hE.2.2.1 hS (i := nI v) (vp_in_nI (by omega) (by omega)) (v := .int (nI (48 + v % 10))) (by rw [nI_clamp (by omega)]) dj_gch_83 ?_
  refine va_bast hx hb hK hP hD hS 0 0 rfl rfl (vp_in_nI (by omega) (by omega)) dj_gch_84 (fun H locs hP hD hS => ?_)
  rw [nI_clamp (by omega), tnarB _ (by omega)] at hP hD
  refine lv_iload_n hx hb dj_gch_85 rfl (lv_at hl 1 rfl) ?_
  refine lv_bipush (v := -nI 9) hx hb dj_gch_86 (by decide) ?_
  refine lv_icmp_ge hx hb dj_gch_88 (tgt := 104) rfl (fun h9 => ?_) (fun h9 => ?_)
  · have h8 : v < 10 := by have := (sb_nle (a := 9) (b := v) (by omega) (by omega)).mp h9; omega
    have hdl : tdl v = 1 := by unfold tdl; rw [if_pos h8]
    refine lv_iload hx hb dj_gch_104 (lv_at hl 2 rfl) ?_
    refine lv_if_eq hx hb dj_gch_106 (tgt := 118) rfl (fun _ => ?_) (fun h => absurd rfl h)
    refine lv_iload hx hb dj_gch_118 (lv_at hl 0 rfl) ?_
    exact W.iret (v := nI (k - 1)) hx hb hR (fun t ht hW => ⟨⟨nI (k - 1), upd f (k - 1) (nI (48 + v % 10)), rfl, ⟨sb_fitU hf (tfitB _ (by omega)), fun j hj => pk_un (by omega), fun j hj => by
      rw [hdl] at hj ⊢
      obtain rfl : j = 0 := by omega
      rw [Nat.add_zero, pk_us]
      unfold tdg
      rw [if_pos h8]⟩, by rw [ht]; exact hP, va_K.moved hW.alike hK, hD⟩, hS.F ht⟩) hS.2.2 dj_gch_120
  have h8 : 10 ≤ v := by rcases Nat.lt_or_ge v 10 with h | h; exact absurd ((sb_nle (a := 9) (b := v) (by omega) (by omega)).mpr (by omega)) h9; exact h
  have hdl : tdl v = 2 := by unfold tdl; rw [if_neg (by omega)]
  rw [hdl] at hkd
  refine lv_aload_n hx hb dj_gch_91 rfl (lv_at hl 4 rfl) ?_
  refine lv_iinc (v := nI (k - 1 - 1)) (lv' := [(5, .int (nI (k - 1 - 1))), (0, .int (-nI v)), (6, .int 0), (1, .int (nI k)), (2, .ref da)]) hx hb dj_gch_92 hl (k := 0) rfl (sb_m1 (by omega)) (by decide) rfl (fun ls hl => ?_)
  refine lv_iload hx hb dj_gch_95 (lv_at hl 0 rfl) ?_
  refine va_gets hx hb hE.2.2.2.1 hS hown (hT wq_58) (fun _ h => h) dj_gch_97 ?_
  refine lv_iload_n hx hb dj_gch_100 rfl (lv_at hl 1 rfl) ?_
  refine lv_ineg hx hb dj_gch_101 ?_
  rw [show - -nI v = nI v from Int32.neg_neg]
  refine va_tb hx hb hE.2.2.2.2 hS (i := nI v) (vp_in_nI (by omega) (by omega)) (v := .int (nI (48 + v / 10))) (by rw [nI_clamp (by omega)]) dj_gch_102 ?_
  refine va_bast hx hb hK hP hD hS 0 0 rfl rfl (vp_in_nI (by omega) (by omega)) dj_gch_103 (fun H locs hP hD hS => ?_)
  rw [nI_clamp (by omega), tnarB _ (by omega)] at hP hD
  refine lv_iload hx hb dj_gch_104 (lv_at hl 2 rfl) ?_
  refine lv_if_eq hx hb dj_gch_106 (tgt := 118) rfl (fun _ => ?_) (fun h => absurd rfl h)
  refine lv_iload hx hb dj_gch_118 (lv_at hl 0 rfl) ?_
  exact W.iret (v := nI (k - 1 - 1)) hx hb hR (fun t ht hW => ⟨⟨nI (k - 1 - 1), upd (upd f (k - 1) (nI (48 + v % 10))) (k - 1 - 1) (nI (48 + v / 10)), rfl, ⟨sb_fitU (sb_fitU hf (tfitB _ (by omega))) (tfitB _ (by omega)), fun j hj => by rw [pk_un (by omega), pk_un (by omega)], fun j hj => by
    rw [hdl] at hj ⊢
    unfold tdg
    rw [if_neg (by omega)]
    rcases (by omega : j = 0 ∨ j = 1) with rfl | rfl
    · rw [if_pos rfl, show k - 2 + 0 = k - 1 - 1 by omega, pk_us]
    · rw [if_neg (by decide), show k - 2 + 1 = k - 1 by omega, pk_un (by omega), pk_us]⟩, by rw [ht]; exact hP, va_K.moved hW.alike hK, hD⟩, hS.F ht⟩) hS.2.2 dj_gch_120
theorem tdl2 (v : Nat) : 1 ≤ tdl v ∧ tdl v ≤ 2 := by unfold tdl; split <;> omega
theorem wq_59 : Cond.methodLink "java/lang/AbstractStringBuilder" 245 yj_ssz ∈ tTS := tTS_of (mv_TS_of (k := 1175) (by decide +kernel) rfl)
theorem wq_60 : Cond.static yj_ssz ∈ tTS := tTS_of (mv_TS_of (k := 1176) (by decide +kernel) rfl)
theorem wq_61 : Cond.initialized "java/lang/Integer" ∈ tTS := tTS_of (mv_TS_of (k := 92) (by decide +kernel) rfl)
theorem wq_62 : Cond.methodLink "java/lang/AbstractStringBuilder" 83 yj_isl ∈ tTS := tTS_of (mv_TS_of (k := 1113) (by decide +kernel) rfl)
theorem wq_63 : Cond.sameMethod "java/lang/AbstractStringBuilder" "java/lang/AbstractStringBuilder" "isLatin1" "()Z" ∈ tTS := tTS_of (mv_TS_of (k := 1115) (by decide +kernel) rfl)
theorem wq_64 : Cond.selects "java/lang/StringBuilder" yj_isl yj_isl ∈ tTS := tTS_of (mv_TS_of (k := 1116) (by decide +kernel) rfl)
theorem wq_65 : Cond.instanceMethod yj_isl ∈ tTS := tTS_of (mv_TS_of (k := 1114) (by decide +kernel) rfl)
theorem wq_66 : Cond.methodLink "java/lang/AbstractStringBuilder" 248 yj_gch ∈ tTS := tTS_of (mv_TS_of (k := 1178) (by decide +kernel) rfl)
theorem wq_67 : Cond.static yj_gch ∈ tTS := tTS_of (mv_TS_of (k := 1179) (by decide +kernel) rfl)
theorem cq_api (l : Launch) (h0 : Heap) (D : va_G) (cB : ClassId) (b da n L : Nat) (f : Nat → Int32) (d1 d2 : Nat) (v : Nat) (hv : v < 100) (hnL : n ≤ L) (hLL : L ≤ 30000) (Kc : Nat) (hK9 : 2 * L + 2 + (n + tdl v) ≤ Kc) (hf : sb_Fit f) : Met l yj_api wl_api ({ frames := 4, cells := 1, slots := Kc, locals := 150 } : Room) (va_Pc [.ref b, .int (nI v)] (tS h0 D cB (tW b da cB n L f) (tG d1 d2) (va_A (tW b da cB n L f) h0.size))) (va_Qr (fun u : Nat × Nat × (Nat → Int32) => n + tdl v ≤ u.2.1 ∧ (u.2.1 ≤ L ∨ u.2.1 ≤ 2 * (n + tdl v)) ∧ sb_Fit u.2.2 ∧ (∀ j, j < n → u.2.2 j = f j) ∧ ∀ j, j < tdl v → u.2.2 (n + j) = nI (tdg v j)) (fun u x t => x = b ∧ tP D cB (va_A (tW b da cB n L f) h0.size) (tW b u.1 cB (n + tdl v) u.2.1 u.2.2) t) (va_A (tW b da cB n L f) h0.size)) 1 (Kc) (va_A (tW b da cB n L f) h0.size) := by
  refine Met.ofW (cc := prog_15_method_32_code) (maxL := 4) (ret := (Option.some (Jvm.ClassFile.FieldType.object "java/lang/AbstractStringBuilder"))) (by decide) rfl ?_
  intro p e s m args below meth c s₁ B hml hv
  obtain ⟨rfl, rfl, ⟨hP, hK, hD0⟩, hE⟩ := hv
  have hx := B.exec
  have hb := B.bytes
  have hR := B.returns
  have hts : ∀ w ∈ wl_api, w.before _ s = true := atoms_spec (ws := wl_api) B.pre
  have hT : ∀ {w : Cond}, w ∈ tTS → w.before _ s = true := fun h => hts _ (List.mem_cons_of_mem _ h)
  have hown : s.vm.findClass "java/lang/AbstractStringBuilder" = some m.cls := findClass_of_methodNamed B.named
  have hlocks := B.notSynchronized
  have hin : meth.name = "append" := (name_of_methodNamed B.named B.method).1
  have hD := hD0.self (sz := s.heap.size)
  generalize hAe : va_A (tW b da cB n L f) s.heap.size = A at hD hE ⊢
  have hA : ∀ q : Nat, s.heap.size ≤ q → A q := fun q h => by rw [← hAe]; exact Or.inr h
  have hS : va_S A s.heap s.heap [] := va_S.rf
  have hl := lv_entry ([.ref b, .int (nI v)]) (n := 4) (Nat.le_of_ble_eq_true rfl)
  rw [lg_entry_eq]
  generalize (lg_sl ([.ref b, .int (nI v)]) ++ List.replicate (4 - (lg_sl ([.ref b, .int (nI v)])).length) Slot.unset).toArray = ls at hl ⊢
  have hl : lv_has ls 4 [(0, .ref b), (1, .int (nI v))] := hl
  have hd2 := tdl2 v
  refine lv_aload_n hx hb dj_api_0 rfl (lv_at hl 0 rfl) ?_
  refine va_get (ref := "java/lang/AbstractStringBuilder") hx hb (fun w h => hT h) tinJ4 hown hK hP 0 rfl rfl 3 (by decide) (hT wq_11) (fun _ h => h) rfl dj_api_1 ?_
  refine lv_istore_n (lv' := [(2, .int (nI n)), (0, .ref b), (1, .int (nI v))]) hx hb dj_api_4 rfl hl (by decide) rfl (fun ls hl => ?_)
  refine lv_iload_n hx hb dj_api_5 rfl (lv_at hl 0 rfl) ?_
  refine lv_iload_n hx hb dj_api_6 rfl (lv_at hl 2 rfl) ?_
  refine va_calli (va_runS (As := [.int (nI v)]) (rest := [.int (nI n)]) ⟨hx, hb, hml, hown, hts⟩ (cq_ssz l _ v hv) (va_cwS 1 hts (tgj (l := [Cond.methodLink "java/lang/AbstractStringBuilder" 245 yj_ssz, Cond.static yj_ssz, Cond.initialized "java/lang/Integer", _]) (tm4 wq_59 wq_60 wq_61 wj_ssz)) rfl rfl rfl (by decide +kernel) ⟨Nat.le_of_ble_eq_true rfl, Nat.le_of_ble_eq_true rfl⟩) ⟨tBlind1, fun U hU hW => ⟨rfl, hU⟩⟩ rfl rfl hl.1 rfl (lv_room (Nat.le_of_ble_eq_true rfl)) dj_api_7 ⟨by first | exact Nat.zero_le _ | exact Nat.le_refl _, by first | exact Nat.zero_le _ | exact Nat.le_refl _⟩) hS (fun q _ h => h.elim) (fun q h => h.elim) (fun r u t H1 locs1 ht hvm hw hB hz1 hk1 hS1 => ?_)
  have hH := ht.symm.trans hB
  subst hH
  have hS := hS1
  subst hw
  refine lv_iadd hx hb dj_api_10 ?_
  rw [nI_add]
  refine lv_istore_n (lv' := [(3, .int (nI (n + tdl v))), (2, .int (nI n)), (0, .ref b), (1, .int (nI v))]) hx hb dj_api_11 rfl hl (by decide) rfl (fun ls hl => ?_)
  refine lv_aload_n hx hb dj_api_12 rfl (lv_at hl 2 rfl) ?_
  refine lv_iload_n hx hb dj_api_13 rfl (lv_at hl 0 rfl) ?_
  have hFc := va_free (wc := (tW b da cB n L f)) hD hS hA [0, 1] rfl
  refine va_callv (va_runU (As := [.int (nI (n + tdl v))]) (rest := []) ⟨hx, hb, hml, hown, hts⟩ (cq_ens l _ D cB b da n L f (n + tdl v) Kc hLL (by omega) hK9 hf) (tcwU (C := "java/lang/StringBuilder") 1 hts wj_ens wq_48 wq_49 (hT wsel_ens) wq_50 wq_17 rfl rfl (by decide +kernel) ⟨Nat.le_of_ble_eq_true rfl, Nat.le_of_ble_eq_true rfl⟩) ⟨tBlind tT_ok, va_recv hK hP (ci := 0) rfl (q0 := 0) rfl, fun U hU hW => ⟨rfl, tPre (wc := (tW b da cB n L f)) tT_ok hP hK hD trivial hS [0, 1] rfl rfl rfl hFc U hU hW⟩⟩ rfl rfl hl.1 rfl (lv_room (Nat.le_of_ble_eq_true rfl)) dj_api_14 ⟨(show 0 + 0 + 1 ≤ 1 by omega), (show 0 + 0 + Kc ≤ Kc by omega)⟩) hS (fun q _ h => hFc q h) hFc (fun u t H1 locs1 ht hvm hw hB hz1 hk1 hS => ?_)
  obtain ⟨⟨dn, L2, f2⟩, rfl⟩ : ∃ z, z = u := ⟨_, rfl⟩
  obtain ⟨hw1, hw2, hw3, hw4, hw5⟩ := hw
  dsimp only at hw1 hw2 hw3 hw4 hw5 hB
  obtain ⟨hP1, hK1, hD1⟩ := hB
  rw [ht] at hP1
  have hK := va_K.moved hvm.symm hK1
  obtain ⟨hP, hD⟩ := va_join (wr := []) (w1 := tW b dn cB n L2 f2) hP hD [0, 1] [] rfl rfl (by decide) (by decide) hk1 hFc hP1 hD1
  dsimp only [List.nil_append, List.cons_append] at hP hD
  refine lv_aload_n hx hb dj_api_17 rfl (lv_at hl 2 rfl) ?_
  refine va_calli (va_runU (As := []) (rest := []) ⟨hx, hb, hml, hown, hts⟩ (cq_isl l _ D cB b dn n L2 f2) (tcwU (C := "java/lang/StringBuilder") 0 hts wj_isl wq_62 wq_63 (hT wq_64) wq_65 wq_17 rfl rfl (by decide +kernel) ⟨Nat.le_of_ble_eq_true rfl, Nat.le_of_ble_eq_true rfl⟩) ⟨tBlind tC_ok, va_recv hK hP (ci := 0) rfl (q0 := 0) rfl, fun U hU hW => ⟨rfl, tPre (wc := (tW b dn cB n L2 f2)) (A' := vj_N) tC_ok hP hK hD hE.1 hS [0, 1] rfl rfl rfl (fun q h => h.elim) U hU hW⟩⟩ rfl rfl hl.1 rfl (lv_room (Nat.le_of_ble_eq_true rfl)) dj_api_18 ⟨(show 0 + 0 + 1 + 0 ≤ 1 by omega), (show 0 + 0 + Kc + 0 ≤ Kc by omega)⟩) hS (fun q _ h => h.elim) (fun q h => h.elim) (fun r u t H1 locs1 ht hvm hw hB hz1 hk1 hS1 => ?_)
  have hH := ht.symm.trans hB
  subst hH
  have hS := hS1
  subst hw
  refine lv_if_eq hx hb dj_api_21 (tgt := 37) rfl (fun h => absurd h (by decide)) (fun _ => ?_)
  refine lv_iload_n hx hb dj_api_24 rfl (lv_at hl 3 rfl) ?_
  refine lv_iload_n hx hb dj_api_25 rfl (lv_at hl 0 rfl) ?_
  refine lv_aload_n hx hb dj_api_26 rfl (lv_at hl 2 rfl) ?_
  refine va_get (ref := "java/lang/AbstractStringBuilder") hx hb (fun w h => hT h) tinJ4 hown hK hP 0 rfl rfl 0 (by decide) (hT wq_5) (fun _ h => h) rfl dj_api_27 ?_
  have hFc := va_free (wc := [(dn, tA cB L2 f2)]) hD hS hA [1] rfl
  refine va_calli (va_runS (As := [.int (nI v), .int (nI (n + tdl v)), .ref dn]) (rest := []) ⟨hx, hb, hml, hown, hts⟩ (cq_gch l _ D cB dn L2 f2 d1 d2 v (n + tdl v) hv hw1 (by omega) (by omega) hw4) (va_cwS 3 hts (tgj (l := [Cond.methodLink "java/lang/AbstractStringBuilder" 248 yj_gch, Cond.static yj_gch, Cond.initialized "java/lang/Integer", _]) (tm4 wq_66 wq_67 wq_61 wj_gch)) rfl rfl rfl (by decide +kernel) ⟨Nat.le_of_ble_eq_true rfl, Nat.le_of_ble_eq_true rfl⟩) ⟨tBlind tG_ok, fun U hU hW => ⟨rfl, tPre (wc := [(dn, tA cB L2 f2)]) tG_ok hP hK hD hE hS [1] rfl rfl rfl hFc U hU hW⟩⟩ rfl rfl hl.1 rfl (lv_room (Nat.le_of_ble_eq_true rfl)) dj_api_30 ⟨(show 0 + 0 + 1 + 0 + 0 ≤ 1 by omega), (show 0 + 0 + Kc + 0 + 0 ≤ Kc by omega)⟩) hS (fun q _ h => hFc q h) hFc (fun r f3 t H1 locs1 ht hvm hw hB hz1 hk1 hS => ?_)
  obtain ⟨hP1, hK1, hD1⟩ := hB
  rw [ht] at hP1
  have hK := va_K.moved hvm.symm hK1
  obtain ⟨hP, hD⟩ := va_join (wr := [(b, tB dn n)]) (w1 := [(dn, tA cB L2 f3)]) hP hD [1] [0] rfl rfl (by decide) (by decide) hk1 hFc hP1 hD1
  dsimp only [List.nil_append, List.cons_append] at hP hD
  refine lv_pop hx hb dj_api_33 rfl ?_
  refine lv_goto hx hb dj_api_34 (tgt := 48) rfl ?_
  refine lv_aload_n hx hb dj_api_48 rfl (lv_at hl 2 rfl) ?_
  refine lv_iload_n hx hb dj_api_49 rfl (lv_at hl 0 rfl) ?_
  refine va_put (ref := "java/lang/AbstractStringBuilder") hx hb (fun w h => hT h) tinJ4 tyJ4 tyJ4_ok nmJ4 hown hK hP hD hS 0 rfl rfl 3 (by decide) (hT wq_11) (fun _ h => h) rfl (tyJ4_ok 3 (by decide)) rfl rfl (show 3 < 4 by decide) dj_api_50 (fun H locs hP hD hS => ?_)
  refine lv_aload_n hx hb dj_api_53 rfl (lv_at hl 2 rfl) ?_
  refine W.widen (k := 1) (n := Kc) (by omega) (by omega) ?_
  obtain ⟨g1, g2, g3⟩ := hw
  rw [Nat.add_sub_cancel] at g2 g3
  exact W.aret hx hb hR (.inl ⟨_, rfl⟩) (.inr ⟨_, rfl⟩) (fun t ht hW => ⟨⟨(dn, L2, f3), b, rfl, ⟨hw1, hw3, g1, fun j hj => (g2 j hj).trans (hw5 j (by omega)), g3⟩, rfl, by rw [ht]; exact hP, va_K.moved hW.alike hK, hD⟩, hS.F ht⟩) hS.2.2 dj_api_54
theorem wq_68 : Cond.methodLink "java/lang/StringBuilder" 53 yj_api ∈ tTS := tTS_of (mv_TS_of (k := 1172) (by decide +kernel) rfl)
theorem wq_69 : Cond.sameMethod "java/lang/AbstractStringBuilder" "java/lang/AbstractStringBuilder" "append" "(I)Ljava/lang/AbstractStringBuilder;" ∈ tTS := tTS_of (mv_TS_of (k := 1268) (by decide +kernel) rfl)
theorem wq_70 : Cond.instanceMethod yj_api ∈ tTS := tTS_of (mv_TS_of (k := 1173) (by decide +kernel) rfl)
theorem cq_spi (l : Launch) (h0 : Heap) (D : va_G) (cB : ClassId) (b da n L : Nat) (f : Nat → Int32) (d1 d2 : Nat) (v : Nat) (hv : v < 100) (hnL : n ≤ L) (hLL : L ≤ 30000) (Kc : Nat) (hK9 : 2 * L + 2 + (n + tdl v) ≤ Kc) (hf : sb_Fit f) : Met l yj_spi wl_spi ({ frames := 5, cells := 1, slots := Kc, locals := 173 } : Room) (va_Pc [.ref b, .int (nI v)] (tS h0 D cB (tW b da cB n L f) (tG d1 d2) (va_A (tW b da cB n L f) h0.size))) (va_Qr (fun u : Nat × Nat × (Nat → Int32) => n + tdl v ≤ u.2.1 ∧ (u.2.1 ≤ L ∨ u.2.1 ≤ 2 * (n + tdl v)) ∧ sb_Fit u.2.2 ∧ (∀ j, j < n → u.2.2 j = f j) ∧ ∀ j, j < tdl v → u.2.2 (n + j) = nI (tdg v j)) (fun u x t => x = b ∧ tP D cB (va_A (tW b da cB n L f) h0.size) (tW b u.1 cB (n + tdl v) u.2.1 u.2.2) t) (va_A (tW b da cB n L f) h0.size)) 1 (Kc) (va_A (tW b da cB n L f) h0.size) := by
  refine Met.ofW (cc := prog_32_method_15_code) (maxL := 2) (ret := (Option.some (Jvm.ClassFile.FieldType.object "java/lang/StringBuilder"))) (by decide) rfl ?_
  intro p e s m args below meth c s₁ B hml hv
  obtain ⟨rfl, rfl, ⟨hP, hK, hD0⟩, hE⟩ := hv
  have hx := B.exec
  have hb := B.bytes
  have hR := B.returns
  have hts : ∀ w ∈ wl_spi, w.before _ s = true := atoms_spec (ws := wl_spi) B.pre
  have hT : ∀ {w : Cond}, w ∈ tTS → w.before _ s = true := fun h => hts _ (List.mem_cons_of_mem _ h)
  have hown : s.vm.findClass "java/lang/StringBuilder" = some m.cls := findClass_of_methodNamed B.named
  have hlocks := B.notSynchronized
  have hin : meth.name = "append" := (name_of_methodNamed B.named B.method).1
  have hD := hD0.self (sz := s.heap.size)
  generalize hAe : va_A (tW b da cB n L f) s.heap.size = A at hD hE ⊢
  have hA : ∀ q : Nat, s.heap.size ≤ q → A q := fun q h => by rw [← hAe]; exact Or.inr h
  have hS : va_S A s.heap s.heap [] := va_S.rf
  have hl := lv_entry ([.ref b, .int (nI v)]) (n := 2) (Nat.le_of_ble_eq_true rfl)
  rw [lg_entry_eq]
  generalize (lg_sl ([.ref b, .int (nI v)]) ++ List.replicate (2 - (lg_sl ([.ref b, .int (nI v)])).length) Slot.unset).toArray = ls at hl ⊢
  have hl : lv_has ls 2 [(0, .ref b), (1, .int (nI v))] := hl
  refine lv_aload_n hx hb dj_spi_0 rfl (lv_at hl 0 rfl) ?_
  refine lv_iload_n hx hb dj_spi_1 rfl (lv_at hl 1 rfl) ?_
  have hFc := va_free (wc := (tW b da cB n L f)) hD hS hA [0, 1] rfl
  refine va_callr (va_runSU (hK.1 0 _ rfl).2 (As := [.int (nI v)]) (rest := []) ⟨hx, hb, hml, hown, hts⟩ (cq_api l _ D cB b da n L f d1 d2 v hv hnL hLL Kc hK9 hf) (va_cwSU 1 hts (tgj (l := [Cond.methodLink "java/lang/StringBuilder" 53 yj_api, Cond.sameMethod "java/lang/AbstractStringBuilder" "java/lang/AbstractStringBuilder" "append" "(I)Ljava/lang/AbstractStringBuilder;", Cond.superclass "java/lang/StringBuilder" "java/lang/AbstractStringBuilder", Cond.instanceMethod yj_api, Cond.initialized "java/lang/AbstractStringBuilder", _]) (tm6 wq_68 wq_69 wq_13 wq_70 wq_17 wj_api)) rfl rfl rfl (by decide +kernel) ⟨Nat.le_of_ble_eq_true rfl, Nat.le_of_ble_eq_true rfl⟩) ⟨tBlind tG_ok, va_recv hK hP (ci := 0) rfl (q0 := 0) rfl, fun U hU hW => ⟨rfl, tPre (wc := (tW b da cB n L f)) tG_ok hP hK hD hE hS [0, 1] rfl rfl rfl hFc U hU hW⟩⟩ rfl rfl hl.1 rfl (lv_room (Nat.le_of_ble_eq_true rfl)) dj_spi_2 ⟨(show 0 + 1 ≤ 1 by omega), (show 0 + Kc ≤ Kc by omega)⟩) hS (fun q _ h => hFc q h) hFc (fun u ra t H1 locs1 ht hvm hw hB hz1 hk1 hS => ?_)
  obtain ⟨⟨dn, L2, f2⟩, rfl⟩ : ∃ z, z = u := ⟨_, rfl⟩
  obtain ⟨hra, hB⟩ := hB
  rw [hra]
  obtain ⟨hP1, hK1, hD1⟩ := hB
  rw [ht] at hP1
  have hK := va_K.moved hvm.symm hK1
  obtain ⟨hP, hD⟩ := va_join (wr := []) (w1 := tW b dn cB (n + tdl v) L2 f2) hP hD [0, 1] [] rfl rfl (by decide) (by decide) hk1 hFc hP1 hD1
  dsimp only [List.nil_append, List.cons_append] at hP hD
  refine lv_pop hx hb dj_spi_5 rfl ?_
  refine lv_aload_n hx hb dj_spi_6 rfl (lv_at hl 0 rfl) ?_
  refine W.widen (k := 1) (n := Kc) (by omega) (by omega) ?_
  exact W.aret hx hb hR (.inl ⟨_, rfl⟩) (.inr ⟨_, rfl⟩) (fun t ht hW => ⟨⟨(dn, L2, f2), b, rfl, hw, rfl, by rw [ht]; exact hP, va_K.moved hW.alike hK, hD⟩, hS.F ht⟩) hS.2.2 dj_spi_7
theorem cq_chl (l : Launch) (h0 : Heap) (n : Nat) (hn : n < 2 ^ 30) : Met l yj_chl wl_chl ({ frames := 1, cells := 0, slots := 0, locals := 80 } : Room) (va_Pc [.int 0, .int (nI n)] (fun U => U.heap = h0)) (va_Qv (fun (_ : Unit) => True) (fun _ t => t.heap = h0) vj_N) 0 (0) vj_N := by
  refine Met.ofW (cc := prog_39_method_131_code) (maxL := 2) (ret := (Option.none : Option Jvm.ClassFile.FieldType)) (by decide) rfl ?_
  intro p e s m args below meth c s₁ B hml hv
  obtain ⟨rfl, rfl⟩ := hv
  have hx := B.exec
  have hb := B.bytes
  have hR := B.returns
  have hts : ∀ w ∈ wl_chl, w.before _ s = true := atoms_spec (ws := wl_chl) B.pre
  have hT : ∀ {w : Cond}, w ∈ tTS → w.before _ s = true := fun h => hts _ (List.mem_cons_of_mem _ h)
  have hown : s.vm.findClass "java/util/Arrays" = some m.cls := findClass_of_methodNamed B.named
  have hlocks := B.notSynchronized
  have hin : meth.name = "checkLength" := (name_of_methodNamed B.named B.method).1
  have hS : va_S vj_N s.heap s.heap [] := va_S.rf
  have hl := lv_entry ([.int 0, .int (nI n)]) (n := 2) (Nat.le_of_ble_eq_true rfl)
  rw [lg_entry_eq]
  generalize (lg_sl ([.int 0, .int (nI n)]) ++ List.replicate (2 - (lg_sl ([.int 0, .int (nI n)])).length) Slot.unset).toArray = ls at hl ⊢
  have hl : lv_has ls 2 [(0, .int 0), (1, .int (nI n))] := hl
  refine lv_iload_n hx hb dj_chl_0 rfl (lv_at hl 1 rfl) ?_
  refine lv_iload_n hx hb dj_chl_1 rfl (lv_at hl 0 rfl) ?_
  refine lv_icmp_ge hx hb dj_chl_2 (tgt := 37) rfl (fun _ => ?_) (fun h => absurd (show nI n ≥ 0 from nI_pos' (by omega)) h)
  exact W.vret hx hb hR (fun t ht hW => ⟨⟨(), rfl, trivial, ht⟩, hS.F ht⟩) hS.2.2 dj_chl_37
theorem wq_71 : Cond.methodLink "java/util/Arrays" 343 yj_chl ∈ tTS := tTS_of (mv_TS_of (k := 1225) (by decide +kernel) rfl)
theorem wq_72 : Cond.static yj_chl ∈ tTS := tTS_of (mv_TS_of (k := 1226) (by decide +kernel) rfl)
theorem cq_crb (l : Launch) (h0 : Heap) (D : va_G) (cB : ClassId) (da L : Nat) (f : Nat → Int32) (n Kc : Nat) (hn : n ≤ L) (hL : L ≤ 100000) (hK9 : n ≤ Kc) (hf : sb_Fit f) : Met l yj_crb wl_crb ({ frames := 2, cells := 1, slots := Kc, locals := 101 } : Room) (va_Pc [.ref da, .int 0, .int (nI n)] (tS h0 D cB [(da, tA cB L f)] tT (va_A [(da, tA cB L f)] h0.size))) (va_Qr (fun (_ : Unit) => True) (fun _ a t => tP D cB (va_A [(da, tA cB L f)] h0.size) [(da, tA cB L f), (a, tA cB n (va_cpy f (fun _ => 0) 0 0 n))] t) (va_A [(da, tA cB L f)] h0.size)) 1 (Kc) (va_A [(da, tA cB L f)] h0.size) := by
  refine Met.ofW (cc := prog_39_method_133_code) (maxL := 5) (ret := (Option.some (Jvm.ClassFile.FieldType.array Jvm.ClassFile.FieldType.byte))) (by decide) rfl ?_
  intro p e s m args below meth c s₁ B hml hv
  obtain ⟨rfl, rfl, ⟨hP, hK, hD0⟩, hE⟩ := hv
  have hx := B.exec
  have hb := B.bytes
  have hR := B.returns
  have hts : ∀ w ∈ wl_crb, w.before _ s = true := atoms_spec (ws := wl_crb) B.pre
  have hT : ∀ {w : Cond}, w ∈ tTS → w.before _ s = true := fun h => hts _ (List.mem_cons_of_mem _ h)
  have hown : s.vm.findClass "java/util/Arrays" = some m.cls := findClass_of_methodNamed B.named
  have hlocks := B.notSynchronized
  have hin : meth.name = "copyOfRangeByte" := (name_of_methodNamed B.named B.method).1
  have hD := hD0.self (sz := s.heap.size)
  generalize hAe : va_A [(da, tA cB L f)] s.heap.size = A at hD hE ⊢
  have hA : ∀ q : Nat, s.heap.size ≤ q → A q := fun q h => by rw [← hAe]; exact Or.inr h
  have hS : va_S A s.heap s.heap [] := va_S.rf
  have hl := lv_entry ([.ref da, .int 0, .int (nI n)]) (n := 5) (Nat.le_of_ble_eq_true rfl)
  rw [lg_entry_eq]
  generalize (lg_sl ([.ref da, .int 0, .int (nI n)]) ++ List.replicate (5 - (lg_sl ([.ref da, .int 0, .int (nI n)])).length) Slot.unset).toArray = ls at hl ⊢
  have hl : lv_has ls 5 [(0, .ref da), (1, .int 0), (2, .int (nI n))] := hl
  refine lv_iload_n hx hb dj_crb_0 rfl (lv_at hl 1 rfl) ?_
  refine lv_iload_n hx hb dj_crb_1 rfl (lv_at hl 2 rfl) ?_
  refine va_callv (va_runS (As := [.int 0, .int (nI n)]) (rest := []) ⟨hx, hb, hml, hown, hts⟩ (cq_chl l _ n (by omega)) (va_cwS 2 hts (tgj (l := [Cond.methodLink "java/util/Arrays" 343 yj_chl, Cond.static yj_chl, Cond.initialized "java/util/Arrays", _]) (tm4 wq_71 wq_72 wq_31 wj_chl)) rfl rfl rfl (by decide +kernel) ⟨Nat.le_of_ble_eq_true rfl, Nat.le_of_ble_eq_true rfl⟩) ⟨tBlind1, fun U hU hW => ⟨rfl, hU⟩⟩ rfl rfl hl.1 rfl (lv_room (Nat.le_of_ble_eq_true rfl)) dj_crb_2 ⟨by first | exact Nat.zero_le _ | exact Nat.le_refl _, by first | exact Nat.zero_le _ | exact Nat.le_refl _⟩) hS (fun q _ h => h.elim) (fun q h => h.elim) (fun u t H1 locs1 ht hvm hw hB hz1 hk1 hS1 => ?_)
  have hH := ht.symm.trans hB
  subst hH
  have hS := hS1
  refine lv_iload_n hx hb dj_crb_5 rfl (lv_at hl 2 rfl) ?_
  refine lv_iload_n hx hb dj_crb_6 rfl (lv_at hl 1 rfl) ?_
  refine lv_isub hx hb dj_crb_7 ?_
  rw [show nI n - 0 = nI n from pk_sub (a := n) (b := 0) (by omega)]
  refine lv_istore_n (lv' := [(3, .int (nI n)), (0, .ref da), (1, .int 0), (2, .int (nI n))]) hx hb dj_crb_8 rfl hl (by decide) rfl (fun ls hl => ?_)
  refine lv_iload_n hx hb dj_crb_9 rfl (lv_at hl 0 rfl) ?_
  refine va_newa (atype := .byte) (ty := .byte) hx hb (hT wq_18) rfl hK hP hD hS hA (n := nI n) (N' := n) (a0 := (n, .inl (fun _ => 0))) (fun cA => rfl) (nI_pos (by omega)) (nI_clamp (by omega)) (by show n * 1 ≤ _; omega) ((show 0 + 0 + 1 ≤ 1 by omega)) ((show 0 + 0 + n ≤ Kc by omega)) dj_crb_10 (fun a cA H hK hP hD hS => ?_)
  have ecA := tsameB hK
  subst ecA
  have hK := hK.sub (tys' := [(cA, .byte)]) [0] rfl
  refine lv_astore (lv' := [(4, .ref a), (3, .int (nI n)), (0, .ref da), (1, .int 0), (2, .int (nI n))]) hx hb dj_crb_12 hl (by decide) rfl (fun ls hl => ?_)
  refine lv_aload_n hx hb dj_crb_14 rfl (lv_at hl 2 rfl) ?_
  refine lv_iload_n hx hb dj_crb_15 rfl (lv_at hl 3 rfl) ?_
  refine lv_aload hx hb dj_crb_16 (lv_at hl 0 rfl) ?_
  refine lv_iconst (v := 0) hx hb dj_crb_18 (by decide) ?_
  refine lv_aload_n hx hb dj_crb_19 rfl (lv_at hl 2 rfl) ?_
  refine va_alen hx hb hK hP 0 0 rfl rfl (v := nI L) rfl dj_crb_20 ?_
  refine lv_iload_n hx hb dj_crb_21 rfl (lv_at hl 3 rfl) ?_
  refine lv_isub hx hb dj_crb_22 ?_
  rw [show nI L - 0 = nI L from pk_sub (a := L) (b := 0) (by omega)]
  refine lv_iload_n hx hb dj_crb_23 rfl (lv_at hl 1 rfl) ?_
  refine va_mmin hx hb (hml.trans hl.1.symm) hown (hT wq_19) (hT wq_20) (hT wq_3) (hT wq_21) (Nat.le_of_ble_eq_true rfl) (Nat.le_of_ble_eq_true rfl) (by first | exact Nat.zero_le _ | exact Nat.le_refl _) (show 0 + 0 + n ≤ Kc by omega) dj_crb_24 ?_
  rw [show (if nI n < nI L then nI n else nI L) = nI n from by rcases Nat.lt_or_eq_of_le hn with h | h; exact if_pos (nI_lt h (by omega)); subst h; split <;> rfl]
  refine va_copyi hx hb (hml.trans hl.1.symm) hown (hT wq_22) (hT wq_24) (hT wq_23) (hT wq_25) hK hP hD hS 0 1 0 0 rfl rfl rfl rfl rfl (by decide) (by decide) (nI_pos (by omega)) (by rw [nI_clamp (by omega), sb_cl0]; omega) (by rw [nI_clamp (by omega), sb_cl0]; omega) (fun i _ => hf _) (Nat.le_of_ble_eq_true rfl) (Nat.le_of_ble_eq_true rfl) dj_crb_27 (fun H locs hP hD hS => ?_)
  rw [nI_clamp (by omega), sb_cl0] at hP hD
  refine lv_aload hx hb dj_crb_30 (lv_at hl 0 rfl) ?_
  refine W.widen (k := 1) (n := Kc) (by omega) (by omega) ?_
  exact W.aret hx hb hR (.inr ⟨_, rfl⟩) (.inr ⟨_, rfl⟩) (fun t ht hW => ⟨⟨(), a, rfl, trivial, by rw [ht]; exact hP, va_K.moved hW.alike hK, hD⟩, hS.F ht⟩) hS.2.2 dj_crb_32
/-- a row of bytes can be cloned -/
def tL : (Nat → Prop) → State → Heap → Prop := fun _ U _ => va_Nw (.castable "[B" "java/lang/Cloneable") U
theorem tL_ok : tFact tL := ⟨fun _ u U _ h q => va_tabs rfl (rfl : (u.setVm U.vm).vm = U.vm) (by rw [Cond.castable_setVm h]; exact q), fun _ _ _ _ q _ => q, fun _ _ _ _ q _ => q⟩
def tK : (Nat → Prop) → State → Heap → Prop := fun A U H => tC A U H ∧ tL A U H
theorem tK_ok : tFact tK := ⟨fun _ _ _ _ h q => ⟨tC_ok.moved h q.1, tL_ok.moved h q.2⟩, fun _ _ _ _ q h => ⟨tC_ok.kept q.1 h, tL_ok.kept q.2 h⟩, fun _ _ _ _ q h => ⟨tC_ok.narrow q.1 h, tL_ok.narrow q.2 h⟩⟩
theorem wq_73 : Cond.methodLink "java/util/Arrays" 310 ⟨"[B", "clone", "()Ljava/lang/Object;"⟩ ∈ tTS := tTS_of (mv_TS_of (k := 1102) (by decide +kernel) rfl)
theorem wq_74 : Cond.sameMethod "[B" "java/lang/Object" "clone" "()Ljava/lang/Object;" ∈ tTS := tTS_of (mv_TS_of (k := 1103) (by decide +kernel) rfl)
theorem wq_75 : Cond.native ⟨"java/lang/Object", "clone", "()Ljava/lang/Object;"⟩ ∈ tTS := tTS_of (mv_TS_of (k := 1104) (by decide +kernel) rfl)
theorem wq_76 : Cond.instanceMethod ⟨"java/lang/Object", "clone", "()Ljava/lang/Object;"⟩ ∈ tTS := tTS_of (mv_TS_of (k := 1105) (by decide +kernel) rfl)
theorem wq_77 : Cond.selects "[B" ⟨"[B", "clone", "()Ljava/lang/Object;"⟩ ⟨"java/lang/Object", "clone", "()Ljava/lang/Object;"⟩ ∈ tTS := tTS_of (mv_TS_of (k := 1106) (by decide +kernel) rfl)
theorem wq_78 : Cond.classLink "java/util/Arrays" 311 "[B" ∈ tTS := tTS_of (mv_TS_of (k := 1108) (by decide +kernel) rfl)
theorem wq_79 : Cond.methodLink "java/util/Arrays" 339 yj_crb ∈ tTS := tTS_of (mv_TS_of (k := 1222) (by decide +kernel) rfl)
theorem wq_80 : Cond.static yj_crb ∈ tTS := tTS_of (mv_TS_of (k := 1223) (by decide +kernel) rfl)
theorem cq_cor (l : Launch) (h0 : Heap) (D : va_G) (cB : ClassId) (da L : Nat) (f : Nat → Int32) (n Kc : Nat) (hn : n ≤ L) (hL : L ≤ 100000) (hK9 : n ≤ Kc) (hf : sb_Fit f) : Met l yj_cor wl_cor ({ frames := 3, cells := 1, slots := Kc, locals := 125 } : Room) (va_Pc [.ref da, .int 0, .int (nI n)] (tS h0 D cB [(da, tA cB L f)] tL (va_A [(da, tA cB L f)] h0.size))) (va_Qr (fun u : Nat → Int32 => sb_Fit u ∧ ∀ j, j < n → u j = f j) (fun u a t => tP D cB (va_A [(da, tA cB L f)] h0.size) [(da, tA cB L f), (a, tA cB n u)] t) (va_A [(da, tA cB L f)] h0.size)) 1 (Kc) (va_A [(da, tA cB L f)] h0.size) := by
  refine Met.ofW (cc := prog_39_method_132_code) (maxL := 3) (ret := (Option.some (Jvm.ClassFile.FieldType.array Jvm.ClassFile.FieldType.byte))) (by decide) rfl ?_
  intro p e s m args below meth c s₁ B hml hv
  obtain ⟨rfl, rfl, ⟨hP, hK, hD0⟩, hE⟩ := hv
  have hx := B.exec
  have hb := B.bytes
  have hR := B.returns
  have hts : ∀ w ∈ wl_cor, w.before _ s = true := atoms_spec (ws := wl_cor) B.pre
  have hT : ∀ {w : Cond}, w ∈ tTS → w.before _ s = true := fun h => hts _ (List.mem_cons_of_mem _ h)
  have hown : s.vm.findClass "java/util/Arrays" = some m.cls := findClass_of_methodNamed B.named
  have hlocks := B.notSynchronized
  have hin : meth.name = "copyOfRange" := (name_of_methodNamed B.named B.method).1
  have hD := hD0.self (sz := s.heap.size)
  generalize hAe : va_A [(da, tA cB L f)] s.heap.size = A at hD hE ⊢
  have hA : ∀ q : Nat, s.heap.size ≤ q → A q := fun q h => by rw [← hAe]; exact Or.inr h
  have hS : va_S A s.heap s.heap [] := va_S.rf
  have hl := lv_entry ([.ref da, .int 0, .int (nI n)]) (n := 3) (Nat.le_of_ble_eq_true rfl)
  rw [lg_entry_eq]
  generalize (lg_sl ([.ref da, .int 0, .int (nI n)]) ++ List.replicate (3 - (lg_sl ([.ref da, .int 0, .int (nI n)])).length) Slot.unset).toArray = ls at hl ⊢
  have hl : lv_has ls 3 [(0, .ref da), (1, .int 0), (2, .int (nI n))] := hl
  refine lv_iload_n hx hb dj_cor_0 rfl (lv_at hl 1 rfl) ?_
  refine lv_if_ne hx hb dj_cor_1 (tgt := 10) rfl (fun h => absurd h (fun h => h rfl)) (fun _ => ?_)
  refine lv_iload_n hx hb dj_cor_4 rfl (lv_at hl 2 rfl) ?_
  refine lv_aload_n hx hb dj_cor_5 rfl (lv_at hl 0 rfl) ?_
  refine va_alen hx hb hK hP 0 0 rfl rfl (v := nI L) rfl dj_cor_6 ?_
  refine lv_icmp_eq hx hb dj_cor_7 (tgt := 17) rfl (fun h9 => ?_) (fun h9 => ?_)
  · have h8 : n = L := (nI_eq (by omega) (by omega)).mp h9
    subst h8
    refine lv_aload_n hx hb dj_cor_17 rfl (lv_at hl 0 rfl) ?_
    refine va_clone (ad := "[B") hx hb (hml.trans hl.1.symm) hown (hT wq_73) (hT wq_74) (hT wq_75) (hT wq_76) (hT wq_77) hE hK hP hD hS hA 0 0 rfl rfl (hK.2 0 _ rfl).2 (fun i v hv => ?_) (Nat.le_of_ble_eq_true rfl) (Nat.le_of_ble_eq_true rfl) (show 0 + 1 ≤ 1 by omega) (show 0 + n ≤ Kc by omega) dj_cor_18 (fun a H hK hP hD hS => ?_)
    · have hlt : i < n := by
        have := (Array.getElem?_eq_some_iff.mp hv).1
        rwa [vp_cell_i, arrV_size] at this
      rw [vp_cell_i, arrV_read _ _ hlt] at hv
      cases hv
      exact hf i
    have hK := hK.sub (tys' := [(cB, .byte)]) [0] rfl
    refine va_castA (nm := "[B") hx hb hown (hT wq_78) hP 1 rfl (hK.2 0 _ rfl).2 dj_cor_21 ?_
    refine W.widen (k := 1) (n := Kc) (by omega) (by omega) ?_
    exact W.aret hx hb hR (.inr ⟨_, rfl⟩) (.inr ⟨_, rfl⟩) (fun t ht hW => ⟨⟨f, a, rfl, ⟨hf, fun _ _ => rfl⟩, by rw [ht]; exact hP, va_K.moved hW.alike hK, hD⟩, hS.F ht⟩) hS.2.2 dj_cor_24
  refine lv_aload_n hx hb dj_cor_10 rfl (lv_at hl 0 rfl) ?_
  refine lv_iload_n hx hb dj_cor_11 rfl (lv_at hl 1 rfl) ?_
  refine lv_iload_n hx hb dj_cor_12 rfl (lv_at hl 2 rfl) ?_
  have hFc := va_free (wc := [(da, tA cB L f)]) hD hS hA [0] rfl
  refine va_callr (va_runS (As := [.ref da, .int 0, .int (nI n)]) (rest := []) ⟨hx, hb, hml, hown, hts⟩ (cq_crb l _ D cB da L f n Kc hn hL hK9 hf) (va_cwS 3 hts (tgj (l := [Cond.methodLink "java/util/Arrays" 339 yj_crb, Cond.static yj_crb, Cond.initialized "java/util/Arrays", _]) (tm4 wq_79 wq_80 wq_31 wj_crb)) rfl rfl rfl (by decide +kernel) ⟨Nat.le_of_ble_eq_true rfl, Nat.le_of_ble_eq_true rfl⟩) ⟨tBlind tT_ok, fun U hU hW => ⟨rfl, tPre (wc := [(da, tA cB L f)]) tT_ok hP hK hD trivial hS [0] rfl rfl rfl hFc U hU hW⟩⟩ rfl rfl hl.1 rfl (lv_room (Nat.le_of_ble_eq_true rfl)) dj_cor_13 ⟨(show 0 + 1 ≤ 1 by omega), (show 0 + Kc ≤ Kc by omega)⟩) hS (fun q _ h => hFc q h) hFc (fun u a t H1 locs1 ht hvm hw hB hz1 hk1 hS => ?_)
  obtain ⟨hP1, hK1, hD1⟩ := hB
  rw [ht] at hP1
  have hK := va_K.moved hvm.symm hK1
  obtain ⟨hP, hD⟩ := va_join (wr := []) (w1 := [(da, tA cB L f), (a, tA cB n (va_cpy f (fun _ => 0) 0 0 n))]) hP hD [0] [] rfl rfl (by decide) (by decide) hk1 hFc hP1 hD1
  dsimp only [List.nil_append, List.cons_append] at hP hD
  refine W.widen (k := 1) (n := Kc) (by omega) (by omega) ?_
  exact W.aret hx hb hR (.inr ⟨_, rfl⟩) (.inr ⟨_, rfl⟩) (fun t ht hW => ⟨⟨va_cpy f (fun _ => 0) 0 0 n, a, rfl, ⟨sb_fitC hf sb_fit0, fun j hj => sb_cpy0 hj⟩, by rw [ht]; exact hP, va_K.moved hW.alike hK, hD⟩, hS.F ht⟩) hS.2.2 dj_cor_16
abbrev tE (sd : Value) : va_E := .inr (1, [sd, .int 0, .int 0, .int 0])
theorem wq_81 : Cond.methodLink "java/lang/String" 1 objectInit ∈ tTS := tTS_of (mv_TS_of (k := 1204) (by decide +kernel) rfl)
theorem wq_82 : Cond.instanceMethod objectInit ∈ tTS := tTS_of (mv_TS_of (k := 100) (by decide +kernel) rfl)
theorem wq_83 : Cond.code objectInit ⟨#[0xb1]⟩ 1 none ∈ tTS := tTS_of (mv_TS_of (k := 101) (by decide +kernel) rfl)
theorem wq_84 : Cond.methodLink "java/lang/String" 552 yj_gvl ∈ tTS := tTS_of (mv_TS_of (k := 1205) (by decide +kernel) rfl)
theorem wq_85 : Cond.sameMethod "java/lang/AbstractStringBuilder" "java/lang/AbstractStringBuilder" "getValue" "()[B" ∈ tTS := tTS_of (mv_TS_of (k := 1207) (by decide +kernel) rfl)
theorem wq_86 : Cond.selects "java/lang/StringBuilder" yj_gvl yj_gvl ∈ tTS := tTS_of (mv_TS_of (k := 1208) (by decide +kernel) rfl)
theorem wq_87 : Cond.instanceMethod yj_gvl ∈ tTS := tTS_of (mv_TS_of (k := 1206) (by decide +kernel) rfl)
theorem wq_88 : Cond.methodLink "java/lang/String" 549 yj_aln ∈ tTS := tTS_of (mv_TS_of (k := 1210) (by decide +kernel) rfl)
theorem wq_89 : Cond.selects "java/lang/StringBuilder" yj_aln yj_bln ∈ tTS := tTS_of (mv_TS_of (k := 1213) (by decide +kernel) rfl)
theorem wq_90 : Cond.instanceMethod yj_bln ∈ tTS := tTS_of (mv_TS_of (k := 1214) (by decide +kernel) rfl)
theorem wq_91 : Cond.initialized "java/lang/StringBuilder" ∈ tTS := tTS_of (mv_TS_of (k := 84) (by decide +kernel) rfl)
theorem wq_92 : Cond.methodLink "java/lang/String" 1047 yj_isl ∈ tTS := tTS_of (mv_TS_of (k := 1218) (by decide +kernel) rfl)
theorem wq_93 : Cond.fieldLink "java/lang/String" 15 "java/lang/String" "coder" "B" ∈ tTS := tTS_of (mv_TS_of (k := 1247) (by decide +kernel) rfl)
theorem wq_94 : Cond.methodLink "java/lang/String" 54 yj_cor ∈ tTS := tTS_of (mv_TS_of (k := 1219) (by decide +kernel) rfl)
theorem wq_95 : Cond.static yj_cor ∈ tTS := tTS_of (mv_TS_of (k := 1220) (by decide +kernel) rfl)
theorem cq_sva (l : Launch) (h0 : Heap) (D : va_G) (cB : ClassId) (a0 b da n L : Nat) (f : Nat → Int32) (Kc : Nat) (hn : n ≤ L) (hL : L ≤ 100000) (hK9 : n ≤ Kc) (hf : sb_Fit f) : Met l yj_sva wl_sva ({ frames := 4, cells := 1, slots := Kc, locals := 147 } : Room) (va_Pc [.ref a0, .ref b, .null] (tS h0 D cB [(a0, tE .null), (b, tB da n), (da, tA cB L f)] tK (va_A [(a0, tE .null), (b, tB da n), (da, tA cB L f)] h0.size))) (va_Qv (fun u : Nat × (Nat → Int32) => sb_Fit u.2 ∧ ∀ j, j < n → u.2 j = f j) (fun u t => tP D cB (va_A [(a0, tE .null), (b, tB da n), (da, tA cB L f)] h0.size) [(a0, tE (.ref u.1)), (b, tB da n), (da, tA cB L f), (u.1, tA cB n u.2)] t) (va_A [(a0, tE .null), (b, tB da n), (da, tA cB L f)] h0.size)) 1 (Kc) (va_A [(a0, tE .null), (b, tB da n), (da, tA cB L f)] h0.size) := by
  refine Met.ofW (cc := prog_31_method_150_code) (maxL := 5) (ret := (Option.none : Option Jvm.ClassFile.FieldType)) (by decide) rfl ?_
  intro p e s m args below meth c s₁ B hml hv
  obtain ⟨rfl, rfl, ⟨hP, hK, hD0⟩, hE⟩ := hv
  have hx := B.exec
  have hb := B.bytes
  have hR := B.returns
  have hts : ∀ w ∈ wl_sva, w.before _ s = true := atoms_spec (ws := wl_sva) B.pre
  have hT : ∀ {w : Cond}, w ∈ tTS → w.before _ s = true := fun h => hts _ (List.mem_cons_of_mem _ h)
  have hown : s.vm.findClass "java/lang/String" = some m.cls := findClass_of_methodNamed B.named
  have hlocks := B.notSynchronized
  have hin : meth.name = "<init>" := (name_of_methodNamed B.named B.method).1
  have hD := hD0.self (sz := s.heap.size)
  generalize hAe : va_A [(a0, tE .null), (b, tB da n), (da, tA cB L f)] s.heap.size = A at hD hE ⊢
  have hA : ∀ q : Nat, s.heap.size ≤ q → A q := fun q h => by rw [← hAe]; exact Or.inr h
  have hS : va_S A s.heap s.heap [] := va_S.rf
  have hl := lv_entry ([.ref a0, .ref b, .null]) (n := 5) (Nat.le_of_ble_eq_true rfl)
  rw [lg_entry_eq]
  generalize (lg_sl ([.ref a0, .ref b, .null]) ++ List.replicate (5 - (lg_sl ([.ref a0, .ref b, .null])).length) Slot.unset).toArray = ls at hl ⊢
  have hl : lv_has ls 5 [(0, .ref a0), (1, .ref b), (2, .null)] := hl
  refine lv_aload_n hx hb dj_sva_0 rfl (lv_at hl 0 rfl) ?_
  refine W.objInit hx hb hown (hT wq_81) (hT wq_82) (hT wq_83) rfl (by rw [hml]; exact hl.1) rfl dj_sva_1 (Nat.le_of_ble_eq_true rfl) (Nat.le_of_ble_eq_true rfl) ?_
  refine W.eq (g2 := F0 m 4 ls []) rfl ?_
  refine lv_aload_n hx hb dj_sva_4 rfl (lv_at hl 1 rfl) ?_
  refine va_callr (va_runU (As := []) (rest := []) ⟨hx, hb, hml, hown, hts⟩ (cq_gvl l _ D cB b da n L f) (tcwU (C := "java/lang/StringBuilder") 0 hts wj_gvl wq_84 wq_85 (hT wq_86) wq_87 wq_17 rfl rfl (by decide +kernel) ⟨Nat.le_of_ble_eq_true rfl, Nat.le_of_ble_eq_true rfl⟩) ⟨tBlind tT_ok, va_recv hK hP (ci := 0) rfl (q0 := 1) rfl, fun U hU hW => ⟨rfl, tPre (wc := (tW b da cB n L f)) (A' := vj_N) tT_ok hP hK hD trivial hS [1, 2] rfl rfl rfl (fun q h => h.elim) U hU hW⟩⟩ rfl rfl hl.1 rfl (lv_room (Nat.le_of_ble_eq_true rfl)) dj_sva_5 ⟨by first | exact Nat.zero_le _ | exact Nat.le_refl _, by first | exact Nat.zero_le _ | exact Nat.le_refl _⟩) hS (fun q _ h => h.elim) (fun q h => h.elim) (fun u ra t H1 locs1 ht hvm hw hB hz1 hk1 hS1 => ?_)
  obtain ⟨hra, hB⟩ := hB
  rw [hra]
  have hH := ht.symm.trans hB
  subst hH
  have hS := hS1
  refine lv_astore_n (lv' := [(3, .ref da), (0, .ref a0), (1, .ref b), (2, .null)]) hx hb dj_sva_8 rfl hl (by decide) rfl (fun ls hl => ?_)
  refine lv_aload_n hx hb dj_sva_9 rfl (lv_at hl 2 rfl) ?_
  refine va_calli (va_runU (As := []) (rest := []) ⟨hx, hb, hml, hown, hts⟩ (cq_bln l _ D cB b da n L f) (va_cwO (C := "java/lang/StringBuilder") 0 hts (tgj (l := [Cond.methodLink "java/lang/String" 549 yj_aln, Cond.sameMethod "java/lang/AbstractStringBuilder" "java/lang/AbstractStringBuilder" "length" "()I", Cond.instanceMethod yj_aln, Cond.selects "java/lang/StringBuilder" yj_aln yj_bln, Cond.instanceMethod yj_bln, Cond.initialized "java/lang/StringBuilder", _]) (tm7 wq_88 wq_15 wq_16 wq_89 wq_90 wq_91 wj_bln)) rfl rfl rfl (List.mem_cons_of_mem _ wj_aln) (by decide +kernel) ⟨Nat.le_of_ble_eq_true rfl, Nat.le_of_ble_eq_true rfl⟩) ⟨tBlind tT_ok, va_recv hK hP (ci := 0) rfl (q0 := 1) rfl, fun U hU hW => ⟨rfl, tPre (wc := (tW b da cB n L f)) (A' := vj_N) tT_ok hP hK hD trivial hS [1, 2] rfl rfl rfl (fun q h => h.elim) U hU hW⟩⟩ rfl rfl hl.1 rfl (lv_room (Nat.le_of_ble_eq_true rfl)) dj_sva_10 ⟨by first | exact Nat.zero_le _ | exact Nat.le_refl _, by first | exact Nat.zero_le _ | exact Nat.le_refl _⟩) hS (fun q _ h => h.elim) (fun q h => h.elim) (fun r u t H1 locs1 ht hvm hw hB hz1 hk1 hS1 => ?_)
  have hH := ht.symm.trans hB
  subst hH
  have hS := hS1
  subst hw
  refine lv_istore (lv' := [(4, .int (nI n)), (3, .ref da), (0, .ref a0), (1, .ref b), (2, .null)]) hx hb dj_sva_13 hl (by decide) rfl (fun ls hl => ?_)
  refine lv_aload_n hx hb dj_sva_15 rfl (lv_at hl 3 rfl) ?_
  refine va_calli (va_runU (As := []) (rest := []) ⟨hx, hb, hml, hown, hts⟩ (cq_isl l _ D cB b da n L f) (tcwU (C := "java/lang/StringBuilder") 0 hts wj_isl wq_92 wq_63 (hT wq_64) wq_65 wq_17 rfl rfl (by decide +kernel) ⟨Nat.le_of_ble_eq_true rfl, Nat.le_of_ble_eq_true rfl⟩) ⟨tBlind tC_ok, va_recv hK hP (ci := 0) rfl (q0 := 1) rfl, fun U hU hW => ⟨rfl, tPre (wc := (tW b da cB n L f)) (A' := vj_N) tC_ok hP hK hD hE.1 hS [1, 2] rfl rfl rfl (fun q h => h.elim) U hU hW⟩⟩ rfl rfl hl.1 rfl (lv_room (Nat.le_of_ble_eq_true rfl)) dj_sva_16 ⟨by first | exact Nat.zero_le _ | exact Nat.le_refl _, by first | exact Nat.zero_le _ | exact Nat.le_refl _⟩) hS (fun q _ h => h.elim) (fun q h => h.elim) (fun r u t H1 locs1 ht hvm hw hB hz1 hk1 hS1 => ?_)
  have hH := ht.symm.trans hB
  subst hH
  have hS := hS1
  subst hw
  refine lv_if_eq hx hb dj_sva_19 (tgt := 41) rfl (fun h => absurd h (by decide)) (fun _ => ?_)
  refine lv_aload_n hx hb dj_sva_22 rfl (lv_at hl 2 rfl) ?_
  refine lv_iconst (v := 0) hx hb dj_sva_23 (by decide) ?_
  refine va_putF (ref := "java/lang/String") hx hb (fun w h => hT h) tinJ0 tyJ0 tyJ0_ok nmJ0 hown hK hP hD hS 0 rfl rfl 1 (by decide) (hT wq_93) (fun _ h => h) rfl hin rfl (tyJ0_ok 1 (by decide)) rfl rfl (show 1 < 4 by decide) dj_sva_24 (fun H locs hP hD hS => ?_)
  refine lv_aload_n hx hb dj_sva_27 rfl (lv_at hl 2 rfl) ?_
  refine lv_aload_n hx hb dj_sva_28 rfl (lv_at hl 1 rfl) ?_
  refine lv_iconst (v := 0) hx hb dj_sva_29 (by decide) ?_
  refine lv_iload hx hb dj_sva_30 (lv_at hl 0 rfl) ?_
  have hFc := va_free (wc := [(da, tA cB L f)]) hD hS hA [2] rfl
  refine va_callr (va_runS (As := [.ref da, .int 0, .int (nI n)]) (rest := [.ref a0]) ⟨hx, hb, hml, hown, hts⟩ (cq_cor l _ D cB da L f n Kc hn hL hK9 hf) (va_cwS 3 hts (tgj (l := [Cond.methodLink "java/lang/String" 54 yj_cor, Cond.static yj_cor, Cond.initialized "java/util/Arrays", _]) (tm4 wq_94 wq_95 wq_31 wj_cor)) rfl rfl rfl (by decide +kernel) ⟨Nat.le_of_ble_eq_true rfl, Nat.le_of_ble_eq_true rfl⟩) ⟨tBlind tL_ok, fun U hU hW => ⟨rfl, tPre (wc := [(da, tA cB L f)]) tL_ok hP hK hD hE.2 hS [2] rfl rfl rfl hFc U hU hW⟩⟩ rfl rfl hl.1 rfl (lv_room (Nat.le_of_ble_eq_true rfl)) dj_sva_32 ⟨(show 0 + 0 + 0 + 0 + 1 ≤ 1 by omega), (show 0 + 0 + 0 + 0 + Kc ≤ Kc by omega)⟩) hS (fun q _ h => hFc q h) hFc (fun u sd t H1 locs1 ht hvm hw hB hz1 hk1 hS => ?_)
  obtain ⟨hP1, hK1, hD1⟩ := hB
  rw [ht] at hP1
  have hK := va_K.moved hvm.symm hK1
  obtain ⟨hP, hD⟩ := va_join (wr := [(a0, tE .null), (b, tB da n)]) (w1 := [(da, tA cB L f), (sd, tA cB n u)]) hP hD [2] [0, 1] rfl rfl (by decide) (by decide) hk1 hFc hP1 hD1
  dsimp only [List.nil_append, List.cons_append] at hP hD
  refine va_putF (ref := "java/lang/String") hx hb (fun w h => hT h) tinJ0 tyJ0 tyJ0_ok nmJ0 hown hK hP hD hS 0 rfl rfl 0 (by decide) (hT wq_37) (fun _ h => h) rfl hin rfl (tyJ0_ok 0 (by decide)) rfl rfl (show 0 < 4 by decide) dj_sva_35 (fun H locs hP hD hS => ?_)
  refine lv_goto hx hb dj_sva_38 (tgt := 97) rfl ?_
  refine W.widen (k := 1) (n := Kc) (by omega) (by omega) ?_
  exact W.vret hx hb hR (fun t ht hW => ⟨⟨(sd, u), rfl, hw, by rw [ht]; exact hP, va_K.moved hW.alike hK, hD⟩, hS.F ht⟩) hS.2.2 dj_sva_97
theorem wq_96 : Cond.methodLink "java/lang/String" 489 yj_sva ∈ tTS := tTS_of (mv_TS_of (k := 1201) (by decide +kernel) rfl)
theorem wq_97 : Cond.instanceMethod yj_sva ∈ tTS := tTS_of (mv_TS_of (k := 1202) (by decide +kernel) rfl)
theorem cq_sin (l : Launch) (h0 : Heap) (D : va_G) (cB : ClassId) (a0 b da n L : Nat) (f : Nat → Int32) (Kc : Nat) (hn : n ≤ L) (hL : L ≤ 100000) (hK9 : n ≤ Kc) (hf : sb_Fit f) : Met l yj_sin wl_sin ({ frames := 5, cells := 1, slots := Kc, locals := 171 } : Room) (va_Pc [.ref a0, .ref b] (tS h0 D cB [(a0, tE .null), (b, tB da n), (da, tA cB L f)] tK (va_A [(a0, tE .null), (b, tB da n), (da, tA cB L f)] h0.size))) (va_Qv (fun u : Nat × (Nat → Int32) => sb_Fit u.2 ∧ ∀ j, j < n → u.2 j = f j) (fun u t => tP D cB (va_A [(a0, tE .null), (b, tB da n), (da, tA cB L f)] h0.size) [(a0, tE (.ref u.1)), (b, tB da n), (da, tA cB L f), (u.1, tA cB n u.2)] t) (va_A [(a0, tE .null), (b, tB da n), (da, tA cB L f)] h0.size)) 1 (Kc) (va_A [(a0, tE .null), (b, tB da n), (da, tA cB L f)] h0.size) := by
  refine Met.ofW (cc := prog_31_method_53_code) (maxL := 2) (ret := (Option.none : Option Jvm.ClassFile.FieldType)) (by decide) rfl ?_
  intro p e s m args below meth c s₁ B hml hv
  obtain ⟨rfl, rfl, ⟨hP, hK, hD0⟩, hE⟩ := hv
  have hx := B.exec
  have hb := B.bytes
  have hR := B.returns
  have hts : ∀ w ∈ wl_sin, w.before _ s = true := atoms_spec (ws := wl_sin) B.pre
  have hT : ∀ {w : Cond}, w ∈ tTS → w.before _ s = true := fun h => hts _ (List.mem_cons_of_mem _ h)
  have hown : s.vm.findClass "java/lang/String" = some m.cls := findClass_of_methodNamed B.named
  have hlocks := B.notSynchronized
  have hin : meth.name = "<init>" := (name_of_methodNamed B.named B.method).1
  have hD := hD0.self (sz := s.heap.size)
  generalize hAe : va_A [(a0, tE .null), (b, tB da n), (da, tA cB L f)] s.heap.size = A at hD hE ⊢
  have hA : ∀ q : Nat, s.heap.size ≤ q → A q := fun q h => by rw [← hAe]; exact Or.inr h
  have hS : va_S A s.heap s.heap [] := va_S.rf
  have hl := lv_entry ([.ref a0, .ref b]) (n := 2) (Nat.le_of_ble_eq_true rfl)
  rw [lg_entry_eq]
  generalize (lg_sl ([.ref a0, .ref b]) ++ List.replicate (2 - (lg_sl ([.ref a0, .ref b])).length) Slot.unset).toArray = ls at hl ⊢
  have hl : lv_has ls 2 [(0, .ref a0), (1, .ref b)] := hl
  refine lv_aload_n hx hb dj_sin_0 rfl (lv_at hl 0 rfl) ?_
  refine lv_aload_n hx hb dj_sin_1 rfl (lv_at hl 1 rfl) ?_
  refine lv_null hx hb dj_sin_2 ?_
  have hFc := va_free (wc := [(a0, tE .null), (b, tB da n), (da, tA cB L f)]) hD hS hA [0, 1, 2] rfl
  refine va_callv (va_runI (As := [.ref b, .null]) (rest := []) ⟨hx, hb, hml, hown, hts⟩ (cq_sva l _ D cB a0 b da n L f Kc hn hL hK9 hf) (cwI 2 hts (tgood wj_sva) rfl rfl rfl (hT wq_35) (hT wq_96) (hT wq_97) rfl (by decide +kernel) ⟨Nat.le_of_ble_eq_true rfl, Nat.le_of_ble_eq_true rfl⟩) ⟨tBlind tK_ok, fun U hU hW => ⟨rfl, tPre (wc := [(a0, tE .null), (b, tB da n), (da, tA cB L f)]) tK_ok hP hK hD hE hS [0, 1, 2] rfl rfl rfl hFc U hU hW⟩⟩ rfl rfl hl.1 rfl (lv_room (Nat.le_of_ble_eq_true rfl)) dj_sin_3 ⟨(show 0 + 1 ≤ 1 by omega), (show 0 + Kc ≤ Kc by omega)⟩) hS (fun q _ h => hFc q h) hFc (fun u t H1 locs1 ht hvm hw hB hz1 hk1 hS => ?_)
  obtain ⟨⟨sd, u⟩, rfl⟩ : ∃ z, z = u := ⟨_, rfl⟩
  dsimp only at hw hB
  obtain ⟨hP1, hK1, hD1⟩ := hB
  rw [ht] at hP1
  have hK := va_K.moved hvm.symm hK1
  obtain ⟨hP, hD⟩ := va_join (wr := []) (w1 := [(a0, tE (.ref sd)), (b, tB da n), (da, tA cB L f), (sd, tA cB n u)]) hP hD [0, 1, 2] [] rfl rfl (by decide) (by decide) hk1 hFc hP1 hD1
  dsimp only [List.nil_append, List.cons_append] at hP hD
  refine W.widen (k := 1) (n := Kc) (by omega) (by omega) ?_
  exact W.vret hx hb hR (fun t ht hW => ⟨⟨(sd, u), rfl, hw, by rw [ht]; exact hP, va_K.moved hW.alike hK, hD⟩, hS.F ht⟩) hS.2.2 dj_sin_6
theorem wq_98 : Cond.classLink "java/lang/StringBuilder" 18 "java/lang/String" ∈ tTS := tTS_of (mv_TS_of (k := 1197) (by decide +kernel) rfl)
theorem wq_99 : Cond.instantiable "java/lang/String" 4 ∈ tTS := tTS_of (mv_TS_of (k := 795) (by decide +kernel) rfl)
theorem wq_100 : Cond.methodLink "java/lang/StringBuilder" 137 yj_sin ∈ tTS := tTS_of (mv_TS_of (k := 1198) (by decide +kernel) rfl)
theorem wq_101 : Cond.instanceMethod yj_sin ∈ tTS := tTS_of (mv_TS_of (k := 1199) (by decide +kernel) rfl)
theorem cq_tos (l : Launch) (h0 : Heap) (D : va_G) (cB : ClassId) (b da n L : Nat) (f : Nat → Int32) (Kc : Nat) (hn : n ≤ L) (hL : L ≤ 100000) (hK9 : n ≤ Kc) (hf : sb_Fit f) : Met l yj_tos wl_tos ({ frames := 6, cells := 2, slots := (4 + Kc), locals := 192 } : Room) (va_Pc [.ref b] (tS h0 D cB (tW b da cB n L f) tK (va_A (tW b da cB n L f) h0.size))) (va_Qr (fun u : Nat × (Nat → Int32) => sb_Fit u.2 ∧ ∀ j, j < n → u.2 j = f j) (fun u x t => tP D cB (va_A (tW b da cB n L f) h0.size) [(x, tE (.ref u.1)), (b, tB da n), (da, tA cB L f), (u.1, tA cB n u.2)] t) (va_A (tW b da cB n L f) h0.size)) 2 ((4 + Kc)) (va_A (tW b da cB n L f) h0.size) := by
  refine Met.ofW (cc := prog_32_method_42_code) (maxL := 1) (ret := (Option.some (Jvm.ClassFile.FieldType.object "java/lang/String"))) (by decide) rfl ?_
  intro p e s m args below meth c s₁ B hml hv
  obtain ⟨rfl, rfl, ⟨hP, hK, hD0⟩, hE⟩ := hv
  have hx := B.exec
  have hb := B.bytes
  have hR := B.returns
  have hts : ∀ w ∈ wl_tos, w.before _ s = true := atoms_spec (ws := wl_tos) B.pre
  have hT : ∀ {w : Cond}, w ∈ tTS → w.before _ s = true := fun h => hts _ (List.mem_cons_of_mem _ h)
  have hown : s.vm.findClass "java/lang/StringBuilder" = some m.cls := findClass_of_methodNamed B.named
  have hlocks := B.notSynchronized
  have hin : meth.name = "toString" := (name_of_methodNamed B.named B.method).1
  have hD := hD0.self (sz := s.heap.size)
  generalize hAe : va_A (tW b da cB n L f) s.heap.size = A at hD hE ⊢
  have hA : ∀ q : Nat, s.heap.size ≤ q → A q := fun q h => by rw [← hAe]; exact Or.inr h
  have hS : va_S A s.heap s.heap [] := va_S.rf
  have hl := lv_entry ([.ref b]) (n := 1) (Nat.le_of_ble_eq_true rfl)
  rw [lg_entry_eq]
  generalize (lg_sl ([.ref b]) ++ List.replicate (1 - (lg_sl ([.ref b])).length) Slot.unset).toArray = ls at hl ⊢
  have hl : lv_has ls 1 [(0, .ref b)] := hl
  refine va_new hx hb (fun w h => hT h) tinJ0 tyJ0 tyJ0_ok hown (hT wq_98) (hT wq_99) (hT wq_35) hK hP hD hS hA (ci := 1) rfl (fs := [.null, .int 0, .int 0, .int 0]) (fun j hj => ?_) (show 0 + 1 ≤ 2 by omega) (show 0 + 4 ≤ 4 + Kc by omega) dj_tos_0 (fun a0 H hP hD hS => ?_)
  · rcases (by omega : j = 0 ∨ j = 1 ∨ j = 2 ∨ j = 3) with rfl | rfl | rfl | rfl <;> rfl
  refine lv_dup hx hb dj_tos_3 rfl ?_
  refine lv_aload_n hx hb dj_tos_4 rfl (lv_at hl 0 rfl) ?_
  have hFc := va_free (wc := [(a0, tE .null), (b, tB da n), (da, tA cB L f)]) hD hS hA [2, 0, 1] rfl
  refine va_callv (va_runI (As := [.ref b]) (rest := [.ref a0]) ⟨hx, hb, hml, hown, hts⟩ (cq_sin l _ D cB a0 b da n L f Kc hn hL hK9 hf) (cwI 1 hts (tgood wj_sin) rfl rfl rfl (hT wq_35) (hT wq_100) (hT wq_101) rfl (by decide +kernel) ⟨Nat.le_of_ble_eq_true rfl, Nat.le_of_ble_eq_true rfl⟩) ⟨tBlind tK_ok, fun U hU hW => ⟨rfl, tPre (wc := [(a0, tE .null), (b, tB da n), (da, tA cB L f)]) tK_ok hP hK hD hE hS [2, 0, 1] rfl rfl rfl hFc U hU hW⟩⟩ rfl rfl hl.1 rfl (lv_room (Nat.le_of_ble_eq_true rfl)) dj_tos_5 ⟨(show 0 + 1 + 1 ≤ 2 by omega), (show 0 + 4 + Kc ≤ 4 + Kc by omega)⟩) hS (fun q _ h => hFc q h) hFc (fun u t H1 locs1 ht hvm hw hB hz1 hk1 hS => ?_)
  obtain ⟨⟨sd, u⟩, rfl⟩ : ∃ z, z = u := ⟨_, rfl⟩
  dsimp only at hw hB
  obtain ⟨hP1, hK1, hD1⟩ := hB
  rw [ht] at hP1
  have hK := va_K.moved hvm.symm hK1
  obtain ⟨hP, hD⟩ := va_join (wr := []) (w1 := [(a0, tE (.ref sd)), (b, tB da n), (da, tA cB L f), (sd, tA cB n u)]) hP hD [2, 0, 1] [] rfl rfl (by decide) (by decide) hk1 hFc hP1 hD1
  dsimp only [List.nil_append, List.cons_append] at hP hD
  refine W.widen (k := 2) (n := 4 + Kc) (by omega) (by omega) ?_
  exact W.aret hx hb hR (.inl ⟨_, rfl⟩) (.inr ⟨_, rfl⟩) (fun t ht hW => ⟨⟨(sd, u), a0, rfl, hw, by rw [ht]; exact hP, va_K.moved hW.alike hK, hD⟩, hS.F ht⟩) hS.2.2 dj_tos_8
abbrev tN : va_E := .inr (0, [.null, .int 0, .int 0, .int 0])
theorem wq_102 : Cond.methodLink "java/lang/AbstractStringBuilder" 3 objectInit ∈ tTS := tTS_of (mv_TS_of (k := 1049) (by decide +kernel) rfl)
theorem cq_abi (l : Launch) (h0 : Heap) (D : va_G) (cB : ClassId) (b : Nat) : Met l yj_abi wl_abi ({ frames := 1, cells := 1, slots := 16, locals := 80 } : Room) (va_Pc [.ref b, .int (nI 16)] (tS h0 D cB [(b, tN)] tC (va_A [(b, tN)] h0.size))) (va_Qv (fun _ : Nat => True) (fun da t => tP D cB (va_A [(b, tN)] h0.size) (tW b da cB 0 16 (fun _ => 0)) t) (va_A [(b, tN)] h0.size)) 1 (16) (va_A [(b, tN)] h0.size) := by
  refine Met.ofW (cc := prog_15_method_2_code) (maxL := 2) (ret := (Option.none : Option Jvm.ClassFile.FieldType)) (by decide) rfl ?_
  intro p e s m args below meth c s₁ B hml hv
  obtain ⟨rfl, rfl, ⟨hP, hK, hD0⟩, hE⟩ := hv
  have hx := B.exec
  have hb := B.bytes
  have hR := B.returns
  have hts : ∀ w ∈ wl_abi, w.before _ s = true := atoms_spec (ws := wl_abi) B.pre
  have hT : ∀ {w : Cond}, w ∈ tTS → w.before _ s = true := fun h => hts _ (List.mem_cons_of_mem _ h)
  have hown : s.vm.findClass "java/lang/AbstractStringBuilder" = some m.cls := findClass_of_methodNamed B.named
  have hlocks := B.notSynchronized
  have hin : meth.name = "<init>" := (name_of_methodNamed B.named B.method).1
  have hD := hD0.self (sz := s.heap.size)
  generalize hAe : va_A [(b, tN)] s.heap.size = A at hD hE ⊢
  have hA : ∀ q : Nat, s.heap.size ≤ q → A q := fun q h => by rw [← hAe]; exact Or.inr h
  have hS : va_S A s.heap s.heap [] := va_S.rf
  have hl := lv_entry ([.ref b, .int (nI 16)]) (n := 2) (Nat.le_of_ble_eq_true rfl)
  rw [lg_entry_eq]
  generalize (lg_sl ([.ref b, .int (nI 16)]) ++ List.replicate (2 - (lg_sl ([.ref b, .int (nI 16)])).length) Slot.unset).toArray = ls at hl ⊢
  have hl : lv_has ls 2 [(0, .ref b), (1, .int (nI 16))] := hl
  refine lv_aload_n hx hb dj_abi_0 rfl (lv_at hl 0 rfl) ?_
  refine W.objInit hx hb hown (hT wq_102) (hT wq_82) (hT wq_83) rfl (by rw [hml]; exact hl.1) rfl dj_abi_1 (Nat.le_of_ble_eq_true rfl) (Nat.le_of_ble_eq_true rfl) ?_
  refine W.eq (g2 := F0 m 4 ls []) rfl ?_
  refine va_gets hx hb (hE) hS hown (hT wq_12) (fun _ h => h) dj_abi_4 ?_
  refine lv_if_eq hx hb dj_abi_7 (tgt := 25) rfl (fun h => absurd h (by decide)) (fun _ => ?_)
  refine lv_aload_n hx hb dj_abi_10 rfl (lv_at hl 0 rfl) ?_
  refine lv_iload_n hx hb dj_abi_11 rfl (lv_at hl 1 rfl) ?_
  refine va_newa (atype := .byte) (ty := .byte) hx hb (hT wq_18) rfl hK hP hD hS hA (n := nI 16) (N' := 16) (a0 := (16, .inl (fun _ => 0))) (fun cA => rfl) (by decide) (by decide) (by decide) ((show 0 + 1 ≤ 1 by omega)) ((show 0 + 16 ≤ 16 by omega)) dj_abi_12 (fun da cA H hK hP hD hS => ?_)
  have ecA := tsameB hK
  subst ecA
  have hK := hK.sub (tys' := [(cA, .byte)]) [0] rfl
  refine va_put (ref := "java/lang/AbstractStringBuilder") hx hb (fun w h => hT h) tinJ4 tyJ4 tyJ4_ok nmJ4 hown hK hP hD hS 0 rfl rfl 0 (by decide) (hT wq_5) (fun _ h => h) rfl (tyJ4_ok 0 (by decide)) rfl rfl (show 0 < 4 by decide) dj_abi_14 (fun H locs hP hD hS => ?_)
  refine lv_aload_n hx hb dj_abi_17 rfl (lv_at hl 0 rfl) ?_
  refine lv_iconst (v := 0) hx hb dj_abi_18 (by decide) ?_
  refine va_put (ref := "java/lang/AbstractStringBuilder") hx hb (fun w h => hT h) tinJ4 tyJ4 tyJ4_ok nmJ4 hown hK hP hD hS 0 rfl rfl 1 (by decide) (hT wq_6) (fun _ h => h) rfl (tyJ4_ok 1 (by decide)) rfl rfl (show 1 < 4 by decide) dj_abi_19 (fun H locs hP hD hS => ?_)
  refine lv_goto hx hb dj_abi_22 (tgt := 38) rfl ?_
  have hP := hP.sub (ws' := tW b da cA 0 16 (fun _ => 0)) [0, 1] rfl
  have hD := hD.sub (ws' := tW b da cA 0 16 (fun _ => 0)) [0, 1] (by decide) rfl
  exact W.vret hx hb hR (fun t ht hW => ⟨⟨da, rfl, trivial, by rw [ht]; exact hP, va_K.moved hW.alike hK, hD⟩, hS.F ht⟩) hS.2.2 dj_abi_38
theorem wq_103 : Cond.methodLink "java/lang/StringBuilder" 1 yj_abi ∈ tTS := tTS_of (mv_TS_of (k := 1046) (by decide +kernel) rfl)
theorem wq_104 : Cond.instanceMethod yj_abi ∈ tTS := tTS_of (mv_TS_of (k := 1047) (by decide +kernel) rfl)
theorem cq_bin (l : Launch) (h0 : Heap) (D : va_G) (cB : ClassId) (b : Nat) : Met l yj_bin wl_bin ({ frames := 2, cells := 1, slots := 16, locals := 101 } : Room) (va_Pc [.ref b] (tS h0 D cB [(b, tN)] tC (va_A [(b, tN)] h0.size))) (va_Qv (fun _ : Nat => True) (fun da t => tP D cB (va_A [(b, tN)] h0.size) (tW b da cB 0 16 (fun _ => 0)) t) (va_A [(b, tN)] h0.size)) 1 (16) (va_A [(b, tN)] h0.size) := by
  refine Met.ofW (cc := prog_32_method_1_code) (maxL := 1) (ret := (Option.none : Option Jvm.ClassFile.FieldType)) (by decide) rfl ?_
  intro p e s m args below meth c s₁ B hml hv
  obtain ⟨rfl, rfl, ⟨hP, hK, hD0⟩, hE⟩ := hv
  have hx := B.exec
  have hb := B.bytes
  have hR := B.returns
  have hts : ∀ w ∈ wl_bin, w.before _ s = true := atoms_spec (ws := wl_bin) B.pre
  have hT : ∀ {w : Cond}, w ∈ tTS → w.before _ s = true := fun h => hts _ (List.mem_cons_of_mem _ h)
  have hown : s.vm.findClass "java/lang/StringBuilder" = some m.cls := findClass_of_methodNamed B.named
  have hlocks := B.notSynchronized
  have hin : meth.name = "<init>" := (name_of_methodNamed B.named B.method).1
  have hD := hD0.self (sz := s.heap.size)
  generalize hAe : va_A [(b, tN)] s.heap.size = A at hD hE ⊢
  have hA : ∀ q : Nat, s.heap.size ≤ q → A q := fun q h => by rw [← hAe]; exact Or.inr h
  have hS : va_S A s.heap s.heap [] := va_S.rf
  have hl := lv_entry ([.ref b]) (n := 1) (Nat.le_of_ble_eq_true rfl)
  rw [lg_entry_eq]
  generalize (lg_sl ([.ref b]) ++ List.replicate (1 - (lg_sl ([.ref b])).length) Slot.unset).toArray = ls at hl ⊢
  have hl : lv_has ls 1 [(0, .ref b)] := hl
  refine lv_aload_n hx hb dj_bin_0 rfl (lv_at hl 0 rfl) ?_
  refine lv_bipush (v := nI 16) hx hb dj_bin_1 (by decide) ?_
  have hFc := va_free (wc := [(b, tN)]) hD hS hA [0] rfl
  refine va_callv (va_runI (As := [.int (nI 16)]) (rest := []) ⟨hx, hb, hml, hown, hts⟩ (cq_abi l _ D cB b) (cwI 1 hts (tgood wj_abi) rfl rfl rfl (hT wq_17) (hT wq_103) (hT wq_104) rfl (by decide +kernel) ⟨Nat.le_of_ble_eq_true rfl, Nat.le_of_ble_eq_true rfl⟩) ⟨tBlind tC_ok, fun U hU hW => ⟨rfl, tPre (wc := [(b, tN)]) tC_ok hP hK hD hE hS [0] rfl rfl rfl hFc U hU hW⟩⟩ rfl rfl hl.1 rfl (lv_room (Nat.le_of_ble_eq_true rfl)) dj_bin_3 ⟨(show 0 + 1 ≤ 1 by omega), (show 0 + 16 ≤ 16 by omega)⟩) hS (fun q _ h => hFc q h) hFc (fun da t H1 locs1 ht hvm hw hB hz1 hk1 hS => ?_)
  obtain ⟨hP1, hK1, hD1⟩ := hB
  rw [ht] at hP1
  have hK := va_K.moved hvm.symm hK1
  obtain ⟨hP, hD⟩ := va_join (wr := []) (w1 := tW b da cB 0 16 (fun _ => 0)) hP hD [0] [] rfl rfl (by decide) (by decide) hk1 hFc hP1 hD1
  dsimp only [List.nil_append, List.cons_append] at hP hD
  exact W.vret hx hb hR (fun t ht hW => ⟨⟨da, rfl, trivial, by rw [ht]; exact hP, va_K.moved hW.alike hK, hD⟩, hS.F ht⟩) hS.2.2 dj_bin_6
