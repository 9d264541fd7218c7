/-! THE CLASS RUNS PROGRAMS -/
theorem tb_X10_carryOutProgram : mv_tb k_X10_carryOutProgram = t_X10_carryOutProgram := rfl
theorem r_X10_carryOutProgram_0 : mv_in k_X10_carryOutProgram 0 = some (.aload_n 0, 1, 0, 0, 0) := by unfold mv_in; rw [tb_X10_carryOutProgram]; rfl
theorem r_X10_carryOutProgram_1 : mv_in k_X10_carryOutProgram 1 = some (.getfield 49, 4, 7, 7, 345) := by unfold mv_in; rw [tb_X10_carryOutProgram]; rfl
theorem r_X10_carryOutProgram_4 : mv_in k_X10_carryOutProgram 4 = some (.iconst 0, 5, 0, 0, 0) := by unfold mv_in; rw [tb_X10_carryOutProgram]; rfl
theorem r_X10_carryOutProgram_5 : mv_in k_X10_carryOutProgram 5 = some (.putfield 286, 8, 5, 2, 303) := by unfold mv_in; rw [tb_X10_carryOutProgram]; rfl
theorem r_X10_carryOutProgram_8 : mv_in k_X10_carryOutProgram 8 = some (.iconst 0, 9, 0, 0, 0) := by unfold mv_in; rw [tb_X10_carryOutProgram]; rfl
theorem r_X10_carryOutProgram_9 : mv_in k_X10_carryOutProgram 9 = some (.istore_n 2, 10, 0, 0, 0) := by unfold mv_in; rw [tb_X10_carryOutProgram]; rfl
theorem r_X10_carryOutProgram_10 : mv_in k_X10_carryOutProgram 10 = some (.iload_n 2, 11, 0, 0, 0) := by unfold mv_in; rw [tb_X10_carryOutProgram]; rfl
theorem r_X10_carryOutProgram_11 : mv_in k_X10_carryOutProgram 11 = some (.iload_n 1, 12, 0, 0, 0) := by unfold mv_in; rw [tb_X10_carryOutProgram]; rfl
theorem r_X10_carryOutProgram_12 : mv_in k_X10_carryOutProgram 12 = some (.if_icmp .ge 96, 15, 108, 0, 0) := by unfold mv_in; rw [tb_X10_carryOutProgram]; rfl
theorem r_X10_carryOutProgram_15 : mv_in k_X10_carryOutProgram 15 = some (.aload_n 0, 16, 0, 0, 0) := by unfold mv_in; rw [tb_X10_carryOutProgram]; rfl
theorem r_X10_carryOutProgram_16 : mv_in k_X10_carryOutProgram 16 = some (.getfield 49, 19, 7, 7, 345) := by unfold mv_in; rw [tb_X10_carryOutProgram]; rfl
theorem r_X10_carryOutProgram_19 : mv_in k_X10_carryOutProgram 19 = some (.invokevirtual 306, 22, k_X8_readCommand, 1, 1199) := by unfold mv_in; rw [tb_X10_carryOutProgram]; rfl
theorem r_X10_carryOutProgram_22 : mv_in k_X10_carryOutProgram 22 = some (.pop, 23, 0, 0, 0) := by unfold mv_in; rw [tb_X10_carryOutProgram]; rfl
theorem r_X10_carryOutProgram_23 : mv_in k_X10_carryOutProgram 23 = some (.aload_n 0, 24, 0, 0, 0) := by unfold mv_in; rw [tb_X10_carryOutProgram]; rfl
theorem r_X10_carryOutProgram_24 : mv_in k_X10_carryOutProgram 24 = some (.getfield 49, 27, 7, 7, 345) := by unfold mv_in; rw [tb_X10_carryOutProgram]; rfl
theorem r_X10_carryOutProgram_27 : mv_in k_X10_carryOutProgram 27 = some (.getfield 309, 30, 5, 4, 307) := by unfold mv_in; rw [tb_X10_carryOutProgram]; rfl
theorem r_X10_carryOutProgram_30 : mv_in k_X10_carryOutProgram 30 = some (.iconst 0, 31, 0, 0, 0) := by unfold mv_in; rw [tb_X10_carryOutProgram]; rfl
theorem r_X10_carryOutProgram_31 : mv_in k_X10_carryOutProgram 31 = some (.iaload, 32, 0, 0, 0) := by unfold mv_in; rw [tb_X10_carryOutProgram]; rfl
theorem r_X10_carryOutProgram_32 : mv_in k_X10_carryOutProgram 32 = some (.istore_n 3, 33, 0, 0, 0) := by unfold mv_in; rw [tb_X10_carryOutProgram]; rfl
theorem r_X10_carryOutProgram_33 : mv_in k_X10_carryOutProgram 33 = some (.aload_n 0, 34, 0, 0, 0) := by unfold mv_in; rw [tb_X10_carryOutProgram]; rfl
theorem r_X10_carryOutProgram_34 : mv_in k_X10_carryOutProgram 34 = some (.getfield 49, 37, 7, 7, 345) := by unfold mv_in; rw [tb_X10_carryOutProgram]; rfl
theorem r_X10_carryOutProgram_37 : mv_in k_X10_carryOutProgram 37 = some (.getfield 309, 40, 5, 4, 307) := by unfold mv_in; rw [tb_X10_carryOutProgram]; rfl
theorem r_X10_carryOutProgram_40 : mv_in k_X10_carryOutProgram 40 = some (.iconst 1, 41, 0, 0, 0) := by unfold mv_in; rw [tb_X10_carryOutProgram]; rfl
theorem r_X10_carryOutProgram_41 : mv_in k_X10_carryOutProgram 41 = some (.iaload, 42, 0, 0, 0) := by unfold mv_in; rw [tb_X10_carryOutProgram]; rfl
theorem r_X10_carryOutProgram_42 : mv_in k_X10_carryOutProgram 42 = some (.istore 4, 44, 0, 0, 0) := by unfold mv_in; rw [tb_X10_carryOutProgram]; rfl
theorem r_X10_carryOutProgram_44 : mv_in k_X10_carryOutProgram 44 = some (.aload_n 0, 45, 0, 0, 0) := by unfold mv_in; rw [tb_X10_carryOutProgram]; rfl
theorem r_X10_carryOutProgram_45 : mv_in k_X10_carryOutProgram 45 = some (.getfield 49, 48, 7, 7, 345) := by unfold mv_in; rw [tb_X10_carryOutProgram]; rfl
theorem r_X10_carryOutProgram_48 : mv_in k_X10_carryOutProgram 48 = some (.getfield 309, 51, 5, 4, 307) := by unfold mv_in; rw [tb_X10_carryOutProgram]; rfl
theorem r_X10_carryOutProgram_51 : mv_in k_X10_carryOutProgram 51 = some (.iconst 2, 52, 0, 0, 0) := by unfold mv_in; rw [tb_X10_carryOutProgram]; rfl
theorem r_X10_carryOutProgram_52 : mv_in k_X10_carryOutProgram 52 = some (.iaload, 53, 0, 0, 0) := by unfold mv_in; rw [tb_X10_carryOutProgram]; rfl
theorem r_X10_carryOutProgram_53 : mv_in k_X10_carryOutProgram 53 = some (.istore 5, 55, 0, 0, 0) := by unfold mv_in; rw [tb_X10_carryOutProgram]; rfl
theorem r_X10_carryOutProgram_55 : mv_in k_X10_carryOutProgram 55 = some (.aload_n 0, 56, 0, 0, 0) := by unfold mv_in; rw [tb_X10_carryOutProgram]; rfl
theorem r_X10_carryOutProgram_56 : mv_in k_X10_carryOutProgram 56 = some (.getfield 10, 59, 7, 0, 338) := by unfold mv_in; rw [tb_X10_carryOutProgram]; rfl
theorem r_X10_carryOutProgram_59 : mv_in k_X10_carryOutProgram 59 = some (.aload_n 0, 60, 0, 0, 0) := by unfold mv_in; rw [tb_X10_carryOutProgram]; rfl
theorem r_X10_carryOutProgram_60 : mv_in k_X10_carryOutProgram 60 = some (.getfield 49, 63, 7, 7, 345) := by unfold mv_in; rw [tb_X10_carryOutProgram]; rfl
theorem r_X10_carryOutProgram_63 : mv_in k_X10_carryOutProgram 63 = some (.getfield 312, 66, 5, 3, 305) := by unfold mv_in; rw [tb_X10_carryOutProgram]; rfl
theorem r_X10_carryOutProgram_66 : mv_in k_X10_carryOutProgram 66 = some (.iload_n 3, 67, 0, 0, 0) := by unfold mv_in; rw [tb_X10_carryOutProgram]; rfl
theorem r_X10_carryOutProgram_67 : mv_in k_X10_carryOutProgram 67 = some (.iload 4, 69, 0, 0, 0) := by unfold mv_in; rw [tb_X10_carryOutProgram]; rfl
theorem r_X10_carryOutProgram_69 : mv_in k_X10_carryOutProgram 69 = some (.iload 5, 71, 0, 0, 0) := by unfold mv_in; rw [tb_X10_carryOutProgram]; rfl
theorem r_X10_carryOutProgram_71 : mv_in k_X10_carryOutProgram 71 = some (.invokevirtual 102, 74, k_X2_faultOf, 5, 384) := by unfold mv_in; rw [tb_X10_carryOutProgram]; rfl
theorem r_X10_carryOutProgram_74 : mv_in k_X10_carryOutProgram 74 = some (.getstatic 315, 77, 1010, 0, 422) := by unfold mv_in; rw [tb_X10_carryOutProgram]; rfl
theorem r_X10_carryOutProgram_77 : mv_in k_X10_carryOutProgram 77 = some (.if_acmp .eq 5, 80, 82, 0, 0) := by unfold mv_in; rw [tb_X10_carryOutProgram]; rfl
theorem r_X10_carryOutProgram_80 : mv_in k_X10_carryOutProgram 80 = some (.iload_n 2, 81, 0, 0, 0) := by unfold mv_in; rw [tb_X10_carryOutProgram]; rfl
theorem r_X10_carryOutProgram_81 : mv_in k_X10_carryOutProgram 81 = some (.ireturn, 82, 0, 0, 0) := by unfold mv_in; rw [tb_X10_carryOutProgram]; rfl
theorem r_X10_carryOutProgram_82 : mv_in k_X10_carryOutProgram 82 = some (.aload_n 0, 83, 0, 0, 0) := by unfold mv_in; rw [tb_X10_carryOutProgram]; rfl
theorem r_X10_carryOutProgram_83 : mv_in k_X10_carryOutProgram 83 = some (.getfield 10, 86, 7, 0, 338) := by unfold mv_in; rw [tb_X10_carryOutProgram]; rfl
theorem r_X10_carryOutProgram_86 : mv_in k_X10_carryOutProgram 86 = some (.aload_n 0, 87, 0, 0, 0) := by unfold mv_in; rw [tb_X10_carryOutProgram]; rfl
theorem r_X10_carryOutProgram_87 : mv_in k_X10_carryOutProgram 87 = some (.getfield 49, 90, 7, 7, 345) := by unfold mv_in; rw [tb_X10_carryOutProgram]; rfl
theorem r_X10_carryOutProgram_90 : mv_in k_X10_carryOutProgram 90 = some (.getfield 312, 93, 5, 3, 305) := by unfold mv_in; rw [tb_X10_carryOutProgram]; rfl
theorem r_X10_carryOutProgram_93 : mv_in k_X10_carryOutProgram 93 = some (.iload_n 3, 94, 0, 0, 0) := by unfold mv_in; rw [tb_X10_carryOutProgram]; rfl
theorem r_X10_carryOutProgram_94 : mv_in k_X10_carryOutProgram 94 = some (.iload 4, 96, 0, 0, 0) := by unfold mv_in; rw [tb_X10_carryOutProgram]; rfl
theorem r_X10_carryOutProgram_96 : mv_in k_X10_carryOutProgram 96 = some (.iload 5, 98, 0, 0, 0) := by unfold mv_in; rw [tb_X10_carryOutProgram]; rfl
theorem r_X10_carryOutProgram_98 : mv_in k_X10_carryOutProgram 98 = some (.invokevirtual 114, 101, k_X2_carryOut, 5, 561) := by unfold mv_in; rw [tb_X10_carryOutProgram]; rfl
theorem r_X10_carryOutProgram_101 : mv_in k_X10_carryOutProgram 101 = some (.pop, 102, 0, 0, 0) := by unfold mv_in; rw [tb_X10_carryOutProgram]; rfl
theorem r_X10_carryOutProgram_102 : mv_in k_X10_carryOutProgram 102 = some (.iinc 2 1, 105, 0, 0, 0) := by unfold mv_in; rw [tb_X10_carryOutProgram]; rfl
theorem r_X10_carryOutProgram_105 : mv_in k_X10_carryOutProgram 105 = some (.goto (-95), 108, 10, 0, 0) := by unfold mv_in; rw [tb_X10_carryOutProgram]; rfl
theorem r_X10_carryOutProgram_108 : mv_in k_X10_carryOutProgram 108 = some (.iload_n 1, 109, 0, 0, 0) := by unfold mv_in; rw [tb_X10_carryOutProgram]; rfl
theorem r_X10_carryOutProgram_109 : mv_in k_X10_carryOutProgram 109 = some (.ireturn, 110, 0, 0, 0) := by unfold mv_in; rw [tb_X10_carryOutProgram]; rfl
theorem nh_X10_carryOutProgram : mv_nh k_X10_carryOutProgram = true := rfl
theorem tb_X10_run : mv_tb k_X10_run = t_X10_run := rfl
theorem r_X10_run_0 : mv_in k_X10_run 0 = some (.aload_n 0, 1, 0, 0, 0) := by unfold mv_in; rw [tb_X10_run]; rfl
theorem r_X10_run_1 : mv_in k_X10_run 1 = some (.getfield 49, 4, 7, 7, 345) := by unfold mv_in; rw [tb_X10_run]; rfl
theorem r_X10_run_4 : mv_in k_X10_run 4 = some (.invokevirtual 283, 7, k_X8_countCommands, 1, 1112) := by unfold mv_in; rw [tb_X10_run]; rfl
theorem r_X10_run_7 : mv_in k_X10_run 7 = some (.istore_n 1, 8, 0, 0, 0) := by unfold mv_in; rw [tb_X10_run]; rfl
theorem r_X10_run_8 : mv_in k_X10_run 8 = some (.iload_n 1, 9, 0, 0, 0) := by unfold mv_in; rw [tb_X10_run]; rfl
theorem r_X10_run_9 : mv_in k_X10_run 9 = some (.iconst (-1), 10, 0, 0, 0) := by unfold mv_in; rw [tb_X10_run]; rfl
theorem r_X10_run_10 : mv_in k_X10_run 10 = some (.if_icmp .ne 33, 13, 43, 0, 0) := by unfold mv_in; rw [tb_X10_run]; rfl
theorem r_X10_run_13 : mv_in k_X10_run 13 = some (.aload_n 0, 14, 0, 0, 0) := by unfold mv_in; rw [tb_X10_run]; rfl
theorem r_X10_run_14 : mv_in k_X10_run 14 = some (.aload_n 0, 15, 0, 0, 0) := by unfold mv_in; rw [tb_X10_run]; rfl
theorem r_X10_run_15 : mv_in k_X10_run 15 = some (.getfield 49, 18, 7, 7, 345) := by unfold mv_in; rw [tb_X10_run]; rfl
theorem r_X10_run_18 : mv_in k_X10_run 18 = some (.getfield 286, 21, 5, 2, 303) := by unfold mv_in; rw [tb_X10_run]; rfl
theorem r_X10_run_21 : mv_in k_X10_run 21 = some (.putfield 64, 24, 7, 10, 348) := by unfold mv_in; rw [tb_X10_run]; rfl
theorem r_X10_run_24 : mv_in k_X10_run 24 = some (.aload_n 0, 25, 0, 0, 0) := by unfold mv_in; rw [tb_X10_run]; rfl
theorem r_X10_run_25 : mv_in k_X10_run 25 = some (.getfield 49, 28, 7, 7, 345) := by unfold mv_in; rw [tb_X10_run]; rfl
theorem r_X10_run_28 : mv_in k_X10_run 28 = some (.iconst 0, 29, 0, 0, 0) := by unfold mv_in; rw [tb_X10_run]; rfl
theorem r_X10_run_29 : mv_in k_X10_run 29 = some (.putfield 271, 32, 5, 1, 301) := by unfold mv_in; rw [tb_X10_run]; rfl
theorem r_X10_run_32 : mv_in k_X10_run 32 = some (.new 289, 35, 99, 0, 513) := by unfold mv_in; rw [tb_X10_run]; rfl
theorem r_X10_run_35 : mv_in k_X10_run 35 = some (.dup, 36, 0, 0, 0) := by unfold mv_in; rw [tb_X10_run]; rfl
theorem r_X10_run_36 : mv_in k_X10_run 36 = some (.ldc_w 291, 39, 0, 0, 1194) := by unfold mv_in; rw [tb_X10_run]; rfl
theorem r_X10_run_39 : mv_in k_X10_run 39 = some (.invokespecial 293, 42, 999, 2, 523) := by unfold mv_in; rw [tb_X10_run]; rfl
theorem r_X10_run_42 : mv_in k_X10_run 42 = some (.athrow, 43, 0, 0, 0) := by unfold mv_in; rw [tb_X10_run]; rfl
theorem r_X10_run_43 : mv_in k_X10_run 43 = some (.aload_n 0, 44, 0, 0, 0) := by unfold mv_in; rw [tb_X10_run]; rfl
theorem r_X10_run_44 : mv_in k_X10_run 44 = some (.getfield 19, 47, 7, 2, 340) := by unfold mv_in; rw [tb_X10_run]; rfl
theorem r_X10_run_47 : mv_in k_X10_run 47 = some (.aload_n 0, 48, 0, 0, 0) := by unfold mv_in; rw [tb_X10_run]; rfl
theorem r_X10_run_48 : mv_in k_X10_run 48 = some (.getfield 10, 51, 7, 0, 338) := by unfold mv_in; rw [tb_X10_run]; rfl
theorem r_X10_run_51 : mv_in k_X10_run 51 = some (.invokevirtual 217, 54, k_X2_copyFrom, 2, 711) := by unfold mv_in; rw [tb_X10_run]; rfl
theorem r_X10_run_54 : mv_in k_X10_run 54 = some (.aload_n 0, 55, 0, 0, 0) := by unfold mv_in; rw [tb_X10_run]; rfl
theorem r_X10_run_55 : mv_in k_X10_run 55 = some (.iload_n 1, 56, 0, 0, 0) := by unfold mv_in; rw [tb_X10_run]; rfl
theorem r_X10_run_56 : mv_in k_X10_run 56 = some (.invokevirtual 294, 59, k_X10_carryOutProgram, 2, 1195) := by unfold mv_in; rw [tb_X10_run]; rfl
theorem r_X10_run_59 : mv_in k_X10_run 59 = some (.istore_n 2, 60, 0, 0, 0) := by unfold mv_in; rw [tb_X10_run]; rfl
theorem r_X10_run_60 : mv_in k_X10_run 60 = some (.aload_n 0, 61, 0, 0, 0) := by unfold mv_in; rw [tb_X10_run]; rfl
theorem r_X10_run_61 : mv_in k_X10_run 61 = some (.getfield 49, 64, 7, 7, 345) := by unfold mv_in; rw [tb_X10_run]; rfl
theorem r_X10_run_64 : mv_in k_X10_run 64 = some (.iconst 0, 65, 0, 0, 0) := by unfold mv_in; rw [tb_X10_run]; rfl
theorem r_X10_run_65 : mv_in k_X10_run 65 = some (.putfield 271, 68, 5, 1, 301) := by unfold mv_in; rw [tb_X10_run]; rfl
theorem r_X10_run_68 : mv_in k_X10_run 68 = some (.iload_n 2, 69, 0, 0, 0) := by unfold mv_in; rw [tb_X10_run]; rfl
theorem r_X10_run_69 : mv_in k_X10_run 69 = some (.iload_n 1, 70, 0, 0, 0) := by unfold mv_in; rw [tb_X10_run]; rfl
theorem r_X10_run_70 : mv_in k_X10_run 70 = some (.if_icmp .ge 30, 73, 100, 0, 0) := by unfold mv_in; rw [tb_X10_run]; rfl
theorem r_X10_run_73 : mv_in k_X10_run 73 = some (.aload_n 0, 74, 0, 0, 0) := by unfold mv_in; rw [tb_X10_run]; rfl
theorem r_X10_run_74 : mv_in k_X10_run 74 = some (.getfield 10, 77, 7, 0, 338) := by unfold mv_in; rw [tb_X10_run]; rfl
theorem r_X10_run_77 : mv_in k_X10_run 77 = some (.aload_n 0, 78, 0, 0, 0) := by unfold mv_in; rw [tb_X10_run]; rfl
theorem r_X10_run_78 : mv_in k_X10_run 78 = some (.getfield 19, 81, 7, 2, 340) := by unfold mv_in; rw [tb_X10_run]; rfl
theorem r_X10_run_81 : mv_in k_X10_run 81 = some (.invokevirtual 217, 84, k_X2_copyFrom, 2, 711) := by unfold mv_in; rw [tb_X10_run]; rfl
theorem r_X10_run_84 : mv_in k_X10_run 84 = some (.aload_n 0, 85, 0, 0, 0) := by unfold mv_in; rw [tb_X10_run]; rfl
theorem r_X10_run_85 : mv_in k_X10_run 85 = some (.iload_n 2, 86, 0, 0, 0) := by unfold mv_in; rw [tb_X10_run]; rfl
theorem r_X10_run_86 : mv_in k_X10_run 86 = some (.putfield 68, 89, 7, 11, 349) := by unfold mv_in; rw [tb_X10_run]; rfl
theorem r_X10_run_89 : mv_in k_X10_run 89 = some (.new 297, 92, 99, 4, 1200) := by unfold mv_in; rw [tb_X10_run]; rfl
theorem r_X10_run_92 : mv_in k_X10_run 92 = some (.dup, 93, 0, 0, 0) := by unfold mv_in; rw [tb_X10_run]; rfl
theorem r_X10_run_93 : mv_in k_X10_run 93 = some (.ldc_w 299, 96, 0, 0, 1209) := by unfold mv_in; rw [tb_X10_run]; rfl
theorem r_X10_run_96 : mv_in k_X10_run 96 = some (.invokespecial 301, 99, 999, 2, 1210) := by unfold mv_in; rw [tb_X10_run]; rfl
theorem r_X10_run_99 : mv_in k_X10_run 99 = some (.athrow, 100, 0, 0, 0) := by unfold mv_in; rw [tb_X10_run]; rfl
theorem r_X10_run_100 : mv_in k_X10_run 100 = some (.aload_n 0, 101, 0, 0, 0) := by unfold mv_in; rw [tb_X10_run]; rfl
theorem r_X10_run_101 : mv_in k_X10_run 101 = some (.getfield 28, 104, 7, 4, 342) := by unfold mv_in; rw [tb_X10_run]; rfl
theorem r_X10_run_104 : mv_in k_X10_run 104 = some (.aload_n 0, 105, 0, 0, 0) := by unfold mv_in; rw [tb_X10_run]; rfl
theorem r_X10_run_105 : mv_in k_X10_run 105 = some (.getfield 19, 108, 7, 2, 340) := by unfold mv_in; rw [tb_X10_run]; rfl
theorem r_X10_run_108 : mv_in k_X10_run 108 = some (.invokevirtual 110, 111, k_X5_remember, 2, 546) := by unfold mv_in; rw [tb_X10_run]; rfl
theorem r_X10_run_111 : mv_in k_X10_run 111 = some (.iload_n 1, 112, 0, 0, 0) := by unfold mv_in; rw [tb_X10_run]; rfl
theorem r_X10_run_112 : mv_in k_X10_run 112 = some (.ireturn, 113, 0, 0, 0) := by unfold mv_in; rw [tb_X10_run]; rfl
theorem nh_X10_run : mv_nh k_X10_run = true := rfl
section KV
variable {L : Nat} {xs : Nat → Int32}
theorem kv_X10_carryOutProgram {v0 : Int32} {q nx w : Nat} {ls : mv_V} {st : List Value} {t : Nat} {h : mv_H} : mv_stp L xs (.invokevirtual q, nx, k_X10_carryOutProgram, 2, w) ls (.int v0 :: .ref 0 :: st) (t, 149, h) = if mv_cs st ≤ 8 then some (.inr (.inr (k_X10_carryOutProgram, [.ref 0, .int v0], st))) else none := by
  exact cl_any (nx := nx) (ls := ls) (kk := 1) (as := [.ref 0, .int v0]) (by decide) rfl rfl (.inr ((by decide : mv_is 149 0 7 = true)))
theorem kv_X10_run  {q nx w : Nat} {ls : mv_V} {st : List Value} {t : Nat} {h : mv_H} : mv_stp L xs (.invokevirtual q, nx, k_X10_run, 1, w) ls (.ref 0 :: st) (t, 149, h) = if mv_cs st ≤ 8 then some (.inr (.inr (k_X10_run, [.ref 0], st))) else none := by
  exact cl_any (nx := nx) (ls := ls) (kk := 1) (as := [.ref 0]) (by decide) rfl rfl (.inr ((by decide : mv_is 149 0 7 = true)))
end KV
theorem zPat_cnt (X : Int → Int) (len : Int) : ∀ (cs : List Nat) (p : Int) (as : List Int), (zPat X len cs p as).1 = true → (zPat X len cs p as).2.2.length = as.length + zcn cs
  | [], p, as, _ => by rw [zPat, zcn]; rfl
  | c :: cs, p, as, h => by
    rw [zPat] at h ⊢
    rw [zcn]
    split at h
    · next h1 =>
      rw [if_pos h1, if_pos (Or.inl h1 : c = 68 ∨ c = 78)]
      split at h
      · next h2 =>
        rw [if_pos h2, zPat_cnt X len cs _ _ h]
        simp
        omega
      · cases h
    · next h1 =>
      rw [if_neg h1]
      split at h
      · next h2 =>
        rw [if_pos h2, if_pos (Or.inr h2 : c = 68 ∨ c = 78)]
        split at h
        · next h3 =>
          rw [if_pos h3]
          split at h
          · next h4 =>
            rw [if_pos h4, zPat_cnt X len cs _ _ h]
            simp
            omega
          · next h4 =>
            rw [if_neg h4, zPat_cnt X len cs _ _ h]
            simp
            omega
        · cases h
      · next h2 =>
        rw [if_neg h2, if_neg (fun q => Or.elim q h1 h2)]
        split at h
        · next h3 => rw [if_pos h3, zPat_cnt X len cs _ _ h]; omega
        · cases h
theorem zRc_cnt {X : Int → Int} {len p : Int} (h : (zRc X len p).1 = true) : (zRc X len p).2.2.length = zcn (mv_pat (zFst X len (zRcp X len p))) := by
  unfold zRc at h ⊢
  split at h
  · cases h
  · next h1 =>
    rw [if_neg h1]
    unfold zOne at h ⊢
    split at h
    · cases h
    · next h2 =>
      rw [if_neg h2, zPat_cnt X len _ _ _ h]
      simp
/-- a command uses its own arguments only -/
theorem zUse {A : Int → Int} {p q r p' q' r' : Int} : ∀ (k : Nat), k < 8 → (1 ≤ zcn (mv_pat k) → p = p') → (2 ≤ zcn (mv_pat k) → q = q') → (3 ≤ zcn (mv_pat k) → r = r') → zfOf k A p q r = zfOf k A p' q' r' ∧ zCo k A p q r = zCo k A p' q' r'
  | 0, _, h1, h2, h3 => by rw [h1 (by decide), h2 (by decide), h3 (by decide)]; exact ⟨rfl, rfl⟩
  | 1, _, h1, h2, _ => by rw [h1 (by decide), h2 (by decide)]; exact ⟨rfl, rfl⟩
  | 2, _, h1, h2, _ => by rw [h1 (by decide), h2 (by decide)]; exact ⟨rfl, rfl⟩
  | 3, _, h1, _, _ => by rw [h1 (by decide)]; exact ⟨rfl, rfl⟩
  | 4, _, h1, _, _ => by rw [h1 (by decide)]; exact ⟨rfl, rfl⟩
  | 5, _, _, _, _ => ⟨rfl, rfl⟩
  | 6, _, h1, h2, _ => by rw [h1 (by decide), h2 (by decide)]; exact ⟨rfl, rfl⟩
  | 7, _, h1, _, _ => by rw [h1 (by decide)]; exact ⟨rfl, rfl⟩
theorem zAa_get {A : Int → Int} {as : List Int} {j : Nat} (h : j < as.length) : zAa A as (j : Int) = as.getD j 0 := by
  unfold zAa
  rw [if_pos (by omega), Int.toNat_natCast]
theorem z8_21 (T : zT) (c : Nat) (p k : Int) (A : Int → Int) : (z8 T c p k A).2.1 = c := rfl
theorem z8_o1 (T : zT) (c : Nat) (p k : Int) (A : Int → Int) : (z8 T c p k A).1 o1 = T.1 o1 := rfl
theorem z8_sD (T : zT) (c : Nat) (p k : Int) (A B : Int → Int) : sD (z8 T c p k A) o1 B = z8 (sD T o1 B) c p k A := by
  unfold sD z8
  congr 1
  funext o
  by_cases e : o = o1
  · subst e
    rfl
  · simp only [if_neg e]
    rfl
section RNC
variable {L : Nat} {xs : Nat → Int32} {d t : Nat} {X : Int → Int} {len : Int}
theorem lp_X10_carry (hd : 6 ≤ d) (l0 : 0 ≤ len) (l60 : len ≤ 60) (hx : ∀ j, 0 ≤ j → j < len → 0 ≤ X j ∧ X j < 65536) {N : Int} (hN : N ≤ 100) : ∀ (n : Nat) (i p : Int) (c : Nat) (k : Int) (Aa A : Int → Int) (T : zT), T.1 137 1 = len → T.1 138 = X → T.1 o1 = A → (zPt X len n p).1 = true → 0 ≤ i → i + (zPt X len n p).2.2.length = N → 0 ≤ p → p ≤ len → zWF A 99 → c < 8 → zAb Aa → ∃ c' p' k' Aa', c' < 8 ∧ zAb Aa' ∧ mv_Ev L xs (mv_cl L xs d) k_X10_carryOutProgram 10 [(2, .int (Int32.ofInt i)), (0, .ref 0), (1, .int (Int32.ofInt N))] [] (t, 149, mz (z8 T c p k Aa)) (.inl (some (.int (Int32.ofInt (i + (zRun (zPt X len n p).2.2 A).1)))), (t, 149, mz (z8 (sD T o1 (zRun (zPt X len n p).2.2 A).2) c' p' k' Aa'))) := by
  have hend : ∀ (i p : Int) (c : Nat) (k : Int) (Aa A : Int → Int) (T : zT), i = N → 0 ≤ i → T.1 o1 = A → mv_Ev L xs (mv_cl L xs d) k_X10_carryOutProgram 10 [(2, .int (Int32.ofInt i)), (0, .ref 0), (1, .int (Int32.ofInt N))] [] (t, 149, mz (z8 T c p k Aa)) (.inl (some (.int (Int32.ofInt (i + ((0 : Nat) : Int))))), (t, 149, mz (z8 (sD T o1 A) c p k Aa))) := by
    intro i p c k Aa A T hi hi0 e1
    have e : sD T o1 A = T := by rw [← e1, sD_id]
    rw [e, show i + ((0 : Nat) : Int) = N by omega]
    simp (disch := omega) only [mv_Ev_row r_X10_carryOutProgram_0, mv_Ev_row r_X10_carryOutProgram_1, mv_Ev_row r_X10_carryOutProgram_4, mv_Ev_row r_X10_carryOutProgram_5, mv_Ev_row r_X10_carryOutProgram_8, mv_Ev_row r_X10_carryOutProgram_9, mv_Ev_row r_X10_carryOutProgram_10, mv_Ev_row r_X10_carryOutProgram_11, mv_Ev_row r_X10_carryOutProgram_12, mv_Ev_row r_X10_carryOutProgram_15, mv_Ev_row r_X10_carryOutProgram_16, mv_Ev_row r_X10_carryOutProgram_19, mv_Ev_row r_X10_carryOutProgram_22, mv_Ev_row r_X10_carryOutProgram_23, mv_Ev_row r_X10_carryOutProgram_24, mv_Ev_row r_X10_carryOutProgram_27, mv_Ev_row r_X10_carryOutProgram_30, mv_Ev_row r_X10_carryOutProgram_31, mv_Ev_row r_X10_carryOutProgram_32, mv_Ev_row r_X10_carryOutProgram_33, mv_Ev_row r_X10_carryOutProgram_34, mv_Ev_row r_X10_carryOutProgram_37, mv_Ev_row r_X10_carryOutProgram_40, mv_Ev_row r_X10_carryOutProgram_41, mv_Ev_row r_X10_carryOutProgram_42, mv_Ev_row r_X10_carryOutProgram_44, mv_Ev_row r_X10_carryOutProgram_45, mv_Ev_row r_X10_carryOutProgram_48, mv_Ev_row r_X10_carryOutProgram_51, mv_Ev_row r_X10_carryOutProgram_52, mv_Ev_row r_X10_carryOutProgram_53, mv_Ev_row r_X10_carryOutProgram_55, mv_Ev_row r_X10_carryOutProgram_56, mv_Ev_row r_X10_carryOutProgram_59, mv_Ev_row r_X10_carryOutProgram_60, mv_Ev_row r_X10_carryOutProgram_63, mv_Ev_row r_X10_carryOutProgram_66, mv_Ev_row r_X10_carryOutProgram_67, mv_Ev_row r_X10_carryOutProgram_69, mv_Ev_row r_X10_carryOutProgram_71, mv_Ev_row r_X10_carryOutProgram_74, mv_Ev_row r_X10_carryOutProgram_77, mv_Ev_row r_X10_carryOutProgram_80, mv_Ev_row r_X10_carryOutProgram_81, mv_Ev_row r_X10_carryOutProgram_82, mv_Ev_row r_X10_carryOutProgram_83, mv_Ev_row r_X10_carryOutProgram_86, mv_Ev_row r_X10_carryOutProgram_87, mv_Ev_row r_X10_carryOutProgram_90, mv_Ev_row r_X10_carryOutProgram_93, mv_Ev_row r_X10_carryOutProgram_94, mv_Ev_row r_X10_carryOutProgram_96, mv_Ev_row r_X10_carryOutProgram_98, mv_Ev_row r_X10_carryOutProgram_101, mv_Ev_row r_X10_carryOutProgram_102, mv_Ev_row r_X10_carryOutProgram_105, mv_Ev_row r_X10_carryOutProgram_108, mv_Ev_row r_X10_carryOutProgram_109, ea_aload_n, gg_7_7, ea_iconst, pp_5_2, ea_istore_n, ea_iload_n, ea_icmp, kv_X8_readCommand, ea_pop_i, gg_5_4, ea_istore, gg_7_0, gg_5_3, ea_iload, ea_static, ez_acmp, ea_ireturn, ez_ret, ez_retc, ea_iinc, eb_inc, ea_goto, ar_ld0 ai_139, cz_eq, cz_ne, cz_lt, cz_ge, cz_gt, cz_le, mv_ac, decide_eq_true_eq, not_true_eq_false, and_self, and_true, true_and, ea_2n, ea_2f, ea_2c, ea_if, if_pos, if_neg, mv_lk, mv_f1, mv_f2, Value.category, List.filter, ↓reduceIte, Nat.reduceEqDiff, Nat.reduceAdd, Nat.reduceLT, Nat.reduceBEq, Nat.zero_add, Nat.add_zero, Nat.zero_ne_one, Nat.one_ne_zero, Bool.not_true, Bool.not_false, Bool.and_true, Bool.true_and, Bool.and_false, Bool.false_and, BEq.rfl, beq_self_eq_true, Bool.false_eq_true, reduceCtorEq, not_false_eq_true, fv0, fv1, fv2, fv3, eb_l0, eb_l1, eb_l2, eb_l3, eb_l4, eb_l5, eb_s0, eb_s1, eb_s2, eb_s3, eb_s4, eb_s5, oz_add, oz_sub, oz_mul, oz_neg, ol_add, ol_sub, sD_eq, sD_sD, sD_ne, sD_in, sD_in2, sD_in3, upR_is, upR_ne, mk_v, mk_n, mk_x, mk_i, mv_cs, Nat.reduceLeDiff, mv_ch_z, nh_X10_carryOutProgram]
  intro n
  induction n with
  | zero =>
    intro i p c k Aa A T e137 e138 e1 ok i0 hi p0 pl hA hc hAa
    unfold zPt at ok hi ⊢
    by_cases q : p = len
    · rw [if_pos q] at hi ⊢
      exact ⟨c, p, k, Aa, hc, hAa, hend i p c k Aa A T (by simpa using hi) i0 e1⟩
    · rw [if_neg q, zPg] at ok
      cases ok
  | succ n ih =>
    intro i p c k Aa A T e137 e138 e1 ok i0 hi p0 pl hA hc hAa
    by_cases q : p = len
    · unfold zPt at hi ⊢
      rw [if_pos q] at hi ⊢
      exact ⟨c, p, k, Aa, hc, hAa, hend i p c k Aa A T (by simpa using hi) i0 e1⟩
    · have et : zPt X len (n + 1) p = zPg X len (n + 1) p := by unfold zPt; rw [if_neg q]
      rw [et, zPg_t] at ok hi ⊢
      by_cases okc : (zRc X len p).1 = true
      · rw [if_pos okc] at ok hi ⊢
        dsimp only at ok hi ⊢
        rw [List.length_cons] at hi
        obtain ⟨c1, k1, A1, h1, h2, q1⟩ := c_X8_readCommand (L := L) (xs := xs) (t := t) (T := T) (A := Aa) (c := c) (k := k) (p := p) (d := d) (by omega) (by omega) (by omega) (by rw [e137, e138]; exact hx) p0 (by omega)
        rw [e137, e138] at h1 q1
        rw [okc, zb2_t] at q1
        obtain ⟨rfl, rfl⟩ := h1 okc
        have hle := zRc_le X len pl
        obtain ⟨hk8, harg⟩ := zRc_k okc
        have hcnt := zRc_cnt okc
        have hab := h2.2 hAa
        have b0 := hab 0 (by omega) (by omega)
        have b1 := hab 1 (by omega) (by omega)
        have b2 := hab 2 (by omega) (by omega)
        generalize zFst X len (zRcp X len p) = kk at hk8 hcnt q1 ⊢
        generalize (zRc X len p).2.2 = as at harg hcnt hab b0 b1 b2 q1 ⊢
        generalize (zRc X len p).2.1 = p1 at hle ok hi q1 ⊢
        obtain ⟨u1, u2⟩ := zUse (A := A) (p := zAa Aa as 0) (q := zAa Aa as 1) (r := zAa Aa as 2) (p' := as.getD 0 0) (q' := as.getD 1 0) (r' := as.getD 2 0) kk hk8 (fun h => zAa_get (j := 0) (by omega)) (fun h => zAa_get (j := 1) (by omega)) (fun h => zAa_get (j := 2) (by omega))
        have hfb := zfOf_bd kk A (zAa Aa as 0) (zAa Aa as 1) (zAa Aa as 2)
        have q2 := ct_faultOf (L := L) (xs := xs) (t := t) (T := z8 T kk p1 k1 (zAa Aa as)) (d := d) (p := zAa Aa as 0) (q := zAa Aa as 1) (r := zAa Aa as 2) Ch.o1 (by omega) hk8 (by rw [z8_o1, e1]; exact hA) (by omega) (by omega) (by omega) (by omega) (by omega) (by omega)
        rw [z8_o1, e1] at q2
        rw [zRun]
        by_cases hf : zfOf kk A (as.getD 0 0) (as.getD 1 0) (as.getD 2 0) = 1010
        · rw [if_pos hf]
          rw [u1, hf] at q2
          have q3 := ct_carryOut (L := L) (xs := xs) (t := t) (T := z8 T kk p1 k1 (zAa Aa as)) (d := d) (p := zAa Aa as 0) (q := zAa Aa as 1) (r := zAa Aa as 2) Ch.o1 (by omega) hk8 (A := A) (by rw [z8_o1]; exact e1) hA (by rw [u1]; exact hf)
          rw [u2, z8_sD] at q3
          have hA2 : zWF (zCo kk A (as.getD 0 0) (as.getD 1 0) (as.getD 2 0)) 99 := zCo_wf hk8 hA hf
          obtain ⟨c', p', k', Aa', g1, g2, g3⟩ := ih (i + 1) p1 kk k1 (zAa Aa as) _ (sD T o1 (zCo kk A (as.getD 0 0) (as.getD 1 0) (as.getD 2 0))) (by rw [sD_ne _ _ (by decide)]; exact e137) (by rw [sD_ne _ _ (by decide)]; exact e138) (sD_eq _ _ _) ok (by omega) (by omega) (by omega) hle.2 hA2 hk8 hab
          refine ⟨c', p', k', Aa', g1, g2, ?_⟩
          rw [sD_sD] at g3
          dsimp only
          rw [show i + (((zRun (zPt X len n p1).2.2 (zCo kk A (as.getD 0 0) (as.getD 1 0) (as.getD 2 0))).1 + 1 : Nat) : Int) = i + 1 + ((zRun (zPt X len n p1).2.2 (zCo kk A (as.getD 0 0) (as.getD 1 0) (as.getD 2 0))).1 : Int) by omega]
          rw [mv_Ev_row r_X10_carryOutProgram_10]
          simp (disch := omega) only [mv_Ev_row r_X10_carryOutProgram_0, mv_Ev_row r_X10_carryOutProgram_1, mv_Ev_row r_X10_carryOutProgram_4, mv_Ev_row r_X10_carryOutProgram_5, mv_Ev_row r_X10_carryOutProgram_8, mv_Ev_row r_X10_carryOutProgram_9, mv_Ev_row r_X10_carryOutProgram_11, mv_Ev_row r_X10_carryOutProgram_12, mv_Ev_row r_X10_carryOutProgram_15, mv_Ev_row r_X10_carryOutProgram_16, mv_Ev_row r_X10_carryOutProgram_19, mv_Ev_row r_X10_carryOutProgram_22, mv_Ev_row r_X10_carryOutProgram_23, mv_Ev_row r_X10_carryOutProgram_24, mv_Ev_row r_X10_carryOutProgram_27, mv_Ev_row r_X10_carryOutProgram_30, mv_Ev_row r_X10_carryOutProgram_31, mv_Ev_row r_X10_carryOutProgram_32, mv_Ev_row r_X10_carryOutProgram_33, mv_Ev_row r_X10_carryOutProgram_34, mv_Ev_row r_X10_carryOutProgram_37, mv_Ev_row r_X10_carryOutProgram_40, mv_Ev_row r_X10_carryOutProgram_41, mv_Ev_row r_X10_carryOutProgram_42, mv_Ev_row r_X10_carryOutProgram_44, mv_Ev_row r_X10_carryOutProgram_45, mv_Ev_row r_X10_carryOutProgram_48, mv_Ev_row r_X10_carryOutProgram_51, mv_Ev_row r_X10_carryOutProgram_52, mv_Ev_row r_X10_carryOutProgram_53, mv_Ev_row r_X10_carryOutProgram_55, mv_Ev_row r_X10_carryOutProgram_56, mv_Ev_row r_X10_carryOutProgram_59, mv_Ev_row r_X10_carryOutProgram_60, mv_Ev_row r_X10_carryOutProgram_63, mv_Ev_row r_X10_carryOutProgram_66, mv_Ev_row r_X10_carryOutProgram_67, mv_Ev_row r_X10_carryOutProgram_69, mv_Ev_row r_X10_carryOutProgram_71, mv_Ev_row r_X10_carryOutProgram_74, mv_Ev_row r_X10_carryOutProgram_77, mv_Ev_row r_X10_carryOutProgram_80, mv_Ev_row r_X10_carryOutProgram_81, mv_Ev_row r_X10_carryOutProgram_82, mv_Ev_row r_X10_carryOutProgram_83, mv_Ev_row r_X10_carryOutProgram_86, mv_Ev_row r_X10_carryOutProgram_87, mv_Ev_row r_X10_carryOutProgram_90, mv_Ev_row r_X10_carryOutProgram_93, mv_Ev_row r_X10_carryOutProgram_94, mv_Ev_row r_X10_carryOutProgram_96, mv_Ev_row r_X10_carryOutProgram_98, mv_Ev_row r_X10_carryOutProgram_101, mv_Ev_row r_X10_carryOutProgram_102, mv_Ev_row r_X10_carryOutProgram_105, mv_Ev_row r_X10_carryOutProgram_108, mv_Ev_row r_X10_carryOutProgram_109, ea_aload_n, gg_7_7, ea_iconst, pp_5_2, ea_istore_n, ea_iload_n, ea_icmp, kv_X8_readCommand, ea_pop_i, gg_5_4, ea_istore, gg_5_3, ea_iload, kv_X2_faultOf Ch.o1, ea_static, ez_acmp, ea_ireturn, ez_ret, ez_retc, kv_X2_carryOut Ch.o1, ea_iinc, eb_inc, ea_goto, ar_ld0 ai_139, cz_eq, cz_ne, cz_lt, cz_ge, cz_gt, cz_le, mv_ac, decide_eq_true_eq, not_true_eq_false, and_self, and_true, true_and, ea_2n, ea_2f, ea_2c, ea_if, if_pos, if_neg, mv_lk, mv_f1, mv_f2, Value.category, List.filter, ↓reduceIte, Nat.reduceEqDiff, Nat.reduceAdd, Nat.reduceLT, Nat.reduceBEq, Nat.zero_add, Nat.add_zero, Nat.zero_ne_one, Nat.one_ne_zero, Bool.not_true, Bool.not_false, Bool.and_true, Bool.true_and, Bool.and_false, Bool.false_and, BEq.rfl, beq_self_eq_true, Bool.false_eq_true, reduceCtorEq, not_false_eq_true, fv0, fv1, fv2, fv3, eb_l0, eb_l1, eb_l2, eb_l3, eb_l4, eb_l5, eb_s0, eb_s1, eb_s2, eb_s3, eb_s4, eb_s5, oz_add, oz_sub, oz_mul, oz_neg, ol_add, ol_sub, sD_eq, sD_sD, sD_ne, sD_in, sD_in2, sD_in3, upR_is, upR_ne, mk_v, mk_n, mk_x, mk_i, mv_cs, Nat.reduceLeDiff, mv_ch_z, nh_X10_carryOutProgram, g7_0, q1, q2, q3, z8_139, z8_21]
          exact mv_Es g3
        · rw [if_neg hf]
          rw [u1] at q2 hfb
          refine ⟨kk, p1, k1, zAa Aa as, hk8, hab, ?_⟩
          dsimp only
          have e : sD T o1 A = T := by rw [← e1, sD_id]
          rw [e, show i + ((0 : Nat) : Int) = i by omega]
          rw [mv_Ev_row r_X10_carryOutProgram_10]
          simp (disch := omega) only [mv_Ev_row r_X10_carryOutProgram_0, mv_Ev_row r_X10_carryOutProgram_1, mv_Ev_row r_X10_carryOutProgram_4, mv_Ev_row r_X10_carryOutProgram_5, mv_Ev_row r_X10_carryOutProgram_8, mv_Ev_row r_X10_carryOutProgram_9, mv_Ev_row r_X10_carryOutProgram_11, mv_Ev_row r_X10_carryOutProgram_12, mv_Ev_row r_X10_carryOutProgram_15, mv_Ev_row r_X10_carryOutProgram_16, mv_Ev_row r_X10_carryOutProgram_19, mv_Ev_row r_X10_carryOutProgram_22, mv_Ev_row r_X10_carryOutProgram_23, mv_Ev_row r_X10_carryOutProgram_24, mv_Ev_row r_X10_carryOutProgram_27, mv_Ev_row r_X10_carryOutProgram_30, mv_Ev_row r_X10_carryOutProgram_31, mv_Ev_row r_X10_carryOutProgram_32, mv_Ev_row r_X10_carryOutProgram_33, mv_Ev_row r_X10_carryOutProgram_34, mv_Ev_row r_X10_carryOutProgram_37, mv_Ev_row r_X10_carryOutProgram_40, mv_Ev_row r_X10_carryOutProgram_41, mv_Ev_row r_X10_carryOutProgram_42, mv_Ev_row r_X10_carryOutProgram_44, mv_Ev_row r_X10_carryOutProgram_45, mv_Ev_row r_X10_carryOutProgram_48, mv_Ev_row r_X10_carryOutProgram_51, mv_Ev_row r_X10_carryOutProgram_52, mv_Ev_row r_X10_carryOutProgram_53, mv_Ev_row r_X10_carryOutProgram_55, mv_Ev_row r_X10_carryOutProgram_56, mv_Ev_row r_X10_carryOutProgram_59, mv_Ev_row r_X10_carryOutProgram_60, mv_Ev_row r_X10_carryOutProgram_63, mv_Ev_row r_X10_carryOutProgram_66, mv_Ev_row r_X10_carryOutProgram_67, mv_Ev_row r_X10_carryOutProgram_69, mv_Ev_row r_X10_carryOutProgram_71, mv_Ev_row r_X10_carryOutProgram_74, mv_Ev_row r_X10_carryOutProgram_77, mv_Ev_row r_X10_carryOutProgram_80, mv_Ev_row r_X10_carryOutProgram_81, mv_Ev_row r_X10_carryOutProgram_82, mv_Ev_row r_X10_carryOutProgram_83, mv_Ev_row r_X10_carryOutProgram_86, mv_Ev_row r_X10_carryOutProgram_87, mv_Ev_row r_X10_carryOutProgram_90, mv_Ev_row r_X10_carryOutProgram_93, mv_Ev_row r_X10_carryOutProgram_94, mv_Ev_row r_X10_carryOutProgram_96, mv_Ev_row r_X10_carryOutProgram_98, mv_Ev_row r_X10_carryOutProgram_101, mv_Ev_row r_X10_carryOutProgram_102, mv_Ev_row r_X10_carryOutProgram_105, mv_Ev_row r_X10_carryOutProgram_108, mv_Ev_row r_X10_carryOutProgram_109, ea_aload_n, gg_7_7, ea_iconst, pp_5_2, ea_istore_n, ea_iload_n, ea_icmp, kv_X8_readCommand, ea_pop_i, gg_5_4, ea_istore, gg_5_3, ea_iload, kv_X2_faultOf Ch.o1, ea_static, ez_acmp, ea_ireturn, ez_ret, ez_retc, kv_X2_carryOut Ch.o1, ea_iinc, eb_inc, ea_goto, ar_ld0 ai_139, cz_eq, cz_ne, cz_lt, cz_ge, cz_gt, cz_le, mv_ac, decide_eq_true_eq, not_true_eq_false, and_self, and_true, true_and, ea_2n, ea_2f, ea_2c, ea_if, if_pos, if_neg, mv_lk, mv_f1, mv_f2, Value.category, List.filter, ↓reduceIte, Nat.reduceEqDiff, Nat.reduceAdd, Nat.reduceLT, Nat.reduceBEq, Nat.zero_add, Nat.add_zero, Nat.zero_ne_one, Nat.one_ne_zero, Bool.not_true, Bool.not_false, Bool.and_true, Bool.true_and, Bool.and_false, Bool.false_and, BEq.rfl, beq_self_eq_true, Bool.false_eq_true, reduceCtorEq, not_false_eq_true, fv0, fv1, fv2, fv3, eb_l0, eb_l1, eb_l2, eb_l3, eb_l4, eb_l5, eb_s0, eb_s1, eb_s2, eb_s3, eb_s4, eb_s5, oz_add, oz_sub, oz_mul, oz_neg, ol_add, ol_sub, sD_eq, sD_sD, sD_ne, sD_in, sD_in2, sD_in3, upR_is, upR_ne, mk_v, mk_n, mk_x, mk_i, mv_cs, Nat.reduceLeDiff, mv_ch_z, nh_X10_carryOutProgram, g7_0, q1, q2, z8_139, z8_21]
      · rw [if_neg okc] at ok
        cases ok
theorem z8_st (T : zT) : sD T 137 (upR (T.1 137) 2 0) = z8 T T.2.1 0 (T.1 137 5) (T.1 139) := by
  have h := z8_p T T.2.1 (T.1 137 2) (T.1 137 5) 0 (T.1 139)
  have h3 : zFk (T.1 137) (T.1 137 2) (T.1 137 5) = T.1 137 := by rw [← z8_137 T T.2.1 _ _ (T.1 139), z8_id]
  rw [z8_id, h3] at h
  exact h
theorem z8_ne (T : zT) (c : Nat) (p k : Int) (A : Int → Int) {o : Nat} (h1 : ¬ o = 137) (h2 : ¬ o = 139) : (z8 T c p k A).1 o = T.1 o := by
  show (if o = 137 then _ else if o = 139 then A else T.1 o) = T.1 o
  rw [if_neg h1, if_neg h2]
theorem zPg_pos {X : Int → Int} {len : Int} {n : Nat} (h : (zPg X len n 0).1 = true) : ¬ (0 : Int) = len := by
  intro e
  subst e
  cases n with
  | zero => rw [zPg] at h; cases h
  | succ n =>
    have h1 : zRc X 0 0 = (false, 0, []) := by
      unfold zRc zOne zRcp zFst
      simp
    rw [zPg, h1] at h
    simp at h
theorem c_X10_carry (hd : 7 ≤ d) {T : zT} {A : Int → Int} (l0 : 0 ≤ len) (l60 : len ≤ 60) (hx : ∀ j, 0 ≤ j → j < len → 0 ≤ X j ∧ X j < 65536) {N : Int} (e137 : T.1 137 1 = len) (e138 : T.1 138 = X) (e1 : T.1 o1 = A) (ok : (zPg X len 60 0).1 = true) (hN : (((zPg X len 60 0).2.2.length : Nat) : Int) = N) (hA : zWF A 99) (hc : T.2.1 < 8) (hAa : zAb (T.1 139)) : ∃ c' p' k' Aa', c' < 8 ∧ zAb Aa' ∧ mv_cl L xs d k_X10_carryOutProgram [.ref 0, .int (Int32.ofInt N)] (t, 149, mz T) = some (.inl (some (.int (Int32.ofInt ((zRun (zPg X len 60 0).2.2 A).1 : Nat)))), (t, 149, mz (z8 (sD T o1 (zRun (zPg X len 60 0).2.2 A).2) c' p' k' Aa'))) := by
  have hl := zPg_len X len 60 0
  have et : zPt X len 60 0 = zPg X len 60 0 := by unfold zPt; rw [if_neg (zPg_pos ok)]
  obtain ⟨c', p', k', Aa', g1, g2, g3⟩ := lp_X10_carry (L := L) (xs := xs) (t := t) (d := d - 1) (X := X) (len := len) (by omega) l0 l60 hx (N := N) (by omega) 60 0 0 T.2.1 (T.1 137 5) (T.1 139) A T e137 e138 e1 (by rw [et]; exact ok) (by omega) (by rw [et]; omega) (by omega) l0 hA hc hAa
  rw [et, Int.zero_add, ← z8_st] at g3
  refine ⟨c', p', k', Aa', g1, g2, ?_⟩
  obtain ⟨d, rfl⟩ : ∃ e, d = e + 1 := ⟨d - 1, by omega⟩
  apply mv_cl_of
  simp only [mv_il, Value.category, Nat.zero_add, Nat.reduceAdd]
  simp only [Nat.add_sub_cancel] at g3
  simp (disch := omega) only [mv_Ev_row r_X10_carryOutProgram_0, mv_Ev_row r_X10_carryOutProgram_1, mv_Ev_row r_X10_carryOutProgram_4, mv_Ev_row r_X10_carryOutProgram_5, mv_Ev_row r_X10_carryOutProgram_8, mv_Ev_row r_X10_carryOutProgram_9, mv_Ev_row r_X10_carryOutProgram_11, mv_Ev_row r_X10_carryOutProgram_12, mv_Ev_row r_X10_carryOutProgram_15, mv_Ev_row r_X10_carryOutProgram_16, mv_Ev_row r_X10_carryOutProgram_19, mv_Ev_row r_X10_carryOutProgram_22, mv_Ev_row r_X10_carryOutProgram_23, mv_Ev_row r_X10_carryOutProgram_24, mv_Ev_row r_X10_carryOutProgram_27, mv_Ev_row r_X10_carryOutProgram_30, mv_Ev_row r_X10_carryOutProgram_31, mv_Ev_row r_X10_carryOutProgram_32, mv_Ev_row r_X10_carryOutProgram_33, mv_Ev_row r_X10_carryOutProgram_34, mv_Ev_row r_X10_carryOutProgram_37, mv_Ev_row r_X10_carryOutProgram_40, mv_Ev_row r_X10_carryOutProgram_41, mv_Ev_row r_X10_carryOutProgram_42, mv_Ev_row r_X10_carryOutProgram_44, mv_Ev_row r_X10_carryOutProgram_45, mv_Ev_row r_X10_carryOutProgram_48, mv_Ev_row r_X10_carryOutProgram_51, mv_Ev_row r_X10_carryOutProgram_52, mv_Ev_row r_X10_carryOutProgram_53, mv_Ev_row r_X10_carryOutProgram_55, mv_Ev_row r_X10_carryOutProgram_56, mv_Ev_row r_X10_carryOutProgram_59, mv_Ev_row r_X10_carryOutProgram_60, mv_Ev_row r_X10_carryOutProgram_63, mv_Ev_row r_X10_carryOutProgram_66, mv_Ev_row r_X10_carryOutProgram_67, mv_Ev_row r_X10_carryOutProgram_69, mv_Ev_row r_X10_carryOutProgram_71, mv_Ev_row r_X10_carryOutProgram_74, mv_Ev_row r_X10_carryOutProgram_77, mv_Ev_row r_X10_carryOutProgram_80, mv_Ev_row r_X10_carryOutProgram_81, mv_Ev_row r_X10_carryOutProgram_82, mv_Ev_row r_X10_carryOutProgram_83, mv_Ev_row r_X10_carryOutProgram_86, mv_Ev_row r_X10_carryOutProgram_87, mv_Ev_row r_X10_carryOutProgram_90, mv_Ev_row r_X10_carryOutProgram_93, mv_Ev_row r_X10_carryOutProgram_94, mv_Ev_row r_X10_carryOutProgram_96, mv_Ev_row r_X10_carryOutProgram_98, mv_Ev_row r_X10_carryOutProgram_101, mv_Ev_row r_X10_carryOutProgram_102, mv_Ev_row r_X10_carryOutProgram_105, mv_Ev_row r_X10_carryOutProgram_108, mv_Ev_row r_X10_carryOutProgram_109, ea_aload_n, gg_7_7, ea_iconst, pp_5_2, ea_istore_n, ea_iload_n, ea_icmp, kv_X8_readCommand, ea_pop_i, gg_5_4, ea_istore, gg_7_0, gg_5_3, ea_iload, ea_static, ez_acmp, ea_ireturn, ez_ret, ez_retc, ea_iinc, eb_inc, ea_goto, ar_ld0 ai_139, cz_eq, cz_ne, cz_lt, cz_ge, cz_gt, cz_le, mv_ac, decide_eq_true_eq, not_true_eq_false, and_self, and_true, true_and, ea_2n, ea_2f, ea_2c, ea_if, if_pos, if_neg, mv_lk, mv_f1, mv_f2, Value.category, List.filter, ↓reduceIte, Nat.reduceEqDiff, Nat.reduceAdd, Nat.reduceLT, Nat.reduceBEq, Nat.zero_add, Nat.add_zero, Nat.zero_ne_one, Nat.one_ne_zero, Bool.not_true, Bool.not_false, Bool.and_true, Bool.true_and, Bool.and_false, Bool.false_and, BEq.rfl, beq_self_eq_true, Bool.false_eq_true, reduceCtorEq, not_false_eq_true, fv0, fv1, fv2, fv3, eb_l0, eb_l1, eb_l2, eb_l3, eb_l4, eb_l5, eb_s0, eb_s1, eb_s2, eb_s3, eb_s4, eb_s5, oz_add, oz_sub, oz_mul, oz_neg, ol_add, ol_sub, sD_eq, sD_sD, sD_ne, sD_in, sD_in2, sD_in3, upR_is, upR_ne, mk_v, mk_n, mk_x, mk_i, mv_cs, Nat.reduceLeDiff, mv_ch_z, nh_X10_carryOutProgram]
  exact mv_Es g3
/-- what a run leaves alone -/
def zFu (T T' : zT) : Prop := T'.2.2 = T.2.2 ∧ T'.2.1 < 8 ∧ zAb (T'.1 139) ∧ T'.1 137 1 = 0 ∧ ∀ o, ¬ o = 0 → ¬ o = o1 → ¬ o = o17 → ¬ o = 137 → ¬ o = 139 → ¬ o = 33 → (∀ j, j < 8 → ¬ o = 35 + 8 * j) → T'.1 o = T.1 o
theorem c_X10_run_no (hd : 7 ≤ d) {T : zT} (l0 : 0 ≤ T.1 137 1) (l60 : T.1 137 1 ≤ 60) (hx : ∀ j, 0 ≤ j → j < T.1 137 1 → 0 ≤ T.1 138 j ∧ T.1 138 j < 65536) (hc : T.2.1 < 8) (hAa : zAb (T.1 139)) (ok : (zPg (T.1 138) (T.1 137 1) 60 0).1 = false) : ∃ T', zFu T T' ∧ T'.1 0 = upR (T.1 0) 10 (zPg (T.1 138) (T.1 137 1) 60 0).2.1 ∧ T'.1 o1 = T.1 o1 ∧ T'.1 33 = T.1 33 ∧ (∀ j, j < 8 → T'.1 (35 + 8 * j) = T.1 (35 + 8 * j)) ∧ mv_cl L xs d k_X10_run [.ref 0] (t, 149, mz T) = some (.inr 0, (t + 1, 149, mz T')) := by
  obtain ⟨c1, k1, A1, ⟨h1, h2⟩, q1⟩ := c_X8_count (L := L) (xs := xs) (t := t) (T := T) (d := d - 1) (by omega) l0 l60 hx
  rw [show zPc 1 (zPg (T.1 138) (T.1 137 1) 60 0) = -1 by unfold zPc; rw [ok]; rfl] at q1
  generalize (zPg (T.1 138) (T.1 137 1) 60 0).2.1 = p at q1 ⊢
  have n0 : (z8 T c1 p k1 A1).1 0 = T.1 0 := rfl
  refine ⟨sD (sD (z8 T c1 p k1 A1) 0 (upR (T.1 0) 10 p)) 137 (upR (zFk (T.1 137) p k1) 1 0), ⟨rfl, h1 hc, ?_, ?_, ?_⟩, ?_, rfl, rfl, ?_, ?_⟩
  · rw [sD_ne _ _ (by decide), sD_ne _ _ (by decide), z8_139]; exact h2 hAa
  · rw [sD_eq, upR_eq]
  · intro o a1 a2 a3 a4 a5 a6 a7
    rw [sD_ne _ _ a4, sD_ne _ _ a1, z8_ne _ _ _ _ _ a4 a5]
  · rw [sD_ne _ _ (by decide), sD_eq]
  · intro j hj
    rw [sD_ne _ _ (by omega), sD_ne _ _ (by omega), z8_ne _ _ _ _ _ (by omega) (by omega)]
  · obtain ⟨d, rfl⟩ : ∃ e, d = e + 1 := ⟨d - 1, by omega⟩
    apply mv_cl_of
    simp only [mv_il, Value.category, Nat.zero_add, Nat.reduceAdd]
    simp only [Nat.add_sub_cancel] at q1
    simp (disch := omega) only [mv_Ev_row r_X10_run_0, mv_Ev_row r_X10_run_1, mv_Ev_row r_X10_run_4, mv_Ev_row r_X10_run_7, mv_Ev_row r_X10_run_8, mv_Ev_row r_X10_run_9, mv_Ev_row r_X10_run_10, mv_Ev_row r_X10_run_13, mv_Ev_row r_X10_run_14, mv_Ev_row r_X10_run_15, mv_Ev_row r_X10_run_18, mv_Ev_row r_X10_run_21, mv_Ev_row r_X10_run_24, mv_Ev_row r_X10_run_25, mv_Ev_row r_X10_run_28, mv_Ev_row r_X10_run_29, mv_Ev_row r_X10_run_32, mv_Ev_row r_X10_run_35, mv_Ev_row r_X10_run_36, mv_Ev_row r_X10_run_39, mv_Ev_row r_X10_run_42, mv_Ev_row r_X10_run_43, mv_Ev_row r_X10_run_44, mv_Ev_row r_X10_run_47, mv_Ev_row r_X10_run_48, mv_Ev_row r_X10_run_51, mv_Ev_row r_X10_run_54, mv_Ev_row r_X10_run_55, mv_Ev_row r_X10_run_56, mv_Ev_row r_X10_run_59, mv_Ev_row r_X10_run_60, mv_Ev_row r_X10_run_61, mv_Ev_row r_X10_run_64, mv_Ev_row r_X10_run_65, mv_Ev_row r_X10_run_68, mv_Ev_row r_X10_run_69, mv_Ev_row r_X10_run_70, mv_Ev_row r_X10_run_73, mv_Ev_row r_X10_run_74, mv_Ev_row r_X10_run_77, mv_Ev_row r_X10_run_78, mv_Ev_row r_X10_run_81, mv_Ev_row r_X10_run_84, mv_Ev_row r_X10_run_85, mv_Ev_row r_X10_run_86, mv_Ev_row r_X10_run_89, mv_Ev_row r_X10_run_92, mv_Ev_row r_X10_run_93, mv_Ev_row r_X10_run_96, mv_Ev_row r_X10_run_99, mv_Ev_row r_X10_run_100, mv_Ev_row r_X10_run_101, mv_Ev_row r_X10_run_104, mv_Ev_row r_X10_run_105, mv_Ev_row r_X10_run_108, mv_Ev_row r_X10_run_111, mv_Ev_row r_X10_run_112, ea_aload_n, gg_7_7, kv_X8_countCommands, ea_istore_n, ea_iload_n, ea_iconst, ea_icmp, gg_5_2, pp_7_10, pp_5_1, ez_thr, ea_dup_i, ea_dup_r, kv_X2_copyFrom Ch.o1, kv_X2_copyFrom Ch.o17, kv_X10_carryOutProgram, pp_7_11, gg_7_4, kv_X5_remember, ea_ireturn, ez_ret, ez_retc, cz_eq, cz_ne, cz_lt, cz_ge, cz_gt, cz_le, mv_ac, decide_eq_true_eq, not_true_eq_false, and_self, and_true, true_and, ea_2n, ea_2f, ea_2c, ea_if, if_pos, if_neg, mv_lk, mv_f1, mv_f2, Value.category, List.filter, ↓reduceIte, Nat.reduceEqDiff, Nat.reduceAdd, Nat.reduceLT, Nat.reduceBEq, Nat.zero_add, Nat.add_zero, Nat.zero_ne_one, Nat.one_ne_zero, Bool.not_true, Bool.not_false, Bool.and_true, Bool.true_and, Bool.and_false, Bool.false_and, BEq.rfl, beq_self_eq_true, Bool.false_eq_true, reduceCtorEq, not_false_eq_true, fv0, fv1, fv2, fv3, eb_l0, eb_l1, eb_l2, eb_l3, eb_l4, eb_l5, eb_s0, eb_s1, eb_s2, eb_s3, eb_s4, eb_s5, oz_add, oz_sub, oz_mul, oz_neg, ol_add, ol_sub, sD_eq, sD_sD, sD_ne, sD_in, sD_in2, sD_in3, upR_is, upR_ne, mk_v, mk_n, mk_x, mk_i, mv_cs, Nat.reduceLeDiff, mv_ch_z, nh_X10_run, g7_0, g7_2, q1, z8_137, zFk_2, n0]
theorem zRun_le : ∀ (cs : List (Nat × List Int)) (A : Int → Int), (zRun cs A).1 ≤ cs.length
  | [], A => by rw [zRun]; exact Nat.le_refl 0
  | c :: cs, A => by
    rw [zRun]
    split
    · have := zRun_le cs (zCo c.1 A (c.2.getD 0 0) (c.2.getD 1 0) (c.2.getD 2 0))
      rw [List.length_cons]
      dsimp only
      omega
    · exact Nat.zero_le _
theorem o1_his (j : Nat) : ¬ 35 + 8 * j = o1 := fun h => by have h : 35 + 8 * j = 1 := h; omega
theorem o17_his (j : Nat) : ¬ 35 + 8 * j = o17 := fun h => by have h : 35 + 8 * j = 17 := h; omega
theorem c_X10_run_fail (hd : 8 ≤ d) {T : zT} (l0 : 0 ≤ T.1 137 1) (l60 : T.1 137 1 ≤ 60) (hx : ∀ j, 0 ≤ j → j < T.1 137 1 → 0 ≤ T.1 138 j ∧ T.1 138 j < 65536) (hc : T.2.1 < 8) (hAa : zAb (T.1 139)) (hW : zWF (T.1 o1) 99) (hH : zHis T) (ok : (zPg (T.1 138) (T.1 137 1) 60 0).1 = true) (hs : (zRun (zPg (T.1 138) (T.1 137 1) 60 0).2.2 (T.1 o1)).1 < (zPg (T.1 138) (T.1 137 1) 60 0).2.2.length) : ∃ T', zFu T T' ∧ T'.1 0 = upR (T.1 0) 11 ((zRun (zPg (T.1 138) (T.1 137 1) 60 0).2.2 (T.1 o1)).1 : Nat) ∧ (∃ Y Z, T'.1 o1 = zCpy (zCpy (T.1 o1) Y) Z) ∧ T'.1 33 = T.1 33 ∧ (∀ j, j < 8 → T'.1 (35 + 8 * j) = T.1 (35 + 8 * j)) ∧ mv_cl L xs d k_X10_run [.ref 0] (t, 149, mz T) = some (.inr 4, (t + 1, 149, mz T')) := by
  have hl := zPg_len (T.1 138) (T.1 137 1) 60 0
  have hsl := zRun_le (zPg (T.1 138) (T.1 137 1) 60 0).2.2 (T.1 o1)
  obtain ⟨c1, k1, A1, ⟨h1, h2⟩, q1⟩ := c_X8_count (L := L) (xs := xs) (t := t) (T := T) (d := d - 1) (by omega) l0 l60 hx
  rw [show zPc 1 (zPg (T.1 138) (T.1 137 1) 60 0) = (((zPg (T.1 138) (T.1 137 1) 60 0).2.2.length : Nat) : Int) by unfold zPc; rw [if_pos ok]; omega] at q1
  have b137 : (z8 T c1 (zPg (T.1 138) (T.1 137 1) 60 0).2.1 k1 A1).1 137 1 = T.1 137 1 := rfl
  have b139 : (z8 T c1 (zPg (T.1 138) (T.1 137 1) 60 0).2.1 k1 A1).1 139 = A1 := rfl
  have bc : (z8 T c1 (zPg (T.1 138) (T.1 137 1) 60 0).2.1 k1 A1).2.1 = c1 := rfl
  have b22 : (z8 T c1 (zPg (T.1 138) (T.1 137 1) 60 0).2.1 k1 A1).2.2 = T.2.2 := rfl
  have bf : ∀ o, ¬ o = 137 → ¬ o = 139 → (z8 T c1 (zPg (T.1 138) (T.1 137 1) 60 0).2.1 k1 A1).1 o = T.1 o := fun o a1 a2 => z8_ne _ _ _ _ _ a1 a2
  generalize z8 T c1 (zPg (T.1 138) (T.1 137 1) 60 0).2.1 k1 A1 = T1 at q1 b137 b139 bc b22 bf
  have q2 := ct_copyFrom (L := L) (xs := xs) (t := t) (T := T1) (d := d - 1) (c := o17) (e := o1) (B := T.1 o1) Ch.o17 Ch.o1 (by decide) (by omega) (bf o1 (by decide) (by decide)) hW
  obtain ⟨c', p', k', Aa', g1, g2, q3⟩ := c_X10_carry (L := L) (xs := xs) (t := t) (T := sD T1 o17 (zCpy (T.1 o1) (T1.1 o17))) (d := d - 1) (A := T.1 o1) (X := T.1 138) (len := T.1 137 1) (by omega) l0 l60 hx (by rw [sD_ne _ _ (by decide)]; exact b137) (by rw [sD_ne _ _ (by decide)]; exact bf 138 (by decide) (by decide)) (by rw [sD_ne _ _ (by decide)]; exact bf o1 (by decide) (by decide)) ok rfl hW (by rw [sD_2, bc]; exact h1 hc) (by rw [sD_ne _ _ (by decide), b139]; exact h2 hAa)
  generalize (zPg (T.1 138) (T.1 137 1) 60 0).2.2 = cs at q1 q3 hl hsl hs ⊢
  have d1 : (z8 (sD (sD T1 o17 (zCpy (T.1 o1) (T1.1 o17))) o1 (zRun cs (T.1 o1)).2) c' p' k' Aa').1 o1 = (zRun cs (T.1 o1)).2 := by rw [z8_o1, sD_eq]
  have d17 : (z8 (sD (sD T1 o17 (zCpy (T.1 o1) (T1.1 o17))) o1 (zRun cs (T.1 o1)).2) c' p' k' Aa').1 o17 = zCpy (T.1 o1) (T1.1 o17) := by rw [z8_ne _ _ _ _ _ (by decide) (by decide), sD_ne _ _ (by decide), sD_eq]
  have d139 : (z8 (sD (sD T1 o17 (zCpy (T.1 o1) (T1.1 o17))) o1 (zRun cs (T.1 o1)).2) c' p' k' Aa').1 139 = Aa' := rfl
  have dc : (z8 (sD (sD T1 o17 (zCpy (T.1 o1) (T1.1 o17))) o1 (zRun cs (T.1 o1)).2) c' p' k' Aa').2.1 = c' := rfl
  have d22 : (z8 (sD (sD T1 o17 (zCpy (T.1 o1) (T1.1 o17))) o1 (zRun cs (T.1 o1)).2) c' p' k' Aa').2.2 = T.2.2 := b22
  have df : ∀ o, ¬ o = 137 → ¬ o = 139 → ¬ o = o1 → ¬ o = o17 → (z8 (sD (sD T1 o17 (zCpy (T.1 o1) (T1.1 o17))) o1 (zRun cs (T.1 o1)).2) c' p' k' Aa').1 o = T.1 o := fun o a1 a2 a3 a4 => by rw [z8_ne _ _ _ _ _ a1 a2, sD_ne _ _ a3, sD_ne _ _ a4]; exact bf o a1 a2
  generalize z8 (sD (sD T1 o17 (zCpy (T.1 o1) (T1.1 o17))) o1 (zRun cs (T.1 o1)).2) c' p' k' Aa' = T3 at q3 d1 d17 d139 dc d22 df
  have hcW := zWF_cpy hW (T1.1 o17)
  have q4 := ct_copyFrom (L := L) (xs := xs) (t := t) (T := sD T3 137 (upR (T3.1 137) 1 0)) (d := d - 1) (c := o1) (e := o17) (B := zCpy (T.1 o1) (T1.1 o17)) Ch.o1 Ch.o17 (by decide) (by omega) (by rw [sD_ne _ _ (by decide)]; exact d17) hcW
  rw [show (sD T3 137 (upR (T3.1 137) 1 0)).1 o1 = (zRun cs (T.1 o1)).2 by rw [sD_ne _ _ (by decide)]; exact d1] at q4
  have n0 : ∀ Y, (sD (sD T3 137 (upR (T3.1 137) 1 0)) o1 Y).1 0 = T.1 0 := fun Y => by
    rw [sD_ne _ _ (by decide), sD_ne _ _ (by decide)]
    exact df 0 (by decide) (by decide) (by decide) (by decide)
  refine ⟨sD (sD (sD T3 137 (upR (T3.1 137) 1 0)) o1 (zCpy (zCpy (T.1 o1) (T1.1 o17)) (zRun cs (T.1 o1)).2)) 0 (upR (T.1 0) 11 ((zRun cs (T.1 o1)).1 : Nat)), ⟨d22, ?_, ?_, ?_, ?_⟩, sD_eq _ _ _, ⟨T1.1 o17, (zRun cs (T.1 o1)).2, ?_⟩, ?_, ?_, ?_⟩
  · rw [sD_2, sD_2, sD_2, dc]; exact g1
  · rw [sD_ne _ _ (by decide), sD_ne _ _ (by decide), sD_ne _ _ (by decide), d139]; exact g2
  · rw [sD_ne _ _ (by decide), sD_ne _ _ (by decide), sD_eq, upR_eq]
  · intro o a1 a2 a3 a4 a5 a6 a7
    rw [sD_ne _ _ a1, sD_ne _ _ a2, sD_ne _ _ a4]
    exact df o a4 a5 a2 a3
  · rw [sD_ne _ _ (by decide), sD_eq]
  · rw [sD_ne _ _ (by decide), sD_ne _ _ (by decide), sD_ne _ _ (by decide)]
    exact df 33 (by decide) (by decide) (by decide) (by decide)
  · intro j hj
    rw [sD_ne _ _ (by omega), sD_ne _ _ (o1_his j), sD_ne _ _ (by omega)]
    exact df _ (by omega) (by omega) (o1_his j) (o17_his j)
  · obtain ⟨d, rfl⟩ : ∃ e, d = e + 1 := ⟨d - 1, by omega⟩
    apply mv_cl_of
    simp only [mv_il, Value.category, Nat.zero_add, Nat.reduceAdd]
    simp only [Nat.add_sub_cancel] at q1 q2 q3 q4
    simp (disch := omega) only [mv_Ev_row r_X10_run_0, mv_Ev_row r_X10_run_1, mv_Ev_row r_X10_run_4, mv_Ev_row r_X10_run_7, mv_Ev_row r_X10_run_8, mv_Ev_row r_X10_run_9, mv_Ev_row r_X10_run_10, mv_Ev_row r_X10_run_13, mv_Ev_row r_X10_run_14, mv_Ev_row r_X10_run_15, mv_Ev_row r_X10_run_18, mv_Ev_row r_X10_run_21, mv_Ev_row r_X10_run_24, mv_Ev_row r_X10_run_25, mv_Ev_row r_X10_run_28, mv_Ev_row r_X10_run_29, mv_Ev_row r_X10_run_32, mv_Ev_row r_X10_run_35, mv_Ev_row r_X10_run_36, mv_Ev_row r_X10_run_39, mv_Ev_row r_X10_run_42, mv_Ev_row r_X10_run_43, mv_Ev_row r_X10_run_44, mv_Ev_row r_X10_run_47, mv_Ev_row r_X10_run_48, mv_Ev_row r_X10_run_51, mv_Ev_row r_X10_run_54, mv_Ev_row r_X10_run_55, mv_Ev_row r_X10_run_56, mv_Ev_row r_X10_run_59, mv_Ev_row r_X10_run_60, mv_Ev_row r_X10_run_61, mv_Ev_row r_X10_run_64, mv_Ev_row r_X10_run_65, mv_Ev_row r_X10_run_68, mv_Ev_row r_X10_run_69, mv_Ev_row r_X10_run_70, mv_Ev_row r_X10_run_73, mv_Ev_row r_X10_run_74, mv_Ev_row r_X10_run_77, mv_Ev_row r_X10_run_78, mv_Ev_row r_X10_run_81, mv_Ev_row r_X10_run_84, mv_Ev_row r_X10_run_85, mv_Ev_row r_X10_run_86, mv_Ev_row r_X10_run_89, mv_Ev_row r_X10_run_92, mv_Ev_row r_X10_run_93, mv_Ev_row r_X10_run_96, mv_Ev_row r_X10_run_99, mv_Ev_row r_X10_run_100, mv_Ev_row r_X10_run_101, mv_Ev_row r_X10_run_104, mv_Ev_row r_X10_run_105, mv_Ev_row r_X10_run_108, mv_Ev_row r_X10_run_111, mv_Ev_row r_X10_run_112, ea_aload_n, gg_7_7, kv_X8_countCommands, ea_istore_n, ea_iload_n, ea_iconst, ea_icmp, gg_5_2, pp_7_10, pp_5_1, ez_thr, ea_dup_i, ea_dup_r, kv_X2_copyFrom Ch.o1, kv_X2_copyFrom Ch.o17, kv_X10_carryOutProgram, pp_7_11, gg_7_4, kv_X5_remember, ea_ireturn, ez_ret, ez_retc, cz_eq, cz_ne, cz_lt, cz_ge, cz_gt, cz_le, mv_ac, decide_eq_true_eq, not_true_eq_false, and_self, and_true, true_and, ea_2n, ea_2f, ea_2c, ea_if, if_pos, if_neg, mv_lk, mv_f1, mv_f2, Value.category, List.filter, ↓reduceIte, Nat.reduceEqDiff, Nat.reduceAdd, Nat.reduceLT, Nat.reduceBEq, Nat.zero_add, Nat.add_zero, Nat.zero_ne_one, Nat.one_ne_zero, Bool.not_true, Bool.not_false, Bool.and_true, Bool.true_and, Bool.and_false, Bool.false_and, BEq.rfl, beq_self_eq_true, Bool.false_eq_true, reduceCtorEq, not_false_eq_true, fv0, fv1, fv2, fv3, eb_l0, eb_l1, eb_l2, eb_l3, eb_l4, eb_l5, eb_s0, eb_s1, eb_s2, eb_s3, eb_s4, eb_s5, oz_add, oz_sub, oz_mul, oz_neg, ol_add, ol_sub, sD_eq, sD_sD, sD_ne, sD_in, sD_in2, sD_in3, upR_is, upR_ne, mk_v, mk_n, mk_x, mk_i, mv_cs, Nat.reduceLeDiff, mv_ch_z, nh_X10_run, g7_0, g7_2, q1, q2, q3, q4, n0]
theorem c_X10_run_ok (hd : 8 ≤ d) {T : zT} (l0 : 0 ≤ T.1 137 1) (l60 : T.1 137 1 ≤ 60) (hx : ∀ j, 0 ≤ j → j < T.1 137 1 → 0 ≤ T.1 138 j ∧ T.1 138 j < 65536) (hc : T.2.1 < 8) (hAa : zAb (T.1 139)) (hW : zWF (T.1 o1) 99) (hH : zHis T) (ok : (zPg (T.1 138) (T.1 137 1) 60 0).1 = true) (hs : ¬ (zRun (zPg (T.1 138) (T.1 137 1) 60 0).2.2 (T.1 o1)).1 < (zPg (T.1 138) (T.1 137 1) 60 0).2.2.length) : ∃ T', zFu T T' ∧ T'.1 0 = T.1 0 ∧ T'.1 o1 = (zRun (zPg (T.1 138) (T.1 137 1) 60 0).2.2 (T.1 o1)).2 ∧ T'.1 33 = upR (upR (T.1 33) 1 ((T.1 33 1 + 1) % 8)) 2 (min (T.1 33 2 + 1) 8) ∧ (∀ j, j < 8 → ¬ j = (T.1 33 1).toNat → T'.1 (35 + 8 * j) = T.1 (35 + 8 * j)) ∧ (∃ Y Z, T'.1 (35 + 8 * (T.1 33 1).toNat) = zCpy (zCpy (T.1 o1) Y) Z) ∧ mv_cl L xs d k_X10_run [.ref 0] (t, 149, mz T) = some (.inl (some (.int (Int32.ofInt ((zPg (T.1 138) (T.1 137 1) 60 0).2.2.length : Nat)))), (t, 149, mz T')) := by
  obtain ⟨n0, n8, e0, e8⟩ := hH
  have hl := zPg_len (T.1 138) (T.1 137 1) 60 0
  have hsl := zRun_le (zPg (T.1 138) (T.1 137 1) 60 0).2.2 (T.1 o1)
  obtain ⟨c1, k1, A1, ⟨h1, h2⟩, q1⟩ := c_X8_count (L := L) (xs := xs) (t := t) (T := T) (d := d - 1) (by omega) l0 l60 hx
  rw [show zPc 1 (zPg (T.1 138) (T.1 137 1) 60 0) = (((zPg (T.1 138) (T.1 137 1) 60 0).2.2.length : Nat) : Int) by unfold zPc; rw [if_pos ok]; omega] at q1
  have b137 : (z8 T c1 (zPg (T.1 138) (T.1 137 1) 60 0).2.1 k1 A1).1 137 1 = T.1 137 1 := rfl
  have b139 : (z8 T c1 (zPg (T.1 138) (T.1 137 1) 60 0).2.1 k1 A1).1 139 = A1 := rfl
  have bc : (z8 T c1 (zPg (T.1 138) (T.1 137 1) 60 0).2.1 k1 A1).2.1 = c1 := rfl
  have b22 : (z8 T c1 (zPg (T.1 138) (T.1 137 1) 60 0).2.1 k1 A1).2.2 = T.2.2 := rfl
  have bf : ∀ o, ¬ o = 137 → ¬ o = 139 → (z8 T c1 (zPg (T.1 138) (T.1 137 1) 60 0).2.1 k1 A1).1 o = T.1 o := fun o a1 a2 => z8_ne _ _ _ _ _ a1 a2
  generalize z8 T c1 (zPg (T.1 138) (T.1 137 1) 60 0).2.1 k1 A1 = T1 at q1 b137 b139 bc b22 bf
  have q2 := ct_copyFrom (L := L) (xs := xs) (t := t) (T := T1) (d := d - 1) (c := o17) (e := o1) (B := T.1 o1) Ch.o17 Ch.o1 (by decide) (by omega) (bf o1 (by decide) (by decide)) hW
  obtain ⟨c', p', k', Aa', g1, g2, q3⟩ := c_X10_carry (L := L) (xs := xs) (t := t) (T := sD T1 o17 (zCpy (T.1 o1) (T1.1 o17))) (d := d - 1) (A := T.1 o1) (X := T.1 138) (len := T.1 137 1) (by omega) l0 l60 hx (by rw [sD_ne _ _ (by decide)]; exact b137) (by rw [sD_ne _ _ (by decide)]; exact bf 138 (by decide) (by decide)) (by rw [sD_ne _ _ (by decide)]; exact bf o1 (by decide) (by decide)) ok rfl hW (by rw [sD_2, bc]; exact h1 hc) (by rw [sD_ne _ _ (by decide), b139]; exact h2 hAa)
  generalize (zPg (T.1 138) (T.1 137 1) 60 0).2.2 = cs at q1 q3 hl hsl hs ⊢
  have d1 : (z8 (sD (sD T1 o17 (zCpy (T.1 o1) (T1.1 o17))) o1 (zRun cs (T.1 o1)).2) c' p' k' Aa').1 o1 = (zRun cs (T.1 o1)).2 := by rw [z8_o1, sD_eq]
  have d17 : (z8 (sD (sD T1 o17 (zCpy (T.1 o1) (T1.1 o17))) o1 (zRun cs (T.1 o1)).2) c' p' k' Aa').1 o17 = zCpy (T.1 o1) (T1.1 o17) := by rw [z8_ne _ _ _ _ _ (by decide) (by decide), sD_ne _ _ (by decide), sD_eq]
  have d139 : (z8 (sD (sD T1 o17 (zCpy (T.1 o1) (T1.1 o17))) o1 (zRun cs (T.1 o1)).2) c' p' k' Aa').1 139 = Aa' := rfl
  have dc : (z8 (sD (sD T1 o17 (zCpy (T.1 o1) (T1.1 o17))) o1 (zRun cs (T.1 o1)).2) c' p' k' Aa').2.1 = c' := rfl
  have d22 : (z8 (sD (sD T1 o17 (zCpy (T.1 o1) (T1.1 o17))) o1 (zRun cs (T.1 o1)).2) c' p' k' Aa').2.2 = T.2.2 := b22
  have df : ∀ o, ¬ o = 137 → ¬ o = 139 → ¬ o = o1 → ¬ o = o17 → (z8 (sD (sD T1 o17 (zCpy (T.1 o1) (T1.1 o17))) o1 (zRun cs (T.1 o1)).2) c' p' k' Aa').1 o = T.1 o := fun o a1 a2 a3 a4 => by rw [z8_ne _ _ _ _ _ a1 a2, sD_ne _ _ a3, sD_ne _ _ a4]; exact bf o a1 a2
  generalize z8 (sD (sD T1 o17 (zCpy (T.1 o1) (T1.1 o17))) o1 (zRun cs (T.1 o1)).2) c' p' k' Aa' = T3 at q3 d1 d17 d139 dc d22 df
  have hcW := zWF_cpy hW (T1.1 o17)
  have q4 := c_X5_remember (L := L) (xs := xs) (t := t) (T := sD T3 137 (upR (T3.1 137) 1 0)) (d := d - 1) (e := o17) (F := T.1 33) (B := zCpy (T.1 o1) (T1.1 o17)) (j := (T.1 33 1).toNat) Ch.o17 (by decide) (by omega) (by omega) (by omega) e0 e8 hcW.1 hcW.2.1 hcW.2.2.1 hcW.2.2.2.1 (fun k h0 h1 => by have := hcW.2.2.2.2.1 k h0 h1; unfold zOK at this; omega) (by rw [sD_ne _ _ (by decide)]; exact df 33 (by decide) (by decide) (by decide) (by decide)) (by rw [sD_ne _ _ (by decide)]; exact d17)
  have hj : (T.1 33 1).toNat < 8 := by omega
  generalize (sD T3 137 (upR (T3.1 137) 1 0)).1 (35 + 8 * (T.1 33 1).toNat) = Z at q4
  have hsN : (zRun cs (T.1 o1)).1 = cs.length := by omega
  refine ⟨sD (sD (sD T3 137 (upR (T3.1 137) 1 0)) (35 + 8 * (T.1 33 1).toNat) (zCpy (zCpy (T.1 o1) (T1.1 o17)) Z)) 33 (upR (upR (T.1 33) 1 ((T.1 33 1 + 1) % 8)) 2 (min (T.1 33 2 + 1) 8)), ⟨d22, ?_, ?_, ?_, ?_⟩, ?_, ?_, sD_eq _ _ _, ?_, ⟨T1.1 o17, Z, ?_⟩, ?_⟩
  · rw [sD_2, sD_2, sD_2, dc]; exact g1
  · rw [sD_ne _ _ (by decide), sD_ne _ _ (by omega), sD_ne _ _ (by decide), d139]; exact g2
  · rw [sD_ne _ _ (by decide), sD_ne _ _ (by omega), sD_eq, upR_eq]
  · intro o a1 a2 a3 a4 a5 a6 a7
    rw [sD_ne _ _ a6, sD_ne _ _ (a7 _ hj), sD_ne _ _ a4]
    exact df o a4 a5 a2 a3
  · rw [sD_ne _ _ (by decide), sD_ne _ _ (by omega), sD_ne _ _ (by decide)]
    exact df 0 (by decide) (by decide) (by decide) (by decide)
  · rw [sD_ne _ _ (by decide), sD_ne _ _ (fun h => o1_his _ h.symm), sD_ne _ _ (by decide)]
    exact d1
  · intro j hj2 hne
    rw [sD_ne _ _ (by omega), sD_ne _ _ (by omega), sD_ne _ _ (by omega)]
    exact df _ (by omega) (by omega) (o1_his j) (o17_his j)
  · rw [sD_ne _ _ (by omega), sD_eq]
  · obtain ⟨d, rfl⟩ : ∃ e, d = e + 1 := ⟨d - 1, by omega⟩
    apply mv_cl_of
    simp only [mv_il, Value.category, Nat.zero_add, Nat.reduceAdd]
    simp only [Nat.add_sub_cancel] at q1 q2 q3 q4
    rw [hsN] at q3
    simp (disch := omega) only [mv_Ev_row r_X10_run_0, mv_Ev_row r_X10_run_1, mv_Ev_row r_X10_run_4, mv_Ev_row r_X10_run_7, mv_Ev_row r_X10_run_8, mv_Ev_row r_X10_run_9, mv_Ev_row r_X10_run_10, mv_Ev_row r_X10_run_13, mv_Ev_row r_X10_run_14, mv_Ev_row r_X10_run_15, mv_Ev_row r_X10_run_18, mv_Ev_row r_X10_run_21, mv_Ev_row r_X10_run_24, mv_Ev_row r_X10_run_25, mv_Ev_row r_X10_run_28, mv_Ev_row r_X10_run_29, mv_Ev_row r_X10_run_32, mv_Ev_row r_X10_run_35, mv_Ev_row r_X10_run_36, mv_Ev_row r_X10_run_39, mv_Ev_row r_X10_run_42, mv_Ev_row r_X10_run_43, mv_Ev_row r_X10_run_44, mv_Ev_row r_X10_run_47, mv_Ev_row r_X10_run_48, mv_Ev_row r_X10_run_51, mv_Ev_row r_X10_run_54, mv_Ev_row r_X10_run_55, mv_Ev_row r_X10_run_56, mv_Ev_row r_X10_run_59, mv_Ev_row r_X10_run_60, mv_Ev_row r_X10_run_61, mv_Ev_row r_X10_run_64, mv_Ev_row r_X10_run_65, mv_Ev_row r_X10_run_68, mv_Ev_row r_X10_run_69, mv_Ev_row r_X10_run_70, mv_Ev_row r_X10_run_73, mv_Ev_row r_X10_run_74, mv_Ev_row r_X10_run_77, mv_Ev_row r_X10_run_78, mv_Ev_row r_X10_run_81, mv_Ev_row r_X10_run_84, mv_Ev_row r_X10_run_85, mv_Ev_row r_X10_run_86, mv_Ev_row r_X10_run_89, mv_Ev_row r_X10_run_92, mv_Ev_row r_X10_run_93, mv_Ev_row r_X10_run_96, mv_Ev_row r_X10_run_99, mv_Ev_row r_X10_run_100, mv_Ev_row r_X10_run_101, mv_Ev_row r_X10_run_104, mv_Ev_row r_X10_run_105, mv_Ev_row r_X10_run_108, mv_Ev_row r_X10_run_111, mv_Ev_row r_X10_run_112, ea_aload_n, gg_7_7, kv_X8_countCommands, ea_istore_n, ea_iload_n, ea_iconst, ea_icmp, gg_5_2, pp_7_10, pp_5_1, ez_thr, ea_dup_i, ea_dup_r, kv_X2_copyFrom Ch.o1, kv_X2_copyFrom Ch.o17, kv_X10_carryOutProgram, pp_7_11, gg_7_4, kv_X5_remember, ea_ireturn, ez_ret, ez_retc, cz_eq, cz_ne, cz_lt, cz_ge, cz_gt, cz_le, mv_ac, decide_eq_true_eq, not_true_eq_false, and_self, and_true, true_and, ea_2n, ea_2f, ea_2c, ea_if, if_pos, if_neg, mv_lk, mv_f1, mv_f2, Value.category, List.filter, ↓reduceIte, Nat.reduceEqDiff, Nat.reduceAdd, Nat.reduceLT, Nat.reduceBEq, Nat.zero_add, Nat.add_zero, Nat.zero_ne_one, Nat.one_ne_zero, Bool.not_true, Bool.not_false, Bool.and_true, Bool.true_and, Bool.and_false, Bool.false_and, BEq.rfl, beq_self_eq_true, Bool.false_eq_true, reduceCtorEq, not_false_eq_true, fv0, fv1, fv2, fv3, eb_l0, eb_l1, eb_l2, eb_l3, eb_l4, eb_l5, eb_s0, eb_s1, eb_s2, eb_s3, eb_s4, eb_s5, oz_add, oz_sub, oz_mul, oz_neg, ol_add, ol_sub, sD_eq, sD_sD, sD_ne, sD_in, sD_in2, sD_in3, upR_is, upR_ne, mk_v, mk_n, mk_x, mk_i, mv_cs, Nat.reduceLeDiff, mv_ch_z, nh_X10_run, g7_0, g7_2, q1, q2, q3, q4]
end RNC

