/-! THE REFERENCE: programs -/
theorem tb_X11_does : mv_tb k_X11_does = t_X11_does := rfl
theorem r_X11_does_0 : mv_in k_X11_does 0 = some (.aload_n 0, 1, 0, 0, 0) := by unfold mv_in; rw [tb_X11_does]; rfl
theorem r_X11_does_1 : mv_in k_X11_does 1 = some (.getfield 24, 4, 8, 12, 1278) := by unfold mv_in; rw [tb_X11_does]; rfl
theorem r_X11_does_4 : mv_in k_X11_does 4 = some (.iload_n 1, 5, 0, 0, 0) := by unfold mv_in; rw [tb_X11_does]; rfl
theorem r_X11_does_5 : mv_in k_X11_does 5 = some (.iconst 1, 6, 0, 0, 0) := by unfold mv_in; rw [tb_X11_does]; rfl
theorem r_X11_does_6 : mv_in k_X11_does 6 = some (.iadd, 7, 0, 0, 0) := by unfold mv_in; rw [tb_X11_does]; rfl
theorem r_X11_does_7 : mv_in k_X11_does 7 = some (.iaload, 8, 0, 0, 0) := by unfold mv_in; rw [tb_X11_does]; rfl
theorem r_X11_does_8 : mv_in k_X11_does 8 = some (.istore_n 2, 9, 0, 0, 0) := by unfold mv_in; rw [tb_X11_does]; rfl
theorem r_X11_does_9 : mv_in k_X11_does 9 = some (.aload_n 0, 10, 0, 0, 0) := by unfold mv_in; rw [tb_X11_does]; rfl
theorem r_X11_does_10 : mv_in k_X11_does 10 = some (.getfield 24, 13, 8, 12, 1278) := by unfold mv_in; rw [tb_X11_does]; rfl
theorem r_X11_does_13 : mv_in k_X11_does 13 = some (.iload_n 1, 14, 0, 0, 0) := by unfold mv_in; rw [tb_X11_does]; rfl
theorem r_X11_does_14 : mv_in k_X11_does 14 = some (.iconst 2, 15, 0, 0, 0) := by unfold mv_in; rw [tb_X11_does]; rfl
theorem r_X11_does_15 : mv_in k_X11_does 15 = some (.iadd, 16, 0, 0, 0) := by unfold mv_in; rw [tb_X11_does]; rfl
theorem r_X11_does_16 : mv_in k_X11_does 16 = some (.iaload, 17, 0, 0, 0) := by unfold mv_in; rw [tb_X11_does]; rfl
theorem r_X11_does_17 : mv_in k_X11_does 17 = some (.istore_n 3, 18, 0, 0, 0) := by unfold mv_in; rw [tb_X11_does]; rfl
theorem r_X11_does_18 : mv_in k_X11_does 18 = some (.aload_n 0, 19, 0, 0, 0) := by unfold mv_in; rw [tb_X11_does]; rfl
theorem r_X11_does_19 : mv_in k_X11_does 19 = some (.getfield 24, 22, 8, 12, 1278) := by unfold mv_in; rw [tb_X11_does]; rfl
theorem r_X11_does_22 : mv_in k_X11_does 22 = some (.iload_n 1, 23, 0, 0, 0) := by unfold mv_in; rw [tb_X11_does]; rfl
theorem r_X11_does_23 : mv_in k_X11_does 23 = some (.iaload, 24, 0, 0, 0) := by unfold mv_in; rw [tb_X11_does]; rfl
theorem r_X11_does_24 : mv_in k_X11_does 24 = some (.tableswitch 141 97 114 #[110, 88, 129, 141, 141, 141, 103, 117, 141, 141, 141, 141, 141, 141, 141, 134, 141, 123], 112, 24, 0, 0) := by unfold mv_in; rw [tb_X11_does]; rfl
theorem r_X11_does_112 : mv_in k_X11_does 112 = some (.aload_n 0, 113, 0, 0, 0) := by unfold mv_in; rw [tb_X11_does]; rfl
theorem r_X11_does_113 : mv_in k_X11_does 113 = some (.iload_n 2, 114, 0, 0, 0) := by unfold mv_in; rw [tb_X11_does]; rfl
theorem r_X11_does_114 : mv_in k_X11_does 114 = some (.iload_n 3, 115, 0, 0, 0) := by unfold mv_in; rw [tb_X11_does]; rfl
theorem r_X11_does_115 : mv_in k_X11_does 115 = some (.aload_n 0, 116, 0, 0, 0) := by unfold mv_in; rw [tb_X11_does]; rfl
theorem r_X11_does_116 : mv_in k_X11_does 116 = some (.getfield 24, 119, 8, 12, 1278) := by unfold mv_in; rw [tb_X11_does]; rfl
theorem r_X11_does_119 : mv_in k_X11_does 119 = some (.iload_n 1, 120, 0, 0, 0) := by unfold mv_in; rw [tb_X11_does]; rfl
theorem r_X11_does_120 : mv_in k_X11_does 120 = some (.iconst 3, 121, 0, 0, 0) := by unfold mv_in; rw [tb_X11_does]; rfl
theorem r_X11_does_121 : mv_in k_X11_does 121 = some (.iadd, 122, 0, 0, 0) := by unfold mv_in; rw [tb_X11_does]; rfl
theorem r_X11_does_122 : mv_in k_X11_does 122 = some (.iaload, 123, 0, 0, 0) := by unfold mv_in; rw [tb_X11_does]; rfl
theorem r_X11_does_123 : mv_in k_X11_does 123 = some (.invokevirtual 69, 126, k_X11_builds, 4, 1331) := by unfold mv_in; rw [tb_X11_does]; rfl
theorem r_X11_does_126 : mv_in k_X11_does 126 = some (.ireturn, 127, 0, 0, 0) := by unfold mv_in; rw [tb_X11_does]; rfl
theorem r_X11_does_127 : mv_in k_X11_does 127 = some (.aload_n 0, 128, 0, 0, 0) := by unfold mv_in; rw [tb_X11_does]; rfl
theorem r_X11_does_128 : mv_in k_X11_does 128 = some (.iload_n 2, 129, 0, 0, 0) := by unfold mv_in; rw [tb_X11_does]; rfl
theorem r_X11_does_129 : mv_in k_X11_does 129 = some (.iload_n 3, 130, 0, 0, 0) := by unfold mv_in; rw [tb_X11_does]; rfl
theorem r_X11_does_130 : mv_in k_X11_does 130 = some (.invokevirtual 81, 133, k_X11_opens, 3, 1350) := by unfold mv_in; rw [tb_X11_does]; rfl
theorem r_X11_does_133 : mv_in k_X11_does 133 = some (.ireturn, 134, 0, 0, 0) := by unfold mv_in; rw [tb_X11_does]; rfl
theorem r_X11_does_134 : mv_in k_X11_does 134 = some (.aload_n 0, 135, 0, 0, 0) := by unfold mv_in; rw [tb_X11_does]; rfl
theorem r_X11_does_135 : mv_in k_X11_does 135 = some (.iload_n 2, 136, 0, 0, 0) := by unfold mv_in; rw [tb_X11_does]; rfl
theorem r_X11_does_136 : mv_in k_X11_does 136 = some (.iload_n 3, 137, 0, 0, 0) := by unfold mv_in; rw [tb_X11_does]; rfl
theorem r_X11_does_137 : mv_in k_X11_does 137 = some (.invokevirtual 87, 140, k_X11_guards, 3, 1366) := by unfold mv_in; rw [tb_X11_does]; rfl
theorem r_X11_does_140 : mv_in k_X11_does 140 = some (.ireturn, 141, 0, 0, 0) := by unfold mv_in; rw [tb_X11_does]; rfl
theorem r_X11_does_141 : mv_in k_X11_does 141 = some (.aload_n 0, 142, 0, 0, 0) := by unfold mv_in; rw [tb_X11_does]; rfl
theorem r_X11_does_142 : mv_in k_X11_does 142 = some (.iload_n 2, 143, 0, 0, 0) := by unfold mv_in; rw [tb_X11_does]; rfl
theorem r_X11_does_143 : mv_in k_X11_does 143 = some (.invokevirtual 90, 146, k_X11_frees, 2, 1378) := by unfold mv_in; rw [tb_X11_does]; rfl
theorem r_X11_does_146 : mv_in k_X11_does 146 = some (.ireturn, 147, 0, 0, 0) := by unfold mv_in; rw [tb_X11_does]; rfl
theorem r_X11_does_147 : mv_in k_X11_does 147 = some (.aload_n 0, 148, 0, 0, 0) := by unfold mv_in; rw [tb_X11_does]; rfl
theorem r_X11_does_148 : mv_in k_X11_does 148 = some (.iload_n 2, 149, 0, 0, 0) := by unfold mv_in; rw [tb_X11_does]; rfl
theorem r_X11_does_149 : mv_in k_X11_does 149 = some (.invokevirtual 94, 152, k_X11_expects, 2, 1386) := by unfold mv_in; rw [tb_X11_does]; rfl
theorem r_X11_does_152 : mv_in k_X11_does 152 = some (.ireturn, 153, 0, 0, 0) := by unfold mv_in; rw [tb_X11_does]; rfl
theorem r_X11_does_153 : mv_in k_X11_does 153 = some (.aload_n 0, 154, 0, 0, 0) := by unfold mv_in; rw [tb_X11_does]; rfl
theorem r_X11_does_154 : mv_in k_X11_does 154 = some (.invokevirtual 97, 157, k_X11_clears, 1, 1394) := by unfold mv_in; rw [tb_X11_does]; rfl
theorem r_X11_does_157 : mv_in k_X11_does 157 = some (.ireturn, 158, 0, 0, 0) := by unfold mv_in; rw [tb_X11_does]; rfl
theorem r_X11_does_158 : mv_in k_X11_does 158 = some (.aload_n 0, 159, 0, 0, 0) := by unfold mv_in; rw [tb_X11_does]; rfl
theorem r_X11_does_159 : mv_in k_X11_does 159 = some (.iload_n 2, 160, 0, 0, 0) := by unfold mv_in; rw [tb_X11_does]; rfl
theorem r_X11_does_160 : mv_in k_X11_does 160 = some (.iload_n 3, 161, 0, 0, 0) := by unfold mv_in; rw [tb_X11_does]; rfl
theorem r_X11_does_161 : mv_in k_X11_does 161 = some (.invokevirtual 100, 164, k_X11_pours, 3, 1406) := by unfold mv_in; rw [tb_X11_does]; rfl
theorem r_X11_does_164 : mv_in k_X11_does 164 = some (.ireturn, 165, 0, 0, 0) := by unfold mv_in; rw [tb_X11_does]; rfl
theorem r_X11_does_165 : mv_in k_X11_does 165 = some (.aload_n 0, 166, 0, 0, 0) := by unfold mv_in; rw [tb_X11_does]; rfl
theorem r_X11_does_166 : mv_in k_X11_does 166 = some (.iload_n 2, 167, 0, 0, 0) := by unfold mv_in; rw [tb_X11_does]; rfl
theorem r_X11_does_167 : mv_in k_X11_does 167 = some (.invokevirtual 106, 170, k_X11_goesOn, 2, 1418) := by unfold mv_in; rw [tb_X11_does]; rfl
theorem r_X11_does_170 : mv_in k_X11_does 170 = some (.ireturn, 171, 0, 0, 0) := by unfold mv_in; rw [tb_X11_does]; rfl
theorem nh_X11_does : mv_nh k_X11_does = true := rfl
theorem tb_X11_run : mv_tb k_X11_run = t_X11_run := rfl
theorem r_X11_run_0 : mv_in k_X11_run 0 = some (.aload_n 0, 1, 0, 0, 0) := by unfold mv_in; rw [tb_X11_run]; rfl
theorem r_X11_run_1 : mv_in k_X11_run 1 = some (.invokevirtual 186, 4, k_X11_parse, 1, 1605) := by unfold mv_in; rw [tb_X11_run]; rfl
theorem r_X11_run_4 : mv_in k_X11_run 4 = some (.aload_n 0, 5, 0, 0, 0) := by unfold mv_in; rw [tb_X11_run]; rfl
theorem r_X11_run_5 : mv_in k_X11_run 5 = some (.iconst 0, 6, 0, 0, 0) := by unfold mv_in; rw [tb_X11_run]; rfl
theorem r_X11_run_6 : mv_in k_X11_run 6 = some (.putfield 156, 9, 8, 7, 1273) := by unfold mv_in; rw [tb_X11_run]; rfl
theorem r_X11_run_9 : mv_in k_X11_run 9 = some (.aload_n 0, 10, 0, 0, 0) := by unfold mv_in; rw [tb_X11_run]; rfl
theorem r_X11_run_10 : mv_in k_X11_run 10 = some (.getfield 162, 13, 8, 9, 1275) := by unfold mv_in; rw [tb_X11_run]; rfl
theorem r_X11_run_13 : mv_in k_X11_run 13 = some (.ifCond .lt 18, 16, 31, 0, 0) := by unfold mv_in; rw [tb_X11_run]; rfl
theorem r_X11_run_16 : mv_in k_X11_run 16 = some (.aload_n 0, 17, 0, 0, 0) := by unfold mv_in; rw [tb_X11_run]; rfl
theorem r_X11_run_17 : mv_in k_X11_run 17 = some (.aload_n 0, 18, 0, 0, 0) := by unfold mv_in; rw [tb_X11_run]; rfl
theorem r_X11_run_18 : mv_in k_X11_run 18 = some (.getfield 162, 21, 8, 9, 1275) := by unfold mv_in; rw [tb_X11_run]; rfl
theorem r_X11_run_21 : mv_in k_X11_run 21 = some (.putfield 17, 24, 8, 10, 1276) := by unfold mv_in; rw [tb_X11_run]; rfl
theorem r_X11_run_24 : mv_in k_X11_run 24 = some (.aload_n 0, 25, 0, 0, 0) := by unfold mv_in; rw [tb_X11_run]; rfl
theorem r_X11_run_25 : mv_in k_X11_run 25 = some (.iconst 1, 26, 0, 0, 0) := by unfold mv_in; rw [tb_X11_run]; rfl
theorem r_X11_run_26 : mv_in k_X11_run 26 = some (.putfield 30, 29, 8, 0, 1266) := by unfold mv_in; rw [tb_X11_run]; rfl
theorem r_X11_run_29 : mv_in k_X11_run 29 = some (.iconst 0, 30, 0, 0, 0) := by unfold mv_in; rw [tb_X11_run]; rfl
theorem r_X11_run_30 : mv_in k_X11_run 30 = some (.ireturn, 31, 0, 0, 0) := by unfold mv_in; rw [tb_X11_run]; rfl
theorem r_X11_run_31 : mv_in k_X11_run 31 = some (.aload_n 0, 32, 0, 0, 0) := by unfold mv_in; rw [tb_X11_run]; rfl
theorem r_X11_run_32 : mv_in k_X11_run 32 = some (.invokevirtual 66, 35, k_X11_begins, 1, 1323) := by unfold mv_in; rw [tb_X11_run]; rfl
theorem r_X11_run_35 : mv_in k_X11_run 35 = some (.iconst 0, 36, 0, 0, 0) := by unfold mv_in; rw [tb_X11_run]; rfl
theorem r_X11_run_36 : mv_in k_X11_run 36 = some (.istore_n 1, 37, 0, 0, 0) := by unfold mv_in; rw [tb_X11_run]; rfl
theorem r_X11_run_37 : mv_in k_X11_run 37 = some (.iload_n 1, 38, 0, 0, 0) := by unfold mv_in; rw [tb_X11_run]; rfl
theorem r_X11_run_38 : mv_in k_X11_run 38 = some (.aload_n 0, 39, 0, 0, 0) := by unfold mv_in; rw [tb_X11_run]; rfl
theorem r_X11_run_39 : mv_in k_X11_run 39 = some (.getfield 174, 42, 8, 13, 1279) := by unfold mv_in; rw [tb_X11_run]; rfl
theorem r_X11_run_42 : mv_in k_X11_run 42 = some (.if_icmp .ge 19, 45, 61, 0, 0) := by unfold mv_in; rw [tb_X11_run]; rfl
theorem r_X11_run_45 : mv_in k_X11_run 45 = some (.aload_n 0, 46, 0, 0, 0) := by unfold mv_in; rw [tb_X11_run]; rfl
theorem r_X11_run_46 : mv_in k_X11_run 46 = some (.iconst 4, 47, 0, 0, 0) := by unfold mv_in; rw [tb_X11_run]; rfl
theorem r_X11_run_47 : mv_in k_X11_run 47 = some (.iload_n 1, 48, 0, 0, 0) := by unfold mv_in; rw [tb_X11_run]; rfl
theorem r_X11_run_48 : mv_in k_X11_run 48 = some (.imul, 49, 0, 0, 0) := by unfold mv_in; rw [tb_X11_run]; rfl
theorem r_X11_run_49 : mv_in k_X11_run 49 = some (.invokevirtual 189, 52, k_X11_does, 2, 1633) := by unfold mv_in; rw [tb_X11_run]; rfl
theorem r_X11_run_52 : mv_in k_X11_run 52 = some (.ifCond .ne 9, 55, 61, 0, 0) := by unfold mv_in; rw [tb_X11_run]; rfl
theorem r_X11_run_55 : mv_in k_X11_run 55 = some (.iinc 1 1, 58, 0, 0, 0) := by unfold mv_in; rw [tb_X11_run]; rfl
theorem r_X11_run_58 : mv_in k_X11_run 58 = some (.goto (-21), 61, 37, 0, 0) := by unfold mv_in; rw [tb_X11_run]; rfl
theorem r_X11_run_61 : mv_in k_X11_run 61 = some (.iload_n 1, 62, 0, 0, 0) := by unfold mv_in; rw [tb_X11_run]; rfl
theorem r_X11_run_62 : mv_in k_X11_run 62 = some (.aload_n 0, 63, 0, 0, 0) := by unfold mv_in; rw [tb_X11_run]; rfl
theorem r_X11_run_63 : mv_in k_X11_run 63 = some (.getfield 174, 66, 8, 13, 1279) := by unfold mv_in; rw [tb_X11_run]; rfl
theorem r_X11_run_66 : mv_in k_X11_run 66 = some (.if_icmp .ne 7, 69, 73, 0, 0) := by unfold mv_in; rw [tb_X11_run]; rfl
theorem r_X11_run_69 : mv_in k_X11_run 69 = some (.iconst 1, 70, 0, 0, 0) := by unfold mv_in; rw [tb_X11_run]; rfl
theorem r_X11_run_70 : mv_in k_X11_run 70 = some (.goto 4, 73, 74, 0, 0) := by unfold mv_in; rw [tb_X11_run]; rfl
theorem r_X11_run_73 : mv_in k_X11_run 73 = some (.iconst 0, 74, 0, 0, 0) := by unfold mv_in; rw [tb_X11_run]; rfl
theorem r_X11_run_74 : mv_in k_X11_run 74 = some (.istore_n 2, 75, 0, 0, 0) := by unfold mv_in; rw [tb_X11_run]; rfl
theorem r_X11_run_75 : mv_in k_X11_run 75 = some (.aload_n 0, 76, 0, 0, 0) := by unfold mv_in; rw [tb_X11_run]; rfl
theorem r_X11_run_76 : mv_in k_X11_run 76 = some (.iload_n 2, 77, 0, 0, 0) := by unfold mv_in; rw [tb_X11_run]; rfl
theorem r_X11_run_77 : mv_in k_X11_run 77 = some (.ifCond .eq 10, 80, 87, 0, 0) := by unfold mv_in; rw [tb_X11_run]; rfl
theorem r_X11_run_80 : mv_in k_X11_run 80 = some (.aload_n 0, 81, 0, 0, 0) := by unfold mv_in; rw [tb_X11_run]; rfl
theorem r_X11_run_81 : mv_in k_X11_run 81 = some (.getfield 21, 84, 8, 11, 1277) := by unfold mv_in; rw [tb_X11_run]; rfl
theorem r_X11_run_84 : mv_in k_X11_run 84 = some (.goto 4, 87, 88, 0, 0) := by unfold mv_in; rw [tb_X11_run]; rfl
theorem r_X11_run_87 : mv_in k_X11_run 87 = some (.iload_n 1, 88, 0, 0, 0) := by unfold mv_in; rw [tb_X11_run]; rfl
theorem r_X11_run_88 : mv_in k_X11_run 88 = some (.putfield 21, 91, 8, 11, 1277) := by unfold mv_in; rw [tb_X11_run]; rfl
theorem r_X11_run_91 : mv_in k_X11_run 91 = some (.aload_n 0, 92, 0, 0, 0) := by unfold mv_in; rw [tb_X11_run]; rfl
theorem r_X11_run_92 : mv_in k_X11_run 92 = some (.aload_n 0, 93, 0, 0, 0) := by unfold mv_in; rw [tb_X11_run]; rfl
theorem r_X11_run_93 : mv_in k_X11_run 93 = some (.getfield 174, 96, 8, 13, 1279) := by unfold mv_in; rw [tb_X11_run]; rfl
theorem r_X11_run_96 : mv_in k_X11_run 96 = some (.putfield 40, 99, 8, 4, 1270) := by unfold mv_in; rw [tb_X11_run]; rfl
theorem r_X11_run_99 : mv_in k_X11_run 99 = some (.aload_n 0, 100, 0, 0, 0) := by unfold mv_in; rw [tb_X11_run]; rfl
theorem r_X11_run_100 : mv_in k_X11_run 100 = some (.iload_n 2, 101, 0, 0, 0) := by unfold mv_in; rw [tb_X11_run]; rfl
theorem r_X11_run_101 : mv_in k_X11_run 101 = some (.ifCond .eq 7, 104, 108, 0, 0) := by unfold mv_in; rw [tb_X11_run]; rfl
theorem r_X11_run_104 : mv_in k_X11_run 104 = some (.iconst 0, 105, 0, 0, 0) := by unfold mv_in; rw [tb_X11_run]; rfl
theorem r_X11_run_105 : mv_in k_X11_run 105 = some (.goto 4, 108, 109, 0, 0) := by unfold mv_in; rw [tb_X11_run]; rfl
theorem r_X11_run_108 : mv_in k_X11_run 108 = some (.iconst 4, 109, 0, 0, 0) := by unfold mv_in; rw [tb_X11_run]; rfl
theorem r_X11_run_109 : mv_in k_X11_run 109 = some (.iconst 0, 110, 0, 0, 0) := by unfold mv_in; rw [tb_X11_run]; rfl
theorem r_X11_run_110 : mv_in k_X11_run 110 = some (.iconst 0, 111, 0, 0, 0) := by unfold mv_in; rw [tb_X11_run]; rfl
theorem r_X11_run_111 : mv_in k_X11_run 111 = some (.iconst 0, 112, 0, 0, 0) := by unfold mv_in; rw [tb_X11_run]; rfl
theorem r_X11_run_112 : mv_in k_X11_run 112 = some (.iconst 2, 113, 0, 0, 0) := by unfold mv_in; rw [tb_X11_run]; rfl
theorem r_X11_run_113 : mv_in k_X11_run 113 = some (.invokevirtual 73, 116, k_X11_ends, 6, 1342) := by unfold mv_in; rw [tb_X11_run]; rfl
theorem r_X11_run_116 : mv_in k_X11_run 116 = some (.ireturn, 117, 0, 0, 0) := by unfold mv_in; rw [tb_X11_run]; rfl
theorem nh_X11_run : mv_nh k_X11_run = true := rfl
theorem tb_X11_append : mv_tb k_X11_append = t_X11_append := rfl
theorem r_X11_append_0 : mv_in k_X11_append 0 = some (.aload_n 0, 1, 0, 0, 0) := by unfold mv_in; rw [tb_X11_append]; rfl
theorem r_X11_append_1 : mv_in k_X11_append 1 = some (.aload_n 0, 2, 0, 0, 0) := by unfold mv_in; rw [tb_X11_append]; rfl
theorem r_X11_append_2 : mv_in k_X11_append 2 = some (.getfield 156, 5, 8, 7, 1273) := by unfold mv_in; rw [tb_X11_append]; rfl
theorem r_X11_append_5 : mv_in k_X11_append 5 = some (.bipush 60, 7, 0, 0, 0) := by unfold mv_in; rw [tb_X11_append]; rfl
theorem r_X11_append_7 : mv_in k_X11_append 7 = some (.if_icmp .ge 7, 10, 14, 0, 0) := by unfold mv_in; rw [tb_X11_append]; rfl
theorem r_X11_append_10 : mv_in k_X11_append 10 = some (.iconst 1, 11, 0, 0, 0) := by unfold mv_in; rw [tb_X11_append]; rfl
theorem r_X11_append_11 : mv_in k_X11_append 11 = some (.goto 4, 14, 15, 0, 0) := by unfold mv_in; rw [tb_X11_append]; rfl
theorem r_X11_append_14 : mv_in k_X11_append 14 = some (.iconst 0, 15, 0, 0, 0) := by unfold mv_in; rw [tb_X11_append]; rfl
theorem r_X11_append_15 : mv_in k_X11_append 15 = some (.invokevirtual 112, 18, k_X11_isFine, 2, 1446) := by unfold mv_in; rw [tb_X11_append]; rfl
theorem r_X11_append_18 : mv_in k_X11_append 18 = some (.ifCond .ne 5, 21, 23, 0, 0) := by unfold mv_in; rw [tb_X11_append]; rfl
theorem r_X11_append_21 : mv_in k_X11_append 21 = some (.iconst 0, 22, 0, 0, 0) := by unfold mv_in; rw [tb_X11_append]; rfl
theorem r_X11_append_22 : mv_in k_X11_append 22 = some (.ireturn, 23, 0, 0, 0) := by unfold mv_in; rw [tb_X11_append]; rfl
theorem r_X11_append_23 : mv_in k_X11_append 23 = some (.aload_n 0, 24, 0, 0, 0) := by unfold mv_in; rw [tb_X11_append]; rfl
theorem r_X11_append_24 : mv_in k_X11_append 24 = some (.getfield 13, 27, 8, 6, 1272) := by unfold mv_in; rw [tb_X11_append]; rfl
theorem r_X11_append_27 : mv_in k_X11_append 27 = some (.aload_n 0, 28, 0, 0, 0) := by unfold mv_in; rw [tb_X11_append]; rfl
theorem r_X11_append_28 : mv_in k_X11_append 28 = some (.getfield 156, 31, 8, 7, 1273) := by unfold mv_in; rw [tb_X11_append]; rfl
theorem r_X11_append_31 : mv_in k_X11_append 31 = some (.iload_n 1, 32, 0, 0, 0) := by unfold mv_in; rw [tb_X11_append]; rfl
theorem r_X11_append_32 : mv_in k_X11_append 32 = some (.castore, 33, 0, 0, 0) := by unfold mv_in; rw [tb_X11_append]; rfl
theorem r_X11_append_33 : mv_in k_X11_append 33 = some (.aload_n 0, 34, 0, 0, 0) := by unfold mv_in; rw [tb_X11_append]; rfl
theorem r_X11_append_34 : mv_in k_X11_append 34 = some (.dup, 35, 0, 0, 0) := by unfold mv_in; rw [tb_X11_append]; rfl
theorem r_X11_append_35 : mv_in k_X11_append 35 = some (.getfield 156, 38, 8, 7, 1273) := by unfold mv_in; rw [tb_X11_append]; rfl
theorem r_X11_append_38 : mv_in k_X11_append 38 = some (.iconst 1, 39, 0, 0, 0) := by unfold mv_in; rw [tb_X11_append]; rfl
theorem r_X11_append_39 : mv_in k_X11_append 39 = some (.iadd, 40, 0, 0, 0) := by unfold mv_in; rw [tb_X11_append]; rfl
theorem r_X11_append_40 : mv_in k_X11_append 40 = some (.putfield 156, 43, 8, 7, 1273) := by unfold mv_in; rw [tb_X11_append]; rfl
theorem r_X11_append_43 : mv_in k_X11_append 43 = some (.aload_n 0, 44, 0, 0, 0) := by unfold mv_in; rw [tb_X11_append]; rfl
theorem r_X11_append_44 : mv_in k_X11_append 44 = some (.getfield 156, 47, 8, 7, 1273) := by unfold mv_in; rw [tb_X11_append]; rfl
theorem r_X11_append_47 : mv_in k_X11_append 47 = some (.ireturn, 48, 0, 0, 0) := by unfold mv_in; rw [tb_X11_append]; rfl
theorem nh_X11_append : mv_nh k_X11_append = true := rfl
section KV
variable {L : Nat} {xs : Nat → Int32}
theorem kv_X11_does {v0 : Int32} {q nx w : Nat} {ls : mv_V} {st : List Value} {t : Nat} {h : mv_H} : mv_stp L xs (.invokevirtual q, nx, k_X11_does, 2, w) ls (.int v0 :: .ref 142 :: st) (t, 149, h) = if mv_cs st ≤ 8 then some (.inr (.inr (k_X11_does, [.ref 142, .int v0], st))) else none := by
  exact cl_any (nx := nx) (ls := ls) (kk := 1) (as := [.ref 142, .int v0]) (by decide) rfl rfl (.inr ((by decide : mv_is 149 142 8 = true)))
theorem kv_X11_run  {q nx w : Nat} {ls : mv_V} {st : List Value} {t : Nat} {h : mv_H} : mv_stp L xs (.invokevirtual q, nx, k_X11_run, 1, w) ls (.ref 142 :: st) (t, 149, h) = if mv_cs st ≤ 8 then some (.inr (.inr (k_X11_run, [.ref 142], st))) else none := by
  exact cl_any (nx := nx) (ls := ls) (kk := 1) (as := [.ref 142]) (by decide) rfl rfl (.inr ((by decide : mv_is 149 142 8 = true)))
theorem kv_X11_append {v0 : Int32} {q nx w : Nat} {ls : mv_V} {st : List Value} {t : Nat} {h : mv_H} : mv_stp L xs (.invokevirtual q, nx, k_X11_append, 2, w) ls (.int v0 :: .ref 142 :: st) (t, 149, h) = if mv_cs st ≤ 8 then some (.inr (.inr (k_X11_append, [.ref 142, .int v0], st))) else none := by
  exact cl_any (nx := nx) (ls := ls) (kk := 1) (as := [.ref 142, .int v0]) (by decide) rfl rfl (.inr ((by decide : mv_is 149 142 8 = true)))
end KV
theorem swd_98 {L : Nat} {xs : Nat → Int32} {ls : mv_V} {st : List Value} {σ : mv_S} : mv_stp L xs (.tableswitch 141 97 114 #[110, 88, 129, 141, 141, 141, 103, 117, 141, 141, 141, 141, 141, 141, 141, 134, 141, 123], 112, 24, 0, 0) ls (.int (Int32.ofInt 98) :: st) σ = some (.inl (112, ls, st, σ)) := rfl
theorem swd_103 {L : Nat} {xs : Nat → Int32} {ls : mv_V} {st : List Value} {σ : mv_S} : mv_stp L xs (.tableswitch 141 97 114 #[110, 88, 129, 141, 141, 141, 103, 117, 141, 141, 141, 141, 141, 141, 141, 134, 141, 123], 112, 24, 0, 0) ls (.int (Int32.ofInt 103) :: st) σ = some (.inl (127, ls, st, σ)) := rfl
theorem swd_97 {L : Nat} {xs : Nat → Int32} {ls : mv_V} {st : List Value} {σ : mv_S} : mv_stp L xs (.tableswitch 141 97 114 #[110, 88, 129, 141, 141, 141, 103, 117, 141, 141, 141, 141, 141, 141, 141, 134, 141, 123], 112, 24, 0, 0) ls (.int (Int32.ofInt 97) :: st) σ = some (.inl (134, ls, st, σ)) := rfl
theorem swd_104 {L : Nat} {xs : Nat → Int32} {ls : mv_V} {st : List Value} {σ : mv_S} : mv_stp L xs (.tableswitch 141 97 114 #[110, 88, 129, 141, 141, 141, 103, 117, 141, 141, 141, 141, 141, 141, 141, 134, 141, 123], 112, 24, 0, 0) ls (.int (Int32.ofInt 104) :: st) σ = some (.inl (141, ls, st, σ)) := rfl
theorem swd_114 {L : Nat} {xs : Nat → Int32} {ls : mv_V} {st : List Value} {σ : mv_S} : mv_stp L xs (.tableswitch 141 97 114 #[110, 88, 129, 141, 141, 141, 103, 117, 141, 141, 141, 141, 141, 141, 141, 134, 141, 123], 112, 24, 0, 0) ls (.int (Int32.ofInt 114) :: st) σ = some (.inl (147, ls, st, σ)) := rfl
theorem swd_99 {L : Nat} {xs : Nat → Int32} {ls : mv_V} {st : List Value} {σ : mv_S} : mv_stp L xs (.tableswitch 141 97 114 #[110, 88, 129, 141, 141, 141, 103, 117, 141, 141, 141, 141, 141, 141, 141, 134, 141, 123], 112, 24, 0, 0) ls (.int (Int32.ofInt 99) :: st) σ = some (.inl (153, ls, st, σ)) := rfl
theorem swd_112 {L : Nat} {xs : Nat → Int32} {ls : mv_V} {st : List Value} {σ : mv_S} : mv_stp L xs (.tableswitch 141 97 114 #[110, 88, 129, 141, 141, 141, 103, 117, 141, 141, 141, 141, 141, 141, 141, 134, 141, 123], 112, 24, 0, 0) ls (.int (Int32.ofInt 112) :: st) σ = some (.inl (158, ls, st, σ)) := rfl
theorem swd_115 {L : Nat} {xs : Nat → Int32} {ls : mv_V} {st : List Value} {σ : mv_S} : mv_stp L xs (.tableswitch 141 97 114 #[110, 88, 129, 141, 141, 141, 103, 117, 141, 141, 141, 141, 141, 141, 141, 134, 141, 123], 112, 24, 0, 0) ls (.int (Int32.ofInt 115) :: st) σ = some (.inl (165, ls, st, σ)) := rfl
/-- what is read from p on, if anything is left -/
def zPt (X : Int → Int) (len : Int) (n : Nat) (p : Int) : Bool × Int × List (Nat × List Int) := if p = len then (true, len, []) else zPg X len n p
theorem zPg_t (X : Int → Int) (len : Int) (n : Nat) (p : Int) : zPg X len (n + 1) p = if (zRc X len p).1 = true then ((zPt X len n (zRc X len p).2.1).1, (zPt X len n (zRc X len p).2.1).2.1, (zFst X len (zRcp X len p), (zRc X len p).2.2) :: (zPt X len n (zRc X len p).2.1).2.2) else (false, (zRc X len p).2.1, []) := by
  rw [zPg]
  unfold zPt
  split
  · split <;> rfl
  · rfl
/-- what reading a whole text leaves in the reference -/
def rPr (X F C F' C' : Int → Int) (m0 : Int) (res : Bool × Int × List (Nat × List Int)) : Prop := zPF F' X ∧ (∀ j, ¬ j = 8 → ¬ j = 9 → ¬ j = 13 → F' j = F j) ∧
  (res.1 = true → F' 9 = -1 ∧ F' 13 = m0 + res.2.2.length ∧ (∀ j, j < 4 * m0 → C' j = C j) ∧ ∀ i : Nat, i < res.2.2.length → rRow C' (m0 + i) (res.2.2.getD i (0, [])).1 (res.2.2.getD i (0, [])).2) ∧
  (res.1 = false → F' 9 = res.2.1 ∧ 0 ≤ F' 9)
theorem rRow_ne {C C' : Int → Int} {m n : Int} {k : Nat} {as : List Int} (h : rRow C m k as) (hm : m < n) (e : ∀ j, j < 4 * n → C' j = C j) : rRow C' m k as := by
  obtain ⟨h1, h2, h3, h4⟩ := h
  exact ⟨by rw [e _ (by omega)]; exact h1, by rw [e _ (by omega)]; exact h2, by rw [e _ (by omega)]; exact h3, by rw [e _ (by omega)]; exact h4⟩
section RF10
variable {L : Nat} {xs : Nat → Int32} {d t : Nat} {T : zT} {A B X F C : Int → Int}
theorem lp_parse_err (hP : zPF F X) (h9 : 0 ≤ F 9) : mv_Ev L xs (mv_cl L xs d) k_X11_parse 19 [(0, .ref 142)] [] (t, 149, mz (sD (sD T 142 F) 145 C)) (.inl none, (t, 149, mz (sD (sD T 142 F) 145 C))) := by
  obtain ⟨a, b, c9, e, f, g, h⟩ := id hP
  simp (disch := omega) only [mv_Ev_row r_X11_parse_0, mv_Ev_row r_X11_parse_1, mv_Ev_row r_X11_parse_2, mv_Ev_row r_X11_parse_5, mv_Ev_row r_X11_parse_6, mv_Ev_row r_X11_parse_7, mv_Ev_row r_X11_parse_10, mv_Ev_row r_X11_parse_11, mv_Ev_row r_X11_parse_12, mv_Ev_row r_X11_parse_15, mv_Ev_row r_X11_parse_16, mv_Ev_row r_X11_parse_19, mv_Ev_row r_X11_parse_20, mv_Ev_row r_X11_parse_23, mv_Ev_row r_X11_parse_26, mv_Ev_row r_X11_parse_27, mv_Ev_row r_X11_parse_30, mv_Ev_row r_X11_parse_32, mv_Ev_row r_X11_parse_35, mv_Ev_row r_X11_parse_36, mv_Ev_row r_X11_parse_37, mv_Ev_row r_X11_parse_40, mv_Ev_row r_X11_parse_41, mv_Ev_row r_X11_parse_42, mv_Ev_row r_X11_parse_45, mv_Ev_row r_X11_parse_46, mv_Ev_row r_X11_parse_49, mv_Ev_row r_X11_parse_52, mv_Ev_row r_X11_parse_53, mv_Ev_row r_X11_parse_56, mv_Ev_row r_X11_parse_59, mv_Ev_row r_X11_parse_60, mv_Ev_row r_X11_parse_63, mv_Ev_row r_X11_parse_64, mv_Ev_row r_X11_parse_67, mv_Ev_row r_X11_parse_70, mv_Ev_row r_X11_parse_71, mv_Ev_row r_X11_parse_72, mv_Ev_row r_X11_parse_75, mv_Ev_row r_X11_parse_78, ea_aload_n, ea_iconst, pp_8_8, pp_8_9, pp_8_13, kv_X11_command, gg_8_9, ea_ifc, kv_X11_sign, ea_bipush, ea_icmp, ea_dup_i, ea_dup_r, gg_8_8, ea_iadd, ea_goto, gg_8_7, ea_vret, bz_59, cz_eq, cz_ne, cz_lt, cz_ge, cz_gt, cz_le, c0_eq, c0_ne, c0_lt, c0_ge, c0_gt, c0_le, mv_ac, decide_eq_true_eq, not_true_eq_false, and_self, and_true, true_and, ea_2n, ea_2f, ea_2c, ea_if, if_pos, if_neg, mv_lk, mv_f1, mv_f2, Value.category, List.filter, ↓reduceIte, Nat.reduceEqDiff, Nat.reduceAdd, Nat.reduceLT, Nat.reduceBEq, Nat.zero_add, Nat.add_zero, Nat.zero_ne_one, Nat.one_ne_zero, Bool.not_true, Bool.not_false, Bool.and_true, Bool.true_and, Bool.and_false, Bool.false_and, BEq.rfl, beq_self_eq_true, Bool.false_eq_true, reduceCtorEq, not_false_eq_true, fv0, fv1, fv2, fv3, eb_l0, eb_l1, eb_l2, eb_l3, eb_l4, eb_l5, eb_s0, eb_s1, eb_s2, eb_s3, eb_s4, eb_s5, oz_add, oz_sub, oz_mul, oz_neg, ol_add, ol_sub, sD_eq, sD_sD, sD_ne, sD_in, sD_in2, sD_in3, upR_is, upR_ne, mk_v, mk_n, mk_x, mk_i, mv_cs, Nat.reduceLeDiff, mv_ch_z, nh_X11_parse]
theorem lp_parse (hX : T.1 144 = X) (hd : 5 ≤ d) : ∀ (n : Nat) (F C : Int → Int), zPF F X → F 9 = -1 → 0 < F 8 → F 8 ≤ F 7 → 0 ≤ F 13 → F 13 ≤ F 8 → F 7 - F 8 ≤ 2 * n → ∃ F' C', rPr X F C F' C' (F 13) (zPt X (F 7) n (F 8)) ∧ mv_Ev L xs (mv_cl L xs d) k_X11_parse 19 [(0, .ref 142)] [] (t, 149, mz (sD (sD T 142 F) 145 C)) (.inl none, (t, 149, mz (sD (sD T 142 F') 145 C'))) := by
  intro n
  induction n with
  | zero =>
    intro F C hP h9 hp0 hp hm0 hm hn
    obtain ⟨a, b, c9, e, f, g, h⟩ := id hP
    have hz : zPt X (F 7) 0 (F 8) = (true, F 7, []) := by unfold zPt; rw [if_pos (by omega)]
    have hs : rSg F X = -1 := by unfold rSg; rw [if_neg (by omega)]
    have s1 := fun Y => c_X11_sign (L := L) (xs := xs) (t := t) (d := d) (T := sD T 145 Y) (by rw [sD_ne T Y (by decide)]; exact hX) hP (by omega)
    simp only [sD_comm T (o := 145) (p := 142) _ _ (by decide), hs] at s1
    refine ⟨F, C, ⟨hP, fun j _ _ _ => rfl, fun _ => ⟨h9, by rw [hz]; show F 13 = F 13 + ((0 : Nat) : Int); omega, fun j _ => rfl, fun i hi => by rw [hz] at hi; exact absurd hi (Nat.not_lt_zero _)⟩, fun hq => (by rw [hz] at hq; cases hq)⟩, ?_⟩
    simp (disch := omega) only [mv_Ev_row r_X11_parse_0, mv_Ev_row r_X11_parse_1, mv_Ev_row r_X11_parse_2, mv_Ev_row r_X11_parse_5, mv_Ev_row r_X11_parse_6, mv_Ev_row r_X11_parse_7, mv_Ev_row r_X11_parse_10, mv_Ev_row r_X11_parse_11, mv_Ev_row r_X11_parse_12, mv_Ev_row r_X11_parse_15, mv_Ev_row r_X11_parse_16, mv_Ev_row r_X11_parse_19, mv_Ev_row r_X11_parse_20, mv_Ev_row r_X11_parse_23, mv_Ev_row r_X11_parse_26, mv_Ev_row r_X11_parse_27, mv_Ev_row r_X11_parse_30, mv_Ev_row r_X11_parse_32, mv_Ev_row r_X11_parse_35, mv_Ev_row r_X11_parse_36, mv_Ev_row r_X11_parse_37, mv_Ev_row r_X11_parse_40, mv_Ev_row r_X11_parse_41, mv_Ev_row r_X11_parse_42, mv_Ev_row r_X11_parse_45, mv_Ev_row r_X11_parse_46, mv_Ev_row r_X11_parse_49, mv_Ev_row r_X11_parse_52, mv_Ev_row r_X11_parse_53, mv_Ev_row r_X11_parse_56, mv_Ev_row r_X11_parse_59, mv_Ev_row r_X11_parse_60, mv_Ev_row r_X11_parse_63, mv_Ev_row r_X11_parse_64, mv_Ev_row r_X11_parse_67, mv_Ev_row r_X11_parse_70, mv_Ev_row r_X11_parse_71, mv_Ev_row r_X11_parse_72, mv_Ev_row r_X11_parse_75, mv_Ev_row r_X11_parse_78, ea_aload_n, ea_iconst, pp_8_8, pp_8_9, pp_8_13, kv_X11_command, gg_8_9, ea_ifc, kv_X11_sign, ea_bipush, ea_icmp, ea_dup_i, ea_dup_r, gg_8_8, ea_iadd, ea_goto, gg_8_7, ea_vret, bz_59, cz_eq, cz_ne, cz_lt, cz_ge, cz_gt, cz_le, c0_eq, c0_ne, c0_lt, c0_ge, c0_gt, c0_le, mv_ac, decide_eq_true_eq, not_true_eq_false, and_self, and_true, true_and, ea_2n, ea_2f, ea_2c, ea_if, if_pos, if_neg, mv_lk, mv_f1, mv_f2, Value.category, List.filter, ↓reduceIte, Nat.reduceEqDiff, Nat.reduceAdd, Nat.reduceLT, Nat.reduceBEq, Nat.zero_add, Nat.add_zero, Nat.zero_ne_one, Nat.one_ne_zero, Bool.not_true, Bool.not_false, Bool.and_true, Bool.true_and, Bool.and_false, Bool.false_and, BEq.rfl, beq_self_eq_true, Bool.false_eq_true, reduceCtorEq, not_false_eq_true, fv0, fv1, fv2, fv3, eb_l0, eb_l1, eb_l2, eb_l3, eb_l4, eb_l5, eb_s0, eb_s1, eb_s2, eb_s3, eb_s4, eb_s5, oz_add, oz_sub, oz_mul, oz_neg, ol_add, ol_sub, sD_eq, sD_sD, sD_ne, sD_in, sD_in2, sD_in3, upR_is, upR_ne, mk_v, mk_n, mk_x, mk_i, mv_cs, Nat.reduceLeDiff, mv_ch_z, nh_X11_parse, s1]
  | succ n ih =>
    intro F C hP h9 hp0 hp hm0 hm hn
    obtain ⟨a, b, c9, e, f, g, h⟩ := id hP
    have s1 := fun Y => c_X11_sign (L := L) (xs := xs) (t := t) (d := d) (T := sD T 145 Y) (by rw [sD_ne T Y (by decide)]; exact hX) hP (by omega)
    simp only [sD_comm T (o := 145) (p := 142) _ _ (by decide)] at s1
    have hb := rSg_bd hP
    by_cases hend : F 8 = F 7
    · have hz : zPt X (F 7) (n + 1) (F 8) = (true, F 7, []) := by unfold zPt; rw [if_pos hend]
      have hs : rSg F X = -1 := by unfold rSg; rw [if_neg (by omega)]
      refine ⟨F, C, ⟨hP, fun j _ _ _ => rfl, fun _ => ⟨h9, by rw [hz]; show F 13 = F 13 + ((0 : Nat) : Int); omega, fun j _ => rfl, fun i hi => by rw [hz] at hi; exact absurd hi (Nat.not_lt_zero _)⟩, fun hq => (by rw [hz] at hq; cases hq)⟩, ?_⟩
      simp only [hs] at s1
      simp (disch := omega) only [mv_Ev_row r_X11_parse_0, mv_Ev_row r_X11_parse_1, mv_Ev_row r_X11_parse_2, mv_Ev_row r_X11_parse_5, mv_Ev_row r_X11_parse_6, mv_Ev_row r_X11_parse_7, mv_Ev_row r_X11_parse_10, mv_Ev_row r_X11_parse_11, mv_Ev_row r_X11_parse_12, mv_Ev_row r_X11_parse_15, mv_Ev_row r_X11_parse_16, mv_Ev_row r_X11_parse_19, mv_Ev_row r_X11_parse_20, mv_Ev_row r_X11_parse_23, mv_Ev_row r_X11_parse_26, mv_Ev_row r_X11_parse_27, mv_Ev_row r_X11_parse_30, mv_Ev_row r_X11_parse_32, mv_Ev_row r_X11_parse_35, mv_Ev_row r_X11_parse_36, mv_Ev_row r_X11_parse_37, mv_Ev_row r_X11_parse_40, mv_Ev_row r_X11_parse_41, mv_Ev_row r_X11_parse_42, mv_Ev_row r_X11_parse_45, mv_Ev_row r_X11_parse_46, mv_Ev_row r_X11_parse_49, mv_Ev_row r_X11_parse_52, mv_Ev_row r_X11_parse_53, mv_Ev_row r_X11_parse_56, mv_Ev_row r_X11_parse_59, mv_Ev_row r_X11_parse_60, mv_Ev_row r_X11_parse_63, mv_Ev_row r_X11_parse_64, mv_Ev_row r_X11_parse_67, mv_Ev_row r_X11_parse_70, mv_Ev_row r_X11_parse_71, mv_Ev_row r_X11_parse_72, mv_Ev_row r_X11_parse_75, mv_Ev_row r_X11_parse_78, ea_aload_n, ea_iconst, pp_8_8, pp_8_9, pp_8_13, kv_X11_command, gg_8_9, ea_ifc, kv_X11_sign, ea_bipush, ea_icmp, ea_dup_i, ea_dup_r, gg_8_8, ea_iadd, ea_goto, gg_8_7, ea_vret, bz_59, cz_eq, cz_ne, cz_lt, cz_ge, cz_gt, cz_le, c0_eq, c0_ne, c0_lt, c0_ge, c0_gt, c0_le, mv_ac, decide_eq_true_eq, not_true_eq_false, and_self, and_true, true_and, ea_2n, ea_2f, ea_2c, ea_if, if_pos, if_neg, mv_lk, mv_f1, mv_f2, Value.category, List.filter, ↓reduceIte, Nat.reduceEqDiff, Nat.reduceAdd, Nat.reduceLT, Nat.reduceBEq, Nat.zero_add, Nat.add_zero, Nat.zero_ne_one, Nat.one_ne_zero, Bool.not_true, Bool.not_false, Bool.and_true, Bool.true_and, Bool.and_false, Bool.false_and, BEq.rfl, beq_self_eq_true, Bool.false_eq_true, reduceCtorEq, not_false_eq_true, fv0, fv1, fv2, fv3, eb_l0, eb_l1, eb_l2, eb_l3, eb_l4, eb_l5, eb_s0, eb_s1, eb_s2, eb_s3, eb_s4, eb_s5, oz_add, oz_sub, oz_mul, oz_neg, ol_add, ol_sub, sD_eq, sD_sD, sD_ne, sD_in, sD_in2, sD_in3, upR_is, upR_ne, mk_v, mk_n, mk_x, mk_i, mv_cs, Nat.reduceLeDiff, mv_ch_z, nh_X11_parse, s1]
    · have hlt : F 8 < F 7 := by omega
      have hz0 : zPt X (F 7) (n + 1) (F 8) = zPg X (F 7) (n + 1) (F 8) := by unfold zPt; rw [if_neg hend]
      by_cases h59 : rSg F X = 59
      · have hx : X (F 8) = 59 := by rw [← rSg_is (X := X) hlt]; exact h59
        have hrc : zRc X (F 7) (F 8) = zOne X (F 7) (F 8 + 1) := by unfold zRc zRcp; rw [if_neg (by omega), if_pos hp0]
        have hrp : zRcp X (F 7) (F 8) = F 8 + 1 := by unfold zRcp; rw [if_pos hp0]
        have b7 : upR F 8 (F 8 + 1) 7 = F 7 := upR_ne _ _ (by omega)
        have b8 : upR F 8 (F 8 + 1) 8 = F 8 + 1 := upR_eq _ _ _
        have b13 : upR F 8 (F 8 + 1) 13 = F 13 := upR_ne _ _ (by omega)
        obtain ⟨F1, C1, hc, hcl⟩ := c_X11_command (L := L) (xs := xs) (t := t) (d := d) (F := upR F 8 (F 8 + 1)) (C := C) hX (zPF_8 hP (by omega) (by omega)) (by rw [upR_ne _ _ (by omega)]; exact h9) (by omega) (by omega) (by omega) hd
        obtain ⟨hP1, h13, hj, hC1, hok, hno⟩ := hc
        rw [b7, b8] at hok hno
        rw [b13] at h13 hC1 hok
        have e7 : F1 7 = F 7 := by rw [hj 7 (by omega) (by omega) (by omega), b7]
        cases hq : (zOne X (F 7) (F 8 + 1)).1 with
        | true =>
          obtain ⟨k9, k8, klt, kle, krow⟩ := hok hq
          obtain ⟨F2, C2, hr, hev⟩ := ih F1 C1 hP1 k9 (by omega) (by omega) (by omega) (by omega) (by omega)
          have hz : zPt X (F 7) (n + 1) (F 8) = ((zPt X (F 7) n (F1 8)).1, (zPt X (F 7) n (F1 8)).2.1, (zFst X (F 7) (F 8 + 1), (zOne X (F 7) (F 8 + 1)).2.2) :: (zPt X (F 7) n (F1 8)).2.2) := by rw [hz0, zPg_t, hrc, if_pos hq, hrp, ← k8]
          obtain ⟨g1, g2, g3, g4⟩ := hr
          rw [e7] at g3 g4
          refine ⟨F2, C2, ⟨g1, fun j h1 h2 h3 => by rw [g2 j h1 h2 h3, hj j h1 h2 h3, upR_ne _ _ h1], fun hq2 => ?_, fun hq2 => ?_⟩, ?_⟩
          · rw [hz] at hq2
            obtain ⟨y9, y13, yC, yrow⟩ := g3 hq2
            rw [hz]
            refine ⟨y9, ?_, fun j hj4 => by rw [yC j (by omega), hC1 j hj4], fun i hi => ?_⟩
            · rw [List.length_cons]; omega
            · cases i with
              | zero =>
                show rRow C2 (F 13 + ((0 : Nat) : Int)) (zFst X (F 7) (F 8 + 1)) (zOne X (F 7) (F 8 + 1)).2.2
                rw [show F 13 + ((0 : Nat) : Int) = F 13 by omega]
                exact rRow_ne krow (n := F1 13) (by omega) yC
              | succ i =>
                have := yrow i (by rw [List.length_cons] at hi; omega)
                rw [show F 13 + ((i + 1 : Nat) : Int) = F1 13 + (i : Int) by omega]
                exact this
          · rw [hz] at hq2 ⊢
            exact g4 hq2
          · rw [mv_Ev_row r_X11_parse_19]
            simp (disch := omega) only [mv_Ev_row r_X11_parse_0, mv_Ev_row r_X11_parse_1, mv_Ev_row r_X11_parse_2, mv_Ev_row r_X11_parse_5, mv_Ev_row r_X11_parse_6, mv_Ev_row r_X11_parse_7, mv_Ev_row r_X11_parse_10, mv_Ev_row r_X11_parse_11, mv_Ev_row r_X11_parse_12, mv_Ev_row r_X11_parse_15, mv_Ev_row r_X11_parse_16, mv_Ev_row r_X11_parse_20, mv_Ev_row r_X11_parse_23, mv_Ev_row r_X11_parse_26, mv_Ev_row r_X11_parse_27, mv_Ev_row r_X11_parse_30, mv_Ev_row r_X11_parse_32, mv_Ev_row r_X11_parse_35, mv_Ev_row r_X11_parse_36, mv_Ev_row r_X11_parse_37, mv_Ev_row r_X11_parse_40, mv_Ev_row r_X11_parse_41, mv_Ev_row r_X11_parse_42, mv_Ev_row r_X11_parse_45, mv_Ev_row r_X11_parse_46, mv_Ev_row r_X11_parse_49, mv_Ev_row r_X11_parse_52, mv_Ev_row r_X11_parse_53, mv_Ev_row r_X11_parse_56, mv_Ev_row r_X11_parse_59, mv_Ev_row r_X11_parse_60, mv_Ev_row r_X11_parse_63, mv_Ev_row r_X11_parse_64, mv_Ev_row r_X11_parse_67, mv_Ev_row r_X11_parse_70, mv_Ev_row r_X11_parse_71, mv_Ev_row r_X11_parse_72, mv_Ev_row r_X11_parse_75, mv_Ev_row r_X11_parse_78, ea_aload_n, ea_iconst, pp_8_8, pp_8_9, pp_8_13, kv_X11_command, gg_8_9, ea_ifc, kv_X11_sign, ea_bipush, ea_icmp, ea_dup_i, ea_dup_r, gg_8_8, ea_iadd, ea_goto, gg_8_7, ea_vret, bz_59, cz_eq, cz_ne, cz_lt, cz_ge, cz_gt, cz_le, c0_eq, c0_ne, c0_lt, c0_ge, c0_gt, c0_le, mv_ac, decide_eq_true_eq, not_true_eq_false, and_self, and_true, true_and, ea_2n, ea_2f, ea_2c, ea_if, if_pos, if_neg, mv_lk, mv_f1, mv_f2, Value.category, List.filter, ↓reduceIte, Nat.reduceEqDiff, Nat.reduceAdd, Nat.reduceLT, Nat.reduceBEq, Nat.zero_add, Nat.add_zero, Nat.zero_ne_one, Nat.one_ne_zero, Bool.not_true, Bool.not_false, Bool.and_true, Bool.true_and, Bool.and_false, Bool.false_and, BEq.rfl, beq_self_eq_true, Bool.false_eq_true, reduceCtorEq, not_false_eq_true, fv0, fv1, fv2, fv3, eb_l0, eb_l1, eb_l2, eb_l3, eb_l4, eb_l5, eb_s0, eb_s1, eb_s2, eb_s3, eb_s4, eb_s5, oz_add, oz_sub, oz_mul, oz_neg, ol_add, ol_sub, sD_eq, sD_sD, sD_ne, sD_in, sD_in2, sD_in3, upR_is, upR_ne, mk_v, mk_n, mk_x, mk_i, mv_cs, Nat.reduceLeDiff, mv_ch_z, nh_X11_parse, s1, hcl]
            exact mv_Es hev
        | false =>
          obtain ⟨k9, k0⟩ := hno hq
          have hz : zPt X (F 7) (n + 1) (F 8) = (false, (zOne X (F 7) (F 8 + 1)).2.1, []) := by
            rw [hz0, zPg_t, hrc, if_neg (by rw [hq]; exact Bool.false_ne_true)]
          refine ⟨F1, C1, ⟨hP1, fun j h1 h2 h3 => by rw [hj j h1 h2 h3, upR_ne _ _ h1], fun hq2 => (by rw [hz] at hq2; cases hq2), fun hq2 => by rw [hz]; exact ⟨k9, k0⟩⟩, ?_⟩
          rw [mv_Ev_row r_X11_parse_19]
          simp (disch := omega) only [mv_Ev_row r_X11_parse_0, mv_Ev_row r_X11_parse_1, mv_Ev_row r_X11_parse_2, mv_Ev_row r_X11_parse_5, mv_Ev_row r_X11_parse_6, mv_Ev_row r_X11_parse_7, mv_Ev_row r_X11_parse_10, mv_Ev_row r_X11_parse_11, mv_Ev_row r_X11_parse_12, mv_Ev_row r_X11_parse_15, mv_Ev_row r_X11_parse_16, mv_Ev_row r_X11_parse_20, mv_Ev_row r_X11_parse_23, mv_Ev_row r_X11_parse_26, mv_Ev_row r_X11_parse_27, mv_Ev_row r_X11_parse_30, mv_Ev_row r_X11_parse_32, mv_Ev_row r_X11_parse_35, mv_Ev_row r_X11_parse_36, mv_Ev_row r_X11_parse_37, mv_Ev_row r_X11_parse_40, mv_Ev_row r_X11_parse_41, mv_Ev_row r_X11_parse_42, mv_Ev_row r_X11_parse_45, mv_Ev_row r_X11_parse_46, mv_Ev_row r_X11_parse_49, mv_Ev_row r_X11_parse_52, mv_Ev_row r_X11_parse_53, mv_Ev_row r_X11_parse_56, mv_Ev_row r_X11_parse_59, mv_Ev_row r_X11_parse_60, mv_Ev_row r_X11_parse_63, mv_Ev_row r_X11_parse_64, mv_Ev_row r_X11_parse_67, mv_Ev_row r_X11_parse_70, mv_Ev_row r_X11_parse_71, mv_Ev_row r_X11_parse_72, mv_Ev_row r_X11_parse_75, mv_Ev_row r_X11_parse_78, ea_aload_n, ea_iconst, pp_8_8, pp_8_9, pp_8_13, kv_X11_command, gg_8_9, ea_ifc, kv_X11_sign, ea_bipush, ea_icmp, ea_dup_i, ea_dup_r, gg_8_8, ea_iadd, ea_goto, gg_8_7, ea_vret, bz_59, cz_eq, cz_ne, cz_lt, cz_ge, cz_gt, cz_le, c0_eq, c0_ne, c0_lt, c0_ge, c0_gt, c0_le, mv_ac, decide_eq_true_eq, not_true_eq_false, and_self, and_true, true_and, ea_2n, ea_2f, ea_2c, ea_if, if_pos, if_neg, mv_lk, mv_f1, mv_f2, Value.category, List.filter, ↓reduceIte, Nat.reduceEqDiff, Nat.reduceAdd, Nat.reduceLT, Nat.reduceBEq, Nat.zero_add, Nat.add_zero, Nat.zero_ne_one, Nat.one_ne_zero, Bool.not_true, Bool.not_false, Bool.and_true, Bool.true_and, Bool.and_false, Bool.false_and, BEq.rfl, beq_self_eq_true, Bool.false_eq_true, reduceCtorEq, not_false_eq_true, fv0, fv1, fv2, fv3, eb_l0, eb_l1, eb_l2, eb_l3, eb_l4, eb_l5, eb_s0, eb_s1, eb_s2, eb_s3, eb_s4, eb_s5, oz_add, oz_sub, oz_mul, oz_neg, ol_add, ol_sub, sD_eq, sD_sD, sD_ne, sD_in, sD_in2, sD_in3, upR_is, upR_ne, mk_v, mk_n, mk_x, mk_i, mv_cs, Nat.reduceLeDiff, mv_ch_z, nh_X11_parse, s1, hcl]
          exact mv_Es (lp_parse_err hP1 k0)
      · have hx : ¬ X (F 8) = 59 := by rw [← rSg_is (X := X) hlt]; exact h59
        have hrc : zRc X (F 7) (F 8) = (false, F 8, []) := by unfold zRc; rw [if_pos ⟨hp0, fun q => hx q.2⟩]
        have hz : zPt X (F 7) (n + 1) (F 8) = (false, F 8, []) := by rw [hz0, zPg_t, hrc]; rfl
        refine ⟨upR F 9 (F 8), C, ⟨zPF_9 hP (by omega) b, fun j h1 h2 h3 => upR_ne _ _ h2, fun hq => (by rw [hz] at hq; cases hq), fun _ => by rw [hz, upR_eq]; exact ⟨rfl, a⟩⟩, ?_⟩
        rw [mv_Ev_row r_X11_parse_19]
        simp (disch := omega) only [mv_Ev_row r_X11_parse_0, mv_Ev_row r_X11_parse_1, mv_Ev_row r_X11_parse_2, mv_Ev_row r_X11_parse_5, mv_Ev_row r_X11_parse_6, mv_Ev_row r_X11_parse_7, mv_Ev_row r_X11_parse_10, mv_Ev_row r_X11_parse_11, mv_Ev_row r_X11_parse_12, mv_Ev_row r_X11_parse_15, mv_Ev_row r_X11_parse_16, mv_Ev_row r_X11_parse_20, mv_Ev_row r_X11_parse_23, mv_Ev_row r_X11_parse_26, mv_Ev_row r_X11_parse_27, mv_Ev_row r_X11_parse_30, mv_Ev_row r_X11_parse_32, mv_Ev_row r_X11_parse_35, mv_Ev_row r_X11_parse_36, mv_Ev_row r_X11_parse_37, mv_Ev_row r_X11_parse_40, mv_Ev_row r_X11_parse_41, mv_Ev_row r_X11_parse_42, mv_Ev_row r_X11_parse_45, mv_Ev_row r_X11_parse_46, mv_Ev_row r_X11_parse_49, mv_Ev_row r_X11_parse_52, mv_Ev_row r_X11_parse_53, mv_Ev_row r_X11_parse_56, mv_Ev_row r_X11_parse_59, mv_Ev_row r_X11_parse_60, mv_Ev_row r_X11_parse_63, mv_Ev_row r_X11_parse_64, mv_Ev_row r_X11_parse_67, mv_Ev_row r_X11_parse_70, mv_Ev_row r_X11_parse_71, mv_Ev_row r_X11_parse_72, mv_Ev_row r_X11_parse_75, mv_Ev_row r_X11_parse_78, ea_aload_n, ea_iconst, pp_8_8, pp_8_9, pp_8_13, kv_X11_command, gg_8_9, ea_ifc, kv_X11_sign, ea_bipush, ea_icmp, ea_dup_i, ea_dup_r, gg_8_8, ea_iadd, ea_goto, gg_8_7, ea_vret, bz_59, cz_eq, cz_ne, cz_lt, cz_ge, cz_gt, cz_le, c0_eq, c0_ne, c0_lt, c0_ge, c0_gt, c0_le, mv_ac, decide_eq_true_eq, not_true_eq_false, and_self, and_true, true_and, ea_2n, ea_2f, ea_2c, ea_if, if_pos, if_neg, mv_lk, mv_f1, mv_f2, Value.category, List.filter, ↓reduceIte, Nat.reduceEqDiff, Nat.reduceAdd, Nat.reduceLT, Nat.reduceBEq, Nat.zero_add, Nat.add_zero, Nat.zero_ne_one, Nat.one_ne_zero, Bool.not_true, Bool.not_false, Bool.and_true, Bool.true_and, Bool.and_false, Bool.false_and, BEq.rfl, beq_self_eq_true, Bool.false_eq_true, reduceCtorEq, not_false_eq_true, fv0, fv1, fv2, fv3, eb_l0, eb_l1, eb_l2, eb_l3, eb_l4, eb_l5, eb_s0, eb_s1, eb_s2, eb_s3, eb_s4, eb_s5, oz_add, oz_sub, oz_mul, oz_neg, ol_add, ol_sub, sD_eq, sD_sD, sD_ne, sD_in, sD_in2, sD_in3, upR_is, upR_ne, mk_v, mk_n, mk_x, mk_i, mv_cs, Nat.reduceLeDiff, mv_ch_z, nh_X11_parse, s1]
theorem c_X11_parse (hX : T.1 144 = X) (hd : 6 ≤ d) (h7 : 0 ≤ F 7) (h60 : F 7 ≤ 60) (hx : ∀ j, 0 ≤ j → j < F 7 → 0 ≤ X j ∧ X j < 65536) : ∃ F' C', rPr X F C F' C' 0 (zPg X (F 7) 60 0) ∧ mv_cl L xs d k_X11_parse [.ref 142] (t, 149, mz (sD (sD T 142 F) 145 C)) = some (.inl none, (t, 149, mz (sD (sD T 142 F') 145 C'))) := by
  have b7 : upR (upR (upR F 8 0) 9 (-1)) 13 0 7 = F 7 := by rw [upR_ne _ _ (by omega), upR_ne _ _ (by omega), upR_ne _ _ (by omega)]
  have b8 : upR (upR (upR F 8 0) 9 (-1)) 13 0 8 = 0 := by rw [upR_ne _ _ (by omega), upR_ne _ _ (by omega), upR_eq]
  have b9 : upR (upR (upR F 8 0) 9 (-1)) 13 0 9 = -1 := by rw [upR_ne _ _ (by omega), upR_eq]
  have b13 : upR (upR (upR F 8 0) 9 (-1)) 13 0 13 = 0 := upR_eq _ _ _
  have hP0 : zPF (upR (upR (upR F 8 0) 9 (-1)) 13 0) X := by
    unfold zPF
    rw [b7, b8, b9]
    exact ⟨by omega, by omega, h7, h60, by omega, by omega, hx⟩
  obtain ⟨F1, C1, hc, hcl⟩ := c_X11_command (L := L) (xs := xs) (t := t) (d := d - 1) (F := upR (upR (upR F 8 0) 9 (-1)) 13 0) (C := C) hX hP0 b9 (by omega) (by omega) (by omega) (by omega)
  obtain ⟨hP1, h13, hj, hC1, hok, hno⟩ := hc
  rw [b7, b8] at hok hno
  rw [b13] at h13 hC1 hok
  have e7 : F1 7 = F 7 := by rw [hj 7 (by omega) (by omega) (by omega), b7]
  have hrc : zRc X (F 7) 0 = zOne X (F 7) 0 := by unfold zRc zRcp; rw [if_neg (by omega), if_neg (by omega)]
  have hrp : zRcp X (F 7) 0 = 0 := by unfold zRcp; rw [if_neg (by omega)]
  have hjF : ∀ j, ¬ j = 8 → ¬ j = 9 → ¬ j = 13 → F1 j = F j := fun j h1 h2 h3 => by rw [hj j h1 h2 h3, upR_ne _ _ h3, upR_ne _ _ h2, upR_ne _ _ h1]
  cases hq : (zOne X (F 7) 0).1 with
  | true =>
    obtain ⟨k9, k8, klt, kle, krow⟩ := hok hq
    obtain ⟨F2, C2, hr, hev⟩ := lp_parse (L := L) (xs := xs) (t := t) (d := d - 1) hX (by omega) 59 F1 C1 hP1 k9 (by omega) (by omega) (by omega) (by omega) (by omega)
    have hz : zPg X (F 7) 60 0 = ((zPt X (F 7) 59 (F1 8)).1, (zPt X (F 7) 59 (F1 8)).2.1, (zFst X (F 7) 0, (zOne X (F 7) 0).2.2) :: (zPt X (F 7) 59 (F1 8)).2.2) := by rw [zPg_t, hrc, if_pos hq, hrp, ← k8]
    obtain ⟨g1, g2, g3, g4⟩ := hr
    rw [e7] at g3 g4
    refine ⟨F2, C2, ⟨g1, fun j h1 h2 h3 => by rw [g2 j h1 h2 h3, hjF j h1 h2 h3], fun hq2 => ?_, fun hq2 => ?_⟩, ?_⟩
    · rw [hz] at hq2
      obtain ⟨y9, y13, yC, yrow⟩ := g3 hq2
      rw [hz]
      refine ⟨y9, ?_, fun j hj4 => by rw [yC j (by omega), hC1 j hj4], fun i hi => ?_⟩
      · rw [List.length_cons]; omega
      · cases i with
        | zero =>
          show rRow C2 (0 + ((0 : Nat) : Int)) (zFst X (F 7) 0) (zOne X (F 7) 0).2.2
          rw [show (0 : Int) + ((0 : Nat) : Int) = 0 by omega]
          exact rRow_ne krow (n := F1 13) (by omega) yC
        | succ i =>
          have := yrow i (by rw [List.length_cons] at hi; omega)
          rw [show (0 : Int) + ((i + 1 : Nat) : Int) = F1 13 + (i : Int) by omega]
          exact this
    · rw [hz] at hq2 ⊢
      exact g4 hq2
    · obtain ⟨d, rfl⟩ : ∃ e, d = e + 1 := ⟨d - 1, by omega⟩
      apply mv_cl_of
      simp only [mv_il, Value.category, Nat.zero_add, Nat.reduceAdd]
      simp only [Nat.add_sub_cancel] at hcl hev
      simp (disch := omega) only [mv_Ev_row r_X11_parse_0, mv_Ev_row r_X11_parse_1, mv_Ev_row r_X11_parse_2, mv_Ev_row r_X11_parse_5, mv_Ev_row r_X11_parse_6, mv_Ev_row r_X11_parse_7, mv_Ev_row r_X11_parse_10, mv_Ev_row r_X11_parse_11, mv_Ev_row r_X11_parse_12, mv_Ev_row r_X11_parse_15, mv_Ev_row r_X11_parse_16, mv_Ev_row r_X11_parse_20, mv_Ev_row r_X11_parse_23, mv_Ev_row r_X11_parse_26, mv_Ev_row r_X11_parse_27, mv_Ev_row r_X11_parse_30, mv_Ev_row r_X11_parse_32, mv_Ev_row r_X11_parse_35, mv_Ev_row r_X11_parse_36, mv_Ev_row r_X11_parse_37, mv_Ev_row r_X11_parse_40, mv_Ev_row r_X11_parse_41, mv_Ev_row r_X11_parse_42, mv_Ev_row r_X11_parse_45, mv_Ev_row r_X11_parse_46, mv_Ev_row r_X11_parse_49, mv_Ev_row r_X11_parse_52, mv_Ev_row r_X11_parse_53, mv_Ev_row r_X11_parse_56, mv_Ev_row r_X11_parse_59, mv_Ev_row r_X11_parse_60, mv_Ev_row r_X11_parse_63, mv_Ev_row r_X11_parse_64, mv_Ev_row r_X11_parse_67, mv_Ev_row r_X11_parse_70, mv_Ev_row r_X11_parse_71, mv_Ev_row r_X11_parse_72, mv_Ev_row r_X11_parse_75, mv_Ev_row r_X11_parse_78, ea_aload_n, ea_iconst, pp_8_8, pp_8_9, pp_8_13, kv_X11_command, gg_8_9, ea_ifc, kv_X11_sign, ea_bipush, ea_icmp, ea_dup_i, ea_dup_r, gg_8_8, ea_iadd, ea_goto, gg_8_7, ea_vret, bz_59, cz_eq, cz_ne, cz_lt, cz_ge, cz_gt, cz_le, c0_eq, c0_ne, c0_lt, c0_ge, c0_gt, c0_le, mv_ac, decide_eq_true_eq, not_true_eq_false, and_self, and_true, true_and, ea_2n, ea_2f, ea_2c, ea_if, if_pos, if_neg, mv_lk, mv_f1, mv_f2, Value.category, List.filter, ↓reduceIte, Nat.reduceEqDiff, Nat.reduceAdd, Nat.reduceLT, Nat.reduceBEq, Nat.zero_add, Nat.add_zero, Nat.zero_ne_one, Nat.one_ne_zero, Bool.not_true, Bool.not_false, Bool.and_true, Bool.true_and, Bool.and_false, Bool.false_and, BEq.rfl, beq_self_eq_true, Bool.false_eq_true, reduceCtorEq, not_false_eq_true, fv0, fv1, fv2, fv3, eb_l0, eb_l1, eb_l2, eb_l3, eb_l4, eb_l5, eb_s0, eb_s1, eb_s2, eb_s3, eb_s4, eb_s5, oz_add, oz_sub, oz_mul, oz_neg, ol_add, ol_sub, sD_eq, sD_sD, sD_ne, sD_in, sD_in2, sD_in3, upR_is, upR_ne, mk_v, mk_n, mk_x, mk_i, mv_cs, Nat.reduceLeDiff, mv_ch_z, nh_X11_parse, hcl]
      exact mv_Es hev
  | false =>
    obtain ⟨k9, k0⟩ := hno hq
    have hz : zPg X (F 7) 60 0 = (false, (zOne X (F 7) 0).2.1, []) := by
      rw [zPg_t, hrc, if_neg (by rw [hq]; exact Bool.false_ne_true)]
    refine ⟨F1, C1, ⟨hP1, fun j h1 h2 h3 => hjF j h1 h2 h3, fun hq2 => (by rw [hz] at hq2; cases hq2), fun hq2 => by rw [hz]; exact ⟨k9, k0⟩⟩, ?_⟩
    obtain ⟨d, rfl⟩ : ∃ e, d = e + 1 := ⟨d - 1, by omega⟩
    apply mv_cl_of
    simp only [mv_il, Value.category, Nat.zero_add, Nat.reduceAdd]
    simp only [Nat.add_sub_cancel] at hcl
    simp (disch := omega) only [mv_Ev_row r_X11_parse_0, mv_Ev_row r_X11_parse_1, mv_Ev_row r_X11_parse_2, mv_Ev_row r_X11_parse_5, mv_Ev_row r_X11_parse_6, mv_Ev_row r_X11_parse_7, mv_Ev_row r_X11_parse_10, mv_Ev_row r_X11_parse_11, mv_Ev_row r_X11_parse_12, mv_Ev_row r_X11_parse_15, mv_Ev_row r_X11_parse_16, mv_Ev_row r_X11_parse_20, mv_Ev_row r_X11_parse_23, mv_Ev_row r_X11_parse_26, mv_Ev_row r_X11_parse_27, mv_Ev_row r_X11_parse_30, mv_Ev_row r_X11_parse_32, mv_Ev_row r_X11_parse_35, mv_Ev_row r_X11_parse_36, mv_Ev_row r_X11_parse_37, mv_Ev_row r_X11_parse_40, mv_Ev_row r_X11_parse_41, mv_Ev_row r_X11_parse_42, mv_Ev_row r_X11_parse_45, mv_Ev_row r_X11_parse_46, mv_Ev_row r_X11_parse_49, mv_Ev_row r_X11_parse_52, mv_Ev_row r_X11_parse_53, mv_Ev_row r_X11_parse_56, mv_Ev_row r_X11_parse_59, mv_Ev_row r_X11_parse_60, mv_Ev_row r_X11_parse_63, mv_Ev_row r_X11_parse_64, mv_Ev_row r_X11_parse_67, mv_Ev_row r_X11_parse_70, mv_Ev_row r_X11_parse_71, mv_Ev_row r_X11_parse_72, mv_Ev_row r_X11_parse_75, mv_Ev_row r_X11_parse_78, ea_aload_n, ea_iconst, pp_8_8, pp_8_9, pp_8_13, kv_X11_command, gg_8_9, ea_ifc, kv_X11_sign, ea_bipush, ea_icmp, ea_dup_i, ea_dup_r, gg_8_8, ea_iadd, ea_goto, gg_8_7, ea_vret, bz_59, cz_eq, cz_ne, cz_lt, cz_ge, cz_gt, cz_le, c0_eq, c0_ne, c0_lt, c0_ge, c0_gt, c0_le, mv_ac, decide_eq_true_eq, not_true_eq_false, and_self, and_true, true_and, ea_2n, ea_2f, ea_2c, ea_if, if_pos, if_neg, mv_lk, mv_f1, mv_f2, Value.category, List.filter, ↓reduceIte, Nat.reduceEqDiff, Nat.reduceAdd, Nat.reduceLT, Nat.reduceBEq, Nat.zero_add, Nat.add_zero, Nat.zero_ne_one, Nat.one_ne_zero, Bool.not_true, Bool.not_false, Bool.and_true, Bool.true_and, Bool.and_false, Bool.false_and, BEq.rfl, beq_self_eq_true, Bool.false_eq_true, reduceCtorEq, not_false_eq_true, fv0, fv1, fv2, fv3, eb_l0, eb_l1, eb_l2, eb_l3, eb_l4, eb_l5, eb_s0, eb_s1, eb_s2, eb_s3, eb_s4, eb_s5, oz_add, oz_sub, oz_mul, oz_neg, ol_add, ol_sub, sD_eq, sD_sD, sD_ne, sD_in, sD_in2, sD_in3, upR_is, upR_ne, mk_v, mk_n, mk_x, mk_i, mv_cs, Nat.reduceLeDiff, mv_ch_z, nh_X11_parse, hcl]
    exact mv_Es (lp_parse_err hP1 k0)
theorem c_X11_append (hd : 2 ≤ d) {v : Int} (v0 : 0 ≤ v) (v1 : v < 65536) (h0 : 0 ≤ F 7) (h60 : F 7 ≤ 60) : mv_cl L xs d k_X11_append [.ref 142, .int (Int32.ofInt v)] (t, 149, mz (sD (sD T 142 F) 144 X)) = some (.inl (some (.int (Int32.ofInt (if F 7 < 60 then F 7 + 1 else 0)))), (t, 149, mz (if F 7 < 60 then sD (sD T 142 (upR (upR F 0 0) 7 (F 7 + 1))) 144 (upR X (F 7) v) else sD (sD T 142 (upR F 0 1)) 144 X))) := by
  obtain ⟨d, rfl⟩ : ∃ e, d = e + 1 := ⟨d - 1, by omega⟩
  apply mv_cl_of
  simp only [mv_il, Value.category, Nat.zero_add, Nat.reduceAdd]
  have e1 := fun A v hv => c_X11_isFine (L := L) (xs := xs) (t := t) (T := sD T 144 A) (F := F) (d := d) (v := v) (by omega) hv
  simp only [sD_comm T (o := 144) (p := 142) _ _ (by decide)] at e1
  by_cases q : F 7 < 60
  · simp (disch := omega) only [mv_Ev_row r_X11_append_0, mv_Ev_row r_X11_append_1, mv_Ev_row r_X11_append_2, mv_Ev_row r_X11_append_5, mv_Ev_row r_X11_append_7, mv_Ev_row r_X11_append_10, mv_Ev_row r_X11_append_11, mv_Ev_row r_X11_append_14, mv_Ev_row r_X11_append_15, mv_Ev_row r_X11_append_18, mv_Ev_row r_X11_append_21, mv_Ev_row r_X11_append_22, mv_Ev_row r_X11_append_23, mv_Ev_row r_X11_append_24, mv_Ev_row r_X11_append_27, mv_Ev_row r_X11_append_28, mv_Ev_row r_X11_append_31, mv_Ev_row r_X11_append_32, mv_Ev_row r_X11_append_33, mv_Ev_row r_X11_append_34, mv_Ev_row r_X11_append_35, mv_Ev_row r_X11_append_38, mv_Ev_row r_X11_append_39, mv_Ev_row r_X11_append_40, mv_Ev_row r_X11_append_43, mv_Ev_row r_X11_append_44, mv_Ev_row r_X11_append_47, ea_aload_n, gg_8_7, ea_bipush, ea_icmp, ea_iconst, ea_goto, kv_X11_isFine, ea_ifc, ea_ireturn, ez_ret, ez_retc, gg_8_6, ea_iload_n, ea_dup_i, ea_dup_r, ea_iadd, pp_8_7, ar_stc0 ai_144, bz_60, cz_eq, cz_ne, cz_lt, cz_ge, cz_gt, cz_le, c0_eq, c0_ne, c0_lt, c0_ge, c0_gt, c0_le, mv_ac, decide_eq_true_eq, not_true_eq_false, and_self, and_true, true_and, ea_2n, ea_2f, ea_2c, ea_if, if_pos, if_neg, mv_lk, mv_f1, mv_f2, Value.category, List.filter, ↓reduceIte, Nat.reduceEqDiff, Nat.reduceAdd, Nat.reduceLT, Nat.reduceBEq, Nat.zero_add, Nat.add_zero, Nat.zero_ne_one, Nat.one_ne_zero, Bool.not_true, Bool.not_false, Bool.and_true, Bool.true_and, Bool.and_false, Bool.false_and, BEq.rfl, beq_self_eq_true, Bool.false_eq_true, reduceCtorEq, not_false_eq_true, fv0, fv1, fv2, fv3, eb_l0, eb_l1, eb_l2, eb_l3, eb_l4, eb_l5, eb_s0, eb_s1, eb_s2, eb_s3, eb_s4, eb_s5, oz_add, oz_sub, oz_mul, oz_neg, ol_add, ol_sub, sD_eq, sD_sD, sD_ne, sD_in, sD_in2, sD_in3, upR_is, upR_ne, mk_v, mk_n, mk_x, mk_i, mv_cs, Nat.reduceLeDiff, mv_ch_z, nh_X11_append, e1, Int.sub_self, em_id]
  · simp (disch := omega) only [mv_Ev_row r_X11_append_0, mv_Ev_row r_X11_append_1, mv_Ev_row r_X11_append_2, mv_Ev_row r_X11_append_5, mv_Ev_row r_X11_append_7, mv_Ev_row r_X11_append_10, mv_Ev_row r_X11_append_11, mv_Ev_row r_X11_append_14, mv_Ev_row r_X11_append_15, mv_Ev_row r_X11_append_18, mv_Ev_row r_X11_append_21, mv_Ev_row r_X11_append_22, mv_Ev_row r_X11_append_23, mv_Ev_row r_X11_append_24, mv_Ev_row r_X11_append_27, mv_Ev_row r_X11_append_28, mv_Ev_row r_X11_append_31, mv_Ev_row r_X11_append_32, mv_Ev_row r_X11_append_33, mv_Ev_row r_X11_append_34, mv_Ev_row r_X11_append_35, mv_Ev_row r_X11_append_38, mv_Ev_row r_X11_append_39, mv_Ev_row r_X11_append_40, mv_Ev_row r_X11_append_43, mv_Ev_row r_X11_append_44, mv_Ev_row r_X11_append_47, ea_aload_n, gg_8_7, ea_bipush, ea_icmp, ea_iconst, ea_goto, kv_X11_isFine, ea_ifc, ea_ireturn, ez_ret, ez_retc, gg_8_6, ea_iload_n, ea_dup_i, ea_dup_r, ea_iadd, pp_8_7, ar_stc0 ai_144, bz_60, cz_eq, cz_ne, cz_lt, cz_ge, cz_gt, cz_le, c0_eq, c0_ne, c0_lt, c0_ge, c0_gt, c0_le, mv_ac, decide_eq_true_eq, not_true_eq_false, and_self, and_true, true_and, ea_2n, ea_2f, ea_2c, ea_if, if_pos, if_neg, mv_lk, mv_f1, mv_f2, Value.category, List.filter, ↓reduceIte, Nat.reduceEqDiff, Nat.reduceAdd, Nat.reduceLT, Nat.reduceBEq, Nat.zero_add, Nat.add_zero, Nat.zero_ne_one, Nat.one_ne_zero, Bool.not_true, Bool.not_false, Bool.and_true, Bool.true_and, Bool.and_false, Bool.false_and, BEq.rfl, beq_self_eq_true, Bool.false_eq_true, reduceCtorEq, not_false_eq_true, fv0, fv1, fv2, fv3, eb_l0, eb_l1, eb_l2, eb_l3, eb_l4, eb_l5, eb_s0, eb_s1, eb_s2, eb_s3, eb_s4, eb_s5, oz_add, oz_sub, oz_mul, oz_neg, ol_add, ol_sub, sD_eq, sD_sD, sD_ne, sD_in, sD_in2, sD_in3, upR_is, upR_ne, mk_v, mk_n, mk_x, mk_i, mv_cs, Nat.reduceLeDiff, mv_ch_z, nh_X11_append, e1, Int.sub_zero]
end RF10
