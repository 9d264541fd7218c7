/-! THE LAW'S SCRIPT, AND WHAT IT DOES TO THE CHAIN -/
theorem tb_L_cell : mv_tb k_L_cell = t_L_cell := rfl
theorem r_L_cell_0 : mv_in k_L_cell 0 = some (.iload_n 1, 1, 0, 0, 0) := by unfold mv_in; rw [tb_L_cell]; rfl
theorem r_L_cell_1 : mv_in k_L_cell 1 = some (.aload_n 0, 2, 0, 0, 0) := by unfold mv_in; rw [tb_L_cell]; rfl
theorem r_L_cell_2 : mv_in k_L_cell 2 = some (.arraylength, 3, 0, 0, 0) := by unfold mv_in; rw [tb_L_cell]; rfl
theorem r_L_cell_3 : mv_in k_L_cell 3 = some (.if_icmp .ge 9, 6, 12, 0, 0) := by unfold mv_in; rw [tb_L_cell]; rfl
theorem r_L_cell_6 : mv_in k_L_cell 6 = some (.aload_n 0, 7, 0, 0, 0) := by unfold mv_in; rw [tb_L_cell]; rfl
theorem r_L_cell_7 : mv_in k_L_cell 7 = some (.iload_n 1, 8, 0, 0, 0) := by unfold mv_in; rw [tb_L_cell]; rfl
theorem r_L_cell_8 : mv_in k_L_cell 8 = some (.iaload, 9, 0, 0, 0) := by unfold mv_in; rw [tb_L_cell]; rfl
theorem r_L_cell_9 : mv_in k_L_cell 9 = some (.goto 11, 12, 20, 0, 0) := by unfold mv_in; rw [tb_L_cell]; rfl
theorem r_L_cell_12 : mv_in k_L_cell 12 = some (.sipush 7919, 15, 0, 0, 0) := by unfold mv_in; rw [tb_L_cell]; rfl
theorem r_L_cell_15 : mv_in k_L_cell 15 = some (.iload_n 1, 16, 0, 0, 0) := by unfold mv_in; rw [tb_L_cell]; rfl
theorem r_L_cell_16 : mv_in k_L_cell 16 = some (.imul, 17, 0, 0, 0) := by unfold mv_in; rw [tb_L_cell]; rfl
theorem r_L_cell_17 : mv_in k_L_cell 17 = some (.bipush 12, 19, 0, 0, 0) := by unfold mv_in; rw [tb_L_cell]; rfl
theorem r_L_cell_19 : mv_in k_L_cell 19 = some (.iadd, 20, 0, 0, 0) := by unfold mv_in; rw [tb_L_cell]; rfl
theorem r_L_cell_20 : mv_in k_L_cell 20 = some (.ireturn, 21, 0, 0, 0) := by unfold mv_in; rw [tb_L_cell]; rfl
theorem tb_L_some : mv_tb k_L_some = t_L_some := rfl
theorem r_L_some_0 : mv_in k_L_some 0 = some (.aload_n 0, 1, 0, 0, 0) := by unfold mv_in; rw [tb_L_some]; rfl
theorem r_L_some_1 : mv_in k_L_some 1 = some (.iload_n 1, 2, 0, 0, 0) := by unfold mv_in; rw [tb_L_some]; rfl
theorem r_L_some_2 : mv_in k_L_some 2 = some (.invokestatic 7, 5, k_L_cell, 2, 773) := by unfold mv_in; rw [tb_L_some]; rfl
theorem r_L_some_5 : mv_in k_L_some 5 = some (.iconst 3, 6, 0, 0, 0) := by unfold mv_in; rw [tb_L_some]; rfl
theorem r_L_some_6 : mv_in k_L_some 6 = some (.iushr, 7, 0, 0, 0) := by unfold mv_in; rw [tb_L_some]; rfl
theorem r_L_some_7 : mv_in k_L_some 7 = some (.iload_n 2, 8, 0, 0, 0) := by unfold mv_in; rw [tb_L_some]; rfl
theorem r_L_some_8 : mv_in k_L_some 8 = some (.irem, 9, 0, 0, 0) := by unfold mv_in; rw [tb_L_some]; rfl
theorem r_L_some_9 : mv_in k_L_some 9 = some (.ireturn, 10, 0, 0, 0) := by unfold mv_in; rw [tb_L_some]; rfl
theorem tb_L_acts : mv_tb k_L_acts = t_L_acts := rfl
theorem r_L_acts_0 : mv_in k_L_acts 0 = some (.aload_n 1, 1, 0, 0, 0) := by unfold mv_in; rw [tb_L_acts]; rfl
theorem r_L_acts_1 : mv_in k_L_acts 1 = some (.iload_n 2, 2, 0, 0, 0) := by unfold mv_in; rw [tb_L_acts]; rfl
theorem r_L_acts_2 : mv_in k_L_acts 2 = some (.iconst 1, 3, 0, 0, 0) := by unfold mv_in; rw [tb_L_acts]; rfl
theorem r_L_acts_3 : mv_in k_L_acts 3 = some (.iadd, 4, 0, 0, 0) := by unfold mv_in; rw [tb_L_acts]; rfl
theorem r_L_acts_4 : mv_in k_L_acts 4 = some (.bipush 60, 6, 0, 0, 0) := by unfold mv_in; rw [tb_L_acts]; rfl
theorem r_L_acts_6 : mv_in k_L_acts 6 = some (.invokestatic 60, 9, k_L_some, 3, 770) := by unfold mv_in; rw [tb_L_acts]; rfl
theorem r_L_acts_9 : mv_in k_L_acts 9 = some (.istore_n 3, 10, 0, 0, 0) := by unfold mv_in; rw [tb_L_acts]; rfl
theorem r_L_acts_10 : mv_in k_L_acts 10 = some (.aload_n 1, 11, 0, 0, 0) := by unfold mv_in; rw [tb_L_acts]; rfl
theorem r_L_acts_11 : mv_in k_L_acts 11 = some (.iload_n 2, 12, 0, 0, 0) := by unfold mv_in; rw [tb_L_acts]; rfl
theorem r_L_acts_12 : mv_in k_L_acts 12 = some (.iconst 2, 13, 0, 0, 0) := by unfold mv_in; rw [tb_L_acts]; rfl
theorem r_L_acts_13 : mv_in k_L_acts 13 = some (.iadd, 14, 0, 0, 0) := by unfold mv_in; rw [tb_L_acts]; rfl
theorem r_L_acts_14 : mv_in k_L_acts 14 = some (.aload_n 0, 15, 0, 0, 0) := by unfold mv_in; rw [tb_L_acts]; rfl
theorem r_L_acts_15 : mv_in k_L_acts 15 = some (.invokevirtual 74, 18, k_X10_basinCount, 1, 322) := by unfold mv_in; rw [tb_L_acts]; rfl
theorem r_L_acts_18 : mv_in k_L_acts 18 = some (.invokestatic 60, 21, k_L_some, 3, 770) := by unfold mv_in; rw [tb_L_acts]; rfl
theorem r_L_acts_21 : mv_in k_L_acts 21 = some (.istore 4, 23, 0, 0, 0) := by unfold mv_in; rw [tb_L_acts]; rfl
theorem r_L_acts_23 : mv_in k_L_acts 23 = some (.aload_n 1, 24, 0, 0, 0) := by unfold mv_in; rw [tb_L_acts]; rfl
theorem r_L_acts_24 : mv_in k_L_acts 24 = some (.iload_n 2, 25, 0, 0, 0) := by unfold mv_in; rw [tb_L_acts]; rfl
theorem r_L_acts_25 : mv_in k_L_acts 25 = some (.bipush 14, 27, 0, 0, 0) := by unfold mv_in; rw [tb_L_acts]; rfl
theorem r_L_acts_27 : mv_in k_L_acts 27 = some (.invokestatic 60, 30, k_L_some, 3, 770) := by unfold mv_in; rw [tb_L_acts]; rfl
theorem r_L_acts_30 : mv_in k_L_acts 30 = some (.tableswitch 184 0 11 #[62, 97, 97, 97, 112, 124, 135, 135, 135, 148, 167, 167], 92, 30, 0, 0) := by unfold mv_in; rw [tb_L_acts]; rfl
theorem r_L_acts_92 : mv_in k_L_acts 92 = some (.aload_n 0, 93, 0, 0, 0) := by unfold mv_in; rw [tb_L_acts]; rfl
theorem r_L_acts_93 : mv_in k_L_acts 93 = some (.invokevirtual 74, 96, k_X10_basinCount, 1, 322) := by unfold mv_in; rw [tb_L_acts]; rfl
theorem r_L_acts_96 : mv_in k_L_acts 96 = some (.iconst 5, 97, 0, 0, 0) := by unfold mv_in; rw [tb_L_acts]; rfl
theorem r_L_acts_97 : mv_in k_L_acts 97 = some (.if_icmp .ge 24, 100, 121, 0, 0) := by unfold mv_in; rw [tb_L_acts]; rfl
theorem r_L_acts_100 : mv_in k_L_acts 100 = some (.iload_n 3, 101, 0, 0, 0) := by unfold mv_in; rw [tb_L_acts]; rfl
theorem r_L_acts_101 : mv_in k_L_acts 101 = some (.iconst 2, 102, 0, 0, 0) := by unfold mv_in; rw [tb_L_acts]; rfl
theorem r_L_acts_102 : mv_in k_L_acts 102 = some (.irem, 103, 0, 0, 0) := by unfold mv_in; rw [tb_L_acts]; rfl
theorem r_L_acts_103 : mv_in k_L_acts 103 = some (.ifCond .ne 18, 106, 121, 0, 0) := by unfold mv_in; rw [tb_L_acts]; rfl
theorem r_L_acts_106 : mv_in k_L_acts 106 = some (.aload_n 0, 107, 0, 0, 0) := by unfold mv_in; rw [tb_L_acts]; rfl
theorem r_L_acts_107 : mv_in k_L_acts 107 = some (.bipush 10, 109, 0, 0, 0) := by unfold mv_in; rw [tb_L_acts]; rfl
theorem r_L_acts_109 : mv_in k_L_acts 109 = some (.iload_n 3, 110, 0, 0, 0) := by unfold mv_in; rw [tb_L_acts]; rfl
theorem r_L_acts_110 : mv_in k_L_acts 110 = some (.iadd, 111, 0, 0, 0) := by unfold mv_in; rw [tb_L_acts]; rfl
theorem r_L_acts_111 : mv_in k_L_acts 111 = some (.iload_n 3, 112, 0, 0, 0) := by unfold mv_in; rw [tb_L_acts]; rfl
theorem r_L_acts_112 : mv_in k_L_acts 112 = some (.iconst 4, 113, 0, 0, 0) := by unfold mv_in; rw [tb_L_acts]; rfl
theorem r_L_acts_113 : mv_in k_L_acts 113 = some (.irem, 114, 0, 0, 0) := by unfold mv_in; rw [tb_L_acts]; rfl
theorem r_L_acts_114 : mv_in k_L_acts 114 = some (.iload_n 3, 115, 0, 0, 0) := by unfold mv_in; rw [tb_L_acts]; rfl
theorem r_L_acts_115 : mv_in k_L_acts 115 = some (.invokestatic 64, 118, k_L_addBasin, 4, 823) := by unfold mv_in; rw [tb_L_acts]; rfl
theorem r_L_acts_118 : mv_in k_L_acts 118 = some (.goto 4, 121, 122, 0, 0) := by unfold mv_in; rw [tb_L_acts]; rfl
theorem r_L_acts_121 : mv_in k_L_acts 121 = some (.iconst 0, 122, 0, 0, 0) := by unfold mv_in; rw [tb_L_acts]; rfl
theorem r_L_acts_122 : mv_in k_L_acts 122 = some (.istore 5, 124, 0, 0, 0) := by unfold mv_in; rw [tb_L_acts]; rfl
theorem r_L_acts_124 : mv_in k_L_acts 124 = some (.goto 101, 127, 225, 0, 0) := by unfold mv_in; rw [tb_L_acts]; rfl
theorem r_L_acts_127 : mv_in k_L_acts 127 = some (.aload_n 0, 128, 0, 0, 0) := by unfold mv_in; rw [tb_L_acts]; rfl
theorem r_L_acts_128 : mv_in k_L_acts 128 = some (.iload 4, 130, 0, 0, 0) := by unfold mv_in; rw [tb_L_acts]; rfl
theorem r_L_acts_130 : mv_in k_L_acts 130 = some (.iload_n 3, 131, 0, 0, 0) := by unfold mv_in; rw [tb_L_acts]; rfl
theorem r_L_acts_131 : mv_in k_L_acts 131 = some (.bipush 6, 133, 0, 0, 0) := by unfold mv_in; rw [tb_L_acts]; rfl
theorem r_L_acts_133 : mv_in k_L_acts 133 = some (.irem, 134, 0, 0, 0) := by unfold mv_in; rw [tb_L_acts]; rfl
theorem r_L_acts_134 : mv_in k_L_acts 134 = some (.invokestatic 77, 137, k_L_setGate, 3, 934) := by unfold mv_in; rw [tb_L_acts]; rfl
theorem r_L_acts_137 : mv_in k_L_acts 137 = some (.istore 5, 139, 0, 0, 0) := by unfold mv_in; rw [tb_L_acts]; rfl
theorem r_L_acts_139 : mv_in k_L_acts 139 = some (.goto 86, 142, 225, 0, 0) := by unfold mv_in; rw [tb_L_acts]; rfl
theorem r_L_acts_142 : mv_in k_L_acts 142 = some (.aload_n 0, 143, 0, 0, 0) := by unfold mv_in; rw [tb_L_acts]; rfl
theorem r_L_acts_143 : mv_in k_L_acts 143 = some (.iload 4, 145, 0, 0, 0) := by unfold mv_in; rw [tb_L_acts]; rfl
theorem r_L_acts_145 : mv_in k_L_acts 145 = some (.iload_n 3, 146, 0, 0, 0) := by unfold mv_in; rw [tb_L_acts]; rfl
theorem r_L_acts_146 : mv_in k_L_acts 146 = some (.invokestatic 80, 149, k_L_setAutomatic, 3, 943) := by unfold mv_in; rw [tb_L_acts]; rfl
theorem r_L_acts_149 : mv_in k_L_acts 149 = some (.istore 5, 151, 0, 0, 0) := by unfold mv_in; rw [tb_L_acts]; rfl
theorem r_L_acts_151 : mv_in k_L_acts 151 = some (.goto 74, 154, 225, 0, 0) := by unfold mv_in; rw [tb_L_acts]; rfl
theorem r_L_acts_154 : mv_in k_L_acts 154 = some (.aload_n 0, 155, 0, 0, 0) := by unfold mv_in; rw [tb_L_acts]; rfl
theorem r_L_acts_155 : mv_in k_L_acts 155 = some (.iload 4, 157, 0, 0, 0) := by unfold mv_in; rw [tb_L_acts]; rfl
theorem r_L_acts_157 : mv_in k_L_acts 157 = some (.invokestatic 82, 160, k_L_setManual, 2, 952) := by unfold mv_in; rw [tb_L_acts]; rfl
theorem r_L_acts_160 : mv_in k_L_acts 160 = some (.istore 5, 162, 0, 0, 0) := by unfold mv_in; rw [tb_L_acts]; rfl
theorem r_L_acts_162 : mv_in k_L_acts 162 = some (.goto 63, 165, 225, 0, 0) := by unfold mv_in; rw [tb_L_acts]; rfl
theorem r_L_acts_165 : mv_in k_L_acts 165 = some (.aload_n 0, 166, 0, 0, 0) := by unfold mv_in; rw [tb_L_acts]; rfl
theorem r_L_acts_166 : mv_in k_L_acts 166 = some (.iload_n 3, 167, 0, 0, 0) := by unfold mv_in; rw [tb_L_acts]; rfl
theorem r_L_acts_167 : mv_in k_L_acts 167 = some (.bipush 21, 169, 0, 0, 0) := by unfold mv_in; rw [tb_L_acts]; rfl
theorem r_L_acts_169 : mv_in k_L_acts 169 = some (.irem, 170, 0, 0, 0) := by unfold mv_in; rw [tb_L_acts]; rfl
theorem r_L_acts_170 : mv_in k_L_acts 170 = some (.invokestatic 67, 173, k_L_addRain, 2, 922) := by unfold mv_in; rw [tb_L_acts]; rfl
theorem r_L_acts_173 : mv_in k_L_acts 173 = some (.istore 5, 175, 0, 0, 0) := by unfold mv_in; rw [tb_L_acts]; rfl
theorem r_L_acts_175 : mv_in k_L_acts 175 = some (.goto 50, 178, 225, 0, 0) := by unfold mv_in; rw [tb_L_acts]; rfl
theorem r_L_acts_178 : mv_in k_L_acts 178 = some (.iload_n 3, 179, 0, 0, 0) := by unfold mv_in; rw [tb_L_acts]; rfl
theorem r_L_acts_179 : mv_in k_L_acts 179 = some (.iconst 5, 180, 0, 0, 0) := by unfold mv_in; rw [tb_L_acts]; rfl
theorem r_L_acts_180 : mv_in k_L_acts 180 = some (.irem, 181, 0, 0, 0) := by unfold mv_in; rw [tb_L_acts]; rfl
theorem r_L_acts_181 : mv_in k_L_acts 181 = some (.ifCond .ne 10, 184, 191, 0, 0) := by unfold mv_in; rw [tb_L_acts]; rfl
theorem r_L_acts_184 : mv_in k_L_acts 184 = some (.aload_n 0, 185, 0, 0, 0) := by unfold mv_in; rw [tb_L_acts]; rfl
theorem r_L_acts_185 : mv_in k_L_acts 185 = some (.invokevirtual 84, 188, k_X10_clearForecast, 1, 961) := by unfold mv_in; rw [tb_L_acts]; rfl
theorem r_L_acts_188 : mv_in k_L_acts 188 = some (.goto 4, 191, 192, 0, 0) := by unfold mv_in; rw [tb_L_acts]; rfl
theorem r_L_acts_191 : mv_in k_L_acts 191 = some (.iconst 0, 192, 0, 0, 0) := by unfold mv_in; rw [tb_L_acts]; rfl
theorem r_L_acts_192 : mv_in k_L_acts 192 = some (.istore 5, 194, 0, 0, 0) := by unfold mv_in; rw [tb_L_acts]; rfl
theorem r_L_acts_194 : mv_in k_L_acts 194 = some (.goto 31, 197, 225, 0, 0) := by unfold mv_in; rw [tb_L_acts]; rfl
theorem r_L_acts_197 : mv_in k_L_acts 197 = some (.aload_n 0, 198, 0, 0, 0) := by unfold mv_in; rw [tb_L_acts]; rfl
theorem r_L_acts_198 : mv_in k_L_acts 198 = some (.iload 4, 200, 0, 0, 0) := by unfold mv_in; rw [tb_L_acts]; rfl
theorem r_L_acts_200 : mv_in k_L_acts 200 = some (.iconst 1, 201, 0, 0, 0) := by unfold mv_in; rw [tb_L_acts]; rfl
theorem r_L_acts_201 : mv_in k_L_acts 201 = some (.iload_n 3, 202, 0, 0, 0) := by unfold mv_in; rw [tb_L_acts]; rfl
theorem r_L_acts_202 : mv_in k_L_acts 202 = some (.bipush 40, 204, 0, 0, 0) := by unfold mv_in; rw [tb_L_acts]; rfl
theorem r_L_acts_204 : mv_in k_L_acts 204 = some (.irem, 205, 0, 0, 0) := by unfold mv_in; rw [tb_L_acts]; rfl
theorem r_L_acts_205 : mv_in k_L_acts 205 = some (.iadd, 206, 0, 0, 0) := by unfold mv_in; rw [tb_L_acts]; rfl
theorem r_L_acts_206 : mv_in k_L_acts 206 = some (.invokestatic 87, 209, k_L_pour, 3, 966) := by unfold mv_in; rw [tb_L_acts]; rfl
theorem r_L_acts_209 : mv_in k_L_acts 209 = some (.istore 5, 211, 0, 0, 0) := by unfold mv_in; rw [tb_L_acts]; rfl
theorem r_L_acts_211 : mv_in k_L_acts 211 = some (.goto 14, 214, 225, 0, 0) := by unfold mv_in; rw [tb_L_acts]; rfl
theorem r_L_acts_214 : mv_in k_L_acts 214 = some (.aload_n 0, 215, 0, 0, 0) := by unfold mv_in; rw [tb_L_acts]; rfl
theorem r_L_acts_215 : mv_in k_L_acts 215 = some (.iconst 1, 216, 0, 0, 0) := by unfold mv_in; rw [tb_L_acts]; rfl
theorem r_L_acts_216 : mv_in k_L_acts 216 = some (.iload_n 3, 217, 0, 0, 0) := by unfold mv_in; rw [tb_L_acts]; rfl
theorem r_L_acts_217 : mv_in k_L_acts 217 = some (.iconst 3, 218, 0, 0, 0) := by unfold mv_in; rw [tb_L_acts]; rfl
theorem r_L_acts_218 : mv_in k_L_acts 218 = some (.irem, 219, 0, 0, 0) := by unfold mv_in; rw [tb_L_acts]; rfl
theorem r_L_acts_219 : mv_in k_L_acts 219 = some (.iadd, 220, 0, 0, 0) := by unfold mv_in; rw [tb_L_acts]; rfl
theorem r_L_acts_220 : mv_in k_L_acts 220 = some (.invokestatic 89, 223, k_L_advance, 2, 975) := by unfold mv_in; rw [tb_L_acts]; rfl
theorem r_L_acts_223 : mv_in k_L_acts 223 = some (.istore 5, 225, 0, 0, 0) := by unfold mv_in; rw [tb_L_acts]; rfl
theorem r_L_acts_225 : mv_in k_L_acts 225 = some (.return_, 226, 0, 0, 0) := by unfold mv_in; rw [tb_L_acts]; rfl
theorem tb_L_build : mv_tb k_L_build = t_L_build := rfl
theorem r_L_build_0 : mv_in k_L_build 0 = some (.iconst 0, 1, 0, 0, 0) := by unfold mv_in; rw [tb_L_build]; rfl
theorem r_L_build_1 : mv_in k_L_build 1 = some (.istore_n 3, 2, 0, 0, 0) := by unfold mv_in; rw [tb_L_build]; rfl
theorem r_L_build_2 : mv_in k_L_build 2 = some (.iload_n 3, 3, 0, 0, 0) := by unfold mv_in; rw [tb_L_build]; rfl
theorem r_L_build_3 : mv_in k_L_build 3 = some (.iconst 3, 4, 0, 0, 0) := by unfold mv_in; rw [tb_L_build]; rfl
theorem r_L_build_4 : mv_in k_L_build 4 = some (.if_icmp .ge 42, 7, 46, 0, 0) := by unfold mv_in; rw [tb_L_build]; rfl
theorem r_L_build_7 : mv_in k_L_build 7 = some (.aload_n 0, 8, 0, 0, 0) := by unfold mv_in; rw [tb_L_build]; rfl
theorem r_L_build_8 : mv_in k_L_build 8 = some (.bipush 10, 10, 0, 0, 0) := by unfold mv_in; rw [tb_L_build]; rfl
theorem r_L_build_10 : mv_in k_L_build 10 = some (.aload_n 1, 11, 0, 0, 0) := by unfold mv_in; rw [tb_L_build]; rfl
theorem r_L_build_11 : mv_in k_L_build 11 = some (.iload_n 3, 12, 0, 0, 0) := by unfold mv_in; rw [tb_L_build]; rfl
theorem r_L_build_12 : mv_in k_L_build 12 = some (.bipush 40, 14, 0, 0, 0) := by unfold mv_in; rw [tb_L_build]; rfl
theorem r_L_build_14 : mv_in k_L_build 14 = some (.invokestatic 60, 17, k_L_some, 3, 770) := by unfold mv_in; rw [tb_L_build]; rfl
theorem r_L_build_17 : mv_in k_L_build 17 = some (.iadd, 18, 0, 0, 0) := by unfold mv_in; rw [tb_L_build]; rfl
theorem r_L_build_18 : mv_in k_L_build 18 = some (.aload_n 1, 19, 0, 0, 0) := by unfold mv_in; rw [tb_L_build]; rfl
theorem r_L_build_19 : mv_in k_L_build 19 = some (.iconst 4, 20, 0, 0, 0) := by unfold mv_in; rw [tb_L_build]; rfl
theorem r_L_build_20 : mv_in k_L_build 20 = some (.iload_n 3, 21, 0, 0, 0) := by unfold mv_in; rw [tb_L_build]; rfl
theorem r_L_build_21 : mv_in k_L_build 21 = some (.iadd, 22, 0, 0, 0) := by unfold mv_in; rw [tb_L_build]; rfl
theorem r_L_build_22 : mv_in k_L_build 22 = some (.iconst 4, 23, 0, 0, 0) := by unfold mv_in; rw [tb_L_build]; rfl
theorem r_L_build_23 : mv_in k_L_build 23 = some (.invokestatic 60, 26, k_L_some, 3, 770) := by unfold mv_in; rw [tb_L_build]; rfl
theorem r_L_build_26 : mv_in k_L_build 26 = some (.aload_n 1, 27, 0, 0, 0) := by unfold mv_in; rw [tb_L_build]; rfl
theorem r_L_build_27 : mv_in k_L_build 27 = some (.bipush 8, 29, 0, 0, 0) := by unfold mv_in; rw [tb_L_build]; rfl
theorem r_L_build_29 : mv_in k_L_build 29 = some (.iload_n 3, 30, 0, 0, 0) := by unfold mv_in; rw [tb_L_build]; rfl
theorem r_L_build_30 : mv_in k_L_build 30 = some (.iadd, 31, 0, 0, 0) := by unfold mv_in; rw [tb_L_build]; rfl
theorem r_L_build_31 : mv_in k_L_build 31 = some (.bipush 100, 33, 0, 0, 0) := by unfold mv_in; rw [tb_L_build]; rfl
theorem r_L_build_33 : mv_in k_L_build 33 = some (.invokestatic 60, 36, k_L_some, 3, 770) := by unfold mv_in; rw [tb_L_build]; rfl
theorem r_L_build_36 : mv_in k_L_build 36 = some (.invokestatic 64, 39, k_L_addBasin, 4, 823) := by unfold mv_in; rw [tb_L_build]; rfl
theorem r_L_build_39 : mv_in k_L_build 39 = some (.istore_n 2, 40, 0, 0, 0) := by unfold mv_in; rw [tb_L_build]; rfl
theorem r_L_build_40 : mv_in k_L_build 40 = some (.iinc 3 1, 43, 0, 0, 0) := by unfold mv_in; rw [tb_L_build]; rfl
theorem r_L_build_43 : mv_in k_L_build 43 = some (.goto (-41), 46, 2, 0, 0) := by unfold mv_in; rw [tb_L_build]; rfl
theorem r_L_build_46 : mv_in k_L_build 46 = some (.iconst 0, 47, 0, 0, 0) := by unfold mv_in; rw [tb_L_build]; rfl
theorem r_L_build_47 : mv_in k_L_build 47 = some (.istore_n 3, 48, 0, 0, 0) := by unfold mv_in; rw [tb_L_build]; rfl
theorem r_L_build_48 : mv_in k_L_build 48 = some (.iload_n 3, 49, 0, 0, 0) := by unfold mv_in; rw [tb_L_build]; rfl
theorem r_L_build_49 : mv_in k_L_build 49 = some (.iconst 4, 50, 0, 0, 0) := by unfold mv_in; rw [tb_L_build]; rfl
theorem r_L_build_50 : mv_in k_L_build 50 = some (.if_icmp .ge 24, 53, 74, 0, 0) := by unfold mv_in; rw [tb_L_build]; rfl
theorem r_L_build_53 : mv_in k_L_build 53 = some (.aload_n 0, 54, 0, 0, 0) := by unfold mv_in; rw [tb_L_build]; rfl
theorem r_L_build_54 : mv_in k_L_build 54 = some (.aload_n 1, 55, 0, 0, 0) := by unfold mv_in; rw [tb_L_build]; rfl
theorem r_L_build_55 : mv_in k_L_build 55 = some (.bipush 12, 57, 0, 0, 0) := by unfold mv_in; rw [tb_L_build]; rfl
theorem r_L_build_57 : mv_in k_L_build 57 = some (.iload_n 3, 58, 0, 0, 0) := by unfold mv_in; rw [tb_L_build]; rfl
theorem r_L_build_58 : mv_in k_L_build 58 = some (.iadd, 59, 0, 0, 0) := by unfold mv_in; rw [tb_L_build]; rfl
theorem r_L_build_59 : mv_in k_L_build 59 = some (.bipush 21, 61, 0, 0, 0) := by unfold mv_in; rw [tb_L_build]; rfl
theorem r_L_build_61 : mv_in k_L_build 61 = some (.invokestatic 60, 64, k_L_some, 3, 770) := by unfold mv_in; rw [tb_L_build]; rfl
theorem r_L_build_64 : mv_in k_L_build 64 = some (.invokestatic 67, 67, k_L_addRain, 2, 922) := by unfold mv_in; rw [tb_L_build]; rfl
theorem r_L_build_67 : mv_in k_L_build 67 = some (.istore_n 2, 68, 0, 0, 0) := by unfold mv_in; rw [tb_L_build]; rfl
theorem r_L_build_68 : mv_in k_L_build 68 = some (.iinc 3 1, 71, 0, 0, 0) := by unfold mv_in; rw [tb_L_build]; rfl
theorem r_L_build_71 : mv_in k_L_build 71 = some (.goto (-23), 74, 48, 0, 0) := by unfold mv_in; rw [tb_L_build]; rfl
theorem r_L_build_74 : mv_in k_L_build 74 = some (.iconst 0, 75, 0, 0, 0) := by unfold mv_in; rw [tb_L_build]; rfl
theorem r_L_build_75 : mv_in k_L_build 75 = some (.istore_n 3, 76, 0, 0, 0) := by unfold mv_in; rw [tb_L_build]; rfl
theorem r_L_build_76 : mv_in k_L_build 76 = some (.iload_n 3, 77, 0, 0, 0) := by unfold mv_in; rw [tb_L_build]; rfl
theorem r_L_build_77 : mv_in k_L_build 77 = some (.bipush 20, 79, 0, 0, 0) := by unfold mv_in; rw [tb_L_build]; rfl
theorem r_L_build_79 : mv_in k_L_build 79 = some (.if_icmp .ge 20, 82, 99, 0, 0) := by unfold mv_in; rw [tb_L_build]; rfl
theorem r_L_build_82 : mv_in k_L_build 82 = some (.aload_n 0, 83, 0, 0, 0) := by unfold mv_in; rw [tb_L_build]; rfl
theorem r_L_build_83 : mv_in k_L_build 83 = some (.aload_n 1, 84, 0, 0, 0) := by unfold mv_in; rw [tb_L_build]; rfl
theorem r_L_build_84 : mv_in k_L_build 84 = some (.bipush 16, 86, 0, 0, 0) := by unfold mv_in; rw [tb_L_build]; rfl
theorem r_L_build_86 : mv_in k_L_build 86 = some (.iconst 3, 87, 0, 0, 0) := by unfold mv_in; rw [tb_L_build]; rfl
theorem r_L_build_87 : mv_in k_L_build 87 = some (.iload_n 3, 88, 0, 0, 0) := by unfold mv_in; rw [tb_L_build]; rfl
theorem r_L_build_88 : mv_in k_L_build 88 = some (.imul, 89, 0, 0, 0) := by unfold mv_in; rw [tb_L_build]; rfl
theorem r_L_build_89 : mv_in k_L_build 89 = some (.iadd, 90, 0, 0, 0) := by unfold mv_in; rw [tb_L_build]; rfl
theorem r_L_build_90 : mv_in k_L_build 90 = some (.invokestatic 70, 93, k_L_acts, 3, 931) := by unfold mv_in; rw [tb_L_build]; rfl
theorem r_L_build_93 : mv_in k_L_build 93 = some (.iinc 3 1, 96, 0, 0, 0) := by unfold mv_in; rw [tb_L_build]; rfl
theorem r_L_build_96 : mv_in k_L_build 96 = some (.goto (-20), 99, 76, 0, 0) := by unfold mv_in; rw [tb_L_build]; rfl
theorem r_L_build_99 : mv_in k_L_build 99 = some (.return_, 100, 0, 0, 0) := by unfold mv_in; rw [tb_L_build]; rfl
section SCR
variable {L : Nat} {xs : Nat → Int32} {nx a b w : Nat} {ls : mv_V} {st : List Value} {σ : mv_S}
theorem ax_len : mv_stp L xs (.arraylength, nx, a, b, w) ls (.ref 2000 :: st) σ = some (.inl (nx, ls, .int (Int32.ofInt (L : Int)) :: st, σ)) := rfl
theorem ax_ld {i : Int} (h0 : 0 ≤ i) (h1 : i < L) (h2 : L < 2147483648) : mv_stp L xs (.iaload, nx, a, b, w) ls (.int (Int32.ofInt i) :: .ref 2000 :: st) σ = some (.inl (nx, ls, .int (xs i.toNat) :: st, σ)) := by
  obtain ⟨n, rfl⟩ := Int.eq_ofNat_of_zero_le h0
  have e1 : (Int32.ofInt (n : Int)).toNatClampNeg = n := nI_clamp (n := n) (by omega)
  have e2 : mv_ix (Int32.ofInt (n : Int)) L = true := decide_eq_true (vp_in_nI (n := n) (by omega) (by omega))
  show mv_al L xs 20 nx ls (.int (Int32.ofInt (n : Int)) :: .ref 2000 :: st) σ = _
  simp only [mv_al, (by decide : ¬ (2000 : Nat) < 142), (by decide : ¬ (2000 : Nat) = 1021), if_false, if_true, e2, e1, and_self, mv_nx, Int.toNat_natCast]
theorem ush3 (x : Int32) : ∃ v : Int, 0 ≤ v ∧ v < 536870912 ∧ (x.toUInt32 >>> ((Int32.ofInt 3).toUInt32 &&& (31 : Int32).toUInt32)).toInt32 = Int32.ofInt v := by
  have hn : x.toBitVec.toNat < 2 ^ 32 := x.toBitVec.isLt
  have hx : x = nI x.toBitVec.toNat := by
    apply Int32.toBitVec_inj.mp
    apply BitVec.eq_of_toNat_eq
    rw [pk_tn hn]
  refine ⟨((x.toBitVec.toNat / 8 : Nat) : Int), by omega, by omega, ?_⟩
  have h := pk_ushrN hn (Int32.ofInt 3) 3 (by decide)
  rw [← hx] at h
  exact h
section KV
variable {L : Nat} {xs : Nat → Int32}
theorem kv_L_cell {v0 : Nat} {v1 : Int32} {q nx w : Nat} {ls : mv_V} {st : List Value} {t : Nat} {h : mv_H} : mv_stp L xs (.invokestatic q, nx, k_L_cell, 2, w) ls (.int v1 :: .ref v0 :: st) (t, 142, h) = if mv_cs st ≤ 8 then some (.inr (.inr (k_L_cell, [.ref v0, .int v1], st))) else none := by
  exact cl_any (nx := nx) (ls := ls) (kk := 0) (as := [.ref v0, .int v1]) (by decide) rfl rfl (.inl rfl)
theorem kv_L_some {v0 : Nat} {v1 : Int32} {v2 : Int32} {q nx w : Nat} {ls : mv_V} {st : List Value} {t : Nat} {h : mv_H} : mv_stp L xs (.invokestatic q, nx, k_L_some, 3, w) ls (.int v2 :: .int v1 :: .ref v0 :: st) (t, 142, h) = if mv_cs st ≤ 8 then some (.inr (.inr (k_L_some, [.ref v0, .int v1, .int v2], st))) else none := by
  exact cl_any (nx := nx) (ls := ls) (kk := 0) (as := [.ref v0, .int v1, .int v2]) (by decide) rfl rfl (.inl rfl)
theorem kv_L_addBasin {v0 : Nat} {v1 : Int32} {v2 : Int32} {v3 : Int32} {q nx w : Nat} {ls : mv_V} {st : List Value} {t : Nat} {h : mv_H} : mv_stp L xs (.invokestatic q, nx, k_L_addBasin, 4, w) ls (.int v3 :: .int v2 :: .int v1 :: .ref v0 :: st) (t, 142, h) = if mv_cs st ≤ 8 then some (.inr (.inr (k_L_addBasin, [.ref v0, .int v1, .int v2, .int v3], st))) else none := by
  exact cl_any (nx := nx) (ls := ls) (kk := 0) (as := [.ref v0, .int v1, .int v2, .int v3]) (by decide) rfl rfl (.inl rfl)
theorem kv_L_setGate {v0 : Nat} {v1 : Int32} {v2 : Int32} {q nx w : Nat} {ls : mv_V} {st : List Value} {t : Nat} {h : mv_H} : mv_stp L xs (.invokestatic q, nx, k_L_setGate, 3, w) ls (.int v2 :: .int v1 :: .ref v0 :: st) (t, 142, h) = if mv_cs st ≤ 8 then some (.inr (.inr (k_L_setGate, [.ref v0, .int v1, .int v2], st))) else none := by
  exact cl_any (nx := nx) (ls := ls) (kk := 0) (as := [.ref v0, .int v1, .int v2]) (by decide) rfl rfl (.inl rfl)
theorem kv_L_setAutomatic {v0 : Nat} {v1 : Int32} {v2 : Int32} {q nx w : Nat} {ls : mv_V} {st : List Value} {t : Nat} {h : mv_H} : mv_stp L xs (.invokestatic q, nx, k_L_setAutomatic, 3, w) ls (.int v2 :: .int v1 :: .ref v0 :: st) (t, 142, h) = if mv_cs st ≤ 8 then some (.inr (.inr (k_L_setAutomatic, [.ref v0, .int v1, .int v2], st))) else none := by
  exact cl_any (nx := nx) (ls := ls) (kk := 0) (as := [.ref v0, .int v1, .int v2]) (by decide) rfl rfl (.inl rfl)
theorem kv_L_setManual {v0 : Nat} {v1 : Int32} {q nx w : Nat} {ls : mv_V} {st : List Value} {t : Nat} {h : mv_H} : mv_stp L xs (.invokestatic q, nx, k_L_setManual, 2, w) ls (.int v1 :: .ref v0 :: st) (t, 142, h) = if mv_cs st ≤ 8 then some (.inr (.inr (k_L_setManual, [.ref v0, .int v1], st))) else none := by
  exact cl_any (nx := nx) (ls := ls) (kk := 0) (as := [.ref v0, .int v1]) (by decide) rfl rfl (.inl rfl)
theorem kv_L_addRain {v0 : Nat} {v1 : Int32} {q nx w : Nat} {ls : mv_V} {st : List Value} {t : Nat} {h : mv_H} : mv_stp L xs (.invokestatic q, nx, k_L_addRain, 2, w) ls (.int v1 :: .ref v0 :: st) (t, 142, h) = if mv_cs st ≤ 8 then some (.inr (.inr (k_L_addRain, [.ref v0, .int v1], st))) else none := by
  exact cl_any (nx := nx) (ls := ls) (kk := 0) (as := [.ref v0, .int v1]) (by decide) rfl rfl (.inl rfl)
theorem kv_L_pour {v0 : Nat} {v1 : Int32} {v2 : Int32} {q nx w : Nat} {ls : mv_V} {st : List Value} {t : Nat} {h : mv_H} : mv_stp L xs (.invokestatic q, nx, k_L_pour, 3, w) ls (.int v2 :: .int v1 :: .ref v0 :: st) (t, 142, h) = if mv_cs st ≤ 8 then some (.inr (.inr (k_L_pour, [.ref v0, .int v1, .int v2], st))) else none := by
  exact cl_any (nx := nx) (ls := ls) (kk := 0) (as := [.ref v0, .int v1, .int v2]) (by decide) rfl rfl (.inl rfl)
theorem kv_L_advance {v0 : Nat} {v1 : Int32} {q nx w : Nat} {ls : mv_V} {st : List Value} {t : Nat} {h : mv_H} : mv_stp L xs (.invokestatic q, nx, k_L_advance, 2, w) ls (.int v1 :: .ref v0 :: st) (t, 142, h) = if mv_cs st ≤ 8 then some (.inr (.inr (k_L_advance, [.ref v0, .int v1], st))) else none := by
  exact cl_any (nx := nx) (ls := ls) (kk := 0) (as := [.ref v0, .int v1]) (by decide) rfl rfl (.inl rfl)
theorem kv_L_acts {v0 : Nat} {v1 : Nat} {v2 : Int32} {q nx w : Nat} {ls : mv_V} {st : List Value} {t : Nat} {h : mv_H} : mv_stp L xs (.invokestatic q, nx, k_L_acts, 3, w) ls (.int v2 :: .ref v1 :: .ref v0 :: st) (t, 142, h) = if mv_cs st ≤ 8 then some (.inr (.inr (k_L_acts, [.ref v0, .ref v1, .int v2], st))) else none := by
  exact cl_any (nx := nx) (ls := ls) (kk := 0) (as := [.ref v0, .ref v1, .int v2]) (by decide) rfl rfl (.inl rfl)
theorem kv_L_build {v0 : Nat} {v1 : Nat} {q nx w : Nat} {ls : mv_V} {st : List Value} {t : Nat} {h : mv_H} : mv_stp L xs (.invokestatic q, nx, k_L_build, 2, w) ls (.ref v1 :: .ref v0 :: st) (t, 142, h) = if mv_cs st ≤ 8 then some (.inr (.inr (k_L_build, [.ref v0, .ref v1], st))) else none := by
  exact cl_any (nx := nx) (ls := ls) (kk := 0) (as := [.ref v0, .ref v1]) (by decide) rfl rfl (.inl rfl)
theorem kv_L_threshold {v0 : Nat} {v1 : Int32} {q nx w : Nat} {ls : mv_V} {st : List Value} {t : Nat} {h : mv_H} : mv_stp L xs (.invokestatic q, nx, k_L_threshold, 2, w) ls (.int v1 :: .ref v0 :: st) (t, 142, h) = if mv_cs st ≤ 8 then some (.inr (.inr (k_L_threshold, [.ref v0, .int v1], st))) else none := by
  exact cl_any (nx := nx) (ls := ls) (kk := 0) (as := [.ref v0, .int v1]) (by decide) rfl rfl (.inl rfl)
theorem kv_L_basinAtRank {v0 : Nat} {v1 : Int32} {q nx w : Nat} {ls : mv_V} {st : List Value} {t : Nat} {h : mv_H} : mv_stp L xs (.invokestatic q, nx, k_L_basinAtRank, 2, w) ls (.int v1 :: .ref v0 :: st) (t, 142, h) = if mv_cs st ≤ 8 then some (.inr (.inr (k_L_basinAtRank, [.ref v0, .int v1], st))) else none := by
  exact cl_any (nx := nx) (ls := ls) (kk := 0) (as := [.ref v0, .int v1]) (by decide) rfl rfl (.inl rfl)
theorem kv_L_rainAt {v0 : Nat} {v1 : Int32} {q nx w : Nat} {ls : mv_V} {st : List Value} {t : Nat} {h : mv_H} : mv_stp L xs (.invokestatic q, nx, k_L_rainAt, 2, w) ls (.int v1 :: .ref v0 :: st) (t, 142, h) = if mv_cs st ≤ 8 then some (.inr (.inr (k_L_rainAt, [.ref v0, .int v1], st))) else none := by
  exact cl_any (nx := nx) (ls := ls) (kk := 0) (as := [.ref v0, .int v1]) (by decide) rfl rfl (.inl rfl)
theorem kv_L_stepsUntilFlood {v0 : Nat} {q nx w : Nat} {ls : mv_V} {st : List Value} {t : Nat} {h : mv_H} : mv_stp L xs (.invokestatic q, nx, k_L_stepsUntilFlood, 1, w) ls (.ref v0 :: st) (t, 142, h) = if mv_cs st ≤ 8 then some (.inr (.inr (k_L_stepsUntilFlood, [.ref v0], st))) else none := by
  exact cl_any (nx := nx) (ls := ls) (kk := 0) (as := [.ref v0]) (by decide) rfl rfl (.inl rfl)
end KV
end SCR
section HLP
variable {L : Nat} {xs : Nat → Int32} {d t : Nat} {h : mv_H} {T : zT} {M : Int}
theorem c_L_cell (hd : 1 ≤ d) (hL : L < 2147483648) {k : Int} (k0 : 0 ≤ k) (k1 : k ≤ 1000) : ∃ x : Int32, ∀ (t : Nat) (h : mv_H), mv_cl L xs d k_L_cell [.ref 2000, .int (Int32.ofInt k)] (t, 142, h) = some (.inl (some (.int x)), (t, 142, h)) := by
  obtain ⟨d, rfl⟩ : ∃ q, d = q + 1 := ⟨d - 1, by omega⟩
  by_cases hk : k < L
  · refine ⟨xs k.toNat, fun t h => ?_⟩
    apply mv_cl_of
    simp only [mv_il, Value.category, Nat.zero_add, Nat.reduceAdd]
    have hk2 : ¬ k ≥ (L : Int) := by omega
    simp (disch := omega) only [mv_Ev_row r_L_cell_0, mv_Ev_row r_L_cell_1, mv_Ev_row r_L_cell_2, mv_Ev_row r_L_cell_3, mv_Ev_row r_L_cell_6, mv_Ev_row r_L_cell_7, mv_Ev_row r_L_cell_8, mv_Ev_row r_L_cell_9, mv_Ev_row r_L_cell_12, mv_Ev_row r_L_cell_15, mv_Ev_row r_L_cell_16, mv_Ev_row r_L_cell_17, mv_Ev_row r_L_cell_19, mv_Ev_row r_L_cell_20, ea_iload_n, ea_aload_n, ea_icmp, ea_goto, ea_sipush, ea_imul, ea_bipush, ea_iadd, ea_ireturn, ez_ret, ez_retc, ar_tln, bz_12, sz_7919, cz_eq, cz_ne, cz_lt, cz_ge, cz_gt, cz_le, mv_ac, decide_eq_true_eq, not_true_eq_false, and_self, and_true, true_and, ea_2n, ea_2f, ea_2c, ea_if, if_pos, if_neg, mv_lk, mv_f1, mv_f2, Value.category, List.filter, ↓reduceIte, Nat.reduceEqDiff, Nat.reduceAdd, Nat.reduceLT, Nat.reduceBEq, Nat.zero_add, Nat.add_zero, Nat.zero_ne_one, Nat.one_ne_zero, Bool.not_true, Bool.not_false, Bool.and_true, Bool.true_and, Bool.and_false, Bool.false_and, BEq.rfl, beq_self_eq_true, Bool.false_eq_true, reduceCtorEq, not_false_eq_true, fv0, fv1, fv2, fv3, eb_l0, eb_l1, eb_l2, eb_l3, eb_l4, eb_l5, eb_s0, eb_s1, eb_s2, eb_s3, eb_s4, eb_s5, oz_add, oz_sub, oz_mul, oz_neg, ol_add, ol_sub, sD_eq, sD_sD, sD_ne, sD_in, sD_in2, sD_in3, upR_is, upR_ne, mk_v, mk_n, mk_x, mk_i, mv_cs, Nat.reduceLeDiff, mv_ch_z, ax_len, ax_ld k0 hk hL, hk2, ge_iff_le, (by omega : ¬ (L : Int) ≤ k)]
  · refine ⟨Int32.ofInt (7919 * k + 12), fun t h => ?_⟩
    apply mv_cl_of
    simp only [mv_il, Value.category, Nat.zero_add, Nat.reduceAdd]
    simp (disch := omega) only [mv_Ev_row r_L_cell_0, mv_Ev_row r_L_cell_1, mv_Ev_row r_L_cell_2, mv_Ev_row r_L_cell_3, mv_Ev_row r_L_cell_6, mv_Ev_row r_L_cell_7, mv_Ev_row r_L_cell_8, mv_Ev_row r_L_cell_9, mv_Ev_row r_L_cell_12, mv_Ev_row r_L_cell_15, mv_Ev_row r_L_cell_16, mv_Ev_row r_L_cell_17, mv_Ev_row r_L_cell_19, mv_Ev_row r_L_cell_20, ea_iload_n, ea_aload_n, ea_icmp, ea_goto, ea_sipush, ea_imul, ea_bipush, ea_iadd, ea_ireturn, ez_ret, ez_retc, ar_tln, bz_12, sz_7919, cz_eq, cz_ne, cz_lt, cz_ge, cz_gt, cz_le, mv_ac, decide_eq_true_eq, not_true_eq_false, and_self, and_true, true_and, ea_2n, ea_2f, ea_2c, ea_if, if_pos, if_neg, mv_lk, mv_f1, mv_f2, Value.category, List.filter, ↓reduceIte, Nat.reduceEqDiff, Nat.reduceAdd, Nat.reduceLT, Nat.reduceBEq, Nat.zero_add, Nat.add_zero, Nat.zero_ne_one, Nat.one_ne_zero, Bool.not_true, Bool.not_false, Bool.and_true, Bool.true_and, Bool.and_false, Bool.false_and, BEq.rfl, beq_self_eq_true, Bool.false_eq_true, reduceCtorEq, not_false_eq_true, fv0, fv1, fv2, fv3, eb_l0, eb_l1, eb_l2, eb_l3, eb_l4, eb_l5, eb_s0, eb_s1, eb_s2, eb_s3, eb_s4, eb_s5, oz_add, oz_sub, oz_mul, oz_neg, ol_add, ol_sub, sD_eq, sD_sD, sD_ne, sD_in, sD_in2, sD_in3, upR_is, upR_ne, mk_v, mk_n, mk_x, mk_i, mv_cs, Nat.reduceLeDiff, mv_ch_z, ax_len, ge_iff_le, (by omega : (L : Int) ≤ k)]
theorem c_L_some (hd : 2 ≤ d) (hL : L < 2147483648) {k n : Int} (k0 : 0 ≤ k) (k1 : k ≤ 1000) (n0 : 1 ≤ n) (n1 : n ≤ 1000) : ∃ v : Int, 0 ≤ v ∧ v < n ∧ ∀ (t : Nat) (h : mv_H), mv_cl L xs d k_L_some [.ref 2000, .int (Int32.ofInt k), .int (Int32.ofInt n)] (t, 142, h) = some (.inl (some (.int (Int32.ofInt v))), (t, 142, h)) := by
  obtain ⟨d, rfl⟩ : ∃ q, d = q + 1 := ⟨d - 1, by omega⟩
  obtain ⟨x, hx⟩ := c_L_cell (L := L) (xs := xs) (d := d) (by omega) hL k0 k1
  obtain ⟨v, v0, v1, hv⟩ := ush3 x
  refine ⟨v % n, Int.emod_nonneg _ (by omega), Int.emod_lt_of_pos _ (by omega), fun t h => ?_⟩
  apply mv_cl_of
  simp only [mv_il, Value.category, Nat.zero_add, Nat.reduceAdd]
  simp (disch := omega) only [mv_Ev_row r_L_some_0, mv_Ev_row r_L_some_1, mv_Ev_row r_L_some_2, mv_Ev_row r_L_some_5, mv_Ev_row r_L_some_6, mv_Ev_row r_L_some_7, mv_Ev_row r_L_some_8, mv_Ev_row r_L_some_9, ea_aload_n, ea_iload_n, kv_L_cell, ea_iconst, ea_iushr, ez_rem, ea_ireturn, ez_ret, ez_retc, mv_ac, decide_eq_true_eq, not_true_eq_false, and_self, and_true, true_and, ea_2n, ea_2f, ea_2c, ea_if, if_pos, if_neg, mv_lk, mv_f1, mv_f2, Value.category, List.filter, ↓reduceIte, Nat.reduceEqDiff, Nat.reduceAdd, Nat.reduceLT, Nat.reduceBEq, Nat.zero_add, Nat.add_zero, Nat.zero_ne_one, Nat.one_ne_zero, Bool.not_true, Bool.not_false, Bool.and_true, Bool.true_and, Bool.and_false, Bool.false_and, BEq.rfl, beq_self_eq_true, Bool.false_eq_true, reduceCtorEq, not_false_eq_true, fv0, fv1, fv2, fv3, eb_l0, eb_l1, eb_l2, eb_l3, eb_l4, eb_l5, eb_s0, eb_s1, eb_s2, eb_s3, eb_s4, eb_s5, oz_add, oz_sub, oz_mul, oz_neg, ol_add, ol_sub, sD_eq, sD_sD, sD_ne, sD_in, sD_in2, sD_in3, upR_is, upR_ne, mk_v, mk_n, mk_x, mk_i, mv_cs, Nat.reduceLeDiff, mv_ch_z, hx, hv]
/-- how things stand between two acts -/
def zIn (T : zT) (M : Int) : Prop := zWF (T.1 o1) 99 ∧ zCon (T.1 o1) ∧ zTb (T.1 o1) M ∧ zFd (T.1 o1) ∧ zHis T ∧ T.2.1 < 2000 ∧ ∀ o j, mo_rf 3000 (T.2.2.2 o j)
theorem zIn_ch {k : Nat} (hk : k < 8) {p q r : Int} (hI : zIn T M) (hf : zfOf k (T.1 o1) p q r = 1010) : zIn (sD (zRm T) o1 (zCo k (T.1 o1) p q r)) (M + 30) := by
  obtain ⟨h1, h2, h3, h4, h5, h6⟩ := hI
  have e1 : (sD (zRm T) o1 (zCo k (T.1 o1) p q r)).1 o1 = zCo k (T.1 o1) p q r := sD_eq _ _ _
  refine ⟨by rw [e1]; exact zCo_wf hk h1 hf, by rw [e1]; exact zCo_con hk h1 h2 hf, by rw [e1]; exact zCo_tb hk h1 h3 hf, by rw [e1]; exact zCo_fd hk h1 h4 hf, ?_, h6⟩
  obtain ⟨q0, q1, q2, q3⟩ := h5
  have e2 : (sD (zRm T) o1 (zCo k (T.1 o1) p q r)).1 33 = upR (upR (T.1 33) 1 ((T.1 33 1 + 1) % 8)) 2 (min (T.1 33 2 + 1) 8) := by
    rw [sD_ne _ _ (by decide)]
    unfold zRm
    exact sD_eq _ _ _
  unfold zHis
  rw [e2, upR_ne _ _ (by decide), upR_eq, upR_eq]
  omega
theorem zIn_up {N : Int} (hI : zIn T M) (h : M ≤ N) : zIn T N := by
  obtain ⟨h1, h2, ⟨t0, t1, t2⟩, h4⟩ := hI
  exact ⟨h1, h2, ⟨t0, by omega, t2⟩, h4⟩
end HLP

