/-! THE LAW'S ROWS -/
theorem tb_L_law : mv_tb k_L_law = t_L_law := rfl
theorem r_L_law_0 : mv_in k_L_law 0 = some (.new 14, 3, 7, 0, 94) := by decide +kernel
theorem r_L_law_3 : mv_in k_L_law 3 = some (.dup, 4, 0, 0, 0) := by decide +kernel
theorem r_L_law_4 : mv_in k_L_law 4 = some (.invokespecial 103, 7, k_X10_init, 1, 96) := by decide +kernel
theorem r_L_law_7 : mv_in k_L_law 7 = some (.astore_n 1, 8, 0, 0, 0) := by decide +kernel
theorem r_L_law_8 : mv_in k_L_law 8 = some (.aload_n 1, 9, 0, 0, 0) := by decide +kernel
theorem r_L_law_9 : mv_in k_L_law 9 = some (.aload_n 0, 10, 0, 0, 0) := by decide +kernel
theorem r_L_law_10 : mv_in k_L_law 10 = some (.invokestatic 104, 13, k_L_build, 2, 820) := by decide +kernel
theorem r_L_law_13 : mv_in k_L_law 13 = some (.iconst 0, 14, 0, 0, 0) := by decide +kernel
theorem r_L_law_14 : mv_in k_L_law 14 = some (.istore_n 2, 15, 0, 0, 0) := by decide +kernel
theorem r_L_law_15 : mv_in k_L_law 15 = some (.iload_n 2, 16, 0, 0, 0) := by decide +kernel
theorem r_L_law_16 : mv_in k_L_law 16 = some (.iconst 3, 17, 0, 0, 0) := by decide +kernel
theorem r_L_law_17 : mv_in k_L_law 17 = some (.if_icmp .ge 1024, 20, 1041, 0, 0) := by decide +kernel
theorem r_L_law_20 : mv_in k_L_law 20 = some (.aload_n 1, 21, 0, 0, 0) := by decide +kernel
theorem r_L_law_21 : mv_in k_L_law 21 = some (.invokevirtual 74, 24, k_X10_basinCount, 1, 322) := by decide +kernel
theorem r_L_law_24 : mv_in k_L_law 24 = some (.istore_n 3, 25, 0, 0, 0) := by decide +kernel
theorem r_L_law_25 : mv_in k_L_law 25 = some (.iconst 0, 26, 0, 0, 0) := by decide +kernel
theorem r_L_law_26 : mv_in k_L_law 26 = some (.istore 4, 28, 0, 0, 0) := by decide +kernel
theorem r_L_law_28 : mv_in k_L_law 28 = some (.iconst 0, 29, 0, 0, 0) := by decide +kernel
theorem r_L_law_29 : mv_in k_L_law 29 = some (.istore 5, 31, 0, 0, 0) := by decide +kernel
theorem r_L_law_31 : mv_in k_L_law 31 = some (.aload_n 1, 32, 0, 0, 0) := by decide +kernel
theorem r_L_law_32 : mv_in k_L_law 32 = some (.invokevirtual 108, 35, k_X10_forecastLength, 1, 465) := by decide +kernel
theorem r_L_law_35 : mv_in k_L_law 35 = some (.istore 6, 37, 0, 0, 0) := by decide +kernel
theorem r_L_law_37 : mv_in k_L_law 37 = some (.iconst 1, 38, 0, 0, 0) := by decide +kernel
theorem r_L_law_38 : mv_in k_L_law 38 = some (.aload_n 0, 39, 0, 0, 0) := by decide +kernel
theorem r_L_law_39 : mv_in k_L_law 39 = some (.bipush 100, 41, 0, 0, 0) := by decide +kernel
theorem r_L_law_41 : mv_in k_L_law 41 = some (.iload_n 2, 42, 0, 0, 0) := by decide +kernel
theorem r_L_law_42 : mv_in k_L_law 42 = some (.iadd, 43, 0, 0, 0) := by decide +kernel
theorem r_L_law_43 : mv_in k_L_law 43 = some (.bipush 9, 45, 0, 0, 0) := by decide +kernel
theorem r_L_law_45 : mv_in k_L_law 45 = some (.invokestatic 60, 48, k_L_some, 3, 770) := by decide +kernel
theorem r_L_law_48 : mv_in k_L_law 48 = some (.iadd, 49, 0, 0, 0) := by decide +kernel
theorem r_L_law_49 : mv_in k_L_law 49 = some (.istore 7, 51, 0, 0, 0) := by decide +kernel
theorem r_L_law_51 : mv_in k_L_law 51 = some (.aload_n 0, 52, 0, 0, 0) := by decide +kernel
theorem r_L_law_52 : mv_in k_L_law 52 = some (.bipush 104, 54, 0, 0, 0) := by decide +kernel
theorem r_L_law_54 : mv_in k_L_law 54 = some (.iload_n 2, 55, 0, 0, 0) := by decide +kernel
theorem r_L_law_55 : mv_in k_L_law 55 = some (.iadd, 56, 0, 0, 0) := by decide +kernel
theorem r_L_law_56 : mv_in k_L_law 56 = some (.bipush 100, 58, 0, 0, 0) := by decide +kernel
theorem r_L_law_58 : mv_in k_L_law 58 = some (.invokestatic 60, 61, k_L_some, 3, 770) := by decide +kernel
theorem r_L_law_61 : mv_in k_L_law 61 = some (.istore 8, 63, 0, 0, 0) := by decide +kernel
theorem r_L_law_63 : mv_in k_L_law 63 = some (.dconst 0, 64, 0, 0, 0) := by decide +kernel
theorem r_L_law_64 : mv_in k_L_law 64 = some (.dstore 9, 66, 0, 0, 0) := by decide +kernel
theorem r_L_law_66 : mv_in k_L_law 66 = some (.ldc 111, 68, 0, 0, 1253) := by decide +kernel
theorem r_L_law_68 : mv_in k_L_law 68 = some (.astore 11, 70, 0, 0, 0) := by decide +kernel
theorem r_L_law_70 : mv_in k_L_law 70 = some (.ldc 111, 72, 0, 0, 1253) := by decide +kernel
theorem r_L_law_72 : mv_in k_L_law 72 = some (.astore 12, 74, 0, 0, 0) := by decide +kernel
theorem r_L_law_74 : mv_in k_L_law 74 = some (.iload_n 3, 75, 0, 0, 0) := by decide +kernel
theorem r_L_law_75 : mv_in k_L_law 75 = some (.newarray .int, 77, 20, 0, 0) := by decide +kernel
theorem r_L_law_77 : mv_in k_L_law 77 = some (.astore 13, 79, 0, 0, 0) := by decide +kernel
theorem r_L_law_79 : mv_in k_L_law 79 = some (.iconst 0, 80, 0, 0, 0) := by decide +kernel
theorem r_L_law_80 : mv_in k_L_law 80 = some (.istore 14, 82, 0, 0, 0) := by decide +kernel
theorem r_L_law_82 : mv_in k_L_law 82 = some (.iload 14, 84, 0, 0, 0) := by decide +kernel
theorem r_L_law_84 : mv_in k_L_law 84 = some (.iload_n 3, 85, 0, 0, 0) := by decide +kernel
theorem r_L_law_85 : mv_in k_L_law 85 = some (.if_icmp .ge 439, 88, 524, 0, 0) := by decide +kernel
theorem r_L_law_88 : mv_in k_L_law 88 = some (.aload_n 1, 89, 0, 0, 0) := by decide +kernel
theorem r_L_law_89 : mv_in k_L_law 89 = some (.iload 14, 91, 0, 0, 0) := by decide +kernel
theorem r_L_law_91 : mv_in k_L_law 91 = some (.invokevirtual 113, 94, k_X10_level, 2, 409) := by decide +kernel
theorem r_L_law_94 : mv_in k_L_law 94 = some (.istore 15, 96, 0, 0, 0) := by decide +kernel
theorem r_L_law_96 : mv_in k_L_law 96 = some (.aload_n 1, 97, 0, 0, 0) := by decide +kernel
theorem r_L_law_97 : mv_in k_L_law 97 = some (.iload 14, 99, 0, 0, 0) := by decide +kernel
theorem r_L_law_99 : mv_in k_L_law 99 = some (.invokevirtual 116, 102, k_X10_capacity, 2, 326) := by decide +kernel
theorem r_L_law_102 : mv_in k_L_law 102 = some (.istore 16, 104, 0, 0, 0) := by decide +kernel
theorem r_L_law_104 : mv_in k_L_law 104 = some (.aload_n 1, 105, 0, 0, 0) := by decide +kernel
theorem r_L_law_105 : mv_in k_L_law 105 = some (.iload 14, 107, 0, 0, 0) := by decide +kernel
theorem r_L_law_107 : mv_in k_L_law 107 = some (.invokestatic 119, 110, k_L_threshold, 2, 776) := by decide +kernel
theorem r_L_law_110 : mv_in k_L_law 110 = some (.istore 17, 112, 0, 0, 0) := by decide +kernel
theorem r_L_law_112 : mv_in k_L_law 112 = some (.aload_n 1, 113, 0, 0, 0) := by decide +kernel
theorem r_L_law_113 : mv_in k_L_law 113 = some (.iload 14, 115, 0, 0, 0) := by decide +kernel
theorem r_L_law_115 : mv_in k_L_law 115 = some (.invokevirtual 121, 118, k_X10_opening, 2, 417) := by decide +kernel
theorem r_L_law_118 : mv_in k_L_law 118 = some (.istore 18, 120, 0, 0, 0) := by decide +kernel
theorem r_L_law_120 : mv_in k_L_law 120 = some (.iload 15, 122, 0, 0, 0) := by decide +kernel
theorem r_L_law_122 : mv_in k_L_law 122 = some (.ifCond .lt 71, 125, 193, 0, 0) := by decide +kernel
theorem r_L_law_125 : mv_in k_L_law 125 = some (.iload 15, 127, 0, 0, 0) := by decide +kernel
theorem r_L_law_127 : mv_in k_L_law 127 = some (.iload 16, 129, 0, 0, 0) := by decide +kernel
theorem r_L_law_129 : mv_in k_L_law 129 = some (.if_icmp .gt 64, 132, 193, 0, 0) := by decide +kernel
theorem r_L_law_132 : mv_in k_L_law 132 = some (.iload 18, 134, 0, 0, 0) := by decide +kernel
theorem r_L_law_134 : mv_in k_L_law 134 = some (.ifCond .lt 59, 137, 193, 0, 0) := by decide +kernel
theorem r_L_law_137 : mv_in k_L_law 137 = some (.iload 18, 139, 0, 0, 0) := by decide +kernel
theorem r_L_law_139 : mv_in k_L_law 139 = some (.iconst 5, 140, 0, 0, 0) := by decide +kernel
theorem r_L_law_140 : mv_in k_L_law 140 = some (.if_icmp .gt 53, 143, 193, 0, 0) := by decide +kernel
theorem r_L_law_143 : mv_in k_L_law 143 = some (.aload_n 1, 144, 0, 0, 0) := by decide +kernel
theorem r_L_law_144 : mv_in k_L_law 144 = some (.iload 14, 146, 0, 0, 0) := by decide +kernel
theorem r_L_law_146 : mv_in k_L_law 146 = some (.invokevirtual 124, 149, k_X10_isAutomatic, 2, 421) := by decide +kernel
theorem r_L_law_149 : mv_in k_L_law 149 = some (.iload 17, 151, 0, 0, 0) := by decide +kernel
theorem r_L_law_151 : mv_in k_L_law 151 = some (.sipush (-30000), 154, 0, 0, 0) := by decide +kernel
theorem r_L_law_154 : mv_in k_L_law 154 = some (.if_icmp .eq 7, 157, 161, 0, 0) := by decide +kernel
theorem r_L_law_157 : mv_in k_L_law 157 = some (.iconst 1, 158, 0, 0, 0) := by decide +kernel
theorem r_L_law_158 : mv_in k_L_law 158 = some (.goto 4, 161, 162, 0, 0) := by decide +kernel
theorem r_L_law_161 : mv_in k_L_law 161 = some (.iconst 0, 162, 0, 0, 0) := by decide +kernel
theorem r_L_law_162 : mv_in k_L_law 162 = some (.if_icmp .ne 31, 165, 193, 0, 0) := by decide +kernel
theorem r_L_law_165 : mv_in k_L_law 165 = some (.aload_n 1, 166, 0, 0, 0) := by decide +kernel
theorem r_L_law_166 : mv_in k_L_law 166 = some (.iload 14, 168, 0, 0, 0) := by decide +kernel
theorem r_L_law_168 : mv_in k_L_law 168 = some (.invokevirtual 128, 171, k_X10_spilled, 2, 425) := by decide +kernel
theorem r_L_law_171 : mv_in k_L_law 171 = some (.aload_n 1, 172, 0, 0, 0) := by decide +kernel
theorem r_L_law_172 : mv_in k_L_law 172 = some (.iload 14, 174, 0, 0, 0) := by decide +kernel
theorem r_L_law_174 : mv_in k_L_law 174 = some (.invokevirtual 131, 177, k_X10_floodedSteps, 2, 429) := by decide +kernel
theorem r_L_law_177 : mv_in k_L_law 177 = some (.if_icmp .lt 16, 180, 193, 0, 0) := by decide +kernel
theorem r_L_law_180 : mv_in k_L_law 180 = some (.aload_n 1, 181, 0, 0, 0) := by decide +kernel
theorem r_L_law_181 : mv_in k_L_law 181 = some (.iload 14, 183, 0, 0, 0) := by decide +kernel
theorem r_L_law_183 : mv_in k_L_law 183 = some (.invokevirtual 131, 186, k_X10_floodedSteps, 2, 429) := by decide +kernel
theorem r_L_law_186 : mv_in k_L_law 186 = some (.aload_n 1, 187, 0, 0, 0) := by decide +kernel
theorem r_L_law_187 : mv_in k_L_law 187 = some (.invokevirtual 134, 190, k_X10_time, 1, 461) := by decide +kernel
theorem r_L_law_190 : mv_in k_L_law 190 = some (.if_icmp .le 5, 193, 195, 0, 0) := by decide +kernel
theorem r_L_law_193 : mv_in k_L_law 193 = some (.iconst 0, 194, 0, 0, 0) := by decide +kernel
theorem r_L_law_194 : mv_in k_L_law 194 = some (.ireturn, 195, 1, 0, 0) := by decide +kernel
theorem r_L_law_195 : mv_in k_L_law 195 = some (.iload 4, 197, 0, 0, 0) := by decide +kernel
theorem r_L_law_197 : mv_in k_L_law 197 = some (.iload 15, 199, 0, 0, 0) := by decide +kernel
theorem r_L_law_199 : mv_in k_L_law 199 = some (.iadd, 200, 0, 0, 0) := by decide +kernel
theorem r_L_law_200 : mv_in k_L_law 200 = some (.istore 4, 202, 0, 0, 0) := by decide +kernel
theorem r_L_law_202 : mv_in k_L_law 202 = some (.iload 5, 204, 0, 0, 0) := by decide +kernel
theorem r_L_law_204 : mv_in k_L_law 204 = some (.aload_n 1, 205, 0, 0, 0) := by decide +kernel
theorem r_L_law_205 : mv_in k_L_law 205 = some (.iload 14, 207, 0, 0, 0) := by decide +kernel
theorem r_L_law_207 : mv_in k_L_law 207 = some (.invokevirtual 131, 210, k_X10_floodedSteps, 2, 429) := by decide +kernel
theorem r_L_law_210 : mv_in k_L_law 210 = some (.iadd, 211, 0, 0, 0) := by decide +kernel
theorem r_L_law_211 : mv_in k_L_law 211 = some (.istore 5, 213, 0, 0, 0) := by decide +kernel
theorem r_L_law_213 : mv_in k_L_law 213 = some (.dload 9, 215, 0, 0, 0) := by decide +kernel
theorem r_L_law_215 : mv_in k_L_law 215 = some (.iload 15, 217, 0, 0, 0) := by decide +kernel
theorem r_L_law_217 : mv_in k_L_law 217 = some (.i2d, 218, 0, 0, 0) := by decide +kernel
theorem r_L_law_218 : mv_in k_L_law 218 = some (.iload 16, 220, 0, 0, 0) := by decide +kernel
theorem r_L_law_220 : mv_in k_L_law 220 = some (.i2d, 221, 0, 0, 0) := by decide +kernel
theorem r_L_law_221 : mv_in k_L_law 221 = some (.ddiv, 222, 0, 0, 0) := by decide +kernel
theorem r_L_law_222 : mv_in k_L_law 222 = some (.dadd, 223, 0, 0, 0) := by decide +kernel
theorem r_L_law_223 : mv_in k_L_law 223 = some (.dstore 9, 225, 0, 0, 0) := by decide +kernel
theorem r_L_law_225 : mv_in k_L_law 225 = some (.new 137, 228, 98, 0, 1041) := by decide +kernel
theorem r_L_law_228 : mv_in k_L_law 228 = some (.dup, 229, 0, 0, 0) := by decide +kernel
theorem r_L_law_229 : mv_in k_L_law 229 = some (.invokespecial 139, 232, 999, 1, 1043) := by decide +kernel
theorem r_L_law_232 : mv_in k_L_law 232 = some (.aload 11, 234, 0, 0, 0) := by decide +kernel
theorem r_L_law_234 : mv_in k_L_law 234 = some (.invokevirtual 140, 237, 998, 2, 1071) := by decide +kernel
theorem r_L_law_237 : mv_in k_L_law 237 = some (.iload 14, 239, 0, 0, 0) := by decide +kernel
theorem r_L_law_239 : mv_in k_L_law 239 = some (.ifCond .le 8, 242, 247, 0, 0) := by decide +kernel
theorem r_L_law_242 : mv_in k_L_law 242 = some (.ldc 144, 244, 0, 0, 1254) := by decide +kernel
theorem r_L_law_244 : mv_in k_L_law 244 = some (.goto 5, 247, 249, 0, 0) := by decide +kernel
theorem r_L_law_247 : mv_in k_L_law 247 = some (.ldc 111, 249, 0, 0, 1253) := by decide +kernel
theorem r_L_law_249 : mv_in k_L_law 249 = some (.invokevirtual 140, 252, 998, 2, 1071) := by decide +kernel
theorem r_L_law_252 : mv_in k_L_law 252 = some (.iload 15, 254, 0, 0, 0) := by decide +kernel
theorem r_L_law_254 : mv_in k_L_law 254 = some (.invokevirtual 146, 257, 998, 2, 1168) := by decide +kernel
theorem r_L_law_257 : mv_in k_L_law 257 = some (.ldc 149, 259, 0, 0, 1255) := by decide +kernel
theorem r_L_law_259 : mv_in k_L_law 259 = some (.invokevirtual 140, 262, 998, 2, 1071) := by decide +kernel
theorem r_L_law_262 : mv_in k_L_law 262 = some (.iload 16, 264, 0, 0, 0) := by decide +kernel
theorem r_L_law_264 : mv_in k_L_law 264 = some (.invokevirtual 146, 267, 998, 2, 1168) := by decide +kernel
theorem r_L_law_267 : mv_in k_L_law 267 = some (.iload 17, 269, 0, 0, 0) := by decide +kernel
theorem r_L_law_269 : mv_in k_L_law 269 = some (.sipush (-30000), 272, 0, 0, 0) := by decide +kernel
theorem r_L_law_272 : mv_in k_L_law 272 = some (.if_icmp .ne 26, 275, 298, 0, 0) := by decide +kernel
theorem r_L_law_275 : mv_in k_L_law 275 = some (.new 137, 278, 98, 0, 1041) := by decide +kernel
theorem r_L_law_278 : mv_in k_L_law 278 = some (.dup, 279, 0, 0, 0) := by decide +kernel
theorem r_L_law_279 : mv_in k_L_law 279 = some (.invokespecial 139, 282, 999, 1, 1043) := by decide +kernel
theorem r_L_law_282 : mv_in k_L_law 282 = some (.ldc 151, 284, 0, 0, 1256) := by decide +kernel
theorem r_L_law_284 : mv_in k_L_law 284 = some (.invokevirtual 140, 287, 998, 2, 1071) := by decide +kernel
theorem r_L_law_287 : mv_in k_L_law 287 = some (.iload 18, 289, 0, 0, 0) := by decide +kernel
theorem r_L_law_289 : mv_in k_L_law 289 = some (.invokevirtual 146, 292, 998, 2, 1168) := by decide +kernel
theorem r_L_law_292 : mv_in k_L_law 292 = some (.invokevirtual 153, 295, 998, 1, 1193) := by decide +kernel
theorem r_L_law_295 : mv_in k_L_law 295 = some (.goto 33, 298, 328, 0, 0) := by decide +kernel
theorem r_L_law_298 : mv_in k_L_law 298 = some (.new 137, 301, 98, 0, 1041) := by decide +kernel
theorem r_L_law_301 : mv_in k_L_law 301 = some (.dup, 302, 0, 0, 0) := by decide +kernel
theorem r_L_law_302 : mv_in k_L_law 302 = some (.invokespecial 139, 305, 999, 1, 1043) := by decide +kernel
theorem r_L_law_305 : mv_in k_L_law 305 = some (.ldc 157, 307, 0, 0, 1257) := by decide +kernel
theorem r_L_law_307 : mv_in k_L_law 307 = some (.invokevirtual 140, 310, 998, 2, 1071) := by decide +kernel
theorem r_L_law_310 : mv_in k_L_law 310 = some (.iload 18, 312, 0, 0, 0) := by decide +kernel
theorem r_L_law_312 : mv_in k_L_law 312 = some (.invokevirtual 146, 315, 998, 2, 1168) := by decide +kernel
theorem r_L_law_315 : mv_in k_L_law 315 = some (.ldc 159, 317, 0, 0, 1258) := by decide +kernel
theorem r_L_law_317 : mv_in k_L_law 317 = some (.invokevirtual 140, 320, 998, 2, 1071) := by decide +kernel
theorem r_L_law_320 : mv_in k_L_law 320 = some (.iload 17, 322, 0, 0, 0) := by decide +kernel
theorem r_L_law_322 : mv_in k_L_law 322 = some (.invokevirtual 146, 325, 998, 2, 1168) := by decide +kernel
theorem r_L_law_325 : mv_in k_L_law 325 = some (.invokevirtual 153, 328, 998, 1, 1193) := by decide +kernel
theorem r_L_law_328 : mv_in k_L_law 328 = some (.invokevirtual 140, 331, 998, 2, 1071) := by decide +kernel
theorem r_L_law_331 : mv_in k_L_law 331 = some (.invokevirtual 153, 334, 998, 1, 1193) := by decide +kernel
theorem r_L_law_334 : mv_in k_L_law 334 = some (.astore 11, 336, 0, 0, 0) := by decide +kernel
theorem r_L_law_336 : mv_in k_L_law 336 = some (.aload 13, 338, 0, 0, 0) := by decide +kernel
theorem r_L_law_338 : mv_in k_L_law 338 = some (.iload 14, 340, 0, 0, 0) := by decide +kernel
theorem r_L_law_340 : mv_in k_L_law 340 = some (.aload_n 1, 341, 0, 0, 0) := by decide +kernel
theorem r_L_law_341 : mv_in k_L_law 341 = some (.iload 14, 343, 0, 0, 0) := by decide +kernel
theorem r_L_law_343 : mv_in k_L_law 343 = some (.iload 7, 345, 0, 0, 0) := by decide +kernel
theorem r_L_law_345 : mv_in k_L_law 345 = some (.invokevirtual 161, 348, k_X10_spillOf, 3, 623) := by decide +kernel
theorem r_L_law_348 : mv_in k_L_law 348 = some (.iastore, 349, 0, 0, 0) := by decide +kernel
theorem r_L_law_349 : mv_in k_L_law 349 = some (.aload_n 1, 350, 0, 0, 0) := by decide +kernel
theorem r_L_law_350 : mv_in k_L_law 350 = some (.iload 14, 352, 0, 0, 0) := by decide +kernel
theorem r_L_law_352 : mv_in k_L_law 352 = some (.iconst 0, 353, 0, 0, 0) := by decide +kernel
theorem r_L_law_353 : mv_in k_L_law 353 = some (.invokevirtual 164, 356, k_X10_levelAfter, 3, 523) := by decide +kernel
theorem r_L_law_356 : mv_in k_L_law 356 = some (.iload 15, 358, 0, 0, 0) := by decide +kernel
theorem r_L_law_358 : mv_in k_L_law 358 = some (.if_icmp .ne 21, 361, 379, 0, 0) := by decide +kernel
theorem r_L_law_361 : mv_in k_L_law 361 = some (.aload_n 1, 362, 0, 0, 0) := by decide +kernel
theorem r_L_law_362 : mv_in k_L_law 362 = some (.iload 14, 364, 0, 0, 0) := by decide +kernel
theorem r_L_law_364 : mv_in k_L_law 364 = some (.iconst 0, 365, 0, 0, 0) := by decide +kernel
theorem r_L_law_365 : mv_in k_L_law 365 = some (.invokevirtual 161, 368, k_X10_spillOf, 3, 623) := by decide +kernel
theorem r_L_law_368 : mv_in k_L_law 368 = some (.ifCond .ne 11, 371, 379, 0, 0) := by decide +kernel
theorem r_L_law_371 : mv_in k_L_law 371 = some (.aload 13, 373, 0, 0, 0) := by decide +kernel
theorem r_L_law_373 : mv_in k_L_law 373 = some (.iload 14, 375, 0, 0, 0) := by decide +kernel
theorem r_L_law_375 : mv_in k_L_law 375 = some (.iaload, 376, 0, 0, 0) := by decide +kernel
theorem r_L_law_376 : mv_in k_L_law 376 = some (.ifCond .ge 5, 379, 381, 0, 0) := by decide +kernel
theorem r_L_law_379 : mv_in k_L_law 379 = some (.iconst 0, 380, 0, 0, 0) := by decide +kernel
theorem r_L_law_380 : mv_in k_L_law 380 = some (.ireturn, 381, 1, 0, 0) := by decide +kernel
theorem r_L_law_381 : mv_in k_L_law 381 = some (.iload 17, 383, 0, 0, 0) := by decide +kernel
theorem r_L_law_383 : mv_in k_L_law 383 = some (.sipush (-30000), 386, 0, 0, 0) := by decide +kernel
theorem r_L_law_386 : mv_in k_L_law 386 = some (.if_icmp .eq 6, 389, 392, 0, 0) := by decide +kernel
theorem r_L_law_389 : mv_in k_L_law 389 = some (.goto 129, 392, 518, 0, 0) := by decide +kernel
theorem r_L_law_392 : mv_in k_L_law 392 = some (.aload_n 1, 393, 0, 0, 0) := by decide +kernel
theorem r_L_law_393 : mv_in k_L_law 393 = some (.iload 14, 395, 0, 0, 0) := by decide +kernel
theorem r_L_law_395 : mv_in k_L_law 395 = some (.iconst 2, 396, 0, 0, 0) := by decide +kernel
theorem r_L_law_396 : mv_in k_L_law 396 = some (.invokevirtual 167, 399, k_X10_leastSpill, 3, 631) := by decide +kernel
theorem r_L_law_399 : mv_in k_L_law 399 = some (.istore 19, 401, 0, 0, 0) := by decide +kernel
theorem r_L_law_401 : mv_in k_L_law 401 = some (.aload_n 1, 402, 0, 0, 0) := by decide +kernel
theorem r_L_law_402 : mv_in k_L_law 402 = some (.iload 14, 404, 0, 0, 0) := by decide +kernel
theorem r_L_law_404 : mv_in k_L_law 404 = some (.iconst 2, 405, 0, 0, 0) := by decide +kernel
theorem r_L_law_405 : mv_in k_L_law 405 = some (.invokevirtual 170, 408, k_X10_bestOpening, 3, 669) := by decide +kernel
theorem r_L_law_408 : mv_in k_L_law 408 = some (.istore 20, 410, 0, 0, 0) := by decide +kernel
theorem r_L_law_410 : mv_in k_L_law 410 = some (.iconst 0, 411, 0, 0, 0) := by decide +kernel
theorem r_L_law_411 : mv_in k_L_law 411 = some (.istore 21, 413, 0, 0, 0) := by decide +kernel
theorem r_L_law_413 : mv_in k_L_law 413 = some (.iconst 0, 414, 0, 0, 0) := by decide +kernel
theorem r_L_law_414 : mv_in k_L_law 414 = some (.istore 22, 416, 0, 0, 0) := by decide +kernel
theorem r_L_law_416 : mv_in k_L_law 416 = some (.iload 22, 418, 0, 0, 0) := by decide +kernel
theorem r_L_law_418 : mv_in k_L_law 418 = some (.iload_n 3, 419, 0, 0, 0) := by decide +kernel
theorem r_L_law_419 : mv_in k_L_law 419 = some (.if_icmp .ge 21, 422, 440, 0, 0) := by decide +kernel
theorem r_L_law_422 : mv_in k_L_law 422 = some (.iload 21, 424, 0, 0, 0) := by decide +kernel
theorem r_L_law_424 : mv_in k_L_law 424 = some (.aload_n 1, 425, 0, 0, 0) := by decide +kernel
theorem r_L_law_425 : mv_in k_L_law 425 = some (.iload 22, 427, 0, 0, 0) := by decide +kernel
theorem r_L_law_427 : mv_in k_L_law 427 = some (.iconst 2, 428, 0, 0, 0) := by decide +kernel
theorem r_L_law_428 : mv_in k_L_law 428 = some (.invokevirtual 161, 431, k_X10_spillOf, 3, 623) := by decide +kernel
theorem r_L_law_431 : mv_in k_L_law 431 = some (.iadd, 432, 0, 0, 0) := by decide +kernel
theorem r_L_law_432 : mv_in k_L_law 432 = some (.istore 21, 434, 0, 0, 0) := by decide +kernel
theorem r_L_law_434 : mv_in k_L_law 434 = some (.iinc 22 1, 437, 0, 0, 0) := by decide +kernel
theorem r_L_law_437 : mv_in k_L_law 437 = some (.goto (-21), 440, 416, 0, 0) := by decide +kernel
theorem r_L_law_440 : mv_in k_L_law 440 = some (.aload_n 1, 441, 0, 0, 0) := by decide +kernel
theorem r_L_law_441 : mv_in k_L_law 441 = some (.iload 14, 443, 0, 0, 0) := by decide +kernel
theorem r_L_law_443 : mv_in k_L_law 443 = some (.iconst 2, 444, 0, 0, 0) := by decide +kernel
theorem r_L_law_444 : mv_in k_L_law 444 = some (.invokevirtual 173, 447, k_X10_leastSpillByPruning, 3, 658) := by decide +kernel
theorem r_L_law_447 : mv_in k_L_law 447 = some (.iload 19, 449, 0, 0, 0) := by decide +kernel
theorem r_L_law_449 : mv_in k_L_law 449 = some (.if_icmp .ne 67, 452, 516, 0, 0) := by decide +kernel
theorem r_L_law_452 : mv_in k_L_law 452 = some (.iload 19, 454, 0, 0, 0) := by decide +kernel
theorem r_L_law_454 : mv_in k_L_law 454 = some (.ifCond .lt 62, 457, 516, 0, 0) := by decide +kernel
theorem r_L_law_457 : mv_in k_L_law 457 = some (.iload 19, 459, 0, 0, 0) := by decide +kernel
theorem r_L_law_459 : mv_in k_L_law 459 = some (.iload 21, 461, 0, 0, 0) := by decide +kernel
theorem r_L_law_461 : mv_in k_L_law 461 = some (.if_icmp .gt 55, 464, 516, 0, 0) := by decide +kernel
theorem r_L_law_464 : mv_in k_L_law 464 = some (.iload 20, 466, 0, 0, 0) := by decide +kernel
theorem r_L_law_466 : mv_in k_L_law 466 = some (.ifCond .lt 50, 469, 516, 0, 0) := by decide +kernel
theorem r_L_law_469 : mv_in k_L_law 469 = some (.iload 20, 471, 0, 0, 0) := by decide +kernel
theorem r_L_law_471 : mv_in k_L_law 471 = some (.iconst 5, 472, 0, 0, 0) := by decide +kernel
theorem r_L_law_472 : mv_in k_L_law 472 = some (.if_icmp .gt 44, 475, 516, 0, 0) := by decide +kernel
theorem r_L_law_475 : mv_in k_L_law 475 = some (.aload_n 1, 476, 0, 0, 0) := by decide +kernel
theorem r_L_law_476 : mv_in k_L_law 476 = some (.iload 14, 478, 0, 0, 0) := by decide +kernel
theorem r_L_law_478 : mv_in k_L_law 478 = some (.iconst 1, 479, 0, 0, 0) := by decide +kernel
theorem r_L_law_479 : mv_in k_L_law 479 = some (.invokevirtual 167, 482, k_X10_leastSpill, 3, 631) := by decide +kernel
theorem r_L_law_482 : mv_in k_L_law 482 = some (.iload 19, 484, 0, 0, 0) := by decide +kernel
theorem r_L_law_484 : mv_in k_L_law 484 = some (.if_icmp .gt 32, 487, 516, 0, 0) := by decide +kernel
theorem r_L_law_487 : mv_in k_L_law 487 = some (.aload_n 1, 488, 0, 0, 0) := by decide +kernel
theorem r_L_law_488 : mv_in k_L_law 488 = some (.iload 14, 490, 0, 0, 0) := by decide +kernel
theorem r_L_law_490 : mv_in k_L_law 490 = some (.iconst 3, 491, 0, 0, 0) := by decide +kernel
theorem r_L_law_491 : mv_in k_L_law 491 = some (.invokevirtual 173, 494, k_X10_leastSpillByPruning, 3, 658) := by decide +kernel
theorem r_L_law_494 : mv_in k_L_law 494 = some (.aload_n 1, 495, 0, 0, 0) := by decide +kernel
theorem r_L_law_495 : mv_in k_L_law 495 = some (.iload 14, 497, 0, 0, 0) := by decide +kernel
theorem r_L_law_497 : mv_in k_L_law 497 = some (.iconst 3, 498, 0, 0, 0) := by decide +kernel
theorem r_L_law_498 : mv_in k_L_law 498 = some (.invokevirtual 167, 501, k_X10_leastSpill, 3, 631) := by decide +kernel
theorem r_L_law_501 : mv_in k_L_law 501 = some (.if_icmp .ne 15, 504, 516, 0, 0) := by decide +kernel
theorem r_L_law_504 : mv_in k_L_law 504 = some (.aload_n 1, 505, 0, 0, 0) := by decide +kernel
theorem r_L_law_505 : mv_in k_L_law 505 = some (.iload 14, 507, 0, 0, 0) := by decide +kernel
theorem r_L_law_507 : mv_in k_L_law 507 = some (.iconst 3, 508, 0, 0, 0) := by decide +kernel
theorem r_L_law_508 : mv_in k_L_law 508 = some (.invokevirtual 167, 511, k_X10_leastSpill, 3, 631) := by decide +kernel
theorem r_L_law_511 : mv_in k_L_law 511 = some (.iload 19, 513, 0, 0, 0) := by decide +kernel
theorem r_L_law_513 : mv_in k_L_law 513 = some (.if_icmp .ge 5, 516, 518, 0, 0) := by decide +kernel
theorem r_L_law_516 : mv_in k_L_law 516 = some (.iconst 0, 517, 0, 0, 0) := by decide +kernel
theorem r_L_law_517 : mv_in k_L_law 517 = some (.ireturn, 518, 1, 0, 0) := by decide +kernel
theorem r_L_law_518 : mv_in k_L_law 518 = some (.iinc 14 1, 521, 0, 0, 0) := by decide +kernel
theorem r_L_law_521 : mv_in k_L_law 521 = some (.goto (-439), 524, 82, 0, 0) := by decide +kernel
theorem r_L_law_524 : mv_in k_L_law 524 = some (.iconst 0, 525, 0, 0, 0) := by decide +kernel
theorem r_L_law_525 : mv_in k_L_law 525 = some (.istore 14, 527, 0, 0, 0) := by decide +kernel
theorem r_L_law_527 : mv_in k_L_law 527 = some (.iload 14, 529, 0, 0, 0) := by decide +kernel
theorem r_L_law_529 : mv_in k_L_law 529 = some (.iload 6, 531, 0, 0, 0) := by decide +kernel
theorem r_L_law_531 : mv_in k_L_law 531 = some (.if_icmp .ge 50, 534, 581, 0, 0) := by decide +kernel
theorem r_L_law_534 : mv_in k_L_law 534 = some (.new 137, 537, 98, 0, 1041) := by decide +kernel
theorem r_L_law_537 : mv_in k_L_law 537 = some (.dup, 538, 0, 0, 0) := by decide +kernel
theorem r_L_law_538 : mv_in k_L_law 538 = some (.invokespecial 139, 541, 999, 1, 1043) := by decide +kernel
theorem r_L_law_541 : mv_in k_L_law 541 = some (.aload 12, 543, 0, 0, 0) := by decide +kernel
theorem r_L_law_543 : mv_in k_L_law 543 = some (.invokevirtual 140, 546, 998, 2, 1071) := by decide +kernel
theorem r_L_law_546 : mv_in k_L_law 546 = some (.iload 14, 548, 0, 0, 0) := by decide +kernel
theorem r_L_law_548 : mv_in k_L_law 548 = some (.ifCond .le 8, 551, 556, 0, 0) := by decide +kernel
theorem r_L_law_551 : mv_in k_L_law 551 = some (.ldc 176, 553, 0, 0, 1259) := by decide +kernel
theorem r_L_law_553 : mv_in k_L_law 553 = some (.goto 5, 556, 558, 0, 0) := by decide +kernel
theorem r_L_law_556 : mv_in k_L_law 556 = some (.ldc 111, 558, 0, 0, 1253) := by decide +kernel
theorem r_L_law_558 : mv_in k_L_law 558 = some (.invokevirtual 140, 561, 998, 2, 1071) := by decide +kernel
theorem r_L_law_561 : mv_in k_L_law 561 = some (.aload_n 1, 562, 0, 0, 0) := by decide +kernel
theorem r_L_law_562 : mv_in k_L_law 562 = some (.iload 14, 564, 0, 0, 0) := by decide +kernel
theorem r_L_law_564 : mv_in k_L_law 564 = some (.invokevirtual 53, 567, k_X10_rainAt, 2, 469) := by decide +kernel
theorem r_L_law_567 : mv_in k_L_law 567 = some (.invokevirtual 146, 570, 998, 2, 1168) := by decide +kernel
theorem r_L_law_570 : mv_in k_L_law 570 = some (.invokevirtual 153, 573, 998, 1, 1193) := by decide +kernel
theorem r_L_law_573 : mv_in k_L_law 573 = some (.astore 12, 575, 0, 0, 0) := by decide +kernel
theorem r_L_law_575 : mv_in k_L_law 575 = some (.iinc 14 1, 578, 0, 0, 0) := by decide +kernel
theorem r_L_law_578 : mv_in k_L_law 578 = some (.goto (-51), 581, 527, 0, 0) := by decide +kernel
theorem r_L_law_581 : mv_in k_L_law 581 = some (.iconst 1, 582, 0, 0, 0) := by decide +kernel
theorem r_L_law_582 : mv_in k_L_law 582 = some (.istore 14, 584, 0, 0, 0) := by decide +kernel
theorem r_L_law_584 : mv_in k_L_law 584 = some (.iload 14, 586, 0, 0, 0) := by decide +kernel
theorem r_L_law_586 : mv_in k_L_law 586 = some (.iload_n 3, 587, 0, 0, 0) := by decide +kernel
theorem r_L_law_587 : mv_in k_L_law 587 = some (.if_icmp .ge 75, 590, 662, 0, 0) := by decide +kernel
theorem r_L_law_590 : mv_in k_L_law 590 = some (.aload_n 1, 591, 0, 0, 0) := by decide +kernel
theorem r_L_law_591 : mv_in k_L_law 591 = some (.iload 14, 593, 0, 0, 0) := by decide +kernel
theorem r_L_law_593 : mv_in k_L_law 593 = some (.iconst 1, 594, 0, 0, 0) := by decide +kernel
theorem r_L_law_594 : mv_in k_L_law 594 = some (.isub, 595, 0, 0, 0) := by decide +kernel
theorem r_L_law_595 : mv_in k_L_law 595 = some (.invokevirtual 50, 598, k_X10_basinAtRank, 2, 433) := by decide +kernel
theorem r_L_law_598 : mv_in k_L_law 598 = some (.istore 15, 600, 0, 0, 0) := by decide +kernel
theorem r_L_law_600 : mv_in k_L_law 600 = some (.aload_n 1, 601, 0, 0, 0) := by decide +kernel
theorem r_L_law_601 : mv_in k_L_law 601 = some (.iload 14, 603, 0, 0, 0) := by decide +kernel
theorem r_L_law_603 : mv_in k_L_law 603 = some (.invokevirtual 50, 606, k_X10_basinAtRank, 2, 433) := by decide +kernel
theorem r_L_law_606 : mv_in k_L_law 606 = some (.istore 16, 608, 0, 0, 0) := by decide +kernel
theorem r_L_law_608 : mv_in k_L_law 608 = some (.aload_n 1, 609, 0, 0, 0) := by decide +kernel
theorem r_L_law_609 : mv_in k_L_law 609 = some (.iload 15, 611, 0, 0, 0) := by decide +kernel
theorem r_L_law_611 : mv_in k_L_law 611 = some (.invokevirtual 113, 614, k_X10_level, 2, 409) := by decide +kernel
theorem r_L_law_614 : mv_in k_L_law 614 = some (.aload_n 1, 615, 0, 0, 0) := by decide +kernel
theorem r_L_law_615 : mv_in k_L_law 615 = some (.iload 16, 617, 0, 0, 0) := by decide +kernel
theorem r_L_law_617 : mv_in k_L_law 617 = some (.invokevirtual 116, 620, k_X10_capacity, 2, 326) := by decide +kernel
theorem r_L_law_620 : mv_in k_L_law 620 = some (.imul, 621, 0, 0, 0) := by decide +kernel
theorem r_L_law_621 : mv_in k_L_law 621 = some (.aload_n 1, 622, 0, 0, 0) := by decide +kernel
theorem r_L_law_622 : mv_in k_L_law 622 = some (.iload 16, 624, 0, 0, 0) := by decide +kernel
theorem r_L_law_624 : mv_in k_L_law 624 = some (.invokevirtual 113, 627, k_X10_level, 2, 409) := by decide +kernel
theorem r_L_law_627 : mv_in k_L_law 627 = some (.aload_n 1, 628, 0, 0, 0) := by decide +kernel
theorem r_L_law_628 : mv_in k_L_law 628 = some (.iload 15, 630, 0, 0, 0) := by decide +kernel
theorem r_L_law_630 : mv_in k_L_law 630 = some (.invokevirtual 116, 633, k_X10_capacity, 2, 326) := by decide +kernel
theorem r_L_law_633 : mv_in k_L_law 633 = some (.imul, 634, 0, 0, 0) := by decide +kernel
theorem r_L_law_634 : mv_in k_L_law 634 = some (.isub, 635, 0, 0, 0) := by decide +kernel
theorem r_L_law_635 : mv_in k_L_law 635 = some (.istore 17, 637, 0, 0, 0) := by decide +kernel
theorem r_L_law_637 : mv_in k_L_law 637 = some (.iload 17, 639, 0, 0, 0) := by decide +kernel
theorem r_L_law_639 : mv_in k_L_law 639 = some (.ifCond .lt 15, 642, 654, 0, 0) := by decide +kernel
theorem r_L_law_642 : mv_in k_L_law 642 = some (.iload 17, 644, 0, 0, 0) := by decide +kernel
theorem r_L_law_644 : mv_in k_L_law 644 = some (.ifCond .ne 12, 647, 656, 0, 0) := by decide +kernel
theorem r_L_law_647 : mv_in k_L_law 647 = some (.iload 15, 649, 0, 0, 0) := by decide +kernel
theorem r_L_law_649 : mv_in k_L_law 649 = some (.iload 16, 651, 0, 0, 0) := by decide +kernel
theorem r_L_law_651 : mv_in k_L_law 651 = some (.if_icmp .le 5, 654, 656, 0, 0) := by decide +kernel
theorem r_L_law_654 : mv_in k_L_law 654 = some (.iconst 0, 655, 0, 0, 0) := by decide +kernel
theorem r_L_law_655 : mv_in k_L_law 655 = some (.ireturn, 656, 1, 0, 0) := by decide +kernel
theorem r_L_law_656 : mv_in k_L_law 656 = some (.iinc 14 1, 659, 0, 0, 0) := by decide +kernel
theorem r_L_law_659 : mv_in k_L_law 659 = some (.goto (-75), 662, 584, 0, 0) := by decide +kernel
theorem r_L_law_662 : mv_in k_L_law 662 = some (.iconst 0, 663, 0, 0, 0) := by decide +kernel
theorem r_L_law_663 : mv_in k_L_law 663 = some (.istore 14, 665, 0, 0, 0) := by decide +kernel
theorem r_L_law_665 : mv_in k_L_law 665 = some (.iconst 0, 666, 0, 0, 0) := by decide +kernel
theorem r_L_law_666 : mv_in k_L_law 666 = some (.istore 15, 668, 0, 0, 0) := by decide +kernel
theorem r_L_law_668 : mv_in k_L_law 668 = some (.iconst 0, 669, 0, 0, 0) := by decide +kernel
theorem r_L_law_669 : mv_in k_L_law 669 = some (.istore 16, 671, 0, 0, 0) := by decide +kernel
theorem r_L_law_671 : mv_in k_L_law 671 = some (.iconst 0, 672, 0, 0, 0) := by decide +kernel
theorem r_L_law_672 : mv_in k_L_law 672 = some (.istore 17, 674, 0, 0, 0) := by decide +kernel
theorem r_L_law_674 : mv_in k_L_law 674 = some (.iload 17, 676, 0, 0, 0) := by decide +kernel
theorem r_L_law_676 : mv_in k_L_law 676 = some (.iconst 1, 677, 0, 0, 0) := by decide +kernel
theorem r_L_law_677 : mv_in k_L_law 677 = some (.iload_n 3, 678, 0, 0, 0) := by decide +kernel
theorem r_L_law_678 : mv_in k_L_law 678 = some (.ishl, 679, 0, 0, 0) := by decide +kernel
theorem r_L_law_679 : mv_in k_L_law 679 = some (.if_icmp .ge 93, 682, 772, 0, 0) := by decide +kernel
theorem r_L_law_682 : mv_in k_L_law 682 = some (.iconst 0, 683, 0, 0, 0) := by decide +kernel
theorem r_L_law_683 : mv_in k_L_law 683 = some (.istore 18, 685, 0, 0, 0) := by decide +kernel
theorem r_L_law_685 : mv_in k_L_law 685 = some (.iconst 0, 686, 0, 0, 0) := by decide +kernel
theorem r_L_law_686 : mv_in k_L_law 686 = some (.istore 19, 688, 0, 0, 0) := by decide +kernel
theorem r_L_law_688 : mv_in k_L_law 688 = some (.iconst 0, 689, 0, 0, 0) := by decide +kernel
theorem r_L_law_689 : mv_in k_L_law 689 = some (.istore 20, 691, 0, 0, 0) := by decide +kernel
theorem r_L_law_691 : mv_in k_L_law 691 = some (.iload 20, 693, 0, 0, 0) := by decide +kernel
theorem r_L_law_693 : mv_in k_L_law 693 = some (.iload_n 3, 694, 0, 0, 0) := by decide +kernel
theorem r_L_law_694 : mv_in k_L_law 694 = some (.if_icmp .ge 51, 697, 745, 0, 0) := by decide +kernel
theorem r_L_law_697 : mv_in k_L_law 697 = some (.iload 17, 699, 0, 0, 0) := by decide +kernel
theorem r_L_law_699 : mv_in k_L_law 699 = some (.iload 20, 701, 0, 0, 0) := by decide +kernel
theorem r_L_law_701 : mv_in k_L_law 701 = some (.ishr, 702, 0, 0, 0) := by decide +kernel
theorem r_L_law_702 : mv_in k_L_law 702 = some (.iconst 1, 703, 0, 0, 0) := by decide +kernel
theorem r_L_law_703 : mv_in k_L_law 703 = some (.iand, 704, 0, 0, 0) := by decide +kernel
theorem r_L_law_704 : mv_in k_L_law 704 = some (.ifCond .eq 35, 707, 739, 0, 0) := by decide +kernel
theorem r_L_law_707 : mv_in k_L_law 707 = some (.aload 13, 709, 0, 0, 0) := by decide +kernel
theorem r_L_law_709 : mv_in k_L_law 709 = some (.iload 20, 711, 0, 0, 0) := by decide +kernel
theorem r_L_law_711 : mv_in k_L_law 711 = some (.iaload, 712, 0, 0, 0) := by decide +kernel
theorem r_L_law_712 : mv_in k_L_law 712 = some (.ifCond .ne 6, 715, 718, 0, 0) := by decide +kernel
theorem r_L_law_715 : mv_in k_L_law 715 = some (.goto 24, 718, 739, 0, 0) := by decide +kernel
theorem r_L_law_718 : mv_in k_L_law 718 = some (.iload 18, 720, 0, 0, 0) := by decide +kernel
theorem r_L_law_720 : mv_in k_L_law 720 = some (.aload 13, 722, 0, 0, 0) := by decide +kernel
theorem r_L_law_722 : mv_in k_L_law 722 = some (.iload 20, 724, 0, 0, 0) := by decide +kernel
theorem r_L_law_724 : mv_in k_L_law 724 = some (.iaload, 725, 0, 0, 0) := by decide +kernel
theorem r_L_law_725 : mv_in k_L_law 725 = some (.iadd, 726, 0, 0, 0) := by decide +kernel
theorem r_L_law_726 : mv_in k_L_law 726 = some (.istore 18, 728, 0, 0, 0) := by decide +kernel
theorem r_L_law_728 : mv_in k_L_law 728 = some (.iload 19, 730, 0, 0, 0) := by decide +kernel
theorem r_L_law_730 : mv_in k_L_law 730 = some (.aload_n 1, 731, 0, 0, 0) := by decide +kernel
theorem r_L_law_731 : mv_in k_L_law 731 = some (.iload 20, 733, 0, 0, 0) := by decide +kernel
theorem r_L_law_733 : mv_in k_L_law 733 = some (.invokevirtual 178, 736, k_X10_fieldValue, 2, 413) := by decide +kernel
theorem r_L_law_736 : mv_in k_L_law 736 = some (.iadd, 737, 0, 0, 0) := by decide +kernel
theorem r_L_law_737 : mv_in k_L_law 737 = some (.istore 19, 739, 0, 0, 0) := by decide +kernel
theorem r_L_law_739 : mv_in k_L_law 739 = some (.iinc 20 1, 742, 0, 0, 0) := by decide +kernel
theorem r_L_law_742 : mv_in k_L_law 742 = some (.goto (-51), 745, 691, 0, 0) := by decide +kernel
theorem r_L_law_745 : mv_in k_L_law 745 = some (.iload 18, 747, 0, 0, 0) := by decide +kernel
theorem r_L_law_747 : mv_in k_L_law 747 = some (.iload 8, 749, 0, 0, 0) := by decide +kernel
theorem r_L_law_749 : mv_in k_L_law 749 = some (.if_icmp .gt 13, 752, 762, 0, 0) := by decide +kernel
theorem r_L_law_752 : mv_in k_L_law 752 = some (.iload 14, 754, 0, 0, 0) := by decide +kernel
theorem r_L_law_754 : mv_in k_L_law 754 = some (.iload 19, 756, 0, 0, 0) := by decide +kernel
theorem r_L_law_756 : mv_in k_L_law 756 = some (.invokestatic 181, 759, 901, 2, 1040) := by decide +kernel
theorem r_L_law_759 : mv_in k_L_law 759 = some (.goto 5, 762, 764, 0, 0) := by decide +kernel
theorem r_L_law_762 : mv_in k_L_law 762 = some (.iload 14, 764, 0, 0, 0) := by decide +kernel
theorem r_L_law_764 : mv_in k_L_law 764 = some (.istore 14, 766, 0, 0, 0) := by decide +kernel
theorem r_L_law_766 : mv_in k_L_law 766 = some (.iinc 17 1, 769, 0, 0, 0) := by decide +kernel
theorem r_L_law_769 : mv_in k_L_law 769 = some (.goto (-95), 772, 674, 0, 0) := by decide +kernel
theorem r_L_law_772 : mv_in k_L_law 772 = some (.iconst 0, 773, 0, 0, 0) := by decide +kernel
theorem r_L_law_773 : mv_in k_L_law 773 = some (.istore 17, 775, 0, 0, 0) := by decide +kernel
theorem r_L_law_775 : mv_in k_L_law 775 = some (.iload 17, 777, 0, 0, 0) := by decide +kernel
theorem r_L_law_777 : mv_in k_L_law 777 = some (.iload_n 3, 778, 0, 0, 0) := by decide +kernel
theorem r_L_law_778 : mv_in k_L_law 778 = some (.if_icmp .ge 37, 781, 815, 0, 0) := by decide +kernel
theorem r_L_law_781 : mv_in k_L_law 781 = some (.iload 15, 783, 0, 0, 0) := by decide +kernel
theorem r_L_law_783 : mv_in k_L_law 783 = some (.aload 13, 785, 0, 0, 0) := by decide +kernel
theorem r_L_law_785 : mv_in k_L_law 785 = some (.iload 17, 787, 0, 0, 0) := by decide +kernel
theorem r_L_law_787 : mv_in k_L_law 787 = some (.iaload, 788, 0, 0, 0) := by decide +kernel
theorem r_L_law_788 : mv_in k_L_law 788 = some (.iadd, 789, 0, 0, 0) := by decide +kernel
theorem r_L_law_789 : mv_in k_L_law 789 = some (.istore 15, 791, 0, 0, 0) := by decide +kernel
theorem r_L_law_791 : mv_in k_L_law 791 = some (.iload 16, 793, 0, 0, 0) := by decide +kernel
theorem r_L_law_793 : mv_in k_L_law 793 = some (.aload 13, 795, 0, 0, 0) := by decide +kernel
theorem r_L_law_795 : mv_in k_L_law 795 = some (.iload 17, 797, 0, 0, 0) := by decide +kernel
theorem r_L_law_797 : mv_in k_L_law 797 = some (.iaload, 798, 0, 0, 0) := by decide +kernel
theorem r_L_law_798 : mv_in k_L_law 798 = some (.ifCond .le 7, 801, 805, 0, 0) := by decide +kernel
theorem r_L_law_801 : mv_in k_L_law 801 = some (.iconst 1, 802, 0, 0, 0) := by decide +kernel
theorem r_L_law_802 : mv_in k_L_law 802 = some (.goto 4, 805, 806, 0, 0) := by decide +kernel
theorem r_L_law_805 : mv_in k_L_law 805 = some (.iconst 0, 806, 0, 0, 0) := by decide +kernel
theorem r_L_law_806 : mv_in k_L_law 806 = some (.iadd, 807, 0, 0, 0) := by decide +kernel
theorem r_L_law_807 : mv_in k_L_law 807 = some (.istore 16, 809, 0, 0, 0) := by decide +kernel
theorem r_L_law_809 : mv_in k_L_law 809 = some (.iinc 17 1, 812, 0, 0, 0) := by decide +kernel
theorem r_L_law_812 : mv_in k_L_law 812 = some (.goto (-37), 815, 775, 0, 0) := by decide +kernel
theorem r_L_law_815 : mv_in k_L_law 815 = some (.aload_n 1, 816, 0, 0, 0) := by decide +kernel
theorem r_L_law_816 : mv_in k_L_law 816 = some (.invokestatic 186, 819, k_L_stepsUntilFlood, 1, 812) := by decide +kernel
theorem r_L_law_819 : mv_in k_L_law 819 = some (.istore 17, 821, 0, 0, 0) := by decide +kernel
theorem r_L_law_821 : mv_in k_L_law 821 = some (.aload_n 1, 822, 0, 0, 0) := by decide +kernel
theorem r_L_law_822 : mv_in k_L_law 822 = some (.iload 8, 824, 0, 0, 0) := by decide +kernel
theorem r_L_law_824 : mv_in k_L_law 824 = some (.iload 7, 826, 0, 0, 0) := by decide +kernel
theorem r_L_law_826 : mv_in k_L_law 826 = some (.invokevirtual 189, 829, k_X10_bestProtection, 3, 690) := by decide +kernel
theorem r_L_law_829 : mv_in k_L_law 829 = some (.iload 14, 831, 0, 0, 0) := by decide +kernel
theorem r_L_law_831 : mv_in k_L_law 831 = some (.if_icmp .ne 191, 834, 1022, 0, 0) := by decide +kernel
theorem r_L_law_834 : mv_in k_L_law 834 = some (.aload_n 1, 835, 0, 0, 0) := by decide +kernel
theorem r_L_law_835 : mv_in k_L_law 835 = some (.iload 8, 837, 0, 0, 0) := by decide +kernel
theorem r_L_law_837 : mv_in k_L_law 837 = some (.iload 7, 839, 0, 0, 0) := by decide +kernel
theorem r_L_law_839 : mv_in k_L_law 839 = some (.invokevirtual 192, 842, k_X10_bestProtectionBySets, 3, 705) := by decide +kernel
theorem r_L_law_842 : mv_in k_L_law 842 = some (.iload 14, 844, 0, 0, 0) := by decide +kernel
theorem r_L_law_844 : mv_in k_L_law 844 = some (.if_icmp .ne 178, 847, 1022, 0, 0) := by decide +kernel
theorem r_L_law_847 : mv_in k_L_law 847 = some (.aload_n 1, 848, 0, 0, 0) := by decide +kernel
theorem r_L_law_848 : mv_in k_L_law 848 = some (.iload 7, 850, 0, 0, 0) := by decide +kernel
theorem r_L_law_850 : mv_in k_L_law 850 = some (.invokevirtual 195, 853, k_X10_bagsForAll, 2, 721) := by decide +kernel
theorem r_L_law_853 : mv_in k_L_law 853 = some (.iload 15, 855, 0, 0, 0) := by decide +kernel
theorem r_L_law_855 : mv_in k_L_law 855 = some (.if_icmp .ne 167, 858, 1022, 0, 0) := by decide +kernel
theorem r_L_law_858 : mv_in k_L_law 858 = some (.aload_n 1, 859, 0, 0, 0) := by decide +kernel
theorem r_L_law_859 : mv_in k_L_law 859 = some (.iload 7, 861, 0, 0, 0) := by decide +kernel
theorem r_L_law_861 : mv_in k_L_law 861 = some (.invokevirtual 198, 864, k_X10_endangered, 2, 677) := by decide +kernel
theorem r_L_law_864 : mv_in k_L_law 864 = some (.iload 16, 866, 0, 0, 0) := by decide +kernel
theorem r_L_law_866 : mv_in k_L_law 866 = some (.if_icmp .ne 156, 869, 1022, 0, 0) := by decide +kernel
theorem r_L_law_869 : mv_in k_L_law 869 = some (.iload 17, 871, 0, 0, 0) := by decide +kernel
theorem r_L_law_871 : mv_in k_L_law 871 = some (.sipush (-30000), 874, 0, 0, 0) := by decide +kernel
theorem r_L_law_874 : mv_in k_L_law 874 = some (.if_icmp .eq 14, 877, 888, 0, 0) := by decide +kernel
theorem r_L_law_877 : mv_in k_L_law 877 = some (.iload 17, 879, 0, 0, 0) := by decide +kernel
theorem r_L_law_879 : mv_in k_L_law 879 = some (.iload 7, 881, 0, 0, 0) := by decide +kernel
theorem r_L_law_881 : mv_in k_L_law 881 = some (.if_icmp .gt 7, 884, 888, 0, 0) := by decide +kernel
theorem r_L_law_884 : mv_in k_L_law 884 = some (.iconst 1, 885, 0, 0, 0) := by decide +kernel
theorem r_L_law_885 : mv_in k_L_law 885 = some (.goto 4, 888, 889, 0, 0) := by decide +kernel
theorem r_L_law_888 : mv_in k_L_law 888 = some (.iconst 0, 889, 0, 0, 0) := by decide +kernel
theorem r_L_law_889 : mv_in k_L_law 889 = some (.iload 16, 891, 0, 0, 0) := by decide +kernel
theorem r_L_law_891 : mv_in k_L_law 891 = some (.ifCond .le 7, 894, 898, 0, 0) := by decide +kernel
theorem r_L_law_894 : mv_in k_L_law 894 = some (.iconst 1, 895, 0, 0, 0) := by decide +kernel
theorem r_L_law_895 : mv_in k_L_law 895 = some (.goto 4, 898, 899, 0, 0) := by decide +kernel
theorem r_L_law_898 : mv_in k_L_law 898 = some (.iconst 0, 899, 0, 0, 0) := by decide +kernel
theorem r_L_law_899 : mv_in k_L_law 899 = some (.if_icmp .ne 123, 902, 1022, 0, 0) := by decide +kernel
theorem r_L_law_902 : mv_in k_L_law 902 = some (.aload_n 1, 903, 0, 0, 0) := by decide +kernel
theorem r_L_law_903 : mv_in k_L_law 903 = some (.invokevirtual 201, 906, k_X10_stored, 1, 474) := by decide +kernel
theorem r_L_law_906 : mv_in k_L_law 906 = some (.iload 4, 908, 0, 0, 0) := by decide +kernel
theorem r_L_law_908 : mv_in k_L_law 908 = some (.if_icmp .ne 114, 911, 1022, 0, 0) := by decide +kernel
theorem r_L_law_911 : mv_in k_L_law 911 = some (.aload_n 1, 912, 0, 0, 0) := by decide +kernel
theorem r_L_law_912 : mv_in k_L_law 912 = some (.invokevirtual 204, 915, k_X10_storedByAccounts, 1, 482) := by decide +kernel
theorem r_L_law_915 : mv_in k_L_law 915 = some (.iload 4, 917, 0, 0, 0) := by decide +kernel
theorem r_L_law_917 : mv_in k_L_law 917 = some (.if_icmp .ne 105, 920, 1022, 0, 0) := by decide +kernel
theorem r_L_law_920 : mv_in k_L_law 920 = some (.aload_n 1, 921, 0, 0, 0) := by decide +kernel
theorem r_L_law_921 : mv_in k_L_law 921 = some (.invokevirtual 207, 924, k_X10_meanFill, 1, 494) := by decide +kernel
theorem r_L_law_924 : mv_in k_L_law 924 = some (.dload 9, 926, 0, 0, 0) := by decide +kernel
theorem r_L_law_926 : mv_in k_L_law 926 = some (.iload_n 3, 927, 0, 0, 0) := by decide +kernel
theorem r_L_law_927 : mv_in k_L_law 927 = some (.i2d, 928, 0, 0, 0) := by decide +kernel
theorem r_L_law_928 : mv_in k_L_law 928 = some (.ddiv, 929, 0, 0, 0) := by decide +kernel
theorem r_L_law_929 : mv_in k_L_law 929 = some (.dcmp .l, 930, 0, 0, 0) := by decide +kernel
theorem r_L_law_930 : mv_in k_L_law 930 = some (.ifCond .ne 92, 933, 1022, 0, 0) := by decide +kernel
theorem r_L_law_933 : mv_in k_L_law 933 = some (.aload_n 1, 934, 0, 0, 0) := by decide +kernel
theorem r_L_law_934 : mv_in k_L_law 934 = some (.invokevirtual 134, 937, k_X10_time, 1, 461) := by decide +kernel
theorem r_L_law_937 : mv_in k_L_law 937 = some (.ifCond .le 20, 940, 957, 0, 0) := by decide +kernel
theorem r_L_law_940 : mv_in k_L_law 940 = some (.aload_n 1, 941, 0, 0, 0) := by decide +kernel
theorem r_L_law_941 : mv_in k_L_law 941 = some (.invokevirtual 211, 944, k_X10_floodShare, 1, 514) := by decide +kernel
theorem r_L_law_944 : mv_in k_L_law 944 = some (.iload 5, 946, 0, 0, 0) := by decide +kernel
theorem r_L_law_946 : mv_in k_L_law 946 = some (.i2f, 947, 0, 0, 0) := by decide +kernel
theorem r_L_law_947 : mv_in k_L_law 947 = some (.aload_n 1, 948, 0, 0, 0) := by decide +kernel
theorem r_L_law_948 : mv_in k_L_law 948 = some (.invokevirtual 134, 951, k_X10_time, 1, 461) := by decide +kernel
theorem r_L_law_951 : mv_in k_L_law 951 = some (.i2f, 952, 0, 0, 0) := by decide +kernel
theorem r_L_law_952 : mv_in k_L_law 952 = some (.fdiv, 953, 0, 0, 0) := by decide +kernel
theorem r_L_law_953 : mv_in k_L_law 953 = some (.fcmp .l, 954, 0, 0, 0) := by decide +kernel
theorem r_L_law_954 : mv_in k_L_law 954 = some (.ifCond .ne 68, 957, 1022, 0, 0) := by decide +kernel
theorem r_L_law_957 : mv_in k_L_law 957 = some (.aload_n 1, 958, 0, 0, 0) := by decide +kernel
theorem r_L_law_958 : mv_in k_L_law 958 = some (.aload_n 1, 959, 0, 0, 0) := by decide +kernel
theorem r_L_law_959 : mv_in k_L_law 959 = some (.invokevirtual 215, 962, k_X10_writeChain, 1, 745) := by decide +kernel
theorem r_L_law_962 : mv_in k_L_law 962 = some (.aload 11, 964, 0, 0, 0) := by decide +kernel
theorem r_L_law_964 : mv_in k_L_law 964 = some (.invokestatic 218, 967, k_L_isLine, 3, 984) := by decide +kernel
theorem r_L_law_967 : mv_in k_L_law 967 = some (.ifCond .eq 55, 970, 1022, 0, 0) := by decide +kernel
theorem r_L_law_970 : mv_in k_L_law 970 = some (.aload_n 1, 971, 0, 0, 0) := by decide +kernel
theorem r_L_law_971 : mv_in k_L_law 971 = some (.aload_n 1, 972, 0, 0, 0) := by decide +kernel
theorem r_L_law_972 : mv_in k_L_law 972 = some (.invokevirtual 222, 975, k_X10_writeForecast, 1, 766) := by decide +kernel
theorem r_L_law_975 : mv_in k_L_law 975 = some (.aload 12, 977, 0, 0, 0) := by decide +kernel
theorem r_L_law_977 : mv_in k_L_law 977 = some (.invokestatic 218, 980, k_L_isLine, 3, 984) := by decide +kernel
theorem r_L_law_980 : mv_in k_L_law 980 = some (.ifCond .eq 42, 983, 1022, 0, 0) := by decide +kernel
theorem r_L_law_983 : mv_in k_L_law 983 = some (.aload_n 1, 984, 0, 0, 0) := by decide +kernel
theorem r_L_law_984 : mv_in k_L_law 984 = some (.iload 6, 986, 0, 0, 0) := by decide +kernel
theorem r_L_law_986 : mv_in k_L_law 986 = some (.invokestatic 225, 989, k_L_rainAt, 2, 809) := by decide +kernel
theorem r_L_law_989 : mv_in k_L_law 989 = some (.sipush (-25000), 992, 0, 0, 0) := by decide +kernel
theorem r_L_law_992 : mv_in k_L_law 992 = some (.if_icmp .ne 30, 995, 1022, 0, 0) := by decide +kernel
theorem r_L_law_995 : mv_in k_L_law 995 = some (.aload_n 1, 996, 0, 0, 0) := by decide +kernel
theorem r_L_law_996 : mv_in k_L_law 996 = some (.iload_n 3, 997, 0, 0, 0) := by decide +kernel
theorem r_L_law_997 : mv_in k_L_law 997 = some (.invokestatic 227, 1000, k_L_basinAtRank, 2, 806) := by decide +kernel
theorem r_L_law_1000 : mv_in k_L_law 1000 = some (.sipush (-30000), 1003, 0, 0, 0) := by decide +kernel
theorem r_L_law_1003 : mv_in k_L_law 1003 = some (.if_icmp .ne 19, 1006, 1022, 0, 0) := by decide +kernel
theorem r_L_law_1006 : mv_in k_L_law 1006 = some (.aload_n 1, 1007, 0, 0, 0) := by decide +kernel
theorem r_L_law_1007 : mv_in k_L_law 1007 = some (.invokevirtual 229, 1010, k_X10_isConsistent, 1, 729) := by decide +kernel
theorem r_L_law_1010 : mv_in k_L_law 1010 = some (.ifCond .eq 12, 1013, 1022, 0, 0) := by decide +kernel
theorem r_L_law_1013 : mv_in k_L_law 1013 = some (.aload_n 1, 1014, 0, 0, 0) := by decide +kernel
theorem r_L_law_1014 : mv_in k_L_law 1014 = some (.invokevirtual 233, 1017, k_X10_riverTotal, 1, 490) := by decide +kernel
theorem r_L_law_1017 : mv_in k_L_law 1017 = some (.lconst 0, 1018, 0, 0, 0) := by decide +kernel
theorem r_L_law_1018 : mv_in k_L_law 1018 = some (.lcmp, 1019, 0, 0, 0) := by decide +kernel
theorem r_L_law_1019 : mv_in k_L_law 1019 = some (.ifCond .ge 5, 1022, 1024, 0, 0) := by decide +kernel
theorem r_L_law_1022 : mv_in k_L_law 1022 = some (.iconst 0, 1023, 0, 0, 0) := by decide +kernel
theorem r_L_law_1023 : mv_in k_L_law 1023 = some (.ireturn, 1024, 1, 0, 0) := by decide +kernel
theorem r_L_law_1024 : mv_in k_L_law 1024 = some (.aload_n 1, 1025, 0, 0, 0) := by decide +kernel
theorem r_L_law_1025 : mv_in k_L_law 1025 = some (.aload_n 0, 1026, 0, 0, 0) := by decide +kernel
theorem r_L_law_1026 : mv_in k_L_law 1026 = some (.bipush 110, 1028, 0, 0, 0) := by decide +kernel
theorem r_L_law_1028 : mv_in k_L_law 1028 = some (.iconst 3, 1029, 0, 0, 0) := by decide +kernel
theorem r_L_law_1029 : mv_in k_L_law 1029 = some (.iload_n 2, 1030, 0, 0, 0) := by decide +kernel
theorem r_L_law_1030 : mv_in k_L_law 1030 = some (.imul, 1031, 0, 0, 0) := by decide +kernel
theorem r_L_law_1031 : mv_in k_L_law 1031 = some (.iadd, 1032, 0, 0, 0) := by decide +kernel
theorem r_L_law_1032 : mv_in k_L_law 1032 = some (.invokestatic 70, 1035, k_L_acts, 3, 931) := by decide +kernel
theorem r_L_law_1035 : mv_in k_L_law 1035 = some (.iinc 2 1, 1038, 0, 0, 0) := by decide +kernel
theorem r_L_law_1038 : mv_in k_L_law 1038 = some (.goto (-1023), 1041, 15, 0, 0) := by decide +kernel
theorem r_L_law_1041 : mv_in k_L_law 1041 = some (.iconst 1, 1042, 0, 0, 0) := by decide +kernel
theorem r_L_law_1042 : mv_in k_L_law 1042 = some (.ireturn, 1043, 1, 0, 0) := by decide +kernel
