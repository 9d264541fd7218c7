/-! THE REFERENCE: plans -/
theorem tb_X11_plans : mv_tb k_X11_plans = t_X11_plans := rfl
theorem r_X11_plans_0 : mv_in k_X11_plans 0 = some (.iload_n 2, 1, 0, 0, 0) := by unfold mv_in; rw [tb_X11_plans]; rfl
theorem r_X11_plans_1 : mv_in k_X11_plans 1 = some (.ifCond .ne 5, 4, 6, 0, 0) := by unfold mv_in; rw [tb_X11_plans]; rfl
theorem r_X11_plans_4 : mv_in k_X11_plans 4 = some (.iconst 0, 5, 0, 0, 0) := by unfold mv_in; rw [tb_X11_plans]; rfl
theorem r_X11_plans_5 : mv_in k_X11_plans 5 = some (.ireturn, 6, 0, 0, 0) := by unfold mv_in; rw [tb_X11_plans]; rfl
theorem r_X11_plans_6 : mv_in k_X11_plans 6 = some (.iconst (-1), 7, 0, 0, 0) := by unfold mv_in; rw [tb_X11_plans]; rfl
theorem r_X11_plans_7 : mv_in k_X11_plans 7 = some (.istore 4, 9, 0, 0, 0) := by unfold mv_in; rw [tb_X11_plans]; rfl
theorem r_X11_plans_9 : mv_in k_X11_plans 9 = some (.iconst 0, 10, 0, 0, 0) := by unfold mv_in; rw [tb_X11_plans]; rfl
theorem r_X11_plans_10 : mv_in k_X11_plans 10 = some (.istore 5, 12, 0, 0, 0) := by unfold mv_in; rw [tb_X11_plans]; rfl
theorem r_X11_plans_12 : mv_in k_X11_plans 12 = some (.aload_n 0, 13, 0, 0, 0) := by unfold mv_in; rw [tb_X11_plans]; rfl
theorem r_X11_plans_13 : mv_in k_X11_plans 13 = some (.iconst 0, 14, 0, 0, 0) := by unfold mv_in; rw [tb_X11_plans]; rfl
theorem r_X11_plans_14 : mv_in k_X11_plans 14 = some (.iload_n 3, 15, 0, 0, 0) := by unfold mv_in; rw [tb_X11_plans]; rfl
theorem r_X11_plans_15 : mv_in k_X11_plans 15 = some (.invokevirtual 33, 18, k_X11_copies, 3, 1327) := by unfold mv_in; rw [tb_X11_plans]; rfl
theorem r_X11_plans_18 : mv_in k_X11_plans 18 = some (.iconst 0, 19, 0, 0, 0) := by unfold mv_in; rw [tb_X11_plans]; rfl
theorem r_X11_plans_19 : mv_in k_X11_plans 19 = some (.istore 6, 21, 0, 0, 0) := by unfold mv_in; rw [tb_X11_plans]; rfl
theorem r_X11_plans_21 : mv_in k_X11_plans 21 = some (.iload 6, 23, 0, 0, 0) := by unfold mv_in; rw [tb_X11_plans]; rfl
theorem r_X11_plans_23 : mv_in k_X11_plans 23 = some (.iconst 5, 24, 0, 0, 0) := by unfold mv_in; rw [tb_X11_plans]; rfl
theorem r_X11_plans_24 : mv_in k_X11_plans 24 = some (.if_icmp .gt 87, 27, 111, 0, 0) := by unfold mv_in; rw [tb_X11_plans]; rfl
theorem r_X11_plans_27 : mv_in k_X11_plans 27 = some (.aload_n 0, 28, 0, 0, 0) := by unfold mv_in; rw [tb_X11_plans]; rfl
theorem r_X11_plans_28 : mv_in k_X11_plans 28 = some (.iload_n 1, 29, 0, 0, 0) := by unfold mv_in; rw [tb_X11_plans]; rfl
theorem r_X11_plans_29 : mv_in k_X11_plans 29 = some (.iconst 4, 30, 0, 0, 0) := by unfold mv_in; rw [tb_X11_plans]; rfl
theorem r_X11_plans_30 : mv_in k_X11_plans 30 = some (.iload 6, 32, 0, 0, 0) := by unfold mv_in; rw [tb_X11_plans]; rfl
theorem r_X11_plans_32 : mv_in k_X11_plans 32 = some (.invokevirtual 51, 35, k_X11_set, 4, 1338) := by unfold mv_in; rw [tb_X11_plans]; rfl
theorem r_X11_plans_35 : mv_in k_X11_plans 35 = some (.aload_n 0, 36, 0, 0, 0) := by unfold mv_in; rw [tb_X11_plans]; rfl
theorem r_X11_plans_36 : mv_in k_X11_plans 36 = some (.invokevirtual 103, 39, k_X11_steps, 1, 1422) := by unfold mv_in; rw [tb_X11_plans]; rfl
theorem r_X11_plans_39 : mv_in k_X11_plans 39 = some (.istore 7, 41, 0, 0, 0) := by unfold mv_in; rw [tb_X11_plans]; rfl
theorem r_X11_plans_41 : mv_in k_X11_plans 41 = some (.iload 7, 43, 0, 0, 0) := by unfold mv_in; rw [tb_X11_plans]; rfl
theorem r_X11_plans_43 : mv_in k_X11_plans 43 = some (.aload_n 0, 44, 0, 0, 0) := by unfold mv_in; rw [tb_X11_plans]; rfl
theorem r_X11_plans_44 : mv_in k_X11_plans 44 = some (.iload_n 1, 45, 0, 0, 0) := by unfold mv_in; rw [tb_X11_plans]; rfl
theorem r_X11_plans_45 : mv_in k_X11_plans 45 = some (.iload_n 2, 46, 0, 0, 0) := by unfold mv_in; rw [tb_X11_plans]; rfl
theorem r_X11_plans_46 : mv_in k_X11_plans 46 = some (.iconst 1, 47, 0, 0, 0) := by unfold mv_in; rw [tb_X11_plans]; rfl
theorem r_X11_plans_47 : mv_in k_X11_plans 47 = some (.isub, 48, 0, 0, 0) := by unfold mv_in; rw [tb_X11_plans]; rfl
theorem r_X11_plans_48 : mv_in k_X11_plans 48 = some (.iload_n 3, 49, 0, 0, 0) := by unfold mv_in; rw [tb_X11_plans]; rfl
theorem r_X11_plans_49 : mv_in k_X11_plans 49 = some (.iconst 1, 50, 0, 0, 0) := by unfold mv_in; rw [tb_X11_plans]; rfl
theorem r_X11_plans_50 : mv_in k_X11_plans 50 = some (.iadd, 51, 0, 0, 0) := by unfold mv_in; rw [tb_X11_plans]; rfl
theorem r_X11_plans_51 : mv_in k_X11_plans 51 = some (.invokevirtual 138, 54, k_X11_plans, 4, 1559) := by unfold mv_in; rw [tb_X11_plans]; rfl
theorem r_X11_plans_54 : mv_in k_X11_plans 54 = some (.iadd, 55, 0, 0, 0) := by unfold mv_in; rw [tb_X11_plans]; rfl
theorem r_X11_plans_55 : mv_in k_X11_plans 55 = some (.istore 8, 57, 0, 0, 0) := by unfold mv_in; rw [tb_X11_plans]; rfl
theorem r_X11_plans_57 : mv_in k_X11_plans 57 = some (.iload 4, 59, 0, 0, 0) := by unfold mv_in; rw [tb_X11_plans]; rfl
theorem r_X11_plans_59 : mv_in k_X11_plans 59 = some (.ifCond .lt 10, 62, 69, 0, 0) := by unfold mv_in; rw [tb_X11_plans]; rfl
theorem r_X11_plans_62 : mv_in k_X11_plans 62 = some (.iload 8, 64, 0, 0, 0) := by unfold mv_in; rw [tb_X11_plans]; rfl
theorem r_X11_plans_64 : mv_in k_X11_plans 64 = some (.iload 4, 66, 0, 0, 0) := by unfold mv_in; rw [tb_X11_plans]; rfl
theorem r_X11_plans_66 : mv_in k_X11_plans 66 = some (.if_icmp .ge 8, 69, 74, 0, 0) := by unfold mv_in; rw [tb_X11_plans]; rfl
theorem r_X11_plans_69 : mv_in k_X11_plans 69 = some (.iload 6, 71, 0, 0, 0) := by unfold mv_in; rw [tb_X11_plans]; rfl
theorem r_X11_plans_71 : mv_in k_X11_plans 71 = some (.goto 5, 74, 76, 0, 0) := by unfold mv_in; rw [tb_X11_plans]; rfl
theorem r_X11_plans_74 : mv_in k_X11_plans 74 = some (.iload 5, 76, 0, 0, 0) := by unfold mv_in; rw [tb_X11_plans]; rfl
theorem r_X11_plans_76 : mv_in k_X11_plans 76 = some (.istore 5, 78, 0, 0, 0) := by unfold mv_in; rw [tb_X11_plans]; rfl
theorem r_X11_plans_78 : mv_in k_X11_plans 78 = some (.iload 4, 80, 0, 0, 0) := by unfold mv_in; rw [tb_X11_plans]; rfl
theorem r_X11_plans_80 : mv_in k_X11_plans 80 = some (.ifCond .lt 10, 83, 90, 0, 0) := by unfold mv_in; rw [tb_X11_plans]; rfl
theorem r_X11_plans_83 : mv_in k_X11_plans 83 = some (.iload 8, 85, 0, 0, 0) := by unfold mv_in; rw [tb_X11_plans]; rfl
theorem r_X11_plans_85 : mv_in k_X11_plans 85 = some (.iload 4, 87, 0, 0, 0) := by unfold mv_in; rw [tb_X11_plans]; rfl
theorem r_X11_plans_87 : mv_in k_X11_plans 87 = some (.if_icmp .ge 8, 90, 95, 0, 0) := by unfold mv_in; rw [tb_X11_plans]; rfl
theorem r_X11_plans_90 : mv_in k_X11_plans 90 = some (.iload 8, 92, 0, 0, 0) := by unfold mv_in; rw [tb_X11_plans]; rfl
theorem r_X11_plans_92 : mv_in k_X11_plans 92 = some (.goto 5, 95, 97, 0, 0) := by unfold mv_in; rw [tb_X11_plans]; rfl
theorem r_X11_plans_95 : mv_in k_X11_plans 95 = some (.iload 4, 97, 0, 0, 0) := by unfold mv_in; rw [tb_X11_plans]; rfl
theorem r_X11_plans_97 : mv_in k_X11_plans 97 = some (.istore 4, 99, 0, 0, 0) := by unfold mv_in; rw [tb_X11_plans]; rfl
theorem r_X11_plans_99 : mv_in k_X11_plans 99 = some (.aload_n 0, 100, 0, 0, 0) := by unfold mv_in; rw [tb_X11_plans]; rfl
theorem r_X11_plans_100 : mv_in k_X11_plans 100 = some (.iload_n 3, 101, 0, 0, 0) := by unfold mv_in; rw [tb_X11_plans]; rfl
theorem r_X11_plans_101 : mv_in k_X11_plans 101 = some (.iconst 0, 102, 0, 0, 0) := by unfold mv_in; rw [tb_X11_plans]; rfl
theorem r_X11_plans_102 : mv_in k_X11_plans 102 = some (.invokevirtual 33, 105, k_X11_copies, 3, 1327) := by unfold mv_in; rw [tb_X11_plans]; rfl
theorem r_X11_plans_105 : mv_in k_X11_plans 105 = some (.iinc 6 1, 108, 0, 0, 0) := by unfold mv_in; rw [tb_X11_plans]; rfl
theorem r_X11_plans_108 : mv_in k_X11_plans 108 = some (.goto (-87), 111, 21, 0, 0) := by unfold mv_in; rw [tb_X11_plans]; rfl
theorem r_X11_plans_111 : mv_in k_X11_plans 111 = some (.aload_n 0, 112, 0, 0, 0) := by unfold mv_in; rw [tb_X11_plans]; rfl
theorem r_X11_plans_112 : mv_in k_X11_plans 112 = some (.iload 5, 114, 0, 0, 0) := by unfold mv_in; rw [tb_X11_plans]; rfl
theorem r_X11_plans_114 : mv_in k_X11_plans 114 = some (.putfield 141, 117, 8, 5, 1271) := by unfold mv_in; rw [tb_X11_plans]; rfl
theorem r_X11_plans_117 : mv_in k_X11_plans 117 = some (.iload 4, 119, 0, 0, 0) := by unfold mv_in; rw [tb_X11_plans]; rfl
theorem r_X11_plans_119 : mv_in k_X11_plans 119 = some (.ireturn, 120, 0, 0, 0) := by unfold mv_in; rw [tb_X11_plans]; rfl
theorem nh_X11_plans : mv_nh k_X11_plans = true := rfl
theorem tb_X11_isPlanned : mv_tb k_X11_isPlanned = t_X11_isPlanned := rfl
theorem r_X11_isPlanned_0 : mv_in k_X11_isPlanned 0 = some (.aload_n 0, 1, 0, 0, 0) := by unfold mv_in; rw [tb_X11_isPlanned]; rfl
theorem r_X11_isPlanned_1 : mv_in k_X11_isPlanned 1 = some (.aload_n 0, 2, 0, 0, 0) := by unfold mv_in; rw [tb_X11_isPlanned]; rfl
theorem r_X11_isPlanned_2 : mv_in k_X11_isPlanned 2 = some (.iload_n 1, 3, 0, 0, 0) := by unfold mv_in; rw [tb_X11_isPlanned]; rfl
theorem r_X11_isPlanned_3 : mv_in k_X11_isPlanned 3 = some (.invokevirtual 77, 6, k_X11_isBasin, 2, 1354) := by unfold mv_in; rw [tb_X11_isPlanned]; rfl
theorem r_X11_isPlanned_6 : mv_in k_X11_isPlanned 6 = some (.ifCond .ne 7, 9, 13, 0, 0) := by unfold mv_in; rw [tb_X11_isPlanned]; rfl
theorem r_X11_isPlanned_9 : mv_in k_X11_isPlanned 9 = some (.iconst 1, 10, 0, 0, 0) := by unfold mv_in; rw [tb_X11_isPlanned]; rfl
theorem r_X11_isPlanned_10 : mv_in k_X11_isPlanned 10 = some (.goto 31, 13, 41, 0, 0) := by unfold mv_in; rw [tb_X11_isPlanned]; rfl
theorem r_X11_isPlanned_13 : mv_in k_X11_isPlanned 13 = some (.iload_n 2, 14, 0, 0, 0) := by unfold mv_in; rw [tb_X11_isPlanned]; rfl
theorem r_X11_isPlanned_14 : mv_in k_X11_isPlanned 14 = some (.iconst 1, 15, 0, 0, 0) := by unfold mv_in; rw [tb_X11_isPlanned]; rfl
theorem r_X11_isPlanned_15 : mv_in k_X11_isPlanned 15 = some (.iconst 4, 16, 0, 0, 0) := by unfold mv_in; rw [tb_X11_isPlanned]; rfl
theorem r_X11_isPlanned_16 : mv_in k_X11_isPlanned 16 = some (.invokestatic 43, 19, k_X11_in, 3, 1335) := by unfold mv_in; rw [tb_X11_isPlanned]; rfl
theorem r_X11_isPlanned_19 : mv_in k_X11_isPlanned 19 = some (.ifCond .ne 7, 22, 26, 0, 0) := by unfold mv_in; rw [tb_X11_isPlanned]; rfl
theorem r_X11_isPlanned_22 : mv_in k_X11_isPlanned 22 = some (.iconst 2, 23, 0, 0, 0) := by unfold mv_in; rw [tb_X11_isPlanned]; rfl
theorem r_X11_isPlanned_23 : mv_in k_X11_isPlanned 23 = some (.goto 18, 26, 41, 0, 0) := by unfold mv_in; rw [tb_X11_isPlanned]; rfl
theorem r_X11_isPlanned_26 : mv_in k_X11_isPlanned 26 = some (.aload_n 0, 27, 0, 0, 0) := by unfold mv_in; rw [tb_X11_isPlanned]; rfl
theorem r_X11_isPlanned_27 : mv_in k_X11_isPlanned 27 = some (.iload_n 1, 28, 0, 0, 0) := by unfold mv_in; rw [tb_X11_isPlanned]; rfl
theorem r_X11_isPlanned_28 : mv_in k_X11_isPlanned 28 = some (.iconst 5, 29, 0, 0, 0) := by unfold mv_in; rw [tb_X11_isPlanned]; rfl
theorem r_X11_isPlanned_29 : mv_in k_X11_isPlanned 29 = some (.invokevirtual 47, 32, k_X11_b, 3, 1358) := by unfold mv_in; rw [tb_X11_isPlanned]; rfl
theorem r_X11_isPlanned_32 : mv_in k_X11_isPlanned 32 = some (.iconst 1, 33, 0, 0, 0) := by unfold mv_in; rw [tb_X11_isPlanned]; rfl
theorem r_X11_isPlanned_33 : mv_in k_X11_isPlanned 33 = some (.if_icmp .ne 7, 36, 40, 0, 0) := by unfold mv_in; rw [tb_X11_isPlanned]; rfl
theorem r_X11_isPlanned_36 : mv_in k_X11_isPlanned 36 = some (.iconst 3, 37, 0, 0, 0) := by unfold mv_in; rw [tb_X11_isPlanned]; rfl
theorem r_X11_isPlanned_37 : mv_in k_X11_isPlanned 37 = some (.goto 4, 40, 41, 0, 0) := by unfold mv_in; rw [tb_X11_isPlanned]; rfl
theorem r_X11_isPlanned_40 : mv_in k_X11_isPlanned 40 = some (.iconst 0, 41, 0, 0, 0) := by unfold mv_in; rw [tb_X11_isPlanned]; rfl
theorem r_X11_isPlanned_41 : mv_in k_X11_isPlanned 41 = some (.putfield 30, 44, 8, 0, 1266) := by unfold mv_in; rw [tb_X11_isPlanned]; rfl
theorem r_X11_isPlanned_44 : mv_in k_X11_isPlanned 44 = some (.aload_n 0, 45, 0, 0, 0) := by unfold mv_in; rw [tb_X11_isPlanned]; rfl
theorem r_X11_isPlanned_45 : mv_in k_X11_isPlanned 45 = some (.getfield 30, 48, 8, 0, 1266) := by unfold mv_in; rw [tb_X11_isPlanned]; rfl
theorem r_X11_isPlanned_48 : mv_in k_X11_isPlanned 48 = some (.ifCond .ne 7, 51, 55, 0, 0) := by unfold mv_in; rw [tb_X11_isPlanned]; rfl
theorem r_X11_isPlanned_51 : mv_in k_X11_isPlanned 51 = some (.iconst 1, 52, 0, 0, 0) := by unfold mv_in; rw [tb_X11_isPlanned]; rfl
theorem r_X11_isPlanned_52 : mv_in k_X11_isPlanned 52 = some (.goto 4, 55, 56, 0, 0) := by unfold mv_in; rw [tb_X11_isPlanned]; rfl
theorem r_X11_isPlanned_55 : mv_in k_X11_isPlanned 55 = some (.iconst 0, 56, 0, 0, 0) := by unfold mv_in; rw [tb_X11_isPlanned]; rfl
theorem r_X11_isPlanned_56 : mv_in k_X11_isPlanned 56 = some (.ireturn, 57, 1, 0, 0) := by unfold mv_in; rw [tb_X11_isPlanned]; rfl
theorem nh_X11_isPlanned : mv_nh k_X11_isPlanned = true := rfl
theorem tb_X11_leastSpill : mv_tb k_X11_leastSpill = t_X11_leastSpill := rfl
theorem r_X11_leastSpill_0 : mv_in k_X11_leastSpill 0 = some (.aload_n 0, 1, 0, 0, 0) := by unfold mv_in; rw [tb_X11_leastSpill]; rfl
theorem r_X11_leastSpill_1 : mv_in k_X11_leastSpill 1 = some (.iload_n 1, 2, 0, 0, 0) := by unfold mv_in; rw [tb_X11_leastSpill]; rfl
theorem r_X11_leastSpill_2 : mv_in k_X11_leastSpill 2 = some (.iload_n 2, 3, 0, 0, 0) := by unfold mv_in; rw [tb_X11_leastSpill]; rfl
theorem r_X11_leastSpill_3 : mv_in k_X11_leastSpill 3 = some (.invokevirtual 144, 6, k_X11_isPlanned, 3, 1555) := by unfold mv_in; rw [tb_X11_leastSpill]; rfl
theorem r_X11_leastSpill_6 : mv_in k_X11_leastSpill 6 = some (.ifCond .eq 14, 9, 20, 0, 0) := by unfold mv_in; rw [tb_X11_leastSpill]; rfl
theorem r_X11_leastSpill_9 : mv_in k_X11_leastSpill 9 = some (.aload_n 0, 10, 0, 0, 0) := by unfold mv_in; rw [tb_X11_leastSpill]; rfl
theorem r_X11_leastSpill_10 : mv_in k_X11_leastSpill 10 = some (.iload_n 1, 11, 0, 0, 0) := by unfold mv_in; rw [tb_X11_leastSpill]; rfl
theorem r_X11_leastSpill_11 : mv_in k_X11_leastSpill 11 = some (.iload_n 2, 12, 0, 0, 0) := by unfold mv_in; rw [tb_X11_leastSpill]; rfl
theorem r_X11_leastSpill_12 : mv_in k_X11_leastSpill 12 = some (.bipush 11, 14, 0, 0, 0) := by unfold mv_in; rw [tb_X11_leastSpill]; rfl
theorem r_X11_leastSpill_14 : mv_in k_X11_leastSpill 14 = some (.invokevirtual 138, 17, k_X11_plans, 4, 1559) := by unfold mv_in; rw [tb_X11_leastSpill]; rfl
theorem r_X11_leastSpill_17 : mv_in k_X11_leastSpill 17 = some (.goto 4, 20, 21, 0, 0) := by unfold mv_in; rw [tb_X11_leastSpill]; rfl
theorem r_X11_leastSpill_20 : mv_in k_X11_leastSpill 20 = some (.iconst 0, 21, 0, 0, 0) := by unfold mv_in; rw [tb_X11_leastSpill]; rfl
theorem r_X11_leastSpill_21 : mv_in k_X11_leastSpill 21 = some (.ireturn, 22, 0, 0, 0) := by unfold mv_in; rw [tb_X11_leastSpill]; rfl
theorem nh_X11_leastSpill : mv_nh k_X11_leastSpill = true := rfl
theorem tb_X11_leastSpillByPruning : mv_tb k_X11_leastSpillByPruning = t_X11_leastSpillByPruning := rfl
theorem r_X11_leastSpillByPruning_0 : mv_in k_X11_leastSpillByPruning 0 = some (.aload_n 0, 1, 0, 0, 0) := by unfold mv_in; rw [tb_X11_leastSpillByPruning]; rfl
theorem r_X11_leastSpillByPruning_1 : mv_in k_X11_leastSpillByPruning 1 = some (.iload_n 1, 2, 0, 0, 0) := by unfold mv_in; rw [tb_X11_leastSpillByPruning]; rfl
theorem r_X11_leastSpillByPruning_2 : mv_in k_X11_leastSpillByPruning 2 = some (.iload_n 2, 3, 0, 0, 0) := by unfold mv_in; rw [tb_X11_leastSpillByPruning]; rfl
theorem r_X11_leastSpillByPruning_3 : mv_in k_X11_leastSpillByPruning 3 = some (.invokevirtual 147, 6, k_X11_leastSpill, 3, 1567) := by unfold mv_in; rw [tb_X11_leastSpillByPruning]; rfl
theorem r_X11_leastSpillByPruning_6 : mv_in k_X11_leastSpillByPruning 6 = some (.ireturn, 7, 0, 0, 0) := by unfold mv_in; rw [tb_X11_leastSpillByPruning]; rfl
theorem nh_X11_leastSpillByPruning : mv_nh k_X11_leastSpillByPruning = true := rfl
theorem tb_X11_bestOpening : mv_tb k_X11_bestOpening = t_X11_bestOpening := rfl
theorem r_X11_bestOpening_0 : mv_in k_X11_bestOpening 0 = some (.aload_n 0, 1, 0, 0, 0) := by unfold mv_in; rw [tb_X11_bestOpening]; rfl
theorem r_X11_bestOpening_1 : mv_in k_X11_bestOpening 1 = some (.iload_n 1, 2, 0, 0, 0) := by unfold mv_in; rw [tb_X11_bestOpening]; rfl
theorem r_X11_bestOpening_2 : mv_in k_X11_bestOpening 2 = some (.iload_n 2, 3, 0, 0, 0) := by unfold mv_in; rw [tb_X11_bestOpening]; rfl
theorem r_X11_bestOpening_3 : mv_in k_X11_bestOpening 3 = some (.invokevirtual 147, 6, k_X11_leastSpill, 3, 1567) := by unfold mv_in; rw [tb_X11_bestOpening]; rfl
theorem r_X11_bestOpening_6 : mv_in k_X11_bestOpening 6 = some (.istore_n 3, 7, 0, 0, 0) := by unfold mv_in; rw [tb_X11_bestOpening]; rfl
theorem r_X11_bestOpening_7 : mv_in k_X11_bestOpening 7 = some (.aload_n 0, 8, 0, 0, 0) := by unfold mv_in; rw [tb_X11_bestOpening]; rfl
theorem r_X11_bestOpening_8 : mv_in k_X11_bestOpening 8 = some (.getfield 30, 11, 8, 0, 1266) := by unfold mv_in; rw [tb_X11_bestOpening]; rfl
theorem r_X11_bestOpening_11 : mv_in k_X11_bestOpening 11 = some (.ifCond .ne 10, 14, 21, 0, 0) := by unfold mv_in; rw [tb_X11_bestOpening]; rfl
theorem r_X11_bestOpening_14 : mv_in k_X11_bestOpening 14 = some (.aload_n 0, 15, 0, 0, 0) := by unfold mv_in; rw [tb_X11_bestOpening]; rfl
theorem r_X11_bestOpening_15 : mv_in k_X11_bestOpening 15 = some (.getfield 141, 18, 8, 5, 1271) := by unfold mv_in; rw [tb_X11_bestOpening]; rfl
theorem r_X11_bestOpening_18 : mv_in k_X11_bestOpening 18 = some (.goto 4, 21, 22, 0, 0) := by unfold mv_in; rw [tb_X11_bestOpening]; rfl
theorem r_X11_bestOpening_21 : mv_in k_X11_bestOpening 21 = some (.iconst 0, 22, 0, 0, 0) := by unfold mv_in; rw [tb_X11_bestOpening]; rfl
theorem r_X11_bestOpening_22 : mv_in k_X11_bestOpening 22 = some (.ireturn, 23, 0, 0, 0) := by unfold mv_in; rw [tb_X11_bestOpening]; rfl
theorem nh_X11_bestOpening : mv_nh k_X11_bestOpening = true := rfl
section KV
variable {L : Nat} {xs : Nat → Int32}
theorem kv_X11_plans {v0 : Int32} {v1 : Int32} {v2 : Int32} {q nx w : Nat} {ls : mv_V} {st : List Value} {t : Nat} {h : mv_H} : mv_stp L xs (.invokevirtual q, nx, k_X11_plans, 4, w) ls (.int v2 :: .int v1 :: .int v0 :: .ref 142 :: st) (t, 149, h) = if mv_cs st ≤ 8 then some (.inr (.inr (k_X11_plans, [.ref 142, .int v0, .int v1, .int v2], st))) else none := by
  exact cl_any (nx := nx) (ls := ls) (kk := 1) (as := [.ref 142, .int v0, .int v1, .int v2]) (by decide) rfl rfl (.inr ((by decide : mv_is 149 142 8 = true)))
theorem kv_X11_isPlanned {v0 : Int32} {v1 : Int32} {q nx w : Nat} {ls : mv_V} {st : List Value} {t : Nat} {h : mv_H} : mv_stp L xs (.invokevirtual q, nx, k_X11_isPlanned, 3, w) ls (.int v1 :: .int v0 :: .ref 142 :: st) (t, 149, h) = if mv_cs st ≤ 8 then some (.inr (.inr (k_X11_isPlanned, [.ref 142, .int v0, .int v1], st))) else none := by
  exact cl_any (nx := nx) (ls := ls) (kk := 1) (as := [.ref 142, .int v0, .int v1]) (by decide) rfl rfl (.inr ((by decide : mv_is 149 142 8 = true)))
theorem kv_X11_leastSpill {v0 : Int32} {v1 : Int32} {q nx w : Nat} {ls : mv_V} {st : List Value} {t : Nat} {h : mv_H} : mv_stp L xs (.invokevirtual q, nx, k_X11_leastSpill, 3, w) ls (.int v1 :: .int v0 :: .ref 142 :: st) (t, 149, h) = if mv_cs st ≤ 8 then some (.inr (.inr (k_X11_leastSpill, [.ref 142, .int v0, .int v1], st))) else none := by
  exact cl_any (nx := nx) (ls := ls) (kk := 1) (as := [.ref 142, .int v0, .int v1]) (by decide) rfl rfl (.inr ((by decide : mv_is 149 142 8 = true)))
theorem kv_X11_leastSpillByPruning {v0 : Int32} {v1 : Int32} {q nx w : Nat} {ls : mv_V} {st : List Value} {t : Nat} {h : mv_H} : mv_stp L xs (.invokevirtual q, nx, k_X11_leastSpillByPruning, 3, w) ls (.int v1 :: .int v0 :: .ref 142 :: st) (t, 149, h) = if mv_cs st ≤ 8 then some (.inr (.inr (k_X11_leastSpillByPruning, [.ref 142, .int v0, .int v1], st))) else none := by
  exact cl_any (nx := nx) (ls := ls) (kk := 1) (as := [.ref 142, .int v0, .int v1]) (by decide) rfl rfl (.inr ((by decide : mv_is 149 142 8 = true)))
theorem kv_X11_bestOpening {v0 : Int32} {v1 : Int32} {q nx w : Nat} {ls : mv_V} {st : List Value} {t : Nat} {h : mv_H} : mv_stp L xs (.invokevirtual q, nx, k_X11_bestOpening, 3, w) ls (.int v1 :: .int v0 :: .ref 142 :: st) (t, 149, h) = if mv_cs st ≤ 8 then some (.inr (.inr (k_X11_bestOpening, [.ref 142, .int v0, .int v1], st))) else none := by
  exact cl_any (nx := nx) (ls := ls) (kk := 1) (as := [.ref 142, .int v0, .int v1]) (by decide) rfl rfl (.inr ((by decide : mv_is 149 142 8 = true)))
end KV
theorem zq_0 : (((1010 : Nat) : Int) - 1010) = 0 := rfl
theorem zq_1 : (((1011 : Nat) : Int) - 1010) = 1 := rfl
theorem zq_2 : (((1012 : Nat) : Int) - 1010) = 2 := rfl
theorem zq_3 : (((1013 : Nat) : Int) - 1010) = 3 := rfl
section RF6
variable {L : Nat} {xs : Nat → Int32} {d t : Nat} {T : zT} {A B C F : Int → Int}
def rOff (row l : Int) (A X : Int → Int) : Prop := ∀ j, ¬ (63 * row ≤ j ∧ j < 63 * (row + l)) → X j = A j
theorem lp_X11_plans {l : Nat} {row b : Int} (hd : l + 4 ≤ d) (hr : 11 ≤ row) (hr2 : row + l + 1 ≤ 17) (hl : l ≤ 3) (hA : zWF A 99) (hC : zWF C 99) (hL : zL C A) (hb0 : 0 ≤ b) (hb : b < A 0)
    (ihl : ∀ (A C F : Int → Int), zWF A 99 → zWF C 99 → zL C A → b < A 0 → ∃ A', rOff (row + 1) l A A' ∧ mv_cl L xs d k_X11_plans [.ref 142, .int (Int32.ofInt b), .int (Int32.ofInt l), .int (Int32.ofInt (row + 1))] (t, 149, mz (sD (sD T 142 F) 143 A)) = some (.inl (some (.int (Int32.ofInt (zPl l C b)))), (t, 149, mz (sD (sD T 142 (if l = 0 then F else upR F 5 (zPa (l - 1) C b))) 143 A')))) :
    ∀ (n : Nat) (o least best m : Int) (Ai Fi : Int → Int), 0 ≤ o → o + n = 6 → rOff row (l + 1) A Ai → (∀ j, 0 ≤ j → j < 63 → Ai (j + 63 * row) = A j) → (∀ v, upR Fi 5 v = upR F 5 v) → ((o = 0 ∧ least = -1 ∧ m = 1000000) ∨ (0 < o ∧ least = m ∧ 0 ≤ m ∧ m ≤ 10000)) →
    ∃ A', rOff row (l + 1) A A' ∧ mv_Ev L xs (mv_cl L xs d) k_X11_plans 21 [(6, .int (Int32.ofInt o)), (5, .int (Int32.ofInt best)), (4, .int (Int32.ofInt least)), (0, .ref 142), (1, .int (Int32.ofInt b)), (2, .int (Int32.ofInt (l + 1))), (3, .int (Int32.ofInt row))] [] (t, 149, mz (sD (sD T 142 Fi) 143 Ai)) (.inl (some (.int (Int32.ofInt (zMn (fun o => zStv (zOp b o C) + zPl l (zSt (zOp b o C)) b) n o m)))), (t, 149, mz (sD (sD T 142 (upR F 5 (zAr (fun o => zStv (zOp b o C) + zPl l (zSt (zOp b o C)) b) n o m best))) 143 A'))) := by
  intro n
  induction n with
  | zero =>
    intro o least best m Ai Fi h0 hn hoff hrow hF hm
    have e : least = m := by omega
    have hF1 := hF best
    refine ⟨Ai, hoff, ?_⟩
    simp (disch := omega) only [mv_Ev_row r_X11_plans_0, mv_Ev_row r_X11_plans_1, mv_Ev_row r_X11_plans_4, mv_Ev_row r_X11_plans_5, mv_Ev_row r_X11_plans_6, mv_Ev_row r_X11_plans_7, mv_Ev_row r_X11_plans_9, mv_Ev_row r_X11_plans_10, mv_Ev_row r_X11_plans_12, mv_Ev_row r_X11_plans_13, mv_Ev_row r_X11_plans_14, mv_Ev_row r_X11_plans_15, mv_Ev_row r_X11_plans_18, mv_Ev_row r_X11_plans_19, mv_Ev_row r_X11_plans_21, mv_Ev_row r_X11_plans_23, mv_Ev_row r_X11_plans_24, mv_Ev_row r_X11_plans_27, mv_Ev_row r_X11_plans_28, mv_Ev_row r_X11_plans_29, mv_Ev_row r_X11_plans_30, mv_Ev_row r_X11_plans_32, mv_Ev_row r_X11_plans_35, mv_Ev_row r_X11_plans_36, mv_Ev_row r_X11_plans_39, mv_Ev_row r_X11_plans_41, mv_Ev_row r_X11_plans_43, mv_Ev_row r_X11_plans_44, mv_Ev_row r_X11_plans_45, mv_Ev_row r_X11_plans_46, mv_Ev_row r_X11_plans_47, mv_Ev_row r_X11_plans_48, mv_Ev_row r_X11_plans_49, mv_Ev_row r_X11_plans_50, mv_Ev_row r_X11_plans_51, mv_Ev_row r_X11_plans_54, mv_Ev_row r_X11_plans_55, mv_Ev_row r_X11_plans_57, mv_Ev_row r_X11_plans_59, mv_Ev_row r_X11_plans_62, mv_Ev_row r_X11_plans_64, mv_Ev_row r_X11_plans_66, mv_Ev_row r_X11_plans_69, mv_Ev_row r_X11_plans_71, mv_Ev_row r_X11_plans_74, mv_Ev_row r_X11_plans_76, mv_Ev_row r_X11_plans_78, mv_Ev_row r_X11_plans_80, mv_Ev_row r_X11_plans_83, mv_Ev_row r_X11_plans_85, mv_Ev_row r_X11_plans_87, mv_Ev_row r_X11_plans_90, mv_Ev_row r_X11_plans_92, mv_Ev_row r_X11_plans_95, mv_Ev_row r_X11_plans_97, mv_Ev_row r_X11_plans_99, mv_Ev_row r_X11_plans_100, mv_Ev_row r_X11_plans_101, mv_Ev_row r_X11_plans_102, mv_Ev_row r_X11_plans_105, mv_Ev_row r_X11_plans_108, mv_Ev_row r_X11_plans_111, mv_Ev_row r_X11_plans_112, mv_Ev_row r_X11_plans_114, mv_Ev_row r_X11_plans_117, mv_Ev_row r_X11_plans_119, ea_iload_n, ea_ifc, ea_iconst, ea_ireturn, ez_ret, ez_retc, ea_istore, ea_aload_n, kv_X11_copies, ea_iload, ea_icmp, kv_X11_set, kv_X11_steps, ea_isub, ea_iadd, kv_X11_plans, ea_goto, ea_iinc, eb_inc, pp_8_5, cz_eq, cz_ne, cz_lt, cz_ge, cz_gt, cz_le, c0_eq, c0_ne, c0_lt, c0_ge, c0_gt, c0_le, mv_ac, decide_eq_true_eq, not_true_eq_false, and_self, and_true, true_and, ea_2n, ea_2f, ea_2c, ea_if, if_pos, if_neg, mv_lk, mv_f1, mv_f2, Value.category, List.filter, ↓reduceIte, Nat.reduceEqDiff, Nat.reduceAdd, Nat.reduceLT, Nat.reduceBEq, Nat.zero_add, Nat.add_zero, Nat.zero_ne_one, Nat.one_ne_zero, Bool.not_true, Bool.not_false, Bool.and_true, Bool.true_and, Bool.and_false, Bool.false_and, BEq.rfl, beq_self_eq_true, Bool.false_eq_true, reduceCtorEq, not_false_eq_true, fv0, fv1, fv2, fv3, eb_l0, eb_l1, eb_l2, eb_l3, eb_l4, eb_l5, eb_s0, eb_s1, eb_s2, eb_s3, eb_s4, eb_s5, oz_add, oz_sub, oz_mul, oz_neg, ol_add, ol_sub, sD_eq, sD_sD, sD_ne, sD_in, sD_in2, sD_in3, upR_is, upR_ne, mk_v, mk_n, mk_x, mk_i, mv_cs, Nat.reduceLeDiff, mv_ch_z, nh_X11_plans, zMn, zAr, hF1, e]
  | succ n ih =>
    intro o least best m Ai Fi h0 hn hoff hrow hF hm
    have c5 := hC.2.1
    have c0 := hL.1
    have hAi : zWF Ai 99 := zWF_on hA (fun j h1 h2 => hoff j (by omega))
    have hLi : zL C Ai := zL_on hL c5 hC.2.2.2.1 (fun j h1 h2 => hoff j (by omega))
    have a0 : Ai 0 = A 0 := hoff 0 (by omega)
    have hA2 : zWF (zOp b o Ai) 99 := zWF_op hAi hb0 (by omega) h0 (by omega)
    have hC2 : zWF (zOp b o C) 99 := zWF_op hC hb0 (by omega) h0 (by omega)
    have hL2 : zL (zOp b o C) (zOp b o Ai) := zL_op hLi c5 hb0 (by omega)
    obtain ⟨hL3, hv⟩ := zL_step hC2 hA2 hL2
    have hA3 := rSt_wf1 hA2
    have hC3 := zSt_wf hC2
    have z0 : zSt (zOp b o C) 0 = C 0 := by rw [zSt_0 hC2.2.1]; unfold zOp; rw [upR_ne _ _ (by omega)]
    have r0 : rSt (zOp b o Ai) 0 = A 0 := by rw [← hL3.1, z0, c0]
    obtain ⟨A4, h4, hp⟩ := ihl (rSt (zOp b o Ai)) (zSt (zOp b o C)) Fi hA3 hC3 hL3 (by omega)
    have q := fun T => c_X11_steps (L := L) (xs := xs) (t := t) (T := T) (d := d) (by omega) hA2
    rw [show zOp b o Ai = upR Ai (6 + 9 * b + 4) o from rfl] at hp q hv
    have hbd := zPl_bd l hC3 hb0 (by omega)
    have hst := zStv_bd hC2
    have hi4 : ∀ j, ¬ (0 ≤ j ∧ j < 63) → ¬ (63 * (row + 1) ≤ j ∧ j < 63 * (row + 1 + l)) → A4 j = Ai j := fun j h1 h2 => by
      rw [h4 j h2, rSt_hi hA2 h1]
      exact upR_ne _ _ (by omega)
    have hoff5 : rOff row (l + 1) A (rCp row 0 A4) := by
      intro j hj
      by_cases h1 : 0 ≤ j ∧ j < 63
      · rw [rCp_is row 0 _ (by omega) (by omega), hi4 _ (by omega) (by omega), show j - 63 * 0 + 63 * row = j + 63 * row by omega]
        exact hrow j h1.1 h1.2
      · rw [rCp_ne row 0 _ (by omega), hi4 j h1 (by omega)]
        exact hoff j hj
    have hrow5 : ∀ j, 0 ≤ j → j < 63 → rCp row 0 A4 (j + 63 * row) = A j := by
      intro j h1 h2
      rw [rCp_ne row 0 _ (by omega), hi4 _ (by omega) (by omega)]
      exact hrow j h1 h2
    have hF5 : ∀ v, upR (if l = 0 then Fi else upR Fi 5 (zPa (l - 1) (zSt (zOp b o C)) b)) 5 v = upR F 5 v := by
      intro v
      split
      · exact hF v
      · rw [upR_up]; exact hF v
    have hIH := fun least best m => ih (o + 1) least best m (rCp row 0 A4) (if l = 0 then Fi else upR Fi 5 (zPa (l - 1) (zSt (zOp b o C)) b)) (by omega) (by omega) hoff5 hrow5 hF5
    by_cases hlt : zStv (zOp b o C) + zPl l (zSt (zOp b o C)) b < m
    · obtain ⟨A', h6, h7⟩ := hIH (zStv (zOp b o C) + zPl l (zSt (zOp b o C)) b) o (zStv (zOp b o C) + zPl l (zSt (zOp b o C)) b) (.inr (by omega))
      refine ⟨A', h6, ?_⟩
      rw [zMn, zAr, show min m ((fun o => zStv (zOp b o C) + zPl l (zSt (zOp b o C)) b) o) = zStv (zOp b o C) + zPl l (zSt (zOp b o C)) b from Int.min_eq_right (by show zStv (zOp b o C) + zPl l (zSt (zOp b o C)) b ≤ m; omega), if_pos hlt]
      rw [mv_Ev_row r_X11_plans_21]
      rcases hm with ⟨m1, m2, m3⟩ | ⟨m1, m2, m3, m4⟩
      · subst m2
        simp (disch := omega) only [mv_Ev_row r_X11_plans_0, mv_Ev_row r_X11_plans_1, mv_Ev_row r_X11_plans_4, mv_Ev_row r_X11_plans_5, mv_Ev_row r_X11_plans_6, mv_Ev_row r_X11_plans_7, mv_Ev_row r_X11_plans_9, mv_Ev_row r_X11_plans_10, mv_Ev_row r_X11_plans_12, mv_Ev_row r_X11_plans_13, mv_Ev_row r_X11_plans_14, mv_Ev_row r_X11_plans_15, mv_Ev_row r_X11_plans_18, mv_Ev_row r_X11_plans_19, mv_Ev_row r_X11_plans_23, mv_Ev_row r_X11_plans_24, mv_Ev_row r_X11_plans_27, mv_Ev_row r_X11_plans_28, mv_Ev_row r_X11_plans_29, mv_Ev_row r_X11_plans_30, mv_Ev_row r_X11_plans_32, mv_Ev_row r_X11_plans_35, mv_Ev_row r_X11_plans_36, mv_Ev_row r_X11_plans_39, mv_Ev_row r_X11_plans_41, mv_Ev_row r_X11_plans_43, mv_Ev_row r_X11_plans_44, mv_Ev_row r_X11_plans_45, mv_Ev_row r_X11_plans_46, mv_Ev_row r_X11_plans_47, mv_Ev_row r_X11_plans_48, mv_Ev_row r_X11_plans_49, mv_Ev_row r_X11_plans_50, mv_Ev_row r_X11_plans_51, mv_Ev_row r_X11_plans_54, mv_Ev_row r_X11_plans_55, mv_Ev_row r_X11_plans_57, mv_Ev_row r_X11_plans_59, mv_Ev_row r_X11_plans_62, mv_Ev_row r_X11_plans_64, mv_Ev_row r_X11_plans_66, mv_Ev_row r_X11_plans_69, mv_Ev_row r_X11_plans_71, mv_Ev_row r_X11_plans_74, mv_Ev_row r_X11_plans_76, mv_Ev_row r_X11_plans_78, mv_Ev_row r_X11_plans_80, mv_Ev_row r_X11_plans_83, mv_Ev_row r_X11_plans_85, mv_Ev_row r_X11_plans_87, mv_Ev_row r_X11_plans_90, mv_Ev_row r_X11_plans_92, mv_Ev_row r_X11_plans_95, mv_Ev_row r_X11_plans_97, mv_Ev_row r_X11_plans_99, mv_Ev_row r_X11_plans_100, mv_Ev_row r_X11_plans_101, mv_Ev_row r_X11_plans_102, mv_Ev_row r_X11_plans_105, mv_Ev_row r_X11_plans_108, mv_Ev_row r_X11_plans_111, mv_Ev_row r_X11_plans_112, mv_Ev_row r_X11_plans_114, mv_Ev_row r_X11_plans_117, mv_Ev_row r_X11_plans_119, ea_iload_n, ea_ifc, ea_iconst, ea_ireturn, ez_ret, ez_retc, ea_istore, ea_aload_n, kv_X11_copies, ea_iload, ea_icmp, kv_X11_set, kv_X11_steps, ea_isub, ea_iadd, kv_X11_plans, ea_goto, ea_iinc, eb_inc, pp_8_5, cz_eq, cz_ne, cz_lt, cz_ge, cz_gt, cz_le, c0_eq, c0_ne, c0_lt, c0_ge, c0_gt, c0_le, mv_ac, decide_eq_true_eq, not_true_eq_false, and_self, and_true, true_and, ea_2n, ea_2f, ea_2c, ea_if, if_pos, if_neg, mv_lk, mv_f1, mv_f2, Value.category, List.filter, ↓reduceIte, Nat.reduceEqDiff, Nat.reduceAdd, Nat.reduceLT, Nat.reduceBEq, Nat.zero_add, Nat.add_zero, Nat.zero_ne_one, Nat.one_ne_zero, Bool.not_true, Bool.not_false, Bool.and_true, Bool.true_and, Bool.and_false, Bool.false_and, BEq.rfl, beq_self_eq_true, Bool.false_eq_true, reduceCtorEq, not_false_eq_true, fv0, fv1, fv2, fv3, eb_l0, eb_l1, eb_l2, eb_l3, eb_l4, eb_l5, eb_s0, eb_s1, eb_s2, eb_s3, eb_s4, eb_s5, oz_add, oz_sub, oz_mul, oz_neg, ol_add, ol_sub, sD_eq, sD_sD, sD_ne, sD_in, sD_in2, sD_in3, upR_is, upR_ne, mk_v, mk_n, mk_x, mk_i, mv_cs, Nat.reduceLeDiff, mv_ch_z, nh_X11_plans, c_X11_set, q, Int.add_sub_cancel, hp, c_X11_copies, ← hv]
        exact mv_Es h7
      · subst m2
        simp (disch := omega) only [mv_Ev_row r_X11_plans_0, mv_Ev_row r_X11_plans_1, mv_Ev_row r_X11_plans_4, mv_Ev_row r_X11_plans_5, mv_Ev_row r_X11_plans_6, mv_Ev_row r_X11_plans_7, mv_Ev_row r_X11_plans_9, mv_Ev_row r_X11_plans_10, mv_Ev_row r_X11_plans_12, mv_Ev_row r_X11_plans_13, mv_Ev_row r_X11_plans_14, mv_Ev_row r_X11_plans_15, mv_Ev_row r_X11_plans_18, mv_Ev_row r_X11_plans_19, mv_Ev_row r_X11_plans_23, mv_Ev_row r_X11_plans_24, mv_Ev_row r_X11_plans_27, mv_Ev_row r_X11_plans_28, mv_Ev_row r_X11_plans_29, mv_Ev_row r_X11_plans_30, mv_Ev_row r_X11_plans_32, mv_Ev_row r_X11_plans_35, mv_Ev_row r_X11_plans_36, mv_Ev_row r_X11_plans_39, mv_Ev_row r_X11_plans_41, mv_Ev_row r_X11_plans_43, mv_Ev_row r_X11_plans_44, mv_Ev_row r_X11_plans_45, mv_Ev_row r_X11_plans_46, mv_Ev_row r_X11_plans_47, mv_Ev_row r_X11_plans_48, mv_Ev_row r_X11_plans_49, mv_Ev_row r_X11_plans_50, mv_Ev_row r_X11_plans_51, mv_Ev_row r_X11_plans_54, mv_Ev_row r_X11_plans_55, mv_Ev_row r_X11_plans_57, mv_Ev_row r_X11_plans_59, mv_Ev_row r_X11_plans_62, mv_Ev_row r_X11_plans_64, mv_Ev_row r_X11_plans_66, mv_Ev_row r_X11_plans_69, mv_Ev_row r_X11_plans_71, mv_Ev_row r_X11_plans_74, mv_Ev_row r_X11_plans_76, mv_Ev_row r_X11_plans_78, mv_Ev_row r_X11_plans_80, mv_Ev_row r_X11_plans_83, mv_Ev_row r_X11_plans_85, mv_Ev_row r_X11_plans_87, mv_Ev_row r_X11_plans_90, mv_Ev_row r_X11_plans_92, mv_Ev_row r_X11_plans_95, mv_Ev_row r_X11_plans_97, mv_Ev_row r_X11_plans_99, mv_Ev_row r_X11_plans_100, mv_Ev_row r_X11_plans_101, mv_Ev_row r_X11_plans_102, mv_Ev_row r_X11_plans_105, mv_Ev_row r_X11_plans_108, mv_Ev_row r_X11_plans_111, mv_Ev_row r_X11_plans_112, mv_Ev_row r_X11_plans_114, mv_Ev_row r_X11_plans_117, mv_Ev_row r_X11_plans_119, ea_iload_n, ea_ifc, ea_iconst, ea_ireturn, ez_ret, ez_retc, ea_istore, ea_aload_n, kv_X11_copies, ea_iload, ea_icmp, kv_X11_set, kv_X11_steps, ea_isub, ea_iadd, kv_X11_plans, ea_goto, ea_iinc, eb_inc, pp_8_5, cz_eq, cz_ne, cz_lt, cz_ge, cz_gt, cz_le, c0_eq, c0_ne, c0_lt, c0_ge, c0_gt, c0_le, mv_ac, decide_eq_true_eq, not_true_eq_false, and_self, and_true, true_and, ea_2n, ea_2f, ea_2c, ea_if, if_pos, if_neg, mv_lk, mv_f1, mv_f2, Value.category, List.filter, ↓reduceIte, Nat.reduceEqDiff, Nat.reduceAdd, Nat.reduceLT, Nat.reduceBEq, Nat.zero_add, Nat.add_zero, Nat.zero_ne_one, Nat.one_ne_zero, Bool.not_true, Bool.not_false, Bool.and_true, Bool.true_and, Bool.and_false, Bool.false_and, BEq.rfl, beq_self_eq_true, Bool.false_eq_true, reduceCtorEq, not_false_eq_true, fv0, fv1, fv2, fv3, eb_l0, eb_l1, eb_l2, eb_l3, eb_l4, eb_l5, eb_s0, eb_s1, eb_s2, eb_s3, eb_s4, eb_s5, oz_add, oz_sub, oz_mul, oz_neg, ol_add, ol_sub, sD_eq, sD_sD, sD_ne, sD_in, sD_in2, sD_in3, upR_is, upR_ne, mk_v, mk_n, mk_x, mk_i, mv_cs, Nat.reduceLeDiff, mv_ch_z, nh_X11_plans, c_X11_set, q, Int.add_sub_cancel, hp, c_X11_copies, ← hv]
        exact mv_Es h7
    · rcases hm with ⟨m1, m2, m3⟩ | ⟨m1, m2, m3, m4⟩
      · exfalso; omega
      · subst m2
        obtain ⟨A', h6, h7⟩ := hIH least best least (.inr (by omega))
        refine ⟨A', h6, ?_⟩
        rw [zMn, zAr, show min least ((fun o => zStv (zOp b o C) + zPl l (zSt (zOp b o C)) b) o) = least from Int.min_eq_left (by show least ≤ zStv (zOp b o C) + zPl l (zSt (zOp b o C)) b; omega), if_neg hlt]
        rw [mv_Ev_row r_X11_plans_21]
        simp (disch := omega) only [mv_Ev_row r_X11_plans_0, mv_Ev_row r_X11_plans_1, mv_Ev_row r_X11_plans_4, mv_Ev_row r_X11_plans_5, mv_Ev_row r_X11_plans_6, mv_Ev_row r_X11_plans_7, mv_Ev_row r_X11_plans_9, mv_Ev_row r_X11_plans_10, mv_Ev_row r_X11_plans_12, mv_Ev_row r_X11_plans_13, mv_Ev_row r_X11_plans_14, mv_Ev_row r_X11_plans_15, mv_Ev_row r_X11_plans_18, mv_Ev_row r_X11_plans_19, mv_Ev_row r_X11_plans_23, mv_Ev_row r_X11_plans_24, mv_Ev_row r_X11_plans_27, mv_Ev_row r_X11_plans_28, mv_Ev_row r_X11_plans_29, mv_Ev_row r_X11_plans_30, mv_Ev_row r_X11_plans_32, mv_Ev_row r_X11_plans_35, mv_Ev_row r_X11_plans_36, mv_Ev_row r_X11_plans_39, mv_Ev_row r_X11_plans_41, mv_Ev_row r_X11_plans_43, mv_Ev_row r_X11_plans_44, mv_Ev_row r_X11_plans_45, mv_Ev_row r_X11_plans_46, mv_Ev_row r_X11_plans_47, mv_Ev_row r_X11_plans_48, mv_Ev_row r_X11_plans_49, mv_Ev_row r_X11_plans_50, mv_Ev_row r_X11_plans_51, mv_Ev_row r_X11_plans_54, mv_Ev_row r_X11_plans_55, mv_Ev_row r_X11_plans_57, mv_Ev_row r_X11_plans_59, mv_Ev_row r_X11_plans_62, mv_Ev_row r_X11_plans_64, mv_Ev_row r_X11_plans_66, mv_Ev_row r_X11_plans_69, mv_Ev_row r_X11_plans_71, mv_Ev_row r_X11_plans_74, mv_Ev_row r_X11_plans_76, mv_Ev_row r_X11_plans_78, mv_Ev_row r_X11_plans_80, mv_Ev_row r_X11_plans_83, mv_Ev_row r_X11_plans_85, mv_Ev_row r_X11_plans_87, mv_Ev_row r_X11_plans_90, mv_Ev_row r_X11_plans_92, mv_Ev_row r_X11_plans_95, mv_Ev_row r_X11_plans_97, mv_Ev_row r_X11_plans_99, mv_Ev_row r_X11_plans_100, mv_Ev_row r_X11_plans_101, mv_Ev_row r_X11_plans_102, mv_Ev_row r_X11_plans_105, mv_Ev_row r_X11_plans_108, mv_Ev_row r_X11_plans_111, mv_Ev_row r_X11_plans_112, mv_Ev_row r_X11_plans_114, mv_Ev_row r_X11_plans_117, mv_Ev_row r_X11_plans_119, ea_iload_n, ea_ifc, ea_iconst, ea_ireturn, ez_ret, ez_retc, ea_istore, ea_aload_n, kv_X11_copies, ea_iload, ea_icmp, kv_X11_set, kv_X11_steps, ea_isub, ea_iadd, kv_X11_plans, ea_goto, ea_iinc, eb_inc, pp_8_5, cz_eq, cz_ne, cz_lt, cz_ge, cz_gt, cz_le, c0_eq, c0_ne, c0_lt, c0_ge, c0_gt, c0_le, mv_ac, decide_eq_true_eq, not_true_eq_false, and_self, and_true, true_and, ea_2n, ea_2f, ea_2c, ea_if, if_pos, if_neg, mv_lk, mv_f1, mv_f2, Value.category, List.filter, ↓reduceIte, Nat.reduceEqDiff, Nat.reduceAdd, Nat.reduceLT, Nat.reduceBEq, Nat.zero_add, Nat.add_zero, Nat.zero_ne_one, Nat.one_ne_zero, Bool.not_true, Bool.not_false, Bool.and_true, Bool.true_and, Bool.and_false, Bool.false_and, BEq.rfl, beq_self_eq_true, Bool.false_eq_true, reduceCtorEq, not_false_eq_true, fv0, fv1, fv2, fv3, eb_l0, eb_l1, eb_l2, eb_l3, eb_l4, eb_l5, eb_s0, eb_s1, eb_s2, eb_s3, eb_s4, eb_s5, oz_add, oz_sub, oz_mul, oz_neg, ol_add, ol_sub, sD_eq, sD_sD, sD_ne, sD_in, sD_in2, sD_in3, upR_is, upR_ne, mk_v, mk_n, mk_x, mk_i, mv_cs, Nat.reduceLeDiff, mv_ch_z, nh_X11_plans, c_X11_set, q, Int.add_sub_cancel, hp, c_X11_copies, ← hv]
        exact mv_Es h7
theorem c_X11_plans : ∀ (l : Nat) (d : Nat) (row b : Int) (A C F : Int → Int), l + 4 ≤ d → 11 ≤ row → row + l ≤ 17 → l ≤ 4 → zWF A 99 → zWF C 99 → zL C A → 0 ≤ b → b < A 0 → ∃ A', rOff row l A A' ∧ mv_cl L xs d k_X11_plans [.ref 142, .int (Int32.ofInt b), .int (Int32.ofInt l), .int (Int32.ofInt row)] (t, 149, mz (sD (sD T 142 F) 143 A)) = some (.inl (some (.int (Int32.ofInt (zPl l C b)))), (t, 149, mz (sD (sD T 142 (if l = 0 then F else upR F 5 (zPa (l - 1) C b))) 143 A'))) := by
  intro l
  induction l with
  | zero =>
    intro d row b A C F hd hr hr2 hl hA hC hL hb0 hb
    refine ⟨A, fun j _ => rfl, ?_⟩
    obtain ⟨d, rfl⟩ : ∃ e, d = e + 1 := ⟨d - 1, by omega⟩
    apply mv_cl_of
    simp only [mv_il, Value.category, Nat.zero_add, Nat.reduceAdd]
    simp (disch := omega) only [mv_Ev_row r_X11_plans_0, mv_Ev_row r_X11_plans_1, mv_Ev_row r_X11_plans_4, mv_Ev_row r_X11_plans_5, mv_Ev_row r_X11_plans_6, mv_Ev_row r_X11_plans_7, mv_Ev_row r_X11_plans_9, mv_Ev_row r_X11_plans_10, mv_Ev_row r_X11_plans_12, mv_Ev_row r_X11_plans_13, mv_Ev_row r_X11_plans_14, mv_Ev_row r_X11_plans_15, mv_Ev_row r_X11_plans_18, mv_Ev_row r_X11_plans_19, mv_Ev_row r_X11_plans_21, mv_Ev_row r_X11_plans_23, mv_Ev_row r_X11_plans_24, mv_Ev_row r_X11_plans_27, mv_Ev_row r_X11_plans_28, mv_Ev_row r_X11_plans_29, mv_Ev_row r_X11_plans_30, mv_Ev_row r_X11_plans_32, mv_Ev_row r_X11_plans_35, mv_Ev_row r_X11_plans_36, mv_Ev_row r_X11_plans_39, mv_Ev_row r_X11_plans_41, mv_Ev_row r_X11_plans_43, mv_Ev_row r_X11_plans_44, mv_Ev_row r_X11_plans_45, mv_Ev_row r_X11_plans_46, mv_Ev_row r_X11_plans_47, mv_Ev_row r_X11_plans_48, mv_Ev_row r_X11_plans_49, mv_Ev_row r_X11_plans_50, mv_Ev_row r_X11_plans_51, mv_Ev_row r_X11_plans_54, mv_Ev_row r_X11_plans_55, mv_Ev_row r_X11_plans_57, mv_Ev_row r_X11_plans_59, mv_Ev_row r_X11_plans_62, mv_Ev_row r_X11_plans_64, mv_Ev_row r_X11_plans_66, mv_Ev_row r_X11_plans_69, mv_Ev_row r_X11_plans_71, mv_Ev_row r_X11_plans_74, mv_Ev_row r_X11_plans_76, mv_Ev_row r_X11_plans_78, mv_Ev_row r_X11_plans_80, mv_Ev_row r_X11_plans_83, mv_Ev_row r_X11_plans_85, mv_Ev_row r_X11_plans_87, mv_Ev_row r_X11_plans_90, mv_Ev_row r_X11_plans_92, mv_Ev_row r_X11_plans_95, mv_Ev_row r_X11_plans_97, mv_Ev_row r_X11_plans_99, mv_Ev_row r_X11_plans_100, mv_Ev_row r_X11_plans_101, mv_Ev_row r_X11_plans_102, mv_Ev_row r_X11_plans_105, mv_Ev_row r_X11_plans_108, mv_Ev_row r_X11_plans_111, mv_Ev_row r_X11_plans_112, mv_Ev_row r_X11_plans_114, mv_Ev_row r_X11_plans_117, mv_Ev_row r_X11_plans_119, ea_iload_n, ea_ifc, ea_iconst, ea_ireturn, ez_ret, ez_retc, ea_istore, ea_aload_n, kv_X11_copies, ea_iload, ea_icmp, kv_X11_set, kv_X11_steps, ea_isub, ea_iadd, kv_X11_plans, ea_goto, ea_iinc, eb_inc, pp_8_5, cz_eq, cz_ne, cz_lt, cz_ge, cz_gt, cz_le, c0_eq, c0_ne, c0_lt, c0_ge, c0_gt, c0_le, mv_ac, decide_eq_true_eq, not_true_eq_false, and_self, and_true, true_and, ea_2n, ea_2f, ea_2c, ea_if, if_pos, if_neg, mv_lk, mv_f1, mv_f2, Value.category, List.filter, ↓reduceIte, Nat.reduceEqDiff, Nat.reduceAdd, Nat.reduceLT, Nat.reduceBEq, Nat.zero_add, Nat.add_zero, Nat.zero_ne_one, Nat.one_ne_zero, Bool.not_true, Bool.not_false, Bool.and_true, Bool.true_and, Bool.and_false, Bool.false_and, BEq.rfl, beq_self_eq_true, Bool.false_eq_true, reduceCtorEq, not_false_eq_true, fv0, fv1, fv2, fv3, eb_l0, eb_l1, eb_l2, eb_l3, eb_l4, eb_l5, eb_s0, eb_s1, eb_s2, eb_s3, eb_s4, eb_s5, oz_add, oz_sub, oz_mul, oz_neg, ol_add, ol_sub, sD_eq, sD_sD, sD_ne, sD_in, sD_in2, sD_in3, upR_is, upR_ne, mk_v, mk_n, mk_x, mk_i, mv_cs, Nat.reduceLeDiff, mv_ch_z, nh_X11_plans, zPl]
  | succ l ih =>
    intro d row b A C F hd hr hr2 hl hA hC hL hb0 hb
    have hrow : ∀ j, 0 ≤ j → j < 63 → rCp 0 row A (j + 63 * row) = A j := by
      intro j h1 h2
      rw [rCp_is 0 row _ (by omega) (by omega)]
      congr 1
      omega
    obtain ⟨A', h1, h2⟩ := lp_X11_plans (L := L) (xs := xs) (t := t) (T := T) (d := d - 1) (l := l) (row := row) (b := b) (A := A) (C := C) (F := F) (by omega) hr (by omega) (by omega) hA hC hL hb0 hb (fun A C F hA hC hL hb => ih (d - 1) (row + 1) b A C F (by omega) (by omega) (by omega) (by omega) hA hC hL hb0 hb) 6 0 (-1) 0 1000000 (rCp 0 row A) F (by omega) (by omega) (fun j hj => rCp_ne 0 row _ (by omega)) hrow (fun v => rfl) (.inl ⟨rfl, rfl, rfl⟩)
    refine ⟨A', h1, ?_⟩
    obtain ⟨d, rfl⟩ : ∃ e, d = e + 1 := ⟨d - 1, by omega⟩
    apply mv_cl_of
    simp only [mv_il, Value.category, Nat.zero_add, Nat.reduceAdd]
    simp only [Nat.add_sub_cancel] at h2
    have e : ((l + 1 : Nat) : Int) = l + 1 := by omega
    rw [e, if_neg (by omega : ¬ l + 1 = 0), Nat.add_sub_cancel]
    rw [zPl, zPa]
    simp (disch := omega) only [mv_Ev_row r_X11_plans_0, mv_Ev_row r_X11_plans_1, mv_Ev_row r_X11_plans_4, mv_Ev_row r_X11_plans_5, mv_Ev_row r_X11_plans_6, mv_Ev_row r_X11_plans_7, mv_Ev_row r_X11_plans_9, mv_Ev_row r_X11_plans_10, mv_Ev_row r_X11_plans_12, mv_Ev_row r_X11_plans_13, mv_Ev_row r_X11_plans_14, mv_Ev_row r_X11_plans_15, mv_Ev_row r_X11_plans_18, mv_Ev_row r_X11_plans_19, mv_Ev_row r_X11_plans_23, mv_Ev_row r_X11_plans_24, mv_Ev_row r_X11_plans_27, mv_Ev_row r_X11_plans_28, mv_Ev_row r_X11_plans_29, mv_Ev_row r_X11_plans_30, mv_Ev_row r_X11_plans_32, mv_Ev_row r_X11_plans_35, mv_Ev_row r_X11_plans_36, mv_Ev_row r_X11_plans_39, mv_Ev_row r_X11_plans_41, mv_Ev_row r_X11_plans_43, mv_Ev_row r_X11_plans_44, mv_Ev_row r_X11_plans_45, mv_Ev_row r_X11_plans_46, mv_Ev_row r_X11_plans_47, mv_Ev_row r_X11_plans_48, mv_Ev_row r_X11_plans_49, mv_Ev_row r_X11_plans_50, mv_Ev_row r_X11_plans_51, mv_Ev_row r_X11_plans_54, mv_Ev_row r_X11_plans_55, mv_Ev_row r_X11_plans_57, mv_Ev_row r_X11_plans_59, mv_Ev_row r_X11_plans_62, mv_Ev_row r_X11_plans_64, mv_Ev_row r_X11_plans_66, mv_Ev_row r_X11_plans_69, mv_Ev_row r_X11_plans_71, mv_Ev_row r_X11_plans_74, mv_Ev_row r_X11_plans_76, mv_Ev_row r_X11_plans_78, mv_Ev_row r_X11_plans_80, mv_Ev_row r_X11_plans_83, mv_Ev_row r_X11_plans_85, mv_Ev_row r_X11_plans_87, mv_Ev_row r_X11_plans_90, mv_Ev_row r_X11_plans_92, mv_Ev_row r_X11_plans_95, mv_Ev_row r_X11_plans_97, mv_Ev_row r_X11_plans_99, mv_Ev_row r_X11_plans_100, mv_Ev_row r_X11_plans_101, mv_Ev_row r_X11_plans_102, mv_Ev_row r_X11_plans_105, mv_Ev_row r_X11_plans_108, mv_Ev_row r_X11_plans_111, mv_Ev_row r_X11_plans_112, mv_Ev_row r_X11_plans_114, mv_Ev_row r_X11_plans_117, mv_Ev_row r_X11_plans_119, ea_iload_n, ea_ifc, ea_iconst, ea_ireturn, ez_ret, ez_retc, ea_istore, ea_aload_n, kv_X11_copies, ea_iload, ea_icmp, kv_X11_set, kv_X11_steps, ea_isub, ea_iadd, kv_X11_plans, ea_goto, ea_iinc, eb_inc, pp_8_5, cz_eq, cz_ne, cz_lt, cz_ge, cz_gt, cz_le, c0_eq, c0_ne, c0_lt, c0_ge, c0_gt, c0_le, mv_ac, decide_eq_true_eq, not_true_eq_false, and_self, and_true, true_and, ea_2n, ea_2f, ea_2c, ea_if, if_pos, if_neg, mv_lk, mv_f1, mv_f2, Value.category, List.filter, ↓reduceIte, Nat.reduceEqDiff, Nat.reduceAdd, Nat.reduceLT, Nat.reduceBEq, Nat.zero_add, Nat.add_zero, Nat.zero_ne_one, Nat.one_ne_zero, Bool.not_true, Bool.not_false, Bool.and_true, Bool.true_and, Bool.and_false, Bool.false_and, BEq.rfl, beq_self_eq_true, Bool.false_eq_true, reduceCtorEq, not_false_eq_true, fv0, fv1, fv2, fv3, eb_l0, eb_l1, eb_l2, eb_l3, eb_l4, eb_l5, eb_s0, eb_s1, eb_s2, eb_s3, eb_s4, eb_s5, oz_add, oz_sub, oz_mul, oz_neg, ol_add, ol_sub, sD_eq, sD_sD, sD_ne, sD_in, sD_in2, sD_in3, upR_is, upR_ne, mk_v, mk_n, mk_x, mk_i, mv_cs, Nat.reduceLeDiff, mv_ch_z, nh_X11_plans, c_X11_copies]
    exact mv_Es h2
theorem c_X11_isPlanned (hd : 3 ≤ d) {b m : Int} (hA : zWF A 99) (b1 : -2147483648 ≤ b) (b2 : b < 2147483648) (m1 : -2147483648 ≤ m) (m2 : m < 2147483648) : mv_cl L xs d k_X11_isPlanned [.ref 142, .int (Int32.ofInt b), .int (Int32.ofInt m)] (t, 149, mz (sD (sD T 142 F) 143 A)) = some (.inl (some (.int (Int32.ofInt (if zfPlan A b m = 1010 then 1 else 0)))), (t, 149, mz (sD (sD T 142 (upR F 0 ((zfPlan A b m : Nat) - 1010))) 143 A))) := by
  obtain ⟨h0, h5, h2, h12, hk, hf⟩ := id hA
  obtain ⟨d, rfl⟩ : ∃ e, d = e + 1 := ⟨d - 1, by omega⟩
  apply mv_cl_of
  simp only [mv_il, Value.category, Nat.zero_add, Nat.reduceAdd]
  by_cases q1 : 0 ≤ b ∧ b < A 0
  · have hk1 := hk b q1.1 q1.2
    unfold zOK at hk1
    by_cases q2 : m < 1 ∨ 4 < m
    · simp (disch := omega) only [mv_Ev_row r_X11_isPlanned_0, mv_Ev_row r_X11_isPlanned_1, mv_Ev_row r_X11_isPlanned_2, mv_Ev_row r_X11_isPlanned_3, mv_Ev_row r_X11_isPlanned_6, mv_Ev_row r_X11_isPlanned_9, mv_Ev_row r_X11_isPlanned_10, mv_Ev_row r_X11_isPlanned_13, mv_Ev_row r_X11_isPlanned_14, mv_Ev_row r_X11_isPlanned_15, mv_Ev_row r_X11_isPlanned_16, mv_Ev_row r_X11_isPlanned_19, mv_Ev_row r_X11_isPlanned_22, mv_Ev_row r_X11_isPlanned_23, mv_Ev_row r_X11_isPlanned_26, mv_Ev_row r_X11_isPlanned_27, mv_Ev_row r_X11_isPlanned_28, mv_Ev_row r_X11_isPlanned_29, mv_Ev_row r_X11_isPlanned_32, mv_Ev_row r_X11_isPlanned_33, mv_Ev_row r_X11_isPlanned_36, mv_Ev_row r_X11_isPlanned_37, mv_Ev_row r_X11_isPlanned_40, mv_Ev_row r_X11_isPlanned_41, mv_Ev_row r_X11_isPlanned_44, mv_Ev_row r_X11_isPlanned_45, mv_Ev_row r_X11_isPlanned_48, mv_Ev_row r_X11_isPlanned_51, mv_Ev_row r_X11_isPlanned_52, mv_Ev_row r_X11_isPlanned_55, mv_Ev_row r_X11_isPlanned_56, ea_aload_n, ea_iload_n, kv_X11_isBasin, ea_ifc, ea_iconst, ea_goto, kv_X11_in, kv_X11_b, ea_icmp, pp_8_0, gg_8_0, ea_ireturn, ez_ret, ez_retc, cz_eq, cz_ne, cz_lt, cz_ge, cz_gt, cz_le, c0_eq, c0_ne, c0_lt, c0_ge, c0_gt, c0_le, mv_ac, decide_eq_true_eq, not_true_eq_false, and_self, and_true, true_and, ea_2n, ea_2f, ea_2c, ea_if, if_pos, if_neg, mv_lk, mv_f1, mv_f2, Value.category, List.filter, ↓reduceIte, Nat.reduceEqDiff, Nat.reduceAdd, Nat.reduceLT, Nat.reduceBEq, Nat.zero_add, Nat.add_zero, Nat.zero_ne_one, Nat.one_ne_zero, Bool.not_true, Bool.not_false, Bool.and_true, Bool.true_and, Bool.and_false, Bool.false_and, BEq.rfl, beq_self_eq_true, Bool.false_eq_true, reduceCtorEq, not_false_eq_true, fv0, fv1, fv2, fv3, eb_l0, eb_l1, eb_l2, eb_l3, eb_l4, eb_l5, eb_s0, eb_s1, eb_s2, eb_s3, eb_s4, eb_s5, oz_add, oz_sub, oz_mul, oz_neg, ol_add, ol_sub, sD_eq, sD_sD, sD_ne, sD_in, sD_in2, sD_in3, upR_is, upR_ne, mk_v, mk_n, mk_x, mk_i, mv_cs, Nat.reduceLeDiff, mv_ch_z, nh_X11_isPlanned, zfPlan, c_X11_isBasin, c_X11_in, c_X11_b, zq_0, zq_1, zq_2, zq_3]
    by_cases q3 : A (6 + 9 * b + 5) = 0
    · simp (disch := omega) only [mv_Ev_row r_X11_isPlanned_0, mv_Ev_row r_X11_isPlanned_1, mv_Ev_row r_X11_isPlanned_2, mv_Ev_row r_X11_isPlanned_3, mv_Ev_row r_X11_isPlanned_6, mv_Ev_row r_X11_isPlanned_9, mv_Ev_row r_X11_isPlanned_10, mv_Ev_row r_X11_isPlanned_13, mv_Ev_row r_X11_isPlanned_14, mv_Ev_row r_X11_isPlanned_15, mv_Ev_row r_X11_isPlanned_16, mv_Ev_row r_X11_isPlanned_19, mv_Ev_row r_X11_isPlanned_22, mv_Ev_row r_X11_isPlanned_23, mv_Ev_row r_X11_isPlanned_26, mv_Ev_row r_X11_isPlanned_27, mv_Ev_row r_X11_isPlanned_28, mv_Ev_row r_X11_isPlanned_29, mv_Ev_row r_X11_isPlanned_32, mv_Ev_row r_X11_isPlanned_33, mv_Ev_row r_X11_isPlanned_36, mv_Ev_row r_X11_isPlanned_37, mv_Ev_row r_X11_isPlanned_40, mv_Ev_row r_X11_isPlanned_41, mv_Ev_row r_X11_isPlanned_44, mv_Ev_row r_X11_isPlanned_45, mv_Ev_row r_X11_isPlanned_48, mv_Ev_row r_X11_isPlanned_51, mv_Ev_row r_X11_isPlanned_52, mv_Ev_row r_X11_isPlanned_55, mv_Ev_row r_X11_isPlanned_56, ea_aload_n, ea_iload_n, kv_X11_isBasin, ea_ifc, ea_iconst, ea_goto, kv_X11_in, kv_X11_b, ea_icmp, pp_8_0, gg_8_0, ea_ireturn, ez_ret, ez_retc, cz_eq, cz_ne, cz_lt, cz_ge, cz_gt, cz_le, c0_eq, c0_ne, c0_lt, c0_ge, c0_gt, c0_le, mv_ac, decide_eq_true_eq, not_true_eq_false, and_self, and_true, true_and, ea_2n, ea_2f, ea_2c, ea_if, if_pos, if_neg, mv_lk, mv_f1, mv_f2, Value.category, List.filter, ↓reduceIte, Nat.reduceEqDiff, Nat.reduceAdd, Nat.reduceLT, Nat.reduceBEq, Nat.zero_add, Nat.add_zero, Nat.zero_ne_one, Nat.one_ne_zero, Bool.not_true, Bool.not_false, Bool.and_true, Bool.true_and, Bool.and_false, Bool.false_and, BEq.rfl, beq_self_eq_true, Bool.false_eq_true, reduceCtorEq, not_false_eq_true, fv0, fv1, fv2, fv3, eb_l0, eb_l1, eb_l2, eb_l3, eb_l4, eb_l5, eb_s0, eb_s1, eb_s2, eb_s3, eb_s4, eb_s5, oz_add, oz_sub, oz_mul, oz_neg, ol_add, ol_sub, sD_eq, sD_sD, sD_ne, sD_in, sD_in2, sD_in3, upR_is, upR_ne, mk_v, mk_n, mk_x, mk_i, mv_cs, Nat.reduceLeDiff, mv_ch_z, nh_X11_isPlanned, zfPlan, c_X11_isBasin, c_X11_in, c_X11_b, zq_0, zq_1, zq_2, zq_3]
    · simp (disch := omega) only [mv_Ev_row r_X11_isPlanned_0, mv_Ev_row r_X11_isPlanned_1, mv_Ev_row r_X11_isPlanned_2, mv_Ev_row r_X11_isPlanned_3, mv_Ev_row r_X11_isPlanned_6, mv_Ev_row r_X11_isPlanned_9, mv_Ev_row r_X11_isPlanned_10, mv_Ev_row r_X11_isPlanned_13, mv_Ev_row r_X11_isPlanned_14, mv_Ev_row r_X11_isPlanned_15, mv_Ev_row r_X11_isPlanned_16, mv_Ev_row r_X11_isPlanned_19, mv_Ev_row r_X11_isPlanned_22, mv_Ev_row r_X11_isPlanned_23, mv_Ev_row r_X11_isPlanned_26, mv_Ev_row r_X11_isPlanned_27, mv_Ev_row r_X11_isPlanned_28, mv_Ev_row r_X11_isPlanned_29, mv_Ev_row r_X11_isPlanned_32, mv_Ev_row r_X11_isPlanned_33, mv_Ev_row r_X11_isPlanned_36, mv_Ev_row r_X11_isPlanned_37, mv_Ev_row r_X11_isPlanned_40, mv_Ev_row r_X11_isPlanned_41, mv_Ev_row r_X11_isPlanned_44, mv_Ev_row r_X11_isPlanned_45, mv_Ev_row r_X11_isPlanned_48, mv_Ev_row r_X11_isPlanned_51, mv_Ev_row r_X11_isPlanned_52, mv_Ev_row r_X11_isPlanned_55, mv_Ev_row r_X11_isPlanned_56, ea_aload_n, ea_iload_n, kv_X11_isBasin, ea_ifc, ea_iconst, ea_goto, kv_X11_in, kv_X11_b, ea_icmp, pp_8_0, gg_8_0, ea_ireturn, ez_ret, ez_retc, cz_eq, cz_ne, cz_lt, cz_ge, cz_gt, cz_le, c0_eq, c0_ne, c0_lt, c0_ge, c0_gt, c0_le, mv_ac, decide_eq_true_eq, not_true_eq_false, and_self, and_true, true_and, ea_2n, ea_2f, ea_2c, ea_if, if_pos, if_neg, mv_lk, mv_f1, mv_f2, Value.category, List.filter, ↓reduceIte, Nat.reduceEqDiff, Nat.reduceAdd, Nat.reduceLT, Nat.reduceBEq, Nat.zero_add, Nat.add_zero, Nat.zero_ne_one, Nat.one_ne_zero, Bool.not_true, Bool.not_false, Bool.and_true, Bool.true_and, Bool.and_false, Bool.false_and, BEq.rfl, beq_self_eq_true, Bool.false_eq_true, reduceCtorEq, not_false_eq_true, fv0, fv1, fv2, fv3, eb_l0, eb_l1, eb_l2, eb_l3, eb_l4, eb_l5, eb_s0, eb_s1, eb_s2, eb_s3, eb_s4, eb_s5, oz_add, oz_sub, oz_mul, oz_neg, ol_add, ol_sub, sD_eq, sD_sD, sD_ne, sD_in, sD_in2, sD_in3, upR_is, upR_ne, mk_v, mk_n, mk_x, mk_i, mv_cs, Nat.reduceLeDiff, mv_ch_z, nh_X11_isPlanned, zfPlan, c_X11_isBasin, c_X11_in, c_X11_b, zq_0, zq_1, zq_2, zq_3]
  · simp (disch := omega) only [mv_Ev_row r_X11_isPlanned_0, mv_Ev_row r_X11_isPlanned_1, mv_Ev_row r_X11_isPlanned_2, mv_Ev_row r_X11_isPlanned_3, mv_Ev_row r_X11_isPlanned_6, mv_Ev_row r_X11_isPlanned_9, mv_Ev_row r_X11_isPlanned_10, mv_Ev_row r_X11_isPlanned_13, mv_Ev_row r_X11_isPlanned_14, mv_Ev_row r_X11_isPlanned_15, mv_Ev_row r_X11_isPlanned_16, mv_Ev_row r_X11_isPlanned_19, mv_Ev_row r_X11_isPlanned_22, mv_Ev_row r_X11_isPlanned_23, mv_Ev_row r_X11_isPlanned_26, mv_Ev_row r_X11_isPlanned_27, mv_Ev_row r_X11_isPlanned_28, mv_Ev_row r_X11_isPlanned_29, mv_Ev_row r_X11_isPlanned_32, mv_Ev_row r_X11_isPlanned_33, mv_Ev_row r_X11_isPlanned_36, mv_Ev_row r_X11_isPlanned_37, mv_Ev_row r_X11_isPlanned_40, mv_Ev_row r_X11_isPlanned_41, mv_Ev_row r_X11_isPlanned_44, mv_Ev_row r_X11_isPlanned_45, mv_Ev_row r_X11_isPlanned_48, mv_Ev_row r_X11_isPlanned_51, mv_Ev_row r_X11_isPlanned_52, mv_Ev_row r_X11_isPlanned_55, mv_Ev_row r_X11_isPlanned_56, ea_aload_n, ea_iload_n, kv_X11_isBasin, ea_ifc, ea_iconst, ea_goto, kv_X11_in, kv_X11_b, ea_icmp, pp_8_0, gg_8_0, ea_ireturn, ez_ret, ez_retc, cz_eq, cz_ne, cz_lt, cz_ge, cz_gt, cz_le, c0_eq, c0_ne, c0_lt, c0_ge, c0_gt, c0_le, mv_ac, decide_eq_true_eq, not_true_eq_false, and_self, and_true, true_and, ea_2n, ea_2f, ea_2c, ea_if, if_pos, if_neg, mv_lk, mv_f1, mv_f2, Value.category, List.filter, ↓reduceIte, Nat.reduceEqDiff, Nat.reduceAdd, Nat.reduceLT, Nat.reduceBEq, Nat.zero_add, Nat.add_zero, Nat.zero_ne_one, Nat.one_ne_zero, Bool.not_true, Bool.not_false, Bool.and_true, Bool.true_and, Bool.and_false, Bool.false_and, BEq.rfl, beq_self_eq_true, Bool.false_eq_true, reduceCtorEq, not_false_eq_true, fv0, fv1, fv2, fv3, eb_l0, eb_l1, eb_l2, eb_l3, eb_l4, eb_l5, eb_s0, eb_s1, eb_s2, eb_s3, eb_s4, eb_s5, oz_add, oz_sub, oz_mul, oz_neg, ol_add, ol_sub, sD_eq, sD_sD, sD_ne, sD_in, sD_in2, sD_in3, upR_is, upR_ne, mk_v, mk_n, mk_x, mk_i, mv_cs, Nat.reduceLeDiff, mv_ch_z, nh_X11_isPlanned, zfPlan, c_X11_isBasin, c_X11_in, c_X11_b, zq_0, zq_1, zq_2, zq_3]
theorem zfPlan_1 {b m : Int} (h : zfPlan A b m = 1010) : 0 ≤ b ∧ b < A 0 ∧ 1 ≤ m ∧ m ≤ 4 := by
  unfold zfPlan at h
  split at h
  · split at h <;> omega
  · omega
theorem c_X11_leastSpill (hd : 9 ≤ d) {b m : Int} (hA : zWF A 99) (hC : zWF C 99) (hL : zL C A) (b1 : -2147483648 ≤ b) (b2 : b < 2147483648) (m1 : -2147483648 ≤ m) (m2 : m < 2147483648) : ∃ A', rOff 11 4 A A' ∧ mv_cl L xs d k_X11_leastSpill [.ref 142, .int (Int32.ofInt b), .int (Int32.ofInt m)] (t, 149, mz (sD (sD T 142 F) 143 A)) = some (.inl (some (.int (Int32.ofInt (if zfPlan A b m = 1010 then zPl m.toNat C b else 0)))), (t, 149, mz (sD (sD T 142 (if zfPlan A b m = 1010 then upR (upR F 0 0) 5 (zPa (m.toNat - 1) C b) else upR F 0 ((zfPlan A b m : Nat) - 1010))) 143 A'))) := by
  by_cases h : zfPlan A b m = 1010
  · obtain ⟨p1, p2, p3, p4⟩ := zfPlan_1 h
    obtain ⟨A', h1, h2⟩ := c_X11_plans (L := L) (xs := xs) (t := t) (T := T) m.toNat (d - 1) 11 b A C (upR F 0 0) (by omega) (by omega) (by omega) (by omega) hA hC hL p1 p2
    rw [if_neg (by omega), show ((m.toNat : Nat) : Int) = m by omega] at h2
    have q := fun F => c_X11_isPlanned (L := L) (xs := xs) (t := t) (T := T) (F := F) (d := d - 1) (by omega) hA b1 b2 m1 m2
    rw [h, if_pos rfl] at q
    refine ⟨A', fun j hj => h1 j (by omega), ?_⟩
    rw [if_pos h, if_pos h]
    obtain ⟨d, rfl⟩ : ∃ e, d = e + 1 := ⟨d - 1, by omega⟩
    apply mv_cl_of
    simp only [mv_il, Value.category, Nat.zero_add, Nat.reduceAdd]
    simp only [Nat.add_sub_cancel] at h2 q
    simp (disch := omega) only [mv_Ev_row r_X11_leastSpill_0, mv_Ev_row r_X11_leastSpill_1, mv_Ev_row r_X11_leastSpill_2, mv_Ev_row r_X11_leastSpill_3, mv_Ev_row r_X11_leastSpill_6, mv_Ev_row r_X11_leastSpill_9, mv_Ev_row r_X11_leastSpill_10, mv_Ev_row r_X11_leastSpill_11, mv_Ev_row r_X11_leastSpill_12, mv_Ev_row r_X11_leastSpill_14, mv_Ev_row r_X11_leastSpill_17, mv_Ev_row r_X11_leastSpill_20, mv_Ev_row r_X11_leastSpill_21, ea_aload_n, ea_iload_n, kv_X11_isPlanned, ea_ifc, ea_bipush, kv_X11_plans, ea_goto, ea_iconst, ea_ireturn, ez_ret, ez_retc, bz_11, c0_eq, c0_ne, c0_lt, c0_ge, c0_gt, c0_le, mv_ac, decide_eq_true_eq, not_true_eq_false, and_self, and_true, true_and, ea_2n, ea_2f, ea_2c, ea_if, if_pos, if_neg, mv_lk, mv_f1, mv_f2, Value.category, List.filter, ↓reduceIte, Nat.reduceEqDiff, Nat.reduceAdd, Nat.reduceLT, Nat.reduceBEq, Nat.zero_add, Nat.add_zero, Nat.zero_ne_one, Nat.one_ne_zero, Bool.not_true, Bool.not_false, Bool.and_true, Bool.true_and, Bool.and_false, Bool.false_and, BEq.rfl, beq_self_eq_true, Bool.false_eq_true, reduceCtorEq, not_false_eq_true, fv0, fv1, fv2, fv3, eb_l0, eb_l1, eb_l2, eb_l3, eb_l4, eb_l5, eb_s0, eb_s1, eb_s2, eb_s3, eb_s4, eb_s5, oz_add, oz_sub, oz_mul, oz_neg, ol_add, ol_sub, sD_eq, sD_sD, sD_ne, sD_in, sD_in2, sD_in3, upR_is, upR_ne, mk_v, mk_n, mk_x, mk_i, mv_cs, Nat.reduceLeDiff, mv_ch_z, nh_X11_leastSpill, q, h2, zq_0]
  · have q := fun F => c_X11_isPlanned (L := L) (xs := xs) (t := t) (T := T) (F := F) (d := d - 1) (by omega) hA b1 b2 m1 m2
    refine ⟨A, fun j _ => rfl, ?_⟩
    rw [if_neg h, if_neg h]
    simp only [if_neg h] at q
    obtain ⟨d, rfl⟩ : ∃ e, d = e + 1 := ⟨d - 1, by omega⟩
    apply mv_cl_of
    simp only [mv_il, Value.category, Nat.zero_add, Nat.reduceAdd]
    simp only [Nat.add_sub_cancel] at q
    simp (disch := omega) only [mv_Ev_row r_X11_leastSpill_0, mv_Ev_row r_X11_leastSpill_1, mv_Ev_row r_X11_leastSpill_2, mv_Ev_row r_X11_leastSpill_3, mv_Ev_row r_X11_leastSpill_6, mv_Ev_row r_X11_leastSpill_9, mv_Ev_row r_X11_leastSpill_10, mv_Ev_row r_X11_leastSpill_11, mv_Ev_row r_X11_leastSpill_12, mv_Ev_row r_X11_leastSpill_14, mv_Ev_row r_X11_leastSpill_17, mv_Ev_row r_X11_leastSpill_20, mv_Ev_row r_X11_leastSpill_21, ea_aload_n, ea_iload_n, kv_X11_isPlanned, ea_ifc, ea_bipush, kv_X11_plans, ea_goto, ea_iconst, ea_ireturn, ez_ret, ez_retc, bz_11, c0_eq, c0_ne, c0_lt, c0_ge, c0_gt, c0_le, mv_ac, decide_eq_true_eq, not_true_eq_false, and_self, and_true, true_and, ea_2n, ea_2f, ea_2c, ea_if, mv_lk, mv_f1, mv_f2, Value.category, List.filter, ↓reduceIte, Nat.reduceEqDiff, Nat.reduceAdd, Nat.reduceLT, Nat.reduceBEq, Nat.zero_add, Nat.add_zero, Nat.zero_ne_one, Nat.one_ne_zero, Bool.not_true, Bool.not_false, Bool.and_true, Bool.true_and, Bool.and_false, Bool.false_and, BEq.rfl, beq_self_eq_true, Bool.false_eq_true, reduceCtorEq, not_false_eq_true, fv0, fv1, fv2, fv3, eb_l0, eb_l1, eb_l2, eb_l3, eb_l4, eb_l5, eb_s0, eb_s1, eb_s2, eb_s3, eb_s4, eb_s5, oz_add, oz_sub, oz_mul, oz_neg, ol_add, ol_sub, sD_eq, sD_sD, sD_ne, sD_in, sD_in2, sD_in3, upR_is, upR_ne, mk_v, mk_n, mk_x, mk_i, mv_cs, Nat.reduceLeDiff, mv_ch_z, nh_X11_leastSpill, q]
theorem c_X11_leastByPruning (hd : 10 ≤ d) {b m : Int} (hA : zWF A 99) (hC : zWF C 99) (hL : zL C A) (b1 : -2147483648 ≤ b) (b2 : b < 2147483648) (m1 : -2147483648 ≤ m) (m2 : m < 2147483648) : ∃ A', rOff 11 4 A A' ∧ mv_cl L xs d k_X11_leastSpillByPruning [.ref 142, .int (Int32.ofInt b), .int (Int32.ofInt m)] (t, 149, mz (sD (sD T 142 F) 143 A)) = some (.inl (some (.int (Int32.ofInt (if zfPlan A b m = 1010 then zPl m.toNat C b else 0)))), (t, 149, mz (sD (sD T 142 (if zfPlan A b m = 1010 then upR (upR F 0 0) 5 (zPa (m.toNat - 1) C b) else upR F 0 ((zfPlan A b m : Nat) - 1010))) 143 A'))) := by
  obtain ⟨A', h1, h2⟩ := c_X11_leastSpill (L := L) (xs := xs) (t := t) (T := T) (F := F) (d := d - 1) (by omega) hA hC hL b1 b2 m1 m2
  refine ⟨A', h1, ?_⟩
  obtain ⟨d, rfl⟩ : ∃ e, d = e + 1 := ⟨d - 1, by omega⟩
  apply mv_cl_of
  simp only [mv_il, Value.category, Nat.zero_add, Nat.reduceAdd]
  simp only [Nat.add_sub_cancel] at h2
  simp (disch := omega) only [mv_Ev_row r_X11_leastSpillByPruning_0, mv_Ev_row r_X11_leastSpillByPruning_1, mv_Ev_row r_X11_leastSpillByPruning_2, mv_Ev_row r_X11_leastSpillByPruning_3, mv_Ev_row r_X11_leastSpillByPruning_6, ea_aload_n, ea_iload_n, kv_X11_leastSpill, ea_ireturn, ez_ret, ez_retc, mv_ac, decide_eq_true_eq, not_true_eq_false, and_self, and_true, true_and, ea_2n, ea_2f, ea_2c, ea_if, mv_lk, mv_f1, mv_f2, Value.category, List.filter, ↓reduceIte, Nat.reduceEqDiff, Nat.reduceAdd, Nat.reduceLT, Nat.reduceBEq, Nat.zero_add, Nat.add_zero, Nat.zero_ne_one, Nat.one_ne_zero, Bool.not_true, Bool.not_false, Bool.and_true, Bool.true_and, Bool.and_false, Bool.false_and, BEq.rfl, beq_self_eq_true, Bool.false_eq_true, reduceCtorEq, not_false_eq_true, fv0, fv1, fv2, fv3, eb_l0, eb_l1, eb_l2, eb_l3, eb_l4, eb_l5, eb_s0, eb_s1, eb_s2, eb_s3, eb_s4, eb_s5, oz_add, oz_sub, oz_mul, oz_neg, ol_add, ol_sub, sD_eq, sD_sD, sD_ne, sD_in, sD_in2, sD_in3, upR_is, upR_ne, mk_v, mk_n, mk_x, mk_i, mv_cs, Nat.reduceLeDiff, mv_ch_z, nh_X11_leastSpillByPruning, h2]
theorem c_X11_bestOpening (hd : 10 ≤ d) {b m : Int} (hA : zWF A 99) (hC : zWF C 99) (hL : zL C A) (b1 : -2147483648 ≤ b) (b2 : b < 2147483648) (m1 : -2147483648 ≤ m) (m2 : m < 2147483648) : ∃ A', rOff 11 4 A A' ∧ mv_cl L xs d k_X11_bestOpening [.ref 142, .int (Int32.ofInt b), .int (Int32.ofInt m)] (t, 149, mz (sD (sD T 142 F) 143 A)) = some (.inl (some (.int (Int32.ofInt (if zfPlan A b m = 1010 then zPa (m.toNat - 1) C b else 0)))), (t, 149, mz (sD (sD T 142 (if zfPlan A b m = 1010 then upR (upR F 0 0) 5 (zPa (m.toNat - 1) C b) else upR F 0 ((zfPlan A b m : Nat) - 1010))) 143 A'))) := by
  obtain ⟨A', h1, h2⟩ := c_X11_leastSpill (L := L) (xs := xs) (t := t) (T := T) (F := F) (d := d - 1) (by omega) hA hC hL b1 b2 m1 m2
  refine ⟨A', h1, ?_⟩
  obtain ⟨d, rfl⟩ : ∃ e, d = e + 1 := ⟨d - 1, by omega⟩
  apply mv_cl_of
  simp only [mv_il, Value.category, Nat.zero_add, Nat.reduceAdd]
  simp only [Nat.add_sub_cancel] at h2
  by_cases h : zfPlan A b m = 1010
  · rw [if_pos h, if_pos h] at h2
    rw [if_pos h, if_pos h]
    simp (disch := omega) only [mv_Ev_row r_X11_bestOpening_0, mv_Ev_row r_X11_bestOpening_1, mv_Ev_row r_X11_bestOpening_2, mv_Ev_row r_X11_bestOpening_3, mv_Ev_row r_X11_bestOpening_6, mv_Ev_row r_X11_bestOpening_7, mv_Ev_row r_X11_bestOpening_8, mv_Ev_row r_X11_bestOpening_11, mv_Ev_row r_X11_bestOpening_14, mv_Ev_row r_X11_bestOpening_15, mv_Ev_row r_X11_bestOpening_18, mv_Ev_row r_X11_bestOpening_21, mv_Ev_row r_X11_bestOpening_22, ea_aload_n, ea_iload_n, kv_X11_leastSpill, ea_istore_n, gg_8_0, ea_ifc, gg_8_5, ea_goto, ea_iconst, ea_ireturn, ez_ret, ez_retc, c0_eq, c0_ne, c0_lt, c0_ge, c0_gt, c0_le, mv_ac, decide_eq_true_eq, not_true_eq_false, and_self, and_true, true_and, ea_2n, ea_2f, ea_2c, ea_if, if_pos, if_neg, mv_lk, mv_f1, mv_f2, Value.category, List.filter, ↓reduceIte, Nat.reduceEqDiff, Nat.reduceAdd, Nat.reduceLT, Nat.reduceBEq, Nat.zero_add, Nat.add_zero, Nat.zero_ne_one, Nat.one_ne_zero, Bool.not_true, Bool.not_false, Bool.and_true, Bool.true_and, Bool.and_false, Bool.false_and, BEq.rfl, beq_self_eq_true, Bool.false_eq_true, reduceCtorEq, not_false_eq_true, fv0, fv1, fv2, fv3, eb_l0, eb_l1, eb_l2, eb_l3, eb_l4, eb_l5, eb_s0, eb_s1, eb_s2, eb_s3, eb_s4, eb_s5, oz_add, oz_sub, oz_mul, oz_neg, ol_add, ol_sub, sD_eq, sD_sD, sD_ne, sD_in, sD_in2, sD_in3, upR_is, upR_ne, mk_v, mk_n, mk_x, mk_i, mv_cs, Nat.reduceLeDiff, mv_ch_z, nh_X11_bestOpening, h2]
  · have hz : zfPlan A b m = 1011 ∨ zfPlan A b m = 1012 ∨ zfPlan A b m = 1013 := by
      revert h
      unfold zfPlan
      repeat' split
      all_goals omega
    rw [if_neg h, if_neg h] at h2
    rw [if_neg h, if_neg h]
    rcases hz with e | e | e
    · rw [e] at h2 ⊢
      simp only [zq_1] at h2 ⊢
      simp (disch := omega) only [mv_Ev_row r_X11_bestOpening_0, mv_Ev_row r_X11_bestOpening_1, mv_Ev_row r_X11_bestOpening_2, mv_Ev_row r_X11_bestOpening_3, mv_Ev_row r_X11_bestOpening_6, mv_Ev_row r_X11_bestOpening_7, mv_Ev_row r_X11_bestOpening_8, mv_Ev_row r_X11_bestOpening_11, mv_Ev_row r_X11_bestOpening_14, mv_Ev_row r_X11_bestOpening_15, mv_Ev_row r_X11_bestOpening_18, mv_Ev_row r_X11_bestOpening_21, mv_Ev_row r_X11_bestOpening_22, ea_aload_n, ea_iload_n, kv_X11_leastSpill, ea_istore_n, gg_8_0, ea_ifc, gg_8_5, ea_goto, ea_iconst, ea_ireturn, ez_ret, ez_retc, c0_eq, c0_ne, c0_lt, c0_ge, c0_gt, c0_le, mv_ac, decide_eq_true_eq, not_true_eq_false, and_self, and_true, true_and, ea_2n, ea_2f, ea_2c, ea_if, if_pos, if_neg, mv_lk, mv_f1, mv_f2, Value.category, List.filter, ↓reduceIte, Nat.reduceEqDiff, Nat.reduceAdd, Nat.reduceLT, Nat.reduceBEq, Nat.zero_add, Nat.add_zero, Nat.zero_ne_one, Nat.one_ne_zero, Bool.not_true, Bool.not_false, Bool.and_true, Bool.true_and, Bool.and_false, Bool.false_and, BEq.rfl, beq_self_eq_true, Bool.false_eq_true, reduceCtorEq, not_false_eq_true, fv0, fv1, fv2, fv3, eb_l0, eb_l1, eb_l2, eb_l3, eb_l4, eb_l5, eb_s0, eb_s1, eb_s2, eb_s3, eb_s4, eb_s5, oz_add, oz_sub, oz_mul, oz_neg, ol_add, ol_sub, sD_eq, sD_sD, sD_ne, sD_in, sD_in2, sD_in3, upR_is, upR_ne, mk_v, mk_n, mk_x, mk_i, mv_cs, Nat.reduceLeDiff, mv_ch_z, nh_X11_bestOpening, h2]
    · rw [e] at h2 ⊢
      simp only [zq_2] at h2 ⊢
      simp (disch := omega) only [mv_Ev_row r_X11_bestOpening_0, mv_Ev_row r_X11_bestOpening_1, mv_Ev_row r_X11_bestOpening_2, mv_Ev_row r_X11_bestOpening_3, mv_Ev_row r_X11_bestOpening_6, mv_Ev_row r_X11_bestOpening_7, mv_Ev_row r_X11_bestOpening_8, mv_Ev_row r_X11_bestOpening_11, mv_Ev_row r_X11_bestOpening_14, mv_Ev_row r_X11_bestOpening_15, mv_Ev_row r_X11_bestOpening_18, mv_Ev_row r_X11_bestOpening_21, mv_Ev_row r_X11_bestOpening_22, ea_aload_n, ea_iload_n, kv_X11_leastSpill, ea_istore_n, gg_8_0, ea_ifc, gg_8_5, ea_goto, ea_iconst, ea_ireturn, ez_ret, ez_retc, c0_eq, c0_ne, c0_lt, c0_ge, c0_gt, c0_le, mv_ac, decide_eq_true_eq, not_true_eq_false, and_self, and_true, true_and, ea_2n, ea_2f, ea_2c, ea_if, if_pos, if_neg, mv_lk, mv_f1, mv_f2, Value.category, List.filter, ↓reduceIte, Nat.reduceEqDiff, Nat.reduceAdd, Nat.reduceLT, Nat.reduceBEq, Nat.zero_add, Nat.add_zero, Nat.zero_ne_one, Nat.one_ne_zero, Bool.not_true, Bool.not_false, Bool.and_true, Bool.true_and, Bool.and_false, Bool.false_and, BEq.rfl, beq_self_eq_true, Bool.false_eq_true, reduceCtorEq, not_false_eq_true, fv0, fv1, fv2, fv3, eb_l0, eb_l1, eb_l2, eb_l3, eb_l4, eb_l5, eb_s0, eb_s1, eb_s2, eb_s3, eb_s4, eb_s5, oz_add, oz_sub, oz_mul, oz_neg, ol_add, ol_sub, sD_eq, sD_sD, sD_ne, sD_in, sD_in2, sD_in3, upR_is, upR_ne, mk_v, mk_n, mk_x, mk_i, mv_cs, Nat.reduceLeDiff, mv_ch_z, nh_X11_bestOpening, h2]
    · rw [e] at h2 ⊢
      simp only [zq_3] at h2 ⊢
      simp (disch := omega) only [mv_Ev_row r_X11_bestOpening_0, mv_Ev_row r_X11_bestOpening_1, mv_Ev_row r_X11_bestOpening_2, mv_Ev_row r_X11_bestOpening_3, mv_Ev_row r_X11_bestOpening_6, mv_Ev_row r_X11_bestOpening_7, mv_Ev_row r_X11_bestOpening_8, mv_Ev_row r_X11_bestOpening_11, mv_Ev_row r_X11_bestOpening_14, mv_Ev_row r_X11_bestOpening_15, mv_Ev_row r_X11_bestOpening_18, mv_Ev_row r_X11_bestOpening_21, mv_Ev_row r_X11_bestOpening_22, ea_aload_n, ea_iload_n, kv_X11_leastSpill, ea_istore_n, gg_8_0, ea_ifc, gg_8_5, ea_goto, ea_iconst, ea_ireturn, ez_ret, ez_retc, c0_eq, c0_ne, c0_lt, c0_ge, c0_gt, c0_le, mv_ac, decide_eq_true_eq, not_true_eq_false, and_self, and_true, true_and, ea_2n, ea_2f, ea_2c, ea_if, if_pos, if_neg, mv_lk, mv_f1, mv_f2, Value.category, List.filter, ↓reduceIte, Nat.reduceEqDiff, Nat.reduceAdd, Nat.reduceLT, Nat.reduceBEq, Nat.zero_add, Nat.add_zero, Nat.zero_ne_one, Nat.one_ne_zero, Bool.not_true, Bool.not_false, Bool.and_true, Bool.true_and, Bool.and_false, Bool.false_and, BEq.rfl, beq_self_eq_true, Bool.false_eq_true, reduceCtorEq, not_false_eq_true, fv0, fv1, fv2, fv3, eb_l0, eb_l1, eb_l2, eb_l3, eb_l4, eb_l5, eb_s0, eb_s1, eb_s2, eb_s3, eb_s4, eb_s5, oz_add, oz_sub, oz_mul, oz_neg, ol_add, ol_sub, sD_eq, sD_sD, sD_ne, sD_in, sD_in2, sD_in3, upR_is, upR_ne, mk_v, mk_n, mk_x, mk_i, mv_cs, Nat.reduceLeDiff, mv_ch_z, nh_X11_bestOpening, h2]
end RF6

