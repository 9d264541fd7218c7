/-! THE BEST PROTECTION: the table and the sets -/
theorem tb_X9_include : mv_tb k_X9_include = t_X9_include := rfl
theorem r_X9_include_0 : mv_in k_X9_include 0 = some (.aload_n 0, 1, 0, 0, 0) := by unfold mv_in; rw [tb_X9_include]; rfl
theorem r_X9_include_1 : mv_in k_X9_include 1 = some (.getfield 18, 4, 6, 2, 230) := by unfold mv_in; rw [tb_X9_include]; rfl
theorem r_X9_include_4 : mv_in k_X9_include 4 = some (.iconst 5, 5, 0, 0, 0) := by unfold mv_in; rw [tb_X9_include]; rfl
theorem r_X9_include_5 : mv_in k_X9_include 5 = some (.if_icmp .ge 33, 8, 38, 0, 0) := by unfold mv_in; rw [tb_X9_include]; rfl
theorem r_X9_include_8 : mv_in k_X9_include 8 = some (.aload_n 0, 9, 0, 0, 0) := by unfold mv_in; rw [tb_X9_include]; rfl
theorem r_X9_include_9 : mv_in k_X9_include 9 = some (.getfield 9, 12, 6, 0, 228) := by unfold mv_in; rw [tb_X9_include]; rfl
theorem r_X9_include_12 : mv_in k_X9_include 12 = some (.aload_n 0, 13, 0, 0, 0) := by unfold mv_in; rw [tb_X9_include]; rfl
theorem r_X9_include_13 : mv_in k_X9_include 13 = some (.getfield 18, 16, 6, 2, 230) := by unfold mv_in; rw [tb_X9_include]; rfl
theorem r_X9_include_16 : mv_in k_X9_include 16 = some (.iload_n 1, 17, 0, 0, 0) := by unfold mv_in; rw [tb_X9_include]; rfl
theorem r_X9_include_17 : mv_in k_X9_include 17 = some (.iastore, 18, 0, 0, 0) := by unfold mv_in; rw [tb_X9_include]; rfl
theorem r_X9_include_18 : mv_in k_X9_include 18 = some (.aload_n 0, 19, 0, 0, 0) := by unfold mv_in; rw [tb_X9_include]; rfl
theorem r_X9_include_19 : mv_in k_X9_include 19 = some (.getfield 15, 22, 6, 1, 229) := by unfold mv_in; rw [tb_X9_include]; rfl
theorem r_X9_include_22 : mv_in k_X9_include 22 = some (.aload_n 0, 23, 0, 0, 0) := by unfold mv_in; rw [tb_X9_include]; rfl
theorem r_X9_include_23 : mv_in k_X9_include 23 = some (.getfield 18, 26, 6, 2, 230) := by unfold mv_in; rw [tb_X9_include]; rfl
theorem r_X9_include_26 : mv_in k_X9_include 26 = some (.iload_n 2, 27, 0, 0, 0) := by unfold mv_in; rw [tb_X9_include]; rfl
theorem r_X9_include_27 : mv_in k_X9_include 27 = some (.iastore, 28, 0, 0, 0) := by unfold mv_in; rw [tb_X9_include]; rfl
theorem r_X9_include_28 : mv_in k_X9_include 28 = some (.aload_n 0, 29, 0, 0, 0) := by unfold mv_in; rw [tb_X9_include]; rfl
theorem r_X9_include_29 : mv_in k_X9_include 29 = some (.dup, 30, 0, 0, 0) := by unfold mv_in; rw [tb_X9_include]; rfl
theorem r_X9_include_30 : mv_in k_X9_include 30 = some (.getfield 18, 33, 6, 2, 230) := by unfold mv_in; rw [tb_X9_include]; rfl
theorem r_X9_include_33 : mv_in k_X9_include 33 = some (.iconst 1, 34, 0, 0, 0) := by unfold mv_in; rw [tb_X9_include]; rfl
theorem r_X9_include_34 : mv_in k_X9_include 34 = some (.iadd, 35, 0, 0, 0) := by unfold mv_in; rw [tb_X9_include]; rfl
theorem r_X9_include_35 : mv_in k_X9_include 35 = some (.putfield 18, 38, 6, 2, 230) := by unfold mv_in; rw [tb_X9_include]; rfl
theorem r_X9_include_38 : mv_in k_X9_include 38 = some (.return_, 39, 0, 0, 0) := by unfold mv_in; rw [tb_X9_include]; rfl
theorem nh_X9_include : mv_nh k_X9_include = true := rfl
theorem tb_X9_sumOfBags : mv_tb k_X9_sumOfBags = t_X9_sumOfBags := rfl
theorem r_X9_sumOfBags_0 : mv_in k_X9_sumOfBags 0 = some (.iconst 0, 1, 0, 0, 0) := by unfold mv_in; rw [tb_X9_sumOfBags]; rfl
theorem r_X9_sumOfBags_1 : mv_in k_X9_sumOfBags 1 = some (.istore_n 1, 2, 0, 0, 0) := by unfold mv_in; rw [tb_X9_sumOfBags]; rfl
theorem r_X9_sumOfBags_2 : mv_in k_X9_sumOfBags 2 = some (.iconst 0, 3, 0, 0, 0) := by unfold mv_in; rw [tb_X9_sumOfBags]; rfl
theorem r_X9_sumOfBags_3 : mv_in k_X9_sumOfBags 3 = some (.istore_n 2, 4, 0, 0, 0) := by unfold mv_in; rw [tb_X9_sumOfBags]; rfl
theorem r_X9_sumOfBags_4 : mv_in k_X9_sumOfBags 4 = some (.iload_n 2, 5, 0, 0, 0) := by unfold mv_in; rw [tb_X9_sumOfBags]; rfl
theorem r_X9_sumOfBags_5 : mv_in k_X9_sumOfBags 5 = some (.aload_n 0, 6, 0, 0, 0) := by unfold mv_in; rw [tb_X9_sumOfBags]; rfl
theorem r_X9_sumOfBags_6 : mv_in k_X9_sumOfBags 6 = some (.getfield 18, 9, 6, 2, 230) := by unfold mv_in; rw [tb_X9_sumOfBags]; rfl
theorem r_X9_sumOfBags_9 : mv_in k_X9_sumOfBags 9 = some (.if_icmp .ge 18, 12, 27, 0, 0) := by unfold mv_in; rw [tb_X9_sumOfBags]; rfl
theorem r_X9_sumOfBags_12 : mv_in k_X9_sumOfBags 12 = some (.iload_n 1, 13, 0, 0, 0) := by unfold mv_in; rw [tb_X9_sumOfBags]; rfl
theorem r_X9_sumOfBags_13 : mv_in k_X9_sumOfBags 13 = some (.aload_n 0, 14, 0, 0, 0) := by unfold mv_in; rw [tb_X9_sumOfBags]; rfl
theorem r_X9_sumOfBags_14 : mv_in k_X9_sumOfBags 14 = some (.getfield 9, 17, 6, 0, 228) := by unfold mv_in; rw [tb_X9_sumOfBags]; rfl
theorem r_X9_sumOfBags_17 : mv_in k_X9_sumOfBags 17 = some (.iload_n 2, 18, 0, 0, 0) := by unfold mv_in; rw [tb_X9_sumOfBags]; rfl
theorem r_X9_sumOfBags_18 : mv_in k_X9_sumOfBags 18 = some (.iaload, 19, 0, 0, 0) := by unfold mv_in; rw [tb_X9_sumOfBags]; rfl
theorem r_X9_sumOfBags_19 : mv_in k_X9_sumOfBags 19 = some (.iadd, 20, 0, 0, 0) := by unfold mv_in; rw [tb_X9_sumOfBags]; rfl
theorem r_X9_sumOfBags_20 : mv_in k_X9_sumOfBags 20 = some (.istore_n 1, 21, 0, 0, 0) := by unfold mv_in; rw [tb_X9_sumOfBags]; rfl
theorem r_X9_sumOfBags_21 : mv_in k_X9_sumOfBags 21 = some (.iinc 2 1, 24, 0, 0, 0) := by unfold mv_in; rw [tb_X9_sumOfBags]; rfl
theorem r_X9_sumOfBags_24 : mv_in k_X9_sumOfBags 24 = some (.goto (-20), 27, 4, 0, 0) := by unfold mv_in; rw [tb_X9_sumOfBags]; rfl
theorem r_X9_sumOfBags_27 : mv_in k_X9_sumOfBags 27 = some (.iload_n 1, 28, 0, 0, 0) := by unfold mv_in; rw [tb_X9_sumOfBags]; rfl
theorem r_X9_sumOfBags_28 : mv_in k_X9_sumOfBags 28 = some (.ireturn, 29, 0, 0, 0) := by unfold mv_in; rw [tb_X9_sumOfBags]; rfl
theorem nh_X9_sumOfBags : mv_nh k_X9_sumOfBags = true := rfl
theorem tb_X9_improveTable : mv_tb k_X9_improveTable = t_X9_improveTable := rfl
theorem r_X9_improveTable_0 : mv_in k_X9_improveTable 0 = some (.aload_n 0, 1, 0, 0, 0) := by unfold mv_in; rw [tb_X9_improveTable]; rfl
theorem r_X9_improveTable_1 : mv_in k_X9_improveTable 1 = some (.getfield 22, 4, 6, 3, 232) := by unfold mv_in; rw [tb_X9_improveTable]; rfl
theorem r_X9_improveTable_4 : mv_in k_X9_improveTable 4 = some (.arraylength, 5, 0, 0, 0) := by unfold mv_in; rw [tb_X9_improveTable]; rfl
theorem r_X9_improveTable_5 : mv_in k_X9_improveTable 5 = some (.iconst 1, 6, 0, 0, 0) := by unfold mv_in; rw [tb_X9_improveTable]; rfl
theorem r_X9_improveTable_6 : mv_in k_X9_improveTable 6 = some (.isub, 7, 0, 0, 0) := by unfold mv_in; rw [tb_X9_improveTable]; rfl
theorem r_X9_improveTable_7 : mv_in k_X9_improveTable 7 = some (.istore_n 3, 8, 0, 0, 0) := by unfold mv_in; rw [tb_X9_improveTable]; rfl
theorem r_X9_improveTable_8 : mv_in k_X9_improveTable 8 = some (.iload_n 3, 9, 0, 0, 0) := by unfold mv_in; rw [tb_X9_improveTable]; rfl
theorem r_X9_improveTable_9 : mv_in k_X9_improveTable 9 = some (.iload_n 1, 10, 0, 0, 0) := by unfold mv_in; rw [tb_X9_improveTable]; rfl
theorem r_X9_improveTable_10 : mv_in k_X9_improveTable 10 = some (.if_icmp .lt 34, 13, 44, 0, 0) := by unfold mv_in; rw [tb_X9_improveTable]; rfl
theorem r_X9_improveTable_13 : mv_in k_X9_improveTable 13 = some (.aload_n 0, 14, 0, 0, 0) := by unfold mv_in; rw [tb_X9_improveTable]; rfl
theorem r_X9_improveTable_14 : mv_in k_X9_improveTable 14 = some (.getfield 22, 17, 6, 3, 232) := by unfold mv_in; rw [tb_X9_improveTable]; rfl
theorem r_X9_improveTable_17 : mv_in k_X9_improveTable 17 = some (.iload_n 3, 18, 0, 0, 0) := by unfold mv_in; rw [tb_X9_improveTable]; rfl
theorem r_X9_improveTable_18 : mv_in k_X9_improveTable 18 = some (.aload_n 0, 19, 0, 0, 0) := by unfold mv_in; rw [tb_X9_improveTable]; rfl
theorem r_X9_improveTable_19 : mv_in k_X9_improveTable 19 = some (.getfield 22, 22, 6, 3, 232) := by unfold mv_in; rw [tb_X9_improveTable]; rfl
theorem r_X9_improveTable_22 : mv_in k_X9_improveTable 22 = some (.iload_n 3, 23, 0, 0, 0) := by unfold mv_in; rw [tb_X9_improveTable]; rfl
theorem r_X9_improveTable_23 : mv_in k_X9_improveTable 23 = some (.iaload, 24, 0, 0, 0) := by unfold mv_in; rw [tb_X9_improveTable]; rfl
theorem r_X9_improveTable_24 : mv_in k_X9_improveTable 24 = some (.aload_n 0, 25, 0, 0, 0) := by unfold mv_in; rw [tb_X9_improveTable]; rfl
theorem r_X9_improveTable_25 : mv_in k_X9_improveTable 25 = some (.getfield 22, 28, 6, 3, 232) := by unfold mv_in; rw [tb_X9_improveTable]; rfl
theorem r_X9_improveTable_28 : mv_in k_X9_improveTable 28 = some (.iload_n 3, 29, 0, 0, 0) := by unfold mv_in; rw [tb_X9_improveTable]; rfl
theorem r_X9_improveTable_29 : mv_in k_X9_improveTable 29 = some (.iload_n 1, 30, 0, 0, 0) := by unfold mv_in; rw [tb_X9_improveTable]; rfl
theorem r_X9_improveTable_30 : mv_in k_X9_improveTable 30 = some (.isub, 31, 0, 0, 0) := by unfold mv_in; rw [tb_X9_improveTable]; rfl
theorem r_X9_improveTable_31 : mv_in k_X9_improveTable 31 = some (.iaload, 32, 0, 0, 0) := by unfold mv_in; rw [tb_X9_improveTable]; rfl
theorem r_X9_improveTable_32 : mv_in k_X9_improveTable 32 = some (.iload_n 2, 33, 0, 0, 0) := by unfold mv_in; rw [tb_X9_improveTable]; rfl
theorem r_X9_improveTable_33 : mv_in k_X9_improveTable 33 = some (.iadd, 34, 0, 0, 0) := by unfold mv_in; rw [tb_X9_improveTable]; rfl
theorem r_X9_improveTable_34 : mv_in k_X9_improveTable 34 = some (.invokestatic 29, 37, 901, 2, 702) := by unfold mv_in; rw [tb_X9_improveTable]; rfl
theorem r_X9_improveTable_37 : mv_in k_X9_improveTable 37 = some (.iastore, 38, 0, 0, 0) := by unfold mv_in; rw [tb_X9_improveTable]; rfl
theorem r_X9_improveTable_38 : mv_in k_X9_improveTable 38 = some (.iinc 3 (-1), 41, 0, 0, 0) := by unfold mv_in; rw [tb_X9_improveTable]; rfl
theorem r_X9_improveTable_41 : mv_in k_X9_improveTable 41 = some (.goto (-33), 44, 8, 0, 0) := by unfold mv_in; rw [tb_X9_improveTable]; rfl
theorem r_X9_improveTable_44 : mv_in k_X9_improveTable 44 = some (.return_, 45, 0, 0, 0) := by unfold mv_in; rw [tb_X9_improveTable]; rfl
theorem nh_X9_improveTable : mv_nh k_X9_improveTable = true := rfl
theorem tb_X9_bestByTable : mv_tb k_X9_bestByTable = t_X9_bestByTable := rfl
theorem r_X9_bestByTable_0 : mv_in k_X9_bestByTable 0 = some (.iconst 0, 1, 0, 0, 0) := by unfold mv_in; rw [tb_X9_bestByTable]; rfl
theorem r_X9_bestByTable_1 : mv_in k_X9_bestByTable 1 = some (.istore_n 2, 2, 0, 0, 0) := by unfold mv_in; rw [tb_X9_bestByTable]; rfl
theorem r_X9_bestByTable_2 : mv_in k_X9_bestByTable 2 = some (.iload_n 2, 3, 0, 0, 0) := by unfold mv_in; rw [tb_X9_bestByTable]; rfl
theorem r_X9_bestByTable_3 : mv_in k_X9_bestByTable 3 = some (.aload_n 0, 4, 0, 0, 0) := by unfold mv_in; rw [tb_X9_bestByTable]; rfl
theorem r_X9_bestByTable_4 : mv_in k_X9_bestByTable 4 = some (.getfield 22, 7, 6, 3, 232) := by unfold mv_in; rw [tb_X9_bestByTable]; rfl
theorem r_X9_bestByTable_7 : mv_in k_X9_bestByTable 7 = some (.arraylength, 8, 0, 0, 0) := by unfold mv_in; rw [tb_X9_bestByTable]; rfl
theorem r_X9_bestByTable_8 : mv_in k_X9_bestByTable 8 = some (.if_icmp .ge 16, 11, 24, 0, 0) := by unfold mv_in; rw [tb_X9_bestByTable]; rfl
theorem r_X9_bestByTable_11 : mv_in k_X9_bestByTable 11 = some (.aload_n 0, 12, 0, 0, 0) := by unfold mv_in; rw [tb_X9_bestByTable]; rfl
theorem r_X9_bestByTable_12 : mv_in k_X9_bestByTable 12 = some (.getfield 22, 15, 6, 3, 232) := by unfold mv_in; rw [tb_X9_bestByTable]; rfl
theorem r_X9_bestByTable_15 : mv_in k_X9_bestByTable 15 = some (.iload_n 2, 16, 0, 0, 0) := by unfold mv_in; rw [tb_X9_bestByTable]; rfl
theorem r_X9_bestByTable_16 : mv_in k_X9_bestByTable 16 = some (.iconst 0, 17, 0, 0, 0) := by unfold mv_in; rw [tb_X9_bestByTable]; rfl
theorem r_X9_bestByTable_17 : mv_in k_X9_bestByTable 17 = some (.iastore, 18, 0, 0, 0) := by unfold mv_in; rw [tb_X9_bestByTable]; rfl
theorem r_X9_bestByTable_18 : mv_in k_X9_bestByTable 18 = some (.iinc 2 1, 21, 0, 0, 0) := by unfold mv_in; rw [tb_X9_bestByTable]; rfl
theorem r_X9_bestByTable_21 : mv_in k_X9_bestByTable 21 = some (.goto (-19), 24, 2, 0, 0) := by unfold mv_in; rw [tb_X9_bestByTable]; rfl
theorem r_X9_bestByTable_24 : mv_in k_X9_bestByTable 24 = some (.iconst 0, 25, 0, 0, 0) := by unfold mv_in; rw [tb_X9_bestByTable]; rfl
theorem r_X9_bestByTable_25 : mv_in k_X9_bestByTable 25 = some (.istore_n 2, 26, 0, 0, 0) := by unfold mv_in; rw [tb_X9_bestByTable]; rfl
theorem r_X9_bestByTable_26 : mv_in k_X9_bestByTable 26 = some (.iload_n 2, 27, 0, 0, 0) := by unfold mv_in; rw [tb_X9_bestByTable]; rfl
theorem r_X9_bestByTable_27 : mv_in k_X9_bestByTable 27 = some (.aload_n 0, 28, 0, 0, 0) := by unfold mv_in; rw [tb_X9_bestByTable]; rfl
theorem r_X9_bestByTable_28 : mv_in k_X9_bestByTable 28 = some (.getfield 18, 31, 6, 2, 230) := by unfold mv_in; rw [tb_X9_bestByTable]; rfl
theorem r_X9_bestByTable_31 : mv_in k_X9_bestByTable 31 = some (.if_icmp .ge 25, 34, 56, 0, 0) := by unfold mv_in; rw [tb_X9_bestByTable]; rfl
theorem r_X9_bestByTable_34 : mv_in k_X9_bestByTable 34 = some (.aload_n 0, 35, 0, 0, 0) := by unfold mv_in; rw [tb_X9_bestByTable]; rfl
theorem r_X9_bestByTable_35 : mv_in k_X9_bestByTable 35 = some (.aload_n 0, 36, 0, 0, 0) := by unfold mv_in; rw [tb_X9_bestByTable]; rfl
theorem r_X9_bestByTable_36 : mv_in k_X9_bestByTable 36 = some (.getfield 9, 39, 6, 0, 228) := by unfold mv_in; rw [tb_X9_bestByTable]; rfl
theorem r_X9_bestByTable_39 : mv_in k_X9_bestByTable 39 = some (.iload_n 2, 40, 0, 0, 0) := by unfold mv_in; rw [tb_X9_bestByTable]; rfl
theorem r_X9_bestByTable_40 : mv_in k_X9_bestByTable 40 = some (.iaload, 41, 0, 0, 0) := by unfold mv_in; rw [tb_X9_bestByTable]; rfl
theorem r_X9_bestByTable_41 : mv_in k_X9_bestByTable 41 = some (.aload_n 0, 42, 0, 0, 0) := by unfold mv_in; rw [tb_X9_bestByTable]; rfl
theorem r_X9_bestByTable_42 : mv_in k_X9_bestByTable 42 = some (.getfield 15, 45, 6, 1, 229) := by unfold mv_in; rw [tb_X9_bestByTable]; rfl
theorem r_X9_bestByTable_45 : mv_in k_X9_bestByTable 45 = some (.iload_n 2, 46, 0, 0, 0) := by unfold mv_in; rw [tb_X9_bestByTable]; rfl
theorem r_X9_bestByTable_46 : mv_in k_X9_bestByTable 46 = some (.iaload, 47, 0, 0, 0) := by unfold mv_in; rw [tb_X9_bestByTable]; rfl
theorem r_X9_bestByTable_47 : mv_in k_X9_bestByTable 47 = some (.invokevirtual 25, 50, k_X9_improveTable, 3, 698) := by unfold mv_in; rw [tb_X9_bestByTable]; rfl
theorem r_X9_bestByTable_50 : mv_in k_X9_bestByTable 50 = some (.iinc 2 1, 53, 0, 0, 0) := by unfold mv_in; rw [tb_X9_bestByTable]; rfl
theorem r_X9_bestByTable_53 : mv_in k_X9_bestByTable 53 = some (.goto (-27), 56, 26, 0, 0) := by unfold mv_in; rw [tb_X9_bestByTable]; rfl
theorem r_X9_bestByTable_56 : mv_in k_X9_bestByTable 56 = some (.iload_n 1, 57, 0, 0, 0) := by unfold mv_in; rw [tb_X9_bestByTable]; rfl
theorem r_X9_bestByTable_57 : mv_in k_X9_bestByTable 57 = some (.ifCond .lt 21, 60, 78, 0, 0) := by unfold mv_in; rw [tb_X9_bestByTable]; rfl
theorem r_X9_bestByTable_60 : mv_in k_X9_bestByTable 60 = some (.iload_n 1, 61, 0, 0, 0) := by unfold mv_in; rw [tb_X9_bestByTable]; rfl
theorem r_X9_bestByTable_61 : mv_in k_X9_bestByTable 61 = some (.aload_n 0, 62, 0, 0, 0) := by unfold mv_in; rw [tb_X9_bestByTable]; rfl
theorem r_X9_bestByTable_62 : mv_in k_X9_bestByTable 62 = some (.getfield 22, 65, 6, 3, 232) := by unfold mv_in; rw [tb_X9_bestByTable]; rfl
theorem r_X9_bestByTable_65 : mv_in k_X9_bestByTable 65 = some (.arraylength, 66, 0, 0, 0) := by unfold mv_in; rw [tb_X9_bestByTable]; rfl
theorem r_X9_bestByTable_66 : mv_in k_X9_bestByTable 66 = some (.if_icmp .ge 12, 69, 78, 0, 0) := by unfold mv_in; rw [tb_X9_bestByTable]; rfl
theorem r_X9_bestByTable_69 : mv_in k_X9_bestByTable 69 = some (.aload_n 0, 70, 0, 0, 0) := by unfold mv_in; rw [tb_X9_bestByTable]; rfl
theorem r_X9_bestByTable_70 : mv_in k_X9_bestByTable 70 = some (.getfield 22, 73, 6, 3, 232) := by unfold mv_in; rw [tb_X9_bestByTable]; rfl
theorem r_X9_bestByTable_73 : mv_in k_X9_bestByTable 73 = some (.iload_n 1, 74, 0, 0, 0) := by unfold mv_in; rw [tb_X9_bestByTable]; rfl
theorem r_X9_bestByTable_74 : mv_in k_X9_bestByTable 74 = some (.iaload, 75, 0, 0, 0) := by unfold mv_in; rw [tb_X9_bestByTable]; rfl
theorem r_X9_bestByTable_75 : mv_in k_X9_bestByTable 75 = some (.goto 4, 78, 79, 0, 0) := by unfold mv_in; rw [tb_X9_bestByTable]; rfl
theorem r_X9_bestByTable_78 : mv_in k_X9_bestByTable 78 = some (.iconst 0, 79, 0, 0, 0) := by unfold mv_in; rw [tb_X9_bestByTable]; rfl
theorem r_X9_bestByTable_79 : mv_in k_X9_bestByTable 79 = some (.ireturn, 80, 0, 0, 0) := by unfold mv_in; rw [tb_X9_bestByTable]; rfl
theorem nh_X9_bestByTable : mv_nh k_X9_bestByTable = true := rfl
theorem tb_X9_bestBySets : mv_tb k_X9_bestBySets = t_X9_bestBySets := rfl
theorem r_X9_bestBySets_0 : mv_in k_X9_bestBySets 0 = some (.iconst 0, 1, 0, 0, 0) := by unfold mv_in; rw [tb_X9_bestBySets]; rfl
theorem r_X9_bestBySets_1 : mv_in k_X9_bestBySets 1 = some (.istore_n 2, 2, 0, 0, 0) := by unfold mv_in; rw [tb_X9_bestBySets]; rfl
theorem r_X9_bestBySets_2 : mv_in k_X9_bestBySets 2 = some (.iconst 0, 3, 0, 0, 0) := by unfold mv_in; rw [tb_X9_bestBySets]; rfl
theorem r_X9_bestBySets_3 : mv_in k_X9_bestBySets 3 = some (.istore_n 3, 4, 0, 0, 0) := by unfold mv_in; rw [tb_X9_bestBySets]; rfl
theorem r_X9_bestBySets_4 : mv_in k_X9_bestBySets 4 = some (.iload_n 3, 5, 0, 0, 0) := by unfold mv_in; rw [tb_X9_bestBySets]; rfl
theorem r_X9_bestBySets_5 : mv_in k_X9_bestBySets 5 = some (.iconst 1, 6, 0, 0, 0) := by unfold mv_in; rw [tb_X9_bestBySets]; rfl
theorem r_X9_bestBySets_6 : mv_in k_X9_bestBySets 6 = some (.aload_n 0, 7, 0, 0, 0) := by unfold mv_in; rw [tb_X9_bestBySets]; rfl
theorem r_X9_bestBySets_7 : mv_in k_X9_bestBySets 7 = some (.getfield 18, 10, 6, 2, 230) := by unfold mv_in; rw [tb_X9_bestBySets]; rfl
theorem r_X9_bestBySets_10 : mv_in k_X9_bestBySets 10 = some (.ishl, 11, 0, 0, 0) := by unfold mv_in; rw [tb_X9_bestBySets]; rfl
theorem r_X9_bestBySets_11 : mv_in k_X9_bestBySets 11 = some (.if_icmp .ge 28, 14, 39, 0, 0) := by unfold mv_in; rw [tb_X9_bestBySets]; rfl
theorem r_X9_bestBySets_14 : mv_in k_X9_bestBySets 14 = some (.aload_n 0, 15, 0, 0, 0) := by unfold mv_in; rw [tb_X9_bestBySets]; rfl
theorem r_X9_bestBySets_15 : mv_in k_X9_bestBySets 15 = some (.iload_n 3, 16, 0, 0, 0) := by unfold mv_in; rw [tb_X9_bestBySets]; rfl
theorem r_X9_bestBySets_16 : mv_in k_X9_bestBySets 16 = some (.invokevirtual 35, 19, k_X9_bagsOfSet, 2, 713) := by unfold mv_in; rw [tb_X9_bestBySets]; rfl
theorem r_X9_bestBySets_19 : mv_in k_X9_bestBySets 19 = some (.iload_n 1, 20, 0, 0, 0) := by unfold mv_in; rw [tb_X9_bestBySets]; rfl
theorem r_X9_bestBySets_20 : mv_in k_X9_bestBySets 20 = some (.if_icmp .gt 13, 23, 33, 0, 0) := by unfold mv_in; rw [tb_X9_bestBySets]; rfl
theorem r_X9_bestBySets_23 : mv_in k_X9_bestBySets 23 = some (.iload_n 2, 24, 0, 0, 0) := by unfold mv_in; rw [tb_X9_bestBySets]; rfl
theorem r_X9_bestBySets_24 : mv_in k_X9_bestBySets 24 = some (.aload_n 0, 25, 0, 0, 0) := by unfold mv_in; rw [tb_X9_bestBySets]; rfl
theorem r_X9_bestBySets_25 : mv_in k_X9_bestBySets 25 = some (.iload_n 3, 26, 0, 0, 0) := by unfold mv_in; rw [tb_X9_bestBySets]; rfl
theorem r_X9_bestBySets_26 : mv_in k_X9_bestBySets 26 = some (.invokevirtual 39, 29, k_X9_valueOfSet, 2, 717) := by unfold mv_in; rw [tb_X9_bestBySets]; rfl
theorem r_X9_bestBySets_29 : mv_in k_X9_bestBySets 29 = some (.invokestatic 29, 32, 901, 2, 702) := by unfold mv_in; rw [tb_X9_bestBySets]; rfl
theorem r_X9_bestBySets_32 : mv_in k_X9_bestBySets 32 = some (.istore_n 2, 33, 0, 0, 0) := by unfold mv_in; rw [tb_X9_bestBySets]; rfl
theorem r_X9_bestBySets_33 : mv_in k_X9_bestBySets 33 = some (.iinc 3 1, 36, 0, 0, 0) := by unfold mv_in; rw [tb_X9_bestBySets]; rfl
theorem r_X9_bestBySets_36 : mv_in k_X9_bestBySets 36 = some (.goto (-32), 39, 4, 0, 0) := by unfold mv_in; rw [tb_X9_bestBySets]; rfl
theorem r_X9_bestBySets_39 : mv_in k_X9_bestBySets 39 = some (.iload_n 2, 40, 0, 0, 0) := by unfold mv_in; rw [tb_X9_bestBySets]; rfl
theorem r_X9_bestBySets_40 : mv_in k_X9_bestBySets 40 = some (.ireturn, 41, 0, 0, 0) := by unfold mv_in; rw [tb_X9_bestBySets]; rfl
theorem nh_X9_bestBySets : mv_nh k_X9_bestBySets = true := rfl
theorem tb_X9_bagsOfSet : mv_tb k_X9_bagsOfSet = t_X9_bagsOfSet := rfl
theorem r_X9_bagsOfSet_0 : mv_in k_X9_bagsOfSet 0 = some (.iconst 0, 1, 0, 0, 0) := by unfold mv_in; rw [tb_X9_bagsOfSet]; rfl
theorem r_X9_bagsOfSet_1 : mv_in k_X9_bagsOfSet 1 = some (.istore_n 2, 2, 0, 0, 0) := by unfold mv_in; rw [tb_X9_bagsOfSet]; rfl
theorem r_X9_bagsOfSet_2 : mv_in k_X9_bagsOfSet 2 = some (.iconst 0, 3, 0, 0, 0) := by unfold mv_in; rw [tb_X9_bagsOfSet]; rfl
theorem r_X9_bagsOfSet_3 : mv_in k_X9_bagsOfSet 3 = some (.istore_n 3, 4, 0, 0, 0) := by unfold mv_in; rw [tb_X9_bagsOfSet]; rfl
theorem r_X9_bagsOfSet_4 : mv_in k_X9_bagsOfSet 4 = some (.iload_n 3, 5, 0, 0, 0) := by unfold mv_in; rw [tb_X9_bagsOfSet]; rfl
theorem r_X9_bagsOfSet_5 : mv_in k_X9_bagsOfSet 5 = some (.aload_n 0, 6, 0, 0, 0) := by unfold mv_in; rw [tb_X9_bagsOfSet]; rfl
theorem r_X9_bagsOfSet_6 : mv_in k_X9_bagsOfSet 6 = some (.getfield 18, 9, 6, 2, 230) := by unfold mv_in; rw [tb_X9_bagsOfSet]; rfl
theorem r_X9_bagsOfSet_9 : mv_in k_X9_bagsOfSet 9 = some (.if_icmp .ge 27, 12, 36, 0, 0) := by unfold mv_in; rw [tb_X9_bagsOfSet]; rfl
theorem r_X9_bagsOfSet_12 : mv_in k_X9_bagsOfSet 12 = some (.iload_n 1, 13, 0, 0, 0) := by unfold mv_in; rw [tb_X9_bagsOfSet]; rfl
theorem r_X9_bagsOfSet_13 : mv_in k_X9_bagsOfSet 13 = some (.iload_n 3, 14, 0, 0, 0) := by unfold mv_in; rw [tb_X9_bagsOfSet]; rfl
theorem r_X9_bagsOfSet_14 : mv_in k_X9_bagsOfSet 14 = some (.ishr, 15, 0, 0, 0) := by unfold mv_in; rw [tb_X9_bagsOfSet]; rfl
theorem r_X9_bagsOfSet_15 : mv_in k_X9_bagsOfSet 15 = some (.iconst 1, 16, 0, 0, 0) := by unfold mv_in; rw [tb_X9_bagsOfSet]; rfl
theorem r_X9_bagsOfSet_16 : mv_in k_X9_bagsOfSet 16 = some (.iand, 17, 0, 0, 0) := by unfold mv_in; rw [tb_X9_bagsOfSet]; rfl
theorem r_X9_bagsOfSet_17 : mv_in k_X9_bagsOfSet 17 = some (.iconst 1, 18, 0, 0, 0) := by unfold mv_in; rw [tb_X9_bagsOfSet]; rfl
theorem r_X9_bagsOfSet_18 : mv_in k_X9_bagsOfSet 18 = some (.if_icmp .ne 12, 21, 30, 0, 0) := by unfold mv_in; rw [tb_X9_bagsOfSet]; rfl
theorem r_X9_bagsOfSet_21 : mv_in k_X9_bagsOfSet 21 = some (.iload_n 2, 22, 0, 0, 0) := by unfold mv_in; rw [tb_X9_bagsOfSet]; rfl
theorem r_X9_bagsOfSet_22 : mv_in k_X9_bagsOfSet 22 = some (.aload_n 0, 23, 0, 0, 0) := by unfold mv_in; rw [tb_X9_bagsOfSet]; rfl
theorem r_X9_bagsOfSet_23 : mv_in k_X9_bagsOfSet 23 = some (.getfield 9, 26, 6, 0, 228) := by unfold mv_in; rw [tb_X9_bagsOfSet]; rfl
theorem r_X9_bagsOfSet_26 : mv_in k_X9_bagsOfSet 26 = some (.iload_n 3, 27, 0, 0, 0) := by unfold mv_in; rw [tb_X9_bagsOfSet]; rfl
theorem r_X9_bagsOfSet_27 : mv_in k_X9_bagsOfSet 27 = some (.iaload, 28, 0, 0, 0) := by unfold mv_in; rw [tb_X9_bagsOfSet]; rfl
theorem r_X9_bagsOfSet_28 : mv_in k_X9_bagsOfSet 28 = some (.iadd, 29, 0, 0, 0) := by unfold mv_in; rw [tb_X9_bagsOfSet]; rfl
theorem r_X9_bagsOfSet_29 : mv_in k_X9_bagsOfSet 29 = some (.istore_n 2, 30, 0, 0, 0) := by unfold mv_in; rw [tb_X9_bagsOfSet]; rfl
theorem r_X9_bagsOfSet_30 : mv_in k_X9_bagsOfSet 30 = some (.iinc 3 1, 33, 0, 0, 0) := by unfold mv_in; rw [tb_X9_bagsOfSet]; rfl
theorem r_X9_bagsOfSet_33 : mv_in k_X9_bagsOfSet 33 = some (.goto (-29), 36, 4, 0, 0) := by unfold mv_in; rw [tb_X9_bagsOfSet]; rfl
theorem r_X9_bagsOfSet_36 : mv_in k_X9_bagsOfSet 36 = some (.iload_n 2, 37, 0, 0, 0) := by unfold mv_in; rw [tb_X9_bagsOfSet]; rfl
theorem r_X9_bagsOfSet_37 : mv_in k_X9_bagsOfSet 37 = some (.ireturn, 38, 0, 0, 0) := by unfold mv_in; rw [tb_X9_bagsOfSet]; rfl
theorem nh_X9_bagsOfSet : mv_nh k_X9_bagsOfSet = true := rfl
theorem tb_X9_valueOfSet : mv_tb k_X9_valueOfSet = t_X9_valueOfSet := rfl
theorem r_X9_valueOfSet_0 : mv_in k_X9_valueOfSet 0 = some (.iconst 0, 1, 0, 0, 0) := by unfold mv_in; rw [tb_X9_valueOfSet]; rfl
theorem r_X9_valueOfSet_1 : mv_in k_X9_valueOfSet 1 = some (.istore_n 2, 2, 0, 0, 0) := by unfold mv_in; rw [tb_X9_valueOfSet]; rfl
theorem r_X9_valueOfSet_2 : mv_in k_X9_valueOfSet 2 = some (.iconst 0, 3, 0, 0, 0) := by unfold mv_in; rw [tb_X9_valueOfSet]; rfl
theorem r_X9_valueOfSet_3 : mv_in k_X9_valueOfSet 3 = some (.istore_n 3, 4, 0, 0, 0) := by unfold mv_in; rw [tb_X9_valueOfSet]; rfl
theorem r_X9_valueOfSet_4 : mv_in k_X9_valueOfSet 4 = some (.iload_n 3, 5, 0, 0, 0) := by unfold mv_in; rw [tb_X9_valueOfSet]; rfl
theorem r_X9_valueOfSet_5 : mv_in k_X9_valueOfSet 5 = some (.aload_n 0, 6, 0, 0, 0) := by unfold mv_in; rw [tb_X9_valueOfSet]; rfl
theorem r_X9_valueOfSet_6 : mv_in k_X9_valueOfSet 6 = some (.getfield 18, 9, 6, 2, 230) := by unfold mv_in; rw [tb_X9_valueOfSet]; rfl
theorem r_X9_valueOfSet_9 : mv_in k_X9_valueOfSet 9 = some (.if_icmp .ge 27, 12, 36, 0, 0) := by unfold mv_in; rw [tb_X9_valueOfSet]; rfl
theorem r_X9_valueOfSet_12 : mv_in k_X9_valueOfSet 12 = some (.iload_n 1, 13, 0, 0, 0) := by unfold mv_in; rw [tb_X9_valueOfSet]; rfl
theorem r_X9_valueOfSet_13 : mv_in k_X9_valueOfSet 13 = some (.iload_n 3, 14, 0, 0, 0) := by unfold mv_in; rw [tb_X9_valueOfSet]; rfl
theorem r_X9_valueOfSet_14 : mv_in k_X9_valueOfSet 14 = some (.ishr, 15, 0, 0, 0) := by unfold mv_in; rw [tb_X9_valueOfSet]; rfl
theorem r_X9_valueOfSet_15 : mv_in k_X9_valueOfSet 15 = some (.iconst 1, 16, 0, 0, 0) := by unfold mv_in; rw [tb_X9_valueOfSet]; rfl
theorem r_X9_valueOfSet_16 : mv_in k_X9_valueOfSet 16 = some (.iand, 17, 0, 0, 0) := by unfold mv_in; rw [tb_X9_valueOfSet]; rfl
theorem r_X9_valueOfSet_17 : mv_in k_X9_valueOfSet 17 = some (.iconst 1, 18, 0, 0, 0) := by unfold mv_in; rw [tb_X9_valueOfSet]; rfl
theorem r_X9_valueOfSet_18 : mv_in k_X9_valueOfSet 18 = some (.if_icmp .ne 12, 21, 30, 0, 0) := by unfold mv_in; rw [tb_X9_valueOfSet]; rfl
theorem r_X9_valueOfSet_21 : mv_in k_X9_valueOfSet 21 = some (.iload_n 2, 22, 0, 0, 0) := by unfold mv_in; rw [tb_X9_valueOfSet]; rfl
theorem r_X9_valueOfSet_22 : mv_in k_X9_valueOfSet 22 = some (.aload_n 0, 23, 0, 0, 0) := by unfold mv_in; rw [tb_X9_valueOfSet]; rfl
theorem r_X9_valueOfSet_23 : mv_in k_X9_valueOfSet 23 = some (.getfield 15, 26, 6, 1, 229) := by unfold mv_in; rw [tb_X9_valueOfSet]; rfl
theorem r_X9_valueOfSet_26 : mv_in k_X9_valueOfSet 26 = some (.iload_n 3, 27, 0, 0, 0) := by unfold mv_in; rw [tb_X9_valueOfSet]; rfl
theorem r_X9_valueOfSet_27 : mv_in k_X9_valueOfSet 27 = some (.iaload, 28, 0, 0, 0) := by unfold mv_in; rw [tb_X9_valueOfSet]; rfl
theorem r_X9_valueOfSet_28 : mv_in k_X9_valueOfSet 28 = some (.iadd, 29, 0, 0, 0) := by unfold mv_in; rw [tb_X9_valueOfSet]; rfl
theorem r_X9_valueOfSet_29 : mv_in k_X9_valueOfSet 29 = some (.istore_n 2, 30, 0, 0, 0) := by unfold mv_in; rw [tb_X9_valueOfSet]; rfl
theorem r_X9_valueOfSet_30 : mv_in k_X9_valueOfSet 30 = some (.iinc 3 1, 33, 0, 0, 0) := by unfold mv_in; rw [tb_X9_valueOfSet]; rfl
theorem r_X9_valueOfSet_33 : mv_in k_X9_valueOfSet 33 = some (.goto (-29), 36, 4, 0, 0) := by unfold mv_in; rw [tb_X9_valueOfSet]; rfl
theorem r_X9_valueOfSet_36 : mv_in k_X9_valueOfSet 36 = some (.iload_n 2, 37, 0, 0, 0) := by unfold mv_in; rw [tb_X9_valueOfSet]; rfl
theorem r_X9_valueOfSet_37 : mv_in k_X9_valueOfSet 37 = some (.ireturn, 38, 0, 0, 0) := by unfold mv_in; rw [tb_X9_valueOfSet]; rfl
theorem nh_X9_valueOfSet : mv_nh k_X9_valueOfSet = true := rfl
section KV
variable {L : Nat} {xs : Nat → Int32}
theorem kv_X9_include {v0 : Int32} {v1 : Int32} {q nx w : Nat} {ls : mv_V} {st : List Value} {t : Nat} {h : mv_H} : mv_stp L xs (.invokevirtual q, nx, k_X9_include, 3, w) ls (.int v1 :: .int v0 :: .ref 133 :: st) (t, 142, h) = if mv_cs st ≤ 8 then some (.inr (.inr (k_X9_include, [.ref 133, .int v0, .int v1], st))) else none := by
  exact cl_any (nx := nx) (ls := ls) (kk := 1) (as := [.ref 133, .int v0, .int v1]) (by decide) rfl rfl (.inr ((by decide : mv_is 142 133 6 = true)))
theorem kv_X9_sumOfBags  {q nx w : Nat} {ls : mv_V} {st : List Value} {t : Nat} {h : mv_H} : mv_stp L xs (.invokevirtual q, nx, k_X9_sumOfBags, 1, w) ls (.ref 133 :: st) (t, 142, h) = if mv_cs st ≤ 8 then some (.inr (.inr (k_X9_sumOfBags, [.ref 133], st))) else none := by
  exact cl_any (nx := nx) (ls := ls) (kk := 1) (as := [.ref 133]) (by decide) rfl rfl (.inr ((by decide : mv_is 142 133 6 = true)))
theorem kv_X9_improveTable {v0 : Int32} {v1 : Int32} {q nx w : Nat} {ls : mv_V} {st : List Value} {t : Nat} {h : mv_H} : mv_stp L xs (.invokevirtual q, nx, k_X9_improveTable, 3, w) ls (.int v1 :: .int v0 :: .ref 133 :: st) (t, 142, h) = if mv_cs st ≤ 8 then some (.inr (.inr (k_X9_improveTable, [.ref 133, .int v0, .int v1], st))) else none := by
  exact cl_any (nx := nx) (ls := ls) (kk := 1) (as := [.ref 133, .int v0, .int v1]) (by decide) rfl rfl (.inr ((by decide : mv_is 142 133 6 = true)))
theorem kv_X9_bestByTable {v0 : Int32} {q nx w : Nat} {ls : mv_V} {st : List Value} {t : Nat} {h : mv_H} : mv_stp L xs (.invokevirtual q, nx, k_X9_bestByTable, 2, w) ls (.int v0 :: .ref 133 :: st) (t, 142, h) = if mv_cs st ≤ 8 then some (.inr (.inr (k_X9_bestByTable, [.ref 133, .int v0], st))) else none := by
  exact cl_any (nx := nx) (ls := ls) (kk := 1) (as := [.ref 133, .int v0]) (by decide) rfl rfl (.inr ((by decide : mv_is 142 133 6 = true)))
theorem kv_X9_bestBySets {v0 : Int32} {q nx w : Nat} {ls : mv_V} {st : List Value} {t : Nat} {h : mv_H} : mv_stp L xs (.invokevirtual q, nx, k_X9_bestBySets, 2, w) ls (.int v0 :: .ref 133 :: st) (t, 142, h) = if mv_cs st ≤ 8 then some (.inr (.inr (k_X9_bestBySets, [.ref 133, .int v0], st))) else none := by
  exact cl_any (nx := nx) (ls := ls) (kk := 1) (as := [.ref 133, .int v0]) (by decide) rfl rfl (.inr ((by decide : mv_is 142 133 6 = true)))
theorem kv_X9_bagsOfSet {v0 : Int32} {q nx w : Nat} {ls : mv_V} {st : List Value} {t : Nat} {h : mv_H} : mv_stp L xs (.invokevirtual q, nx, k_X9_bagsOfSet, 2, w) ls (.int v0 :: .ref 133 :: st) (t, 142, h) = if mv_cs st ≤ 8 then some (.inr (.inr (k_X9_bagsOfSet, [.ref 133, .int v0], st))) else none := by
  exact cl_any (nx := nx) (ls := ls) (kk := 1) (as := [.ref 133, .int v0]) (by decide) rfl rfl (.inr ((by decide : mv_is 142 133 6 = true)))
theorem kv_X9_valueOfSet {v0 : Int32} {q nx w : Nat} {ls : mv_V} {st : List Value} {t : Nat} {h : mv_H} : mv_stp L xs (.invokevirtual q, nx, k_X9_valueOfSet, 2, w) ls (.int v0 :: .ref 133 :: st) (t, 142, h) = if mv_cs st ≤ 8 then some (.inr (.inr (k_X9_valueOfSet, [.ref 133, .int v0], st))) else none := by
  exact cl_any (nx := nx) (ls := ls) (kk := 1) (as := [.ref 133, .int v0]) (by decide) rfl rfl (.inr ((by decide : mv_is 142 133 6 = true)))
end KV
def zK (b v : Int → Int) : Nat → Int → Int
  | 0, _ => 0
  | n + 1, g => if b n ≤ g then max (zK b v n g) (zK b v n (g - b n) + v n) else zK b v n g
theorem zK_bd {b v : Int → Int} : ∀ (n : Nat) (g : Int), (∀ k : Nat, k < n → 0 ≤ v k ∧ v k ≤ 99) → 0 ≤ zK b v n g ∧ zK b v n g ≤ 99 * n
  | 0, _, _ => by rw [zK]; omega
  | n + 1, g, h => by
    have h1 := zK_bd (b := b) n g (fun k hk => h k (by omega))
    have h2 := zK_bd (b := b) n (g - b n) (fun k hk => h k (by omega))
    have h3 := h n (by omega)
    rw [zK]
    split <;> omega
theorem zK_congr {b v b2 v2 : Int → Int} : ∀ (n : Nat) (g : Int), (∀ k : Nat, k < n → b k = b2 k ∧ v k = v2 k) → zK b v n g = zK b2 v2 n g
  | 0, _, _ => rfl
  | n + 1, g, h => by
    rw [zK, zK, (h n (by omega)).1, (h n (by omega)).2, zK_congr n g (fun k hk => h k (by omega)), zK_congr n (g - b2 n) (fun k hk => h k (by omega))]
theorem zSf_snoc (f : Int → Int) : ∀ (n : Nat) (k s : Int), zSf f (n + 1) k s = zSf f n k s + f (k + n)
  | 0, k, s => by
    rw [zSf, zSf, zSf]
    simp
  | n + 1, k, s => by
    rw [zSf, zSf_snoc f n (k + 1) (s + f k), zSf, show k + 1 + (n : Int) = k + ((n + 1 : Nat) : Int) by omega]
theorem zbt_n (s k : Nat) : zbt (s : Int) (k : Int) = ((s / 2 ^ k % 2 : Nat) : Int) := by unfold zbt; rw [Int.toNat_natCast, Int.toNat_natCast]
theorem zbt_lo {n : Nat} (hn : n < 5) {s k : Nat} (hs : s < 2 ^ n) (hk : k < n) : zbt ((s + 2 ^ n : Nat) : Int) (k : Int) = zbt (s : Int) (k : Int) := by
  have h : ∀ n, n < 5 → ∀ s, s < 2 ^ n → ∀ k, k < n → (s + 2 ^ n) / 2 ^ k % 2 = s / 2 ^ k % 2 := by decide +kernel
  rw [zbt_n, zbt_n, h n hn s hs k hk]
theorem zbt_hi {n : Nat} (hn : n < 5) {s : Nat} (hs : s < 2 ^ n) : zbt ((s + 2 ^ n : Nat) : Int) (n : Int) = 1 := by
  have h : ∀ n, n < 5 → ∀ s, s < 2 ^ n → (s + 2 ^ n) / 2 ^ n % 2 = 1 := by decide +kernel
  rw [zbt_n, h n hn s hs]
  rfl
theorem zbt_no {n : Nat} (hn : n < 5) {s : Nat} (hs : s < 2 ^ n) : zbt (s : Int) (n : Int) = 0 := by
  have h : ∀ n, n < 5 → ∀ s, s < 2 ^ n → s / 2 ^ n % 2 = 0 := by decide +kernel
  rw [zbt_n, h n hn s hs]
  rfl
theorem zCst_up (v : Int → Int) {n : Nat} (hn : n < 5) {s : Nat} (hs : s < 2 ^ n) : zCst v ((s + 2 ^ n : Nat) : Int) (n + 1) = zCst v s n + v n := by
  unfold zCst
  rw [zSf_snoc, Int.zero_add]
  rw [if_pos (zbt_hi hn hs)]
  congr 1
  refine zSf_congr n 0 0 (fun j h1 h2 => ?_)
  obtain ⟨j, rfl⟩ : ∃ k : Nat, j = k := ⟨j.toNat, by omega⟩
  show (if zbt _ _ = 1 then v j else 0) = (if zbt _ _ = 1 then v j else 0)
  rw [zbt_lo hn hs (by omega)]
theorem zCst_no (v : Int → Int) {n : Nat} (hn : n < 5) {s : Nat} (hs : s < 2 ^ n) : zCst v (s : Int) (n + 1) = zCst v s n := by
  unfold zCst
  rw [zSf_snoc, Int.zero_add, zbt_no hn hs]
  simp
theorem zK_sets {b v : Int → Int} : ∀ (n : Nat) (g : Int), n ≤ 5 → 0 ≤ g → (∀ k : Nat, k < n → 0 ≤ b k) → (∀ s : Nat, s < 2 ^ n → zCst b s n ≤ g → zCst v s n ≤ zK b v n g) ∧ ∃ s : Nat, s < 2 ^ n ∧ zCst b s n ≤ g ∧ zCst v s n = zK b v n g
  | 0, g, _, hg, _ => ⟨fun s _ _ => by unfold zCst zSf zK; omega, 0, by decide, by unfold zCst zSf; omega, by unfold zCst zSf zK; rfl⟩
  | n + 1, g, hn, hg, hb => by
    obtain ⟨h1, s1, h2, h3, h4⟩ := zK_sets (b := b) (v := v) n g (by omega) hg (fun k hk => hb k (by omega))
    have h2n : 2 ^ (n + 1) = 2 ^ n + 2 ^ n := by rw [Nat.pow_succ]; omega
    have hbn := hb n (by omega)
    have h0 : ∀ s : Nat, 0 ≤ zCst b s n := fun s => by
      unfold zCst
      have : ∀ (m : Nat) (k t : Int), 0 ≤ k → k + m ≤ n → 0 ≤ t → 0 ≤ zSf (fun k => if zbt s k = 1 then b k else 0) m k t := by
        intro m
        induction m with
        | zero => intro k t h1 h2 h3; rw [zSf]; exact h3
        | succ m ih =>
          intro k t h1 h2 h3
          rw [zSf]
          refine ih (k + 1) _ (by omega) (by omega) ?_
          have := hb k.toNat (by omega)
          rw [Int.toNat_of_nonneg h1] at this
          show 0 ≤ t + (if zbt s k = 1 then b k else 0)
          split <;> omega
      exact this n 0 0 (by omega) (by omega) (by omega)
    rw [zK]
    by_cases q : b n ≤ g
    · obtain ⟨g1, s2, g2, g3, g4⟩ := zK_sets (b := b) (v := v) n (g - b n) (by omega) (by omega) (fun k hk => hb k (by omega))
      rw [if_pos q]
      refine ⟨fun s hs hc => ?_, ?_⟩
      · by_cases hs2 : s < 2 ^ n
        · rw [zCst_no b (by omega) hs2] at hc
          rw [zCst_no v (by omega) hs2]
          have := h1 s hs2 hc
          omega
        · obtain ⟨s, rfl⟩ : ∃ t, s = t + 2 ^ n := ⟨s - 2 ^ n, by omega⟩
          rw [zCst_up b (by omega) (by omega)] at hc
          rw [zCst_up v (by omega) (by omega)]
          have := g1 s (by omega) (by omega)
          omega
      · by_cases m : zK b v n (g - b n) + v n ≤ zK b v n g
        · refine ⟨s1, by omega, ?_, ?_⟩
          · rw [zCst_no b (by omega) h2]; exact h3
          · rw [zCst_no v (by omega) h2, h4]; omega
        · refine ⟨s2 + 2 ^ n, by omega, ?_, ?_⟩
          · rw [zCst_up b (by omega) g2]; omega
          · rw [zCst_up v (by omega) g2, g4]; omega
    · rw [if_neg q]
      refine ⟨fun s hs hc => ?_, s1, by omega, ?_, ?_⟩
      · by_cases hs2 : s < 2 ^ n
        · rw [zCst_no b (by omega) hs2] at hc
          rw [zCst_no v (by omega) hs2]
          exact h1 s hs2 hc
        · obtain ⟨s, rfl⟩ : ∃ t, s = t + 2 ^ n := ⟨s - 2 ^ n, by omega⟩
          rw [zCst_up b (by omega) (by omega)] at hc
          have := h0 s
          omega
      · rw [zCst_no b (by omega) h2]; exact h3
      · rw [zCst_no v (by omega) h2]; exact h4
def zMy (b v : Int → Int) (g : Int) (N : Nat) : Nat → Int → Int → Int
  | 0, _, m => m
  | n + 1, s, m => zMy b v g N n (s + 1) (if zCst b s N ≤ g then max m (zCst v s N) else m)
theorem zMy_is {b v : Int → Int} {g : Int} {N : Nat} : ∀ (n : Nat) (s m : Int), m ≤ zMy b v g N n s m ∧ (∀ x, s ≤ x → x < s + n → zCst b x N ≤ g → zCst v x N ≤ zMy b v g N n s m) ∧ (zMy b v g N n s m = m ∨ ∃ x, s ≤ x ∧ x < s + n ∧ zCst b x N ≤ g ∧ zCst v x N = zMy b v g N n s m)
  | 0, s, m => ⟨by rw [zMy]; omega, fun x h1 h2 => by omega, .inl rfl⟩
  | n + 1, s, m => by
    rw [zMy]
    obtain ⟨h1, h2, h3⟩ := zMy_is (b := b) (v := v) (g := g) (N := N) n (s + 1) (if zCst b s N ≤ g then max m (zCst v s N) else m)
    generalize zMy b v g N n (s + 1) (if zCst b s N ≤ g then max m (zCst v s N) else m) = r at h1 h2 h3 ⊢
    refine ⟨by split at h1 <;> omega, fun x q1 q2 q3 => ?_, ?_⟩
    · by_cases e : x = s
      · subst e
        rw [if_pos q3] at h1
        omega
      · exact h2 x (by omega) (by omega) q3
    · rcases h3 with h3 | ⟨x, p1, p2, p3, p4⟩
      · split at h3
        · by_cases e : r = m
          · exact .inl e
          · exact .inr ⟨s, by omega, by omega, by assumption, by omega⟩
        · exact .inl h3
      · exact .inr ⟨x, by omega, by omega, p3, p4⟩
theorem zMy_K {b v : Int → Int} {n : Nat} {g : Int} (hn : n ≤ 5) (hg : 0 ≤ g) (hb : ∀ k : Nat, k < n → 0 ≤ b k) (hv : ∀ k : Nat, k < n → 0 ≤ v k ∧ v k ≤ 99) : zMy b v g n (2 ^ n) 0 0 = zK b v n g := by
  obtain ⟨h1, s1, h2, h3, h4⟩ := zK_sets (b := b) (v := v) n g hn hg hb
  obtain ⟨g1, g2, g3⟩ := zMy_is (b := b) (v := v) (g := g) (N := n) (2 ^ n) 0 0
  have k0 := (zK_bd (b := b) (v := v) n g hv).1
  have q1 := g2 s1 (by omega) (by omega) h3
  rcases g3 with g3 | ⟨x, p1, p2, p3, p4⟩
  · omega
  · obtain ⟨x, rfl⟩ : ∃ k : Nat, x = k := ⟨x.toNat, by omega⟩
    have := h1 x (by omega) p3
    omega
theorem zMx_My {b w : Int → Int} {g : Int} {N : Nat} : ∀ (n : Nat) (s m : Int), zMx b w g N n s m = zMy b (fun k => if 0 < b k then w k else 0) g N n s m
  | 0, _, _ => rfl
  | n + 1, s, m => by
    have e : zWth b w s N = zCst (fun k => if 0 < b k then w k else 0) s N := by
      unfold zWth zCst
      refine zSf_congr N 0 0 (fun j _ _ => ?_)
      show (if zbt s j = 1 ∧ 0 < b j then w j else 0) = (if zbt s j = 1 then (if 0 < b j then w j else 0) else 0)
      by_cases q1 : zbt s j = 1
      · by_cases q2 : 0 < b j
        · rw [if_pos ⟨q1, q2⟩, if_pos q1, if_pos q2]
        · rw [if_neg (fun h => q2 h.2), if_pos q1, if_neg q2]
      · rw [if_neg (fun h => q1 h.1), if_neg q1]
    rw [zMx, zMy, zMx_My n, e]
    congr 1
    split <;> split <;> omega
theorem zK_skip {b v : Int → Int} {n : Nat} {g : Int} (hg : 0 ≤ g) (h : b n = 0) (h2 : v n = 0) : zK b v (n + 1) g = zK b v n g := by
  rw [zK, h, h2, if_pos hg, Int.sub_zero]
  omega
section PRT
variable {L : Nat} {xs : Nat → Int32} {d t : Nat} {T : zT}
theorem c_X9_include (hd : 1 ≤ d) {c b v : Int} (hc : T.1 133 2 = c) (c0 : 0 ≤ c) (c5 : c < 5) : mv_cl L xs d k_X9_include [.ref 133, .int (Int32.ofInt b), .int (Int32.ofInt v)] (t, 142, mz T) = some (.inl none, (t, 142, mz (sD (sD (sD T 134 (upR (T.1 134) c b)) 135 (upR (T.1 135) c v)) 133 (upR (T.1 133) 2 (c + 1))))) := by
  obtain ⟨d, rfl⟩ : ∃ e, d = e + 1 := ⟨d - 1, by omega⟩
  apply mv_cl_of
  simp only [mv_il, Value.category, Nat.zero_add, Nat.reduceAdd]
  simp (disch := omega) only [mv_Ev_row r_X9_include_0, mv_Ev_row r_X9_include_1, mv_Ev_row r_X9_include_4, mv_Ev_row r_X9_include_5, mv_Ev_row r_X9_include_8, mv_Ev_row r_X9_include_9, mv_Ev_row r_X9_include_12, mv_Ev_row r_X9_include_13, mv_Ev_row r_X9_include_16, mv_Ev_row r_X9_include_17, mv_Ev_row r_X9_include_18, mv_Ev_row r_X9_include_19, mv_Ev_row r_X9_include_22, mv_Ev_row r_X9_include_23, mv_Ev_row r_X9_include_26, mv_Ev_row r_X9_include_27, mv_Ev_row r_X9_include_28, mv_Ev_row r_X9_include_29, mv_Ev_row r_X9_include_30, mv_Ev_row r_X9_include_33, mv_Ev_row r_X9_include_34, mv_Ev_row r_X9_include_35, mv_Ev_row r_X9_include_38, ea_aload_n, gg_6_2, ea_iconst, ea_icmp, gg_6_0, ea_iload_n, gg_6_1, ea_dup_i, ea_dup_r, ea_iadd, pp_6_2, ea_vret, ar_st0 ai_134, ar_st0 ai_135, cz_eq, cz_ne, cz_lt, cz_ge, cz_gt, cz_le, mv_ac, decide_eq_true_eq, not_true_eq_false, and_self, and_true, true_and, ea_2n, ea_2f, ea_2c, ea_if, if_pos, if_neg, mv_lk, mv_f1, mv_f2, Value.category, List.filter, ↓reduceIte, Nat.reduceEqDiff, Nat.reduceAdd, Nat.reduceLT, Nat.reduceBEq, Nat.zero_add, Nat.add_zero, Nat.zero_ne_one, Nat.one_ne_zero, Bool.not_true, Bool.not_false, Bool.and_true, Bool.true_and, Bool.and_false, Bool.false_and, BEq.rfl, beq_self_eq_true, Bool.false_eq_true, reduceCtorEq, not_false_eq_true, fv0, fv1, fv2, fv3, eb_l0, eb_l1, eb_l2, eb_l3, eb_l4, eb_l5, eb_s0, eb_s1, eb_s2, eb_s3, eb_s4, eb_s5, oz_add, oz_sub, oz_mul, oz_neg, ol_add, ol_sub, sD_eq, sD_sD, sD_ne, sD_in, sD_in2, sD_in3, upR_is, upR_ne, mk_v, mk_n, mk_x, mk_i, mv_cs, Nat.reduceLeDiff, mv_ch_z, nh_X9_include, hc]
theorem lp_X9_sum {c : Int} (hc : T.1 133 2 = c) (c5 : c ≤ 5) (hb : ∀ k, 0 ≤ k → k < c → 0 ≤ T.1 134 k ∧ T.1 134 k ≤ 1000000) : ∀ (n : Nat) (k s : Int), 0 ≤ k → k + n = c → 0 ≤ s → s ≤ 1000000 * k → mv_Ev L xs (mv_cl L xs d) k_X9_sumOfBags 4 [(2, .int (Int32.ofInt k)), (1, .int (Int32.ofInt s)), (0, .ref 133)] [] (t, 142, mz T) (.inl (some (.int (Int32.ofInt (zSf (T.1 134) n k s)))), (t, 142, mz T)) := by
  intro n
  induction n with
  | zero =>
    intro k s h0 hn s0 s1
    simp (disch := omega) only [mv_Ev_row r_X9_sumOfBags_0, mv_Ev_row r_X9_sumOfBags_1, mv_Ev_row r_X9_sumOfBags_2, mv_Ev_row r_X9_sumOfBags_3, mv_Ev_row r_X9_sumOfBags_4, mv_Ev_row r_X9_sumOfBags_5, mv_Ev_row r_X9_sumOfBags_6, mv_Ev_row r_X9_sumOfBags_9, mv_Ev_row r_X9_sumOfBags_12, mv_Ev_row r_X9_sumOfBags_13, mv_Ev_row r_X9_sumOfBags_14, mv_Ev_row r_X9_sumOfBags_17, mv_Ev_row r_X9_sumOfBags_18, mv_Ev_row r_X9_sumOfBags_19, mv_Ev_row r_X9_sumOfBags_20, mv_Ev_row r_X9_sumOfBags_21, mv_Ev_row r_X9_sumOfBags_24, mv_Ev_row r_X9_sumOfBags_27, mv_Ev_row r_X9_sumOfBags_28, ea_iconst, ea_istore_n, ea_iload_n, ea_aload_n, gg_6_2, ea_icmp, gg_6_0, ea_iadd, ea_iinc, eb_inc, ea_goto, ea_ireturn, ez_ret, ez_retc, ar_ld0 ai_134, cz_eq, cz_ne, cz_lt, cz_ge, cz_gt, cz_le, mv_ac, decide_eq_true_eq, not_true_eq_false, and_self, and_true, true_and, ea_2n, ea_2f, ea_2c, ea_if, if_pos, if_neg, mv_lk, mv_f1, mv_f2, Value.category, List.filter, ↓reduceIte, Nat.reduceEqDiff, Nat.reduceAdd, Nat.reduceLT, Nat.reduceBEq, Nat.zero_add, Nat.add_zero, Nat.zero_ne_one, Nat.one_ne_zero, Bool.not_true, Bool.not_false, Bool.and_true, Bool.true_and, Bool.and_false, Bool.false_and, BEq.rfl, beq_self_eq_true, Bool.false_eq_true, reduceCtorEq, not_false_eq_true, fv0, fv1, fv2, fv3, eb_l0, eb_l1, eb_l2, eb_l3, eb_l4, eb_l5, eb_s0, eb_s1, eb_s2, eb_s3, eb_s4, eb_s5, oz_add, oz_sub, oz_mul, oz_neg, ol_add, ol_sub, sD_eq, sD_sD, sD_ne, sD_in, sD_in2, sD_in3, upR_is, upR_ne, mk_v, mk_n, mk_x, mk_i, mv_cs, Nat.reduceLeDiff, mv_ch_z, nh_X9_sumOfBags, hc, zSf]
  | succ n ih =>
    intro k s h0 hn s0 s1
    have h := hb k h0 (by omega)
    rw [mv_Ev_row r_X9_sumOfBags_4]
    simp (disch := omega) only [mv_Ev_row r_X9_sumOfBags_0, mv_Ev_row r_X9_sumOfBags_1, mv_Ev_row r_X9_sumOfBags_2, mv_Ev_row r_X9_sumOfBags_3, mv_Ev_row r_X9_sumOfBags_5, mv_Ev_row r_X9_sumOfBags_6, mv_Ev_row r_X9_sumOfBags_9, mv_Ev_row r_X9_sumOfBags_12, mv_Ev_row r_X9_sumOfBags_13, mv_Ev_row r_X9_sumOfBags_14, mv_Ev_row r_X9_sumOfBags_17, mv_Ev_row r_X9_sumOfBags_18, mv_Ev_row r_X9_sumOfBags_19, mv_Ev_row r_X9_sumOfBags_20, mv_Ev_row r_X9_sumOfBags_21, mv_Ev_row r_X9_sumOfBags_24, mv_Ev_row r_X9_sumOfBags_27, mv_Ev_row r_X9_sumOfBags_28, ea_iconst, ea_istore_n, ea_iload_n, ea_aload_n, gg_6_2, ea_icmp, gg_6_0, ea_iadd, ea_iinc, eb_inc, ea_goto, ea_ireturn, ez_ret, ez_retc, ar_ld0 ai_134, cz_eq, cz_ne, cz_lt, cz_ge, cz_gt, cz_le, mv_ac, decide_eq_true_eq, not_true_eq_false, and_self, and_true, true_and, ea_2n, ea_2f, ea_2c, ea_if, if_pos, if_neg, mv_lk, mv_f1, mv_f2, Value.category, List.filter, ↓reduceIte, Nat.reduceEqDiff, Nat.reduceAdd, Nat.reduceLT, Nat.reduceBEq, Nat.zero_add, Nat.add_zero, Nat.zero_ne_one, Nat.one_ne_zero, Bool.not_true, Bool.not_false, Bool.and_true, Bool.true_and, Bool.and_false, Bool.false_and, BEq.rfl, beq_self_eq_true, Bool.false_eq_true, reduceCtorEq, not_false_eq_true, fv0, fv1, fv2, fv3, eb_l0, eb_l1, eb_l2, eb_l3, eb_l4, eb_l5, eb_s0, eb_s1, eb_s2, eb_s3, eb_s4, eb_s5, oz_add, oz_sub, oz_mul, oz_neg, ol_add, ol_sub, sD_eq, sD_sD, sD_ne, sD_in, sD_in2, sD_in3, upR_is, upR_ne, mk_v, mk_n, mk_x, mk_i, mv_cs, Nat.reduceLeDiff, mv_ch_z, nh_X9_sumOfBags, hc, zSf]
    exact mv_Es (ih (k + 1) _ (by omega) (by omega) (by omega) (by omega))
theorem c_X9_sumOfBags (hd : 1 ≤ d) {c : Int} (hc : T.1 133 2 = c) (c0 : 0 ≤ c) (c5 : c ≤ 5) (hb : ∀ k, 0 ≤ k → k < c → 0 ≤ T.1 134 k ∧ T.1 134 k ≤ 1000000) : mv_cl L xs d k_X9_sumOfBags [.ref 133] (t, 142, mz T) = some (.inl (some (.int (Int32.ofInt (zSf (T.1 134) c.toNat 0 0)))), (t, 142, mz T)) := by
  obtain ⟨d, rfl⟩ : ∃ e, d = e + 1 := ⟨d - 1, by omega⟩
  apply mv_cl_of
  simp only [mv_il, Value.category, Nat.zero_add, Nat.reduceAdd]
  simp (disch := omega) only [mv_Ev_row r_X9_sumOfBags_0, mv_Ev_row r_X9_sumOfBags_1, mv_Ev_row r_X9_sumOfBags_2, mv_Ev_row r_X9_sumOfBags_3, mv_Ev_row r_X9_sumOfBags_5, mv_Ev_row r_X9_sumOfBags_6, mv_Ev_row r_X9_sumOfBags_9, mv_Ev_row r_X9_sumOfBags_12, mv_Ev_row r_X9_sumOfBags_13, mv_Ev_row r_X9_sumOfBags_14, mv_Ev_row r_X9_sumOfBags_17, mv_Ev_row r_X9_sumOfBags_18, mv_Ev_row r_X9_sumOfBags_19, mv_Ev_row r_X9_sumOfBags_20, mv_Ev_row r_X9_sumOfBags_21, mv_Ev_row r_X9_sumOfBags_24, mv_Ev_row r_X9_sumOfBags_27, mv_Ev_row r_X9_sumOfBags_28, ea_iconst, ea_istore_n, ea_iload_n, ea_aload_n, gg_6_2, ea_icmp, gg_6_0, ea_iadd, ea_iinc, eb_inc, ea_goto, ea_ireturn, ez_ret, ez_retc, ar_ld0 ai_134, cz_eq, cz_ne, cz_lt, cz_ge, cz_gt, cz_le, mv_ac, decide_eq_true_eq, not_true_eq_false, and_self, and_true, true_and, ea_2n, ea_2f, ea_2c, ea_if, if_pos, if_neg, mv_lk, mv_f1, mv_f2, Value.category, List.filter, ↓reduceIte, Nat.reduceEqDiff, Nat.reduceAdd, Nat.reduceLT, Nat.reduceBEq, Nat.zero_add, Nat.add_zero, Nat.zero_ne_one, Nat.one_ne_zero, Bool.not_true, Bool.not_false, Bool.and_true, Bool.true_and, Bool.and_false, Bool.false_and, BEq.rfl, beq_self_eq_true, Bool.false_eq_true, reduceCtorEq, not_false_eq_true, fv0, fv1, fv2, fv3, eb_l0, eb_l1, eb_l2, eb_l3, eb_l4, eb_l5, eb_s0, eb_s1, eb_s2, eb_s3, eb_s4, eb_s5, oz_add, oz_sub, oz_mul, oz_neg, ol_add, ol_sub, sD_eq, sD_sD, sD_ne, sD_in, sD_in2, sD_in3, upR_is, upR_ne, mk_v, mk_n, mk_x, mk_i, mv_cs, Nat.reduceLeDiff, mv_ch_z, nh_X9_sumOfBags]
  exact mv_Es (lp_X9_sum hc c5 hb c.toNat 0 0 (by omega) (by omega) (by omega) (by omega))
theorem lp_X9_bags {c g : Int} (hc : T.1 133 2 = c) (c5 : c ≤ 5) (g0 : 0 ≤ g) (g32 : g < 32) (hb : ∀ k, 0 ≤ k → k < c → 0 ≤ T.1 134 k ∧ T.1 134 k ≤ 1000000) : ∀ (n : Nat) (k s : Int), 0 ≤ k → k + n = c → 0 ≤ s → s ≤ 1000000 * k → mv_Ev L xs (mv_cl L xs d) k_X9_bagsOfSet 4 [(3, .int (Int32.ofInt k)), (2, .int (Int32.ofInt s)), (0, .ref 133), (1, .int (Int32.ofInt g))] [] (t, 142, mz T) (.inl (some (.int (Int32.ofInt (zSf (fun k => if zbt g k = 1 then T.1 134 k else 0) n k s)))), (t, 142, mz T)) := by
  intro n
  induction n with
  | zero =>
    intro k s h0 hn s0 s1
    simp (disch := omega) only [mv_Ev_row r_X9_bagsOfSet_0, mv_Ev_row r_X9_bagsOfSet_1, mv_Ev_row r_X9_bagsOfSet_2, mv_Ev_row r_X9_bagsOfSet_3, mv_Ev_row r_X9_bagsOfSet_4, mv_Ev_row r_X9_bagsOfSet_5, mv_Ev_row r_X9_bagsOfSet_6, mv_Ev_row r_X9_bagsOfSet_9, mv_Ev_row r_X9_bagsOfSet_12, mv_Ev_row r_X9_bagsOfSet_13, mv_Ev_row r_X9_bagsOfSet_14, mv_Ev_row r_X9_bagsOfSet_15, mv_Ev_row r_X9_bagsOfSet_16, mv_Ev_row r_X9_bagsOfSet_17, mv_Ev_row r_X9_bagsOfSet_18, mv_Ev_row r_X9_bagsOfSet_21, mv_Ev_row r_X9_bagsOfSet_22, mv_Ev_row r_X9_bagsOfSet_23, mv_Ev_row r_X9_bagsOfSet_26, mv_Ev_row r_X9_bagsOfSet_27, mv_Ev_row r_X9_bagsOfSet_28, mv_Ev_row r_X9_bagsOfSet_29, mv_Ev_row r_X9_bagsOfSet_30, mv_Ev_row r_X9_bagsOfSet_33, mv_Ev_row r_X9_bagsOfSet_36, mv_Ev_row r_X9_bagsOfSet_37, ea_iconst, ea_istore_n, ea_iload_n, ea_aload_n, gg_6_2, ea_icmp, ea_ishr, ea_iand, gg_6_0, ea_iadd, ea_iinc, eb_inc, ea_goto, ea_ireturn, ez_ret, ez_retc, ar_ld0 ai_134, cz_eq, cz_ne, cz_lt, cz_ge, cz_gt, cz_le, mv_ac, decide_eq_true_eq, not_true_eq_false, and_self, and_true, true_and, ea_2n, ea_2f, ea_2c, ea_if, if_pos, if_neg, mv_lk, mv_f1, mv_f2, Value.category, List.filter, ↓reduceIte, Nat.reduceEqDiff, Nat.reduceAdd, Nat.reduceLT, Nat.reduceBEq, Nat.zero_add, Nat.add_zero, Nat.zero_ne_one, Nat.one_ne_zero, Bool.not_true, Bool.not_false, Bool.and_true, Bool.true_and, Bool.and_false, Bool.false_and, BEq.rfl, beq_self_eq_true, Bool.false_eq_true, reduceCtorEq, not_false_eq_true, fv0, fv1, fv2, fv3, eb_l0, eb_l1, eb_l2, eb_l3, eb_l4, eb_l5, eb_s0, eb_s1, eb_s2, eb_s3, eb_s4, eb_s5, oz_add, oz_sub, oz_mul, oz_neg, ol_add, ol_sub, sD_eq, sD_sD, sD_ne, sD_in, sD_in2, sD_in3, upR_is, upR_ne, mk_v, mk_n, mk_x, mk_i, mv_cs, Nat.reduceLeDiff, mv_ch_z, nh_X9_bagsOfSet, hc, zSf]
  | succ n ih =>
    intro k s h0 hn s0 s1
    have h := hb k h0 (by omega)
    rw [zSf]
    rcases zbt_01 g k with z | z
    · have q := ih (k + 1) s (by omega) (by omega) (by omega) (by omega)
      rw [show s + (fun k => if zbt g k = 1 then T.1 134 k else 0) k = s by show s + (if zbt g k = 1 then T.1 134 k else 0) = s; rw [if_neg (by omega)]; omega]
      rw [mv_Ev_row r_X9_bagsOfSet_4]
      simp (disch := omega) only [mv_Ev_row r_X9_bagsOfSet_0, mv_Ev_row r_X9_bagsOfSet_1, mv_Ev_row r_X9_bagsOfSet_2, mv_Ev_row r_X9_bagsOfSet_3, mv_Ev_row r_X9_bagsOfSet_5, mv_Ev_row r_X9_bagsOfSet_6, mv_Ev_row r_X9_bagsOfSet_9, mv_Ev_row r_X9_bagsOfSet_12, mv_Ev_row r_X9_bagsOfSet_13, mv_Ev_row r_X9_bagsOfSet_14, mv_Ev_row r_X9_bagsOfSet_15, mv_Ev_row r_X9_bagsOfSet_16, mv_Ev_row r_X9_bagsOfSet_17, mv_Ev_row r_X9_bagsOfSet_18, mv_Ev_row r_X9_bagsOfSet_21, mv_Ev_row r_X9_bagsOfSet_22, mv_Ev_row r_X9_bagsOfSet_23, mv_Ev_row r_X9_bagsOfSet_26, mv_Ev_row r_X9_bagsOfSet_27, mv_Ev_row r_X9_bagsOfSet_28, mv_Ev_row r_X9_bagsOfSet_29, mv_Ev_row r_X9_bagsOfSet_30, mv_Ev_row r_X9_bagsOfSet_33, mv_Ev_row r_X9_bagsOfSet_36, mv_Ev_row r_X9_bagsOfSet_37, ea_iconst, ea_istore_n, ea_iload_n, ea_aload_n, gg_6_2, ea_icmp, ea_ishr, ea_iand, gg_6_0, ea_iadd, ea_iinc, eb_inc, ea_goto, ea_ireturn, ez_ret, ez_retc, ar_ld0 ai_134, cz_eq, cz_ne, cz_lt, cz_ge, cz_gt, cz_le, mv_ac, decide_eq_true_eq, not_true_eq_false, and_self, and_true, true_and, ea_2n, ea_2f, ea_2c, ea_if, if_pos, if_neg, mv_lk, mv_f1, mv_f2, Value.category, List.filter, ↓reduceIte, Nat.reduceEqDiff, Nat.reduceAdd, Nat.reduceLT, Nat.reduceBEq, Nat.zero_add, Nat.add_zero, Nat.zero_ne_one, Nat.one_ne_zero, Bool.not_true, Bool.not_false, Bool.and_true, Bool.true_and, Bool.and_false, Bool.false_and, BEq.rfl, beq_self_eq_true, Bool.false_eq_true, reduceCtorEq, not_false_eq_true, fv0, fv1, fv2, fv3, eb_l0, eb_l1, eb_l2, eb_l3, eb_l4, eb_l5, eb_s0, eb_s1, eb_s2, eb_s3, eb_s4, eb_s5, oz_add, oz_sub, oz_mul, oz_neg, ol_add, ol_sub, sD_eq, sD_sD, sD_ne, sD_in, sD_in2, sD_in3, upR_is, upR_ne, mk_v, mk_n, mk_x, mk_i, mv_cs, Nat.reduceLeDiff, mv_ch_z, nh_X9_bagsOfSet, hc, bz_bit, z]
      exact mv_Es q
    · have q := ih (k + 1) (s + T.1 134 k) (by omega) (by omega) (by omega) (by omega)
      rw [show s + (fun k => if zbt g k = 1 then T.1 134 k else 0) k = s + T.1 134 k by show s + (if zbt g k = 1 then T.1 134 k else 0) = _; rw [if_pos z]]
      rw [mv_Ev_row r_X9_bagsOfSet_4]
      simp (disch := omega) only [mv_Ev_row r_X9_bagsOfSet_0, mv_Ev_row r_X9_bagsOfSet_1, mv_Ev_row r_X9_bagsOfSet_2, mv_Ev_row r_X9_bagsOfSet_3, mv_Ev_row r_X9_bagsOfSet_5, mv_Ev_row r_X9_bagsOfSet_6, mv_Ev_row r_X9_bagsOfSet_9, mv_Ev_row r_X9_bagsOfSet_12, mv_Ev_row r_X9_bagsOfSet_13, mv_Ev_row r_X9_bagsOfSet_14, mv_Ev_row r_X9_bagsOfSet_15, mv_Ev_row r_X9_bagsOfSet_16, mv_Ev_row r_X9_bagsOfSet_17, mv_Ev_row r_X9_bagsOfSet_18, mv_Ev_row r_X9_bagsOfSet_21, mv_Ev_row r_X9_bagsOfSet_22, mv_Ev_row r_X9_bagsOfSet_23, mv_Ev_row r_X9_bagsOfSet_26, mv_Ev_row r_X9_bagsOfSet_27, mv_Ev_row r_X9_bagsOfSet_28, mv_Ev_row r_X9_bagsOfSet_29, mv_Ev_row r_X9_bagsOfSet_30, mv_Ev_row r_X9_bagsOfSet_33, mv_Ev_row r_X9_bagsOfSet_36, mv_Ev_row r_X9_bagsOfSet_37, ea_iconst, ea_istore_n, ea_iload_n, ea_aload_n, gg_6_2, ea_icmp, ea_ishr, ea_iand, gg_6_0, ea_iadd, ea_iinc, eb_inc, ea_goto, ea_ireturn, ez_ret, ez_retc, ar_ld0 ai_134, cz_eq, cz_ne, cz_lt, cz_ge, cz_gt, cz_le, mv_ac, decide_eq_true_eq, not_true_eq_false, and_self, and_true, true_and, ea_2n, ea_2f, ea_2c, ea_if, if_pos, if_neg, mv_lk, mv_f1, mv_f2, Value.category, List.filter, ↓reduceIte, Nat.reduceEqDiff, Nat.reduceAdd, Nat.reduceLT, Nat.reduceBEq, Nat.zero_add, Nat.add_zero, Nat.zero_ne_one, Nat.one_ne_zero, Bool.not_true, Bool.not_false, Bool.and_true, Bool.true_and, Bool.and_false, Bool.false_and, BEq.rfl, beq_self_eq_true, Bool.false_eq_true, reduceCtorEq, not_false_eq_true, fv0, fv1, fv2, fv3, eb_l0, eb_l1, eb_l2, eb_l3, eb_l4, eb_l5, eb_s0, eb_s1, eb_s2, eb_s3, eb_s4, eb_s5, oz_add, oz_sub, oz_mul, oz_neg, ol_add, ol_sub, sD_eq, sD_sD, sD_ne, sD_in, sD_in2, sD_in3, upR_is, upR_ne, mk_v, mk_n, mk_x, mk_i, mv_cs, Nat.reduceLeDiff, mv_ch_z, nh_X9_bagsOfSet, hc, bz_bit, z]
      exact mv_Es q
theorem c_X9_bagsOfSet (hd : 1 ≤ d) {c g : Int} (hc : T.1 133 2 = c) (c0 : 0 ≤ c) (c5 : c ≤ 5) (g0 : 0 ≤ g) (g32 : g < 32) (hb : ∀ k, 0 ≤ k → k < c → 0 ≤ T.1 134 k ∧ T.1 134 k ≤ 1000000) : mv_cl L xs d k_X9_bagsOfSet [.ref 133, .int (Int32.ofInt g)] (t, 142, mz T) = some (.inl (some (.int (Int32.ofInt (zCst (T.1 134) g c.toNat)))), (t, 142, mz T)) := by
  obtain ⟨d, rfl⟩ : ∃ e, d = e + 1 := ⟨d - 1, by omega⟩
  apply mv_cl_of
  simp only [mv_il, Value.category, Nat.zero_add, Nat.reduceAdd]
  simp (disch := omega) only [mv_Ev_row r_X9_bagsOfSet_0, mv_Ev_row r_X9_bagsOfSet_1, mv_Ev_row r_X9_bagsOfSet_2, mv_Ev_row r_X9_bagsOfSet_3, mv_Ev_row r_X9_bagsOfSet_5, mv_Ev_row r_X9_bagsOfSet_6, mv_Ev_row r_X9_bagsOfSet_9, mv_Ev_row r_X9_bagsOfSet_12, mv_Ev_row r_X9_bagsOfSet_13, mv_Ev_row r_X9_bagsOfSet_14, mv_Ev_row r_X9_bagsOfSet_15, mv_Ev_row r_X9_bagsOfSet_16, mv_Ev_row r_X9_bagsOfSet_17, mv_Ev_row r_X9_bagsOfSet_18, mv_Ev_row r_X9_bagsOfSet_21, mv_Ev_row r_X9_bagsOfSet_22, mv_Ev_row r_X9_bagsOfSet_23, mv_Ev_row r_X9_bagsOfSet_26, mv_Ev_row r_X9_bagsOfSet_27, mv_Ev_row r_X9_bagsOfSet_28, mv_Ev_row r_X9_bagsOfSet_29, mv_Ev_row r_X9_bagsOfSet_30, mv_Ev_row r_X9_bagsOfSet_33, mv_Ev_row r_X9_bagsOfSet_36, mv_Ev_row r_X9_bagsOfSet_37, ea_iconst, ea_istore_n, ea_iload_n, ea_aload_n, gg_6_2, ea_icmp, ea_ishr, ea_iand, gg_6_0, ea_iadd, ea_iinc, eb_inc, ea_goto, ea_ireturn, ez_ret, ez_retc, ar_ld0 ai_134, cz_eq, cz_ne, cz_lt, cz_ge, cz_gt, cz_le, mv_ac, decide_eq_true_eq, not_true_eq_false, and_self, and_true, true_and, ea_2n, ea_2f, ea_2c, ea_if, if_pos, if_neg, mv_lk, mv_f1, mv_f2, Value.category, List.filter, ↓reduceIte, Nat.reduceEqDiff, Nat.reduceAdd, Nat.reduceLT, Nat.reduceBEq, Nat.zero_add, Nat.add_zero, Nat.zero_ne_one, Nat.one_ne_zero, Bool.not_true, Bool.not_false, Bool.and_true, Bool.true_and, Bool.and_false, Bool.false_and, BEq.rfl, beq_self_eq_true, Bool.false_eq_true, reduceCtorEq, not_false_eq_true, fv0, fv1, fv2, fv3, eb_l0, eb_l1, eb_l2, eb_l3, eb_l4, eb_l5, eb_s0, eb_s1, eb_s2, eb_s3, eb_s4, eb_s5, oz_add, oz_sub, oz_mul, oz_neg, ol_add, ol_sub, sD_eq, sD_sD, sD_ne, sD_in, sD_in2, sD_in3, upR_is, upR_ne, mk_v, mk_n, mk_x, mk_i, mv_cs, Nat.reduceLeDiff, mv_ch_z, nh_X9_bagsOfSet]
  exact mv_Es (lp_X9_bags hc c5 g0 g32 hb c.toNat 0 0 (by omega) (by omega) (by omega) (by omega))
theorem lp_X9_vals {c g : Int} (hc : T.1 133 2 = c) (c5 : c ≤ 5) (g0 : 0 ≤ g) (g32 : g < 32) (hb : ∀ k, 0 ≤ k → k < c → 0 ≤ T.1 135 k ∧ T.1 135 k ≤ 99) : ∀ (n : Nat) (k s : Int), 0 ≤ k → k + n = c → 0 ≤ s → s ≤ 99 * k → mv_Ev L xs (mv_cl L xs d) k_X9_valueOfSet 4 [(3, .int (Int32.ofInt k)), (2, .int (Int32.ofInt s)), (0, .ref 133), (1, .int (Int32.ofInt g))] [] (t, 142, mz T) (.inl (some (.int (Int32.ofInt (zSf (fun k => if zbt g k = 1 then T.1 135 k else 0) n k s)))), (t, 142, mz T)) := by
  intro n
  induction n with
  | zero =>
    intro k s h0 hn s0 s1
    simp (disch := omega) only [mv_Ev_row r_X9_valueOfSet_0, mv_Ev_row r_X9_valueOfSet_1, mv_Ev_row r_X9_valueOfSet_2, mv_Ev_row r_X9_valueOfSet_3, mv_Ev_row r_X9_valueOfSet_4, mv_Ev_row r_X9_valueOfSet_5, mv_Ev_row r_X9_valueOfSet_6, mv_Ev_row r_X9_valueOfSet_9, mv_Ev_row r_X9_valueOfSet_12, mv_Ev_row r_X9_valueOfSet_13, mv_Ev_row r_X9_valueOfSet_14, mv_Ev_row r_X9_valueOfSet_15, mv_Ev_row r_X9_valueOfSet_16, mv_Ev_row r_X9_valueOfSet_17, mv_Ev_row r_X9_valueOfSet_18, mv_Ev_row r_X9_valueOfSet_21, mv_Ev_row r_X9_valueOfSet_22, mv_Ev_row r_X9_valueOfSet_23, mv_Ev_row r_X9_valueOfSet_26, mv_Ev_row r_X9_valueOfSet_27, mv_Ev_row r_X9_valueOfSet_28, mv_Ev_row r_X9_valueOfSet_29, mv_Ev_row r_X9_valueOfSet_30, mv_Ev_row r_X9_valueOfSet_33, mv_Ev_row r_X9_valueOfSet_36, mv_Ev_row r_X9_valueOfSet_37, ea_iconst, ea_istore_n, ea_iload_n, ea_aload_n, gg_6_2, ea_icmp, ea_ishr, ea_iand, gg_6_1, ea_iadd, ea_iinc, eb_inc, ea_goto, ea_ireturn, ez_ret, ez_retc, ar_ld0 ai_135, cz_eq, cz_ne, cz_lt, cz_ge, cz_gt, cz_le, mv_ac, decide_eq_true_eq, not_true_eq_false, and_self, and_true, true_and, ea_2n, ea_2f, ea_2c, ea_if, if_pos, if_neg, mv_lk, mv_f1, mv_f2, Value.category, List.filter, ↓reduceIte, Nat.reduceEqDiff, Nat.reduceAdd, Nat.reduceLT, Nat.reduceBEq, Nat.zero_add, Nat.add_zero, Nat.zero_ne_one, Nat.one_ne_zero, Bool.not_true, Bool.not_false, Bool.and_true, Bool.true_and, Bool.and_false, Bool.false_and, BEq.rfl, beq_self_eq_true, Bool.false_eq_true, reduceCtorEq, not_false_eq_true, fv0, fv1, fv2, fv3, eb_l0, eb_l1, eb_l2, eb_l3, eb_l4, eb_l5, eb_s0, eb_s1, eb_s2, eb_s3, eb_s4, eb_s5, oz_add, oz_sub, oz_mul, oz_neg, ol_add, ol_sub, sD_eq, sD_sD, sD_ne, sD_in, sD_in2, sD_in3, upR_is, upR_ne, mk_v, mk_n, mk_x, mk_i, mv_cs, Nat.reduceLeDiff, mv_ch_z, nh_X9_valueOfSet, hc, zSf]
  | succ n ih =>
    intro k s h0 hn s0 s1
    have h := hb k h0 (by omega)
    rw [zSf]
    rcases zbt_01 g k with z | z
    · have q := ih (k + 1) s (by omega) (by omega) (by omega) (by omega)
      rw [show s + (fun k => if zbt g k = 1 then T.1 135 k else 0) k = s by show s + (if zbt g k = 1 then T.1 135 k else 0) = s; rw [if_neg (by omega)]; omega]
      rw [mv_Ev_row r_X9_valueOfSet_4]
      simp (disch := omega) only [mv_Ev_row r_X9_valueOfSet_0, mv_Ev_row r_X9_valueOfSet_1, mv_Ev_row r_X9_valueOfSet_2, mv_Ev_row r_X9_valueOfSet_3, mv_Ev_row r_X9_valueOfSet_5, mv_Ev_row r_X9_valueOfSet_6, mv_Ev_row r_X9_valueOfSet_9, mv_Ev_row r_X9_valueOfSet_12, mv_Ev_row r_X9_valueOfSet_13, mv_Ev_row r_X9_valueOfSet_14, mv_Ev_row r_X9_valueOfSet_15, mv_Ev_row r_X9_valueOfSet_16, mv_Ev_row r_X9_valueOfSet_17, mv_Ev_row r_X9_valueOfSet_18, mv_Ev_row r_X9_valueOfSet_21, mv_Ev_row r_X9_valueOfSet_22, mv_Ev_row r_X9_valueOfSet_23, mv_Ev_row r_X9_valueOfSet_26, mv_Ev_row r_X9_valueOfSet_27, mv_Ev_row r_X9_valueOfSet_28, mv_Ev_row r_X9_valueOfSet_29, mv_Ev_row r_X9_valueOfSet_30, mv_Ev_row r_X9_valueOfSet_33, mv_Ev_row r_X9_valueOfSet_36, mv_Ev_row r_X9_valueOfSet_37, ea_iconst, ea_istore_n, ea_iload_n, ea_aload_n, gg_6_2, ea_icmp, ea_ishr, ea_iand, gg_6_1, ea_iadd, ea_iinc, eb_inc, ea_goto, ea_ireturn, ez_ret, ez_retc, ar_ld0 ai_135, cz_eq, cz_ne, cz_lt, cz_ge, cz_gt, cz_le, mv_ac, decide_eq_true_eq, not_true_eq_false, and_self, and_true, true_and, ea_2n, ea_2f, ea_2c, ea_if, if_pos, if_neg, mv_lk, mv_f1, mv_f2, Value.category, List.filter, ↓reduceIte, Nat.reduceEqDiff, Nat.reduceAdd, Nat.reduceLT, Nat.reduceBEq, Nat.zero_add, Nat.add_zero, Nat.zero_ne_one, Nat.one_ne_zero, Bool.not_true, Bool.not_false, Bool.and_true, Bool.true_and, Bool.and_false, Bool.false_and, BEq.rfl, beq_self_eq_true, Bool.false_eq_true, reduceCtorEq, not_false_eq_true, fv0, fv1, fv2, fv3, eb_l0, eb_l1, eb_l2, eb_l3, eb_l4, eb_l5, eb_s0, eb_s1, eb_s2, eb_s3, eb_s4, eb_s5, oz_add, oz_sub, oz_mul, oz_neg, ol_add, ol_sub, sD_eq, sD_sD, sD_ne, sD_in, sD_in2, sD_in3, upR_is, upR_ne, mk_v, mk_n, mk_x, mk_i, mv_cs, Nat.reduceLeDiff, mv_ch_z, nh_X9_valueOfSet, hc, bz_bit, z]
      exact mv_Es q
    · have q := ih (k + 1) (s + T.1 135 k) (by omega) (by omega) (by omega) (by omega)
      rw [show s + (fun k => if zbt g k = 1 then T.1 135 k else 0) k = s + T.1 135 k by show s + (if zbt g k = 1 then T.1 135 k else 0) = _; rw [if_pos z]]
      rw [mv_Ev_row r_X9_valueOfSet_4]
      simp (disch := omega) only [mv_Ev_row r_X9_valueOfSet_0, mv_Ev_row r_X9_valueOfSet_1, mv_Ev_row r_X9_valueOfSet_2, mv_Ev_row r_X9_valueOfSet_3, mv_Ev_row r_X9_valueOfSet_5, mv_Ev_row r_X9_valueOfSet_6, mv_Ev_row r_X9_valueOfSet_9, mv_Ev_row r_X9_valueOfSet_12, mv_Ev_row r_X9_valueOfSet_13, mv_Ev_row r_X9_valueOfSet_14, mv_Ev_row r_X9_valueOfSet_15, mv_Ev_row r_X9_valueOfSet_16, mv_Ev_row r_X9_valueOfSet_17, mv_Ev_row r_X9_valueOfSet_18, mv_Ev_row r_X9_valueOfSet_21, mv_Ev_row r_X9_valueOfSet_22, mv_Ev_row r_X9_valueOfSet_23, mv_Ev_row r_X9_valueOfSet_26, mv_Ev_row r_X9_valueOfSet_27, mv_Ev_row r_X9_valueOfSet_28, mv_Ev_row r_X9_valueOfSet_29, mv_Ev_row r_X9_valueOfSet_30, mv_Ev_row r_X9_valueOfSet_33, mv_Ev_row r_X9_valueOfSet_36, mv_Ev_row r_X9_valueOfSet_37, ea_iconst, ea_istore_n, ea_iload_n, ea_aload_n, gg_6_2, ea_icmp, ea_ishr, ea_iand, gg_6_1, ea_iadd, ea_iinc, eb_inc, ea_goto, ea_ireturn, ez_ret, ez_retc, ar_ld0 ai_135, cz_eq, cz_ne, cz_lt, cz_ge, cz_gt, cz_le, mv_ac, decide_eq_true_eq, not_true_eq_false, and_self, and_true, true_and, ea_2n, ea_2f, ea_2c, ea_if, if_pos, if_neg, mv_lk, mv_f1, mv_f2, Value.category, List.filter, ↓reduceIte, Nat.reduceEqDiff, Nat.reduceAdd, Nat.reduceLT, Nat.reduceBEq, Nat.zero_add, Nat.add_zero, Nat.zero_ne_one, Nat.one_ne_zero, Bool.not_true, Bool.not_false, Bool.and_true, Bool.true_and, Bool.and_false, Bool.false_and, BEq.rfl, beq_self_eq_true, Bool.false_eq_true, reduceCtorEq, not_false_eq_true, fv0, fv1, fv2, fv3, eb_l0, eb_l1, eb_l2, eb_l3, eb_l4, eb_l5, eb_s0, eb_s1, eb_s2, eb_s3, eb_s4, eb_s5, oz_add, oz_sub, oz_mul, oz_neg, ol_add, ol_sub, sD_eq, sD_sD, sD_ne, sD_in, sD_in2, sD_in3, upR_is, upR_ne, mk_v, mk_n, mk_x, mk_i, mv_cs, Nat.reduceLeDiff, mv_ch_z, nh_X9_valueOfSet, hc, bz_bit, z]
      exact mv_Es q
theorem c_X9_valueOfSet (hd : 1 ≤ d) {c g : Int} (hc : T.1 133 2 = c) (c0 : 0 ≤ c) (c5 : c ≤ 5) (g0 : 0 ≤ g) (g32 : g < 32) (hb : ∀ k, 0 ≤ k → k < c → 0 ≤ T.1 135 k ∧ T.1 135 k ≤ 99) : mv_cl L xs d k_X9_valueOfSet [.ref 133, .int (Int32.ofInt g)] (t, 142, mz T) = some (.inl (some (.int (Int32.ofInt (zCst (T.1 135) g c.toNat)))), (t, 142, mz T)) := by
  obtain ⟨d, rfl⟩ : ∃ e, d = e + 1 := ⟨d - 1, by omega⟩
  apply mv_cl_of
  simp only [mv_il, Value.category, Nat.zero_add, Nat.reduceAdd]
  simp (disch := omega) only [mv_Ev_row r_X9_valueOfSet_0, mv_Ev_row r_X9_valueOfSet_1, mv_Ev_row r_X9_valueOfSet_2, mv_Ev_row r_X9_valueOfSet_3, mv_Ev_row r_X9_valueOfSet_5, mv_Ev_row r_X9_valueOfSet_6, mv_Ev_row r_X9_valueOfSet_9, mv_Ev_row r_X9_valueOfSet_12, mv_Ev_row r_X9_valueOfSet_13, mv_Ev_row r_X9_valueOfSet_14, mv_Ev_row r_X9_valueOfSet_15, mv_Ev_row r_X9_valueOfSet_16, mv_Ev_row r_X9_valueOfSet_17, mv_Ev_row r_X9_valueOfSet_18, mv_Ev_row r_X9_valueOfSet_21, mv_Ev_row r_X9_valueOfSet_22, mv_Ev_row r_X9_valueOfSet_23, mv_Ev_row r_X9_valueOfSet_26, mv_Ev_row r_X9_valueOfSet_27, mv_Ev_row r_X9_valueOfSet_28, mv_Ev_row r_X9_valueOfSet_29, mv_Ev_row r_X9_valueOfSet_30, mv_Ev_row r_X9_valueOfSet_33, mv_Ev_row r_X9_valueOfSet_36, mv_Ev_row r_X9_valueOfSet_37, ea_iconst, ea_istore_n, ea_iload_n, ea_aload_n, gg_6_2, ea_icmp, ea_ishr, ea_iand, gg_6_1, ea_iadd, ea_iinc, eb_inc, ea_goto, ea_ireturn, ez_ret, ez_retc, ar_ld0 ai_135, cz_eq, cz_ne, cz_lt, cz_ge, cz_gt, cz_le, mv_ac, decide_eq_true_eq, not_true_eq_false, and_self, and_true, true_and, ea_2n, ea_2f, ea_2c, ea_if, if_pos, if_neg, mv_lk, mv_f1, mv_f2, Value.category, List.filter, ↓reduceIte, Nat.reduceEqDiff, Nat.reduceAdd, Nat.reduceLT, Nat.reduceBEq, Nat.zero_add, Nat.add_zero, Nat.zero_ne_one, Nat.one_ne_zero, Bool.not_true, Bool.not_false, Bool.and_true, Bool.true_and, Bool.and_false, Bool.false_and, BEq.rfl, beq_self_eq_true, Bool.false_eq_true, reduceCtorEq, not_false_eq_true, fv0, fv1, fv2, fv3, eb_l0, eb_l1, eb_l2, eb_l3, eb_l4, eb_l5, eb_s0, eb_s1, eb_s2, eb_s3, eb_s4, eb_s5, oz_add, oz_sub, oz_mul, oz_neg, ol_add, ol_sub, sD_eq, sD_sD, sD_ne, sD_in, sD_in2, sD_in3, upR_is, upR_ne, mk_v, mk_n, mk_x, mk_i, mv_cs, Nat.reduceLeDiff, mv_ch_z, nh_X9_valueOfSet]
  exact mv_Es (lp_X9_vals hc c5 g0 g32 hb c.toNat 0 0 (by omega) (by omega) (by omega) (by omega))
theorem lp_X9_bestBySets (hd : 1 ≤ d) {c g : Int} (hc : T.1 133 2 = c) (c0 : 0 ≤ c) (c5 : c ≤ 5) (g0 : 0 ≤ g) (g99 : g ≤ 99) (hb : ∀ k, 0 ≤ k → k < c → 0 ≤ T.1 134 k ∧ T.1 134 k ≤ 1000000) (hv : ∀ k, 0 ≤ k → k < c → 0 ≤ T.1 135 k ∧ T.1 135 k ≤ 99) : ∀ (n : Nat) (s m : Int), 0 ≤ s → s + n = zp2 c → 0 ≤ m → m ≤ 1000 → mv_Ev L xs (mv_cl L xs d) k_X9_bestBySets 4 [(3, .int (Int32.ofInt s)), (2, .int (Int32.ofInt m)), (0, .ref 133), (1, .int (Int32.ofInt g))] [] (t, 142, mz T) (.inl (some (.int (Int32.ofInt (zMy (T.1 134) (T.1 135) g c.toNat n s m)))), (t, 142, mz T)) := by
  have hp := zp2_bd c0 c5
  intro n
  induction n with
  | zero =>
    intro s m h0 hn m0 m1
    simp (disch := omega) only [mv_Ev_row r_X9_bestBySets_0, mv_Ev_row r_X9_bestBySets_1, mv_Ev_row r_X9_bestBySets_2, mv_Ev_row r_X9_bestBySets_3, mv_Ev_row r_X9_bestBySets_4, mv_Ev_row r_X9_bestBySets_5, mv_Ev_row r_X9_bestBySets_6, mv_Ev_row r_X9_bestBySets_7, mv_Ev_row r_X9_bestBySets_10, mv_Ev_row r_X9_bestBySets_11, mv_Ev_row r_X9_bestBySets_14, mv_Ev_row r_X9_bestBySets_15, mv_Ev_row r_X9_bestBySets_16, mv_Ev_row r_X9_bestBySets_19, mv_Ev_row r_X9_bestBySets_20, mv_Ev_row r_X9_bestBySets_23, mv_Ev_row r_X9_bestBySets_24, mv_Ev_row r_X9_bestBySets_25, mv_Ev_row r_X9_bestBySets_26, mv_Ev_row r_X9_bestBySets_29, mv_Ev_row r_X9_bestBySets_32, mv_Ev_row r_X9_bestBySets_33, mv_Ev_row r_X9_bestBySets_36, mv_Ev_row r_X9_bestBySets_39, mv_Ev_row r_X9_bestBySets_40, ea_iconst, ea_istore_n, ea_iload_n, ea_aload_n, gg_6_2, ea_ishl, ea_icmp, kv_X9_bagsOfSet, kv_X9_valueOfSet, ez_max, ea_iinc, eb_inc, ea_goto, ea_ireturn, ez_ret, ez_retc, cz_eq, cz_ne, cz_lt, cz_ge, cz_gt, cz_le, mv_ac, decide_eq_true_eq, not_true_eq_false, and_self, and_true, true_and, ea_2n, ea_2f, ea_2c, ea_if, if_pos, if_neg, mv_lk, mv_f1, mv_f2, Value.category, List.filter, ↓reduceIte, Nat.reduceEqDiff, Nat.reduceAdd, Nat.reduceLT, Nat.reduceBEq, Nat.zero_add, Nat.add_zero, Nat.zero_ne_one, Nat.one_ne_zero, Bool.not_true, Bool.not_false, Bool.and_true, Bool.true_and, Bool.and_false, Bool.false_and, BEq.rfl, beq_self_eq_true, Bool.false_eq_true, reduceCtorEq, not_false_eq_true, fv0, fv1, fv2, fv3, eb_l0, eb_l1, eb_l2, eb_l3, eb_l4, eb_l5, eb_s0, eb_s1, eb_s2, eb_s3, eb_s4, eb_s5, oz_add, oz_sub, oz_mul, oz_neg, ol_add, ol_sub, sD_eq, sD_sD, sD_ne, sD_in, sD_in2, sD_in3, upR_is, upR_ne, mk_v, mk_n, mk_x, mk_i, mv_cs, Nat.reduceLeDiff, mv_ch_z, nh_X9_bestBySets, hc, bz_shl, zMy]
  | succ n ih =>
    intro s m h0 hn m0 m1
    have q1 := c_X9_bagsOfSet (L := L) (xs := xs) (t := t) (T := T) (d := d) (g := s) hd hc c0 c5 h0 (by omega) hb
    have q2 := c_X9_valueOfSet (L := L) (xs := xs) (t := t) (T := T) (d := d) (g := s) hd hc c0 c5 h0 (by omega) hv
    have b1 := zSf_bd (f := fun k => if zbt s k = 1 then T.1 134 k else 0) (M := 1000000) c.toNat 0 0 (fun j h1 h2 => by
      have := hb j h1 (by omega)
      split <;> omega)
    have b2 := zSf_bd (f := fun k => if zbt s k = 1 then T.1 135 k else 0) (M := 99) c.toNat 0 0 (fun j h1 h2 => by
      have := hv j h1 (by omega)
      split <;> omega)
    have w1 : 0 ≤ zCst (T.1 134) s c.toNat ∧ zCst (T.1 134) s c.toNat ≤ 10000000 := by unfold zCst; omega
    have w2 : 0 ≤ zCst (T.1 135) s c.toNat ∧ zCst (T.1 135) s c.toNat ≤ 1000 := by unfold zCst; omega
    rw [zMy]
    by_cases q : zCst (T.1 134) s c.toNat ≤ g
    · rw [if_pos q]
      rw [mv_Ev_row r_X9_bestBySets_4]
      simp (disch := omega) only [mv_Ev_row r_X9_bestBySets_0, mv_Ev_row r_X9_bestBySets_1, mv_Ev_row r_X9_bestBySets_2, mv_Ev_row r_X9_bestBySets_3, mv_Ev_row r_X9_bestBySets_5, mv_Ev_row r_X9_bestBySets_6, mv_Ev_row r_X9_bestBySets_7, mv_Ev_row r_X9_bestBySets_10, mv_Ev_row r_X9_bestBySets_11, mv_Ev_row r_X9_bestBySets_14, mv_Ev_row r_X9_bestBySets_15, mv_Ev_row r_X9_bestBySets_16, mv_Ev_row r_X9_bestBySets_19, mv_Ev_row r_X9_bestBySets_20, mv_Ev_row r_X9_bestBySets_23, mv_Ev_row r_X9_bestBySets_24, mv_Ev_row r_X9_bestBySets_25, mv_Ev_row r_X9_bestBySets_26, mv_Ev_row r_X9_bestBySets_29, mv_Ev_row r_X9_bestBySets_32, mv_Ev_row r_X9_bestBySets_33, mv_Ev_row r_X9_bestBySets_36, mv_Ev_row r_X9_bestBySets_39, mv_Ev_row r_X9_bestBySets_40, ea_iconst, ea_istore_n, ea_iload_n, ea_aload_n, gg_6_2, ea_ishl, ea_icmp, kv_X9_bagsOfSet, kv_X9_valueOfSet, ez_max, ea_iinc, eb_inc, ea_goto, ea_ireturn, ez_ret, ez_retc, cz_eq, cz_ne, cz_lt, cz_ge, cz_gt, cz_le, mv_ac, decide_eq_true_eq, not_true_eq_false, and_self, and_true, true_and, ea_2n, ea_2f, ea_2c, ea_if, if_pos, if_neg, mv_lk, mv_f1, mv_f2, Value.category, List.filter, ↓reduceIte, Nat.reduceEqDiff, Nat.reduceAdd, Nat.reduceLT, Nat.reduceBEq, Nat.zero_add, Nat.add_zero, Nat.zero_ne_one, Nat.one_ne_zero, Bool.not_true, Bool.not_false, Bool.and_true, Bool.true_and, Bool.and_false, Bool.false_and, BEq.rfl, beq_self_eq_true, Bool.false_eq_true, reduceCtorEq, not_false_eq_true, fv0, fv1, fv2, fv3, eb_l0, eb_l1, eb_l2, eb_l3, eb_l4, eb_l5, eb_s0, eb_s1, eb_s2, eb_s3, eb_s4, eb_s5, oz_add, oz_sub, oz_mul, oz_neg, ol_add, ol_sub, sD_eq, sD_sD, sD_ne, sD_in, sD_in2, sD_in3, upR_is, upR_ne, mk_v, mk_n, mk_x, mk_i, mv_cs, Nat.reduceLeDiff, mv_ch_z, nh_X9_bestBySets, hc, bz_shl, q1, q2]
      exact mv_Es (ih (s + 1) _ (by omega) (by omega) (by omega) (by omega))
    · rw [if_neg q]
      rw [mv_Ev_row r_X9_bestBySets_4]
      simp (disch := omega) only [mv_Ev_row r_X9_bestBySets_0, mv_Ev_row r_X9_bestBySets_1, mv_Ev_row r_X9_bestBySets_2, mv_Ev_row r_X9_bestBySets_3, mv_Ev_row r_X9_bestBySets_5, mv_Ev_row r_X9_bestBySets_6, mv_Ev_row r_X9_bestBySets_7, mv_Ev_row r_X9_bestBySets_10, mv_Ev_row r_X9_bestBySets_11, mv_Ev_row r_X9_bestBySets_14, mv_Ev_row r_X9_bestBySets_15, mv_Ev_row r_X9_bestBySets_16, mv_Ev_row r_X9_bestBySets_19, mv_Ev_row r_X9_bestBySets_20, mv_Ev_row r_X9_bestBySets_23, mv_Ev_row r_X9_bestBySets_24, mv_Ev_row r_X9_bestBySets_25, mv_Ev_row r_X9_bestBySets_26, mv_Ev_row r_X9_bestBySets_29, mv_Ev_row r_X9_bestBySets_32, mv_Ev_row r_X9_bestBySets_33, mv_Ev_row r_X9_bestBySets_36, mv_Ev_row r_X9_bestBySets_39, mv_Ev_row r_X9_bestBySets_40, ea_iconst, ea_istore_n, ea_iload_n, ea_aload_n, gg_6_2, ea_ishl, ea_icmp, kv_X9_bagsOfSet, kv_X9_valueOfSet, ez_max, ea_iinc, eb_inc, ea_goto, ea_ireturn, ez_ret, ez_retc, cz_eq, cz_ne, cz_lt, cz_ge, cz_gt, cz_le, mv_ac, decide_eq_true_eq, not_true_eq_false, and_self, and_true, true_and, ea_2n, ea_2f, ea_2c, ea_if, if_pos, if_neg, mv_lk, mv_f1, mv_f2, Value.category, List.filter, ↓reduceIte, Nat.reduceEqDiff, Nat.reduceAdd, Nat.reduceLT, Nat.reduceBEq, Nat.zero_add, Nat.add_zero, Nat.zero_ne_one, Nat.one_ne_zero, Bool.not_true, Bool.not_false, Bool.and_true, Bool.true_and, Bool.and_false, Bool.false_and, BEq.rfl, beq_self_eq_true, Bool.false_eq_true, reduceCtorEq, not_false_eq_true, fv0, fv1, fv2, fv3, eb_l0, eb_l1, eb_l2, eb_l3, eb_l4, eb_l5, eb_s0, eb_s1, eb_s2, eb_s3, eb_s4, eb_s5, oz_add, oz_sub, oz_mul, oz_neg, ol_add, ol_sub, sD_eq, sD_sD, sD_ne, sD_in, sD_in2, sD_in3, upR_is, upR_ne, mk_v, mk_n, mk_x, mk_i, mv_cs, Nat.reduceLeDiff, mv_ch_z, nh_X9_bestBySets, hc, bz_shl, q1, q2]
      exact mv_Es (ih (s + 1) _ (by omega) (by omega) (by omega) (by omega))
theorem c_X9_bestBySets (hd : 2 ≤ d) {c g : Int} (hc : T.1 133 2 = c) (c0 : 0 ≤ c) (c5 : c ≤ 5) (g0 : 0 ≤ g) (g99 : g ≤ 99) (hb : ∀ k, 0 ≤ k → k < c → 0 ≤ T.1 134 k ∧ T.1 134 k ≤ 1000000) (hv : ∀ k, 0 ≤ k → k < c → 0 ≤ T.1 135 k ∧ T.1 135 k ≤ 99) : mv_cl L xs d k_X9_bestBySets [.ref 133, .int (Int32.ofInt g)] (t, 142, mz T) = some (.inl (some (.int (Int32.ofInt (zK (T.1 134) (T.1 135) c.toNat g)))), (t, 142, mz T)) := by
  have hp := zp2_bd c0 c5
  rw [← zMy_K (by omega) g0 (fun k hk => (hb k (by omega) (by omega)).1) (fun k hk => hv k (by omega) (by omega))]
  obtain ⟨d, rfl⟩ : ∃ e, d = e + 1 := ⟨d - 1, by omega⟩
  apply mv_cl_of
  simp only [mv_il, Value.category, Nat.zero_add, Nat.reduceAdd]
  simp (disch := omega) only [mv_Ev_row r_X9_bestBySets_0, mv_Ev_row r_X9_bestBySets_1, mv_Ev_row r_X9_bestBySets_2, mv_Ev_row r_X9_bestBySets_3, mv_Ev_row r_X9_bestBySets_5, mv_Ev_row r_X9_bestBySets_6, mv_Ev_row r_X9_bestBySets_7, mv_Ev_row r_X9_bestBySets_10, mv_Ev_row r_X9_bestBySets_11, mv_Ev_row r_X9_bestBySets_14, mv_Ev_row r_X9_bestBySets_15, mv_Ev_row r_X9_bestBySets_16, mv_Ev_row r_X9_bestBySets_19, mv_Ev_row r_X9_bestBySets_20, mv_Ev_row r_X9_bestBySets_23, mv_Ev_row r_X9_bestBySets_24, mv_Ev_row r_X9_bestBySets_25, mv_Ev_row r_X9_bestBySets_26, mv_Ev_row r_X9_bestBySets_29, mv_Ev_row r_X9_bestBySets_32, mv_Ev_row r_X9_bestBySets_33, mv_Ev_row r_X9_bestBySets_36, mv_Ev_row r_X9_bestBySets_39, mv_Ev_row r_X9_bestBySets_40, ea_iconst, ea_istore_n, ea_iload_n, ea_aload_n, gg_6_2, ea_ishl, ea_icmp, kv_X9_bagsOfSet, kv_X9_valueOfSet, ez_max, ea_iinc, eb_inc, ea_goto, ea_ireturn, ez_ret, ez_retc, cz_eq, cz_ne, cz_lt, cz_ge, cz_gt, cz_le, mv_ac, decide_eq_true_eq, not_true_eq_false, and_self, and_true, true_and, ea_2n, ea_2f, ea_2c, ea_if, if_pos, if_neg, mv_lk, mv_f1, mv_f2, Value.category, List.filter, ↓reduceIte, Nat.reduceEqDiff, Nat.reduceAdd, Nat.reduceLT, Nat.reduceBEq, Nat.zero_add, Nat.add_zero, Nat.zero_ne_one, Nat.one_ne_zero, Bool.not_true, Bool.not_false, Bool.and_true, Bool.true_and, Bool.and_false, Bool.false_and, BEq.rfl, beq_self_eq_true, Bool.false_eq_true, reduceCtorEq, not_false_eq_true, fv0, fv1, fv2, fv3, eb_l0, eb_l1, eb_l2, eb_l3, eb_l4, eb_l5, eb_s0, eb_s1, eb_s2, eb_s3, eb_s4, eb_s5, oz_add, oz_sub, oz_mul, oz_neg, ol_add, ol_sub, sD_eq, sD_sD, sD_ne, sD_in, sD_in2, sD_in3, upR_is, upR_ne, mk_v, mk_n, mk_x, mk_i, mv_cs, Nat.reduceLeDiff, mv_ch_z, nh_X9_bestBySets]
  exact mv_Es (lp_X9_bestBySets (by omega) hc c0 c5 g0 g99 hb hv (2 ^ c.toNat) 0 0 (by omega) (by unfold zp2; omega) (by omega) (by omega))
def zIm (b v : Int) (X : Int → Int) (j : Int) : Int := if b ≤ j ∧ j ≤ 99 then max (X j) (X (j - b) + v) else X j
theorem lp_X9_improve {b v : Int} {X : Int → Int} (b0 : 1 ≤ b) (b1 : b ≤ 1000000) (v0 : 0 ≤ v) (v1 : v ≤ 99) (hX : ∀ j, 0 ≤ j → j ≤ 99 → 0 ≤ X j ∧ X j ≤ 1000) : ∀ (n : Nat) (i : Int) (Xi : Int → Int), 0 ≤ i → i ≤ 99 → i + 1 - b ≤ n → (∀ j, Xi j = if i < j then zIm b v X j else X j) → mv_Ev L xs (mv_cl L xs d) k_X9_improveTable 8 [(3, .int (Int32.ofInt i)), (0, .ref 133), (1, .int (Int32.ofInt b)), (2, .int (Int32.ofInt v))] [] (t, 142, mz (sD T 136 Xi)) (.inl none, (t, 142, mz (sD T 136 (zIm b v X)))) := by
  have hend : ∀ (i : Int) (Xi : Int → Int), i < b → (∀ j, Xi j = if i < j then zIm b v X j else X j) → Xi = zIm b v X := by
    intro i Xi hi h
    funext j
    rw [h j]
    split
    · rfl
    · unfold zIm
      rw [if_neg (by omega)]
  intro n
  induction n with
  | zero =>
    intro i Xi h0 h9 hn hXi
    have e := hend i Xi (by omega) hXi
    simp (disch := omega) only [mv_Ev_row r_X9_improveTable_0, mv_Ev_row r_X9_improveTable_1, mv_Ev_row r_X9_improveTable_4, mv_Ev_row r_X9_improveTable_5, mv_Ev_row r_X9_improveTable_6, mv_Ev_row r_X9_improveTable_7, mv_Ev_row r_X9_improveTable_8, mv_Ev_row r_X9_improveTable_9, mv_Ev_row r_X9_improveTable_10, mv_Ev_row r_X9_improveTable_13, mv_Ev_row r_X9_improveTable_14, mv_Ev_row r_X9_improveTable_17, mv_Ev_row r_X9_improveTable_18, mv_Ev_row r_X9_improveTable_19, mv_Ev_row r_X9_improveTable_22, mv_Ev_row r_X9_improveTable_23, mv_Ev_row r_X9_improveTable_24, mv_Ev_row r_X9_improveTable_25, mv_Ev_row r_X9_improveTable_28, mv_Ev_row r_X9_improveTable_29, mv_Ev_row r_X9_improveTable_30, mv_Ev_row r_X9_improveTable_31, mv_Ev_row r_X9_improveTable_32, mv_Ev_row r_X9_improveTable_33, mv_Ev_row r_X9_improveTable_34, mv_Ev_row r_X9_improveTable_37, mv_Ev_row r_X9_improveTable_38, mv_Ev_row r_X9_improveTable_41, mv_Ev_row r_X9_improveTable_44, ea_aload_n, gg_6_3, ea_iconst, ea_isub, ea_istore_n, ea_iload_n, ea_icmp, ea_iadd, ez_max, ea_iinc, eb_inc, ea_goto, ea_vret, ar_ld0 ai_136, ar_st0 ai_136, ar_len ai_136 (by decide), ar_tln, cz_eq, cz_ne, cz_lt, cz_ge, cz_gt, cz_le, mv_ac, decide_eq_true_eq, not_true_eq_false, and_self, and_true, true_and, ea_2n, ea_2f, ea_2c, ea_if, if_pos, if_neg, mv_lk, mv_f1, mv_f2, Value.category, List.filter, ↓reduceIte, Nat.reduceEqDiff, Nat.reduceAdd, Nat.reduceLT, Nat.reduceBEq, Nat.zero_add, Nat.add_zero, Nat.zero_ne_one, Nat.one_ne_zero, Bool.not_true, Bool.not_false, Bool.and_true, Bool.true_and, Bool.and_false, Bool.false_and, BEq.rfl, beq_self_eq_true, Bool.false_eq_true, reduceCtorEq, not_false_eq_true, fv0, fv1, fv2, fv3, eb_l0, eb_l1, eb_l2, eb_l3, eb_l4, eb_l5, eb_s0, eb_s1, eb_s2, eb_s3, eb_s4, eb_s5, oz_add, oz_sub, oz_mul, oz_neg, ol_add, ol_sub, sD_eq, sD_sD, sD_ne, sD_in, sD_in2, sD_in3, upR_is, upR_ne, mk_v, mk_n, mk_x, mk_i, mv_cs, Nat.reduceLeDiff, mv_ch_z, nh_X9_improveTable, e]
  | succ n ih =>
    intro i Xi h0 h9 hn hXi
    by_cases hi : i < b
    · have e := hend i Xi hi hXi
      simp (disch := omega) only [mv_Ev_row r_X9_improveTable_0, mv_Ev_row r_X9_improveTable_1, mv_Ev_row r_X9_improveTable_4, mv_Ev_row r_X9_improveTable_5, mv_Ev_row r_X9_improveTable_6, mv_Ev_row r_X9_improveTable_7, mv_Ev_row r_X9_improveTable_8, mv_Ev_row r_X9_improveTable_9, mv_Ev_row r_X9_improveTable_10, mv_Ev_row r_X9_improveTable_13, mv_Ev_row r_X9_improveTable_14, mv_Ev_row r_X9_improveTable_17, mv_Ev_row r_X9_improveTable_18, mv_Ev_row r_X9_improveTable_19, mv_Ev_row r_X9_improveTable_22, mv_Ev_row r_X9_improveTable_23, mv_Ev_row r_X9_improveTable_24, mv_Ev_row r_X9_improveTable_25, mv_Ev_row r_X9_improveTable_28, mv_Ev_row r_X9_improveTable_29, mv_Ev_row r_X9_improveTable_30, mv_Ev_row r_X9_improveTable_31, mv_Ev_row r_X9_improveTable_32, mv_Ev_row r_X9_improveTable_33, mv_Ev_row r_X9_improveTable_34, mv_Ev_row r_X9_improveTable_37, mv_Ev_row r_X9_improveTable_38, mv_Ev_row r_X9_improveTable_41, mv_Ev_row r_X9_improveTable_44, ea_aload_n, gg_6_3, ea_iconst, ea_isub, ea_istore_n, ea_iload_n, ea_icmp, ea_iadd, ez_max, ea_iinc, eb_inc, ea_goto, ea_vret, ar_ld0 ai_136, ar_st0 ai_136, ar_len ai_136 (by decide), ar_tln, cz_eq, cz_ne, cz_lt, cz_ge, cz_gt, cz_le, mv_ac, decide_eq_true_eq, not_true_eq_false, and_self, and_true, true_and, ea_2n, ea_2f, ea_2c, ea_if, if_pos, if_neg, mv_lk, mv_f1, mv_f2, Value.category, List.filter, ↓reduceIte, Nat.reduceEqDiff, Nat.reduceAdd, Nat.reduceLT, Nat.reduceBEq, Nat.zero_add, Nat.add_zero, Nat.zero_ne_one, Nat.one_ne_zero, Bool.not_true, Bool.not_false, Bool.and_true, Bool.true_and, Bool.and_false, Bool.false_and, BEq.rfl, beq_self_eq_true, Bool.false_eq_true, reduceCtorEq, not_false_eq_true, fv0, fv1, fv2, fv3, eb_l0, eb_l1, eb_l2, eb_l3, eb_l4, eb_l5, eb_s0, eb_s1, eb_s2, eb_s3, eb_s4, eb_s5, oz_add, oz_sub, oz_mul, oz_neg, ol_add, ol_sub, sD_eq, sD_sD, sD_ne, sD_in, sD_in2, sD_in3, upR_is, upR_ne, mk_v, mk_n, mk_x, mk_i, mv_cs, Nat.reduceLeDiff, mv_ch_z, nh_X9_improveTable, e]
    · have e1 : Xi i = X i := by rw [hXi, if_neg (by omega)]
      have e2 : Xi (i - b) = X (i - b) := by rw [hXi, if_neg (by omega)]
      have x1 := hX i h0 h9
      have x2 := hX (i - b) (by omega) (by omega)
      rw [mv_Ev_row r_X9_improveTable_8]
      simp (disch := omega) only [mv_Ev_row r_X9_improveTable_0, mv_Ev_row r_X9_improveTable_1, mv_Ev_row r_X9_improveTable_4, mv_Ev_row r_X9_improveTable_5, mv_Ev_row r_X9_improveTable_6, mv_Ev_row r_X9_improveTable_7, mv_Ev_row r_X9_improveTable_9, mv_Ev_row r_X9_improveTable_10, mv_Ev_row r_X9_improveTable_13, mv_Ev_row r_X9_improveTable_14, mv_Ev_row r_X9_improveTable_17, mv_Ev_row r_X9_improveTable_18, mv_Ev_row r_X9_improveTable_19, mv_Ev_row r_X9_improveTable_22, mv_Ev_row r_X9_improveTable_23, mv_Ev_row r_X9_improveTable_24, mv_Ev_row r_X9_improveTable_25, mv_Ev_row r_X9_improveTable_28, mv_Ev_row r_X9_improveTable_29, mv_Ev_row r_X9_improveTable_30, mv_Ev_row r_X9_improveTable_31, mv_Ev_row r_X9_improveTable_32, mv_Ev_row r_X9_improveTable_33, mv_Ev_row r_X9_improveTable_34, mv_Ev_row r_X9_improveTable_37, mv_Ev_row r_X9_improveTable_38, mv_Ev_row r_X9_improveTable_41, mv_Ev_row r_X9_improveTable_44, ea_aload_n, gg_6_3, ea_iconst, ea_isub, ea_istore_n, ea_iload_n, ea_icmp, ea_iadd, ez_max, ea_iinc, eb_inc, ea_goto, ea_vret, ar_ld0 ai_136, ar_st0 ai_136, ar_len ai_136 (by decide), ar_tln, cz_eq, cz_ne, cz_lt, cz_ge, cz_gt, cz_le, mv_ac, decide_eq_true_eq, not_true_eq_false, and_self, and_true, true_and, ea_2n, ea_2f, ea_2c, ea_if, if_pos, if_neg, mv_lk, mv_f1, mv_f2, Value.category, List.filter, ↓reduceIte, Nat.reduceEqDiff, Nat.reduceAdd, Nat.reduceLT, Nat.reduceBEq, Nat.zero_add, Nat.add_zero, Nat.zero_ne_one, Nat.one_ne_zero, Bool.not_true, Bool.not_false, Bool.and_true, Bool.true_and, Bool.and_false, Bool.false_and, BEq.rfl, beq_self_eq_true, Bool.false_eq_true, reduceCtorEq, not_false_eq_true, fv0, fv1, fv2, fv3, eb_l0, eb_l1, eb_l2, eb_l3, eb_l4, eb_l5, eb_s0, eb_s1, eb_s2, eb_s3, eb_s4, eb_s5, oz_add, oz_sub, oz_mul, oz_neg, ol_add, ol_sub, sD_eq, sD_sD, sD_ne, sD_in, sD_in2, sD_in3, upR_is, upR_ne, mk_v, mk_n, mk_x, mk_i, mv_cs, Nat.reduceLeDiff, mv_ch_z, nh_X9_improveTable, e1, e2]
      refine mv_Es (ih (i + -1) _ (by omega) (by omega) (by omega) (fun j => ?_))
      by_cases ej : j = i
      · rw [upR_is _ _ ej, if_pos (by omega)]
        unfold zIm
        rw [if_pos (by omega), ej]
      · rw [upR_ne _ _ ej, hXi j]
        by_cases q : i < j
        · rw [if_pos q, if_pos (by omega)]
        · rw [if_neg q, if_neg (by omega)]
theorem c_X9_improve (hd : 1 ≤ d) {b v : Int} {X : Int → Int} (b0 : 1 ≤ b) (b1 : b ≤ 1000000) (v0 : 0 ≤ v) (v1 : v ≤ 99) (hX : ∀ j, 0 ≤ j → j ≤ 99 → 0 ≤ X j ∧ X j ≤ 1000) : mv_cl L xs d k_X9_improveTable [.ref 133, .int (Int32.ofInt b), .int (Int32.ofInt v)] (t, 142, mz (sD T 136 X)) = some (.inl none, (t, 142, mz (sD T 136 (zIm b v X)))) := by
  have q := lp_X9_improve (L := L) (xs := xs) (t := t) (T := T) (d := d - 1) b0 b1 v0 v1 hX 100 99 (fun j => if 99 < j then zIm b v X j else X j) (by omega) (by omega) (by omega) (fun j => rfl)
  have e : (fun j => if 99 < j then zIm b v X j else X j) = X := by
    funext j
    split
    · unfold zIm; rw [if_neg (by omega)]
    · rfl
  rw [e] at q
  obtain ⟨d, rfl⟩ : ∃ e, d = e + 1 := ⟨d - 1, by omega⟩
  apply mv_cl_of
  simp only [mv_il, Value.category, Nat.zero_add, Nat.reduceAdd]
  simp only [Nat.add_sub_cancel] at q
  simp (disch := omega) only [mv_Ev_row r_X9_improveTable_0, mv_Ev_row r_X9_improveTable_1, mv_Ev_row r_X9_improveTable_4, mv_Ev_row r_X9_improveTable_5, mv_Ev_row r_X9_improveTable_6, mv_Ev_row r_X9_improveTable_7, mv_Ev_row r_X9_improveTable_9, mv_Ev_row r_X9_improveTable_10, mv_Ev_row r_X9_improveTable_13, mv_Ev_row r_X9_improveTable_14, mv_Ev_row r_X9_improveTable_17, mv_Ev_row r_X9_improveTable_18, mv_Ev_row r_X9_improveTable_19, mv_Ev_row r_X9_improveTable_22, mv_Ev_row r_X9_improveTable_23, mv_Ev_row r_X9_improveTable_24, mv_Ev_row r_X9_improveTable_25, mv_Ev_row r_X9_improveTable_28, mv_Ev_row r_X9_improveTable_29, mv_Ev_row r_X9_improveTable_30, mv_Ev_row r_X9_improveTable_31, mv_Ev_row r_X9_improveTable_32, mv_Ev_row r_X9_improveTable_33, mv_Ev_row r_X9_improveTable_34, mv_Ev_row r_X9_improveTable_37, mv_Ev_row r_X9_improveTable_38, mv_Ev_row r_X9_improveTable_41, mv_Ev_row r_X9_improveTable_44, ea_aload_n, gg_6_3, ea_iconst, ea_isub, ea_istore_n, ea_iload_n, ea_icmp, ea_iadd, ez_max, ea_iinc, eb_inc, ea_goto, ea_vret, ar_ld0 ai_136, ar_st0 ai_136, ar_len ai_136 (by decide), ar_tln, cz_eq, cz_ne, cz_lt, cz_ge, cz_gt, cz_le, mv_ac, decide_eq_true_eq, not_true_eq_false, and_self, and_true, true_and, ea_2n, ea_2f, ea_2c, ea_if, if_pos, if_neg, mv_lk, mv_f1, mv_f2, Value.category, List.filter, ↓reduceIte, Nat.reduceEqDiff, Nat.reduceAdd, Nat.reduceLT, Nat.reduceBEq, Nat.zero_add, Nat.add_zero, Nat.zero_ne_one, Nat.one_ne_zero, Bool.not_true, Bool.not_false, Bool.and_true, Bool.true_and, Bool.and_false, Bool.false_and, BEq.rfl, beq_self_eq_true, Bool.false_eq_true, reduceCtorEq, not_false_eq_true, fv0, fv1, fv2, fv3, eb_l0, eb_l1, eb_l2, eb_l3, eb_l4, eb_l5, eb_s0, eb_s1, eb_s2, eb_s3, eb_s4, eb_s5, oz_add, oz_sub, oz_mul, oz_neg, ol_add, ol_sub, sD_eq, sD_sD, sD_ne, sD_in, sD_in2, sD_in3, upR_is, upR_ne, mk_v, mk_n, mk_x, mk_i, mv_cs, Nat.reduceLeDiff, mv_ch_z, nh_X9_improveTable]
  exact mv_Es q
theorem lp_X9_clear {g : Int} {X0 : Int → Int} {res : mv_R} (hr : mv_Ev L xs (mv_cl L xs d) k_X9_bestByTable 26 [(2, .int (Int32.ofInt 0)), (0, .ref 133), (1, .int (Int32.ofInt g))] [] (t, 142, mz (sD T 136 (fun j => if 0 ≤ j ∧ j ≤ 99 then 0 else X0 j))) res) : ∀ (n : Nat) (i : Int) (X : Int → Int), 0 ≤ i → i + n = 100 → (∀ j, X j = if 0 ≤ j ∧ j < i then 0 else X0 j) → mv_Ev L xs (mv_cl L xs d) k_X9_bestByTable 2 [(2, .int (Int32.ofInt i)), (0, .ref 133), (1, .int (Int32.ofInt g))] [] (t, 142, mz (sD T 136 X)) res := by
  intro n
  induction n with
  | zero =>
    intro i X h0 hn hX
    have e : X = fun j => if 0 ≤ j ∧ j ≤ 99 then 0 else X0 j := by
      funext j
      rw [hX j]
      by_cases q : 0 ≤ j ∧ j < i
      · rw [if_pos q, if_pos (by omega)]
      · rw [if_neg q, if_neg (by omega)]
    rw [e]
    rw [mv_Ev_row r_X9_bestByTable_2]
    simp (disch := omega) only [mv_Ev_row r_X9_bestByTable_0, mv_Ev_row r_X9_bestByTable_1, mv_Ev_row r_X9_bestByTable_3, mv_Ev_row r_X9_bestByTable_4, mv_Ev_row r_X9_bestByTable_7, mv_Ev_row r_X9_bestByTable_8, mv_Ev_row r_X9_bestByTable_11, mv_Ev_row r_X9_bestByTable_12, mv_Ev_row r_X9_bestByTable_15, mv_Ev_row r_X9_bestByTable_16, mv_Ev_row r_X9_bestByTable_17, mv_Ev_row r_X9_bestByTable_18, mv_Ev_row r_X9_bestByTable_21, mv_Ev_row r_X9_bestByTable_24, mv_Ev_row r_X9_bestByTable_25, mv_Ev_row r_X9_bestByTable_27, mv_Ev_row r_X9_bestByTable_28, mv_Ev_row r_X9_bestByTable_31, mv_Ev_row r_X9_bestByTable_34, mv_Ev_row r_X9_bestByTable_35, mv_Ev_row r_X9_bestByTable_36, mv_Ev_row r_X9_bestByTable_39, mv_Ev_row r_X9_bestByTable_40, mv_Ev_row r_X9_bestByTable_41, mv_Ev_row r_X9_bestByTable_42, mv_Ev_row r_X9_bestByTable_45, mv_Ev_row r_X9_bestByTable_46, mv_Ev_row r_X9_bestByTable_47, mv_Ev_row r_X9_bestByTable_50, mv_Ev_row r_X9_bestByTable_53, mv_Ev_row r_X9_bestByTable_56, mv_Ev_row r_X9_bestByTable_57, mv_Ev_row r_X9_bestByTable_60, mv_Ev_row r_X9_bestByTable_61, mv_Ev_row r_X9_bestByTable_62, mv_Ev_row r_X9_bestByTable_65, mv_Ev_row r_X9_bestByTable_66, mv_Ev_row r_X9_bestByTable_69, mv_Ev_row r_X9_bestByTable_70, mv_Ev_row r_X9_bestByTable_73, mv_Ev_row r_X9_bestByTable_74, mv_Ev_row r_X9_bestByTable_75, mv_Ev_row r_X9_bestByTable_78, mv_Ev_row r_X9_bestByTable_79, ea_iconst, ea_istore_n, ea_iload_n, ea_aload_n, gg_6_3, ea_icmp, ea_iinc, eb_inc, ea_goto, gg_6_2, gg_6_0, gg_6_1, kv_X9_improveTable, ea_ifc, ea_ireturn, ez_ret, ez_retc, ar_ld0 ai_136, ar_st0 ai_136, ar_len ai_136 (by decide), ar_ld0 ai_134, ar_st0 ai_134, ar_len ai_134 (by decide), ar_ld0 ai_135, ar_st0 ai_135, ar_len ai_135 (by decide), ar_tln, cz_eq, cz_ne, cz_lt, cz_ge, cz_gt, cz_le, c0_eq, c0_ne, c0_lt, c0_ge, c0_gt, c0_le, mv_ac, decide_eq_true_eq, not_true_eq_false, and_self, and_true, true_and, ea_2n, ea_2f, ea_2c, ea_if, if_pos, if_neg, mv_lk, mv_f1, mv_f2, Value.category, List.filter, ↓reduceIte, Nat.reduceEqDiff, Nat.reduceAdd, Nat.reduceLT, Nat.reduceBEq, Nat.zero_add, Nat.add_zero, Nat.zero_ne_one, Nat.one_ne_zero, Bool.not_true, Bool.not_false, Bool.and_true, Bool.true_and, Bool.and_false, Bool.false_and, BEq.rfl, beq_self_eq_true, Bool.false_eq_true, reduceCtorEq, not_false_eq_true, fv0, fv1, fv2, fv3, eb_l0, eb_l1, eb_l2, eb_l3, eb_l4, eb_l5, eb_s0, eb_s1, eb_s2, eb_s3, eb_s4, eb_s5, oz_add, oz_sub, oz_mul, oz_neg, ol_add, ol_sub, sD_eq, sD_sD, sD_ne, sD_in, sD_in2, sD_in3, upR_is, upR_ne, mk_v, mk_n, mk_x, mk_i, mv_cs, Nat.reduceLeDiff, mv_ch_z, nh_X9_bestByTable]
    exact mv_Es hr
  | succ n ih =>
    intro i X h0 hn hX
    rw [mv_Ev_row r_X9_bestByTable_2]
    simp (disch := omega) only [mv_Ev_row r_X9_bestByTable_0, mv_Ev_row r_X9_bestByTable_1, mv_Ev_row r_X9_bestByTable_3, mv_Ev_row r_X9_bestByTable_4, mv_Ev_row r_X9_bestByTable_7, mv_Ev_row r_X9_bestByTable_8, mv_Ev_row r_X9_bestByTable_11, mv_Ev_row r_X9_bestByTable_12, mv_Ev_row r_X9_bestByTable_15, mv_Ev_row r_X9_bestByTable_16, mv_Ev_row r_X9_bestByTable_17, mv_Ev_row r_X9_bestByTable_18, mv_Ev_row r_X9_bestByTable_21, mv_Ev_row r_X9_bestByTable_24, mv_Ev_row r_X9_bestByTable_25, mv_Ev_row r_X9_bestByTable_27, mv_Ev_row r_X9_bestByTable_28, mv_Ev_row r_X9_bestByTable_31, mv_Ev_row r_X9_bestByTable_34, mv_Ev_row r_X9_bestByTable_35, mv_Ev_row r_X9_bestByTable_36, mv_Ev_row r_X9_bestByTable_39, mv_Ev_row r_X9_bestByTable_40, mv_Ev_row r_X9_bestByTable_41, mv_Ev_row r_X9_bestByTable_42, mv_Ev_row r_X9_bestByTable_45, mv_Ev_row r_X9_bestByTable_46, mv_Ev_row r_X9_bestByTable_47, mv_Ev_row r_X9_bestByTable_50, mv_Ev_row r_X9_bestByTable_53, mv_Ev_row r_X9_bestByTable_56, mv_Ev_row r_X9_bestByTable_57, mv_Ev_row r_X9_bestByTable_60, mv_Ev_row r_X9_bestByTable_61, mv_Ev_row r_X9_bestByTable_62, mv_Ev_row r_X9_bestByTable_65, mv_Ev_row r_X9_bestByTable_66, mv_Ev_row r_X9_bestByTable_69, mv_Ev_row r_X9_bestByTable_70, mv_Ev_row r_X9_bestByTable_73, mv_Ev_row r_X9_bestByTable_74, mv_Ev_row r_X9_bestByTable_75, mv_Ev_row r_X9_bestByTable_78, mv_Ev_row r_X9_bestByTable_79, ea_iconst, ea_istore_n, ea_iload_n, ea_aload_n, gg_6_3, ea_icmp, ea_iinc, eb_inc, ea_goto, gg_6_2, gg_6_0, gg_6_1, kv_X9_improveTable, ea_ifc, ea_ireturn, ez_ret, ez_retc, ar_ld0 ai_136, ar_st0 ai_136, ar_len ai_136 (by decide), ar_ld0 ai_134, ar_st0 ai_134, ar_len ai_134 (by decide), ar_ld0 ai_135, ar_st0 ai_135, ar_len ai_135 (by decide), ar_tln, cz_eq, cz_ne, cz_lt, cz_ge, cz_gt, cz_le, c0_eq, c0_ne, c0_lt, c0_ge, c0_gt, c0_le, mv_ac, decide_eq_true_eq, not_true_eq_false, and_self, and_true, true_and, ea_2n, ea_2f, ea_2c, ea_if, if_pos, if_neg, mv_lk, mv_f1, mv_f2, Value.category, List.filter, ↓reduceIte, Nat.reduceEqDiff, Nat.reduceAdd, Nat.reduceLT, Nat.reduceBEq, Nat.zero_add, Nat.add_zero, Nat.zero_ne_one, Nat.one_ne_zero, Bool.not_true, Bool.not_false, Bool.and_true, Bool.true_and, Bool.and_false, Bool.false_and, BEq.rfl, beq_self_eq_true, Bool.false_eq_true, reduceCtorEq, not_false_eq_true, fv0, fv1, fv2, fv3, eb_l0, eb_l1, eb_l2, eb_l3, eb_l4, eb_l5, eb_s0, eb_s1, eb_s2, eb_s3, eb_s4, eb_s5, oz_add, oz_sub, oz_mul, oz_neg, ol_add, ol_sub, sD_eq, sD_sD, sD_ne, sD_in, sD_in2, sD_in3, upR_is, upR_ne, mk_v, mk_n, mk_x, mk_i, mv_cs, Nat.reduceLeDiff, mv_ch_z, nh_X9_bestByTable]
    refine mv_Es (ih (i + 1) _ (by omega) (by omega) (fun j => ?_))
    by_cases e : j = i
    · rw [upR_is _ _ e, if_pos (by omega)]
    · rw [upR_ne _ _ e, hX j]
      by_cases q : 0 ≤ j ∧ j < i
      · rw [if_pos q, if_pos (by omega)]
      · rw [if_neg q, if_neg (by omega)]
theorem lp_X9_table (hd : 1 ≤ d) {c g : Int} (hc : T.1 133 2 = c) (c5 : c ≤ 5) (g0 : 0 ≤ g) (g99 : g ≤ 99) (hb : ∀ k, 0 ≤ k → k < c → 1 ≤ T.1 134 k ∧ T.1 134 k ≤ 1000000) (hv : ∀ k, 0 ≤ k → k < c → 0 ≤ T.1 135 k ∧ T.1 135 k ≤ 99) : ∀ (n k : Nat) (X : Int → Int), (k : Int) + n = c → (∀ j, 0 ≤ j → j ≤ 99 → X j = zK (T.1 134) (T.1 135) k j) → ∃ X', mv_Ev L xs (mv_cl L xs d) k_X9_bestByTable 26 [(2, .int (Int32.ofInt k)), (0, .ref 133), (1, .int (Int32.ofInt g))] [] (t, 142, mz (sD T 136 X)) (.inl (some (.int (Int32.ofInt (zK (T.1 134) (T.1 135) c.toNat g)))), (t, 142, mz (sD T 136 X'))) := by
  intro n
  induction n with
  | zero =>
    intro k X hn hX
    refine ⟨X, ?_⟩
    have e := hX g g0 g99
    have e2 : c.toNat = k := by omega
    simp (disch := omega) only [mv_Ev_row r_X9_bestByTable_0, mv_Ev_row r_X9_bestByTable_1, mv_Ev_row r_X9_bestByTable_3, mv_Ev_row r_X9_bestByTable_4, mv_Ev_row r_X9_bestByTable_7, mv_Ev_row r_X9_bestByTable_8, mv_Ev_row r_X9_bestByTable_11, mv_Ev_row r_X9_bestByTable_12, mv_Ev_row r_X9_bestByTable_15, mv_Ev_row r_X9_bestByTable_16, mv_Ev_row r_X9_bestByTable_17, mv_Ev_row r_X9_bestByTable_18, mv_Ev_row r_X9_bestByTable_21, mv_Ev_row r_X9_bestByTable_24, mv_Ev_row r_X9_bestByTable_25, mv_Ev_row r_X9_bestByTable_26, mv_Ev_row r_X9_bestByTable_27, mv_Ev_row r_X9_bestByTable_28, mv_Ev_row r_X9_bestByTable_31, mv_Ev_row r_X9_bestByTable_34, mv_Ev_row r_X9_bestByTable_35, mv_Ev_row r_X9_bestByTable_36, mv_Ev_row r_X9_bestByTable_39, mv_Ev_row r_X9_bestByTable_40, mv_Ev_row r_X9_bestByTable_41, mv_Ev_row r_X9_bestByTable_42, mv_Ev_row r_X9_bestByTable_45, mv_Ev_row r_X9_bestByTable_46, mv_Ev_row r_X9_bestByTable_47, mv_Ev_row r_X9_bestByTable_50, mv_Ev_row r_X9_bestByTable_53, mv_Ev_row r_X9_bestByTable_56, mv_Ev_row r_X9_bestByTable_57, mv_Ev_row r_X9_bestByTable_60, mv_Ev_row r_X9_bestByTable_61, mv_Ev_row r_X9_bestByTable_62, mv_Ev_row r_X9_bestByTable_65, mv_Ev_row r_X9_bestByTable_66, mv_Ev_row r_X9_bestByTable_69, mv_Ev_row r_X9_bestByTable_70, mv_Ev_row r_X9_bestByTable_73, mv_Ev_row r_X9_bestByTable_74, mv_Ev_row r_X9_bestByTable_75, mv_Ev_row r_X9_bestByTable_78, mv_Ev_row r_X9_bestByTable_79, ea_iconst, ea_istore_n, ea_iload_n, ea_aload_n, gg_6_3, ea_icmp, ea_iinc, eb_inc, ea_goto, gg_6_2, gg_6_0, gg_6_1, kv_X9_improveTable, ea_ifc, ea_ireturn, ez_ret, ez_retc, ar_ld0 ai_136, ar_st0 ai_136, ar_len ai_136 (by decide), ar_ld0 ai_134, ar_st0 ai_134, ar_len ai_134 (by decide), ar_ld0 ai_135, ar_st0 ai_135, ar_len ai_135 (by decide), ar_tln, cz_eq, cz_ne, cz_lt, cz_ge, cz_gt, cz_le, c0_eq, c0_ne, c0_lt, c0_ge, c0_gt, c0_le, mv_ac, decide_eq_true_eq, not_true_eq_false, and_self, and_true, true_and, ea_2n, ea_2f, ea_2c, ea_if, if_pos, if_neg, mv_lk, mv_f1, mv_f2, Value.category, List.filter, ↓reduceIte, Nat.reduceEqDiff, Nat.reduceAdd, Nat.reduceLT, Nat.reduceBEq, Nat.zero_add, Nat.add_zero, Nat.zero_ne_one, Nat.one_ne_zero, Bool.not_true, Bool.not_false, Bool.and_true, Bool.true_and, Bool.and_false, Bool.false_and, BEq.rfl, beq_self_eq_true, Bool.false_eq_true, reduceCtorEq, not_false_eq_true, fv0, fv1, fv2, fv3, eb_l0, eb_l1, eb_l2, eb_l3, eb_l4, eb_l5, eb_s0, eb_s1, eb_s2, eb_s3, eb_s4, eb_s5, oz_add, oz_sub, oz_mul, oz_neg, ol_add, ol_sub, sD_eq, sD_sD, sD_ne, sD_in, sD_in2, sD_in3, upR_is, upR_ne, mk_v, mk_n, mk_x, mk_i, mv_cs, Nat.reduceLeDiff, mv_ch_z, nh_X9_bestByTable, hc, e, e2]
  | succ n ih =>
    intro k X hn hX
    have hbk := hb k (by omega) (by omega)
    have hvk := hv k (by omega) (by omega)
    have q := c_X9_improve (L := L) (xs := xs) (t := t) (T := T) (d := d) (X := X) hd hbk.1 hbk.2 hvk.1 hvk.2 (fun j h1 h2 => by
      have := zK_bd (b := T.1 134) (v := T.1 135) k j (fun k hk => hv k (by omega) (by omega))
      rw [hX j h1 h2]
      omega)
    obtain ⟨X', h⟩ := ih (k + 1) (zIm (T.1 134 k) (T.1 135 k) X) (by omega) (fun j h1 h2 => by
      rw [zK]
      unfold zIm
      by_cases e : T.1 134 k ≤ j
      · rw [if_pos ⟨e, h2⟩, if_pos e, hX j h1 h2, hX (j - T.1 134 k) (by omega) (by omega)]
      · rw [if_neg (fun h => e h.1), if_neg e, hX j h1 h2])
    refine ⟨X', ?_⟩
    rw [show (((k + 1 : Nat)) : Int) = (k : Int) + 1 by omega] at h
    rw [mv_Ev_row r_X9_bestByTable_26]
    simp (disch := omega) only [mv_Ev_row r_X9_bestByTable_0, mv_Ev_row r_X9_bestByTable_1, mv_Ev_row r_X9_bestByTable_3, mv_Ev_row r_X9_bestByTable_4, mv_Ev_row r_X9_bestByTable_7, mv_Ev_row r_X9_bestByTable_8, mv_Ev_row r_X9_bestByTable_11, mv_Ev_row r_X9_bestByTable_12, mv_Ev_row r_X9_bestByTable_15, mv_Ev_row r_X9_bestByTable_16, mv_Ev_row r_X9_bestByTable_17, mv_Ev_row r_X9_bestByTable_18, mv_Ev_row r_X9_bestByTable_21, mv_Ev_row r_X9_bestByTable_24, mv_Ev_row r_X9_bestByTable_25, mv_Ev_row r_X9_bestByTable_27, mv_Ev_row r_X9_bestByTable_28, mv_Ev_row r_X9_bestByTable_31, mv_Ev_row r_X9_bestByTable_34, mv_Ev_row r_X9_bestByTable_35, mv_Ev_row r_X9_bestByTable_36, mv_Ev_row r_X9_bestByTable_39, mv_Ev_row r_X9_bestByTable_40, mv_Ev_row r_X9_bestByTable_41, mv_Ev_row r_X9_bestByTable_42, mv_Ev_row r_X9_bestByTable_45, mv_Ev_row r_X9_bestByTable_46, mv_Ev_row r_X9_bestByTable_47, mv_Ev_row r_X9_bestByTable_50, mv_Ev_row r_X9_bestByTable_53, mv_Ev_row r_X9_bestByTable_56, mv_Ev_row r_X9_bestByTable_57, mv_Ev_row r_X9_bestByTable_60, mv_Ev_row r_X9_bestByTable_61, mv_Ev_row r_X9_bestByTable_62, mv_Ev_row r_X9_bestByTable_65, mv_Ev_row r_X9_bestByTable_66, mv_Ev_row r_X9_bestByTable_69, mv_Ev_row r_X9_bestByTable_70, mv_Ev_row r_X9_bestByTable_73, mv_Ev_row r_X9_bestByTable_74, mv_Ev_row r_X9_bestByTable_75, mv_Ev_row r_X9_bestByTable_78, mv_Ev_row r_X9_bestByTable_79, ea_iconst, ea_istore_n, ea_iload_n, ea_aload_n, gg_6_3, ea_icmp, ea_iinc, eb_inc, ea_goto, gg_6_2, gg_6_0, gg_6_1, kv_X9_improveTable, ea_ifc, ea_ireturn, ez_ret, ez_retc, ar_ld0 ai_136, ar_st0 ai_136, ar_len ai_136 (by decide), ar_ld0 ai_134, ar_st0 ai_134, ar_len ai_134 (by decide), ar_ld0 ai_135, ar_st0 ai_135, ar_len ai_135 (by decide), ar_tln, cz_eq, cz_ne, cz_lt, cz_ge, cz_gt, cz_le, c0_eq, c0_ne, c0_lt, c0_ge, c0_gt, c0_le, mv_ac, decide_eq_true_eq, not_true_eq_false, and_self, and_true, true_and, ea_2n, ea_2f, ea_2c, ea_if, if_pos, if_neg, mv_lk, mv_f1, mv_f2, Value.category, List.filter, ↓reduceIte, Nat.reduceEqDiff, Nat.reduceAdd, Nat.reduceLT, Nat.reduceBEq, Nat.zero_add, Nat.add_zero, Nat.zero_ne_one, Nat.one_ne_zero, Bool.not_true, Bool.not_false, Bool.and_true, Bool.true_and, Bool.and_false, Bool.false_and, BEq.rfl, beq_self_eq_true, Bool.false_eq_true, reduceCtorEq, not_false_eq_true, fv0, fv1, fv2, fv3, eb_l0, eb_l1, eb_l2, eb_l3, eb_l4, eb_l5, eb_s0, eb_s1, eb_s2, eb_s3, eb_s4, eb_s5, oz_add, oz_sub, oz_mul, oz_neg, ol_add, ol_sub, sD_eq, sD_sD, sD_ne, sD_in, sD_in2, sD_in3, upR_is, upR_ne, mk_v, mk_n, mk_x, mk_i, mv_cs, Nat.reduceLeDiff, mv_ch_z, nh_X9_bestByTable, hc, q]
    exact mv_Es h
theorem c_X9_bestByTable (hd : 2 ≤ d) {c g : Int} (hc : T.1 133 2 = c) (c0 : 0 ≤ c) (c5 : c ≤ 5) (g0 : 0 ≤ g) (g99 : g ≤ 99) (hb : ∀ k, 0 ≤ k → k < c → 1 ≤ T.1 134 k ∧ T.1 134 k ≤ 1000000) (hv : ∀ k, 0 ≤ k → k < c → 0 ≤ T.1 135 k ∧ T.1 135 k ≤ 99) : ∃ X', mv_cl L xs d k_X9_bestByTable [.ref 133, .int (Int32.ofInt g)] (t, 142, mz T) = some (.inl (some (.int (Int32.ofInt (zK (T.1 134) (T.1 135) c.toNat g)))), (t, 142, mz (sD T 136 X'))) := by
  obtain ⟨d, rfl⟩ : ∃ e, d = e + 1 := ⟨d - 1, by omega⟩
  -- the cleared row
  obtain ⟨X', h⟩ := lp_X9_table (L := L) (xs := xs) (t := t) (T := T) (d := d) (by omega) hc c5 g0 g99 hb hv c.toNat 0 (fun j => if 0 ≤ j ∧ j ≤ 99 then 0 else T.1 136 j) (by omega) (fun j h1 h2 => by rw [if_pos ⟨h1, h2⟩, zK])
  refine ⟨X', ?_⟩
  apply mv_cl_of
  simp only [mv_il, Value.category, Nat.zero_add, Nat.reduceAdd]
  have q := lp_X9_clear (L := L) (xs := xs) (t := t) (T := T) (d := d) (X0 := T.1 136) (res := ((.inl (some (.int (Int32.ofInt (zK (T.1 134) (T.1 135) c.toNat g)))), (t, 142, mz (sD T 136 X'))))) h 100 0 (T.1 136) (by omega) (by omega) (fun j => by rw [if_neg (by omega)])
  rw [sD_id] at q
  simp (disch := omega) only [mv_Ev_row r_X9_bestByTable_0, mv_Ev_row r_X9_bestByTable_1, mv_Ev_row r_X9_bestByTable_3, mv_Ev_row r_X9_bestByTable_4, mv_Ev_row r_X9_bestByTable_7, mv_Ev_row r_X9_bestByTable_8, mv_Ev_row r_X9_bestByTable_11, mv_Ev_row r_X9_bestByTable_12, mv_Ev_row r_X9_bestByTable_15, mv_Ev_row r_X9_bestByTable_16, mv_Ev_row r_X9_bestByTable_17, mv_Ev_row r_X9_bestByTable_18, mv_Ev_row r_X9_bestByTable_21, mv_Ev_row r_X9_bestByTable_24, mv_Ev_row r_X9_bestByTable_25, mv_Ev_row r_X9_bestByTable_27, mv_Ev_row r_X9_bestByTable_28, mv_Ev_row r_X9_bestByTable_31, mv_Ev_row r_X9_bestByTable_34, mv_Ev_row r_X9_bestByTable_35, mv_Ev_row r_X9_bestByTable_36, mv_Ev_row r_X9_bestByTable_39, mv_Ev_row r_X9_bestByTable_40, mv_Ev_row r_X9_bestByTable_41, mv_Ev_row r_X9_bestByTable_42, mv_Ev_row r_X9_bestByTable_45, mv_Ev_row r_X9_bestByTable_46, mv_Ev_row r_X9_bestByTable_47, mv_Ev_row r_X9_bestByTable_50, mv_Ev_row r_X9_bestByTable_53, mv_Ev_row r_X9_bestByTable_56, mv_Ev_row r_X9_bestByTable_57, mv_Ev_row r_X9_bestByTable_60, mv_Ev_row r_X9_bestByTable_61, mv_Ev_row r_X9_bestByTable_62, mv_Ev_row r_X9_bestByTable_65, mv_Ev_row r_X9_bestByTable_66, mv_Ev_row r_X9_bestByTable_69, mv_Ev_row r_X9_bestByTable_70, mv_Ev_row r_X9_bestByTable_73, mv_Ev_row r_X9_bestByTable_74, mv_Ev_row r_X9_bestByTable_75, mv_Ev_row r_X9_bestByTable_78, mv_Ev_row r_X9_bestByTable_79, ea_iconst, ea_istore_n, ea_iload_n, ea_aload_n, gg_6_3, ea_icmp, ea_iinc, eb_inc, ea_goto, gg_6_2, gg_6_0, gg_6_1, kv_X9_improveTable, ea_ifc, ea_ireturn, ez_ret, ez_retc, ar_ld0 ai_136, ar_st0 ai_136, ar_len ai_136 (by decide), ar_ld0 ai_134, ar_st0 ai_134, ar_len ai_134 (by decide), ar_ld0 ai_135, ar_st0 ai_135, ar_len ai_135 (by decide), ar_tln, cz_eq, cz_ne, cz_lt, cz_ge, cz_gt, cz_le, c0_eq, c0_ne, c0_lt, c0_ge, c0_gt, c0_le, mv_ac, decide_eq_true_eq, not_true_eq_false, and_self, and_true, true_and, ea_2n, ea_2f, ea_2c, ea_if, if_pos, if_neg, mv_lk, mv_f1, mv_f2, Value.category, List.filter, ↓reduceIte, Nat.reduceEqDiff, Nat.reduceAdd, Nat.reduceLT, Nat.reduceBEq, Nat.zero_add, Nat.add_zero, Nat.zero_ne_one, Nat.one_ne_zero, Bool.not_true, Bool.not_false, Bool.and_true, Bool.true_and, Bool.and_false, Bool.false_and, BEq.rfl, beq_self_eq_true, Bool.false_eq_true, reduceCtorEq, not_false_eq_true, fv0, fv1, fv2, fv3, eb_l0, eb_l1, eb_l2, eb_l3, eb_l4, eb_l5, eb_s0, eb_s1, eb_s2, eb_s3, eb_s4, eb_s5, oz_add, oz_sub, oz_mul, oz_neg, ol_add, ol_sub, sD_eq, sD_sD, sD_ne, sD_in, sD_in2, sD_in3, upR_is, upR_ne, mk_v, mk_n, mk_x, mk_i, mv_cs, Nat.reduceLeDiff, mv_ch_z, nh_X9_bestByTable]
  exact mv_Es q
end PRT
