/-! THE FACE OF THE CLASS: floods, plans, protection -/
theorem tb_X10_leastSpill : mv_tb k_X10_leastSpill = t_X10_leastSpill := rfl
theorem r_X10_leastSpill_0 : mv_in k_X10_leastSpill 0 = some (.aload_n 0, 1, 0, 0, 0) := by unfold mv_in; rw [tb_X10_leastSpill]; rfl
theorem r_X10_leastSpill_1 : mv_in k_X10_leastSpill 1 = some (.getfield 10, 4, 7, 0, 285) := by unfold mv_in; rw [tb_X10_leastSpill]; rfl
theorem r_X10_leastSpill_4 : mv_in k_X10_leastSpill 4 = some (.iload_n 1, 5, 0, 0, 0) := by unfold mv_in; rw [tb_X10_leastSpill]; rfl
theorem r_X10_leastSpill_5 : mv_in k_X10_leastSpill 5 = some (.iload_n 2, 6, 0, 0, 0) := by unfold mv_in; rw [tb_X10_leastSpill]; rfl
theorem r_X10_leastSpill_6 : mv_in k_X10_leastSpill 6 = some (.invokevirtual 225, 9, k_X2_faultOfPlan, 3, 635) := by unfold mv_in; rw [tb_X10_leastSpill]; rfl
theorem r_X10_leastSpill_9 : mv_in k_X10_leastSpill 9 = some (.invokestatic 106, 12, k_X10_throwFor, 1, 545) := by unfold mv_in; rw [tb_X10_leastSpill]; rfl
theorem r_X10_leastSpill_12 : mv_in k_X10_leastSpill 12 = some (.aload_n 0, 13, 0, 0, 0) := by unfold mv_in; rw [tb_X10_leastSpill]; rfl
theorem r_X10_leastSpill_13 : mv_in k_X10_leastSpill 13 = some (.getfield 35, 16, 7, 5, 290) := by unfold mv_in; rw [tb_X10_leastSpill]; rfl
theorem r_X10_leastSpill_16 : mv_in k_X10_leastSpill 16 = some (.aload_n 0, 17, 0, 0, 0) := by unfold mv_in; rw [tb_X10_leastSpill]; rfl
theorem r_X10_leastSpill_17 : mv_in k_X10_leastSpill 17 = some (.getfield 10, 20, 7, 0, 285) := by unfold mv_in; rw [tb_X10_leastSpill]; rfl
theorem r_X10_leastSpill_20 : mv_in k_X10_leastSpill 20 = some (.iload_n 1, 21, 0, 0, 0) := by unfold mv_in; rw [tb_X10_leastSpill]; rfl
theorem r_X10_leastSpill_21 : mv_in k_X10_leastSpill 21 = some (.iload_n 2, 22, 0, 0, 0) := by unfold mv_in; rw [tb_X10_leastSpill]; rfl
theorem r_X10_leastSpill_22 : mv_in k_X10_leastSpill 22 = some (.invokevirtual 228, 25, k_X7_leastOfAll, 4, 641) := by unfold mv_in; rw [tb_X10_leastSpill]; rfl
theorem r_X10_leastSpill_25 : mv_in k_X10_leastSpill 25 = some (.ireturn, 26, 0, 0, 0) := by unfold mv_in; rw [tb_X10_leastSpill]; rfl
theorem nh_X10_leastSpill : mv_nh k_X10_leastSpill = true := rfl
theorem tb_X10_leastSpillByPruning : mv_tb k_X10_leastSpillByPruning = t_X10_leastSpillByPruning := rfl
theorem r_X10_leastSpillByPruning_0 : mv_in k_X10_leastSpillByPruning 0 = some (.aload_n 0, 1, 0, 0, 0) := by unfold mv_in; rw [tb_X10_leastSpillByPruning]; rfl
theorem r_X10_leastSpillByPruning_1 : mv_in k_X10_leastSpillByPruning 1 = some (.getfield 10, 4, 7, 0, 285) := by unfold mv_in; rw [tb_X10_leastSpillByPruning]; rfl
theorem r_X10_leastSpillByPruning_4 : mv_in k_X10_leastSpillByPruning 4 = some (.iload_n 1, 5, 0, 0, 0) := by unfold mv_in; rw [tb_X10_leastSpillByPruning]; rfl
theorem r_X10_leastSpillByPruning_5 : mv_in k_X10_leastSpillByPruning 5 = some (.iload_n 2, 6, 0, 0, 0) := by unfold mv_in; rw [tb_X10_leastSpillByPruning]; rfl
theorem r_X10_leastSpillByPruning_6 : mv_in k_X10_leastSpillByPruning 6 = some (.invokevirtual 225, 9, k_X2_faultOfPlan, 3, 635) := by unfold mv_in; rw [tb_X10_leastSpillByPruning]; rfl
theorem r_X10_leastSpillByPruning_9 : mv_in k_X10_leastSpillByPruning 9 = some (.invokestatic 106, 12, k_X10_throwFor, 1, 545) := by unfold mv_in; rw [tb_X10_leastSpillByPruning]; rfl
theorem r_X10_leastSpillByPruning_12 : mv_in k_X10_leastSpillByPruning 12 = some (.aload_n 0, 13, 0, 0, 0) := by unfold mv_in; rw [tb_X10_leastSpillByPruning]; rfl
theorem r_X10_leastSpillByPruning_13 : mv_in k_X10_leastSpillByPruning 13 = some (.getfield 35, 16, 7, 5, 290) := by unfold mv_in; rw [tb_X10_leastSpillByPruning]; rfl
theorem r_X10_leastSpillByPruning_16 : mv_in k_X10_leastSpillByPruning 16 = some (.aload_n 0, 17, 0, 0, 0) := by unfold mv_in; rw [tb_X10_leastSpillByPruning]; rfl
theorem r_X10_leastSpillByPruning_17 : mv_in k_X10_leastSpillByPruning 17 = some (.getfield 10, 20, 7, 0, 285) := by unfold mv_in; rw [tb_X10_leastSpillByPruning]; rfl
theorem r_X10_leastSpillByPruning_20 : mv_in k_X10_leastSpillByPruning 20 = some (.iload_n 1, 21, 0, 0, 0) := by unfold mv_in; rw [tb_X10_leastSpillByPruning]; rfl
theorem r_X10_leastSpillByPruning_21 : mv_in k_X10_leastSpillByPruning 21 = some (.iload_n 2, 22, 0, 0, 0) := by unfold mv_in; rw [tb_X10_leastSpillByPruning]; rfl
theorem r_X10_leastSpillByPruning_22 : mv_in k_X10_leastSpillByPruning 22 = some (.invokevirtual 232, 25, k_X7_leastByCutting, 4, 662) := by unfold mv_in; rw [tb_X10_leastSpillByPruning]; rfl
theorem r_X10_leastSpillByPruning_25 : mv_in k_X10_leastSpillByPruning 25 = some (.ireturn, 26, 0, 0, 0) := by unfold mv_in; rw [tb_X10_leastSpillByPruning]; rfl
theorem nh_X10_leastSpillByPruning : mv_nh k_X10_leastSpillByPruning = true := rfl
theorem tb_X10_bestOpening : mv_tb k_X10_bestOpening = t_X10_bestOpening := rfl
theorem r_X10_bestOpening_0 : mv_in k_X10_bestOpening 0 = some (.aload_n 0, 1, 0, 0, 0) := by unfold mv_in; rw [tb_X10_bestOpening]; rfl
theorem r_X10_bestOpening_1 : mv_in k_X10_bestOpening 1 = some (.getfield 10, 4, 7, 0, 285) := by unfold mv_in; rw [tb_X10_bestOpening]; rfl
theorem r_X10_bestOpening_4 : mv_in k_X10_bestOpening 4 = some (.iload_n 1, 5, 0, 0, 0) := by unfold mv_in; rw [tb_X10_bestOpening]; rfl
theorem r_X10_bestOpening_5 : mv_in k_X10_bestOpening 5 = some (.iload_n 2, 6, 0, 0, 0) := by unfold mv_in; rw [tb_X10_bestOpening]; rfl
theorem r_X10_bestOpening_6 : mv_in k_X10_bestOpening 6 = some (.invokevirtual 225, 9, k_X2_faultOfPlan, 3, 635) := by unfold mv_in; rw [tb_X10_bestOpening]; rfl
theorem r_X10_bestOpening_9 : mv_in k_X10_bestOpening 9 = some (.invokestatic 106, 12, k_X10_throwFor, 1, 545) := by unfold mv_in; rw [tb_X10_bestOpening]; rfl
theorem r_X10_bestOpening_12 : mv_in k_X10_bestOpening 12 = some (.aload_n 0, 13, 0, 0, 0) := by unfold mv_in; rw [tb_X10_bestOpening]; rfl
theorem r_X10_bestOpening_13 : mv_in k_X10_bestOpening 13 = some (.getfield 35, 16, 7, 5, 290) := by unfold mv_in; rw [tb_X10_bestOpening]; rfl
theorem r_X10_bestOpening_16 : mv_in k_X10_bestOpening 16 = some (.aload_n 0, 17, 0, 0, 0) := by unfold mv_in; rw [tb_X10_bestOpening]; rfl
theorem r_X10_bestOpening_17 : mv_in k_X10_bestOpening 17 = some (.getfield 10, 20, 7, 0, 285) := by unfold mv_in; rw [tb_X10_bestOpening]; rfl
theorem r_X10_bestOpening_20 : mv_in k_X10_bestOpening 20 = some (.iload_n 1, 21, 0, 0, 0) := by unfold mv_in; rw [tb_X10_bestOpening]; rfl
theorem r_X10_bestOpening_21 : mv_in k_X10_bestOpening 21 = some (.iload_n 2, 22, 0, 0, 0) := by unfold mv_in; rw [tb_X10_bestOpening]; rfl
theorem r_X10_bestOpening_22 : mv_in k_X10_bestOpening 22 = some (.invokevirtual 235, 25, k_X7_lowestFirstOpening, 4, 673) := by unfold mv_in; rw [tb_X10_bestOpening]; rfl
theorem r_X10_bestOpening_25 : mv_in k_X10_bestOpening 25 = some (.ireturn, 26, 0, 0, 0) := by unfold mv_in; rw [tb_X10_bestOpening]; rfl
theorem nh_X10_bestOpening : mv_nh k_X10_bestOpening = true := rfl
theorem tb_X10_endangered : mv_tb k_X10_endangered = t_X10_endangered := rfl
theorem r_X10_endangered_0 : mv_in k_X10_endangered 0 = some (.iload_n 1, 1, 0, 0, 0) := by unfold mv_in; rw [tb_X10_endangered]; rfl
theorem r_X10_endangered_1 : mv_in k_X10_endangered 1 = some (.iconst 0, 2, 0, 0, 0) := by unfold mv_in; rw [tb_X10_endangered]; rfl
theorem r_X10_endangered_2 : mv_in k_X10_endangered 2 = some (.bipush 30, 4, 0, 0, 0) := by unfold mv_in; rw [tb_X10_endangered]; rfl
theorem r_X10_endangered_4 : mv_in k_X10_endangered 4 = some (.invokestatic 238, 7, k_X10_faultOfRange, 3, 681) := by unfold mv_in; rw [tb_X10_endangered]; rfl
theorem r_X10_endangered_7 : mv_in k_X10_endangered 7 = some (.invokestatic 106, 10, k_X10_throwFor, 1, 545) := by unfold mv_in; rw [tb_X10_endangered]; rfl
theorem r_X10_endangered_10 : mv_in k_X10_endangered 10 = some (.aload_n 0, 11, 0, 0, 0) := by unfold mv_in; rw [tb_X10_endangered]; rfl
theorem r_X10_endangered_11 : mv_in k_X10_endangered 11 = some (.iload_n 1, 12, 0, 0, 0) := by unfold mv_in; rw [tb_X10_endangered]; rfl
theorem r_X10_endangered_12 : mv_in k_X10_endangered 12 = some (.invokevirtual 242, 15, k_X10_gatherEndangered, 2, 682) := by unfold mv_in; rw [tb_X10_endangered]; rfl
theorem r_X10_endangered_15 : mv_in k_X10_endangered 15 = some (.aload_n 0, 16, 0, 0, 0) := by unfold mv_in; rw [tb_X10_endangered]; rfl
theorem r_X10_endangered_16 : mv_in k_X10_endangered 16 = some (.getfield 42, 19, 7, 6, 291) := by unfold mv_in; rw [tb_X10_endangered]; rfl
theorem r_X10_endangered_19 : mv_in k_X10_endangered 19 = some (.getfield 245, 22, 6, 2, 231) := by unfold mv_in; rw [tb_X10_endangered]; rfl
theorem r_X10_endangered_22 : mv_in k_X10_endangered 22 = some (.ireturn, 23, 0, 0, 0) := by unfold mv_in; rw [tb_X10_endangered]; rfl
theorem nh_X10_endangered : mv_nh k_X10_endangered = true := rfl
theorem tb_X10_bestProtection : mv_tb k_X10_bestProtection = t_X10_bestProtection := rfl
theorem r_X10_bestProtection_0 : mv_in k_X10_bestProtection 0 = some (.iload_n 1, 1, 0, 0, 0) := by unfold mv_in; rw [tb_X10_bestProtection]; rfl
theorem r_X10_bestProtection_1 : mv_in k_X10_bestProtection 1 = some (.iconst 0, 2, 0, 0, 0) := by unfold mv_in; rw [tb_X10_bestProtection]; rfl
theorem r_X10_bestProtection_2 : mv_in k_X10_bestProtection 2 = some (.bipush 99, 4, 0, 0, 0) := by unfold mv_in; rw [tb_X10_bestProtection]; rfl
theorem r_X10_bestProtection_4 : mv_in k_X10_bestProtection 4 = some (.invokestatic 238, 7, k_X10_faultOfRange, 3, 681) := by unfold mv_in; rw [tb_X10_bestProtection]; rfl
theorem r_X10_bestProtection_7 : mv_in k_X10_bestProtection 7 = some (.invokestatic 106, 10, k_X10_throwFor, 1, 545) := by unfold mv_in; rw [tb_X10_bestProtection]; rfl
theorem r_X10_bestProtection_10 : mv_in k_X10_bestProtection 10 = some (.iload_n 2, 11, 0, 0, 0) := by unfold mv_in; rw [tb_X10_bestProtection]; rfl
theorem r_X10_bestProtection_11 : mv_in k_X10_bestProtection 11 = some (.iconst 0, 12, 0, 0, 0) := by unfold mv_in; rw [tb_X10_bestProtection]; rfl
theorem r_X10_bestProtection_12 : mv_in k_X10_bestProtection 12 = some (.bipush 30, 14, 0, 0, 0) := by unfold mv_in; rw [tb_X10_bestProtection]; rfl
theorem r_X10_bestProtection_14 : mv_in k_X10_bestProtection 14 = some (.invokestatic 238, 17, k_X10_faultOfRange, 3, 681) := by unfold mv_in; rw [tb_X10_bestProtection]; rfl
theorem r_X10_bestProtection_17 : mv_in k_X10_bestProtection 17 = some (.invokestatic 106, 20, k_X10_throwFor, 1, 545) := by unfold mv_in; rw [tb_X10_bestProtection]; rfl
theorem r_X10_bestProtection_20 : mv_in k_X10_bestProtection 20 = some (.aload_n 0, 21, 0, 0, 0) := by unfold mv_in; rw [tb_X10_bestProtection]; rfl
theorem r_X10_bestProtection_21 : mv_in k_X10_bestProtection 21 = some (.iload_n 2, 22, 0, 0, 0) := by unfold mv_in; rw [tb_X10_bestProtection]; rfl
theorem r_X10_bestProtection_22 : mv_in k_X10_bestProtection 22 = some (.invokevirtual 242, 25, k_X10_gatherEndangered, 2, 682) := by unfold mv_in; rw [tb_X10_bestProtection]; rfl
theorem r_X10_bestProtection_25 : mv_in k_X10_bestProtection 25 = some (.aload_n 0, 26, 0, 0, 0) := by unfold mv_in; rw [tb_X10_bestProtection]; rfl
theorem r_X10_bestProtection_26 : mv_in k_X10_bestProtection 26 = some (.getfield 42, 29, 7, 6, 291) := by unfold mv_in; rw [tb_X10_bestProtection]; rfl
theorem r_X10_bestProtection_29 : mv_in k_X10_bestProtection 29 = some (.iload_n 1, 30, 0, 0, 0) := by unfold mv_in; rw [tb_X10_bestProtection]; rfl
theorem r_X10_bestProtection_30 : mv_in k_X10_bestProtection 30 = some (.invokevirtual 248, 33, k_X9_bestByTable, 2, 694) := by unfold mv_in; rw [tb_X10_bestProtection]; rfl
theorem r_X10_bestProtection_33 : mv_in k_X10_bestProtection 33 = some (.ireturn, 34, 0, 0, 0) := by unfold mv_in; rw [tb_X10_bestProtection]; rfl
theorem nh_X10_bestProtection : mv_nh k_X10_bestProtection = true := rfl
theorem tb_X10_bestProtectionBySets : mv_tb k_X10_bestProtectionBySets = t_X10_bestProtectionBySets := rfl
theorem r_X10_bestProtectionBySets_0 : mv_in k_X10_bestProtectionBySets 0 = some (.iload_n 1, 1, 0, 0, 0) := by unfold mv_in; rw [tb_X10_bestProtectionBySets]; rfl
theorem r_X10_bestProtectionBySets_1 : mv_in k_X10_bestProtectionBySets 1 = some (.iconst 0, 2, 0, 0, 0) := by unfold mv_in; rw [tb_X10_bestProtectionBySets]; rfl
theorem r_X10_bestProtectionBySets_2 : mv_in k_X10_bestProtectionBySets 2 = some (.bipush 99, 4, 0, 0, 0) := by unfold mv_in; rw [tb_X10_bestProtectionBySets]; rfl
theorem r_X10_bestProtectionBySets_4 : mv_in k_X10_bestProtectionBySets 4 = some (.invokestatic 238, 7, k_X10_faultOfRange, 3, 681) := by unfold mv_in; rw [tb_X10_bestProtectionBySets]; rfl
theorem r_X10_bestProtectionBySets_7 : mv_in k_X10_bestProtectionBySets 7 = some (.invokestatic 106, 10, k_X10_throwFor, 1, 545) := by unfold mv_in; rw [tb_X10_bestProtectionBySets]; rfl
theorem r_X10_bestProtectionBySets_10 : mv_in k_X10_bestProtectionBySets 10 = some (.iload_n 2, 11, 0, 0, 0) := by unfold mv_in; rw [tb_X10_bestProtectionBySets]; rfl
theorem r_X10_bestProtectionBySets_11 : mv_in k_X10_bestProtectionBySets 11 = some (.iconst 0, 12, 0, 0, 0) := by unfold mv_in; rw [tb_X10_bestProtectionBySets]; rfl
theorem r_X10_bestProtectionBySets_12 : mv_in k_X10_bestProtectionBySets 12 = some (.bipush 30, 14, 0, 0, 0) := by unfold mv_in; rw [tb_X10_bestProtectionBySets]; rfl
theorem r_X10_bestProtectionBySets_14 : mv_in k_X10_bestProtectionBySets 14 = some (.invokestatic 238, 17, k_X10_faultOfRange, 3, 681) := by unfold mv_in; rw [tb_X10_bestProtectionBySets]; rfl
theorem r_X10_bestProtectionBySets_17 : mv_in k_X10_bestProtectionBySets 17 = some (.invokestatic 106, 20, k_X10_throwFor, 1, 545) := by unfold mv_in; rw [tb_X10_bestProtectionBySets]; rfl
theorem r_X10_bestProtectionBySets_20 : mv_in k_X10_bestProtectionBySets 20 = some (.aload_n 0, 21, 0, 0, 0) := by unfold mv_in; rw [tb_X10_bestProtectionBySets]; rfl
theorem r_X10_bestProtectionBySets_21 : mv_in k_X10_bestProtectionBySets 21 = some (.iload_n 2, 22, 0, 0, 0) := by unfold mv_in; rw [tb_X10_bestProtectionBySets]; rfl
theorem r_X10_bestProtectionBySets_22 : mv_in k_X10_bestProtectionBySets 22 = some (.invokevirtual 242, 25, k_X10_gatherEndangered, 2, 682) := by unfold mv_in; rw [tb_X10_bestProtectionBySets]; rfl
theorem r_X10_bestProtectionBySets_25 : mv_in k_X10_bestProtectionBySets 25 = some (.aload_n 0, 26, 0, 0, 0) := by unfold mv_in; rw [tb_X10_bestProtectionBySets]; rfl
theorem r_X10_bestProtectionBySets_26 : mv_in k_X10_bestProtectionBySets 26 = some (.getfield 42, 29, 7, 6, 291) := by unfold mv_in; rw [tb_X10_bestProtectionBySets]; rfl
theorem r_X10_bestProtectionBySets_29 : mv_in k_X10_bestProtectionBySets 29 = some (.iload_n 1, 30, 0, 0, 0) := by unfold mv_in; rw [tb_X10_bestProtectionBySets]; rfl
theorem r_X10_bestProtectionBySets_30 : mv_in k_X10_bestProtectionBySets 30 = some (.invokevirtual 251, 33, k_X9_bestBySets, 2, 709) := by unfold mv_in; rw [tb_X10_bestProtectionBySets]; rfl
theorem r_X10_bestProtectionBySets_33 : mv_in k_X10_bestProtectionBySets 33 = some (.ireturn, 34, 0, 0, 0) := by unfold mv_in; rw [tb_X10_bestProtectionBySets]; rfl
theorem nh_X10_bestProtectionBySets : mv_nh k_X10_bestProtectionBySets = true := rfl
theorem tb_X10_bagsForAll : mv_tb k_X10_bagsForAll = t_X10_bagsForAll := rfl
theorem r_X10_bagsForAll_0 : mv_in k_X10_bagsForAll 0 = some (.iload_n 1, 1, 0, 0, 0) := by unfold mv_in; rw [tb_X10_bagsForAll]; rfl
theorem r_X10_bagsForAll_1 : mv_in k_X10_bagsForAll 1 = some (.iconst 0, 2, 0, 0, 0) := by unfold mv_in; rw [tb_X10_bagsForAll]; rfl
theorem r_X10_bagsForAll_2 : mv_in k_X10_bagsForAll 2 = some (.bipush 30, 4, 0, 0, 0) := by unfold mv_in; rw [tb_X10_bagsForAll]; rfl
theorem r_X10_bagsForAll_4 : mv_in k_X10_bagsForAll 4 = some (.invokestatic 238, 7, k_X10_faultOfRange, 3, 681) := by unfold mv_in; rw [tb_X10_bagsForAll]; rfl
theorem r_X10_bagsForAll_7 : mv_in k_X10_bagsForAll 7 = some (.invokestatic 106, 10, k_X10_throwFor, 1, 545) := by unfold mv_in; rw [tb_X10_bagsForAll]; rfl
theorem r_X10_bagsForAll_10 : mv_in k_X10_bagsForAll 10 = some (.aload_n 0, 11, 0, 0, 0) := by unfold mv_in; rw [tb_X10_bagsForAll]; rfl
theorem r_X10_bagsForAll_11 : mv_in k_X10_bagsForAll 11 = some (.iload_n 1, 12, 0, 0, 0) := by unfold mv_in; rw [tb_X10_bagsForAll]; rfl
theorem r_X10_bagsForAll_12 : mv_in k_X10_bagsForAll 12 = some (.invokevirtual 242, 15, k_X10_gatherEndangered, 2, 682) := by unfold mv_in; rw [tb_X10_bagsForAll]; rfl
theorem r_X10_bagsForAll_15 : mv_in k_X10_bagsForAll 15 = some (.aload_n 0, 16, 0, 0, 0) := by unfold mv_in; rw [tb_X10_bagsForAll]; rfl
theorem r_X10_bagsForAll_16 : mv_in k_X10_bagsForAll 16 = some (.getfield 42, 19, 7, 6, 291) := by unfold mv_in; rw [tb_X10_bagsForAll]; rfl
theorem r_X10_bagsForAll_19 : mv_in k_X10_bagsForAll 19 = some (.invokevirtual 254, 22, k_X9_sumOfBags, 1, 725) := by unfold mv_in; rw [tb_X10_bagsForAll]; rfl
theorem r_X10_bagsForAll_22 : mv_in k_X10_bagsForAll 22 = some (.ireturn, 23, 0, 0, 0) := by unfold mv_in; rw [tb_X10_bagsForAll]; rfl
theorem nh_X10_bagsForAll : mv_nh k_X10_bagsForAll = true := rfl
theorem tb_X10_gatherEndangered : mv_tb k_X10_gatherEndangered = t_X10_gatherEndangered := rfl
theorem r_X10_gatherEndangered_0 : mv_in k_X10_gatherEndangered 0 = some (.aload_n 0, 1, 0, 0, 0) := by unfold mv_in; rw [tb_X10_gatherEndangered]; rfl
theorem r_X10_gatherEndangered_1 : mv_in k_X10_gatherEndangered 1 = some (.iload_n 1, 2, 0, 0, 0) := by unfold mv_in; rw [tb_X10_gatherEndangered]; rfl
theorem r_X10_gatherEndangered_2 : mv_in k_X10_gatherEndangered 2 = some (.invokevirtual 210, 5, k_X10_lookAhead, 2, 583) := by unfold mv_in; rw [tb_X10_gatherEndangered]; rfl
theorem r_X10_gatherEndangered_5 : mv_in k_X10_gatherEndangered 5 = some (.aload_n 0, 6, 0, 0, 0) := by unfold mv_in; rw [tb_X10_gatherEndangered]; rfl
theorem r_X10_gatherEndangered_6 : mv_in k_X10_gatherEndangered 6 = some (.getfield 42, 9, 7, 6, 291) := by unfold mv_in; rw [tb_X10_gatherEndangered]; rfl
theorem r_X10_gatherEndangered_9 : mv_in k_X10_gatherEndangered 9 = some (.iconst 0, 10, 0, 0, 0) := by unfold mv_in; rw [tb_X10_gatherEndangered]; rfl
theorem r_X10_gatherEndangered_10 : mv_in k_X10_gatherEndangered 10 = some (.putfield 245, 13, 6, 2, 231) := by unfold mv_in; rw [tb_X10_gatherEndangered]; rfl
theorem r_X10_gatherEndangered_13 : mv_in k_X10_gatherEndangered 13 = some (.iconst 0, 14, 0, 0, 0) := by unfold mv_in; rw [tb_X10_gatherEndangered]; rfl
theorem r_X10_gatherEndangered_14 : mv_in k_X10_gatherEndangered 14 = some (.istore_n 2, 15, 0, 0, 0) := by unfold mv_in; rw [tb_X10_gatherEndangered]; rfl
theorem r_X10_gatherEndangered_15 : mv_in k_X10_gatherEndangered 15 = some (.iload_n 2, 16, 0, 0, 0) := by unfold mv_in; rw [tb_X10_gatherEndangered]; rfl
theorem r_X10_gatherEndangered_16 : mv_in k_X10_gatherEndangered 16 = some (.aload_n 0, 17, 0, 0, 0) := by unfold mv_in; rw [tb_X10_gatherEndangered]; rfl
theorem r_X10_gatherEndangered_17 : mv_in k_X10_gatherEndangered 17 = some (.getfield 10, 20, 7, 0, 285) := by unfold mv_in; rw [tb_X10_gatherEndangered]; rfl
theorem r_X10_gatherEndangered_20 : mv_in k_X10_gatherEndangered 20 = some (.getfield 117, 23, 1, 1, 163) := by unfold mv_in; rw [tb_X10_gatherEndangered]; rfl
theorem r_X10_gatherEndangered_23 : mv_in k_X10_gatherEndangered 23 = some (.if_icmp .ge 39, 26, 62, 0, 0) := by unfold mv_in; rw [tb_X10_gatherEndangered]; rfl
theorem r_X10_gatherEndangered_26 : mv_in k_X10_gatherEndangered 26 = some (.aload_n 0, 27, 0, 0, 0) := by unfold mv_in; rw [tb_X10_gatherEndangered]; rfl
theorem r_X10_gatherEndangered_27 : mv_in k_X10_gatherEndangered 27 = some (.iload_n 2, 28, 0, 0, 0) := by unfold mv_in; rw [tb_X10_gatherEndangered]; rfl
theorem r_X10_gatherEndangered_28 : mv_in k_X10_gatherEndangered 28 = some (.invokevirtual 214, 31, k_X10_expectedSpill, 2, 627) := by unfold mv_in; rw [tb_X10_gatherEndangered]; rfl
theorem r_X10_gatherEndangered_31 : mv_in k_X10_gatherEndangered 31 = some (.istore_n 3, 32, 0, 0, 0) := by unfold mv_in; rw [tb_X10_gatherEndangered]; rfl
theorem r_X10_gatherEndangered_32 : mv_in k_X10_gatherEndangered 32 = some (.iload_n 3, 33, 0, 0, 0) := by unfold mv_in; rw [tb_X10_gatherEndangered]; rfl
theorem r_X10_gatherEndangered_33 : mv_in k_X10_gatherEndangered 33 = some (.ifCond .le 23, 36, 56, 0, 0) := by unfold mv_in; rw [tb_X10_gatherEndangered]; rfl
theorem r_X10_gatherEndangered_36 : mv_in k_X10_gatherEndangered 36 = some (.aload_n 0, 37, 0, 0, 0) := by unfold mv_in; rw [tb_X10_gatherEndangered]; rfl
theorem r_X10_gatherEndangered_37 : mv_in k_X10_gatherEndangered 37 = some (.getfield 42, 40, 7, 6, 291) := by unfold mv_in; rw [tb_X10_gatherEndangered]; rfl
theorem r_X10_gatherEndangered_40 : mv_in k_X10_gatherEndangered 40 = some (.iload_n 3, 41, 0, 0, 0) := by unfold mv_in; rw [tb_X10_gatherEndangered]; rfl
theorem r_X10_gatherEndangered_41 : mv_in k_X10_gatherEndangered 41 = some (.aload_n 0, 42, 0, 0, 0) := by unfold mv_in; rw [tb_X10_gatherEndangered]; rfl
theorem r_X10_gatherEndangered_42 : mv_in k_X10_gatherEndangered 42 = some (.getfield 10, 45, 7, 0, 285) := by unfold mv_in; rw [tb_X10_gatherEndangered]; rfl
theorem r_X10_gatherEndangered_45 : mv_in k_X10_gatherEndangered 45 = some (.getfield 197, 48, 1, 0, 161) := by unfold mv_in; rw [tb_X10_gatherEndangered]; rfl
theorem r_X10_gatherEndangered_48 : mv_in k_X10_gatherEndangered 48 = some (.iload_n 2, 49, 0, 0, 0) := by unfold mv_in; rw [tb_X10_gatherEndangered]; rfl
theorem r_X10_gatherEndangered_49 : mv_in k_X10_gatherEndangered 49 = some (.aaload, 50, 0, 0, 0) := by unfold mv_in; rw [tb_X10_gatherEndangered]; rfl
theorem r_X10_gatherEndangered_50 : mv_in k_X10_gatherEndangered 50 = some (.getfield 135, 53, 0, 2, 121) := by unfold mv_in; rw [tb_X10_gatherEndangered]; rfl
theorem r_X10_gatherEndangered_53 : mv_in k_X10_gatherEndangered 53 = some (.invokevirtual 267, 56, k_X9_include, 3, 686) := by unfold mv_in; rw [tb_X10_gatherEndangered]; rfl
theorem r_X10_gatherEndangered_56 : mv_in k_X10_gatherEndangered 56 = some (.iinc 2 1, 59, 0, 0, 0) := by unfold mv_in; rw [tb_X10_gatherEndangered]; rfl
theorem r_X10_gatherEndangered_59 : mv_in k_X10_gatherEndangered 59 = some (.goto (-44), 62, 15, 0, 0) := by unfold mv_in; rw [tb_X10_gatherEndangered]; rfl
theorem r_X10_gatherEndangered_62 : mv_in k_X10_gatherEndangered 62 = some (.return_, 63, 0, 0, 0) := by unfold mv_in; rw [tb_X10_gatherEndangered]; rfl
theorem nh_X10_gatherEndangered : mv_nh k_X10_gatherEndangered = true := rfl
theorem tb_X10_leastSpillsAgree : mv_tb k_X10_leastSpillsAgree = t_X10_leastSpillsAgree := rfl
theorem r_X10_leastSpillsAgree_0 : mv_in k_X10_leastSpillsAgree 0 = some (.iconst 0, 1, 0, 0, 0) := by unfold mv_in; rw [tb_X10_leastSpillsAgree]; rfl
theorem r_X10_leastSpillsAgree_1 : mv_in k_X10_leastSpillsAgree 1 = some (.istore_n 1, 2, 0, 0, 0) := by unfold mv_in; rw [tb_X10_leastSpillsAgree]; rfl
theorem r_X10_leastSpillsAgree_2 : mv_in k_X10_leastSpillsAgree 2 = some (.iload_n 1, 3, 0, 0, 0) := by unfold mv_in; rw [tb_X10_leastSpillsAgree]; rfl
theorem r_X10_leastSpillsAgree_3 : mv_in k_X10_leastSpillsAgree 3 = some (.aload_n 0, 4, 0, 0, 0) := by unfold mv_in; rw [tb_X10_leastSpillsAgree]; rfl
theorem r_X10_leastSpillsAgree_4 : mv_in k_X10_leastSpillsAgree 4 = some (.getfield 10, 7, 7, 0, 285) := by unfold mv_in; rw [tb_X10_leastSpillsAgree]; rfl
theorem r_X10_leastSpillsAgree_7 : mv_in k_X10_leastSpillsAgree 7 = some (.getfield 117, 10, 1, 1, 163) := by unfold mv_in; rw [tb_X10_leastSpillsAgree]; rfl
theorem r_X10_leastSpillsAgree_10 : mv_in k_X10_leastSpillsAgree 10 = some (.if_icmp .ge 55, 13, 65, 0, 0) := by unfold mv_in; rw [tb_X10_leastSpillsAgree]; rfl
theorem r_X10_leastSpillsAgree_13 : mv_in k_X10_leastSpillsAgree 13 = some (.aload_n 0, 14, 0, 0, 0) := by unfold mv_in; rw [tb_X10_leastSpillsAgree]; rfl
theorem r_X10_leastSpillsAgree_14 : mv_in k_X10_leastSpillsAgree 14 = some (.getfield 10, 17, 7, 0, 285) := by unfold mv_in; rw [tb_X10_leastSpillsAgree]; rfl
theorem r_X10_leastSpillsAgree_17 : mv_in k_X10_leastSpillsAgree 17 = some (.getfield 197, 20, 1, 0, 161) := by unfold mv_in; rw [tb_X10_leastSpillsAgree]; rfl
theorem r_X10_leastSpillsAgree_20 : mv_in k_X10_leastSpillsAgree 20 = some (.iload_n 1, 21, 0, 0, 0) := by unfold mv_in; rw [tb_X10_leastSpillsAgree]; rfl
theorem r_X10_leastSpillsAgree_21 : mv_in k_X10_leastSpillsAgree 21 = some (.aaload, 22, 0, 0, 0) := by unfold mv_in; rw [tb_X10_leastSpillsAgree]; rfl
theorem r_X10_leastSpillsAgree_22 : mv_in k_X10_leastSpillsAgree 22 = some (.getfield 141, 25, 0, 5, 130) := by unfold mv_in; rw [tb_X10_leastSpillsAgree]; rfl
theorem r_X10_leastSpillsAgree_25 : mv_in k_X10_leastSpillsAgree 25 = some (.ifCond .ne 34, 28, 59, 0, 0) := by unfold mv_in; rw [tb_X10_leastSpillsAgree]; rfl
theorem r_X10_leastSpillsAgree_28 : mv_in k_X10_leastSpillsAgree 28 = some (.aload_n 0, 29, 0, 0, 0) := by unfold mv_in; rw [tb_X10_leastSpillsAgree]; rfl
theorem r_X10_leastSpillsAgree_29 : mv_in k_X10_leastSpillsAgree 29 = some (.getfield 35, 32, 7, 5, 290) := by unfold mv_in; rw [tb_X10_leastSpillsAgree]; rfl
theorem r_X10_leastSpillsAgree_32 : mv_in k_X10_leastSpillsAgree 32 = some (.aload_n 0, 33, 0, 0, 0) := by unfold mv_in; rw [tb_X10_leastSpillsAgree]; rfl
theorem r_X10_leastSpillsAgree_33 : mv_in k_X10_leastSpillsAgree 33 = some (.getfield 10, 36, 7, 0, 285) := by unfold mv_in; rw [tb_X10_leastSpillsAgree]; rfl
theorem r_X10_leastSpillsAgree_36 : mv_in k_X10_leastSpillsAgree 36 = some (.iload_n 1, 37, 0, 0, 0) := by unfold mv_in; rw [tb_X10_leastSpillsAgree]; rfl
theorem r_X10_leastSpillsAgree_37 : mv_in k_X10_leastSpillsAgree 37 = some (.iconst 2, 38, 0, 0, 0) := by unfold mv_in; rw [tb_X10_leastSpillsAgree]; rfl
theorem r_X10_leastSpillsAgree_38 : mv_in k_X10_leastSpillsAgree 38 = some (.invokevirtual 228, 41, k_X7_leastOfAll, 4, 641) := by unfold mv_in; rw [tb_X10_leastSpillsAgree]; rfl
theorem r_X10_leastSpillsAgree_41 : mv_in k_X10_leastSpillsAgree 41 = some (.aload_n 0, 42, 0, 0, 0) := by unfold mv_in; rw [tb_X10_leastSpillsAgree]; rfl
theorem r_X10_leastSpillsAgree_42 : mv_in k_X10_leastSpillsAgree 42 = some (.getfield 35, 45, 7, 5, 290) := by unfold mv_in; rw [tb_X10_leastSpillsAgree]; rfl
theorem r_X10_leastSpillsAgree_45 : mv_in k_X10_leastSpillsAgree 45 = some (.aload_n 0, 46, 0, 0, 0) := by unfold mv_in; rw [tb_X10_leastSpillsAgree]; rfl
theorem r_X10_leastSpillsAgree_46 : mv_in k_X10_leastSpillsAgree 46 = some (.getfield 10, 49, 7, 0, 285) := by unfold mv_in; rw [tb_X10_leastSpillsAgree]; rfl
theorem r_X10_leastSpillsAgree_49 : mv_in k_X10_leastSpillsAgree 49 = some (.iload_n 1, 50, 0, 0, 0) := by unfold mv_in; rw [tb_X10_leastSpillsAgree]; rfl
theorem r_X10_leastSpillsAgree_50 : mv_in k_X10_leastSpillsAgree 50 = some (.iconst 2, 51, 0, 0, 0) := by unfold mv_in; rw [tb_X10_leastSpillsAgree]; rfl
theorem r_X10_leastSpillsAgree_51 : mv_in k_X10_leastSpillsAgree 51 = some (.invokevirtual 232, 54, k_X7_leastByCutting, 4, 662) := by unfold mv_in; rw [tb_X10_leastSpillsAgree]; rfl
theorem r_X10_leastSpillsAgree_54 : mv_in k_X10_leastSpillsAgree 54 = some (.if_icmp .eq 5, 57, 59, 0, 0) := by unfold mv_in; rw [tb_X10_leastSpillsAgree]; rfl
theorem r_X10_leastSpillsAgree_57 : mv_in k_X10_leastSpillsAgree 57 = some (.iconst 0, 58, 0, 0, 0) := by unfold mv_in; rw [tb_X10_leastSpillsAgree]; rfl
theorem r_X10_leastSpillsAgree_58 : mv_in k_X10_leastSpillsAgree 58 = some (.ireturn, 59, 1, 0, 0) := by unfold mv_in; rw [tb_X10_leastSpillsAgree]; rfl
theorem r_X10_leastSpillsAgree_59 : mv_in k_X10_leastSpillsAgree 59 = some (.iinc 1 1, 62, 0, 0, 0) := by unfold mv_in; rw [tb_X10_leastSpillsAgree]; rfl
theorem r_X10_leastSpillsAgree_62 : mv_in k_X10_leastSpillsAgree 62 = some (.goto (-60), 65, 2, 0, 0) := by unfold mv_in; rw [tb_X10_leastSpillsAgree]; rfl
theorem r_X10_leastSpillsAgree_65 : mv_in k_X10_leastSpillsAgree 65 = some (.iconst 1, 66, 0, 0, 0) := by unfold mv_in; rw [tb_X10_leastSpillsAgree]; rfl
theorem r_X10_leastSpillsAgree_66 : mv_in k_X10_leastSpillsAgree 66 = some (.ireturn, 67, 1, 0, 0) := by unfold mv_in; rw [tb_X10_leastSpillsAgree]; rfl
theorem nh_X10_leastSpillsAgree : mv_nh k_X10_leastSpillsAgree = true := rfl
theorem tb_X10_protectionsAgree : mv_tb k_X10_protectionsAgree = t_X10_protectionsAgree := rfl
theorem r_X10_protectionsAgree_0 : mv_in k_X10_protectionsAgree 0 = some (.aload_n 0, 1, 0, 0, 0) := by unfold mv_in; rw [tb_X10_protectionsAgree]; rfl
theorem r_X10_protectionsAgree_1 : mv_in k_X10_protectionsAgree 1 = some (.bipush 6, 3, 0, 0, 0) := by unfold mv_in; rw [tb_X10_protectionsAgree]; rfl
theorem r_X10_protectionsAgree_3 : mv_in k_X10_protectionsAgree 3 = some (.invokevirtual 242, 6, k_X10_gatherEndangered, 2, 682) := by unfold mv_in; rw [tb_X10_protectionsAgree]; rfl
theorem r_X10_protectionsAgree_6 : mv_in k_X10_protectionsAgree 6 = some (.aload_n 0, 7, 0, 0, 0) := by unfold mv_in; rw [tb_X10_protectionsAgree]; rfl
theorem r_X10_protectionsAgree_7 : mv_in k_X10_protectionsAgree 7 = some (.getfield 42, 10, 7, 6, 291) := by unfold mv_in; rw [tb_X10_protectionsAgree]; rfl
theorem r_X10_protectionsAgree_10 : mv_in k_X10_protectionsAgree 10 = some (.bipush 20, 12, 0, 0, 0) := by unfold mv_in; rw [tb_X10_protectionsAgree]; rfl
theorem r_X10_protectionsAgree_12 : mv_in k_X10_protectionsAgree 12 = some (.invokevirtual 248, 15, k_X9_bestByTable, 2, 694) := by unfold mv_in; rw [tb_X10_protectionsAgree]; rfl
theorem r_X10_protectionsAgree_15 : mv_in k_X10_protectionsAgree 15 = some (.aload_n 0, 16, 0, 0, 0) := by unfold mv_in; rw [tb_X10_protectionsAgree]; rfl
theorem r_X10_protectionsAgree_16 : mv_in k_X10_protectionsAgree 16 = some (.getfield 42, 19, 7, 6, 291) := by unfold mv_in; rw [tb_X10_protectionsAgree]; rfl
theorem r_X10_protectionsAgree_19 : mv_in k_X10_protectionsAgree 19 = some (.bipush 20, 21, 0, 0, 0) := by unfold mv_in; rw [tb_X10_protectionsAgree]; rfl
theorem r_X10_protectionsAgree_21 : mv_in k_X10_protectionsAgree 21 = some (.invokevirtual 251, 24, k_X9_bestBySets, 2, 709) := by unfold mv_in; rw [tb_X10_protectionsAgree]; rfl
theorem r_X10_protectionsAgree_24 : mv_in k_X10_protectionsAgree 24 = some (.if_icmp .ne 7, 27, 31, 0, 0) := by unfold mv_in; rw [tb_X10_protectionsAgree]; rfl
theorem r_X10_protectionsAgree_27 : mv_in k_X10_protectionsAgree 27 = some (.iconst 1, 28, 0, 0, 0) := by unfold mv_in; rw [tb_X10_protectionsAgree]; rfl
theorem r_X10_protectionsAgree_28 : mv_in k_X10_protectionsAgree 28 = some (.goto 4, 31, 32, 0, 0) := by unfold mv_in; rw [tb_X10_protectionsAgree]; rfl
theorem r_X10_protectionsAgree_31 : mv_in k_X10_protectionsAgree 31 = some (.iconst 0, 32, 0, 0, 0) := by unfold mv_in; rw [tb_X10_protectionsAgree]; rfl
theorem r_X10_protectionsAgree_32 : mv_in k_X10_protectionsAgree 32 = some (.ireturn, 33, 1, 0, 0) := by unfold mv_in; rw [tb_X10_protectionsAgree]; rfl
theorem nh_X10_protectionsAgree : mv_nh k_X10_protectionsAgree = true := rfl
theorem tb_X10_isConsistent : mv_tb k_X10_isConsistent = t_X10_isConsistent := rfl
theorem r_X10_isConsistent_0 : mv_in k_X10_isConsistent 0 = some (.aload_n 0, 1, 0, 0, 0) := by unfold mv_in; rw [tb_X10_isConsistent]; rfl
theorem r_X10_isConsistent_1 : mv_in k_X10_isConsistent 1 = some (.getfield 10, 4, 7, 0, 285) := by unfold mv_in; rw [tb_X10_isConsistent]; rfl
theorem r_X10_isConsistent_4 : mv_in k_X10_isConsistent 4 = some (.invokevirtual 257, 7, k_X2_levelsFit, 1, 733) := by unfold mv_in; rw [tb_X10_isConsistent]; rfl
theorem r_X10_isConsistent_7 : mv_in k_X10_isConsistent 7 = some (.ifCond .eq 38, 10, 45, 0, 0) := by unfold mv_in; rw [tb_X10_isConsistent]; rfl
theorem r_X10_isConsistent_10 : mv_in k_X10_isConsistent 10 = some (.aload_n 0, 11, 0, 0, 0) := by unfold mv_in; rw [tb_X10_isConsistent]; rfl
theorem r_X10_isConsistent_11 : mv_in k_X10_isConsistent 11 = some (.getfield 10, 14, 7, 0, 285) := by unfold mv_in; rw [tb_X10_isConsistent]; rfl
theorem r_X10_isConsistent_14 : mv_in k_X10_isConsistent 14 = some (.invokevirtual 181, 17, k_X2_sumOfLevels, 1, 478) := by unfold mv_in; rw [tb_X10_isConsistent]; rfl
theorem r_X10_isConsistent_17 : mv_in k_X10_isConsistent 17 = some (.aload_n 0, 18, 0, 0, 0) := by unfold mv_in; rw [tb_X10_isConsistent]; rfl
theorem r_X10_isConsistent_18 : mv_in k_X10_isConsistent 18 = some (.getfield 10, 21, 7, 0, 285) := by unfold mv_in; rw [tb_X10_isConsistent]; rfl
theorem r_X10_isConsistent_21 : mv_in k_X10_isConsistent 21 = some (.invokevirtual 185, 24, k_X2_balanceOfAccounts, 1, 486) := by unfold mv_in; rw [tb_X10_isConsistent]; rfl
theorem r_X10_isConsistent_24 : mv_in k_X10_isConsistent 24 = some (.if_icmp .ne 21, 27, 45, 0, 0) := by unfold mv_in; rw [tb_X10_isConsistent]; rfl
theorem r_X10_isConsistent_27 : mv_in k_X10_isConsistent 27 = some (.aload_n 0, 28, 0, 0, 0) := by unfold mv_in; rw [tb_X10_isConsistent]; rfl
theorem r_X10_isConsistent_28 : mv_in k_X10_isConsistent 28 = some (.invokevirtual 261, 31, k_X10_leastSpillsAgree, 1, 737) := by unfold mv_in; rw [tb_X10_isConsistent]; rfl
theorem r_X10_isConsistent_31 : mv_in k_X10_isConsistent 31 = some (.ifCond .eq 14, 34, 45, 0, 0) := by unfold mv_in; rw [tb_X10_isConsistent]; rfl
theorem r_X10_isConsistent_34 : mv_in k_X10_isConsistent 34 = some (.aload_n 0, 35, 0, 0, 0) := by unfold mv_in; rw [tb_X10_isConsistent]; rfl
theorem r_X10_isConsistent_35 : mv_in k_X10_isConsistent 35 = some (.invokevirtual 264, 38, k_X10_protectionsAgree, 1, 741) := by unfold mv_in; rw [tb_X10_isConsistent]; rfl
theorem r_X10_isConsistent_38 : mv_in k_X10_isConsistent 38 = some (.ifCond .eq 7, 41, 45, 0, 0) := by unfold mv_in; rw [tb_X10_isConsistent]; rfl
theorem r_X10_isConsistent_41 : mv_in k_X10_isConsistent 41 = some (.iconst 1, 42, 0, 0, 0) := by unfold mv_in; rw [tb_X10_isConsistent]; rfl
theorem r_X10_isConsistent_42 : mv_in k_X10_isConsistent 42 = some (.goto 4, 45, 46, 0, 0) := by unfold mv_in; rw [tb_X10_isConsistent]; rfl
theorem r_X10_isConsistent_45 : mv_in k_X10_isConsistent 45 = some (.iconst 0, 46, 0, 0, 0) := by unfold mv_in; rw [tb_X10_isConsistent]; rfl
theorem r_X10_isConsistent_46 : mv_in k_X10_isConsistent 46 = some (.ireturn, 47, 1, 0, 0) := by unfold mv_in; rw [tb_X10_isConsistent]; rfl
theorem nh_X10_isConsistent : mv_nh k_X10_isConsistent = true := rfl
section KV
variable {L : Nat} {xs : Nat → Int32}
theorem kv_X10_leastSpill {v0 : Int32} {v1 : Int32} {q nx w : Nat} {ls : mv_V} {st : List Value} {t : Nat} {h : mv_H} : mv_stp L xs (.invokevirtual q, nx, k_X10_leastSpill, 3, w) ls (.int v1 :: .int v0 :: .ref 0 :: st) (t, 142, h) = if mv_cs st ≤ 8 then some (.inr (.inr (k_X10_leastSpill, [.ref 0, .int v0, .int v1], st))) else none := by
  exact cl_any (nx := nx) (ls := ls) (kk := 1) (as := [.ref 0, .int v0, .int v1]) (by decide) rfl rfl (.inr ((by decide : mv_is 142 0 7 = true)))
theorem kv_X10_leastSpillByPruning {v0 : Int32} {v1 : Int32} {q nx w : Nat} {ls : mv_V} {st : List Value} {t : Nat} {h : mv_H} : mv_stp L xs (.invokevirtual q, nx, k_X10_leastSpillByPruning, 3, w) ls (.int v1 :: .int v0 :: .ref 0 :: st) (t, 142, h) = if mv_cs st ≤ 8 then some (.inr (.inr (k_X10_leastSpillByPruning, [.ref 0, .int v0, .int v1], st))) else none := by
  exact cl_any (nx := nx) (ls := ls) (kk := 1) (as := [.ref 0, .int v0, .int v1]) (by decide) rfl rfl (.inr ((by decide : mv_is 142 0 7 = true)))
theorem kv_X10_bestOpening {v0 : Int32} {v1 : Int32} {q nx w : Nat} {ls : mv_V} {st : List Value} {t : Nat} {h : mv_H} : mv_stp L xs (.invokevirtual q, nx, k_X10_bestOpening, 3, w) ls (.int v1 :: .int v0 :: .ref 0 :: st) (t, 142, h) = if mv_cs st ≤ 8 then some (.inr (.inr (k_X10_bestOpening, [.ref 0, .int v0, .int v1], st))) else none := by
  exact cl_any (nx := nx) (ls := ls) (kk := 1) (as := [.ref 0, .int v0, .int v1]) (by decide) rfl rfl (.inr ((by decide : mv_is 142 0 7 = true)))
theorem kv_X10_endangered {v0 : Int32} {q nx w : Nat} {ls : mv_V} {st : List Value} {t : Nat} {h : mv_H} : mv_stp L xs (.invokevirtual q, nx, k_X10_endangered, 2, w) ls (.int v0 :: .ref 0 :: st) (t, 142, h) = if mv_cs st ≤ 8 then some (.inr (.inr (k_X10_endangered, [.ref 0, .int v0], st))) else none := by
  exact cl_any (nx := nx) (ls := ls) (kk := 1) (as := [.ref 0, .int v0]) (by decide) rfl rfl (.inr ((by decide : mv_is 142 0 7 = true)))
theorem kv_X10_bestProtection {v0 : Int32} {v1 : Int32} {q nx w : Nat} {ls : mv_V} {st : List Value} {t : Nat} {h : mv_H} : mv_stp L xs (.invokevirtual q, nx, k_X10_bestProtection, 3, w) ls (.int v1 :: .int v0 :: .ref 0 :: st) (t, 142, h) = if mv_cs st ≤ 8 then some (.inr (.inr (k_X10_bestProtection, [.ref 0, .int v0, .int v1], st))) else none := by
  exact cl_any (nx := nx) (ls := ls) (kk := 1) (as := [.ref 0, .int v0, .int v1]) (by decide) rfl rfl (.inr ((by decide : mv_is 142 0 7 = true)))
theorem kv_X10_bestProtectionBySets {v0 : Int32} {v1 : Int32} {q nx w : Nat} {ls : mv_V} {st : List Value} {t : Nat} {h : mv_H} : mv_stp L xs (.invokevirtual q, nx, k_X10_bestProtectionBySets, 3, w) ls (.int v1 :: .int v0 :: .ref 0 :: st) (t, 142, h) = if mv_cs st ≤ 8 then some (.inr (.inr (k_X10_bestProtectionBySets, [.ref 0, .int v0, .int v1], st))) else none := by
  exact cl_any (nx := nx) (ls := ls) (kk := 1) (as := [.ref 0, .int v0, .int v1]) (by decide) rfl rfl (.inr ((by decide : mv_is 142 0 7 = true)))
theorem kv_X10_bagsForAll {v0 : Int32} {q nx w : Nat} {ls : mv_V} {st : List Value} {t : Nat} {h : mv_H} : mv_stp L xs (.invokevirtual q, nx, k_X10_bagsForAll, 2, w) ls (.int v0 :: .ref 0 :: st) (t, 142, h) = if mv_cs st ≤ 8 then some (.inr (.inr (k_X10_bagsForAll, [.ref 0, .int v0], st))) else none := by
  exact cl_any (nx := nx) (ls := ls) (kk := 1) (as := [.ref 0, .int v0]) (by decide) rfl rfl (.inr ((by decide : mv_is 142 0 7 = true)))
theorem kv_X10_gatherEndangered {v0 : Int32} {q nx w : Nat} {ls : mv_V} {st : List Value} {t : Nat} {h : mv_H} : mv_stp L xs (.invokevirtual q, nx, k_X10_gatherEndangered, 2, w) ls (.int v0 :: .ref 0 :: st) (t, 142, h) = if mv_cs st ≤ 8 then some (.inr (.inr (k_X10_gatherEndangered, [.ref 0, .int v0], st))) else none := by
  exact cl_any (nx := nx) (ls := ls) (kk := 1) (as := [.ref 0, .int v0]) (by decide) rfl rfl (.inr ((by decide : mv_is 142 0 7 = true)))
theorem kv_X10_leastSpillsAgree  {q nx w : Nat} {ls : mv_V} {st : List Value} {t : Nat} {h : mv_H} : mv_stp L xs (.invokevirtual q, nx, k_X10_leastSpillsAgree, 1, w) ls (.ref 0 :: st) (t, 142, h) = if mv_cs st ≤ 8 then some (.inr (.inr (k_X10_leastSpillsAgree, [.ref 0], st))) else none := by
  exact cl_any (nx := nx) (ls := ls) (kk := 1) (as := [.ref 0]) (by decide) rfl rfl (.inr ((by decide : mv_is 142 0 7 = true)))
theorem kv_X10_protectionsAgree  {q nx w : Nat} {ls : mv_V} {st : List Value} {t : Nat} {h : mv_H} : mv_stp L xs (.invokevirtual q, nx, k_X10_protectionsAgree, 1, w) ls (.ref 0 :: st) (t, 142, h) = if mv_cs st ≤ 8 then some (.inr (.inr (k_X10_protectionsAgree, [.ref 0], st))) else none := by
  exact cl_any (nx := nx) (ls := ls) (kk := 1) (as := [.ref 0]) (by decide) rfl rfl (.inr ((by decide : mv_is 142 0 7 = true)))
theorem kv_X10_isConsistent  {q nx w : Nat} {ls : mv_V} {st : List Value} {t : Nat} {h : mv_H} : mv_stp L xs (.invokevirtual q, nx, k_X10_isConsistent, 1, w) ls (.ref 0 :: st) (t, 142, h) = if mv_cs st ≤ 8 then some (.inr (.inr (k_X10_isConsistent, [.ref 0], st))) else none := by
  exact cl_any (nx := nx) (ls := ls) (kk := 1) (as := [.ref 0]) (by decide) rfl rfl (.inr ((by decide : mv_is 142 0 7 = true)))
end KV
def zJ (o : Nat) : Prop := o = 17 ∨ o = 25 ∨ (133 ≤ o ∧ o ≤ 136) ∨ ∃ j, j < 4 ∧ o = 101 + 8 * j
def zFr (T T' : zT) : Prop := T'.2 = T.2 ∧ ∀ o, ¬ zJ o → T'.1 o = T.1 o
theorem zFr_refl (T : zT) : zFr T T := ⟨rfl, fun _ _ => rfl⟩
theorem zFr_trans {T T1 T2 : zT} (h : zFr T T1) (g : zFr T1 T2) : zFr T T2 := ⟨g.1.trans h.1, fun o ho => (g.2 o ho).trans (h.2 o ho)⟩
theorem zFr_sD {T T1 : zT} {o : Nat} {A : Int → Int} (h : zFr T T1) (ho : zJ o) : zFr T (sD T1 o A) := ⟨h.1, fun p hp => by rw [sD_ne _ _ (fun e => hp (by rw [e]; exact ho)), h.2 p hp]⟩
theorem zFr_to {T T1 : zT} (h : zTo 4 T T1) : zFr T T1 := ⟨h.1, fun o ho => h.2 o (fun j hj e => ho (.inr (.inr (.inr ⟨j, hj, e⟩))))⟩
theorem zJ_o1 : ¬ zJ o1 := by
  intro h
  rcases h with h | h | h | ⟨j, hj, h⟩
  · exact absurd h (by decide)
  · exact absurd h (by decide)
  · exact absurd h.1 (by decide)
  · have h : 1 = 101 + 8 * j := h
    omega
theorem o1_try : ∀ j, j < 4 → ¬ o1 = 101 + 8 * j := fun j _ h => by have h : 1 = 101 + 8 * j := h; omega
theorem zJ_25 : zJ o25 := .inr (.inl rfl)
def zGa (T' : zT) (sp w : Int → Int) (k : Nat) : Prop := ∃ c : Nat, T'.1 133 2 = c ∧ c ≤ k ∧ (∀ j : Int, 0 ≤ j → j < c → 1 ≤ T'.1 134 j ∧ T'.1 134 j ≤ 1000000) ∧ (∀ j : Int, 0 ≤ j → j < c → 0 ≤ T'.1 135 j ∧ T'.1 135 j ≤ 99) ∧ (c : Int) = zSf (fun k => if 0 < sp k then 1 else 0) k 0 0 ∧ zSf (T'.1 134) c 0 0 = zSf sp k 0 0 ∧ ∀ g, 0 ≤ g → zK (T'.1 134) (T'.1 135) c g = zK sp (fun k => if 0 < sp k then w k else 0) k g
theorem zGa_no {T' : zT} {sp w : Int → Int} {k : Nat} (h : zGa T' sp w k) (h0 : sp k = 0) : zGa T' sp w (k + 1) := by
  obtain ⟨c, e1, e2, e3, e4, e5, e6, e7⟩ := h
  refine ⟨c, e1, by omega, e3, e4, ?_, ?_, fun g hg => ?_⟩
  · rw [zSf_snoc, ← e5, Int.zero_add]
    show (c : Int) = c + (if 0 < sp k then 1 else 0)
    rw [h0, if_neg (by omega)]
    omega
  · rw [zSf_snoc, e6, Int.zero_add, h0]
    omega
  · rw [zK_skip hg h0 (by show (if 0 < sp k then w k else 0) = 0; rw [h0, if_neg (by omega)]), e7 g hg]
theorem zGa_yes {T' : zT} {sp w : Int → Int} {k : Nat} {c : Int} (h : zGa T' sp w k) (hc : T'.1 133 2 = c) (h0 : 0 < sp k) (h1 : sp k ≤ 1000000) (w0 : 0 ≤ w k) (w1 : w k ≤ 99) : zGa (sD (sD (sD T' 134 (upR (T'.1 134) c (sp k))) 135 (upR (T'.1 135) c (w k))) 133 (upR (T'.1 133) 2 (c + 1))) sp w (k + 1) := by
  obtain ⟨c', e1, e2, e3, e4, e5, e6, e7⟩ := h
  have ec : c = c' := by rw [← hc, e1]
  subst ec
  have f1 : (sD (sD (sD T' 134 (upR (T'.1 134) c' (sp k))) 135 (upR (T'.1 135) c' (w k))) 133 (upR (T'.1 133) 2 ((c' : Int) + 1))).1 134 = upR (T'.1 134) c' (sp k) := by
    rw [sD_ne _ _ (by decide), sD_ne _ _ (by decide), sD_eq]
  have f2 : (sD (sD (sD T' 134 (upR (T'.1 134) c' (sp k))) 135 (upR (T'.1 135) c' (w k))) 133 (upR (T'.1 133) 2 ((c' : Int) + 1))).1 135 = upR (T'.1 135) c' (w k) := by
    rw [sD_ne _ _ (by decide), sD_eq]
  refine ⟨c' + 1, ?_, by omega, ?_, ?_, ?_, ?_, ?_⟩
  · rw [sD_eq, upR_eq]
    omega
  · rw [f1]
    intro j j0 j1
    by_cases e : j = c'
    · rw [upR_is _ _ e]; omega
    · rw [upR_ne _ _ e]; exact e3 j j0 (by omega)
  · rw [f2]
    intro j j0 j1
    by_cases e : j = c'
    · rw [upR_is _ _ e]; omega
    · rw [upR_ne _ _ e]; exact e4 j j0 (by omega)
  · rw [zSf_snoc, ← e5, Int.zero_add]
    show ((c' + 1 : Nat) : Int) = c' + (if 0 < sp k then 1 else 0)
    rw [if_pos h0]
    omega
  · rw [f1, zSf_snoc, zSf_snoc, Int.zero_add, Int.zero_add, upR_eq, ← e6]
    congr 1
    exact zSf_congr c' 0 0 (fun j j0 j1 => upR_ne _ _ (by omega))
  · intro g hg
    rw [f1, f2, zK, zK, upR_eq, upR_eq]
    have hz : ∀ g, 0 ≤ g → zK (upR (T'.1 134) c' (sp k)) (upR (T'.1 135) c' (w k)) c' g = zK sp (fun k => if 0 < sp k then w k else 0) k g := fun g hg => by
      rw [← e7 g hg]
      exact zK_congr c' g (fun j hj => ⟨upR_ne _ _ (by omega), upR_ne _ _ (by omega)⟩)
    rw [hz g hg]
    by_cases q : sp k ≤ g
    · rw [if_pos q, if_pos q, hz _ (by omega)]
      show max _ (_ + w k) = max _ (_ + (if 0 < sp k then w k else 0))
      rw [if_pos h0]
    · rw [if_neg q, if_neg q]
section FC3
variable {L : Nat} {xs : Nat → Int32} {d t c e : Nat} {T : zT}
theorem lp_X10_gather (hd : 1 ≤ d) {sp : Int → Int} {A Z : Int → Int} {m : Int} (hA : zWF A 99) (hsp : ∀ k, sp k = Z (6 + 9 * k + 7) - A (6 + 9 * k + 7)) (hS : ∀ k, 0 ≤ k → k < A 0 → 0 ≤ sp k ∧ sp k ≤ 1000000) : ∀ (n k : Nat) (T : zT), (k : Int) + n = A 0 → T.1 o1 = A → T.1 o25 = Z → zGa T sp (fun k => A (6 + 9 * k + 3)) k → ∃ T', zFr T T' ∧ T'.1 o1 = A ∧ zGa T' sp (fun k => A (6 + 9 * k + 3)) (k + n) ∧ mv_Ev L xs (mv_cl L xs d) k_X10_gatherEndangered 15 [(2, .int (Int32.ofInt k)), (0, .ref 0), (1, .int (Int32.ofInt m))] [] (t, 142, mz T) (.inl none, (t, 142, mz T')) := by
  have a5 := hA.2.1
  intro n
  induction n with
  | zero =>
    intro k T hn e1 e25 hG
    refine ⟨T, zFr_refl T, e1, hG, ?_⟩
    simp (disch := omega) only [mv_Ev_row r_X10_gatherEndangered_0, mv_Ev_row r_X10_gatherEndangered_1, mv_Ev_row r_X10_gatherEndangered_2, mv_Ev_row r_X10_gatherEndangered_5, mv_Ev_row r_X10_gatherEndangered_6, mv_Ev_row r_X10_gatherEndangered_9, mv_Ev_row r_X10_gatherEndangered_10, mv_Ev_row r_X10_gatherEndangered_13, mv_Ev_row r_X10_gatherEndangered_14, mv_Ev_row r_X10_gatherEndangered_15, mv_Ev_row r_X10_gatherEndangered_16, mv_Ev_row r_X10_gatherEndangered_17, mv_Ev_row r_X10_gatherEndangered_20, mv_Ev_row r_X10_gatherEndangered_23, mv_Ev_row r_X10_gatherEndangered_26, mv_Ev_row r_X10_gatherEndangered_27, mv_Ev_row r_X10_gatherEndangered_28, mv_Ev_row r_X10_gatherEndangered_31, mv_Ev_row r_X10_gatherEndangered_32, mv_Ev_row r_X10_gatherEndangered_33, mv_Ev_row r_X10_gatherEndangered_36, mv_Ev_row r_X10_gatherEndangered_37, mv_Ev_row r_X10_gatherEndangered_40, mv_Ev_row r_X10_gatherEndangered_41, mv_Ev_row r_X10_gatherEndangered_42, mv_Ev_row r_X10_gatherEndangered_45, mv_Ev_row r_X10_gatherEndangered_48, mv_Ev_row r_X10_gatherEndangered_49, mv_Ev_row r_X10_gatherEndangered_50, mv_Ev_row r_X10_gatherEndangered_53, mv_Ev_row r_X10_gatherEndangered_56, mv_Ev_row r_X10_gatherEndangered_59, mv_Ev_row r_X10_gatherEndangered_62, ea_aload_n, ea_iload_n, kv_X10_lookAhead, gg_7_6, ea_iconst, pp_6_2, ea_istore_n, gg_1_1 Ch.o1, ea_icmp, kv_X10_expectedSpill, ea_ifc, gg_1_0 Ch.o1, gg_0_2 Ch.o1, kv_X9_include, ea_iinc, eb_inc, ea_goto, ea_vret, ar_bas Ch.o1, ar_his, ar_try, cz_eq, cz_ne, cz_lt, cz_ge, cz_gt, cz_le, c0_eq, c0_ne, c0_lt, c0_ge, c0_gt, c0_le, mv_ac, decide_eq_true_eq, not_true_eq_false, and_self, and_true, true_and, ea_2n, ea_2f, ea_2c, ea_if, if_pos, if_neg, mv_lk, mv_f1, mv_f2, Value.category, List.filter, ↓reduceIte, Nat.reduceEqDiff, Nat.reduceAdd, Nat.reduceLT, Nat.reduceBEq, Nat.zero_add, Nat.add_zero, Nat.zero_ne_one, Nat.one_ne_zero, Bool.not_true, Bool.not_false, Bool.and_true, Bool.true_and, Bool.and_false, Bool.false_and, BEq.rfl, beq_self_eq_true, Bool.false_eq_true, reduceCtorEq, not_false_eq_true, fv0, fv1, fv2, fv3, eb_l0, eb_l1, eb_l2, eb_l3, eb_l4, eb_l5, eb_s0, eb_s1, eb_s2, eb_s3, eb_s4, eb_s5, oz_add, oz_sub, oz_mul, oz_neg, ol_add, ol_sub, sD_eq, sD_sD, sD_ne, sD_in, sD_in2, sD_in3, upR_is, upR_ne, mk_v, mk_n, mk_x, mk_i, mv_cs, Nat.reduceLeDiff, mv_ch_z, nh_X10_gatherEndangered, g7_0, e1]
  | succ n ih =>
    intro k T hn e1 e25 hG
    have hs := hS k (by omega) (by omega)
    have hk := hA.2.2.2.2.1 k (by omega) (by omega)
    unfold zOK at hk
    have q := c_X10_expected (L := L) (xs := xs) (t := t) (T := T) (d := d) (b := (k : Int)) hd (by omega) (by omega)
    rw [e25, e1, ← hsp k] at q
    by_cases p : 0 < sp k
    · obtain ⟨c, hc, hck, _⟩ := id hG
      have q2 := c_X9_include (L := L) (xs := xs) (t := t) (T := T) (d := d) (c := c) (b := sp k) (v := A (6 + 9 * k + 3)) hd hc (by omega) (by omega)
      have hG2 := zGa_yes hG hc p hs.2 (by show 0 ≤ A (6 + 9 * k + 3); omega) (by show A (6 + 9 * k + 3) ≤ 99; omega)
      obtain ⟨T', g1, g2, g3, g4⟩ := ih (k + 1) _ (by omega) (by rw [sD_ne _ _ (by decide), sD_ne _ _ (by decide), sD_ne _ _ (by decide)]; exact e1) (by rw [sD_ne _ _ (by decide), sD_ne _ _ (by decide), sD_ne _ _ (by decide)]; exact e25) hG2
      refine ⟨T', zFr_trans (zFr_sD (zFr_sD (zFr_sD (zFr_refl T) (.inr (.inr (.inl (by omega))))) (.inr (.inr (.inl (by omega))))) (.inr (.inr (.inl (by omega))))) g1, g2, by rw [show k + (n + 1) = k + 1 + n by omega]; exact g3, ?_⟩
      rw [show ((k + 1 : Nat) : Int) = (k : Int) + 1 by omega] at g4
      rw [mv_Ev_row r_X10_gatherEndangered_15]
      simp (disch := omega) only [mv_Ev_row r_X10_gatherEndangered_0, mv_Ev_row r_X10_gatherEndangered_1, mv_Ev_row r_X10_gatherEndangered_2, mv_Ev_row r_X10_gatherEndangered_5, mv_Ev_row r_X10_gatherEndangered_6, mv_Ev_row r_X10_gatherEndangered_9, mv_Ev_row r_X10_gatherEndangered_10, mv_Ev_row r_X10_gatherEndangered_13, mv_Ev_row r_X10_gatherEndangered_14, mv_Ev_row r_X10_gatherEndangered_16, mv_Ev_row r_X10_gatherEndangered_17, mv_Ev_row r_X10_gatherEndangered_20, mv_Ev_row r_X10_gatherEndangered_23, mv_Ev_row r_X10_gatherEndangered_26, mv_Ev_row r_X10_gatherEndangered_27, mv_Ev_row r_X10_gatherEndangered_28, mv_Ev_row r_X10_gatherEndangered_31, mv_Ev_row r_X10_gatherEndangered_32, mv_Ev_row r_X10_gatherEndangered_33, mv_Ev_row r_X10_gatherEndangered_36, mv_Ev_row r_X10_gatherEndangered_37, mv_Ev_row r_X10_gatherEndangered_40, mv_Ev_row r_X10_gatherEndangered_41, mv_Ev_row r_X10_gatherEndangered_42, mv_Ev_row r_X10_gatherEndangered_45, mv_Ev_row r_X10_gatherEndangered_48, mv_Ev_row r_X10_gatherEndangered_49, mv_Ev_row r_X10_gatherEndangered_50, mv_Ev_row r_X10_gatherEndangered_53, mv_Ev_row r_X10_gatherEndangered_56, mv_Ev_row r_X10_gatherEndangered_59, mv_Ev_row r_X10_gatherEndangered_62, ea_aload_n, ea_iload_n, kv_X10_lookAhead, gg_7_6, ea_iconst, pp_6_2, ea_istore_n, gg_1_1 Ch.o1, ea_icmp, kv_X10_expectedSpill, ea_ifc, gg_1_0 Ch.o1, gg_0_2 Ch.o1, kv_X9_include, ea_iinc, eb_inc, ea_goto, ea_vret, ar_bas Ch.o1, ar_his, ar_try, cz_eq, cz_ne, cz_lt, cz_ge, cz_gt, cz_le, c0_eq, c0_ne, c0_lt, c0_ge, c0_gt, c0_le, mv_ac, decide_eq_true_eq, not_true_eq_false, and_self, and_true, true_and, ea_2n, ea_2f, ea_2c, ea_if, if_pos, if_neg, mv_lk, mv_f1, mv_f2, Value.category, List.filter, ↓reduceIte, Nat.reduceEqDiff, Nat.reduceAdd, Nat.reduceLT, Nat.reduceBEq, Nat.zero_add, Nat.add_zero, Nat.zero_ne_one, Nat.one_ne_zero, Bool.not_true, Bool.not_false, Bool.and_true, Bool.true_and, Bool.and_false, Bool.false_and, BEq.rfl, beq_self_eq_true, Bool.false_eq_true, reduceCtorEq, not_false_eq_true, fv0, fv1, fv2, fv3, eb_l0, eb_l1, eb_l2, eb_l3, eb_l4, eb_l5, eb_s0, eb_s1, eb_s2, eb_s3, eb_s4, eb_s5, oz_add, oz_sub, oz_mul, oz_neg, ol_add, ol_sub, sD_eq, sD_sD, sD_ne, sD_in, sD_in2, sD_in3, upR_is, upR_ne, mk_v, mk_n, mk_x, mk_i, mv_cs, Nat.reduceLeDiff, mv_ch_z, nh_X10_gatherEndangered, g7_0, e1, q, q2]
      exact mv_Es g4
    · obtain ⟨T', g1, g2, g3, g4⟩ := ih (k + 1) T (by omega) e1 e25 (zGa_no hG (by omega))
      refine ⟨T', g1, g2, by rw [show k + (n + 1) = k + 1 + n by omega]; exact g3, ?_⟩
      rw [show ((k + 1 : Nat) : Int) = (k : Int) + 1 by omega] at g4
      rw [mv_Ev_row r_X10_gatherEndangered_15]
      simp (disch := omega) only [mv_Ev_row r_X10_gatherEndangered_0, mv_Ev_row r_X10_gatherEndangered_1, mv_Ev_row r_X10_gatherEndangered_2, mv_Ev_row r_X10_gatherEndangered_5, mv_Ev_row r_X10_gatherEndangered_6, mv_Ev_row r_X10_gatherEndangered_9, mv_Ev_row r_X10_gatherEndangered_10, mv_Ev_row r_X10_gatherEndangered_13, mv_Ev_row r_X10_gatherEndangered_14, mv_Ev_row r_X10_gatherEndangered_16, mv_Ev_row r_X10_gatherEndangered_17, mv_Ev_row r_X10_gatherEndangered_20, mv_Ev_row r_X10_gatherEndangered_23, mv_Ev_row r_X10_gatherEndangered_26, mv_Ev_row r_X10_gatherEndangered_27, mv_Ev_row r_X10_gatherEndangered_28, mv_Ev_row r_X10_gatherEndangered_31, mv_Ev_row r_X10_gatherEndangered_32, mv_Ev_row r_X10_gatherEndangered_33, mv_Ev_row r_X10_gatherEndangered_36, mv_Ev_row r_X10_gatherEndangered_37, mv_Ev_row r_X10_gatherEndangered_40, mv_Ev_row r_X10_gatherEndangered_41, mv_Ev_row r_X10_gatherEndangered_42, mv_Ev_row r_X10_gatherEndangered_45, mv_Ev_row r_X10_gatherEndangered_48, mv_Ev_row r_X10_gatherEndangered_49, mv_Ev_row r_X10_gatherEndangered_50, mv_Ev_row r_X10_gatherEndangered_53, mv_Ev_row r_X10_gatherEndangered_56, mv_Ev_row r_X10_gatherEndangered_59, mv_Ev_row r_X10_gatherEndangered_62, ea_aload_n, ea_iload_n, kv_X10_lookAhead, gg_7_6, ea_iconst, pp_6_2, ea_istore_n, gg_1_1 Ch.o1, ea_icmp, kv_X10_expectedSpill, ea_ifc, gg_1_0 Ch.o1, gg_0_2 Ch.o1, kv_X9_include, ea_iinc, eb_inc, ea_goto, ea_vret, ar_bas Ch.o1, ar_his, ar_try, cz_eq, cz_ne, cz_lt, cz_ge, cz_gt, cz_le, c0_eq, c0_ne, c0_lt, c0_ge, c0_gt, c0_le, mv_ac, decide_eq_true_eq, not_true_eq_false, and_self, and_true, true_and, ea_2n, ea_2f, ea_2c, ea_if, if_pos, if_neg, mv_lk, mv_f1, mv_f2, Value.category, List.filter, ↓reduceIte, Nat.reduceEqDiff, Nat.reduceAdd, Nat.reduceLT, Nat.reduceBEq, Nat.zero_add, Nat.add_zero, Nat.zero_ne_one, Nat.one_ne_zero, Bool.not_true, Bool.not_false, Bool.and_true, Bool.true_and, Bool.and_false, Bool.false_and, BEq.rfl, beq_self_eq_true, Bool.false_eq_true, reduceCtorEq, not_false_eq_true, fv0, fv1, fv2, fv3, eb_l0, eb_l1, eb_l2, eb_l3, eb_l4, eb_l5, eb_s0, eb_s1, eb_s2, eb_s3, eb_s4, eb_s5, oz_add, oz_sub, oz_mul, oz_neg, ol_add, ol_sub, sD_eq, sD_sD, sD_ne, sD_in, sD_in2, sD_in3, upR_is, upR_ne, mk_v, mk_n, mk_x, mk_i, mv_cs, Nat.reduceLeDiff, mv_ch_z, nh_X10_gatherEndangered, g7_0, e1, q]
      exact mv_Es g4
theorem c_X10_gather (hd : 5 ≤ d) {m : Int} (m0 : 0 ≤ m) (m30 : m ≤ 30) (hW : zWF (T.1 o1) 99) (hS : ∀ k, 0 ≤ k → k < T.1 o1 0 → 0 ≤ zSp T m.toNat k ∧ zSp T m.toNat k ≤ 1000000) : ∃ T', zFr T T' ∧ zGa T' (zSp T m.toNat) (fun k => T.1 o1 (6 + 9 * k + 3)) (T.1 o1 0).toNat ∧ mv_cl L xs d k_X10_gatherEndangered [.ref 0, .int (Int32.ofInt m)] (t, 142, mz T) = some (.inl none, (t, 142, mz T')) := by
  have a0 := hW.1
  have q := c_X10_look (L := L) (xs := xs) (t := t) (T := T) (d := d - 1) (by omega) m0 m30 hW
  obtain ⟨T', g1, g2, g3, g4⟩ := lp_X10_gather (L := L) (xs := xs) (t := t) (d := d - 1) (m := m) (by omega) hW (sp := zSp T m.toNat) (Z := zPs m.toNat (zCpy (T.1 o1) (T.1 o25))) (fun k => rfl) hS (T.1 o1 0).toNat 0 (sD (sD T o25 (zPs m.toNat (zCpy (T.1 o1) (T.1 o25)))) 133 (upR (T.1 133) 2 0)) (by omega) (by rw [sD_ne _ _ (by decide), sD_ne _ _ (by decide)]) (by rw [sD_ne _ _ (by decide), sD_eq]) ⟨0, by rw [sD_eq, upR_eq]; rfl, by omega, fun j h0 h1 => by omega, fun j h0 h1 => by omega, rfl, rfl, fun g hg => rfl⟩
  rw [Nat.zero_add] at g3
  have n0 : ∀ X, (sD T o25 X).1 133 = T.1 133 := fun X => sD_ne _ _ (by decide)
  refine ⟨T', zFr_trans (zFr_sD (zFr_sD (zFr_refl T) zJ_25) (.inr (.inr (.inl (by omega))))) g1, g3, ?_⟩
  rw [show ((0 : Nat) : Int) = 0 from rfl] at g4
  obtain ⟨d, rfl⟩ : ∃ e, d = e + 1 := ⟨d - 1, by omega⟩
  apply mv_cl_of
  simp only [mv_il, Value.category, Nat.zero_add, Nat.reduceAdd]
  simp only [Nat.add_sub_cancel] at q g4
  simp (disch := omega) only [mv_Ev_row r_X10_gatherEndangered_0, mv_Ev_row r_X10_gatherEndangered_1, mv_Ev_row r_X10_gatherEndangered_2, mv_Ev_row r_X10_gatherEndangered_5, mv_Ev_row r_X10_gatherEndangered_6, mv_Ev_row r_X10_gatherEndangered_9, mv_Ev_row r_X10_gatherEndangered_10, mv_Ev_row r_X10_gatherEndangered_13, mv_Ev_row r_X10_gatherEndangered_14, mv_Ev_row r_X10_gatherEndangered_16, mv_Ev_row r_X10_gatherEndangered_17, mv_Ev_row r_X10_gatherEndangered_20, mv_Ev_row r_X10_gatherEndangered_23, mv_Ev_row r_X10_gatherEndangered_26, mv_Ev_row r_X10_gatherEndangered_27, mv_Ev_row r_X10_gatherEndangered_28, mv_Ev_row r_X10_gatherEndangered_31, mv_Ev_row r_X10_gatherEndangered_32, mv_Ev_row r_X10_gatherEndangered_33, mv_Ev_row r_X10_gatherEndangered_36, mv_Ev_row r_X10_gatherEndangered_37, mv_Ev_row r_X10_gatherEndangered_40, mv_Ev_row r_X10_gatherEndangered_41, mv_Ev_row r_X10_gatherEndangered_42, mv_Ev_row r_X10_gatherEndangered_45, mv_Ev_row r_X10_gatherEndangered_48, mv_Ev_row r_X10_gatherEndangered_49, mv_Ev_row r_X10_gatherEndangered_50, mv_Ev_row r_X10_gatherEndangered_53, mv_Ev_row r_X10_gatherEndangered_56, mv_Ev_row r_X10_gatherEndangered_59, mv_Ev_row r_X10_gatherEndangered_62, ea_aload_n, ea_iload_n, kv_X10_lookAhead, gg_7_6, ea_iconst, pp_6_2, ea_istore_n, gg_7_0, ea_icmp, kv_X10_expectedSpill, ea_ifc, kv_X9_include, ea_iinc, eb_inc, ea_goto, ea_vret, ar_his, ar_try, cz_eq, cz_ne, cz_lt, cz_ge, cz_gt, cz_le, c0_eq, c0_ne, c0_lt, c0_ge, c0_gt, c0_le, mv_ac, decide_eq_true_eq, not_true_eq_false, and_self, and_true, true_and, ea_2n, ea_2f, ea_2c, ea_if, if_pos, if_neg, mv_lk, mv_f1, mv_f2, Value.category, List.filter, ↓reduceIte, Nat.reduceEqDiff, Nat.reduceAdd, Nat.reduceLT, Nat.reduceBEq, Nat.zero_add, Nat.add_zero, Nat.zero_ne_one, Nat.one_ne_zero, Bool.not_true, Bool.not_false, Bool.and_true, Bool.true_and, Bool.and_false, Bool.false_and, BEq.rfl, beq_self_eq_true, Bool.false_eq_true, reduceCtorEq, not_false_eq_true, fv0, fv1, fv2, fv3, eb_l0, eb_l1, eb_l2, eb_l3, eb_l4, eb_l5, eb_s0, eb_s1, eb_s2, eb_s3, eb_s4, eb_s5, oz_add, oz_sub, oz_mul, oz_neg, ol_add, ol_sub, sD_eq, sD_sD, sD_ne, sD_in, sD_in2, sD_in3, upR_is, upR_ne, mk_v, mk_n, mk_x, mk_i, mv_cs, Nat.reduceLeDiff, mv_ch_z, nh_X10_gatherEndangered, q, n0]
  exact mv_Es g4
theorem c_X10_endangered (hd : 6 ≤ d) {m : Int} (hW : zWF (T.1 o1) 99) (m1 : -2147483648 ≤ m) (m2 : m < 2147483648) (hS : ∀ k, 0 ≤ k → k < T.1 o1 0 → 0 ≤ zSp T m.toNat k ∧ zSp T m.toNat k ≤ 1000000) : ∃ T', zFr T T' ∧ mv_cl L xs d k_X10_endangered [.ref 0, .int (Int32.ofInt m)] (t, 142, mz T) = some (if 0 ≤ m ∧ m ≤ 30 then (.inl (some (.int (Int32.ofInt (zSf (fun k => if 0 < zSp T m.toNat k then 1 else 0) (T.1 o1 0).toNat 0 0)))), (t, 142, mz T')) else (.inr 0, (t + 1, 142, mz T))) := by
  have e1 := c_X10_faultOfRange (L := L) (xs := xs) (t := t) (d := d - 1) (n := m) (lo := 0) (hi := 30) (h := mz T) (by omega) m1 m2 (by omega) (by omega) (by omega) (by omega)
  by_cases h : 0 ≤ m ∧ m ≤ 30
  · obtain ⟨T', g1, ⟨c, g2, g3, g4, g5, g6, g7⟩, g8⟩ := c_X10_gather (L := L) (xs := xs) (t := t) (T := T) (d := d - 1) (by omega) h.1 h.2 hW hS
    refine ⟨T', g1, ?_⟩
    rw [if_pos h, ← g6]
    rw [show zfR m 0 30 = 1010 from if_neg (by omega)] at e1
    have e2 := c_X10_throwFor_0 (L := L) (xs := xs) (t := t) (T := T) (d := d - 1) (by omega)
    obtain ⟨d, rfl⟩ : ∃ e, d = e + 1 := ⟨d - 1, by omega⟩
    apply mv_cl_of
    simp only [mv_il, Value.category, Nat.zero_add, Nat.reduceAdd]
    simp only [Nat.add_sub_cancel] at e1 e2 g8
    simp (disch := omega) only [mv_Ev_row r_X10_endangered_0, mv_Ev_row r_X10_endangered_1, mv_Ev_row r_X10_endangered_2, mv_Ev_row r_X10_endangered_4, mv_Ev_row r_X10_endangered_7, mv_Ev_row r_X10_endangered_10, mv_Ev_row r_X10_endangered_11, mv_Ev_row r_X10_endangered_12, mv_Ev_row r_X10_endangered_15, mv_Ev_row r_X10_endangered_16, mv_Ev_row r_X10_endangered_19, mv_Ev_row r_X10_endangered_22, ea_iload_n, ea_iconst, ea_bipush, kv_X10_faultOfRange, kv_X10_throwFor, ea_aload_n, kv_X10_gatherEndangered, gg_7_6, gg_6_2, ea_ireturn, ez_ret, ez_retc, bz_30, mv_ac, decide_eq_true_eq, not_true_eq_false, and_self, and_true, true_and, ea_2n, ea_2f, ea_2c, ea_if, if_pos, if_neg, mv_lk, mv_f1, mv_f2, Value.category, List.filter, ↓reduceIte, Nat.reduceEqDiff, Nat.reduceAdd, Nat.reduceLT, Nat.reduceBEq, Nat.zero_add, Nat.add_zero, Nat.zero_ne_one, Nat.one_ne_zero, Bool.not_true, Bool.not_false, Bool.and_true, Bool.true_and, Bool.and_false, Bool.false_and, BEq.rfl, beq_self_eq_true, Bool.false_eq_true, reduceCtorEq, not_false_eq_true, fv0, fv1, fv2, fv3, eb_l0, eb_l1, eb_l2, eb_l3, eb_l4, eb_l5, eb_s0, eb_s1, eb_s2, eb_s3, eb_s4, eb_s5, oz_add, oz_sub, oz_mul, oz_neg, ol_add, ol_sub, sD_eq, sD_sD, sD_ne, sD_in, sD_in2, sD_in3, upR_is, upR_ne, mk_v, mk_n, mk_x, mk_i, mv_cs, Nat.reduceLeDiff, mv_ch_z, nh_X10_endangered, e1, e2, g8, g2]
  · refine ⟨T, zFr_refl T, ?_⟩
    rw [if_neg h]
    rw [show zfR m 0 30 = 1012 from if_pos (by omega)] at e1
    have e2 := c_X10_throwFor (L := L) (xs := xs) (t := t) (T := T) (d := d - 1) (f := 1012) (by omega) (by omega) (by omega)
    rw [show zE 1012 = 0 from rfl] at e2
    obtain ⟨d, rfl⟩ : ∃ e, d = e + 1 := ⟨d - 1, by omega⟩
    apply mv_cl_of
    simp only [mv_il, Value.category, Nat.zero_add, Nat.reduceAdd]
    simp only [Nat.add_sub_cancel] at e1 e2
    simp (disch := omega) only [mv_Ev_row r_X10_endangered_0, mv_Ev_row r_X10_endangered_1, mv_Ev_row r_X10_endangered_2, mv_Ev_row r_X10_endangered_4, mv_Ev_row r_X10_endangered_7, mv_Ev_row r_X10_endangered_10, mv_Ev_row r_X10_endangered_11, mv_Ev_row r_X10_endangered_12, mv_Ev_row r_X10_endangered_15, mv_Ev_row r_X10_endangered_16, mv_Ev_row r_X10_endangered_19, mv_Ev_row r_X10_endangered_22, ea_iload_n, ea_iconst, ea_bipush, kv_X10_faultOfRange, kv_X10_throwFor, ea_aload_n, kv_X10_gatherEndangered, gg_7_6, gg_6_2, ea_ireturn, ez_ret, ez_retc, bz_30, mv_ac, decide_eq_true_eq, not_true_eq_false, and_self, and_true, true_and, ea_2n, ea_2f, ea_2c, ea_if, if_pos, if_neg, mv_lk, mv_f1, mv_f2, Value.category, List.filter, ↓reduceIte, Nat.reduceEqDiff, Nat.reduceAdd, Nat.reduceLT, Nat.reduceBEq, Nat.zero_add, Nat.add_zero, Nat.zero_ne_one, Nat.one_ne_zero, Bool.not_true, Bool.not_false, Bool.and_true, Bool.true_and, Bool.and_false, Bool.false_and, BEq.rfl, beq_self_eq_true, Bool.false_eq_true, reduceCtorEq, not_false_eq_true, fv0, fv1, fv2, fv3, eb_l0, eb_l1, eb_l2, eb_l3, eb_l4, eb_l5, eb_s0, eb_s1, eb_s2, eb_s3, eb_s4, eb_s5, oz_add, oz_sub, oz_mul, oz_neg, ol_add, ol_sub, sD_eq, sD_sD, sD_ne, sD_in, sD_in2, sD_in3, upR_is, upR_ne, mk_v, mk_n, mk_x, mk_i, mv_cs, Nat.reduceLeDiff, mv_ch_z, nh_X10_endangered, e1, e2]
theorem c_X10_bagsForAll (hd : 6 ≤ d) {m : Int} (hW : zWF (T.1 o1) 99) (m1 : -2147483648 ≤ m) (m2 : m < 2147483648) (hS : ∀ k, 0 ≤ k → k < T.1 o1 0 → 0 ≤ zSp T m.toNat k ∧ zSp T m.toNat k ≤ 1000000) : ∃ T', zFr T T' ∧ mv_cl L xs d k_X10_bagsForAll [.ref 0, .int (Int32.ofInt m)] (t, 142, mz T) = some (if 0 ≤ m ∧ m ≤ 30 then (.inl (some (.int (Int32.ofInt (zSf (zSp T m.toNat) (T.1 o1 0).toNat 0 0)))), (t, 142, mz T')) else (.inr 0, (t + 1, 142, mz T))) := by
  have a5 := hW.2.1
  have e1 := c_X10_faultOfRange (L := L) (xs := xs) (t := t) (d := d - 1) (n := m) (lo := 0) (hi := 30) (h := mz T) (by omega) m1 m2 (by omega) (by omega) (by omega) (by omega)
  by_cases h : 0 ≤ m ∧ m ≤ 30
  · obtain ⟨T', g1, ⟨c, g2, g3, g4, g5, g6, g7, g9⟩, g8⟩ := c_X10_gather (L := L) (xs := xs) (t := t) (T := T) (d := d - 1) (by omega) h.1 h.2 hW hS
    have q := c_X9_sumOfBags (L := L) (xs := xs) (t := t) (T := T') (d := d - 1) (by omega) g2 (by omega) (by omega) (fun k h0 h1 => by have := g4 k h0 h1; omega)
    rw [show (c : Int).toNat = c from Int.toNat_natCast c, g7] at q
    refine ⟨T', g1, ?_⟩
    rw [if_pos h]
    rw [show zfR m 0 30 = 1010 from if_neg (by omega)] at e1
    have e2 := c_X10_throwFor_0 (L := L) (xs := xs) (t := t) (T := T) (d := d - 1) (by omega)
    obtain ⟨d, rfl⟩ : ∃ e, d = e + 1 := ⟨d - 1, by omega⟩
    apply mv_cl_of
    simp only [mv_il, Value.category, Nat.zero_add, Nat.reduceAdd]
    simp only [Nat.add_sub_cancel] at e1 e2 g8 q
    simp (disch := omega) only [mv_Ev_row r_X10_bagsForAll_0, mv_Ev_row r_X10_bagsForAll_1, mv_Ev_row r_X10_bagsForAll_2, mv_Ev_row r_X10_bagsForAll_4, mv_Ev_row r_X10_bagsForAll_7, mv_Ev_row r_X10_bagsForAll_10, mv_Ev_row r_X10_bagsForAll_11, mv_Ev_row r_X10_bagsForAll_12, mv_Ev_row r_X10_bagsForAll_15, mv_Ev_row r_X10_bagsForAll_16, mv_Ev_row r_X10_bagsForAll_19, mv_Ev_row r_X10_bagsForAll_22, ea_iload_n, ea_iconst, ea_bipush, kv_X10_faultOfRange, kv_X10_throwFor, ea_aload_n, kv_X10_gatherEndangered, gg_7_6, kv_X9_sumOfBags, ea_ireturn, ez_ret, ez_retc, bz_30, mv_ac, decide_eq_true_eq, not_true_eq_false, and_self, and_true, true_and, ea_2n, ea_2f, ea_2c, ea_if, if_pos, if_neg, mv_lk, mv_f1, mv_f2, Value.category, List.filter, ↓reduceIte, Nat.reduceEqDiff, Nat.reduceAdd, Nat.reduceLT, Nat.reduceBEq, Nat.zero_add, Nat.add_zero, Nat.zero_ne_one, Nat.one_ne_zero, Bool.not_true, Bool.not_false, Bool.and_true, Bool.true_and, Bool.and_false, Bool.false_and, BEq.rfl, beq_self_eq_true, Bool.false_eq_true, reduceCtorEq, not_false_eq_true, fv0, fv1, fv2, fv3, eb_l0, eb_l1, eb_l2, eb_l3, eb_l4, eb_l5, eb_s0, eb_s1, eb_s2, eb_s3, eb_s4, eb_s5, oz_add, oz_sub, oz_mul, oz_neg, ol_add, ol_sub, sD_eq, sD_sD, sD_ne, sD_in, sD_in2, sD_in3, upR_is, upR_ne, mk_v, mk_n, mk_x, mk_i, mv_cs, Nat.reduceLeDiff, mv_ch_z, nh_X10_bagsForAll, e1, e2, g8, q]
  · refine ⟨T, zFr_refl T, ?_⟩
    rw [if_neg h]
    rw [show zfR m 0 30 = 1012 from if_pos (by omega)] at e1
    have e2 := c_X10_throwFor (L := L) (xs := xs) (t := t) (T := T) (d := d - 1) (f := 1012) (by omega) (by omega) (by omega)
    rw [show zE 1012 = 0 from rfl] at e2
    obtain ⟨d, rfl⟩ : ∃ e, d = e + 1 := ⟨d - 1, by omega⟩
    apply mv_cl_of
    simp only [mv_il, Value.category, Nat.zero_add, Nat.reduceAdd]
    simp only [Nat.add_sub_cancel] at e1 e2
    simp (disch := omega) only [mv_Ev_row r_X10_bagsForAll_0, mv_Ev_row r_X10_bagsForAll_1, mv_Ev_row r_X10_bagsForAll_2, mv_Ev_row r_X10_bagsForAll_4, mv_Ev_row r_X10_bagsForAll_7, mv_Ev_row r_X10_bagsForAll_10, mv_Ev_row r_X10_bagsForAll_11, mv_Ev_row r_X10_bagsForAll_12, mv_Ev_row r_X10_bagsForAll_15, mv_Ev_row r_X10_bagsForAll_16, mv_Ev_row r_X10_bagsForAll_19, mv_Ev_row r_X10_bagsForAll_22, ea_iload_n, ea_iconst, ea_bipush, kv_X10_faultOfRange, kv_X10_throwFor, ea_aload_n, kv_X10_gatherEndangered, gg_7_6, kv_X9_sumOfBags, ea_ireturn, ez_ret, ez_retc, bz_30, mv_ac, decide_eq_true_eq, not_true_eq_false, and_self, and_true, true_and, ea_2n, ea_2f, ea_2c, ea_if, if_pos, if_neg, mv_lk, mv_f1, mv_f2, Value.category, List.filter, ↓reduceIte, Nat.reduceEqDiff, Nat.reduceAdd, Nat.reduceLT, Nat.reduceBEq, Nat.zero_add, Nat.add_zero, Nat.zero_ne_one, Nat.one_ne_zero, Bool.not_true, Bool.not_false, Bool.and_true, Bool.true_and, Bool.and_false, Bool.false_and, BEq.rfl, beq_self_eq_true, Bool.false_eq_true, reduceCtorEq, not_false_eq_true, fv0, fv1, fv2, fv3, eb_l0, eb_l1, eb_l2, eb_l3, eb_l4, eb_l5, eb_s0, eb_s1, eb_s2, eb_s3, eb_s4, eb_s5, oz_add, oz_sub, oz_mul, oz_neg, ol_add, ol_sub, sD_eq, sD_sD, sD_ne, sD_in, sD_in2, sD_in3, upR_is, upR_ne, mk_v, mk_n, mk_x, mk_i, mv_cs, Nat.reduceLeDiff, mv_ch_z, nh_X10_bagsForAll, e1, e2]
def zBp (T : zT) (m : Nat) (g : Int) : Int := zK (zSp T m) (fun k => if 0 < zSp T m k then T.1 o1 (6 + 9 * k + 3) else 0) (T.1 o1 0).toNat g
theorem c_X10_bestProtection (hd : 6 ≤ d) {g m : Int} (hW : zWF (T.1 o1) 99) (b1 : -2147483648 ≤ g) (b2 : g < 2147483648) (m1 : -2147483648 ≤ m) (m2 : m < 2147483648) (hS : ∀ k, 0 ≤ k → k < T.1 o1 0 → 0 ≤ zSp T m.toNat k ∧ zSp T m.toNat k ≤ 1000000) : ∃ T', zFr T T' ∧ mv_cl L xs d k_X10_bestProtection [.ref 0, .int (Int32.ofInt g), .int (Int32.ofInt m)] (t, 142, mz T) = some (if (0 ≤ g ∧ g ≤ 99) ∧ 0 ≤ m ∧ m ≤ 30 then (.inl (some (.int (Int32.ofInt (zBp T m.toNat g)))), (t, 142, mz T')) else (.inr 0, (t + 1, 142, mz T))) := by
  have a5 := hW.2.1
  have e0 := c_X10_faultOfRange (L := L) (xs := xs) (t := t) (d := d - 1) (n := g) (lo := 0) (hi := 99) (h := mz T) (by omega) b1 b2 (by omega) (by omega) (by omega) (by omega)
  have e1 := c_X10_faultOfRange (L := L) (xs := xs) (t := t) (d := d - 1) (n := m) (lo := 0) (hi := 30) (h := mz T) (by omega) m1 m2 (by omega) (by omega) (by omega) (by omega)
  have e2 := c_X10_throwFor_0 (L := L) (xs := xs) (t := t) (T := T) (d := d - 1) (by omega)
  have e3 := c_X10_throwFor (L := L) (xs := xs) (t := t) (T := T) (d := d - 1) (f := 1012) (by omega) (by omega) (by omega)
  rw [show zE 1012 = 0 from rfl] at e3
  by_cases h0 : 0 ≤ g ∧ g ≤ 99
  · rw [show zfR g 0 99 = 1010 from if_neg (by omega)] at e0
    by_cases h : 0 ≤ m ∧ m ≤ 30
    · obtain ⟨T', g1, ⟨c, g2, g3, g4, g5, g6, g7, g9⟩, g8⟩ := c_X10_gather (L := L) (xs := xs) (t := t) (T := T) (d := d - 1) (by omega) h.1 h.2 hW hS
      obtain ⟨X', q⟩ := c_X9_bestByTable (L := L) (xs := xs) (t := t) (T := T') (d := d - 1) (by omega) g2 (by omega) (by omega) h0.1 h0.2 g4 g5
      rw [show (c : Int).toNat = c from Int.toNat_natCast c, g9 g h0.1] at q
      refine ⟨sD T' 136 X', zFr_sD g1 (.inr (.inr (.inl (by omega)))), ?_⟩
      rw [if_pos ⟨h0, h⟩]
      rw [show zfR m 0 30 = 1010 from if_neg (by omega)] at e1
      unfold zBp
      obtain ⟨d, rfl⟩ : ∃ e, d = e + 1 := ⟨d - 1, by omega⟩
      apply mv_cl_of
      simp only [mv_il, Value.category, Nat.zero_add, Nat.reduceAdd]
      simp only [Nat.add_sub_cancel] at e0 e1 e2 g8 q
      simp (disch := omega) only [mv_Ev_row r_X10_bestProtection_0, mv_Ev_row r_X10_bestProtection_1, mv_Ev_row r_X10_bestProtection_2, mv_Ev_row r_X10_bestProtection_4, mv_Ev_row r_X10_bestProtection_7, mv_Ev_row r_X10_bestProtection_10, mv_Ev_row r_X10_bestProtection_11, mv_Ev_row r_X10_bestProtection_12, mv_Ev_row r_X10_bestProtection_14, mv_Ev_row r_X10_bestProtection_17, mv_Ev_row r_X10_bestProtection_20, mv_Ev_row r_X10_bestProtection_21, mv_Ev_row r_X10_bestProtection_22, mv_Ev_row r_X10_bestProtection_25, mv_Ev_row r_X10_bestProtection_26, mv_Ev_row r_X10_bestProtection_29, mv_Ev_row r_X10_bestProtection_30, mv_Ev_row r_X10_bestProtection_33, ea_iload_n, ea_iconst, ea_bipush, kv_X10_faultOfRange, kv_X10_throwFor, ea_aload_n, kv_X10_gatherEndangered, gg_7_6, kv_X9_bestByTable, ea_ireturn, ez_ret, ez_retc, bz_30, bz_99, mv_ac, decide_eq_true_eq, not_true_eq_false, and_self, and_true, true_and, ea_2n, ea_2f, ea_2c, ea_if, if_pos, if_neg, mv_lk, mv_f1, mv_f2, Value.category, List.filter, ↓reduceIte, Nat.reduceEqDiff, Nat.reduceAdd, Nat.reduceLT, Nat.reduceBEq, Nat.zero_add, Nat.add_zero, Nat.zero_ne_one, Nat.one_ne_zero, Bool.not_true, Bool.not_false, Bool.and_true, Bool.true_and, Bool.and_false, Bool.false_and, BEq.rfl, beq_self_eq_true, Bool.false_eq_true, reduceCtorEq, not_false_eq_true, fv0, fv1, fv2, fv3, eb_l0, eb_l1, eb_l2, eb_l3, eb_l4, eb_l5, eb_s0, eb_s1, eb_s2, eb_s3, eb_s4, eb_s5, oz_add, oz_sub, oz_mul, oz_neg, ol_add, ol_sub, sD_eq, sD_sD, sD_ne, sD_in, sD_in2, sD_in3, upR_is, upR_ne, mk_v, mk_n, mk_x, mk_i, mv_cs, Nat.reduceLeDiff, mv_ch_z, nh_X10_bestProtection, e0, e1, e2, g8, q]
    · refine ⟨T, zFr_refl T, ?_⟩
      rw [if_neg (fun q => h q.2)]
      rw [show zfR m 0 30 = 1012 from if_pos (by omega)] at e1
      obtain ⟨d, rfl⟩ : ∃ e, d = e + 1 := ⟨d - 1, by omega⟩
      apply mv_cl_of
      simp only [mv_il, Value.category, Nat.zero_add, Nat.reduceAdd]
      simp only [Nat.add_sub_cancel] at e0 e1 e2 e3
      simp (disch := omega) only [mv_Ev_row r_X10_bestProtection_0, mv_Ev_row r_X10_bestProtection_1, mv_Ev_row r_X10_bestProtection_2, mv_Ev_row r_X10_bestProtection_4, mv_Ev_row r_X10_bestProtection_7, mv_Ev_row r_X10_bestProtection_10, mv_Ev_row r_X10_bestProtection_11, mv_Ev_row r_X10_bestProtection_12, mv_Ev_row r_X10_bestProtection_14, mv_Ev_row r_X10_bestProtection_17, mv_Ev_row r_X10_bestProtection_20, mv_Ev_row r_X10_bestProtection_21, mv_Ev_row r_X10_bestProtection_22, mv_Ev_row r_X10_bestProtection_25, mv_Ev_row r_X10_bestProtection_26, mv_Ev_row r_X10_bestProtection_29, mv_Ev_row r_X10_bestProtection_30, mv_Ev_row r_X10_bestProtection_33, ea_iload_n, ea_iconst, ea_bipush, kv_X10_faultOfRange, kv_X10_throwFor, ea_aload_n, kv_X10_gatherEndangered, gg_7_6, kv_X9_bestByTable, ea_ireturn, ez_ret, ez_retc, bz_30, bz_99, mv_ac, decide_eq_true_eq, not_true_eq_false, and_self, and_true, true_and, ea_2n, ea_2f, ea_2c, ea_if, if_pos, if_neg, mv_lk, mv_f1, mv_f2, Value.category, List.filter, ↓reduceIte, Nat.reduceEqDiff, Nat.reduceAdd, Nat.reduceLT, Nat.reduceBEq, Nat.zero_add, Nat.add_zero, Nat.zero_ne_one, Nat.one_ne_zero, Bool.not_true, Bool.not_false, Bool.and_true, Bool.true_and, Bool.and_false, Bool.false_and, BEq.rfl, beq_self_eq_true, Bool.false_eq_true, reduceCtorEq, not_false_eq_true, fv0, fv1, fv2, fv3, eb_l0, eb_l1, eb_l2, eb_l3, eb_l4, eb_l5, eb_s0, eb_s1, eb_s2, eb_s3, eb_s4, eb_s5, oz_add, oz_sub, oz_mul, oz_neg, ol_add, ol_sub, sD_eq, sD_sD, sD_ne, sD_in, sD_in2, sD_in3, upR_is, upR_ne, mk_v, mk_n, mk_x, mk_i, mv_cs, Nat.reduceLeDiff, mv_ch_z, nh_X10_bestProtection, e0, e1, e2, e3]
  · refine ⟨T, zFr_refl T, ?_⟩
    rw [if_neg (fun q => h0 q.1)]
    rw [show zfR g 0 99 = 1012 from if_pos (by omega)] at e0
    obtain ⟨d, rfl⟩ : ∃ e, d = e + 1 := ⟨d - 1, by omega⟩
    apply mv_cl_of
    simp only [mv_il, Value.category, Nat.zero_add, Nat.reduceAdd]
    simp only [Nat.add_sub_cancel] at e0 e3
    simp (disch := omega) only [mv_Ev_row r_X10_bestProtection_0, mv_Ev_row r_X10_bestProtection_1, mv_Ev_row r_X10_bestProtection_2, mv_Ev_row r_X10_bestProtection_4, mv_Ev_row r_X10_bestProtection_7, mv_Ev_row r_X10_bestProtection_10, mv_Ev_row r_X10_bestProtection_11, mv_Ev_row r_X10_bestProtection_12, mv_Ev_row r_X10_bestProtection_14, mv_Ev_row r_X10_bestProtection_17, mv_Ev_row r_X10_bestProtection_20, mv_Ev_row r_X10_bestProtection_21, mv_Ev_row r_X10_bestProtection_22, mv_Ev_row r_X10_bestProtection_25, mv_Ev_row r_X10_bestProtection_26, mv_Ev_row r_X10_bestProtection_29, mv_Ev_row r_X10_bestProtection_30, mv_Ev_row r_X10_bestProtection_33, ea_iload_n, ea_iconst, ea_bipush, kv_X10_faultOfRange, kv_X10_throwFor, ea_aload_n, kv_X10_gatherEndangered, gg_7_6, kv_X9_bestByTable, ea_ireturn, ez_ret, ez_retc, bz_30, bz_99, mv_ac, decide_eq_true_eq, not_true_eq_false, and_self, and_true, true_and, ea_2n, ea_2f, ea_2c, ea_if, if_pos, if_neg, mv_lk, mv_f1, mv_f2, Value.category, List.filter, ↓reduceIte, Nat.reduceEqDiff, Nat.reduceAdd, Nat.reduceLT, Nat.reduceBEq, Nat.zero_add, Nat.add_zero, Nat.zero_ne_one, Nat.one_ne_zero, Bool.not_true, Bool.not_false, Bool.and_true, Bool.true_and, Bool.and_false, Bool.false_and, BEq.rfl, beq_self_eq_true, Bool.false_eq_true, reduceCtorEq, not_false_eq_true, fv0, fv1, fv2, fv3, eb_l0, eb_l1, eb_l2, eb_l3, eb_l4, eb_l5, eb_s0, eb_s1, eb_s2, eb_s3, eb_s4, eb_s5, oz_add, oz_sub, oz_mul, oz_neg, ol_add, ol_sub, sD_eq, sD_sD, sD_ne, sD_in, sD_in2, sD_in3, upR_is, upR_ne, mk_v, mk_n, mk_x, mk_i, mv_cs, Nat.reduceLeDiff, mv_ch_z, nh_X10_bestProtection, e0, e3]
theorem c_X10_bestProtectionBySets (hd : 6 ≤ d) {g m : Int} (hW : zWF (T.1 o1) 99) (b1 : -2147483648 ≤ g) (b2 : g < 2147483648) (m1 : -2147483648 ≤ m) (m2 : m < 2147483648) (hS : ∀ k, 0 ≤ k → k < T.1 o1 0 → 0 ≤ zSp T m.toNat k ∧ zSp T m.toNat k ≤ 1000000) : ∃ T', zFr T T' ∧ mv_cl L xs d k_X10_bestProtectionBySets [.ref 0, .int (Int32.ofInt g), .int (Int32.ofInt m)] (t, 142, mz T) = some (if (0 ≤ g ∧ g ≤ 99) ∧ 0 ≤ m ∧ m ≤ 30 then (.inl (some (.int (Int32.ofInt (zBp T m.toNat g)))), (t, 142, mz T')) else (.inr 0, (t + 1, 142, mz T))) := by
  have a5 := hW.2.1
  have e0 := c_X10_faultOfRange (L := L) (xs := xs) (t := t) (d := d - 1) (n := g) (lo := 0) (hi := 99) (h := mz T) (by omega) b1 b2 (by omega) (by omega) (by omega) (by omega)
  have e1 := c_X10_faultOfRange (L := L) (xs := xs) (t := t) (d := d - 1) (n := m) (lo := 0) (hi := 30) (h := mz T) (by omega) m1 m2 (by omega) (by omega) (by omega) (by omega)
  have e2 := c_X10_throwFor_0 (L := L) (xs := xs) (t := t) (T := T) (d := d - 1) (by omega)
  have e3 := c_X10_throwFor (L := L) (xs := xs) (t := t) (T := T) (d := d - 1) (f := 1012) (by omega) (by omega) (by omega)
  rw [show zE 1012 = 0 from rfl] at e3
  by_cases h0 : 0 ≤ g ∧ g ≤ 99
  · rw [show zfR g 0 99 = 1010 from if_neg (by omega)] at e0
    by_cases h : 0 ≤ m ∧ m ≤ 30
    · obtain ⟨T', g1, ⟨c, g2, g3, g4, g5, g6, g7, g9⟩, g8⟩ := c_X10_gather (L := L) (xs := xs) (t := t) (T := T) (d := d - 1) (by omega) h.1 h.2 hW hS
      have q := c_X9_bestBySets (L := L) (xs := xs) (t := t) (T := T') (d := d - 1) (g := g) (by omega) g2 (by omega) (by omega) h0.1 h0.2 (fun k h0 h1 => by have := g4 k h0 h1; omega) g5
      rw [show (c : Int).toNat = c from Int.toNat_natCast c, g9 g h0.1] at q
      refine ⟨T', g1, ?_⟩
      rw [if_pos ⟨h0, h⟩]
      rw [show zfR m 0 30 = 1010 from if_neg (by omega)] at e1
      unfold zBp
      obtain ⟨d, rfl⟩ : ∃ e, d = e + 1 := ⟨d - 1, by omega⟩
      apply mv_cl_of
      simp only [mv_il, Value.category, Nat.zero_add, Nat.reduceAdd]
      simp only [Nat.add_sub_cancel] at e0 e1 e2 g8 q
      simp (disch := omega) only [mv_Ev_row r_X10_bestProtectionBySets_0, mv_Ev_row r_X10_bestProtectionBySets_1, mv_Ev_row r_X10_bestProtectionBySets_2, mv_Ev_row r_X10_bestProtectionBySets_4, mv_Ev_row r_X10_bestProtectionBySets_7, mv_Ev_row r_X10_bestProtectionBySets_10, mv_Ev_row r_X10_bestProtectionBySets_11, mv_Ev_row r_X10_bestProtectionBySets_12, mv_Ev_row r_X10_bestProtectionBySets_14, mv_Ev_row r_X10_bestProtectionBySets_17, mv_Ev_row r_X10_bestProtectionBySets_20, mv_Ev_row r_X10_bestProtectionBySets_21, mv_Ev_row r_X10_bestProtectionBySets_22, mv_Ev_row r_X10_bestProtectionBySets_25, mv_Ev_row r_X10_bestProtectionBySets_26, mv_Ev_row r_X10_bestProtectionBySets_29, mv_Ev_row r_X10_bestProtectionBySets_30, mv_Ev_row r_X10_bestProtectionBySets_33, ea_iload_n, ea_iconst, ea_bipush, kv_X10_faultOfRange, kv_X10_throwFor, ea_aload_n, kv_X10_gatherEndangered, gg_7_6, kv_X9_bestBySets, ea_ireturn, ez_ret, ez_retc, bz_30, bz_99, mv_ac, decide_eq_true_eq, not_true_eq_false, and_self, and_true, true_and, ea_2n, ea_2f, ea_2c, ea_if, if_pos, if_neg, mv_lk, mv_f1, mv_f2, Value.category, List.filter, ↓reduceIte, Nat.reduceEqDiff, Nat.reduceAdd, Nat.reduceLT, Nat.reduceBEq, Nat.zero_add, Nat.add_zero, Nat.zero_ne_one, Nat.one_ne_zero, Bool.not_true, Bool.not_false, Bool.and_true, Bool.true_and, Bool.and_false, Bool.false_and, BEq.rfl, beq_self_eq_true, Bool.false_eq_true, reduceCtorEq, not_false_eq_true, fv0, fv1, fv2, fv3, eb_l0, eb_l1, eb_l2, eb_l3, eb_l4, eb_l5, eb_s0, eb_s1, eb_s2, eb_s3, eb_s4, eb_s5, oz_add, oz_sub, oz_mul, oz_neg, ol_add, ol_sub, sD_eq, sD_sD, sD_ne, sD_in, sD_in2, sD_in3, upR_is, upR_ne, mk_v, mk_n, mk_x, mk_i, mv_cs, Nat.reduceLeDiff, mv_ch_z, nh_X10_bestProtectionBySets, e0, e1, e2, g8, q]
    · refine ⟨T, zFr_refl T, ?_⟩
      rw [if_neg (fun q => h q.2)]
      rw [show zfR m 0 30 = 1012 from if_pos (by omega)] at e1
      obtain ⟨d, rfl⟩ : ∃ e, d = e + 1 := ⟨d - 1, by omega⟩
      apply mv_cl_of
      simp only [mv_il, Value.category, Nat.zero_add, Nat.reduceAdd]
      simp only [Nat.add_sub_cancel] at e0 e1 e2 e3
      simp (disch := omega) only [mv_Ev_row r_X10_bestProtectionBySets_0, mv_Ev_row r_X10_bestProtectionBySets_1, mv_Ev_row r_X10_bestProtectionBySets_2, mv_Ev_row r_X10_bestProtectionBySets_4, mv_Ev_row r_X10_bestProtectionBySets_7, mv_Ev_row r_X10_bestProtectionBySets_10, mv_Ev_row r_X10_bestProtectionBySets_11, mv_Ev_row r_X10_bestProtectionBySets_12, mv_Ev_row r_X10_bestProtectionBySets_14, mv_Ev_row r_X10_bestProtectionBySets_17, mv_Ev_row r_X10_bestProtectionBySets_20, mv_Ev_row r_X10_bestProtectionBySets_21, mv_Ev_row r_X10_bestProtectionBySets_22, mv_Ev_row r_X10_bestProtectionBySets_25, mv_Ev_row r_X10_bestProtectionBySets_26, mv_Ev_row r_X10_bestProtectionBySets_29, mv_Ev_row r_X10_bestProtectionBySets_30, mv_Ev_row r_X10_bestProtectionBySets_33, ea_iload_n, ea_iconst, ea_bipush, kv_X10_faultOfRange, kv_X10_throwFor, ea_aload_n, kv_X10_gatherEndangered, gg_7_6, kv_X9_bestBySets, ea_ireturn, ez_ret, ez_retc, bz_30, bz_99, mv_ac, decide_eq_true_eq, not_true_eq_false, and_self, and_true, true_and, ea_2n, ea_2f, ea_2c, ea_if, if_pos, if_neg, mv_lk, mv_f1, mv_f2, Value.category, List.filter, ↓reduceIte, Nat.reduceEqDiff, Nat.reduceAdd, Nat.reduceLT, Nat.reduceBEq, Nat.zero_add, Nat.add_zero, Nat.zero_ne_one, Nat.one_ne_zero, Bool.not_true, Bool.not_false, Bool.and_true, Bool.true_and, Bool.and_false, Bool.false_and, BEq.rfl, beq_self_eq_true, Bool.false_eq_true, reduceCtorEq, not_false_eq_true, fv0, fv1, fv2, fv3, eb_l0, eb_l1, eb_l2, eb_l3, eb_l4, eb_l5, eb_s0, eb_s1, eb_s2, eb_s3, eb_s4, eb_s5, oz_add, oz_sub, oz_mul, oz_neg, ol_add, ol_sub, sD_eq, sD_sD, sD_ne, sD_in, sD_in2, sD_in3, upR_is, upR_ne, mk_v, mk_n, mk_x, mk_i, mv_cs, Nat.reduceLeDiff, mv_ch_z, nh_X10_bestProtectionBySets, e0, e1, e2, e3]
  · refine ⟨T, zFr_refl T, ?_⟩
    rw [if_neg (fun q => h0 q.1)]
    rw [show zfR g 0 99 = 1012 from if_pos (by omega)] at e0
    obtain ⟨d, rfl⟩ : ∃ e, d = e + 1 := ⟨d - 1, by omega⟩
    apply mv_cl_of
    simp only [mv_il, Value.category, Nat.zero_add, Nat.reduceAdd]
    simp only [Nat.add_sub_cancel] at e0 e3
    simp (disch := omega) only [mv_Ev_row r_X10_bestProtectionBySets_0, mv_Ev_row r_X10_bestProtectionBySets_1, mv_Ev_row r_X10_bestProtectionBySets_2, mv_Ev_row r_X10_bestProtectionBySets_4, mv_Ev_row r_X10_bestProtectionBySets_7, mv_Ev_row r_X10_bestProtectionBySets_10, mv_Ev_row r_X10_bestProtectionBySets_11, mv_Ev_row r_X10_bestProtectionBySets_12, mv_Ev_row r_X10_bestProtectionBySets_14, mv_Ev_row r_X10_bestProtectionBySets_17, mv_Ev_row r_X10_bestProtectionBySets_20, mv_Ev_row r_X10_bestProtectionBySets_21, mv_Ev_row r_X10_bestProtectionBySets_22, mv_Ev_row r_X10_bestProtectionBySets_25, mv_Ev_row r_X10_bestProtectionBySets_26, mv_Ev_row r_X10_bestProtectionBySets_29, mv_Ev_row r_X10_bestProtectionBySets_30, mv_Ev_row r_X10_bestProtectionBySets_33, ea_iload_n, ea_iconst, ea_bipush, kv_X10_faultOfRange, kv_X10_throwFor, ea_aload_n, kv_X10_gatherEndangered, gg_7_6, kv_X9_bestBySets, ea_ireturn, ez_ret, ez_retc, bz_30, bz_99, mv_ac, decide_eq_true_eq, not_true_eq_false, and_self, and_true, true_and, ea_2n, ea_2f, ea_2c, ea_if, if_pos, if_neg, mv_lk, mv_f1, mv_f2, Value.category, List.filter, ↓reduceIte, Nat.reduceEqDiff, Nat.reduceAdd, Nat.reduceLT, Nat.reduceBEq, Nat.zero_add, Nat.add_zero, Nat.zero_ne_one, Nat.one_ne_zero, Bool.not_true, Bool.not_false, Bool.and_true, Bool.true_and, Bool.and_false, Bool.false_and, BEq.rfl, beq_self_eq_true, Bool.false_eq_true, reduceCtorEq, not_false_eq_true, fv0, fv1, fv2, fv3, eb_l0, eb_l1, eb_l2, eb_l3, eb_l4, eb_l5, eb_s0, eb_s1, eb_s2, eb_s3, eb_s4, eb_s5, oz_add, oz_sub, oz_mul, oz_neg, ol_add, ol_sub, sD_eq, sD_sD, sD_ne, sD_in, sD_in2, sD_in3, upR_is, upR_ne, mk_v, mk_n, mk_x, mk_i, mv_cs, Nat.reduceLeDiff, mv_ch_z, nh_X10_bestProtectionBySets, e0, e3]
theorem ct_faultOfPlan (hc : Ch c) (hd : 3 ≤ d) {b n : Int} (hW : zWF (T.1 c) 99) (hi1 : -2147483648 ≤ b) (hi2 : b < 2147483648) (h1 : -2147483648 ≤ n) (h2 : n < 2147483648) : mv_cl L xs d k_X2_faultOfPlan [.ref c, .int (Int32.ofInt b), .int (Int32.ofInt n)] (t, 142, mz T) = some (.inl (some (.ref (zfPlan (T.1 c) b n))), (t, 142, mz T)) := by
  have q := c_X2_faultOfPlan (L := L) (xs := xs) (t := t) (T := T) (A := T.1 c) (d := d) hc hd hW.1 hW.2.1 hi1 hi2 h1 h2 (fun k h0 h1 => by have := hW.2.2.2.2.1 k h0 h1; unfold zOK at this; omega)
  rw [sD_id] at q
  exact q
theorem zfPlan_rng {A : Int → Int} {b n : Int} : 1010 ≤ zfPlan A b n ∧ zfPlan A b n ≤ 1013 := by
  unfold zfPlan
  repeat' split
  all_goals omega
theorem c_X10_leastSpill (hd : 10 ≤ d) {b m : Int} (hW : zWF (T.1 o1) 99) (b1 : -2147483648 ≤ b) (b2 : b < 2147483648) (m1 : -2147483648 ≤ m) (m2 : m < 2147483648) : ∃ T', zFr T T' ∧ mv_cl L xs d k_X10_leastSpill [.ref 0, .int (Int32.ofInt b), .int (Int32.ofInt m)] (t, 142, mz T) = some (if zfPlan (T.1 o1) b m = 1010 then (.inl (some (.int (Int32.ofInt (zPl m.toNat (T.1 o1) b)))), (t, 142, mz T')) else (.inr (zE (zfPlan (T.1 o1) b m)), (t + 1, 142, mz T))) := by
  have hf := zfPlan_rng (A := T.1 o1) (b := b) (n := m)
  have e1 := ct_faultOfPlan (L := L) (xs := xs) (t := t) (T := T) (d := d - 1) Ch.o1 (by omega) hW b1 b2 m1 m2
  have e2 := c_X10_throwFor_0 (L := L) (xs := xs) (t := t) (T := T) (d := d - 1) (by omega)
  have e4 := c_X10_throwFor (L := L) (xs := xs) (t := t) (T := T) (d := d - 1) (f := zfPlan (T.1 o1) b m) (by omega)
  by_cases h : zfPlan (T.1 o1) b m = 1010
  · obtain ⟨p1, p2, p3, p4⟩ := zfPlan_1 h
    obtain ⟨T', g1, g2⟩ := c_X7_leastOfAll (L := L) (xs := xs) (t := t) (T := T) (d := d - 1) p3 p4 (by omega) p1 Ch.o1 o1_try hW p2 rfl
    refine ⟨T', zFr_to g1, ?_⟩
    rw [if_pos h]
    rw [h] at e1
    obtain ⟨d, rfl⟩ : ∃ e, d = e + 1 := ⟨d - 1, by omega⟩
    apply mv_cl_of
    simp only [mv_il, Value.category, Nat.zero_add, Nat.reduceAdd]
    simp only [Nat.add_sub_cancel] at e1 e2 g2
    simp (disch := omega) only [mv_Ev_row r_X10_leastSpill_0, mv_Ev_row r_X10_leastSpill_1, mv_Ev_row r_X10_leastSpill_4, mv_Ev_row r_X10_leastSpill_5, mv_Ev_row r_X10_leastSpill_6, mv_Ev_row r_X10_leastSpill_9, mv_Ev_row r_X10_leastSpill_12, mv_Ev_row r_X10_leastSpill_13, mv_Ev_row r_X10_leastSpill_16, mv_Ev_row r_X10_leastSpill_17, mv_Ev_row r_X10_leastSpill_20, mv_Ev_row r_X10_leastSpill_21, mv_Ev_row r_X10_leastSpill_22, mv_Ev_row r_X10_leastSpill_25, ea_aload_n, ea_iload_n, kv_X2_faultOfPlan Ch.o1, kv_X10_throwFor, gg_7_5, kv_X7_leastOfAll, ea_ireturn, ez_ret, ez_retc, mv_ac, decide_eq_true_eq, not_true_eq_false, and_self, and_true, true_and, ea_2n, ea_2f, ea_2c, ea_if, if_pos, if_neg, mv_lk, mv_f1, mv_f2, Value.category, List.filter, ↓reduceIte, Nat.reduceEqDiff, Nat.reduceAdd, Nat.reduceLT, Nat.reduceBEq, Nat.zero_add, Nat.add_zero, Nat.zero_ne_one, Nat.one_ne_zero, Bool.not_true, Bool.not_false, Bool.and_true, Bool.true_and, Bool.and_false, Bool.false_and, BEq.rfl, beq_self_eq_true, Bool.false_eq_true, reduceCtorEq, not_false_eq_true, fv0, fv1, fv2, fv3, eb_l0, eb_l1, eb_l2, eb_l3, eb_l4, eb_l5, eb_s0, eb_s1, eb_s2, eb_s3, eb_s4, eb_s5, oz_add, oz_sub, oz_mul, oz_neg, ol_add, ol_sub, sD_eq, sD_sD, sD_ne, sD_in, sD_in2, sD_in3, upR_is, upR_ne, mk_v, mk_n, mk_x, mk_i, mv_cs, Nat.reduceLeDiff, mv_ch_z, nh_X10_leastSpill, g7_0, e1, e2, g2]
  · refine ⟨T, zFr_refl T, ?_⟩
    rw [if_neg h]
    have e4 := e4 (by omega) (by omega)
    obtain ⟨d, rfl⟩ : ∃ e, d = e + 1 := ⟨d - 1, by omega⟩
    apply mv_cl_of
    simp only [mv_il, Value.category, Nat.zero_add, Nat.reduceAdd]
    simp only [Nat.add_sub_cancel] at e1 e4
    simp (disch := omega) only [mv_Ev_row r_X10_leastSpill_0, mv_Ev_row r_X10_leastSpill_1, mv_Ev_row r_X10_leastSpill_4, mv_Ev_row r_X10_leastSpill_5, mv_Ev_row r_X10_leastSpill_6, mv_Ev_row r_X10_leastSpill_9, mv_Ev_row r_X10_leastSpill_12, mv_Ev_row r_X10_leastSpill_13, mv_Ev_row r_X10_leastSpill_16, mv_Ev_row r_X10_leastSpill_17, mv_Ev_row r_X10_leastSpill_20, mv_Ev_row r_X10_leastSpill_21, mv_Ev_row r_X10_leastSpill_22, mv_Ev_row r_X10_leastSpill_25, ea_aload_n, ea_iload_n, kv_X2_faultOfPlan Ch.o1, kv_X10_throwFor, gg_7_5, kv_X7_leastOfAll, ea_ireturn, ez_ret, ez_retc, mv_ac, decide_eq_true_eq, not_true_eq_false, and_self, and_true, true_and, ea_2n, ea_2f, ea_2c, ea_if, if_pos, if_neg, mv_lk, mv_f1, mv_f2, Value.category, List.filter, ↓reduceIte, Nat.reduceEqDiff, Nat.reduceAdd, Nat.reduceLT, Nat.reduceBEq, Nat.zero_add, Nat.add_zero, Nat.zero_ne_one, Nat.one_ne_zero, Bool.not_true, Bool.not_false, Bool.and_true, Bool.true_and, Bool.and_false, Bool.false_and, BEq.rfl, beq_self_eq_true, Bool.false_eq_true, reduceCtorEq, not_false_eq_true, fv0, fv1, fv2, fv3, eb_l0, eb_l1, eb_l2, eb_l3, eb_l4, eb_l5, eb_s0, eb_s1, eb_s2, eb_s3, eb_s4, eb_s5, oz_add, oz_sub, oz_mul, oz_neg, ol_add, ol_sub, sD_eq, sD_sD, sD_ne, sD_in, sD_in2, sD_in3, upR_is, upR_ne, mk_v, mk_n, mk_x, mk_i, mv_cs, Nat.reduceLeDiff, mv_ch_z, nh_X10_leastSpill, g7_0, e1, e4]
theorem c_X10_leastSpillByPruning (hd : 10 ≤ d) {b m : Int} (hW : zWF (T.1 o1) 99) (b1 : -2147483648 ≤ b) (b2 : b < 2147483648) (m1 : -2147483648 ≤ m) (m2 : m < 2147483648) : ∃ T', zFr T T' ∧ mv_cl L xs d k_X10_leastSpillByPruning [.ref 0, .int (Int32.ofInt b), .int (Int32.ofInt m)] (t, 142, mz T) = some (if zfPlan (T.1 o1) b m = 1010 then (.inl (some (.int (Int32.ofInt (zPl m.toNat (T.1 o1) b)))), (t, 142, mz T')) else (.inr (zE (zfPlan (T.1 o1) b m)), (t + 1, 142, mz T))) := by
  have hf := zfPlan_rng (A := T.1 o1) (b := b) (n := m)
  have e1 := ct_faultOfPlan (L := L) (xs := xs) (t := t) (T := T) (d := d - 1) Ch.o1 (by omega) hW b1 b2 m1 m2
  have e2 := c_X10_throwFor_0 (L := L) (xs := xs) (t := t) (T := T) (d := d - 1) (by omega)
  have e4 := c_X10_throwFor (L := L) (xs := xs) (t := t) (T := T) (d := d - 1) (f := zfPlan (T.1 o1) b m) (by omega)
  by_cases h : zfPlan (T.1 o1) b m = 1010
  · obtain ⟨p1, p2, p3, p4⟩ := zfPlan_1 h
    obtain ⟨T', g1, g2⟩ := c_X7_leastByCutting (L := L) (xs := xs) (t := t) (T := T) (d := d - 1) p3 p4 (by omega) p1 Ch.o1 o1_try hW p2 rfl
    refine ⟨T', zFr_to g1, ?_⟩
    rw [if_pos h]
    rw [h] at e1
    obtain ⟨d, rfl⟩ : ∃ e, d = e + 1 := ⟨d - 1, by omega⟩
    apply mv_cl_of
    simp only [mv_il, Value.category, Nat.zero_add, Nat.reduceAdd]
    simp only [Nat.add_sub_cancel] at e1 e2 g2
    simp (disch := omega) only [mv_Ev_row r_X10_leastSpillByPruning_0, mv_Ev_row r_X10_leastSpillByPruning_1, mv_Ev_row r_X10_leastSpillByPruning_4, mv_Ev_row r_X10_leastSpillByPruning_5, mv_Ev_row r_X10_leastSpillByPruning_6, mv_Ev_row r_X10_leastSpillByPruning_9, mv_Ev_row r_X10_leastSpillByPruning_12, mv_Ev_row r_X10_leastSpillByPruning_13, mv_Ev_row r_X10_leastSpillByPruning_16, mv_Ev_row r_X10_leastSpillByPruning_17, mv_Ev_row r_X10_leastSpillByPruning_20, mv_Ev_row r_X10_leastSpillByPruning_21, mv_Ev_row r_X10_leastSpillByPruning_22, mv_Ev_row r_X10_leastSpillByPruning_25, ea_aload_n, ea_iload_n, kv_X2_faultOfPlan Ch.o1, kv_X10_throwFor, gg_7_5, kv_X7_leastByCutting, ea_ireturn, ez_ret, ez_retc, mv_ac, decide_eq_true_eq, not_true_eq_false, and_self, and_true, true_and, ea_2n, ea_2f, ea_2c, ea_if, if_pos, if_neg, mv_lk, mv_f1, mv_f2, Value.category, List.filter, ↓reduceIte, Nat.reduceEqDiff, Nat.reduceAdd, Nat.reduceLT, Nat.reduceBEq, Nat.zero_add, Nat.add_zero, Nat.zero_ne_one, Nat.one_ne_zero, Bool.not_true, Bool.not_false, Bool.and_true, Bool.true_and, Bool.and_false, Bool.false_and, BEq.rfl, beq_self_eq_true, Bool.false_eq_true, reduceCtorEq, not_false_eq_true, fv0, fv1, fv2, fv3, eb_l0, eb_l1, eb_l2, eb_l3, eb_l4, eb_l5, eb_s0, eb_s1, eb_s2, eb_s3, eb_s4, eb_s5, oz_add, oz_sub, oz_mul, oz_neg, ol_add, ol_sub, sD_eq, sD_sD, sD_ne, sD_in, sD_in2, sD_in3, upR_is, upR_ne, mk_v, mk_n, mk_x, mk_i, mv_cs, Nat.reduceLeDiff, mv_ch_z, nh_X10_leastSpillByPruning, g7_0, e1, e2, g2]
  · refine ⟨T, zFr_refl T, ?_⟩
    rw [if_neg h]
    have e4 := e4 (by omega) (by omega)
    obtain ⟨d, rfl⟩ : ∃ e, d = e + 1 := ⟨d - 1, by omega⟩
    apply mv_cl_of
    simp only [mv_il, Value.category, Nat.zero_add, Nat.reduceAdd]
    simp only [Nat.add_sub_cancel] at e1 e4
    simp (disch := omega) only [mv_Ev_row r_X10_leastSpillByPruning_0, mv_Ev_row r_X10_leastSpillByPruning_1, mv_Ev_row r_X10_leastSpillByPruning_4, mv_Ev_row r_X10_leastSpillByPruning_5, mv_Ev_row r_X10_leastSpillByPruning_6, mv_Ev_row r_X10_leastSpillByPruning_9, mv_Ev_row r_X10_leastSpillByPruning_12, mv_Ev_row r_X10_leastSpillByPruning_13, mv_Ev_row r_X10_leastSpillByPruning_16, mv_Ev_row r_X10_leastSpillByPruning_17, mv_Ev_row r_X10_leastSpillByPruning_20, mv_Ev_row r_X10_leastSpillByPruning_21, mv_Ev_row r_X10_leastSpillByPruning_22, mv_Ev_row r_X10_leastSpillByPruning_25, ea_aload_n, ea_iload_n, kv_X2_faultOfPlan Ch.o1, kv_X10_throwFor, gg_7_5, kv_X7_leastByCutting, ea_ireturn, ez_ret, ez_retc, mv_ac, decide_eq_true_eq, not_true_eq_false, and_self, and_true, true_and, ea_2n, ea_2f, ea_2c, ea_if, if_pos, if_neg, mv_lk, mv_f1, mv_f2, Value.category, List.filter, ↓reduceIte, Nat.reduceEqDiff, Nat.reduceAdd, Nat.reduceLT, Nat.reduceBEq, Nat.zero_add, Nat.add_zero, Nat.zero_ne_one, Nat.one_ne_zero, Bool.not_true, Bool.not_false, Bool.and_true, Bool.true_and, Bool.and_false, Bool.false_and, BEq.rfl, beq_self_eq_true, Bool.false_eq_true, reduceCtorEq, not_false_eq_true, fv0, fv1, fv2, fv3, eb_l0, eb_l1, eb_l2, eb_l3, eb_l4, eb_l5, eb_s0, eb_s1, eb_s2, eb_s3, eb_s4, eb_s5, oz_add, oz_sub, oz_mul, oz_neg, ol_add, ol_sub, sD_eq, sD_sD, sD_ne, sD_in, sD_in2, sD_in3, upR_is, upR_ne, mk_v, mk_n, mk_x, mk_i, mv_cs, Nat.reduceLeDiff, mv_ch_z, nh_X10_leastSpillByPruning, g7_0, e1, e4]
theorem c_X10_bestOpening (hd : 10 ≤ d) {b m : Int} (hW : zWF (T.1 o1) 99) (b1 : -2147483648 ≤ b) (b2 : b < 2147483648) (m1 : -2147483648 ≤ m) (m2 : m < 2147483648) : ∃ T', zFr T T' ∧ mv_cl L xs d k_X10_bestOpening [.ref 0, .int (Int32.ofInt b), .int (Int32.ofInt m)] (t, 142, mz T) = some (if zfPlan (T.1 o1) b m = 1010 then (.inl (some (.int (Int32.ofInt (zPa (m.toNat - 1) (T.1 o1) b)))), (t, 142, mz T')) else (.inr (zE (zfPlan (T.1 o1) b m)), (t + 1, 142, mz T))) := by
  have hf := zfPlan_rng (A := T.1 o1) (b := b) (n := m)
  have e1 := ct_faultOfPlan (L := L) (xs := xs) (t := t) (T := T) (d := d - 1) Ch.o1 (by omega) hW b1 b2 m1 m2
  have e2 := c_X10_throwFor_0 (L := L) (xs := xs) (t := t) (T := T) (d := d - 1) (by omega)
  have e4 := c_X10_throwFor (L := L) (xs := xs) (t := t) (T := T) (d := d - 1) (f := zfPlan (T.1 o1) b m) (by omega)
  by_cases h : zfPlan (T.1 o1) b m = 1010
  · obtain ⟨p1, p2, p3, p4⟩ := zfPlan_1 h
    obtain ⟨T', g1, g2⟩ := c_X7_lowest (L := L) (xs := xs) (t := t) (T := T) (d := d - 1) p3 p4 (by omega) p1 Ch.o1 o1_try hW p2 rfl
    refine ⟨T', zFr_to g1, ?_⟩
    rw [if_pos h]
    rw [h] at e1
    obtain ⟨d, rfl⟩ : ∃ e, d = e + 1 := ⟨d - 1, by omega⟩
    apply mv_cl_of
    simp only [mv_il, Value.category, Nat.zero_add, Nat.reduceAdd]
    simp only [Nat.add_sub_cancel] at e1 e2 g2
    simp (disch := omega) only [mv_Ev_row r_X10_bestOpening_0, mv_Ev_row r_X10_bestOpening_1, mv_Ev_row r_X10_bestOpening_4, mv_Ev_row r_X10_bestOpening_5, mv_Ev_row r_X10_bestOpening_6, mv_Ev_row r_X10_bestOpening_9, mv_Ev_row r_X10_bestOpening_12, mv_Ev_row r_X10_bestOpening_13, mv_Ev_row r_X10_bestOpening_16, mv_Ev_row r_X10_bestOpening_17, mv_Ev_row r_X10_bestOpening_20, mv_Ev_row r_X10_bestOpening_21, mv_Ev_row r_X10_bestOpening_22, mv_Ev_row r_X10_bestOpening_25, ea_aload_n, ea_iload_n, kv_X2_faultOfPlan Ch.o1, kv_X10_throwFor, gg_7_5, kv_X7_lowestFirstOpening, ea_ireturn, ez_ret, ez_retc, mv_ac, decide_eq_true_eq, not_true_eq_false, and_self, and_true, true_and, ea_2n, ea_2f, ea_2c, ea_if, if_pos, if_neg, mv_lk, mv_f1, mv_f2, Value.category, List.filter, ↓reduceIte, Nat.reduceEqDiff, Nat.reduceAdd, Nat.reduceLT, Nat.reduceBEq, Nat.zero_add, Nat.add_zero, Nat.zero_ne_one, Nat.one_ne_zero, Bool.not_true, Bool.not_false, Bool.and_true, Bool.true_and, Bool.and_false, Bool.false_and, BEq.rfl, beq_self_eq_true, Bool.false_eq_true, reduceCtorEq, not_false_eq_true, fv0, fv1, fv2, fv3, eb_l0, eb_l1, eb_l2, eb_l3, eb_l4, eb_l5, eb_s0, eb_s1, eb_s2, eb_s3, eb_s4, eb_s5, oz_add, oz_sub, oz_mul, oz_neg, ol_add, ol_sub, sD_eq, sD_sD, sD_ne, sD_in, sD_in2, sD_in3, upR_is, upR_ne, mk_v, mk_n, mk_x, mk_i, mv_cs, Nat.reduceLeDiff, mv_ch_z, nh_X10_bestOpening, g7_0, e1, e2, g2]
  · refine ⟨T, zFr_refl T, ?_⟩
    rw [if_neg h]
    have e4 := e4 (by omega) (by omega)
    obtain ⟨d, rfl⟩ : ∃ e, d = e + 1 := ⟨d - 1, by omega⟩
    apply mv_cl_of
    simp only [mv_il, Value.category, Nat.zero_add, Nat.reduceAdd]
    simp only [Nat.add_sub_cancel] at e1 e4
    simp (disch := omega) only [mv_Ev_row r_X10_bestOpening_0, mv_Ev_row r_X10_bestOpening_1, mv_Ev_row r_X10_bestOpening_4, mv_Ev_row r_X10_bestOpening_5, mv_Ev_row r_X10_bestOpening_6, mv_Ev_row r_X10_bestOpening_9, mv_Ev_row r_X10_bestOpening_12, mv_Ev_row r_X10_bestOpening_13, mv_Ev_row r_X10_bestOpening_16, mv_Ev_row r_X10_bestOpening_17, mv_Ev_row r_X10_bestOpening_20, mv_Ev_row r_X10_bestOpening_21, mv_Ev_row r_X10_bestOpening_22, mv_Ev_row r_X10_bestOpening_25, ea_aload_n, ea_iload_n, kv_X2_faultOfPlan Ch.o1, kv_X10_throwFor, gg_7_5, kv_X7_lowestFirstOpening, ea_ireturn, ez_ret, ez_retc, mv_ac, decide_eq_true_eq, not_true_eq_false, and_self, and_true, true_and, ea_2n, ea_2f, ea_2c, ea_if, if_pos, if_neg, mv_lk, mv_f1, mv_f2, Value.category, List.filter, ↓reduceIte, Nat.reduceEqDiff, Nat.reduceAdd, Nat.reduceLT, Nat.reduceBEq, Nat.zero_add, Nat.add_zero, Nat.zero_ne_one, Nat.one_ne_zero, Bool.not_true, Bool.not_false, Bool.and_true, Bool.true_and, Bool.and_false, Bool.false_and, BEq.rfl, beq_self_eq_true, Bool.false_eq_true, reduceCtorEq, not_false_eq_true, fv0, fv1, fv2, fv3, eb_l0, eb_l1, eb_l2, eb_l3, eb_l4, eb_l5, eb_s0, eb_s1, eb_s2, eb_s3, eb_s4, eb_s5, oz_add, oz_sub, oz_mul, oz_neg, ol_add, ol_sub, sD_eq, sD_sD, sD_ne, sD_in, sD_in2, sD_in3, upR_is, upR_ne, mk_v, mk_n, mk_x, mk_i, mv_cs, Nat.reduceLeDiff, mv_ch_z, nh_X10_bestOpening, g7_0, e1, e4]
end FC3
