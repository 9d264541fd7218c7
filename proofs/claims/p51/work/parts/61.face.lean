/-! THE FACE OF THE CLASS -/
theorem tb_X10_change : mv_tb k_X10_change = t_X10_change := rfl
theorem r_X10_change_0 : mv_in k_X10_change 0 = some (.aload_n 0, 1, 0, 0, 0) := by unfold mv_in; rw [tb_X10_change]; rfl
theorem r_X10_change_1 : mv_in k_X10_change 1 = some (.getfield 10, 4, 7, 0, 285) := by unfold mv_in; rw [tb_X10_change]; rfl
theorem r_X10_change_4 : mv_in k_X10_change 4 = some (.aload_n 1, 5, 0, 0, 0) := by unfold mv_in; rw [tb_X10_change]; rfl
theorem r_X10_change_5 : mv_in k_X10_change 5 = some (.iload_n 2, 6, 0, 0, 0) := by unfold mv_in; rw [tb_X10_change]; rfl
theorem r_X10_change_6 : mv_in k_X10_change 6 = some (.iload_n 3, 7, 0, 0, 0) := by unfold mv_in; rw [tb_X10_change]; rfl
theorem r_X10_change_7 : mv_in k_X10_change 7 = some (.iload 4, 9, 0, 0, 0) := by unfold mv_in; rw [tb_X10_change]; rfl
theorem r_X10_change_9 : mv_in k_X10_change 9 = some (.invokevirtual 102, 12, k_X2_faultOf, 5, 838) := by unfold mv_in; rw [tb_X10_change]; rfl
theorem r_X10_change_12 : mv_in k_X10_change 12 = some (.invokestatic 106, 15, k_X10_throwFor, 1, 545) := by unfold mv_in; rw [tb_X10_change]; rfl
theorem r_X10_change_15 : mv_in k_X10_change 15 = some (.aload_n 0, 16, 0, 0, 0) := by unfold mv_in; rw [tb_X10_change]; rfl
theorem r_X10_change_16 : mv_in k_X10_change 16 = some (.getfield 28, 19, 7, 4, 289) := by unfold mv_in; rw [tb_X10_change]; rfl
theorem r_X10_change_19 : mv_in k_X10_change 19 = some (.aload_n 0, 20, 0, 0, 0) := by unfold mv_in; rw [tb_X10_change]; rfl
theorem r_X10_change_20 : mv_in k_X10_change 20 = some (.getfield 10, 23, 7, 0, 285) := by unfold mv_in; rw [tb_X10_change]; rfl
theorem r_X10_change_23 : mv_in k_X10_change 23 = some (.invokevirtual 110, 26, k_X5_remember, 2, 871) := by unfold mv_in; rw [tb_X10_change]; rfl
theorem r_X10_change_26 : mv_in k_X10_change 26 = some (.aload_n 0, 27, 0, 0, 0) := by unfold mv_in; rw [tb_X10_change]; rfl
theorem r_X10_change_27 : mv_in k_X10_change 27 = some (.getfield 10, 30, 7, 0, 285) := by unfold mv_in; rw [tb_X10_change]; rfl
theorem r_X10_change_30 : mv_in k_X10_change 30 = some (.aload_n 1, 31, 0, 0, 0) := by unfold mv_in; rw [tb_X10_change]; rfl
theorem r_X10_change_31 : mv_in k_X10_change 31 = some (.iload_n 2, 32, 0, 0, 0) := by unfold mv_in; rw [tb_X10_change]; rfl
theorem r_X10_change_32 : mv_in k_X10_change 32 = some (.iload_n 3, 33, 0, 0, 0) := by unfold mv_in; rw [tb_X10_change]; rfl
theorem r_X10_change_33 : mv_in k_X10_change 33 = some (.iload 4, 35, 0, 0, 0) := by unfold mv_in; rw [tb_X10_change]; rfl
theorem r_X10_change_35 : mv_in k_X10_change 35 = some (.invokevirtual 114, 38, k_X2_carryOut, 5, 877) := by unfold mv_in; rw [tb_X10_change]; rfl
theorem r_X10_change_38 : mv_in k_X10_change 38 = some (.ireturn, 39, 0, 0, 0) := by unfold mv_in; rw [tb_X10_change]; rfl
theorem nh_X10_change : mv_nh k_X10_change = true := rfl
theorem tb_X10_existingBasin : mv_tb k_X10_existingBasin = t_X10_existingBasin := rfl
theorem r_X10_existingBasin_0 : mv_in k_X10_existingBasin 0 = some (.aload_n 0, 1, 0, 0, 0) := by unfold mv_in; rw [tb_X10_existingBasin]; rfl
theorem r_X10_existingBasin_1 : mv_in k_X10_existingBasin 1 = some (.getfield 10, 4, 7, 0, 285) := by unfold mv_in; rw [tb_X10_existingBasin]; rfl
theorem r_X10_existingBasin_4 : mv_in k_X10_existingBasin 4 = some (.iload_n 1, 5, 0, 0, 0) := by unfold mv_in; rw [tb_X10_existingBasin]; rfl
theorem r_X10_existingBasin_5 : mv_in k_X10_existingBasin 5 = some (.invokevirtual 347, 8, k_X2_hasBasin, 2, 334) := by unfold mv_in; rw [tb_X10_existingBasin]; rfl
theorem r_X10_existingBasin_8 : mv_in k_X10_existingBasin 8 = some (.ifCond .ne 14, 11, 22, 0, 0) := by unfold mv_in; rw [tb_X10_existingBasin]; rfl
theorem r_X10_existingBasin_11 : mv_in k_X10_existingBasin 11 = some (.new 172, 14, 99, 2, 338) := by unfold mv_in; rw [tb_X10_existingBasin]; rfl
theorem r_X10_existingBasin_14 : mv_in k_X10_existingBasin 14 = some (.dup, 15, 0, 0, 0) := by unfold mv_in; rw [tb_X10_existingBasin]; rfl
theorem r_X10_existingBasin_15 : mv_in k_X10_existingBasin 15 = some (.ldc_w 351, 18, 0, 0, 382) := by unfold mv_in; rw [tb_X10_existingBasin]; rfl
theorem r_X10_existingBasin_18 : mv_in k_X10_existingBasin 18 = some (.invokespecial 176, 21, 999, 2, 383) := by unfold mv_in; rw [tb_X10_existingBasin]; rfl
theorem r_X10_existingBasin_21 : mv_in k_X10_existingBasin 21 = some (.athrow, 22, 0, 0, 0) := by unfold mv_in; rw [tb_X10_existingBasin]; rfl
theorem r_X10_existingBasin_22 : mv_in k_X10_existingBasin 22 = some (.aload_n 0, 23, 0, 0, 0) := by unfold mv_in; rw [tb_X10_existingBasin]; rfl
theorem r_X10_existingBasin_23 : mv_in k_X10_existingBasin 23 = some (.getfield 10, 26, 7, 0, 285) := by unfold mv_in; rw [tb_X10_existingBasin]; rfl
theorem r_X10_existingBasin_26 : mv_in k_X10_existingBasin 26 = some (.getfield 197, 29, 1, 0, 161) := by unfold mv_in; rw [tb_X10_existingBasin]; rfl
theorem r_X10_existingBasin_29 : mv_in k_X10_existingBasin 29 = some (.iload_n 1, 30, 0, 0, 0) := by unfold mv_in; rw [tb_X10_existingBasin]; rfl
theorem r_X10_existingBasin_30 : mv_in k_X10_existingBasin 30 = some (.aaload, 31, 0, 0, 0) := by unfold mv_in; rw [tb_X10_existingBasin]; rfl
theorem r_X10_existingBasin_31 : mv_in k_X10_existingBasin 31 = some (.areturn, 32, 0, 0, 0) := by unfold mv_in; rw [tb_X10_existingBasin]; rfl
theorem nh_X10_existingBasin : mv_nh k_X10_existingBasin = true := rfl
theorem tb_X10_threshold : mv_tb k_X10_threshold = t_X10_threshold := rfl
theorem r_X10_threshold_0 : mv_in k_X10_threshold 0 = some (.aload_n 0, 1, 0, 0, 0) := by unfold mv_in; rw [tb_X10_threshold]; rfl
theorem r_X10_threshold_1 : mv_in k_X10_threshold 1 = some (.iload_n 1, 2, 0, 0, 0) := by unfold mv_in; rw [tb_X10_threshold]; rfl
theorem r_X10_threshold_2 : mv_in k_X10_threshold 2 = some (.invokevirtual 120, 5, k_X10_existingBasin, 2, 330) := by unfold mv_in; rw [tb_X10_threshold]; rfl
theorem r_X10_threshold_5 : mv_in k_X10_threshold 5 = some (.astore_n 2, 6, 0, 0, 0) := by unfold mv_in; rw [tb_X10_threshold]; rfl
theorem r_X10_threshold_6 : mv_in k_X10_threshold 6 = some (.aload_n 2, 7, 0, 0, 0) := by unfold mv_in; rw [tb_X10_threshold]; rfl
theorem r_X10_threshold_7 : mv_in k_X10_threshold 7 = some (.getfield 141, 10, 0, 5, 130) := by unfold mv_in; rw [tb_X10_threshold]; rfl
theorem r_X10_threshold_10 : mv_in k_X10_threshold 10 = some (.ifCond .ne 13, 13, 23, 0, 0) := by unfold mv_in; rw [tb_X10_threshold]; rfl
theorem r_X10_threshold_13 : mv_in k_X10_threshold 13 = some (.new 144, 16, 99, 5, 445) := by unfold mv_in; rw [tb_X10_threshold]; rfl
theorem r_X10_threshold_16 : mv_in k_X10_threshold 16 = some (.dup, 17, 0, 0, 0) := by unfold mv_in; rw [tb_X10_threshold]; rfl
theorem r_X10_threshold_17 : mv_in k_X10_threshold 17 = some (.ldc 146, 19, 0, 0, 805) := by unfold mv_in; rw [tb_X10_threshold]; rfl
theorem r_X10_threshold_19 : mv_in k_X10_threshold 19 = some (.invokespecial 148, 22, 999, 2, 455) := by unfold mv_in; rw [tb_X10_threshold]; rfl
theorem r_X10_threshold_22 : mv_in k_X10_threshold 22 = some (.athrow, 23, 0, 0, 0) := by unfold mv_in; rw [tb_X10_threshold]; rfl
theorem r_X10_threshold_23 : mv_in k_X10_threshold 23 = some (.aload_n 2, 24, 0, 0, 0) := by unfold mv_in; rw [tb_X10_threshold]; rfl
theorem r_X10_threshold_24 : mv_in k_X10_threshold 24 = some (.getfield 151, 27, 0, 6, 133) := by unfold mv_in; rw [tb_X10_threshold]; rfl
theorem r_X10_threshold_27 : mv_in k_X10_threshold 27 = some (.ireturn, 28, 0, 0, 0) := by unfold mv_in; rw [tb_X10_threshold]; rfl
theorem nh_X10_threshold : mv_nh k_X10_threshold = true := rfl
theorem tb_X10_basinCount : mv_tb k_X10_basinCount = t_X10_basinCount := rfl
theorem r_X10_basinCount_0 : mv_in k_X10_basinCount 0 = some (.aload_n 0, 1, 0, 0, 0) := by unfold mv_in; rw [tb_X10_basinCount]; rfl
theorem r_X10_basinCount_1 : mv_in k_X10_basinCount 1 = some (.getfield 10, 4, 7, 0, 285) := by unfold mv_in; rw [tb_X10_basinCount]; rfl
theorem r_X10_basinCount_4 : mv_in k_X10_basinCount 4 = some (.getfield 117, 7, 1, 1, 163) := by unfold mv_in; rw [tb_X10_basinCount]; rfl
theorem r_X10_basinCount_7 : mv_in k_X10_basinCount 7 = some (.ireturn, 8, 0, 0, 0) := by unfold mv_in; rw [tb_X10_basinCount]; rfl
theorem nh_X10_basinCount : mv_nh k_X10_basinCount = true := rfl
theorem tb_X10_time : mv_tb k_X10_time = t_X10_time := rfl
theorem r_X10_time_0 : mv_in k_X10_time 0 = some (.aload_n 0, 1, 0, 0, 0) := by unfold mv_in; rw [tb_X10_time]; rfl
theorem r_X10_time_1 : mv_in k_X10_time 1 = some (.getfield 10, 4, 7, 0, 285) := by unfold mv_in; rw [tb_X10_time]; rfl
theorem r_X10_time_4 : mv_in k_X10_time 4 = some (.getfield 166, 7, 1, 4, 169) := by unfold mv_in; rw [tb_X10_time]; rfl
theorem r_X10_time_7 : mv_in k_X10_time 7 = some (.ireturn, 8, 0, 0, 0) := by unfold mv_in; rw [tb_X10_time]; rfl
theorem nh_X10_time : mv_nh k_X10_time = true := rfl
theorem tb_X10_forecastLength : mv_tb k_X10_forecastLength = t_X10_forecastLength := rfl
theorem r_X10_forecastLength_0 : mv_in k_X10_forecastLength 0 = some (.aload_n 0, 1, 0, 0, 0) := by unfold mv_in; rw [tb_X10_forecastLength]; rfl
theorem r_X10_forecastLength_1 : mv_in k_X10_forecastLength 1 = some (.getfield 10, 4, 7, 0, 285) := by unfold mv_in; rw [tb_X10_forecastLength]; rfl
theorem r_X10_forecastLength_4 : mv_in k_X10_forecastLength 4 = some (.getfield 169, 7, 1, 3, 167) := by unfold mv_in; rw [tb_X10_forecastLength]; rfl
theorem r_X10_forecastLength_7 : mv_in k_X10_forecastLength 7 = some (.ireturn, 8, 0, 0, 0) := by unfold mv_in; rw [tb_X10_forecastLength]; rfl
theorem nh_X10_forecastLength : mv_nh k_X10_forecastLength = true := rfl
theorem tb_X10_rainAt : mv_tb k_X10_rainAt = t_X10_rainAt := rfl
theorem r_X10_rainAt_0 : mv_in k_X10_rainAt 0 = some (.iload_n 1, 1, 0, 0, 0) := by unfold mv_in; rw [tb_X10_rainAt]; rfl
theorem r_X10_rainAt_1 : mv_in k_X10_rainAt 1 = some (.ifCond .lt 14, 4, 15, 0, 0) := by unfold mv_in; rw [tb_X10_rainAt]; rfl
theorem r_X10_rainAt_4 : mv_in k_X10_rainAt 4 = some (.iload_n 1, 5, 0, 0, 0) := by unfold mv_in; rw [tb_X10_rainAt]; rfl
theorem r_X10_rainAt_5 : mv_in k_X10_rainAt 5 = some (.aload_n 0, 6, 0, 0, 0) := by unfold mv_in; rw [tb_X10_rainAt]; rfl
theorem r_X10_rainAt_6 : mv_in k_X10_rainAt 6 = some (.getfield 10, 9, 7, 0, 285) := by unfold mv_in; rw [tb_X10_rainAt]; rfl
theorem r_X10_rainAt_9 : mv_in k_X10_rainAt 9 = some (.getfield 169, 12, 1, 3, 167) := by unfold mv_in; rw [tb_X10_rainAt]; rfl
theorem r_X10_rainAt_12 : mv_in k_X10_rainAt 12 = some (.if_icmp .lt 13, 15, 25, 0, 0) := by unfold mv_in; rw [tb_X10_rainAt]; rfl
theorem r_X10_rainAt_15 : mv_in k_X10_rainAt 15 = some (.new 172, 18, 99, 2, 338) := by unfold mv_in; rw [tb_X10_rainAt]; rfl
theorem r_X10_rainAt_18 : mv_in k_X10_rainAt 18 = some (.dup, 19, 0, 0, 0) := by unfold mv_in; rw [tb_X10_rainAt]; rfl
theorem r_X10_rainAt_19 : mv_in k_X10_rainAt 19 = some (.ldc 174, 21, 0, 0, 473) := by unfold mv_in; rw [tb_X10_rainAt]; rfl
theorem r_X10_rainAt_21 : mv_in k_X10_rainAt 21 = some (.invokespecial 176, 24, 999, 2, 383) := by unfold mv_in; rw [tb_X10_rainAt]; rfl
theorem r_X10_rainAt_24 : mv_in k_X10_rainAt 24 = some (.athrow, 25, 0, 0, 0) := by unfold mv_in; rw [tb_X10_rainAt]; rfl
theorem r_X10_rainAt_25 : mv_in k_X10_rainAt 25 = some (.aload_n 0, 26, 0, 0, 0) := by unfold mv_in; rw [tb_X10_rainAt]; rfl
theorem r_X10_rainAt_26 : mv_in k_X10_rainAt 26 = some (.getfield 10, 29, 7, 0, 285) := by unfold mv_in; rw [tb_X10_rainAt]; rfl
theorem r_X10_rainAt_29 : mv_in k_X10_rainAt 29 = some (.getfield 177, 32, 1, 2, 165) := by unfold mv_in; rw [tb_X10_rainAt]; rfl
theorem r_X10_rainAt_32 : mv_in k_X10_rainAt 32 = some (.iload_n 1, 33, 0, 0, 0) := by unfold mv_in; rw [tb_X10_rainAt]; rfl
theorem r_X10_rainAt_33 : mv_in k_X10_rainAt 33 = some (.iaload, 34, 0, 0, 0) := by unfold mv_in; rw [tb_X10_rainAt]; rfl
theorem r_X10_rainAt_34 : mv_in k_X10_rainAt 34 = some (.ireturn, 35, 0, 0, 0) := by unfold mv_in; rw [tb_X10_rainAt]; rfl
theorem nh_X10_rainAt : mv_nh k_X10_rainAt = true := rfl
theorem tb_X10_stored : mv_tb k_X10_stored = t_X10_stored := rfl
theorem r_X10_stored_0 : mv_in k_X10_stored 0 = some (.aload_n 0, 1, 0, 0, 0) := by unfold mv_in; rw [tb_X10_stored]; rfl
theorem r_X10_stored_1 : mv_in k_X10_stored 1 = some (.getfield 10, 4, 7, 0, 285) := by unfold mv_in; rw [tb_X10_stored]; rfl
theorem r_X10_stored_4 : mv_in k_X10_stored 4 = some (.invokevirtual 181, 7, k_X2_sumOfLevels, 1, 478) := by unfold mv_in; rw [tb_X10_stored]; rfl
theorem r_X10_stored_7 : mv_in k_X10_stored 7 = some (.ireturn, 8, 0, 0, 0) := by unfold mv_in; rw [tb_X10_stored]; rfl
theorem nh_X10_stored : mv_nh k_X10_stored = true := rfl
theorem tb_X10_storedByAccounts : mv_tb k_X10_storedByAccounts = t_X10_storedByAccounts := rfl
theorem r_X10_storedByAccounts_0 : mv_in k_X10_storedByAccounts 0 = some (.aload_n 0, 1, 0, 0, 0) := by unfold mv_in; rw [tb_X10_storedByAccounts]; rfl
theorem r_X10_storedByAccounts_1 : mv_in k_X10_storedByAccounts 1 = some (.getfield 10, 4, 7, 0, 285) := by unfold mv_in; rw [tb_X10_storedByAccounts]; rfl
theorem r_X10_storedByAccounts_4 : mv_in k_X10_storedByAccounts 4 = some (.invokevirtual 185, 7, k_X2_balanceOfAccounts, 1, 486) := by unfold mv_in; rw [tb_X10_storedByAccounts]; rfl
theorem r_X10_storedByAccounts_7 : mv_in k_X10_storedByAccounts 7 = some (.ireturn, 8, 0, 0, 0) := by unfold mv_in; rw [tb_X10_storedByAccounts]; rfl
theorem nh_X10_storedByAccounts : mv_nh k_X10_storedByAccounts = true := rfl
theorem tb_X10_riverTotal : mv_tb k_X10_riverTotal = t_X10_riverTotal := rfl
theorem r_X10_riverTotal_0 : mv_in k_X10_riverTotal 0 = some (.aload_n 0, 1, 0, 0, 0) := by unfold mv_in; rw [tb_X10_riverTotal]; rfl
theorem r_X10_riverTotal_1 : mv_in k_X10_riverTotal 1 = some (.getfield 10, 4, 7, 0, 285) := by unfold mv_in; rw [tb_X10_riverTotal]; rfl
theorem r_X10_riverTotal_4 : mv_in k_X10_riverTotal 4 = some (.getfield 188, 7, 1, 7, 173) := by unfold mv_in; rw [tb_X10_riverTotal]; rfl
theorem r_X10_riverTotal_7 : mv_in k_X10_riverTotal 7 = some (.lreturn, 8, 0, 0, 0) := by unfold mv_in; rw [tb_X10_riverTotal]; rfl
theorem nh_X10_riverTotal : mv_nh k_X10_riverTotal = true := rfl
theorem tb_X10_basinAtRank : mv_tb k_X10_basinAtRank = t_X10_basinAtRank := rfl
theorem r_X10_basinAtRank_0 : mv_in k_X10_basinAtRank 0 = some (.iconst 0, 1, 0, 0, 0) := by unfold mv_in; rw [tb_X10_basinAtRank]; rfl
theorem r_X10_basinAtRank_1 : mv_in k_X10_basinAtRank 1 = some (.istore_n 2, 2, 0, 0, 0) := by unfold mv_in; rw [tb_X10_basinAtRank]; rfl
theorem r_X10_basinAtRank_2 : mv_in k_X10_basinAtRank 2 = some (.iload_n 2, 3, 0, 0, 0) := by unfold mv_in; rw [tb_X10_basinAtRank]; rfl
theorem r_X10_basinAtRank_3 : mv_in k_X10_basinAtRank 3 = some (.aload_n 0, 4, 0, 0, 0) := by unfold mv_in; rw [tb_X10_basinAtRank]; rfl
theorem r_X10_basinAtRank_4 : mv_in k_X10_basinAtRank 4 = some (.getfield 10, 7, 7, 0, 285) := by unfold mv_in; rw [tb_X10_basinAtRank]; rfl
theorem r_X10_basinAtRank_7 : mv_in k_X10_basinAtRank 7 = some (.getfield 117, 10, 1, 1, 163) := by unfold mv_in; rw [tb_X10_basinAtRank]; rfl
theorem r_X10_basinAtRank_10 : mv_in k_X10_basinAtRank 10 = some (.if_icmp .ge 23, 13, 33, 0, 0) := by unfold mv_in; rw [tb_X10_basinAtRank]; rfl
theorem r_X10_basinAtRank_13 : mv_in k_X10_basinAtRank 13 = some (.aload_n 0, 14, 0, 0, 0) := by unfold mv_in; rw [tb_X10_basinAtRank]; rfl
theorem r_X10_basinAtRank_14 : mv_in k_X10_basinAtRank 14 = some (.getfield 10, 17, 7, 0, 285) := by unfold mv_in; rw [tb_X10_basinAtRank]; rfl
theorem r_X10_basinAtRank_17 : mv_in k_X10_basinAtRank 17 = some (.iload_n 2, 18, 0, 0, 0) := by unfold mv_in; rw [tb_X10_basinAtRank]; rfl
theorem r_X10_basinAtRank_18 : mv_in k_X10_basinAtRank 18 = some (.invokevirtual 160, 21, k_X2_rankOf, 2, 437) := by unfold mv_in; rw [tb_X10_basinAtRank]; rfl
theorem r_X10_basinAtRank_21 : mv_in k_X10_basinAtRank 21 = some (.iload_n 1, 22, 0, 0, 0) := by unfold mv_in; rw [tb_X10_basinAtRank]; rfl
theorem r_X10_basinAtRank_22 : mv_in k_X10_basinAtRank 22 = some (.if_icmp .ne 5, 25, 27, 0, 0) := by unfold mv_in; rw [tb_X10_basinAtRank]; rfl
theorem r_X10_basinAtRank_25 : mv_in k_X10_basinAtRank 25 = some (.iload_n 2, 26, 0, 0, 0) := by unfold mv_in; rw [tb_X10_basinAtRank]; rfl
theorem r_X10_basinAtRank_26 : mv_in k_X10_basinAtRank 26 = some (.ireturn, 27, 0, 0, 0) := by unfold mv_in; rw [tb_X10_basinAtRank]; rfl
theorem r_X10_basinAtRank_27 : mv_in k_X10_basinAtRank 27 = some (.iinc 2 1, 30, 0, 0, 0) := by unfold mv_in; rw [tb_X10_basinAtRank]; rfl
theorem r_X10_basinAtRank_30 : mv_in k_X10_basinAtRank 30 = some (.goto (-28), 33, 2, 0, 0) := by unfold mv_in; rw [tb_X10_basinAtRank]; rfl
theorem r_X10_basinAtRank_33 : mv_in k_X10_basinAtRank 33 = some (.new 144, 36, 99, 5, 445) := by unfold mv_in; rw [tb_X10_basinAtRank]; rfl
theorem r_X10_basinAtRank_36 : mv_in k_X10_basinAtRank 36 = some (.dup, 37, 0, 0, 0) := by unfold mv_in; rw [tb_X10_basinAtRank]; rfl
theorem r_X10_basinAtRank_37 : mv_in k_X10_basinAtRank 37 = some (.ldc 164, 39, 0, 0, 454) := by unfold mv_in; rw [tb_X10_basinAtRank]; rfl
theorem r_X10_basinAtRank_39 : mv_in k_X10_basinAtRank 39 = some (.invokespecial 148, 42, 999, 2, 455) := by unfold mv_in; rw [tb_X10_basinAtRank]; rfl
theorem r_X10_basinAtRank_42 : mv_in k_X10_basinAtRank 42 = some (.athrow, 43, 0, 0, 0) := by unfold mv_in; rw [tb_X10_basinAtRank]; rfl
theorem nh_X10_basinAtRank : mv_nh k_X10_basinAtRank = true := rfl
theorem tb_X10_outputAt : mv_tb k_X10_outputAt = t_X10_outputAt := rfl
theorem r_X10_outputAt_0 : mv_in k_X10_outputAt 0 = some (.iload_n 1, 1, 0, 0, 0) := by unfold mv_in; rw [tb_X10_outputAt]; rfl
theorem r_X10_outputAt_1 : mv_in k_X10_outputAt 1 = some (.ifCond .lt 14, 4, 15, 0, 0) := by unfold mv_in; rw [tb_X10_outputAt]; rfl
theorem r_X10_outputAt_4 : mv_in k_X10_outputAt 4 = some (.iload_n 1, 5, 0, 0, 0) := by unfold mv_in; rw [tb_X10_outputAt]; rfl
theorem r_X10_outputAt_5 : mv_in k_X10_outputAt 5 = some (.aload_n 0, 6, 0, 0, 0) := by unfold mv_in; rw [tb_X10_outputAt]; rfl
theorem r_X10_outputAt_6 : mv_in k_X10_outputAt 6 = some (.getfield 56, 9, 7, 8, 293) := by unfold mv_in; rw [tb_X10_outputAt]; rfl
theorem r_X10_outputAt_9 : mv_in k_X10_outputAt 9 = some (.getfield 321, 12, 3, 1, 279) := by unfold mv_in; rw [tb_X10_outputAt]; rfl
theorem r_X10_outputAt_12 : mv_in k_X10_outputAt 12 = some (.if_icmp .lt 14, 15, 26, 0, 0) := by unfold mv_in; rw [tb_X10_outputAt]; rfl
theorem r_X10_outputAt_15 : mv_in k_X10_outputAt 15 = some (.new 172, 18, 99, 2, 338) := by unfold mv_in; rw [tb_X10_outputAt]; rfl
theorem r_X10_outputAt_18 : mv_in k_X10_outputAt 18 = some (.dup, 19, 0, 0, 0) := by unfold mv_in; rw [tb_X10_outputAt]; rfl
theorem r_X10_outputAt_19 : mv_in k_X10_outputAt 19 = some (.ldc_w 332, 22, 0, 0, 1001) := by unfold mv_in; rw [tb_X10_outputAt]; rfl
theorem r_X10_outputAt_22 : mv_in k_X10_outputAt 22 = some (.invokespecial 176, 25, 999, 2, 383) := by unfold mv_in; rw [tb_X10_outputAt]; rfl
theorem r_X10_outputAt_25 : mv_in k_X10_outputAt 25 = some (.athrow, 26, 0, 0, 0) := by unfold mv_in; rw [tb_X10_outputAt]; rfl
theorem r_X10_outputAt_26 : mv_in k_X10_outputAt 26 = some (.aload_n 0, 27, 0, 0, 0) := by unfold mv_in; rw [tb_X10_outputAt]; rfl
theorem r_X10_outputAt_27 : mv_in k_X10_outputAt 27 = some (.getfield 56, 30, 7, 8, 293) := by unfold mv_in; rw [tb_X10_outputAt]; rfl
theorem r_X10_outputAt_30 : mv_in k_X10_outputAt 30 = some (.getfield 334, 33, 3, 0, 277) := by unfold mv_in; rw [tb_X10_outputAt]; rfl
theorem r_X10_outputAt_33 : mv_in k_X10_outputAt 33 = some (.iload_n 1, 34, 0, 0, 0) := by unfold mv_in; rw [tb_X10_outputAt]; rfl
theorem r_X10_outputAt_34 : mv_in k_X10_outputAt 34 = some (.caload, 35, 0, 0, 0) := by unfold mv_in; rw [tb_X10_outputAt]; rfl
theorem r_X10_outputAt_35 : mv_in k_X10_outputAt 35 = some (.ireturn, 36, 2, 0, 0) := by unfold mv_in; rw [tb_X10_outputAt]; rfl
theorem nh_X10_outputAt : mv_nh k_X10_outputAt = true := rfl
theorem tb_X10_addBasin : mv_tb k_X10_addBasin = t_X10_addBasin := rfl
theorem r_X10_addBasin_0 : mv_in k_X10_addBasin 0 = some (.aload_n 0, 1, 0, 0, 0) := by unfold mv_in; rw [tb_X10_addBasin]; rfl
theorem r_X10_addBasin_1 : mv_in k_X10_addBasin 1 = some (.getstatic 71, 4, 1000, 0, 832) := by unfold mv_in; rw [tb_X10_addBasin]; rfl
theorem r_X10_addBasin_4 : mv_in k_X10_addBasin 4 = some (.iload_n 1, 5, 0, 0, 0) := by unfold mv_in; rw [tb_X10_addBasin]; rfl
theorem r_X10_addBasin_5 : mv_in k_X10_addBasin 5 = some (.iload_n 2, 6, 0, 0, 0) := by unfold mv_in; rw [tb_X10_addBasin]; rfl
theorem r_X10_addBasin_6 : mv_in k_X10_addBasin 6 = some (.iload_n 3, 7, 0, 0, 0) := by unfold mv_in; rw [tb_X10_addBasin]; rfl
theorem r_X10_addBasin_7 : mv_in k_X10_addBasin 7 = some (.invokevirtual 77, 10, k_X10_change, 5, 834) := by unfold mv_in; rw [tb_X10_addBasin]; rfl
theorem r_X10_addBasin_10 : mv_in k_X10_addBasin 10 = some (.ireturn, 11, 0, 0, 0) := by unfold mv_in; rw [tb_X10_addBasin]; rfl
theorem nh_X10_addBasin : mv_nh k_X10_addBasin = true := rfl
theorem tb_X10_setGate : mv_tb k_X10_setGate = t_X10_setGate := rfl
theorem r_X10_setGate_0 : mv_in k_X10_setGate 0 = some (.aload_n 0, 1, 0, 0, 0) := by unfold mv_in; rw [tb_X10_setGate]; rfl
theorem r_X10_setGate_1 : mv_in k_X10_setGate 1 = some (.getstatic 81, 4, 1001, 0, 941) := by unfold mv_in; rw [tb_X10_setGate]; rfl
theorem r_X10_setGate_4 : mv_in k_X10_setGate 4 = some (.iload_n 1, 5, 0, 0, 0) := by unfold mv_in; rw [tb_X10_setGate]; rfl
theorem r_X10_setGate_5 : mv_in k_X10_setGate 5 = some (.iload_n 2, 6, 0, 0, 0) := by unfold mv_in; rw [tb_X10_setGate]; rfl
theorem r_X10_setGate_6 : mv_in k_X10_setGate 6 = some (.iconst 0, 7, 0, 0, 0) := by unfold mv_in; rw [tb_X10_setGate]; rfl
theorem r_X10_setGate_7 : mv_in k_X10_setGate 7 = some (.invokevirtual 77, 10, k_X10_change, 5, 834) := by unfold mv_in; rw [tb_X10_setGate]; rfl
theorem r_X10_setGate_10 : mv_in k_X10_setGate 10 = some (.ireturn, 11, 0, 0, 0) := by unfold mv_in; rw [tb_X10_setGate]; rfl
theorem nh_X10_setGate : mv_nh k_X10_setGate = true := rfl
theorem tb_X10_setAutomatic : mv_tb k_X10_setAutomatic = t_X10_setAutomatic := rfl
theorem r_X10_setAutomatic_0 : mv_in k_X10_setAutomatic 0 = some (.aload_n 0, 1, 0, 0, 0) := by unfold mv_in; rw [tb_X10_setAutomatic]; rfl
theorem r_X10_setAutomatic_1 : mv_in k_X10_setAutomatic 1 = some (.getstatic 84, 4, 1002, 0, 950) := by unfold mv_in; rw [tb_X10_setAutomatic]; rfl
theorem r_X10_setAutomatic_4 : mv_in k_X10_setAutomatic 4 = some (.iload_n 1, 5, 0, 0, 0) := by unfold mv_in; rw [tb_X10_setAutomatic]; rfl
theorem r_X10_setAutomatic_5 : mv_in k_X10_setAutomatic 5 = some (.iload_n 2, 6, 0, 0, 0) := by unfold mv_in; rw [tb_X10_setAutomatic]; rfl
theorem r_X10_setAutomatic_6 : mv_in k_X10_setAutomatic 6 = some (.iconst 0, 7, 0, 0, 0) := by unfold mv_in; rw [tb_X10_setAutomatic]; rfl
theorem r_X10_setAutomatic_7 : mv_in k_X10_setAutomatic 7 = some (.invokevirtual 77, 10, k_X10_change, 5, 834) := by unfold mv_in; rw [tb_X10_setAutomatic]; rfl
theorem r_X10_setAutomatic_10 : mv_in k_X10_setAutomatic 10 = some (.ireturn, 11, 0, 0, 0) := by unfold mv_in; rw [tb_X10_setAutomatic]; rfl
theorem nh_X10_setAutomatic : mv_nh k_X10_setAutomatic = true := rfl
theorem tb_X10_setManual : mv_tb k_X10_setManual = t_X10_setManual := rfl
theorem r_X10_setManual_0 : mv_in k_X10_setManual 0 = some (.aload_n 0, 1, 0, 0, 0) := by unfold mv_in; rw [tb_X10_setManual]; rfl
theorem r_X10_setManual_1 : mv_in k_X10_setManual 1 = some (.getstatic 87, 4, 1003, 0, 959) := by unfold mv_in; rw [tb_X10_setManual]; rfl
theorem r_X10_setManual_4 : mv_in k_X10_setManual 4 = some (.iload_n 1, 5, 0, 0, 0) := by unfold mv_in; rw [tb_X10_setManual]; rfl
theorem r_X10_setManual_5 : mv_in k_X10_setManual 5 = some (.iconst 0, 6, 0, 0, 0) := by unfold mv_in; rw [tb_X10_setManual]; rfl
theorem r_X10_setManual_6 : mv_in k_X10_setManual 6 = some (.iconst 0, 7, 0, 0, 0) := by unfold mv_in; rw [tb_X10_setManual]; rfl
theorem r_X10_setManual_7 : mv_in k_X10_setManual 7 = some (.invokevirtual 77, 10, k_X10_change, 5, 834) := by unfold mv_in; rw [tb_X10_setManual]; rfl
theorem r_X10_setManual_10 : mv_in k_X10_setManual 10 = some (.ireturn, 11, 0, 0, 0) := by unfold mv_in; rw [tb_X10_setManual]; rfl
theorem nh_X10_setManual : mv_nh k_X10_setManual = true := rfl
theorem tb_X10_addRain : mv_tb k_X10_addRain = t_X10_addRain := rfl
theorem r_X10_addRain_0 : mv_in k_X10_addRain 0 = some (.aload_n 0, 1, 0, 0, 0) := by unfold mv_in; rw [tb_X10_addRain]; rfl
theorem r_X10_addRain_1 : mv_in k_X10_addRain 1 = some (.getstatic 90, 4, 1004, 0, 929) := by unfold mv_in; rw [tb_X10_addRain]; rfl
theorem r_X10_addRain_4 : mv_in k_X10_addRain 4 = some (.iload_n 1, 5, 0, 0, 0) := by unfold mv_in; rw [tb_X10_addRain]; rfl
theorem r_X10_addRain_5 : mv_in k_X10_addRain 5 = some (.iconst 0, 6, 0, 0, 0) := by unfold mv_in; rw [tb_X10_addRain]; rfl
theorem r_X10_addRain_6 : mv_in k_X10_addRain 6 = some (.iconst 0, 7, 0, 0, 0) := by unfold mv_in; rw [tb_X10_addRain]; rfl
theorem r_X10_addRain_7 : mv_in k_X10_addRain 7 = some (.invokevirtual 77, 10, k_X10_change, 5, 834) := by unfold mv_in; rw [tb_X10_addRain]; rfl
theorem r_X10_addRain_10 : mv_in k_X10_addRain 10 = some (.ireturn, 11, 0, 0, 0) := by unfold mv_in; rw [tb_X10_addRain]; rfl
theorem nh_X10_addRain : mv_nh k_X10_addRain = true := rfl
theorem tb_X10_clearForecast : mv_tb k_X10_clearForecast = t_X10_clearForecast := rfl
theorem r_X10_clearForecast_0 : mv_in k_X10_clearForecast 0 = some (.aload_n 0, 1, 0, 0, 0) := by unfold mv_in; rw [tb_X10_clearForecast]; rfl
theorem r_X10_clearForecast_1 : mv_in k_X10_clearForecast 1 = some (.getstatic 93, 4, 1005, 0, 965) := by unfold mv_in; rw [tb_X10_clearForecast]; rfl
theorem r_X10_clearForecast_4 : mv_in k_X10_clearForecast 4 = some (.iconst 0, 5, 0, 0, 0) := by unfold mv_in; rw [tb_X10_clearForecast]; rfl
theorem r_X10_clearForecast_5 : mv_in k_X10_clearForecast 5 = some (.iconst 0, 6, 0, 0, 0) := by unfold mv_in; rw [tb_X10_clearForecast]; rfl
theorem r_X10_clearForecast_6 : mv_in k_X10_clearForecast 6 = some (.iconst 0, 7, 0, 0, 0) := by unfold mv_in; rw [tb_X10_clearForecast]; rfl
theorem r_X10_clearForecast_7 : mv_in k_X10_clearForecast 7 = some (.invokevirtual 77, 10, k_X10_change, 5, 834) := by unfold mv_in; rw [tb_X10_clearForecast]; rfl
theorem r_X10_clearForecast_10 : mv_in k_X10_clearForecast 10 = some (.ireturn, 11, 0, 0, 0) := by unfold mv_in; rw [tb_X10_clearForecast]; rfl
theorem nh_X10_clearForecast : mv_nh k_X10_clearForecast = true := rfl
theorem tb_X10_pour : mv_tb k_X10_pour = t_X10_pour := rfl
theorem r_X10_pour_0 : mv_in k_X10_pour 0 = some (.aload_n 0, 1, 0, 0, 0) := by unfold mv_in; rw [tb_X10_pour]; rfl
theorem r_X10_pour_1 : mv_in k_X10_pour 1 = some (.getstatic 96, 4, 1006, 0, 973) := by unfold mv_in; rw [tb_X10_pour]; rfl
theorem r_X10_pour_4 : mv_in k_X10_pour 4 = some (.iload_n 1, 5, 0, 0, 0) := by unfold mv_in; rw [tb_X10_pour]; rfl
theorem r_X10_pour_5 : mv_in k_X10_pour 5 = some (.iload_n 2, 6, 0, 0, 0) := by unfold mv_in; rw [tb_X10_pour]; rfl
theorem r_X10_pour_6 : mv_in k_X10_pour 6 = some (.iconst 0, 7, 0, 0, 0) := by unfold mv_in; rw [tb_X10_pour]; rfl
theorem r_X10_pour_7 : mv_in k_X10_pour 7 = some (.invokevirtual 77, 10, k_X10_change, 5, 834) := by unfold mv_in; rw [tb_X10_pour]; rfl
theorem r_X10_pour_10 : mv_in k_X10_pour 10 = some (.ireturn, 11, 0, 0, 0) := by unfold mv_in; rw [tb_X10_pour]; rfl
theorem nh_X10_pour : mv_nh k_X10_pour = true := rfl
theorem tb_X10_advance : mv_tb k_X10_advance = t_X10_advance := rfl
theorem r_X10_advance_0 : mv_in k_X10_advance 0 = some (.aload_n 0, 1, 0, 0, 0) := by unfold mv_in; rw [tb_X10_advance]; rfl
theorem r_X10_advance_1 : mv_in k_X10_advance 1 = some (.getstatic 99, 4, 1007, 0, 982) := by unfold mv_in; rw [tb_X10_advance]; rfl
theorem r_X10_advance_4 : mv_in k_X10_advance 4 = some (.iload_n 1, 5, 0, 0, 0) := by unfold mv_in; rw [tb_X10_advance]; rfl
theorem r_X10_advance_5 : mv_in k_X10_advance 5 = some (.iconst 0, 6, 0, 0, 0) := by unfold mv_in; rw [tb_X10_advance]; rfl
theorem r_X10_advance_6 : mv_in k_X10_advance 6 = some (.iconst 0, 7, 0, 0, 0) := by unfold mv_in; rw [tb_X10_advance]; rfl
theorem r_X10_advance_7 : mv_in k_X10_advance 7 = some (.invokevirtual 77, 10, k_X10_change, 5, 834) := by unfold mv_in; rw [tb_X10_advance]; rfl
theorem r_X10_advance_10 : mv_in k_X10_advance 10 = some (.ireturn, 11, 0, 0, 0) := by unfold mv_in; rw [tb_X10_advance]; rfl
theorem nh_X10_advance : mv_nh k_X10_advance = true := rfl
theorem tb_X10_capacity : mv_tb k_X10_capacity = t_X10_capacity := rfl
theorem r_X10_capacity_0 : mv_in k_X10_capacity 0 = some (.aload_n 0, 1, 0, 0, 0) := by unfold mv_in; rw [tb_X10_capacity]; rfl
theorem r_X10_capacity_1 : mv_in k_X10_capacity 1 = some (.iload_n 1, 2, 0, 0, 0) := by unfold mv_in; rw [tb_X10_capacity]; rfl
theorem r_X10_capacity_2 : mv_in k_X10_capacity 2 = some (.invokevirtual 120, 5, k_X10_existingBasin, 2, 330) := by unfold mv_in; rw [tb_X10_capacity]; rfl
theorem r_X10_capacity_5 : mv_in k_X10_capacity 5 = some (.getfield 124, 8, 0, 0, 117) := by unfold mv_in; rw [tb_X10_capacity]; rfl
theorem r_X10_capacity_8 : mv_in k_X10_capacity 8 = some (.ireturn, 9, 0, 0, 0) := by unfold mv_in; rw [tb_X10_capacity]; rfl
theorem nh_X10_capacity : mv_nh k_X10_capacity = true := rfl
theorem tb_X10_level : mv_tb k_X10_level = t_X10_level := rfl
theorem r_X10_level_0 : mv_in k_X10_level 0 = some (.aload_n 0, 1, 0, 0, 0) := by unfold mv_in; rw [tb_X10_level]; rfl
theorem r_X10_level_1 : mv_in k_X10_level 1 = some (.iload_n 1, 2, 0, 0, 0) := by unfold mv_in; rw [tb_X10_level]; rfl
theorem r_X10_level_2 : mv_in k_X10_level 2 = some (.invokevirtual 120, 5, k_X10_existingBasin, 2, 330) := by unfold mv_in; rw [tb_X10_level]; rfl
theorem r_X10_level_5 : mv_in k_X10_level 5 = some (.getfield 129, 8, 0, 3, 124) := by unfold mv_in; rw [tb_X10_level]; rfl
theorem r_X10_level_8 : mv_in k_X10_level 8 = some (.ireturn, 9, 0, 0, 0) := by unfold mv_in; rw [tb_X10_level]; rfl
theorem nh_X10_level : mv_nh k_X10_level = true := rfl
theorem tb_X10_fieldValue : mv_tb k_X10_fieldValue = t_X10_fieldValue := rfl
theorem r_X10_fieldValue_0 : mv_in k_X10_fieldValue 0 = some (.aload_n 0, 1, 0, 0, 0) := by unfold mv_in; rw [tb_X10_fieldValue]; rfl
theorem r_X10_fieldValue_1 : mv_in k_X10_fieldValue 1 = some (.iload_n 1, 2, 0, 0, 0) := by unfold mv_in; rw [tb_X10_fieldValue]; rfl
theorem r_X10_fieldValue_2 : mv_in k_X10_fieldValue 2 = some (.invokevirtual 120, 5, k_X10_existingBasin, 2, 330) := by unfold mv_in; rw [tb_X10_fieldValue]; rfl
theorem r_X10_fieldValue_5 : mv_in k_X10_fieldValue 5 = some (.getfield 135, 8, 0, 2, 121) := by unfold mv_in; rw [tb_X10_fieldValue]; rfl
theorem r_X10_fieldValue_8 : mv_in k_X10_fieldValue 8 = some (.ireturn, 9, 0, 0, 0) := by unfold mv_in; rw [tb_X10_fieldValue]; rfl
theorem nh_X10_fieldValue : mv_nh k_X10_fieldValue = true := rfl
theorem tb_X10_opening : mv_tb k_X10_opening = t_X10_opening := rfl
theorem r_X10_opening_0 : mv_in k_X10_opening 0 = some (.aload_n 0, 1, 0, 0, 0) := by unfold mv_in; rw [tb_X10_opening]; rfl
theorem r_X10_opening_1 : mv_in k_X10_opening 1 = some (.iload_n 1, 2, 0, 0, 0) := by unfold mv_in; rw [tb_X10_opening]; rfl
theorem r_X10_opening_2 : mv_in k_X10_opening 2 = some (.invokevirtual 120, 5, k_X10_existingBasin, 2, 330) := by unfold mv_in; rw [tb_X10_opening]; rfl
theorem r_X10_opening_5 : mv_in k_X10_opening 5 = some (.getfield 138, 8, 0, 4, 127) := by unfold mv_in; rw [tb_X10_opening]; rfl
theorem r_X10_opening_8 : mv_in k_X10_opening 8 = some (.ireturn, 9, 0, 0, 0) := by unfold mv_in; rw [tb_X10_opening]; rfl
theorem nh_X10_opening : mv_nh k_X10_opening = true := rfl
theorem tb_X10_isAutomatic : mv_tb k_X10_isAutomatic = t_X10_isAutomatic := rfl
theorem r_X10_isAutomatic_0 : mv_in k_X10_isAutomatic 0 = some (.aload_n 0, 1, 0, 0, 0) := by unfold mv_in; rw [tb_X10_isAutomatic]; rfl
theorem r_X10_isAutomatic_1 : mv_in k_X10_isAutomatic 1 = some (.iload_n 1, 2, 0, 0, 0) := by unfold mv_in; rw [tb_X10_isAutomatic]; rfl
theorem r_X10_isAutomatic_2 : mv_in k_X10_isAutomatic 2 = some (.invokevirtual 120, 5, k_X10_existingBasin, 2, 330) := by unfold mv_in; rw [tb_X10_isAutomatic]; rfl
theorem r_X10_isAutomatic_5 : mv_in k_X10_isAutomatic 5 = some (.getfield 141, 8, 0, 5, 130) := by unfold mv_in; rw [tb_X10_isAutomatic]; rfl
theorem r_X10_isAutomatic_8 : mv_in k_X10_isAutomatic 8 = some (.ireturn, 9, 1, 0, 0) := by unfold mv_in; rw [tb_X10_isAutomatic]; rfl
theorem nh_X10_isAutomatic : mv_nh k_X10_isAutomatic = true := rfl
theorem tb_X10_spilled : mv_tb k_X10_spilled = t_X10_spilled := rfl
theorem r_X10_spilled_0 : mv_in k_X10_spilled 0 = some (.aload_n 0, 1, 0, 0, 0) := by unfold mv_in; rw [tb_X10_spilled]; rfl
theorem r_X10_spilled_1 : mv_in k_X10_spilled 1 = some (.iload_n 1, 2, 0, 0, 0) := by unfold mv_in; rw [tb_X10_spilled]; rfl
theorem r_X10_spilled_2 : mv_in k_X10_spilled 2 = some (.invokevirtual 120, 5, k_X10_existingBasin, 2, 330) := by unfold mv_in; rw [tb_X10_spilled]; rfl
theorem r_X10_spilled_5 : mv_in k_X10_spilled 5 = some (.getfield 154, 8, 0, 7, 135) := by unfold mv_in; rw [tb_X10_spilled]; rfl
theorem r_X10_spilled_8 : mv_in k_X10_spilled 8 = some (.ireturn, 9, 0, 0, 0) := by unfold mv_in; rw [tb_X10_spilled]; rfl
theorem nh_X10_spilled : mv_nh k_X10_spilled = true := rfl
theorem tb_X10_floodedSteps : mv_tb k_X10_floodedSteps = t_X10_floodedSteps := rfl
theorem r_X10_floodedSteps_0 : mv_in k_X10_floodedSteps 0 = some (.aload_n 0, 1, 0, 0, 0) := by unfold mv_in; rw [tb_X10_floodedSteps]; rfl
theorem r_X10_floodedSteps_1 : mv_in k_X10_floodedSteps 1 = some (.iload_n 1, 2, 0, 0, 0) := by unfold mv_in; rw [tb_X10_floodedSteps]; rfl
theorem r_X10_floodedSteps_2 : mv_in k_X10_floodedSteps 2 = some (.invokevirtual 120, 5, k_X10_existingBasin, 2, 330) := by unfold mv_in; rw [tb_X10_floodedSteps]; rfl
theorem r_X10_floodedSteps_5 : mv_in k_X10_floodedSteps 5 = some (.getfield 157, 8, 0, 8, 138) := by unfold mv_in; rw [tb_X10_floodedSteps]; rfl
theorem r_X10_floodedSteps_8 : mv_in k_X10_floodedSteps 8 = some (.ireturn, 9, 0, 0, 0) := by unfold mv_in; rw [tb_X10_floodedSteps]; rfl
theorem nh_X10_floodedSteps : mv_nh k_X10_floodedSteps = true := rfl
section KV
variable {L : Nat} {xs : Nat → Int32}
theorem kv_X10_change {v0 : Nat} {v1 : Int32} {v2 : Int32} {v3 : Int32} {q nx w : Nat} {ls : mv_V} {st : List Value} {t : Nat} {h : mv_H} : mv_stp L xs (.invokevirtual q, nx, k_X10_change, 5, w) ls (.int v3 :: .int v2 :: .int v1 :: .ref v0 :: .ref 0 :: st) (t, 142, h) = if mv_cs st ≤ 8 then some (.inr (.inr (k_X10_change, [.ref 0, .ref v0, .int v1, .int v2, .int v3], st))) else none := by
  exact cl_any (nx := nx) (ls := ls) (kk := 1) (as := [.ref 0, .ref v0, .int v1, .int v2, .int v3]) (by decide) rfl rfl (.inr ((by decide : mv_is 142 0 7 = true)))
theorem kv_X10_existingBasin {v0 : Int32} {q nx w : Nat} {ls : mv_V} {st : List Value} {t : Nat} {h : mv_H} : mv_stp L xs (.invokevirtual q, nx, k_X10_existingBasin, 2, w) ls (.int v0 :: .ref 0 :: st) (t, 142, h) = if mv_cs st ≤ 8 then some (.inr (.inr (k_X10_existingBasin, [.ref 0, .int v0], st))) else none := by
  exact cl_any (nx := nx) (ls := ls) (kk := 1) (as := [.ref 0, .int v0]) (by decide) rfl rfl (.inr ((by decide : mv_is 142 0 7 = true)))
theorem kv_X10_threshold {v0 : Int32} {q nx w : Nat} {ls : mv_V} {st : List Value} {t : Nat} {h : mv_H} : mv_stp L xs (.invokevirtual q, nx, k_X10_threshold, 2, w) ls (.int v0 :: .ref 0 :: st) (t, 142, h) = if mv_cs st ≤ 8 then some (.inr (.inr (k_X10_threshold, [.ref 0, .int v0], st))) else none := by
  exact cl_any (nx := nx) (ls := ls) (kk := 1) (as := [.ref 0, .int v0]) (by decide) rfl rfl (.inr ((by decide : mv_is 142 0 7 = true)))
theorem kv_X10_basinCount  {q nx w : Nat} {ls : mv_V} {st : List Value} {t : Nat} {h : mv_H} : mv_stp L xs (.invokevirtual q, nx, k_X10_basinCount, 1, w) ls (.ref 0 :: st) (t, 142, h) = if mv_cs st ≤ 8 then some (.inr (.inr (k_X10_basinCount, [.ref 0], st))) else none := by
  exact cl_any (nx := nx) (ls := ls) (kk := 1) (as := [.ref 0]) (by decide) rfl rfl (.inr ((by decide : mv_is 142 0 7 = true)))
theorem kv_X10_time  {q nx w : Nat} {ls : mv_V} {st : List Value} {t : Nat} {h : mv_H} : mv_stp L xs (.invokevirtual q, nx, k_X10_time, 1, w) ls (.ref 0 :: st) (t, 142, h) = if mv_cs st ≤ 8 then some (.inr (.inr (k_X10_time, [.ref 0], st))) else none := by
  exact cl_any (nx := nx) (ls := ls) (kk := 1) (as := [.ref 0]) (by decide) rfl rfl (.inr ((by decide : mv_is 142 0 7 = true)))
theorem kv_X10_forecastLength  {q nx w : Nat} {ls : mv_V} {st : List Value} {t : Nat} {h : mv_H} : mv_stp L xs (.invokevirtual q, nx, k_X10_forecastLength, 1, w) ls (.ref 0 :: st) (t, 142, h) = if mv_cs st ≤ 8 then some (.inr (.inr (k_X10_forecastLength, [.ref 0], st))) else none := by
  exact cl_any (nx := nx) (ls := ls) (kk := 1) (as := [.ref 0]) (by decide) rfl rfl (.inr ((by decide : mv_is 142 0 7 = true)))
theorem kv_X10_rainAt {v0 : Int32} {q nx w : Nat} {ls : mv_V} {st : List Value} {t : Nat} {h : mv_H} : mv_stp L xs (.invokevirtual q, nx, k_X10_rainAt, 2, w) ls (.int v0 :: .ref 0 :: st) (t, 142, h) = if mv_cs st ≤ 8 then some (.inr (.inr (k_X10_rainAt, [.ref 0, .int v0], st))) else none := by
  exact cl_any (nx := nx) (ls := ls) (kk := 1) (as := [.ref 0, .int v0]) (by decide) rfl rfl (.inr ((by decide : mv_is 142 0 7 = true)))
theorem kv_X10_stored  {q nx w : Nat} {ls : mv_V} {st : List Value} {t : Nat} {h : mv_H} : mv_stp L xs (.invokevirtual q, nx, k_X10_stored, 1, w) ls (.ref 0 :: st) (t, 142, h) = if mv_cs st ≤ 8 then some (.inr (.inr (k_X10_stored, [.ref 0], st))) else none := by
  exact cl_any (nx := nx) (ls := ls) (kk := 1) (as := [.ref 0]) (by decide) rfl rfl (.inr ((by decide : mv_is 142 0 7 = true)))
theorem kv_X10_storedByAccounts  {q nx w : Nat} {ls : mv_V} {st : List Value} {t : Nat} {h : mv_H} : mv_stp L xs (.invokevirtual q, nx, k_X10_storedByAccounts, 1, w) ls (.ref 0 :: st) (t, 142, h) = if mv_cs st ≤ 8 then some (.inr (.inr (k_X10_storedByAccounts, [.ref 0], st))) else none := by
  exact cl_any (nx := nx) (ls := ls) (kk := 1) (as := [.ref 0]) (by decide) rfl rfl (.inr ((by decide : mv_is 142 0 7 = true)))
theorem kv_X10_riverTotal  {q nx w : Nat} {ls : mv_V} {st : List Value} {t : Nat} {h : mv_H} : mv_stp L xs (.invokevirtual q, nx, k_X10_riverTotal, 1, w) ls (.ref 0 :: st) (t, 142, h) = if mv_cs st ≤ 8 then some (.inr (.inr (k_X10_riverTotal, [.ref 0], st))) else none := by
  exact cl_any (nx := nx) (ls := ls) (kk := 1) (as := [.ref 0]) (by decide) rfl rfl (.inr ((by decide : mv_is 142 0 7 = true)))
theorem kv_X10_basinAtRank {v0 : Int32} {q nx w : Nat} {ls : mv_V} {st : List Value} {t : Nat} {h : mv_H} : mv_stp L xs (.invokevirtual q, nx, k_X10_basinAtRank, 2, w) ls (.int v0 :: .ref 0 :: st) (t, 142, h) = if mv_cs st ≤ 8 then some (.inr (.inr (k_X10_basinAtRank, [.ref 0, .int v0], st))) else none := by
  exact cl_any (nx := nx) (ls := ls) (kk := 1) (as := [.ref 0, .int v0]) (by decide) rfl rfl (.inr ((by decide : mv_is 142 0 7 = true)))
theorem kv_X10_outputAt {v0 : Int32} {q nx w : Nat} {ls : mv_V} {st : List Value} {t : Nat} {h : mv_H} : mv_stp L xs (.invokevirtual q, nx, k_X10_outputAt, 2, w) ls (.int v0 :: .ref 0 :: st) (t, 142, h) = if mv_cs st ≤ 8 then some (.inr (.inr (k_X10_outputAt, [.ref 0, .int v0], st))) else none := by
  exact cl_any (nx := nx) (ls := ls) (kk := 1) (as := [.ref 0, .int v0]) (by decide) rfl rfl (.inr ((by decide : mv_is 142 0 7 = true)))
theorem kv_X10_addBasin {v0 : Int32} {v1 : Int32} {v2 : Int32} {q nx w : Nat} {ls : mv_V} {st : List Value} {t : Nat} {h : mv_H} : mv_stp L xs (.invokevirtual q, nx, k_X10_addBasin, 4, w) ls (.int v2 :: .int v1 :: .int v0 :: .ref 0 :: st) (t, 142, h) = if mv_cs st ≤ 8 then some (.inr (.inr (k_X10_addBasin, [.ref 0, .int v0, .int v1, .int v2], st))) else none := by
  exact cl_any (nx := nx) (ls := ls) (kk := 1) (as := [.ref 0, .int v0, .int v1, .int v2]) (by decide) rfl rfl (.inr ((by decide : mv_is 142 0 7 = true)))
theorem kv_X10_setGate {v0 : Int32} {v1 : Int32} {q nx w : Nat} {ls : mv_V} {st : List Value} {t : Nat} {h : mv_H} : mv_stp L xs (.invokevirtual q, nx, k_X10_setGate, 3, w) ls (.int v1 :: .int v0 :: .ref 0 :: st) (t, 142, h) = if mv_cs st ≤ 8 then some (.inr (.inr (k_X10_setGate, [.ref 0, .int v0, .int v1], st))) else none := by
  exact cl_any (nx := nx) (ls := ls) (kk := 1) (as := [.ref 0, .int v0, .int v1]) (by decide) rfl rfl (.inr ((by decide : mv_is 142 0 7 = true)))
theorem kv_X10_setAutomatic {v0 : Int32} {v1 : Int32} {q nx w : Nat} {ls : mv_V} {st : List Value} {t : Nat} {h : mv_H} : mv_stp L xs (.invokevirtual q, nx, k_X10_setAutomatic, 3, w) ls (.int v1 :: .int v0 :: .ref 0 :: st) (t, 142, h) = if mv_cs st ≤ 8 then some (.inr (.inr (k_X10_setAutomatic, [.ref 0, .int v0, .int v1], st))) else none := by
  exact cl_any (nx := nx) (ls := ls) (kk := 1) (as := [.ref 0, .int v0, .int v1]) (by decide) rfl rfl (.inr ((by decide : mv_is 142 0 7 = true)))
theorem kv_X10_setManual {v0 : Int32} {q nx w : Nat} {ls : mv_V} {st : List Value} {t : Nat} {h : mv_H} : mv_stp L xs (.invokevirtual q, nx, k_X10_setManual, 2, w) ls (.int v0 :: .ref 0 :: st) (t, 142, h) = if mv_cs st ≤ 8 then some (.inr (.inr (k_X10_setManual, [.ref 0, .int v0], st))) else none := by
  exact cl_any (nx := nx) (ls := ls) (kk := 1) (as := [.ref 0, .int v0]) (by decide) rfl rfl (.inr ((by decide : mv_is 142 0 7 = true)))
theorem kv_X10_addRain {v0 : Int32} {q nx w : Nat} {ls : mv_V} {st : List Value} {t : Nat} {h : mv_H} : mv_stp L xs (.invokevirtual q, nx, k_X10_addRain, 2, w) ls (.int v0 :: .ref 0 :: st) (t, 142, h) = if mv_cs st ≤ 8 then some (.inr (.inr (k_X10_addRain, [.ref 0, .int v0], st))) else none := by
  exact cl_any (nx := nx) (ls := ls) (kk := 1) (as := [.ref 0, .int v0]) (by decide) rfl rfl (.inr ((by decide : mv_is 142 0 7 = true)))
theorem kv_X10_clearForecast  {q nx w : Nat} {ls : mv_V} {st : List Value} {t : Nat} {h : mv_H} : mv_stp L xs (.invokevirtual q, nx, k_X10_clearForecast, 1, w) ls (.ref 0 :: st) (t, 142, h) = if mv_cs st ≤ 8 then some (.inr (.inr (k_X10_clearForecast, [.ref 0], st))) else none := by
  exact cl_any (nx := nx) (ls := ls) (kk := 1) (as := [.ref 0]) (by decide) rfl rfl (.inr ((by decide : mv_is 142 0 7 = true)))
theorem kv_X10_pour {v0 : Int32} {v1 : Int32} {q nx w : Nat} {ls : mv_V} {st : List Value} {t : Nat} {h : mv_H} : mv_stp L xs (.invokevirtual q, nx, k_X10_pour, 3, w) ls (.int v1 :: .int v0 :: .ref 0 :: st) (t, 142, h) = if mv_cs st ≤ 8 then some (.inr (.inr (k_X10_pour, [.ref 0, .int v0, .int v1], st))) else none := by
  exact cl_any (nx := nx) (ls := ls) (kk := 1) (as := [.ref 0, .int v0, .int v1]) (by decide) rfl rfl (.inr ((by decide : mv_is 142 0 7 = true)))
theorem kv_X10_advance {v0 : Int32} {q nx w : Nat} {ls : mv_V} {st : List Value} {t : Nat} {h : mv_H} : mv_stp L xs (.invokevirtual q, nx, k_X10_advance, 2, w) ls (.int v0 :: .ref 0 :: st) (t, 142, h) = if mv_cs st ≤ 8 then some (.inr (.inr (k_X10_advance, [.ref 0, .int v0], st))) else none := by
  exact cl_any (nx := nx) (ls := ls) (kk := 1) (as := [.ref 0, .int v0]) (by decide) rfl rfl (.inr ((by decide : mv_is 142 0 7 = true)))
theorem kv_X10_capacity {v0 : Int32} {q nx w : Nat} {ls : mv_V} {st : List Value} {t : Nat} {h : mv_H} : mv_stp L xs (.invokevirtual q, nx, k_X10_capacity, 2, w) ls (.int v0 :: .ref 0 :: st) (t, 142, h) = if mv_cs st ≤ 8 then some (.inr (.inr (k_X10_capacity, [.ref 0, .int v0], st))) else none := by
  exact cl_any (nx := nx) (ls := ls) (kk := 1) (as := [.ref 0, .int v0]) (by decide) rfl rfl (.inr ((by decide : mv_is 142 0 7 = true)))
theorem kv_X10_level {v0 : Int32} {q nx w : Nat} {ls : mv_V} {st : List Value} {t : Nat} {h : mv_H} : mv_stp L xs (.invokevirtual q, nx, k_X10_level, 2, w) ls (.int v0 :: .ref 0 :: st) (t, 142, h) = if mv_cs st ≤ 8 then some (.inr (.inr (k_X10_level, [.ref 0, .int v0], st))) else none := by
  exact cl_any (nx := nx) (ls := ls) (kk := 1) (as := [.ref 0, .int v0]) (by decide) rfl rfl (.inr ((by decide : mv_is 142 0 7 = true)))
theorem kv_X10_fieldValue {v0 : Int32} {q nx w : Nat} {ls : mv_V} {st : List Value} {t : Nat} {h : mv_H} : mv_stp L xs (.invokevirtual q, nx, k_X10_fieldValue, 2, w) ls (.int v0 :: .ref 0 :: st) (t, 142, h) = if mv_cs st ≤ 8 then some (.inr (.inr (k_X10_fieldValue, [.ref 0, .int v0], st))) else none := by
  exact cl_any (nx := nx) (ls := ls) (kk := 1) (as := [.ref 0, .int v0]) (by decide) rfl rfl (.inr ((by decide : mv_is 142 0 7 = true)))
theorem kv_X10_opening {v0 : Int32} {q nx w : Nat} {ls : mv_V} {st : List Value} {t : Nat} {h : mv_H} : mv_stp L xs (.invokevirtual q, nx, k_X10_opening, 2, w) ls (.int v0 :: .ref 0 :: st) (t, 142, h) = if mv_cs st ≤ 8 then some (.inr (.inr (k_X10_opening, [.ref 0, .int v0], st))) else none := by
  exact cl_any (nx := nx) (ls := ls) (kk := 1) (as := [.ref 0, .int v0]) (by decide) rfl rfl (.inr ((by decide : mv_is 142 0 7 = true)))
theorem kv_X10_isAutomatic {v0 : Int32} {q nx w : Nat} {ls : mv_V} {st : List Value} {t : Nat} {h : mv_H} : mv_stp L xs (.invokevirtual q, nx, k_X10_isAutomatic, 2, w) ls (.int v0 :: .ref 0 :: st) (t, 142, h) = if mv_cs st ≤ 8 then some (.inr (.inr (k_X10_isAutomatic, [.ref 0, .int v0], st))) else none := by
  exact cl_any (nx := nx) (ls := ls) (kk := 1) (as := [.ref 0, .int v0]) (by decide) rfl rfl (.inr ((by decide : mv_is 142 0 7 = true)))
theorem kv_X10_spilled {v0 : Int32} {q nx w : Nat} {ls : mv_V} {st : List Value} {t : Nat} {h : mv_H} : mv_stp L xs (.invokevirtual q, nx, k_X10_spilled, 2, w) ls (.int v0 :: .ref 0 :: st) (t, 142, h) = if mv_cs st ≤ 8 then some (.inr (.inr (k_X10_spilled, [.ref 0, .int v0], st))) else none := by
  exact cl_any (nx := nx) (ls := ls) (kk := 1) (as := [.ref 0, .int v0]) (by decide) rfl rfl (.inr ((by decide : mv_is 142 0 7 = true)))
theorem kv_X10_floodedSteps {v0 : Int32} {q nx w : Nat} {ls : mv_V} {st : List Value} {t : Nat} {h : mv_H} : mv_stp L xs (.invokevirtual q, nx, k_X10_floodedSteps, 2, w) ls (.int v0 :: .ref 0 :: st) (t, 142, h) = if mv_cs st ≤ 8 then some (.inr (.inr (k_X10_floodedSteps, [.ref 0, .int v0], st))) else none := by
  exact cl_any (nx := nx) (ls := ls) (kk := 1) (as := [.ref 0, .int v0]) (by decide) rfl rfl (.inr ((by decide : mv_is 142 0 7 = true)))
end KV
def zE (f : Nat) : Nat := if f = 1011 then 2 else if f = 1012 then 0 else 1
theorem o1_ne {n : Nat} (h : ¬ n = 1) : ¬ o1 = n := fun e => h e.symm
theorem ne_o1 {n : Nat} (h : ¬ n = 1) : ¬ n = o1 := h
section FCE
variable {L : Nat} {xs : Nat → Int32} {d t c e : Nat} {T : zT}
theorem ct_hasBasin (hc : Ch c) (hd : 1 ≤ d) {i : Int} (hW : zWF (T.1 c) 99) (hi1 : -2147483648 ≤ i) (hi2 : i < 2147483648) : mv_cl L xs d k_X2_hasBasin [.ref c, .int (Int32.ofInt i)] (t, 142, mz T) = some (.inl (some (.int (Int32.ofInt (if 0 ≤ i ∧ i < T.1 c 0 then 1 else 0)))), (t, 142, mz T)) := by
  have q := c_X2_hasBasin (L := L) (xs := xs) (t := t) (T := T) (A := T.1 c) (d := d) (i := i) hc hd hW.1 hW.2.1 hi1 hi2
  rw [sD_id] at q
  exact q
theorem ct_faultOf (hc : Ch c) (hd : 4 ≤ d) {k : Nat} (hk : k < 8) {p q r : Int} (hW : zWF (T.1 c) 99) (p1 : -2147483648 ≤ p) (p2 : p < 2147483648) (q1 : -2147483648 ≤ q) (q2 : q < 2147483648) (r1 : -2147483648 ≤ r) (r2 : r < 2147483648) : mv_cl L xs d k_X2_faultOf [.ref c, .ref (1000 + k), .int (Int32.ofInt p), .int (Int32.ofInt q), .int (Int32.ofInt r)] (t, 142, mz T) = some (.inl (some (.ref (zfOf k (T.1 c) p q r))), (t, 142, mz T)) := by
  have h := c_X2_faultOf (L := L) (xs := xs) (t := t) (T := T) (A := T.1 c) (d := d) hc hd hk hW p1 p2 q1 q2 r1 r2
  rw [sD_id] at h
  exact h
theorem ct_carryOut (hc : Ch c) (hd : 5 ≤ d) {k : Nat} (hk : k < 8) {p q r : Int} {A : Int → Int} (eA : T.1 c = A) (hA : zWF A 99) (hf0 : zfOf k A p q r = 1010) : mv_cl L xs d k_X2_carryOut [.ref c, .ref (1000 + k), .int (Int32.ofInt p), .int (Int32.ofInt q), .int (Int32.ofInt r)] (t, 142, mz T) = some (.inl (some (.int (Int32.ofInt (zCv k A p q r)))), (t, 142, mz (sD T c (zCo k A p q r)))) := by
  subst eA
  have h := c_X2_carryOut (L := L) (xs := xs) (t := t) (T := T) (A := T.1 c) (d := d) hc hd hk hA hf0
  rw [sD_id] at h
  exact h
theorem ct_copyFrom (hc : Ch c) (he : Ch e) (hce : ¬ e = c) (hd : 2 ≤ d) {B : Int → Int} (eB : T.1 e = B) (hB : zWF B 99) : mv_cl L xs d k_X2_copyFrom [.ref c, .ref e] (t, 142, mz T) = some (.inl none, (t, 142, mz (sD T c (zCpy B (T.1 c))))) := by
  have h := c_X2_copyFrom (L := L) (xs := xs) (t := t) (T := T) (A := T.1 c) (B := B) (d := d) hc he hce hd hB.1 hB.2.1 hB.2.2.1 hB.2.2.2.1 (fun k h0 h1 => by have := hB.2.2.2.2.1 k h0 h1; unfold zOK at this; omega)
  rw [← eB, sD_id, sD_id, eB] at h
  exact h
theorem c_X10_throwFor_0 (hd : 1 ≤ d) : mv_cl L xs d k_X10_throwFor [.ref 1010] (t, 142, mz T) = some (.inl none, (t, 142, mz T)) := by
  obtain ⟨d, rfl⟩ : ∃ e, d = e + 1 := ⟨d - 1, by omega⟩
  apply mv_cl_of
  simp only [mv_il, Value.category, Nat.zero_add, Nat.reduceAdd]
  simp (disch := omega) only [mv_Ev_row r_X10_throwFor_0, mv_Ev_row r_X10_throwFor_1, mv_Ev_row r_X10_throwFor_4, mv_Ev_row r_X10_throwFor_7, mv_Ev_row r_X10_throwFor_10, mv_Ev_row r_X10_throwFor_11, mv_Ev_row r_X10_throwFor_14, mv_Ev_row r_X10_throwFor_17, mv_Ev_row r_X10_throwFor_18, mv_Ev_row r_X10_throwFor_19, mv_Ev_row r_X10_throwFor_22, mv_Ev_row r_X10_throwFor_25, mv_Ev_row r_X10_throwFor_28, mv_Ev_row r_X10_throwFor_29, mv_Ev_row r_X10_throwFor_32, mv_Ev_row r_X10_throwFor_35, mv_Ev_row r_X10_throwFor_36, mv_Ev_row r_X10_throwFor_37, mv_Ev_row r_X10_throwFor_40, mv_Ev_row r_X10_throwFor_43, mv_Ev_row r_X10_throwFor_46, mv_Ev_row r_X10_throwFor_47, mv_Ev_row r_X10_throwFor_50, mv_Ev_row r_X10_throwFor_53, mv_Ev_row r_X10_throwFor_54, ea_aload_n, ea_static, ez_acmp, ez_thr, ea_dup_i, ea_dup_r, ea_vret, mv_ac, decide_eq_true_eq, not_true_eq_false, and_self, and_true, true_and, ea_2n, ea_2f, ea_2c, ea_if, if_pos, if_neg, mv_lk, mv_f1, mv_f2, Value.category, List.filter, ↓reduceIte, Nat.reduceEqDiff, Nat.reduceAdd, Nat.reduceLT, Nat.reduceBEq, Nat.zero_add, Nat.add_zero, Nat.zero_ne_one, Nat.one_ne_zero, Bool.not_true, Bool.not_false, Bool.and_true, Bool.true_and, Bool.and_false, Bool.false_and, BEq.rfl, beq_self_eq_true, Bool.false_eq_true, reduceCtorEq, not_false_eq_true, fv0, fv1, fv2, fv3, eb_l0, eb_l1, eb_l2, eb_l3, eb_l4, eb_l5, eb_s0, eb_s1, eb_s2, eb_s3, eb_s4, eb_s5, oz_add, oz_sub, oz_mul, oz_neg, ol_add, ol_sub, sD_eq, sD_sD, sD_ne, sD_in, sD_in2, sD_in3, upR_is, upR_ne, mk_v, mk_n, mk_x, mk_i, mv_cs, Nat.reduceLeDiff, mv_ch_z, nh_X10_throwFor, decide_true, decide_false]
theorem c_X10_throwFor (hd : 1 ≤ d) {f : Nat} (h1 : 1011 ≤ f) (h2 : f ≤ 1013) : mv_cl L xs d k_X10_throwFor [.ref f] (t, 142, mz T) = some (.inr (zE f), (t + 1, 142, mz T)) := by
  have h : f = 1011 ∨ f = 1012 ∨ f = 1013 := by omega
  rcases h with rfl | rfl | rfl
  · rw [show zE 1011 = 2 from rfl]
    obtain ⟨d, rfl⟩ : ∃ e, d = e + 1 := ⟨d - 1, by omega⟩
    apply mv_cl_of
    simp only [mv_il, Value.category, Nat.zero_add, Nat.reduceAdd]
    simp (disch := omega) only [mv_Ev_row r_X10_throwFor_0, mv_Ev_row r_X10_throwFor_1, mv_Ev_row r_X10_throwFor_4, mv_Ev_row r_X10_throwFor_7, mv_Ev_row r_X10_throwFor_10, mv_Ev_row r_X10_throwFor_11, mv_Ev_row r_X10_throwFor_14, mv_Ev_row r_X10_throwFor_17, mv_Ev_row r_X10_throwFor_18, mv_Ev_row r_X10_throwFor_19, mv_Ev_row r_X10_throwFor_22, mv_Ev_row r_X10_throwFor_25, mv_Ev_row r_X10_throwFor_28, mv_Ev_row r_X10_throwFor_29, mv_Ev_row r_X10_throwFor_32, mv_Ev_row r_X10_throwFor_35, mv_Ev_row r_X10_throwFor_36, mv_Ev_row r_X10_throwFor_37, mv_Ev_row r_X10_throwFor_40, mv_Ev_row r_X10_throwFor_43, mv_Ev_row r_X10_throwFor_46, mv_Ev_row r_X10_throwFor_47, mv_Ev_row r_X10_throwFor_50, mv_Ev_row r_X10_throwFor_53, mv_Ev_row r_X10_throwFor_54, ea_aload_n, ea_static, ez_acmp, ez_thr, ea_dup_i, ea_dup_r, ea_vret, mv_ac, decide_eq_true_eq, not_true_eq_false, and_self, and_true, true_and, ea_2n, ea_2f, ea_2c, ea_if, if_pos, if_neg, mv_lk, mv_f1, mv_f2, Value.category, List.filter, ↓reduceIte, Nat.reduceEqDiff, Nat.reduceAdd, Nat.reduceLT, Nat.reduceBEq, Nat.zero_add, Nat.add_zero, Nat.zero_ne_one, Nat.one_ne_zero, Bool.not_true, Bool.not_false, Bool.and_true, Bool.true_and, Bool.and_false, Bool.false_and, BEq.rfl, beq_self_eq_true, Bool.false_eq_true, reduceCtorEq, not_false_eq_true, fv0, fv1, fv2, fv3, eb_l0, eb_l1, eb_l2, eb_l3, eb_l4, eb_l5, eb_s0, eb_s1, eb_s2, eb_s3, eb_s4, eb_s5, oz_add, oz_sub, oz_mul, oz_neg, ol_add, ol_sub, sD_eq, sD_sD, sD_ne, sD_in, sD_in2, sD_in3, upR_is, upR_ne, mk_v, mk_n, mk_x, mk_i, mv_cs, Nat.reduceLeDiff, mv_ch_z, nh_X10_throwFor, decide_true, decide_false]
  · rw [show zE 1012 = 0 from rfl]
    obtain ⟨d, rfl⟩ : ∃ e, d = e + 1 := ⟨d - 1, by omega⟩
    apply mv_cl_of
    simp only [mv_il, Value.category, Nat.zero_add, Nat.reduceAdd]
    simp (disch := omega) only [mv_Ev_row r_X10_throwFor_0, mv_Ev_row r_X10_throwFor_1, mv_Ev_row r_X10_throwFor_4, mv_Ev_row r_X10_throwFor_7, mv_Ev_row r_X10_throwFor_10, mv_Ev_row r_X10_throwFor_11, mv_Ev_row r_X10_throwFor_14, mv_Ev_row r_X10_throwFor_17, mv_Ev_row r_X10_throwFor_18, mv_Ev_row r_X10_throwFor_19, mv_Ev_row r_X10_throwFor_22, mv_Ev_row r_X10_throwFor_25, mv_Ev_row r_X10_throwFor_28, mv_Ev_row r_X10_throwFor_29, mv_Ev_row r_X10_throwFor_32, mv_Ev_row r_X10_throwFor_35, mv_Ev_row r_X10_throwFor_36, mv_Ev_row r_X10_throwFor_37, mv_Ev_row r_X10_throwFor_40, mv_Ev_row r_X10_throwFor_43, mv_Ev_row r_X10_throwFor_46, mv_Ev_row r_X10_throwFor_47, mv_Ev_row r_X10_throwFor_50, mv_Ev_row r_X10_throwFor_53, mv_Ev_row r_X10_throwFor_54, ea_aload_n, ea_static, ez_acmp, ez_thr, ea_dup_i, ea_dup_r, ea_vret, mv_ac, decide_eq_true_eq, not_true_eq_false, and_self, and_true, true_and, ea_2n, ea_2f, ea_2c, ea_if, if_pos, if_neg, mv_lk, mv_f1, mv_f2, Value.category, List.filter, ↓reduceIte, Nat.reduceEqDiff, Nat.reduceAdd, Nat.reduceLT, Nat.reduceBEq, Nat.zero_add, Nat.add_zero, Nat.zero_ne_one, Nat.one_ne_zero, Bool.not_true, Bool.not_false, Bool.and_true, Bool.true_and, Bool.and_false, Bool.false_and, BEq.rfl, beq_self_eq_true, Bool.false_eq_true, reduceCtorEq, not_false_eq_true, fv0, fv1, fv2, fv3, eb_l0, eb_l1, eb_l2, eb_l3, eb_l4, eb_l5, eb_s0, eb_s1, eb_s2, eb_s3, eb_s4, eb_s5, oz_add, oz_sub, oz_mul, oz_neg, ol_add, ol_sub, sD_eq, sD_sD, sD_ne, sD_in, sD_in2, sD_in3, upR_is, upR_ne, mk_v, mk_n, mk_x, mk_i, mv_cs, Nat.reduceLeDiff, mv_ch_z, nh_X10_throwFor, decide_true, decide_false]
  · rw [show zE 1013 = 1 from rfl]
    obtain ⟨d, rfl⟩ : ∃ e, d = e + 1 := ⟨d - 1, by omega⟩
    apply mv_cl_of
    simp only [mv_il, Value.category, Nat.zero_add, Nat.reduceAdd]
    simp (disch := omega) only [mv_Ev_row r_X10_throwFor_0, mv_Ev_row r_X10_throwFor_1, mv_Ev_row r_X10_throwFor_4, mv_Ev_row r_X10_throwFor_7, mv_Ev_row r_X10_throwFor_10, mv_Ev_row r_X10_throwFor_11, mv_Ev_row r_X10_throwFor_14, mv_Ev_row r_X10_throwFor_17, mv_Ev_row r_X10_throwFor_18, mv_Ev_row r_X10_throwFor_19, mv_Ev_row r_X10_throwFor_22, mv_Ev_row r_X10_throwFor_25, mv_Ev_row r_X10_throwFor_28, mv_Ev_row r_X10_throwFor_29, mv_Ev_row r_X10_throwFor_32, mv_Ev_row r_X10_throwFor_35, mv_Ev_row r_X10_throwFor_36, mv_Ev_row r_X10_throwFor_37, mv_Ev_row r_X10_throwFor_40, mv_Ev_row r_X10_throwFor_43, mv_Ev_row r_X10_throwFor_46, mv_Ev_row r_X10_throwFor_47, mv_Ev_row r_X10_throwFor_50, mv_Ev_row r_X10_throwFor_53, mv_Ev_row r_X10_throwFor_54, ea_aload_n, ea_static, ez_acmp, ez_thr, ea_dup_i, ea_dup_r, ea_vret, mv_ac, decide_eq_true_eq, not_true_eq_false, and_self, and_true, true_and, ea_2n, ea_2f, ea_2c, ea_if, if_pos, if_neg, mv_lk, mv_f1, mv_f2, Value.category, List.filter, ↓reduceIte, Nat.reduceEqDiff, Nat.reduceAdd, Nat.reduceLT, Nat.reduceBEq, Nat.zero_add, Nat.add_zero, Nat.zero_ne_one, Nat.one_ne_zero, Bool.not_true, Bool.not_false, Bool.and_true, Bool.true_and, Bool.and_false, Bool.false_and, BEq.rfl, beq_self_eq_true, Bool.false_eq_true, reduceCtorEq, not_false_eq_true, fv0, fv1, fv2, fv3, eb_l0, eb_l1, eb_l2, eb_l3, eb_l4, eb_l5, eb_s0, eb_s1, eb_s2, eb_s3, eb_s4, eb_s5, oz_add, oz_sub, oz_mul, oz_neg, ol_add, ol_sub, sD_eq, sD_sD, sD_ne, sD_in, sD_in2, sD_in3, upR_is, upR_ne, mk_v, mk_n, mk_x, mk_i, mv_cs, Nat.reduceLeDiff, mv_ch_z, nh_X10_throwFor, decide_true, decide_false]
def zRm (T : zT) : zT := sD (sD T (35 + 8 * (T.1 33 1).toNat) (zCpy (T.1 o1) (T.1 (35 + 8 * (T.1 33 1).toNat)))) 33 (upR (upR (T.1 33) 1 ((T.1 33 1 + 1) % 8)) 2 (min (T.1 33 2 + 1) 8))
def zHis (T : zT) : Prop := 0 ≤ T.1 33 1 ∧ T.1 33 1 < 8 ∧ 0 ≤ T.1 33 2 ∧ T.1 33 2 ≤ 8
theorem zRm_o1 (T : zT) : (zRm T).1 o1 = T.1 o1 := by
  unfold zRm
  rw [sD_ne _ _ (by decide), sD_ne _ _ (fun h => by have h : 1 = 35 + 8 * (T.1 33 1).toNat := h; omega)]
theorem c_X10_change (hd : 6 ≤ d) {k : Nat} (hk : k < 8) {p q r : Int} (hW : zWF (T.1 o1) 99) (hH : zHis T) (p1 : -2147483648 ≤ p) (p2 : p < 2147483648) (q1 : -2147483648 ≤ q) (q2 : q < 2147483648) (r1 : -2147483648 ≤ r) (r2 : r < 2147483648) : mv_cl L xs d k_X10_change [.ref 0, .ref (1000 + k), .int (Int32.ofInt p), .int (Int32.ofInt q), .int (Int32.ofInt r)] (t, 142, mz T) = some (if zfOf k (T.1 o1) p q r = 1010 then (.inl (some (.int (Int32.ofInt (zCv k (T.1 o1) p q r)))), (t, 142, mz (sD (zRm T) o1 (zCo k (T.1 o1) p q r)))) else (.inr (zE (zfOf k (T.1 o1) p q r)), (t + 1, 142, mz T))) := by
  obtain ⟨n0, n8, c0, c8⟩ := hH
  have hf := zfOf_bd k (T.1 o1) p q r
  have e1 := ct_faultOf (L := L) (xs := xs) (t := t) (T := T) (d := d - 1) Ch.o1 (by omega) hk hW p1 p2 q1 q2 r1 r2
  have e2 := c_X10_throwFor_0 (L := L) (xs := xs) (t := t) (T := T) (d := d - 1) (by omega)
  have e3 := c_X5_remember (L := L) (xs := xs) (t := t) (T := T) (d := d - 1) (e := o1) (F := T.1 33) (B := T.1 o1) (j := (T.1 33 1).toNat) Ch.o1 (by decide) (by omega) (by omega) (by omega) c0 c8 hW.1 hW.2.1 hW.2.2.1 hW.2.2.2.1 (fun k h0 h1 => by have := hW.2.2.2.2.1 k h0 h1; unfold zOK at this; omega) rfl rfl
  have e4 := c_X10_throwFor (L := L) (xs := xs) (t := t) (T := T) (d := d - 1) (f := zfOf k (T.1 o1) p q r) (by omega)
  by_cases h : zfOf k (T.1 o1) p q r = 1010
  · rw [if_pos h]
    have e5 := ct_carryOut (L := L) (xs := xs) (t := t) (T := zRm T) (d := d - 1) Ch.o1 (by omega) hk (zRm_o1 T) hW h
    rw [h] at e1
    unfold zRm at e5 ⊢
    obtain ⟨d, rfl⟩ : ∃ e, d = e + 1 := ⟨d - 1, by omega⟩
    apply mv_cl_of
    simp only [mv_il, Value.category, Nat.zero_add, Nat.reduceAdd]
    simp only [Nat.add_sub_cancel] at e1 e2 e3 e5
    simp (disch := omega) only [mv_Ev_row r_X10_change_0, mv_Ev_row r_X10_change_1, mv_Ev_row r_X10_change_4, mv_Ev_row r_X10_change_5, mv_Ev_row r_X10_change_6, mv_Ev_row r_X10_change_7, mv_Ev_row r_X10_change_9, mv_Ev_row r_X10_change_12, mv_Ev_row r_X10_change_15, mv_Ev_row r_X10_change_16, mv_Ev_row r_X10_change_19, mv_Ev_row r_X10_change_20, mv_Ev_row r_X10_change_23, mv_Ev_row r_X10_change_26, mv_Ev_row r_X10_change_27, mv_Ev_row r_X10_change_30, mv_Ev_row r_X10_change_31, mv_Ev_row r_X10_change_32, mv_Ev_row r_X10_change_33, mv_Ev_row r_X10_change_35, mv_Ev_row r_X10_change_38, ea_aload_n, ea_iload_n, ea_iload, kv_X2_faultOf Ch.o1, kv_X10_throwFor, gg_7_4, kv_X5_remember, kv_X2_carryOut Ch.o1, ea_ireturn, ez_ret, ez_retc, mv_ac, decide_eq_true_eq, not_true_eq_false, and_self, and_true, true_and, ea_2n, ea_2f, ea_2c, ea_if, if_pos, if_neg, mv_lk, mv_f1, mv_f2, Value.category, List.filter, ↓reduceIte, Nat.reduceEqDiff, Nat.reduceAdd, Nat.reduceLT, Nat.reduceBEq, Nat.zero_add, Nat.add_zero, Nat.zero_ne_one, Nat.one_ne_zero, Bool.not_true, Bool.not_false, Bool.and_true, Bool.true_and, Bool.and_false, Bool.false_and, BEq.rfl, beq_self_eq_true, Bool.false_eq_true, reduceCtorEq, not_false_eq_true, fv0, fv1, fv2, fv3, eb_l0, eb_l1, eb_l2, eb_l3, eb_l4, eb_l5, eb_s0, eb_s1, eb_s2, eb_s3, eb_s4, eb_s5, oz_add, oz_sub, oz_mul, oz_neg, ol_add, ol_sub, sD_eq, sD_sD, sD_ne, sD_in, sD_in2, sD_in3, upR_is, upR_ne, mk_v, mk_n, mk_x, mk_i, mv_cs, Nat.reduceLeDiff, mv_ch_z, nh_X10_change, g7_0, e1, e2, e3, e5]
  · rw [if_neg h]
    have e4 := e4 (by omega) (by omega)
    obtain ⟨d, rfl⟩ : ∃ e, d = e + 1 := ⟨d - 1, by omega⟩
    apply mv_cl_of
    simp only [mv_il, Value.category, Nat.zero_add, Nat.reduceAdd]
    simp only [Nat.add_sub_cancel] at e1 e4
    simp (disch := omega) only [mv_Ev_row r_X10_change_0, mv_Ev_row r_X10_change_1, mv_Ev_row r_X10_change_4, mv_Ev_row r_X10_change_5, mv_Ev_row r_X10_change_6, mv_Ev_row r_X10_change_7, mv_Ev_row r_X10_change_9, mv_Ev_row r_X10_change_12, mv_Ev_row r_X10_change_15, mv_Ev_row r_X10_change_16, mv_Ev_row r_X10_change_19, mv_Ev_row r_X10_change_20, mv_Ev_row r_X10_change_23, mv_Ev_row r_X10_change_26, mv_Ev_row r_X10_change_27, mv_Ev_row r_X10_change_30, mv_Ev_row r_X10_change_31, mv_Ev_row r_X10_change_32, mv_Ev_row r_X10_change_33, mv_Ev_row r_X10_change_35, mv_Ev_row r_X10_change_38, ea_aload_n, ea_iload_n, ea_iload, kv_X2_faultOf Ch.o1, kv_X10_throwFor, gg_7_4, kv_X5_remember, kv_X2_carryOut Ch.o1, ea_ireturn, ez_ret, ez_retc, mv_ac, decide_eq_true_eq, not_true_eq_false, and_self, and_true, true_and, ea_2n, ea_2f, ea_2c, ea_if, if_pos, if_neg, mv_lk, mv_f1, mv_f2, Value.category, List.filter, ↓reduceIte, Nat.reduceEqDiff, Nat.reduceAdd, Nat.reduceLT, Nat.reduceBEq, Nat.zero_add, Nat.add_zero, Nat.zero_ne_one, Nat.one_ne_zero, Bool.not_true, Bool.not_false, Bool.and_true, Bool.true_and, Bool.and_false, Bool.false_and, BEq.rfl, beq_self_eq_true, Bool.false_eq_true, reduceCtorEq, not_false_eq_true, fv0, fv1, fv2, fv3, eb_l0, eb_l1, eb_l2, eb_l3, eb_l4, eb_l5, eb_s0, eb_s1, eb_s2, eb_s3, eb_s4, eb_s5, oz_add, oz_sub, oz_mul, oz_neg, ol_add, ol_sub, sD_eq, sD_sD, sD_ne, sD_in, sD_in2, sD_in3, upR_is, upR_ne, mk_v, mk_n, mk_x, mk_i, mv_cs, Nat.reduceLeDiff, mv_ch_z, nh_X10_change, g7_0, e1, e4]
theorem c_X10_addBasin (hd : 7 ≤ d) {p q r : Int} (hW : zWF (T.1 o1) 99) (hH : zHis T) (p1 : -2147483648 ≤ p) (p2 : p < 2147483648) (q1 : -2147483648 ≤ q) (q2 : q < 2147483648) (r1 : -2147483648 ≤ r) (r2 : r < 2147483648) : mv_cl L xs d k_X10_addBasin [.ref 0, .int (Int32.ofInt p), .int (Int32.ofInt q), .int (Int32.ofInt r)] (t, 142, mz T) = some (if zfOf 0 (T.1 o1) p q r = 1010 then (.inl (some (.int (Int32.ofInt (zCv 0 (T.1 o1) p q r)))), (t, 142, mz (sD (zRm T) o1 (zCo 0 (T.1 o1) p q r)))) else (.inr (zE (zfOf 0 (T.1 o1) p q r)), (t + 1, 142, mz T))) := by
  have e1 := c_X10_change (L := L) (xs := xs) (t := t) (T := T) (d := d - 1) (k := 0) (p := p) (q := q) (r := r) (by omega) (by omega) hW hH p1 p2 q1 q2 r1 r2
  by_cases h : zfOf 0 (T.1 o1) p q r = 1010
  · rw [if_pos h] at e1 ⊢
    obtain ⟨d, rfl⟩ : ∃ e, d = e + 1 := ⟨d - 1, by omega⟩
    apply mv_cl_of
    simp only [mv_il, Value.category, Nat.zero_add, Nat.reduceAdd]
    simp only [Nat.add_sub_cancel, Nat.reduceAdd] at e1
    simp (disch := omega) only [mv_Ev_row r_X10_addBasin_0, mv_Ev_row r_X10_addBasin_1, mv_Ev_row r_X10_addBasin_4, mv_Ev_row r_X10_addBasin_5, mv_Ev_row r_X10_addBasin_6, mv_Ev_row r_X10_addBasin_7, mv_Ev_row r_X10_addBasin_10, ea_aload_n, ea_static, ea_iload_n, kv_X10_change, ea_ireturn, ez_ret, ez_retc, mv_ac, decide_eq_true_eq, not_true_eq_false, and_self, and_true, true_and, ea_2n, ea_2f, ea_2c, ea_if, if_pos, if_neg, mv_lk, mv_f1, mv_f2, Value.category, List.filter, ↓reduceIte, Nat.reduceEqDiff, Nat.reduceAdd, Nat.reduceLT, Nat.reduceBEq, Nat.zero_add, Nat.add_zero, Nat.zero_ne_one, Nat.one_ne_zero, Bool.not_true, Bool.not_false, Bool.and_true, Bool.true_and, Bool.and_false, Bool.false_and, BEq.rfl, beq_self_eq_true, Bool.false_eq_true, reduceCtorEq, not_false_eq_true, fv0, fv1, fv2, fv3, eb_l0, eb_l1, eb_l2, eb_l3, eb_l4, eb_l5, eb_s0, eb_s1, eb_s2, eb_s3, eb_s4, eb_s5, oz_add, oz_sub, oz_mul, oz_neg, ol_add, ol_sub, sD_eq, sD_sD, sD_ne, sD_in, sD_in2, sD_in3, upR_is, upR_ne, mk_v, mk_n, mk_x, mk_i, mv_cs, Nat.reduceLeDiff, mv_ch_z, nh_X10_addBasin, e1]
  · rw [if_neg h] at e1 ⊢
    obtain ⟨d, rfl⟩ : ∃ e, d = e + 1 := ⟨d - 1, by omega⟩
    apply mv_cl_of
    simp only [mv_il, Value.category, Nat.zero_add, Nat.reduceAdd]
    simp only [Nat.add_sub_cancel, Nat.reduceAdd] at e1
    simp (disch := omega) only [mv_Ev_row r_X10_addBasin_0, mv_Ev_row r_X10_addBasin_1, mv_Ev_row r_X10_addBasin_4, mv_Ev_row r_X10_addBasin_5, mv_Ev_row r_X10_addBasin_6, mv_Ev_row r_X10_addBasin_7, mv_Ev_row r_X10_addBasin_10, ea_aload_n, ea_static, ea_iload_n, kv_X10_change, ea_ireturn, ez_ret, ez_retc, mv_ac, decide_eq_true_eq, not_true_eq_false, and_self, and_true, true_and, ea_2n, ea_2f, ea_2c, ea_if, if_pos, if_neg, mv_lk, mv_f1, mv_f2, Value.category, List.filter, ↓reduceIte, Nat.reduceEqDiff, Nat.reduceAdd, Nat.reduceLT, Nat.reduceBEq, Nat.zero_add, Nat.add_zero, Nat.zero_ne_one, Nat.one_ne_zero, Bool.not_true, Bool.not_false, Bool.and_true, Bool.true_and, Bool.and_false, Bool.false_and, BEq.rfl, beq_self_eq_true, Bool.false_eq_true, reduceCtorEq, not_false_eq_true, fv0, fv1, fv2, fv3, eb_l0, eb_l1, eb_l2, eb_l3, eb_l4, eb_l5, eb_s0, eb_s1, eb_s2, eb_s3, eb_s4, eb_s5, oz_add, oz_sub, oz_mul, oz_neg, ol_add, ol_sub, sD_eq, sD_sD, sD_ne, sD_in, sD_in2, sD_in3, upR_is, upR_ne, mk_v, mk_n, mk_x, mk_i, mv_cs, Nat.reduceLeDiff, mv_ch_z, nh_X10_addBasin, e1]
theorem c_X10_setGate (hd : 7 ≤ d) {p q : Int} (hW : zWF (T.1 o1) 99) (hH : zHis T) (p1 : -2147483648 ≤ p) (p2 : p < 2147483648) (q1 : -2147483648 ≤ q) (q2 : q < 2147483648) : mv_cl L xs d k_X10_setGate [.ref 0, .int (Int32.ofInt p), .int (Int32.ofInt q)] (t, 142, mz T) = some (if zfOf 1 (T.1 o1) p q 0 = 1010 then (.inl (some (.int (Int32.ofInt (zCv 1 (T.1 o1) p q 0)))), (t, 142, mz (sD (zRm T) o1 (zCo 1 (T.1 o1) p q 0)))) else (.inr (zE (zfOf 1 (T.1 o1) p q 0)), (t + 1, 142, mz T))) := by
  have e1 := c_X10_change (L := L) (xs := xs) (t := t) (T := T) (d := d - 1) (k := 1) (p := p) (q := q) (r := 0) (by omega) (by omega) hW hH p1 p2 q1 q2 (by omega) (by omega)
  by_cases h : zfOf 1 (T.1 o1) p q 0 = 1010
  · rw [if_pos h] at e1 ⊢
    obtain ⟨d, rfl⟩ : ∃ e, d = e + 1 := ⟨d - 1, by omega⟩
    apply mv_cl_of
    simp only [mv_il, Value.category, Nat.zero_add, Nat.reduceAdd]
    simp only [Nat.add_sub_cancel, Nat.reduceAdd] at e1
    simp (disch := omega) only [mv_Ev_row r_X10_setGate_0, mv_Ev_row r_X10_setGate_1, mv_Ev_row r_X10_setGate_4, mv_Ev_row r_X10_setGate_5, mv_Ev_row r_X10_setGate_6, mv_Ev_row r_X10_setGate_7, mv_Ev_row r_X10_setGate_10, ea_aload_n, ea_static, ea_iload_n, ea_iconst, kv_X10_change, ea_ireturn, ez_ret, ez_retc, mv_ac, decide_eq_true_eq, not_true_eq_false, and_self, and_true, true_and, ea_2n, ea_2f, ea_2c, ea_if, if_pos, if_neg, mv_lk, mv_f1, mv_f2, Value.category, List.filter, ↓reduceIte, Nat.reduceEqDiff, Nat.reduceAdd, Nat.reduceLT, Nat.reduceBEq, Nat.zero_add, Nat.add_zero, Nat.zero_ne_one, Nat.one_ne_zero, Bool.not_true, Bool.not_false, Bool.and_true, Bool.true_and, Bool.and_false, Bool.false_and, BEq.rfl, beq_self_eq_true, Bool.false_eq_true, reduceCtorEq, not_false_eq_true, fv0, fv1, fv2, fv3, eb_l0, eb_l1, eb_l2, eb_l3, eb_l4, eb_l5, eb_s0, eb_s1, eb_s2, eb_s3, eb_s4, eb_s5, oz_add, oz_sub, oz_mul, oz_neg, ol_add, ol_sub, sD_eq, sD_sD, sD_ne, sD_in, sD_in2, sD_in3, upR_is, upR_ne, mk_v, mk_n, mk_x, mk_i, mv_cs, Nat.reduceLeDiff, mv_ch_z, nh_X10_setGate, e1]
  · rw [if_neg h] at e1 ⊢
    obtain ⟨d, rfl⟩ : ∃ e, d = e + 1 := ⟨d - 1, by omega⟩
    apply mv_cl_of
    simp only [mv_il, Value.category, Nat.zero_add, Nat.reduceAdd]
    simp only [Nat.add_sub_cancel, Nat.reduceAdd] at e1
    simp (disch := omega) only [mv_Ev_row r_X10_setGate_0, mv_Ev_row r_X10_setGate_1, mv_Ev_row r_X10_setGate_4, mv_Ev_row r_X10_setGate_5, mv_Ev_row r_X10_setGate_6, mv_Ev_row r_X10_setGate_7, mv_Ev_row r_X10_setGate_10, ea_aload_n, ea_static, ea_iload_n, ea_iconst, kv_X10_change, ea_ireturn, ez_ret, ez_retc, mv_ac, decide_eq_true_eq, not_true_eq_false, and_self, and_true, true_and, ea_2n, ea_2f, ea_2c, ea_if, if_pos, if_neg, mv_lk, mv_f1, mv_f2, Value.category, List.filter, ↓reduceIte, Nat.reduceEqDiff, Nat.reduceAdd, Nat.reduceLT, Nat.reduceBEq, Nat.zero_add, Nat.add_zero, Nat.zero_ne_one, Nat.one_ne_zero, Bool.not_true, Bool.not_false, Bool.and_true, Bool.true_and, Bool.and_false, Bool.false_and, BEq.rfl, beq_self_eq_true, Bool.false_eq_true, reduceCtorEq, not_false_eq_true, fv0, fv1, fv2, fv3, eb_l0, eb_l1, eb_l2, eb_l3, eb_l4, eb_l5, eb_s0, eb_s1, eb_s2, eb_s3, eb_s4, eb_s5, oz_add, oz_sub, oz_mul, oz_neg, ol_add, ol_sub, sD_eq, sD_sD, sD_ne, sD_in, sD_in2, sD_in3, upR_is, upR_ne, mk_v, mk_n, mk_x, mk_i, mv_cs, Nat.reduceLeDiff, mv_ch_z, nh_X10_setGate, e1]
theorem c_X10_setAutomatic (hd : 7 ≤ d) {p q : Int} (hW : zWF (T.1 o1) 99) (hH : zHis T) (p1 : -2147483648 ≤ p) (p2 : p < 2147483648) (q1 : -2147483648 ≤ q) (q2 : q < 2147483648) : mv_cl L xs d k_X10_setAutomatic [.ref 0, .int (Int32.ofInt p), .int (Int32.ofInt q)] (t, 142, mz T) = some (if zfOf 2 (T.1 o1) p q 0 = 1010 then (.inl (some (.int (Int32.ofInt (zCv 2 (T.1 o1) p q 0)))), (t, 142, mz (sD (zRm T) o1 (zCo 2 (T.1 o1) p q 0)))) else (.inr (zE (zfOf 2 (T.1 o1) p q 0)), (t + 1, 142, mz T))) := by
  have e1 := c_X10_change (L := L) (xs := xs) (t := t) (T := T) (d := d - 1) (k := 2) (p := p) (q := q) (r := 0) (by omega) (by omega) hW hH p1 p2 q1 q2 (by omega) (by omega)
  by_cases h : zfOf 2 (T.1 o1) p q 0 = 1010
  · rw [if_pos h] at e1 ⊢
    obtain ⟨d, rfl⟩ : ∃ e, d = e + 1 := ⟨d - 1, by omega⟩
    apply mv_cl_of
    simp only [mv_il, Value.category, Nat.zero_add, Nat.reduceAdd]
    simp only [Nat.add_sub_cancel, Nat.reduceAdd] at e1
    simp (disch := omega) only [mv_Ev_row r_X10_setAutomatic_0, mv_Ev_row r_X10_setAutomatic_1, mv_Ev_row r_X10_setAutomatic_4, mv_Ev_row r_X10_setAutomatic_5, mv_Ev_row r_X10_setAutomatic_6, mv_Ev_row r_X10_setAutomatic_7, mv_Ev_row r_X10_setAutomatic_10, ea_aload_n, ea_static, ea_iload_n, ea_iconst, kv_X10_change, ea_ireturn, ez_ret, ez_retc, mv_ac, decide_eq_true_eq, not_true_eq_false, and_self, and_true, true_and, ea_2n, ea_2f, ea_2c, ea_if, if_pos, if_neg, mv_lk, mv_f1, mv_f2, Value.category, List.filter, ↓reduceIte, Nat.reduceEqDiff, Nat.reduceAdd, Nat.reduceLT, Nat.reduceBEq, Nat.zero_add, Nat.add_zero, Nat.zero_ne_one, Nat.one_ne_zero, Bool.not_true, Bool.not_false, Bool.and_true, Bool.true_and, Bool.and_false, Bool.false_and, BEq.rfl, beq_self_eq_true, Bool.false_eq_true, reduceCtorEq, not_false_eq_true, fv0, fv1, fv2, fv3, eb_l0, eb_l1, eb_l2, eb_l3, eb_l4, eb_l5, eb_s0, eb_s1, eb_s2, eb_s3, eb_s4, eb_s5, oz_add, oz_sub, oz_mul, oz_neg, ol_add, ol_sub, sD_eq, sD_sD, sD_ne, sD_in, sD_in2, sD_in3, upR_is, upR_ne, mk_v, mk_n, mk_x, mk_i, mv_cs, Nat.reduceLeDiff, mv_ch_z, nh_X10_setAutomatic, e1]
  · rw [if_neg h] at e1 ⊢
    obtain ⟨d, rfl⟩ : ∃ e, d = e + 1 := ⟨d - 1, by omega⟩
    apply mv_cl_of
    simp only [mv_il, Value.category, Nat.zero_add, Nat.reduceAdd]
    simp only [Nat.add_sub_cancel, Nat.reduceAdd] at e1
    simp (disch := omega) only [mv_Ev_row r_X10_setAutomatic_0, mv_Ev_row r_X10_setAutomatic_1, mv_Ev_row r_X10_setAutomatic_4, mv_Ev_row r_X10_setAutomatic_5, mv_Ev_row r_X10_setAutomatic_6, mv_Ev_row r_X10_setAutomatic_7, mv_Ev_row r_X10_setAutomatic_10, ea_aload_n, ea_static, ea_iload_n, ea_iconst, kv_X10_change, ea_ireturn, ez_ret, ez_retc, mv_ac, decide_eq_true_eq, not_true_eq_false, and_self, and_true, true_and, ea_2n, ea_2f, ea_2c, ea_if, if_pos, if_neg, mv_lk, mv_f1, mv_f2, Value.category, List.filter, ↓reduceIte, Nat.reduceEqDiff, Nat.reduceAdd, Nat.reduceLT, Nat.reduceBEq, Nat.zero_add, Nat.add_zero, Nat.zero_ne_one, Nat.one_ne_zero, Bool.not_true, Bool.not_false, Bool.and_true, Bool.true_and, Bool.and_false, Bool.false_and, BEq.rfl, beq_self_eq_true, Bool.false_eq_true, reduceCtorEq, not_false_eq_true, fv0, fv1, fv2, fv3, eb_l0, eb_l1, eb_l2, eb_l3, eb_l4, eb_l5, eb_s0, eb_s1, eb_s2, eb_s3, eb_s4, eb_s5, oz_add, oz_sub, oz_mul, oz_neg, ol_add, ol_sub, sD_eq, sD_sD, sD_ne, sD_in, sD_in2, sD_in3, upR_is, upR_ne, mk_v, mk_n, mk_x, mk_i, mv_cs, Nat.reduceLeDiff, mv_ch_z, nh_X10_setAutomatic, e1]
theorem c_X10_setManual (hd : 7 ≤ d) {p : Int} (hW : zWF (T.1 o1) 99) (hH : zHis T) (p1 : -2147483648 ≤ p) (p2 : p < 2147483648) : mv_cl L xs d k_X10_setManual [.ref 0, .int (Int32.ofInt p)] (t, 142, mz T) = some (if zfOf 3 (T.1 o1) p 0 0 = 1010 then (.inl (some (.int (Int32.ofInt (zCv 3 (T.1 o1) p 0 0)))), (t, 142, mz (sD (zRm T) o1 (zCo 3 (T.1 o1) p 0 0)))) else (.inr (zE (zfOf 3 (T.1 o1) p 0 0)), (t + 1, 142, mz T))) := by
  have e1 := c_X10_change (L := L) (xs := xs) (t := t) (T := T) (d := d - 1) (k := 3) (p := p) (q := 0) (r := 0) (by omega) (by omega) hW hH p1 p2 (by omega) (by omega) (by omega) (by omega)
  by_cases h : zfOf 3 (T.1 o1) p 0 0 = 1010
  · rw [if_pos h] at e1 ⊢
    obtain ⟨d, rfl⟩ : ∃ e, d = e + 1 := ⟨d - 1, by omega⟩
    apply mv_cl_of
    simp only [mv_il, Value.category, Nat.zero_add, Nat.reduceAdd]
    simp only [Nat.add_sub_cancel, Nat.reduceAdd] at e1
    simp (disch := omega) only [mv_Ev_row r_X10_setManual_0, mv_Ev_row r_X10_setManual_1, mv_Ev_row r_X10_setManual_4, mv_Ev_row r_X10_setManual_5, mv_Ev_row r_X10_setManual_6, mv_Ev_row r_X10_setManual_7, mv_Ev_row r_X10_setManual_10, ea_aload_n, ea_static, ea_iload_n, ea_iconst, kv_X10_change, ea_ireturn, ez_ret, ez_retc, mv_ac, decide_eq_true_eq, not_true_eq_false, and_self, and_true, true_and, ea_2n, ea_2f, ea_2c, ea_if, if_pos, if_neg, mv_lk, mv_f1, mv_f2, Value.category, List.filter, ↓reduceIte, Nat.reduceEqDiff, Nat.reduceAdd, Nat.reduceLT, Nat.reduceBEq, Nat.zero_add, Nat.add_zero, Nat.zero_ne_one, Nat.one_ne_zero, Bool.not_true, Bool.not_false, Bool.and_true, Bool.true_and, Bool.and_false, Bool.false_and, BEq.rfl, beq_self_eq_true, Bool.false_eq_true, reduceCtorEq, not_false_eq_true, fv0, fv1, fv2, fv3, eb_l0, eb_l1, eb_l2, eb_l3, eb_l4, eb_l5, eb_s0, eb_s1, eb_s2, eb_s3, eb_s4, eb_s5, oz_add, oz_sub, oz_mul, oz_neg, ol_add, ol_sub, sD_eq, sD_sD, sD_ne, sD_in, sD_in2, sD_in3, upR_is, upR_ne, mk_v, mk_n, mk_x, mk_i, mv_cs, Nat.reduceLeDiff, mv_ch_z, nh_X10_setManual, e1]
  · rw [if_neg h] at e1 ⊢
    obtain ⟨d, rfl⟩ : ∃ e, d = e + 1 := ⟨d - 1, by omega⟩
    apply mv_cl_of
    simp only [mv_il, Value.category, Nat.zero_add, Nat.reduceAdd]
    simp only [Nat.add_sub_cancel, Nat.reduceAdd] at e1
    simp (disch := omega) only [mv_Ev_row r_X10_setManual_0, mv_Ev_row r_X10_setManual_1, mv_Ev_row r_X10_setManual_4, mv_Ev_row r_X10_setManual_5, mv_Ev_row r_X10_setManual_6, mv_Ev_row r_X10_setManual_7, mv_Ev_row r_X10_setManual_10, ea_aload_n, ea_static, ea_iload_n, ea_iconst, kv_X10_change, ea_ireturn, ez_ret, ez_retc, mv_ac, decide_eq_true_eq, not_true_eq_false, and_self, and_true, true_and, ea_2n, ea_2f, ea_2c, ea_if, if_pos, if_neg, mv_lk, mv_f1, mv_f2, Value.category, List.filter, ↓reduceIte, Nat.reduceEqDiff, Nat.reduceAdd, Nat.reduceLT, Nat.reduceBEq, Nat.zero_add, Nat.add_zero, Nat.zero_ne_one, Nat.one_ne_zero, Bool.not_true, Bool.not_false, Bool.and_true, Bool.true_and, Bool.and_false, Bool.false_and, BEq.rfl, beq_self_eq_true, Bool.false_eq_true, reduceCtorEq, not_false_eq_true, fv0, fv1, fv2, fv3, eb_l0, eb_l1, eb_l2, eb_l3, eb_l4, eb_l5, eb_s0, eb_s1, eb_s2, eb_s3, eb_s4, eb_s5, oz_add, oz_sub, oz_mul, oz_neg, ol_add, ol_sub, sD_eq, sD_sD, sD_ne, sD_in, sD_in2, sD_in3, upR_is, upR_ne, mk_v, mk_n, mk_x, mk_i, mv_cs, Nat.reduceLeDiff, mv_ch_z, nh_X10_setManual, e1]
theorem c_X10_addRain (hd : 7 ≤ d) {p : Int} (hW : zWF (T.1 o1) 99) (hH : zHis T) (p1 : -2147483648 ≤ p) (p2 : p < 2147483648) : mv_cl L xs d k_X10_addRain [.ref 0, .int (Int32.ofInt p)] (t, 142, mz T) = some (if zfOf 4 (T.1 o1) p 0 0 = 1010 then (.inl (some (.int (Int32.ofInt (zCv 4 (T.1 o1) p 0 0)))), (t, 142, mz (sD (zRm T) o1 (zCo 4 (T.1 o1) p 0 0)))) else (.inr (zE (zfOf 4 (T.1 o1) p 0 0)), (t + 1, 142, mz T))) := by
  have e1 := c_X10_change (L := L) (xs := xs) (t := t) (T := T) (d := d - 1) (k := 4) (p := p) (q := 0) (r := 0) (by omega) (by omega) hW hH p1 p2 (by omega) (by omega) (by omega) (by omega)
  by_cases h : zfOf 4 (T.1 o1) p 0 0 = 1010
  · rw [if_pos h] at e1 ⊢
    obtain ⟨d, rfl⟩ : ∃ e, d = e + 1 := ⟨d - 1, by omega⟩
    apply mv_cl_of
    simp only [mv_il, Value.category, Nat.zero_add, Nat.reduceAdd]
    simp only [Nat.add_sub_cancel, Nat.reduceAdd] at e1
    simp (disch := omega) only [mv_Ev_row r_X10_addRain_0, mv_Ev_row r_X10_addRain_1, mv_Ev_row r_X10_addRain_4, mv_Ev_row r_X10_addRain_5, mv_Ev_row r_X10_addRain_6, mv_Ev_row r_X10_addRain_7, mv_Ev_row r_X10_addRain_10, ea_aload_n, ea_static, ea_iload_n, ea_iconst, kv_X10_change, ea_ireturn, ez_ret, ez_retc, mv_ac, decide_eq_true_eq, not_true_eq_false, and_self, and_true, true_and, ea_2n, ea_2f, ea_2c, ea_if, if_pos, if_neg, mv_lk, mv_f1, mv_f2, Value.category, List.filter, ↓reduceIte, Nat.reduceEqDiff, Nat.reduceAdd, Nat.reduceLT, Nat.reduceBEq, Nat.zero_add, Nat.add_zero, Nat.zero_ne_one, Nat.one_ne_zero, Bool.not_true, Bool.not_false, Bool.and_true, Bool.true_and, Bool.and_false, Bool.false_and, BEq.rfl, beq_self_eq_true, Bool.false_eq_true, reduceCtorEq, not_false_eq_true, fv0, fv1, fv2, fv3, eb_l0, eb_l1, eb_l2, eb_l3, eb_l4, eb_l5, eb_s0, eb_s1, eb_s2, eb_s3, eb_s4, eb_s5, oz_add, oz_sub, oz_mul, oz_neg, ol_add, ol_sub, sD_eq, sD_sD, sD_ne, sD_in, sD_in2, sD_in3, upR_is, upR_ne, mk_v, mk_n, mk_x, mk_i, mv_cs, Nat.reduceLeDiff, mv_ch_z, nh_X10_addRain, e1]
  · rw [if_neg h] at e1 ⊢
    obtain ⟨d, rfl⟩ : ∃ e, d = e + 1 := ⟨d - 1, by omega⟩
    apply mv_cl_of
    simp only [mv_il, Value.category, Nat.zero_add, Nat.reduceAdd]
    simp only [Nat.add_sub_cancel, Nat.reduceAdd] at e1
    simp (disch := omega) only [mv_Ev_row r_X10_addRain_0, mv_Ev_row r_X10_addRain_1, mv_Ev_row r_X10_addRain_4, mv_Ev_row r_X10_addRain_5, mv_Ev_row r_X10_addRain_6, mv_Ev_row r_X10_addRain_7, mv_Ev_row r_X10_addRain_10, ea_aload_n, ea_static, ea_iload_n, ea_iconst, kv_X10_change, ea_ireturn, ez_ret, ez_retc, mv_ac, decide_eq_true_eq, not_true_eq_false, and_self, and_true, true_and, ea_2n, ea_2f, ea_2c, ea_if, if_pos, if_neg, mv_lk, mv_f1, mv_f2, Value.category, List.filter, ↓reduceIte, Nat.reduceEqDiff, Nat.reduceAdd, Nat.reduceLT, Nat.reduceBEq, Nat.zero_add, Nat.add_zero, Nat.zero_ne_one, Nat.one_ne_zero, Bool.not_true, Bool.not_false, Bool.and_true, Bool.true_and, Bool.and_false, Bool.false_and, BEq.rfl, beq_self_eq_true, Bool.false_eq_true, reduceCtorEq, not_false_eq_true, fv0, fv1, fv2, fv3, eb_l0, eb_l1, eb_l2, eb_l3, eb_l4, eb_l5, eb_s0, eb_s1, eb_s2, eb_s3, eb_s4, eb_s5, oz_add, oz_sub, oz_mul, oz_neg, ol_add, ol_sub, sD_eq, sD_sD, sD_ne, sD_in, sD_in2, sD_in3, upR_is, upR_ne, mk_v, mk_n, mk_x, mk_i, mv_cs, Nat.reduceLeDiff, mv_ch_z, nh_X10_addRain, e1]
theorem c_X10_clearForecast (hd : 7 ≤ d) (hW : zWF (T.1 o1) 99) (hH : zHis T) : mv_cl L xs d k_X10_clearForecast [.ref 0] (t, 142, mz T) = some (if zfOf 5 (T.1 o1) 0 0 0 = 1010 then (.inl (some (.int (Int32.ofInt (zCv 5 (T.1 o1) 0 0 0)))), (t, 142, mz (sD (zRm T) o1 (zCo 5 (T.1 o1) 0 0 0)))) else (.inr (zE (zfOf 5 (T.1 o1) 0 0 0)), (t + 1, 142, mz T))) := by
  have e1 := c_X10_change (L := L) (xs := xs) (t := t) (T := T) (d := d - 1) (k := 5) (p := 0) (q := 0) (r := 0) (by omega) (by omega) hW hH  (by omega) (by omega) (by omega) (by omega) (by omega) (by omega)
  by_cases h : zfOf 5 (T.1 o1) 0 0 0 = 1010
  · rw [if_pos h] at e1 ⊢
    obtain ⟨d, rfl⟩ : ∃ e, d = e + 1 := ⟨d - 1, by omega⟩
    apply mv_cl_of
    simp only [mv_il, Value.category, Nat.zero_add, Nat.reduceAdd]
    simp only [Nat.add_sub_cancel, Nat.reduceAdd] at e1
    simp (disch := omega) only [mv_Ev_row r_X10_clearForecast_0, mv_Ev_row r_X10_clearForecast_1, mv_Ev_row r_X10_clearForecast_4, mv_Ev_row r_X10_clearForecast_5, mv_Ev_row r_X10_clearForecast_6, mv_Ev_row r_X10_clearForecast_7, mv_Ev_row r_X10_clearForecast_10, ea_aload_n, ea_static, ea_iconst, kv_X10_change, ea_ireturn, ez_ret, ez_retc, mv_ac, decide_eq_true_eq, not_true_eq_false, and_self, and_true, true_and, ea_2n, ea_2f, ea_2c, ea_if, if_pos, if_neg, mv_lk, mv_f1, mv_f2, Value.category, List.filter, ↓reduceIte, Nat.reduceEqDiff, Nat.reduceAdd, Nat.reduceLT, Nat.reduceBEq, Nat.zero_add, Nat.add_zero, Nat.zero_ne_one, Nat.one_ne_zero, Bool.not_true, Bool.not_false, Bool.and_true, Bool.true_and, Bool.and_false, Bool.false_and, BEq.rfl, beq_self_eq_true, Bool.false_eq_true, reduceCtorEq, not_false_eq_true, fv0, fv1, fv2, fv3, eb_l0, eb_l1, eb_l2, eb_l3, eb_l4, eb_l5, eb_s0, eb_s1, eb_s2, eb_s3, eb_s4, eb_s5, oz_add, oz_sub, oz_mul, oz_neg, ol_add, ol_sub, sD_eq, sD_sD, sD_ne, sD_in, sD_in2, sD_in3, upR_is, upR_ne, mk_v, mk_n, mk_x, mk_i, mv_cs, Nat.reduceLeDiff, mv_ch_z, nh_X10_clearForecast, e1]
  · rw [if_neg h] at e1 ⊢
    obtain ⟨d, rfl⟩ : ∃ e, d = e + 1 := ⟨d - 1, by omega⟩
    apply mv_cl_of
    simp only [mv_il, Value.category, Nat.zero_add, Nat.reduceAdd]
    simp only [Nat.add_sub_cancel, Nat.reduceAdd] at e1
    simp (disch := omega) only [mv_Ev_row r_X10_clearForecast_0, mv_Ev_row r_X10_clearForecast_1, mv_Ev_row r_X10_clearForecast_4, mv_Ev_row r_X10_clearForecast_5, mv_Ev_row r_X10_clearForecast_6, mv_Ev_row r_X10_clearForecast_7, mv_Ev_row r_X10_clearForecast_10, ea_aload_n, ea_static, ea_iconst, kv_X10_change, ea_ireturn, ez_ret, ez_retc, mv_ac, decide_eq_true_eq, not_true_eq_false, and_self, and_true, true_and, ea_2n, ea_2f, ea_2c, ea_if, if_pos, if_neg, mv_lk, mv_f1, mv_f2, Value.category, List.filter, ↓reduceIte, Nat.reduceEqDiff, Nat.reduceAdd, Nat.reduceLT, Nat.reduceBEq, Nat.zero_add, Nat.add_zero, Nat.zero_ne_one, Nat.one_ne_zero, Bool.not_true, Bool.not_false, Bool.and_true, Bool.true_and, Bool.and_false, Bool.false_and, BEq.rfl, beq_self_eq_true, Bool.false_eq_true, reduceCtorEq, not_false_eq_true, fv0, fv1, fv2, fv3, eb_l0, eb_l1, eb_l2, eb_l3, eb_l4, eb_l5, eb_s0, eb_s1, eb_s2, eb_s3, eb_s4, eb_s5, oz_add, oz_sub, oz_mul, oz_neg, ol_add, ol_sub, sD_eq, sD_sD, sD_ne, sD_in, sD_in2, sD_in3, upR_is, upR_ne, mk_v, mk_n, mk_x, mk_i, mv_cs, Nat.reduceLeDiff, mv_ch_z, nh_X10_clearForecast, e1]
theorem c_X10_pour (hd : 7 ≤ d) {p q : Int} (hW : zWF (T.1 o1) 99) (hH : zHis T) (p1 : -2147483648 ≤ p) (p2 : p < 2147483648) (q1 : -2147483648 ≤ q) (q2 : q < 2147483648) : mv_cl L xs d k_X10_pour [.ref 0, .int (Int32.ofInt p), .int (Int32.ofInt q)] (t, 142, mz T) = some (if zfOf 6 (T.1 o1) p q 0 = 1010 then (.inl (some (.int (Int32.ofInt (zCv 6 (T.1 o1) p q 0)))), (t, 142, mz (sD (zRm T) o1 (zCo 6 (T.1 o1) p q 0)))) else (.inr (zE (zfOf 6 (T.1 o1) p q 0)), (t + 1, 142, mz T))) := by
  have e1 := c_X10_change (L := L) (xs := xs) (t := t) (T := T) (d := d - 1) (k := 6) (p := p) (q := q) (r := 0) (by omega) (by omega) hW hH p1 p2 q1 q2 (by omega) (by omega)
  by_cases h : zfOf 6 (T.1 o1) p q 0 = 1010
  · rw [if_pos h] at e1 ⊢
    obtain ⟨d, rfl⟩ : ∃ e, d = e + 1 := ⟨d - 1, by omega⟩
    apply mv_cl_of
    simp only [mv_il, Value.category, Nat.zero_add, Nat.reduceAdd]
    simp only [Nat.add_sub_cancel, Nat.reduceAdd] at e1
    simp (disch := omega) only [mv_Ev_row r_X10_pour_0, mv_Ev_row r_X10_pour_1, mv_Ev_row r_X10_pour_4, mv_Ev_row r_X10_pour_5, mv_Ev_row r_X10_pour_6, mv_Ev_row r_X10_pour_7, mv_Ev_row r_X10_pour_10, ea_aload_n, ea_static, ea_iload_n, ea_iconst, kv_X10_change, ea_ireturn, ez_ret, ez_retc, mv_ac, decide_eq_true_eq, not_true_eq_false, and_self, and_true, true_and, ea_2n, ea_2f, ea_2c, ea_if, if_pos, if_neg, mv_lk, mv_f1, mv_f2, Value.category, List.filter, ↓reduceIte, Nat.reduceEqDiff, Nat.reduceAdd, Nat.reduceLT, Nat.reduceBEq, Nat.zero_add, Nat.add_zero, Nat.zero_ne_one, Nat.one_ne_zero, Bool.not_true, Bool.not_false, Bool.and_true, Bool.true_and, Bool.and_false, Bool.false_and, BEq.rfl, beq_self_eq_true, Bool.false_eq_true, reduceCtorEq, not_false_eq_true, fv0, fv1, fv2, fv3, eb_l0, eb_l1, eb_l2, eb_l3, eb_l4, eb_l5, eb_s0, eb_s1, eb_s2, eb_s3, eb_s4, eb_s5, oz_add, oz_sub, oz_mul, oz_neg, ol_add, ol_sub, sD_eq, sD_sD, sD_ne, sD_in, sD_in2, sD_in3, upR_is, upR_ne, mk_v, mk_n, mk_x, mk_i, mv_cs, Nat.reduceLeDiff, mv_ch_z, nh_X10_pour, e1]
  · rw [if_neg h] at e1 ⊢
    obtain ⟨d, rfl⟩ : ∃ e, d = e + 1 := ⟨d - 1, by omega⟩
    apply mv_cl_of
    simp only [mv_il, Value.category, Nat.zero_add, Nat.reduceAdd]
    simp only [Nat.add_sub_cancel, Nat.reduceAdd] at e1
    simp (disch := omega) only [mv_Ev_row r_X10_pour_0, mv_Ev_row r_X10_pour_1, mv_Ev_row r_X10_pour_4, mv_Ev_row r_X10_pour_5, mv_Ev_row r_X10_pour_6, mv_Ev_row r_X10_pour_7, mv_Ev_row r_X10_pour_10, ea_aload_n, ea_static, ea_iload_n, ea_iconst, kv_X10_change, ea_ireturn, ez_ret, ez_retc, mv_ac, decide_eq_true_eq, not_true_eq_false, and_self, and_true, true_and, ea_2n, ea_2f, ea_2c, ea_if, if_pos, if_neg, mv_lk, mv_f1, mv_f2, Value.category, List.filter, ↓reduceIte, Nat.reduceEqDiff, Nat.reduceAdd, Nat.reduceLT, Nat.reduceBEq, Nat.zero_add, Nat.add_zero, Nat.zero_ne_one, Nat.one_ne_zero, Bool.not_true, Bool.not_false, Bool.and_true, Bool.true_and, Bool.and_false, Bool.false_and, BEq.rfl, beq_self_eq_true, Bool.false_eq_true, reduceCtorEq, not_false_eq_true, fv0, fv1, fv2, fv3, eb_l0, eb_l1, eb_l2, eb_l3, eb_l4, eb_l5, eb_s0, eb_s1, eb_s2, eb_s3, eb_s4, eb_s5, oz_add, oz_sub, oz_mul, oz_neg, ol_add, ol_sub, sD_eq, sD_sD, sD_ne, sD_in, sD_in2, sD_in3, upR_is, upR_ne, mk_v, mk_n, mk_x, mk_i, mv_cs, Nat.reduceLeDiff, mv_ch_z, nh_X10_pour, e1]
theorem c_X10_advance (hd : 7 ≤ d) {p : Int} (hW : zWF (T.1 o1) 99) (hH : zHis T) (p1 : -2147483648 ≤ p) (p2 : p < 2147483648) : mv_cl L xs d k_X10_advance [.ref 0, .int (Int32.ofInt p)] (t, 142, mz T) = some (if zfOf 7 (T.1 o1) p 0 0 = 1010 then (.inl (some (.int (Int32.ofInt (zCv 7 (T.1 o1) p 0 0)))), (t, 142, mz (sD (zRm T) o1 (zCo 7 (T.1 o1) p 0 0)))) else (.inr (zE (zfOf 7 (T.1 o1) p 0 0)), (t + 1, 142, mz T))) := by
  have e1 := c_X10_change (L := L) (xs := xs) (t := t) (T := T) (d := d - 1) (k := 7) (p := p) (q := 0) (r := 0) (by omega) (by omega) hW hH p1 p2 (by omega) (by omega) (by omega) (by omega)
  by_cases h : zfOf 7 (T.1 o1) p 0 0 = 1010
  · rw [if_pos h] at e1 ⊢
    obtain ⟨d, rfl⟩ : ∃ e, d = e + 1 := ⟨d - 1, by omega⟩
    apply mv_cl_of
    simp only [mv_il, Value.category, Nat.zero_add, Nat.reduceAdd]
    simp only [Nat.add_sub_cancel, Nat.reduceAdd] at e1
    simp (disch := omega) only [mv_Ev_row r_X10_advance_0, mv_Ev_row r_X10_advance_1, mv_Ev_row r_X10_advance_4, mv_Ev_row r_X10_advance_5, mv_Ev_row r_X10_advance_6, mv_Ev_row r_X10_advance_7, mv_Ev_row r_X10_advance_10, ea_aload_n, ea_static, ea_iload_n, ea_iconst, kv_X10_change, ea_ireturn, ez_ret, ez_retc, mv_ac, decide_eq_true_eq, not_true_eq_false, and_self, and_true, true_and, ea_2n, ea_2f, ea_2c, ea_if, if_pos, if_neg, mv_lk, mv_f1, mv_f2, Value.category, List.filter, ↓reduceIte, Nat.reduceEqDiff, Nat.reduceAdd, Nat.reduceLT, Nat.reduceBEq, Nat.zero_add, Nat.add_zero, Nat.zero_ne_one, Nat.one_ne_zero, Bool.not_true, Bool.not_false, Bool.and_true, Bool.true_and, Bool.and_false, Bool.false_and, BEq.rfl, beq_self_eq_true, Bool.false_eq_true, reduceCtorEq, not_false_eq_true, fv0, fv1, fv2, fv3, eb_l0, eb_l1, eb_l2, eb_l3, eb_l4, eb_l5, eb_s0, eb_s1, eb_s2, eb_s3, eb_s4, eb_s5, oz_add, oz_sub, oz_mul, oz_neg, ol_add, ol_sub, sD_eq, sD_sD, sD_ne, sD_in, sD_in2, sD_in3, upR_is, upR_ne, mk_v, mk_n, mk_x, mk_i, mv_cs, Nat.reduceLeDiff, mv_ch_z, nh_X10_advance, e1]
  · rw [if_neg h] at e1 ⊢
    obtain ⟨d, rfl⟩ : ∃ e, d = e + 1 := ⟨d - 1, by omega⟩
    apply mv_cl_of
    simp only [mv_il, Value.category, Nat.zero_add, Nat.reduceAdd]
    simp only [Nat.add_sub_cancel, Nat.reduceAdd] at e1
    simp (disch := omega) only [mv_Ev_row r_X10_advance_0, mv_Ev_row r_X10_advance_1, mv_Ev_row r_X10_advance_4, mv_Ev_row r_X10_advance_5, mv_Ev_row r_X10_advance_6, mv_Ev_row r_X10_advance_7, mv_Ev_row r_X10_advance_10, ea_aload_n, ea_static, ea_iload_n, ea_iconst, kv_X10_change, ea_ireturn, ez_ret, ez_retc, mv_ac, decide_eq_true_eq, not_true_eq_false, and_self, and_true, true_and, ea_2n, ea_2f, ea_2c, ea_if, if_pos, if_neg, mv_lk, mv_f1, mv_f2, Value.category, List.filter, ↓reduceIte, Nat.reduceEqDiff, Nat.reduceAdd, Nat.reduceLT, Nat.reduceBEq, Nat.zero_add, Nat.add_zero, Nat.zero_ne_one, Nat.one_ne_zero, Bool.not_true, Bool.not_false, Bool.and_true, Bool.true_and, Bool.and_false, Bool.false_and, BEq.rfl, beq_self_eq_true, Bool.false_eq_true, reduceCtorEq, not_false_eq_true, fv0, fv1, fv2, fv3, eb_l0, eb_l1, eb_l2, eb_l3, eb_l4, eb_l5, eb_s0, eb_s1, eb_s2, eb_s3, eb_s4, eb_s5, oz_add, oz_sub, oz_mul, oz_neg, ol_add, ol_sub, sD_eq, sD_sD, sD_ne, sD_in, sD_in2, sD_in3, upR_is, upR_ne, mk_v, mk_n, mk_x, mk_i, mv_cs, Nat.reduceLeDiff, mv_ch_z, nh_X10_advance, e1]
theorem c_X10_exists (hd : 2 ≤ d) {b : Int} (hW : zWF (T.1 o1) 99) (b1 : -2147483648 ≤ b) (b2 : b < 2147483648) : mv_cl L xs d k_X10_existingBasin [.ref 0, .int (Int32.ofInt b)] (t, 142, mz T) = some (if 0 ≤ b ∧ b < T.1 o1 0 then (.inl (some (.ref (o1 + 3 + b.toNat))), (t, 142, mz T)) else (.inr 2, (t + 1, 142, mz T))) := by
  have a5 := hW.2.1
  have e1 := ct_hasBasin (L := L) (xs := xs) (t := t) (T := T) (d := d - 1) Ch.o1 (by omega) hW b1 b2
  by_cases h : 0 ≤ b ∧ b < T.1 o1 0
  · rw [if_pos h] at e1 ⊢
    obtain ⟨d, rfl⟩ : ∃ e, d = e + 1 := ⟨d - 1, by omega⟩
    apply mv_cl_of
    simp only [mv_il, Value.category, Nat.zero_add, Nat.reduceAdd]
    simp only [Nat.add_sub_cancel] at e1
    simp (disch := omega) only [mv_Ev_row r_X10_existingBasin_0, mv_Ev_row r_X10_existingBasin_1, mv_Ev_row r_X10_existingBasin_4, mv_Ev_row r_X10_existingBasin_5, mv_Ev_row r_X10_existingBasin_8, mv_Ev_row r_X10_existingBasin_11, mv_Ev_row r_X10_existingBasin_14, mv_Ev_row r_X10_existingBasin_15, mv_Ev_row r_X10_existingBasin_18, mv_Ev_row r_X10_existingBasin_21, mv_Ev_row r_X10_existingBasin_22, mv_Ev_row r_X10_existingBasin_23, mv_Ev_row r_X10_existingBasin_26, mv_Ev_row r_X10_existingBasin_29, mv_Ev_row r_X10_existingBasin_30, mv_Ev_row r_X10_existingBasin_31, ea_aload_n, ea_iload_n, kv_X2_hasBasin Ch.o1, ea_ifc, ez_thr, ea_dup_i, ea_dup_r, gg_1_0 Ch.o1, ea_aret, ea_aretN, ar_bas Ch.o1, ar_his, ar_try, c0_eq, c0_ne, c0_lt, c0_ge, c0_gt, c0_le, mv_ac, decide_eq_true_eq, not_true_eq_false, and_self, and_true, true_and, ea_2n, ea_2f, ea_2c, ea_if, if_pos, if_neg, mv_lk, mv_f1, mv_f2, Value.category, List.filter, ↓reduceIte, Nat.reduceEqDiff, Nat.reduceAdd, Nat.reduceLT, Nat.reduceBEq, Nat.zero_add, Nat.add_zero, Nat.zero_ne_one, Nat.one_ne_zero, Bool.not_true, Bool.not_false, Bool.and_true, Bool.true_and, Bool.and_false, Bool.false_and, BEq.rfl, beq_self_eq_true, Bool.false_eq_true, reduceCtorEq, not_false_eq_true, fv0, fv1, fv2, fv3, eb_l0, eb_l1, eb_l2, eb_l3, eb_l4, eb_l5, eb_s0, eb_s1, eb_s2, eb_s3, eb_s4, eb_s5, oz_add, oz_sub, oz_mul, oz_neg, ol_add, ol_sub, sD_eq, sD_sD, sD_ne, sD_in, sD_in2, sD_in3, upR_is, upR_ne, mk_v, mk_n, mk_x, mk_i, mv_cs, Nat.reduceLeDiff, mv_ch_z, nh_X10_existingBasin, g7_0, e1]
  · rw [if_neg h] at e1 ⊢
    obtain ⟨d, rfl⟩ : ∃ e, d = e + 1 := ⟨d - 1, by omega⟩
    apply mv_cl_of
    simp only [mv_il, Value.category, Nat.zero_add, Nat.reduceAdd]
    simp only [Nat.add_sub_cancel] at e1
    simp (disch := omega) only [mv_Ev_row r_X10_existingBasin_0, mv_Ev_row r_X10_existingBasin_1, mv_Ev_row r_X10_existingBasin_4, mv_Ev_row r_X10_existingBasin_5, mv_Ev_row r_X10_existingBasin_8, mv_Ev_row r_X10_existingBasin_11, mv_Ev_row r_X10_existingBasin_14, mv_Ev_row r_X10_existingBasin_15, mv_Ev_row r_X10_existingBasin_18, mv_Ev_row r_X10_existingBasin_21, mv_Ev_row r_X10_existingBasin_22, mv_Ev_row r_X10_existingBasin_23, mv_Ev_row r_X10_existingBasin_26, mv_Ev_row r_X10_existingBasin_29, mv_Ev_row r_X10_existingBasin_30, mv_Ev_row r_X10_existingBasin_31, ea_aload_n, ea_iload_n, kv_X2_hasBasin Ch.o1, ea_ifc, ez_thr, ea_dup_i, ea_dup_r, gg_1_0 Ch.o1, ea_aret, ea_aretN, ar_bas Ch.o1, ar_his, ar_try, c0_eq, c0_ne, c0_lt, c0_ge, c0_gt, c0_le, mv_ac, decide_eq_true_eq, not_true_eq_false, and_self, and_true, true_and, ea_2n, ea_2f, ea_2c, ea_if, if_pos, if_neg, mv_lk, mv_f1, mv_f2, Value.category, List.filter, ↓reduceIte, Nat.reduceEqDiff, Nat.reduceAdd, Nat.reduceLT, Nat.reduceBEq, Nat.zero_add, Nat.add_zero, Nat.zero_ne_one, Nat.one_ne_zero, Bool.not_true, Bool.not_false, Bool.and_true, Bool.true_and, Bool.and_false, Bool.false_and, BEq.rfl, beq_self_eq_true, Bool.false_eq_true, reduceCtorEq, not_false_eq_true, fv0, fv1, fv2, fv3, eb_l0, eb_l1, eb_l2, eb_l3, eb_l4, eb_l5, eb_s0, eb_s1, eb_s2, eb_s3, eb_s4, eb_s5, oz_add, oz_sub, oz_mul, oz_neg, ol_add, ol_sub, sD_eq, sD_sD, sD_ne, sD_in, sD_in2, sD_in3, upR_is, upR_ne, mk_v, mk_n, mk_x, mk_i, mv_cs, Nat.reduceLeDiff, mv_ch_z, nh_X10_existingBasin, g7_0, e1]
theorem c_X10_capacity (hd : 3 ≤ d) {b : Int} (hW : zWF (T.1 o1) 99) (b1 : -2147483648 ≤ b) (b2 : b < 2147483648) : mv_cl L xs d k_X10_capacity [.ref 0, .int (Int32.ofInt b)] (t, 142, mz T) = some (if 0 ≤ b ∧ b < T.1 o1 0 then (.inl (some (.int (Int32.ofInt (T.1 o1 (6 + 9 * b + 0))))), (t, 142, mz T)) else (.inr 2, (t + 1, 142, mz T))) := by
  have a5 := hW.2.1
  have e1 := c_X10_exists (L := L) (xs := xs) (t := t) (T := T) (d := d - 1) (by omega) hW b1 b2
  by_cases h : 0 ≤ b ∧ b < T.1 o1 0
  · have hk := hW.2.2.2.2.1 b h.1 h.2
    unfold zOK at hk
    rw [if_pos h] at e1 ⊢
    obtain ⟨d, rfl⟩ : ∃ e, d = e + 1 := ⟨d - 1, by omega⟩
    apply mv_cl_of
    simp only [mv_il, Value.category, Nat.zero_add, Nat.reduceAdd]
    simp only [Nat.add_sub_cancel] at e1
    simp (disch := omega) only [mv_Ev_row r_X10_capacity_0, mv_Ev_row r_X10_capacity_1, mv_Ev_row r_X10_capacity_2, mv_Ev_row r_X10_capacity_5, mv_Ev_row r_X10_capacity_8, ea_aload_n, ea_iload_n, kv_X10_existingBasin, gg_0_0 Ch.o1, ea_ireturn, ez_ret, ez_retc, mv_ac, decide_eq_true_eq, not_true_eq_false, and_self, and_true, true_and, ea_2n, ea_2f, ea_2c, ea_if, if_pos, if_neg, mv_lk, mv_f1, mv_f2, Value.category, List.filter, ↓reduceIte, Nat.reduceEqDiff, Nat.reduceAdd, Nat.reduceLT, Nat.reduceBEq, Nat.zero_add, Nat.add_zero, Nat.zero_ne_one, Nat.one_ne_zero, Bool.not_true, Bool.not_false, Bool.and_true, Bool.true_and, Bool.and_false, Bool.false_and, BEq.rfl, beq_self_eq_true, Bool.false_eq_true, reduceCtorEq, not_false_eq_true, fv0, fv1, fv2, fv3, eb_l0, eb_l1, eb_l2, eb_l3, eb_l4, eb_l5, eb_s0, eb_s1, eb_s2, eb_s3, eb_s4, eb_s5, oz_add, oz_sub, oz_mul, oz_neg, ol_add, ol_sub, sD_eq, sD_sD, sD_ne, sD_in, sD_in2, sD_in3, upR_is, upR_ne, mk_v, mk_n, mk_x, mk_i, mv_cs, Nat.reduceLeDiff, mv_ch_z, nh_X10_capacity, e1]
  · rw [if_neg h] at e1 ⊢
    obtain ⟨d, rfl⟩ : ∃ e, d = e + 1 := ⟨d - 1, by omega⟩
    apply mv_cl_of
    simp only [mv_il, Value.category, Nat.zero_add, Nat.reduceAdd]
    simp only [Nat.add_sub_cancel] at e1
    simp (disch := omega) only [mv_Ev_row r_X10_capacity_0, mv_Ev_row r_X10_capacity_1, mv_Ev_row r_X10_capacity_2, mv_Ev_row r_X10_capacity_5, mv_Ev_row r_X10_capacity_8, ea_aload_n, ea_iload_n, kv_X10_existingBasin, gg_0_0 Ch.o1, ea_ireturn, ez_ret, ez_retc, mv_ac, decide_eq_true_eq, not_true_eq_false, and_self, and_true, true_and, ea_2n, ea_2f, ea_2c, ea_if, if_pos, if_neg, mv_lk, mv_f1, mv_f2, Value.category, List.filter, ↓reduceIte, Nat.reduceEqDiff, Nat.reduceAdd, Nat.reduceLT, Nat.reduceBEq, Nat.zero_add, Nat.add_zero, Nat.zero_ne_one, Nat.one_ne_zero, Bool.not_true, Bool.not_false, Bool.and_true, Bool.true_and, Bool.and_false, Bool.false_and, BEq.rfl, beq_self_eq_true, Bool.false_eq_true, reduceCtorEq, not_false_eq_true, fv0, fv1, fv2, fv3, eb_l0, eb_l1, eb_l2, eb_l3, eb_l4, eb_l5, eb_s0, eb_s1, eb_s2, eb_s3, eb_s4, eb_s5, oz_add, oz_sub, oz_mul, oz_neg, ol_add, ol_sub, sD_eq, sD_sD, sD_ne, sD_in, sD_in2, sD_in3, upR_is, upR_ne, mk_v, mk_n, mk_x, mk_i, mv_cs, Nat.reduceLeDiff, mv_ch_z, nh_X10_capacity, e1]
theorem c_X10_level (hd : 3 ≤ d) {b : Int} (hW : zWF (T.1 o1) 99) (b1 : -2147483648 ≤ b) (b2 : b < 2147483648) : mv_cl L xs d k_X10_level [.ref 0, .int (Int32.ofInt b)] (t, 142, mz T) = some (if 0 ≤ b ∧ b < T.1 o1 0 then (.inl (some (.int (Int32.ofInt (T.1 o1 (6 + 9 * b + 1))))), (t, 142, mz T)) else (.inr 2, (t + 1, 142, mz T))) := by
  have a5 := hW.2.1
  have e1 := c_X10_exists (L := L) (xs := xs) (t := t) (T := T) (d := d - 1) (by omega) hW b1 b2
  by_cases h : 0 ≤ b ∧ b < T.1 o1 0
  · have hk := hW.2.2.2.2.1 b h.1 h.2
    unfold zOK at hk
    rw [if_pos h] at e1 ⊢
    obtain ⟨d, rfl⟩ : ∃ e, d = e + 1 := ⟨d - 1, by omega⟩
    apply mv_cl_of
    simp only [mv_il, Value.category, Nat.zero_add, Nat.reduceAdd]
    simp only [Nat.add_sub_cancel] at e1
    simp (disch := omega) only [mv_Ev_row r_X10_level_0, mv_Ev_row r_X10_level_1, mv_Ev_row r_X10_level_2, mv_Ev_row r_X10_level_5, mv_Ev_row r_X10_level_8, ea_aload_n, ea_iload_n, kv_X10_existingBasin, gg_0_3 Ch.o1, ea_ireturn, ez_ret, ez_retc, mv_ac, decide_eq_true_eq, not_true_eq_false, and_self, and_true, true_and, ea_2n, ea_2f, ea_2c, ea_if, if_pos, if_neg, mv_lk, mv_f1, mv_f2, Value.category, List.filter, ↓reduceIte, Nat.reduceEqDiff, Nat.reduceAdd, Nat.reduceLT, Nat.reduceBEq, Nat.zero_add, Nat.add_zero, Nat.zero_ne_one, Nat.one_ne_zero, Bool.not_true, Bool.not_false, Bool.and_true, Bool.true_and, Bool.and_false, Bool.false_and, BEq.rfl, beq_self_eq_true, Bool.false_eq_true, reduceCtorEq, not_false_eq_true, fv0, fv1, fv2, fv3, eb_l0, eb_l1, eb_l2, eb_l3, eb_l4, eb_l5, eb_s0, eb_s1, eb_s2, eb_s3, eb_s4, eb_s5, oz_add, oz_sub, oz_mul, oz_neg, ol_add, ol_sub, sD_eq, sD_sD, sD_ne, sD_in, sD_in2, sD_in3, upR_is, upR_ne, mk_v, mk_n, mk_x, mk_i, mv_cs, Nat.reduceLeDiff, mv_ch_z, nh_X10_level, e1]
  · rw [if_neg h] at e1 ⊢
    obtain ⟨d, rfl⟩ : ∃ e, d = e + 1 := ⟨d - 1, by omega⟩
    apply mv_cl_of
    simp only [mv_il, Value.category, Nat.zero_add, Nat.reduceAdd]
    simp only [Nat.add_sub_cancel] at e1
    simp (disch := omega) only [mv_Ev_row r_X10_level_0, mv_Ev_row r_X10_level_1, mv_Ev_row r_X10_level_2, mv_Ev_row r_X10_level_5, mv_Ev_row r_X10_level_8, ea_aload_n, ea_iload_n, kv_X10_existingBasin, gg_0_3 Ch.o1, ea_ireturn, ez_ret, ez_retc, mv_ac, decide_eq_true_eq, not_true_eq_false, and_self, and_true, true_and, ea_2n, ea_2f, ea_2c, ea_if, if_pos, if_neg, mv_lk, mv_f1, mv_f2, Value.category, List.filter, ↓reduceIte, Nat.reduceEqDiff, Nat.reduceAdd, Nat.reduceLT, Nat.reduceBEq, Nat.zero_add, Nat.add_zero, Nat.zero_ne_one, Nat.one_ne_zero, Bool.not_true, Bool.not_false, Bool.and_true, Bool.true_and, Bool.and_false, Bool.false_and, BEq.rfl, beq_self_eq_true, Bool.false_eq_true, reduceCtorEq, not_false_eq_true, fv0, fv1, fv2, fv3, eb_l0, eb_l1, eb_l2, eb_l3, eb_l4, eb_l5, eb_s0, eb_s1, eb_s2, eb_s3, eb_s4, eb_s5, oz_add, oz_sub, oz_mul, oz_neg, ol_add, ol_sub, sD_eq, sD_sD, sD_ne, sD_in, sD_in2, sD_in3, upR_is, upR_ne, mk_v, mk_n, mk_x, mk_i, mv_cs, Nat.reduceLeDiff, mv_ch_z, nh_X10_level, e1]
theorem c_X10_fieldValue (hd : 3 ≤ d) {b : Int} (hW : zWF (T.1 o1) 99) (b1 : -2147483648 ≤ b) (b2 : b < 2147483648) : mv_cl L xs d k_X10_fieldValue [.ref 0, .int (Int32.ofInt b)] (t, 142, mz T) = some (if 0 ≤ b ∧ b < T.1 o1 0 then (.inl (some (.int (Int32.ofInt (T.1 o1 (6 + 9 * b + 3))))), (t, 142, mz T)) else (.inr 2, (t + 1, 142, mz T))) := by
  have a5 := hW.2.1
  have e1 := c_X10_exists (L := L) (xs := xs) (t := t) (T := T) (d := d - 1) (by omega) hW b1 b2
  by_cases h : 0 ≤ b ∧ b < T.1 o1 0
  · have hk := hW.2.2.2.2.1 b h.1 h.2
    unfold zOK at hk
    rw [if_pos h] at e1 ⊢
    obtain ⟨d, rfl⟩ : ∃ e, d = e + 1 := ⟨d - 1, by omega⟩
    apply mv_cl_of
    simp only [mv_il, Value.category, Nat.zero_add, Nat.reduceAdd]
    simp only [Nat.add_sub_cancel] at e1
    simp (disch := omega) only [mv_Ev_row r_X10_fieldValue_0, mv_Ev_row r_X10_fieldValue_1, mv_Ev_row r_X10_fieldValue_2, mv_Ev_row r_X10_fieldValue_5, mv_Ev_row r_X10_fieldValue_8, ea_aload_n, ea_iload_n, kv_X10_existingBasin, gg_0_2 Ch.o1, ea_ireturn, ez_ret, ez_retc, mv_ac, decide_eq_true_eq, not_true_eq_false, and_self, and_true, true_and, ea_2n, ea_2f, ea_2c, ea_if, if_pos, if_neg, mv_lk, mv_f1, mv_f2, Value.category, List.filter, ↓reduceIte, Nat.reduceEqDiff, Nat.reduceAdd, Nat.reduceLT, Nat.reduceBEq, Nat.zero_add, Nat.add_zero, Nat.zero_ne_one, Nat.one_ne_zero, Bool.not_true, Bool.not_false, Bool.and_true, Bool.true_and, Bool.and_false, Bool.false_and, BEq.rfl, beq_self_eq_true, Bool.false_eq_true, reduceCtorEq, not_false_eq_true, fv0, fv1, fv2, fv3, eb_l0, eb_l1, eb_l2, eb_l3, eb_l4, eb_l5, eb_s0, eb_s1, eb_s2, eb_s3, eb_s4, eb_s5, oz_add, oz_sub, oz_mul, oz_neg, ol_add, ol_sub, sD_eq, sD_sD, sD_ne, sD_in, sD_in2, sD_in3, upR_is, upR_ne, mk_v, mk_n, mk_x, mk_i, mv_cs, Nat.reduceLeDiff, mv_ch_z, nh_X10_fieldValue, e1]
  · rw [if_neg h] at e1 ⊢
    obtain ⟨d, rfl⟩ : ∃ e, d = e + 1 := ⟨d - 1, by omega⟩
    apply mv_cl_of
    simp only [mv_il, Value.category, Nat.zero_add, Nat.reduceAdd]
    simp only [Nat.add_sub_cancel] at e1
    simp (disch := omega) only [mv_Ev_row r_X10_fieldValue_0, mv_Ev_row r_X10_fieldValue_1, mv_Ev_row r_X10_fieldValue_2, mv_Ev_row r_X10_fieldValue_5, mv_Ev_row r_X10_fieldValue_8, ea_aload_n, ea_iload_n, kv_X10_existingBasin, gg_0_2 Ch.o1, ea_ireturn, ez_ret, ez_retc, mv_ac, decide_eq_true_eq, not_true_eq_false, and_self, and_true, true_and, ea_2n, ea_2f, ea_2c, ea_if, if_pos, if_neg, mv_lk, mv_f1, mv_f2, Value.category, List.filter, ↓reduceIte, Nat.reduceEqDiff, Nat.reduceAdd, Nat.reduceLT, Nat.reduceBEq, Nat.zero_add, Nat.add_zero, Nat.zero_ne_one, Nat.one_ne_zero, Bool.not_true, Bool.not_false, Bool.and_true, Bool.true_and, Bool.and_false, Bool.false_and, BEq.rfl, beq_self_eq_true, Bool.false_eq_true, reduceCtorEq, not_false_eq_true, fv0, fv1, fv2, fv3, eb_l0, eb_l1, eb_l2, eb_l3, eb_l4, eb_l5, eb_s0, eb_s1, eb_s2, eb_s3, eb_s4, eb_s5, oz_add, oz_sub, oz_mul, oz_neg, ol_add, ol_sub, sD_eq, sD_sD, sD_ne, sD_in, sD_in2, sD_in3, upR_is, upR_ne, mk_v, mk_n, mk_x, mk_i, mv_cs, Nat.reduceLeDiff, mv_ch_z, nh_X10_fieldValue, e1]
theorem c_X10_opening (hd : 3 ≤ d) {b : Int} (hW : zWF (T.1 o1) 99) (b1 : -2147483648 ≤ b) (b2 : b < 2147483648) : mv_cl L xs d k_X10_opening [.ref 0, .int (Int32.ofInt b)] (t, 142, mz T) = some (if 0 ≤ b ∧ b < T.1 o1 0 then (.inl (some (.int (Int32.ofInt (T.1 o1 (6 + 9 * b + 4))))), (t, 142, mz T)) else (.inr 2, (t + 1, 142, mz T))) := by
  have a5 := hW.2.1
  have e1 := c_X10_exists (L := L) (xs := xs) (t := t) (T := T) (d := d - 1) (by omega) hW b1 b2
  by_cases h : 0 ≤ b ∧ b < T.1 o1 0
  · have hk := hW.2.2.2.2.1 b h.1 h.2
    unfold zOK at hk
    rw [if_pos h] at e1 ⊢
    obtain ⟨d, rfl⟩ : ∃ e, d = e + 1 := ⟨d - 1, by omega⟩
    apply mv_cl_of
    simp only [mv_il, Value.category, Nat.zero_add, Nat.reduceAdd]
    simp only [Nat.add_sub_cancel] at e1
    simp (disch := omega) only [mv_Ev_row r_X10_opening_0, mv_Ev_row r_X10_opening_1, mv_Ev_row r_X10_opening_2, mv_Ev_row r_X10_opening_5, mv_Ev_row r_X10_opening_8, ea_aload_n, ea_iload_n, kv_X10_existingBasin, gg_0_4 Ch.o1, ea_ireturn, ez_ret, ez_retc, mv_ac, decide_eq_true_eq, not_true_eq_false, and_self, and_true, true_and, ea_2n, ea_2f, ea_2c, ea_if, if_pos, if_neg, mv_lk, mv_f1, mv_f2, Value.category, List.filter, ↓reduceIte, Nat.reduceEqDiff, Nat.reduceAdd, Nat.reduceLT, Nat.reduceBEq, Nat.zero_add, Nat.add_zero, Nat.zero_ne_one, Nat.one_ne_zero, Bool.not_true, Bool.not_false, Bool.and_true, Bool.true_and, Bool.and_false, Bool.false_and, BEq.rfl, beq_self_eq_true, Bool.false_eq_true, reduceCtorEq, not_false_eq_true, fv0, fv1, fv2, fv3, eb_l0, eb_l1, eb_l2, eb_l3, eb_l4, eb_l5, eb_s0, eb_s1, eb_s2, eb_s3, eb_s4, eb_s5, oz_add, oz_sub, oz_mul, oz_neg, ol_add, ol_sub, sD_eq, sD_sD, sD_ne, sD_in, sD_in2, sD_in3, upR_is, upR_ne, mk_v, mk_n, mk_x, mk_i, mv_cs, Nat.reduceLeDiff, mv_ch_z, nh_X10_opening, e1]
  · rw [if_neg h] at e1 ⊢
    obtain ⟨d, rfl⟩ : ∃ e, d = e + 1 := ⟨d - 1, by omega⟩
    apply mv_cl_of
    simp only [mv_il, Value.category, Nat.zero_add, Nat.reduceAdd]
    simp only [Nat.add_sub_cancel] at e1
    simp (disch := omega) only [mv_Ev_row r_X10_opening_0, mv_Ev_row r_X10_opening_1, mv_Ev_row r_X10_opening_2, mv_Ev_row r_X10_opening_5, mv_Ev_row r_X10_opening_8, ea_aload_n, ea_iload_n, kv_X10_existingBasin, gg_0_4 Ch.o1, ea_ireturn, ez_ret, ez_retc, mv_ac, decide_eq_true_eq, not_true_eq_false, and_self, and_true, true_and, ea_2n, ea_2f, ea_2c, ea_if, if_pos, if_neg, mv_lk, mv_f1, mv_f2, Value.category, List.filter, ↓reduceIte, Nat.reduceEqDiff, Nat.reduceAdd, Nat.reduceLT, Nat.reduceBEq, Nat.zero_add, Nat.add_zero, Nat.zero_ne_one, Nat.one_ne_zero, Bool.not_true, Bool.not_false, Bool.and_true, Bool.true_and, Bool.and_false, Bool.false_and, BEq.rfl, beq_self_eq_true, Bool.false_eq_true, reduceCtorEq, not_false_eq_true, fv0, fv1, fv2, fv3, eb_l0, eb_l1, eb_l2, eb_l3, eb_l4, eb_l5, eb_s0, eb_s1, eb_s2, eb_s3, eb_s4, eb_s5, oz_add, oz_sub, oz_mul, oz_neg, ol_add, ol_sub, sD_eq, sD_sD, sD_ne, sD_in, sD_in2, sD_in3, upR_is, upR_ne, mk_v, mk_n, mk_x, mk_i, mv_cs, Nat.reduceLeDiff, mv_ch_z, nh_X10_opening, e1]
theorem c_X10_isAutomatic (hd : 3 ≤ d) {b : Int} (hW : zWF (T.1 o1) 99) (b1 : -2147483648 ≤ b) (b2 : b < 2147483648) : mv_cl L xs d k_X10_isAutomatic [.ref 0, .int (Int32.ofInt b)] (t, 142, mz T) = some (if 0 ≤ b ∧ b < T.1 o1 0 then (.inl (some (.int (Int32.ofInt (T.1 o1 (6 + 9 * b + 5))))), (t, 142, mz T)) else (.inr 2, (t + 1, 142, mz T))) := by
  have a5 := hW.2.1
  have e1 := c_X10_exists (L := L) (xs := xs) (t := t) (T := T) (d := d - 1) (by omega) hW b1 b2
  by_cases h : 0 ≤ b ∧ b < T.1 o1 0
  · have hk := hW.2.2.2.2.1 b h.1 h.2
    unfold zOK at hk
    rw [if_pos h] at e1 ⊢
    obtain ⟨d, rfl⟩ : ∃ e, d = e + 1 := ⟨d - 1, by omega⟩
    apply mv_cl_of
    simp only [mv_il, Value.category, Nat.zero_add, Nat.reduceAdd]
    simp only [Nat.add_sub_cancel] at e1
    simp (disch := omega) only [mv_Ev_row r_X10_isAutomatic_0, mv_Ev_row r_X10_isAutomatic_1, mv_Ev_row r_X10_isAutomatic_2, mv_Ev_row r_X10_isAutomatic_5, mv_Ev_row r_X10_isAutomatic_8, ea_aload_n, ea_iload_n, kv_X10_existingBasin, gg_0_5 Ch.o1, ea_ireturn, ez_ret, ez_retc, mv_ac, decide_eq_true_eq, not_true_eq_false, and_self, and_true, true_and, ea_2n, ea_2f, ea_2c, ea_if, if_pos, if_neg, mv_lk, mv_f1, mv_f2, Value.category, List.filter, ↓reduceIte, Nat.reduceEqDiff, Nat.reduceAdd, Nat.reduceLT, Nat.reduceBEq, Nat.zero_add, Nat.add_zero, Nat.zero_ne_one, Nat.one_ne_zero, Bool.not_true, Bool.not_false, Bool.and_true, Bool.true_and, Bool.and_false, Bool.false_and, BEq.rfl, beq_self_eq_true, Bool.false_eq_true, reduceCtorEq, not_false_eq_true, fv0, fv1, fv2, fv3, eb_l0, eb_l1, eb_l2, eb_l3, eb_l4, eb_l5, eb_s0, eb_s1, eb_s2, eb_s3, eb_s4, eb_s5, oz_add, oz_sub, oz_mul, oz_neg, ol_add, ol_sub, sD_eq, sD_sD, sD_ne, sD_in, sD_in2, sD_in3, upR_is, upR_ne, mk_v, mk_n, mk_x, mk_i, mv_cs, Nat.reduceLeDiff, mv_ch_z, nh_X10_isAutomatic, e1]
  · rw [if_neg h] at e1 ⊢
    obtain ⟨d, rfl⟩ : ∃ e, d = e + 1 := ⟨d - 1, by omega⟩
    apply mv_cl_of
    simp only [mv_il, Value.category, Nat.zero_add, Nat.reduceAdd]
    simp only [Nat.add_sub_cancel] at e1
    simp (disch := omega) only [mv_Ev_row r_X10_isAutomatic_0, mv_Ev_row r_X10_isAutomatic_1, mv_Ev_row r_X10_isAutomatic_2, mv_Ev_row r_X10_isAutomatic_5, mv_Ev_row r_X10_isAutomatic_8, ea_aload_n, ea_iload_n, kv_X10_existingBasin, gg_0_5 Ch.o1, ea_ireturn, ez_ret, ez_retc, mv_ac, decide_eq_true_eq, not_true_eq_false, and_self, and_true, true_and, ea_2n, ea_2f, ea_2c, ea_if, if_pos, if_neg, mv_lk, mv_f1, mv_f2, Value.category, List.filter, ↓reduceIte, Nat.reduceEqDiff, Nat.reduceAdd, Nat.reduceLT, Nat.reduceBEq, Nat.zero_add, Nat.add_zero, Nat.zero_ne_one, Nat.one_ne_zero, Bool.not_true, Bool.not_false, Bool.and_true, Bool.true_and, Bool.and_false, Bool.false_and, BEq.rfl, beq_self_eq_true, Bool.false_eq_true, reduceCtorEq, not_false_eq_true, fv0, fv1, fv2, fv3, eb_l0, eb_l1, eb_l2, eb_l3, eb_l4, eb_l5, eb_s0, eb_s1, eb_s2, eb_s3, eb_s4, eb_s5, oz_add, oz_sub, oz_mul, oz_neg, ol_add, ol_sub, sD_eq, sD_sD, sD_ne, sD_in, sD_in2, sD_in3, upR_is, upR_ne, mk_v, mk_n, mk_x, mk_i, mv_cs, Nat.reduceLeDiff, mv_ch_z, nh_X10_isAutomatic, e1]
theorem c_X10_spilled (hd : 3 ≤ d) {b : Int} (hW : zWF (T.1 o1) 99) (b1 : -2147483648 ≤ b) (b2 : b < 2147483648) : mv_cl L xs d k_X10_spilled [.ref 0, .int (Int32.ofInt b)] (t, 142, mz T) = some (if 0 ≤ b ∧ b < T.1 o1 0 then (.inl (some (.int (Int32.ofInt (T.1 o1 (6 + 9 * b + 7))))), (t, 142, mz T)) else (.inr 2, (t + 1, 142, mz T))) := by
  have a5 := hW.2.1
  have e1 := c_X10_exists (L := L) (xs := xs) (t := t) (T := T) (d := d - 1) (by omega) hW b1 b2
  by_cases h : 0 ≤ b ∧ b < T.1 o1 0
  · have hk := hW.2.2.2.2.1 b h.1 h.2
    unfold zOK at hk
    rw [if_pos h] at e1 ⊢
    obtain ⟨d, rfl⟩ : ∃ e, d = e + 1 := ⟨d - 1, by omega⟩
    apply mv_cl_of
    simp only [mv_il, Value.category, Nat.zero_add, Nat.reduceAdd]
    simp only [Nat.add_sub_cancel] at e1
    simp (disch := omega) only [mv_Ev_row r_X10_spilled_0, mv_Ev_row r_X10_spilled_1, mv_Ev_row r_X10_spilled_2, mv_Ev_row r_X10_spilled_5, mv_Ev_row r_X10_spilled_8, ea_aload_n, ea_iload_n, kv_X10_existingBasin, gg_0_7 Ch.o1, ea_ireturn, ez_ret, ez_retc, mv_ac, decide_eq_true_eq, not_true_eq_false, and_self, and_true, true_and, ea_2n, ea_2f, ea_2c, ea_if, if_pos, if_neg, mv_lk, mv_f1, mv_f2, Value.category, List.filter, ↓reduceIte, Nat.reduceEqDiff, Nat.reduceAdd, Nat.reduceLT, Nat.reduceBEq, Nat.zero_add, Nat.add_zero, Nat.zero_ne_one, Nat.one_ne_zero, Bool.not_true, Bool.not_false, Bool.and_true, Bool.true_and, Bool.and_false, Bool.false_and, BEq.rfl, beq_self_eq_true, Bool.false_eq_true, reduceCtorEq, not_false_eq_true, fv0, fv1, fv2, fv3, eb_l0, eb_l1, eb_l2, eb_l3, eb_l4, eb_l5, eb_s0, eb_s1, eb_s2, eb_s3, eb_s4, eb_s5, oz_add, oz_sub, oz_mul, oz_neg, ol_add, ol_sub, sD_eq, sD_sD, sD_ne, sD_in, sD_in2, sD_in3, upR_is, upR_ne, mk_v, mk_n, mk_x, mk_i, mv_cs, Nat.reduceLeDiff, mv_ch_z, nh_X10_spilled, e1]
  · rw [if_neg h] at e1 ⊢
    obtain ⟨d, rfl⟩ : ∃ e, d = e + 1 := ⟨d - 1, by omega⟩
    apply mv_cl_of
    simp only [mv_il, Value.category, Nat.zero_add, Nat.reduceAdd]
    simp only [Nat.add_sub_cancel] at e1
    simp (disch := omega) only [mv_Ev_row r_X10_spilled_0, mv_Ev_row r_X10_spilled_1, mv_Ev_row r_X10_spilled_2, mv_Ev_row r_X10_spilled_5, mv_Ev_row r_X10_spilled_8, ea_aload_n, ea_iload_n, kv_X10_existingBasin, gg_0_7 Ch.o1, ea_ireturn, ez_ret, ez_retc, mv_ac, decide_eq_true_eq, not_true_eq_false, and_self, and_true, true_and, ea_2n, ea_2f, ea_2c, ea_if, if_pos, if_neg, mv_lk, mv_f1, mv_f2, Value.category, List.filter, ↓reduceIte, Nat.reduceEqDiff, Nat.reduceAdd, Nat.reduceLT, Nat.reduceBEq, Nat.zero_add, Nat.add_zero, Nat.zero_ne_one, Nat.one_ne_zero, Bool.not_true, Bool.not_false, Bool.and_true, Bool.true_and, Bool.and_false, Bool.false_and, BEq.rfl, beq_self_eq_true, Bool.false_eq_true, reduceCtorEq, not_false_eq_true, fv0, fv1, fv2, fv3, eb_l0, eb_l1, eb_l2, eb_l3, eb_l4, eb_l5, eb_s0, eb_s1, eb_s2, eb_s3, eb_s4, eb_s5, oz_add, oz_sub, oz_mul, oz_neg, ol_add, ol_sub, sD_eq, sD_sD, sD_ne, sD_in, sD_in2, sD_in3, upR_is, upR_ne, mk_v, mk_n, mk_x, mk_i, mv_cs, Nat.reduceLeDiff, mv_ch_z, nh_X10_spilled, e1]
theorem c_X10_floodedSteps (hd : 3 ≤ d) {b : Int} (hW : zWF (T.1 o1) 99) (b1 : -2147483648 ≤ b) (b2 : b < 2147483648) : mv_cl L xs d k_X10_floodedSteps [.ref 0, .int (Int32.ofInt b)] (t, 142, mz T) = some (if 0 ≤ b ∧ b < T.1 o1 0 then (.inl (some (.int (Int32.ofInt (T.1 o1 (6 + 9 * b + 8))))), (t, 142, mz T)) else (.inr 2, (t + 1, 142, mz T))) := by
  have a5 := hW.2.1
  have e1 := c_X10_exists (L := L) (xs := xs) (t := t) (T := T) (d := d - 1) (by omega) hW b1 b2
  by_cases h : 0 ≤ b ∧ b < T.1 o1 0
  · have hk := hW.2.2.2.2.1 b h.1 h.2
    unfold zOK at hk
    rw [if_pos h] at e1 ⊢
    obtain ⟨d, rfl⟩ : ∃ e, d = e + 1 := ⟨d - 1, by omega⟩
    apply mv_cl_of
    simp only [mv_il, Value.category, Nat.zero_add, Nat.reduceAdd]
    simp only [Nat.add_sub_cancel] at e1
    simp (disch := omega) only [mv_Ev_row r_X10_floodedSteps_0, mv_Ev_row r_X10_floodedSteps_1, mv_Ev_row r_X10_floodedSteps_2, mv_Ev_row r_X10_floodedSteps_5, mv_Ev_row r_X10_floodedSteps_8, ea_aload_n, ea_iload_n, kv_X10_existingBasin, gg_0_8 Ch.o1, ea_ireturn, ez_ret, ez_retc, mv_ac, decide_eq_true_eq, not_true_eq_false, and_self, and_true, true_and, ea_2n, ea_2f, ea_2c, ea_if, if_pos, if_neg, mv_lk, mv_f1, mv_f2, Value.category, List.filter, ↓reduceIte, Nat.reduceEqDiff, Nat.reduceAdd, Nat.reduceLT, Nat.reduceBEq, Nat.zero_add, Nat.add_zero, Nat.zero_ne_one, Nat.one_ne_zero, Bool.not_true, Bool.not_false, Bool.and_true, Bool.true_and, Bool.and_false, Bool.false_and, BEq.rfl, beq_self_eq_true, Bool.false_eq_true, reduceCtorEq, not_false_eq_true, fv0, fv1, fv2, fv3, eb_l0, eb_l1, eb_l2, eb_l3, eb_l4, eb_l5, eb_s0, eb_s1, eb_s2, eb_s3, eb_s4, eb_s5, oz_add, oz_sub, oz_mul, oz_neg, ol_add, ol_sub, sD_eq, sD_sD, sD_ne, sD_in, sD_in2, sD_in3, upR_is, upR_ne, mk_v, mk_n, mk_x, mk_i, mv_cs, Nat.reduceLeDiff, mv_ch_z, nh_X10_floodedSteps, e1]
  · rw [if_neg h] at e1 ⊢
    obtain ⟨d, rfl⟩ : ∃ e, d = e + 1 := ⟨d - 1, by omega⟩
    apply mv_cl_of
    simp only [mv_il, Value.category, Nat.zero_add, Nat.reduceAdd]
    simp only [Nat.add_sub_cancel] at e1
    simp (disch := omega) only [mv_Ev_row r_X10_floodedSteps_0, mv_Ev_row r_X10_floodedSteps_1, mv_Ev_row r_X10_floodedSteps_2, mv_Ev_row r_X10_floodedSteps_5, mv_Ev_row r_X10_floodedSteps_8, ea_aload_n, ea_iload_n, kv_X10_existingBasin, gg_0_8 Ch.o1, ea_ireturn, ez_ret, ez_retc, mv_ac, decide_eq_true_eq, not_true_eq_false, and_self, and_true, true_and, ea_2n, ea_2f, ea_2c, ea_if, if_pos, if_neg, mv_lk, mv_f1, mv_f2, Value.category, List.filter, ↓reduceIte, Nat.reduceEqDiff, Nat.reduceAdd, Nat.reduceLT, Nat.reduceBEq, Nat.zero_add, Nat.add_zero, Nat.zero_ne_one, Nat.one_ne_zero, Bool.not_true, Bool.not_false, Bool.and_true, Bool.true_and, Bool.and_false, Bool.false_and, BEq.rfl, beq_self_eq_true, Bool.false_eq_true, reduceCtorEq, not_false_eq_true, fv0, fv1, fv2, fv3, eb_l0, eb_l1, eb_l2, eb_l3, eb_l4, eb_l5, eb_s0, eb_s1, eb_s2, eb_s3, eb_s4, eb_s5, oz_add, oz_sub, oz_mul, oz_neg, ol_add, ol_sub, sD_eq, sD_sD, sD_ne, sD_in, sD_in2, sD_in3, upR_is, upR_ne, mk_v, mk_n, mk_x, mk_i, mv_cs, Nat.reduceLeDiff, mv_ch_z, nh_X10_floodedSteps, e1]
theorem c_X10_threshold (hd : 3 ≤ d) {b : Int} (hW : zWF (T.1 o1) 99) (b1 : -2147483648 ≤ b) (b2 : b < 2147483648) : mv_cl L xs d k_X10_threshold [.ref 0, .int (Int32.ofInt b)] (t, 142, mz T) = some (if 0 ≤ b ∧ b < T.1 o1 0 then (if T.1 o1 (6 + 9 * b + 5) = 1 then (.inl (some (.int (Int32.ofInt (T.1 o1 (6 + 9 * b + 6))))), (t, 142, mz T)) else (.inr 5, (t + 1, 142, mz T))) else (.inr 2, (t + 1, 142, mz T))) := by
  have a5 := hW.2.1
  have e1 := c_X10_exists (L := L) (xs := xs) (t := t) (T := T) (d := d - 1) (by omega) hW b1 b2
  by_cases h : 0 ≤ b ∧ b < T.1 o1 0
  · have hk := hW.2.2.2.2.1 b h.1 h.2
    unfold zOK at hk
    rw [if_pos h] at e1 ⊢
    by_cases g : T.1 o1 (6 + 9 * b + 5) = 1
    · rw [if_pos g]
      obtain ⟨d, rfl⟩ : ∃ e, d = e + 1 := ⟨d - 1, by omega⟩
      apply mv_cl_of
      simp only [mv_il, Value.category, Nat.zero_add, Nat.reduceAdd]
      simp only [Nat.add_sub_cancel] at e1
      simp (disch := omega) only [mv_Ev_row r_X10_threshold_0, mv_Ev_row r_X10_threshold_1, mv_Ev_row r_X10_threshold_2, mv_Ev_row r_X10_threshold_5, mv_Ev_row r_X10_threshold_6, mv_Ev_row r_X10_threshold_7, mv_Ev_row r_X10_threshold_10, mv_Ev_row r_X10_threshold_13, mv_Ev_row r_X10_threshold_16, mv_Ev_row r_X10_threshold_17, mv_Ev_row r_X10_threshold_19, mv_Ev_row r_X10_threshold_22, mv_Ev_row r_X10_threshold_23, mv_Ev_row r_X10_threshold_24, mv_Ev_row r_X10_threshold_27, ea_aload_n, ea_iload_n, kv_X10_existingBasin, ea_astore_n, gg_0_5 Ch.o1, ea_ifc, ez_thr, ea_dup_i, ea_dup_r, ea_ldc, gg_0_6 Ch.o1, ea_ireturn, ez_ret, ez_retc, c0_eq, c0_ne, c0_lt, c0_ge, c0_gt, c0_le, mv_ac, decide_eq_true_eq, not_true_eq_false, and_self, and_true, true_and, ea_2n, ea_2f, ea_2c, ea_if, if_pos, if_neg, mv_lk, mv_f1, mv_f2, Value.category, List.filter, ↓reduceIte, Nat.reduceEqDiff, Nat.reduceAdd, Nat.reduceLT, Nat.reduceBEq, Nat.zero_add, Nat.add_zero, Nat.zero_ne_one, Nat.one_ne_zero, Bool.not_true, Bool.not_false, Bool.and_true, Bool.true_and, Bool.and_false, Bool.false_and, BEq.rfl, beq_self_eq_true, Bool.false_eq_true, reduceCtorEq, not_false_eq_true, fv0, fv1, fv2, fv3, eb_l0, eb_l1, eb_l2, eb_l3, eb_l4, eb_l5, eb_s0, eb_s1, eb_s2, eb_s3, eb_s4, eb_s5, oz_add, oz_sub, oz_mul, oz_neg, ol_add, ol_sub, sD_eq, sD_sD, sD_ne, sD_in, sD_in2, sD_in3, upR_is, upR_ne, mk_v, mk_n, mk_x, mk_i, mv_cs, Nat.reduceLeDiff, mv_ch_z, nh_X10_threshold, e1]
    · rw [if_neg g]
      obtain ⟨d, rfl⟩ : ∃ e, d = e + 1 := ⟨d - 1, by omega⟩
      apply mv_cl_of
      simp only [mv_il, Value.category, Nat.zero_add, Nat.reduceAdd]
      simp only [Nat.add_sub_cancel] at e1
      simp (disch := omega) only [mv_Ev_row r_X10_threshold_0, mv_Ev_row r_X10_threshold_1, mv_Ev_row r_X10_threshold_2, mv_Ev_row r_X10_threshold_5, mv_Ev_row r_X10_threshold_6, mv_Ev_row r_X10_threshold_7, mv_Ev_row r_X10_threshold_10, mv_Ev_row r_X10_threshold_13, mv_Ev_row r_X10_threshold_16, mv_Ev_row r_X10_threshold_17, mv_Ev_row r_X10_threshold_19, mv_Ev_row r_X10_threshold_22, mv_Ev_row r_X10_threshold_23, mv_Ev_row r_X10_threshold_24, mv_Ev_row r_X10_threshold_27, ea_aload_n, ea_iload_n, kv_X10_existingBasin, ea_astore_n, gg_0_5 Ch.o1, ea_ifc, ez_thr, ea_dup_i, ea_dup_r, ea_ldc, gg_0_6 Ch.o1, ea_ireturn, ez_ret, ez_retc, c0_eq, c0_ne, c0_lt, c0_ge, c0_gt, c0_le, mv_ac, decide_eq_true_eq, not_true_eq_false, and_self, and_true, true_and, ea_2n, ea_2f, ea_2c, ea_if, if_pos, if_neg, mv_lk, mv_f1, mv_f2, Value.category, List.filter, ↓reduceIte, Nat.reduceEqDiff, Nat.reduceAdd, Nat.reduceLT, Nat.reduceBEq, Nat.zero_add, Nat.add_zero, Nat.zero_ne_one, Nat.one_ne_zero, Bool.not_true, Bool.not_false, Bool.and_true, Bool.true_and, Bool.and_false, Bool.false_and, BEq.rfl, beq_self_eq_true, Bool.false_eq_true, reduceCtorEq, not_false_eq_true, fv0, fv1, fv2, fv3, eb_l0, eb_l1, eb_l2, eb_l3, eb_l4, eb_l5, eb_s0, eb_s1, eb_s2, eb_s3, eb_s4, eb_s5, oz_add, oz_sub, oz_mul, oz_neg, ol_add, ol_sub, sD_eq, sD_sD, sD_ne, sD_in, sD_in2, sD_in3, upR_is, upR_ne, mk_v, mk_n, mk_x, mk_i, mv_cs, Nat.reduceLeDiff, mv_ch_z, nh_X10_threshold, e1]
  · rw [if_neg h] at e1 ⊢
    obtain ⟨d, rfl⟩ : ∃ e, d = e + 1 := ⟨d - 1, by omega⟩
    apply mv_cl_of
    simp only [mv_il, Value.category, Nat.zero_add, Nat.reduceAdd]
    simp only [Nat.add_sub_cancel] at e1
    simp (disch := omega) only [mv_Ev_row r_X10_threshold_0, mv_Ev_row r_X10_threshold_1, mv_Ev_row r_X10_threshold_2, mv_Ev_row r_X10_threshold_5, mv_Ev_row r_X10_threshold_6, mv_Ev_row r_X10_threshold_7, mv_Ev_row r_X10_threshold_10, mv_Ev_row r_X10_threshold_13, mv_Ev_row r_X10_threshold_16, mv_Ev_row r_X10_threshold_17, mv_Ev_row r_X10_threshold_19, mv_Ev_row r_X10_threshold_22, mv_Ev_row r_X10_threshold_23, mv_Ev_row r_X10_threshold_24, mv_Ev_row r_X10_threshold_27, ea_aload_n, ea_iload_n, kv_X10_existingBasin, ea_astore_n, gg_0_5 Ch.o1, ea_ifc, ez_thr, ea_dup_i, ea_dup_r, ea_ldc, gg_0_6 Ch.o1, ea_ireturn, ez_ret, ez_retc, c0_eq, c0_ne, c0_lt, c0_ge, c0_gt, c0_le, mv_ac, decide_eq_true_eq, not_true_eq_false, and_self, and_true, true_and, ea_2n, ea_2f, ea_2c, ea_if, if_pos, if_neg, mv_lk, mv_f1, mv_f2, Value.category, List.filter, ↓reduceIte, Nat.reduceEqDiff, Nat.reduceAdd, Nat.reduceLT, Nat.reduceBEq, Nat.zero_add, Nat.add_zero, Nat.zero_ne_one, Nat.one_ne_zero, Bool.not_true, Bool.not_false, Bool.and_true, Bool.true_and, Bool.and_false, Bool.false_and, BEq.rfl, beq_self_eq_true, Bool.false_eq_true, reduceCtorEq, not_false_eq_true, fv0, fv1, fv2, fv3, eb_l0, eb_l1, eb_l2, eb_l3, eb_l4, eb_l5, eb_s0, eb_s1, eb_s2, eb_s3, eb_s4, eb_s5, oz_add, oz_sub, oz_mul, oz_neg, ol_add, ol_sub, sD_eq, sD_sD, sD_ne, sD_in, sD_in2, sD_in3, upR_is, upR_ne, mk_v, mk_n, mk_x, mk_i, mv_cs, Nat.reduceLeDiff, mv_ch_z, nh_X10_threshold, e1]
theorem c_X10_basinCount (hd : 1 ≤ d) : mv_cl L xs d k_X10_basinCount [.ref 0] (t, 142, mz T) = some (.inl (some (.int (Int32.ofInt (T.1 o1 0)))), (t, 142, mz T)) := by
  obtain ⟨d, rfl⟩ : ∃ e, d = e + 1 := ⟨d - 1, by omega⟩
  apply mv_cl_of
  simp only [mv_il, Value.category, Nat.zero_add, Nat.reduceAdd]
  simp (disch := omega) only [mv_Ev_row r_X10_basinCount_0, mv_Ev_row r_X10_basinCount_1, mv_Ev_row r_X10_basinCount_4, mv_Ev_row r_X10_basinCount_7, ea_aload_n, gg_1_1 Ch.o1, ea_ireturn, ez_ret, ez_retc, mv_ac, decide_eq_true_eq, not_true_eq_false, and_self, and_true, true_and, ea_2n, ea_2f, ea_2c, ea_if, if_pos, if_neg, mv_lk, mv_f1, mv_f2, Value.category, List.filter, ↓reduceIte, Nat.reduceEqDiff, Nat.reduceAdd, Nat.reduceLT, Nat.reduceBEq, Nat.zero_add, Nat.add_zero, Nat.zero_ne_one, Nat.one_ne_zero, Bool.not_true, Bool.not_false, Bool.and_true, Bool.true_and, Bool.and_false, Bool.false_and, BEq.rfl, beq_self_eq_true, Bool.false_eq_true, reduceCtorEq, not_false_eq_true, fv0, fv1, fv2, fv3, eb_l0, eb_l1, eb_l2, eb_l3, eb_l4, eb_l5, eb_s0, eb_s1, eb_s2, eb_s3, eb_s4, eb_s5, oz_add, oz_sub, oz_mul, oz_neg, ol_add, ol_sub, sD_eq, sD_sD, sD_ne, sD_in, sD_in2, sD_in3, upR_is, upR_ne, mk_v, mk_n, mk_x, mk_i, mv_cs, Nat.reduceLeDiff, mv_ch_z, nh_X10_basinCount, g7_0]
theorem c_X10_time (hd : 1 ≤ d) : mv_cl L xs d k_X10_time [.ref 0] (t, 142, mz T) = some (.inl (some (.int (Int32.ofInt (T.1 o1 1)))), (t, 142, mz T)) := by
  obtain ⟨d, rfl⟩ : ∃ e, d = e + 1 := ⟨d - 1, by omega⟩
  apply mv_cl_of
  simp only [mv_il, Value.category, Nat.zero_add, Nat.reduceAdd]
  simp (disch := omega) only [mv_Ev_row r_X10_time_0, mv_Ev_row r_X10_time_1, mv_Ev_row r_X10_time_4, mv_Ev_row r_X10_time_7, ea_aload_n, gg_1_4 Ch.o1, ea_ireturn, ez_ret, ez_retc, mv_ac, decide_eq_true_eq, not_true_eq_false, and_self, and_true, true_and, ea_2n, ea_2f, ea_2c, ea_if, if_pos, if_neg, mv_lk, mv_f1, mv_f2, Value.category, List.filter, ↓reduceIte, Nat.reduceEqDiff, Nat.reduceAdd, Nat.reduceLT, Nat.reduceBEq, Nat.zero_add, Nat.add_zero, Nat.zero_ne_one, Nat.one_ne_zero, Bool.not_true, Bool.not_false, Bool.and_true, Bool.true_and, Bool.and_false, Bool.false_and, BEq.rfl, beq_self_eq_true, Bool.false_eq_true, reduceCtorEq, not_false_eq_true, fv0, fv1, fv2, fv3, eb_l0, eb_l1, eb_l2, eb_l3, eb_l4, eb_l5, eb_s0, eb_s1, eb_s2, eb_s3, eb_s4, eb_s5, oz_add, oz_sub, oz_mul, oz_neg, ol_add, ol_sub, sD_eq, sD_sD, sD_ne, sD_in, sD_in2, sD_in3, upR_is, upR_ne, mk_v, mk_n, mk_x, mk_i, mv_cs, Nat.reduceLeDiff, mv_ch_z, nh_X10_time, g7_0]
theorem c_X10_forecastLength (hd : 1 ≤ d) : mv_cl L xs d k_X10_forecastLength [.ref 0] (t, 142, mz T) = some (.inl (some (.int (Int32.ofInt (T.1 o1 2)))), (t, 142, mz T)) := by
  obtain ⟨d, rfl⟩ : ∃ e, d = e + 1 := ⟨d - 1, by omega⟩
  apply mv_cl_of
  simp only [mv_il, Value.category, Nat.zero_add, Nat.reduceAdd]
  simp (disch := omega) only [mv_Ev_row r_X10_forecastLength_0, mv_Ev_row r_X10_forecastLength_1, mv_Ev_row r_X10_forecastLength_4, mv_Ev_row r_X10_forecastLength_7, ea_aload_n, gg_1_3 Ch.o1, ea_ireturn, ez_ret, ez_retc, mv_ac, decide_eq_true_eq, not_true_eq_false, and_self, and_true, true_and, ea_2n, ea_2f, ea_2c, ea_if, if_pos, if_neg, mv_lk, mv_f1, mv_f2, Value.category, List.filter, ↓reduceIte, Nat.reduceEqDiff, Nat.reduceAdd, Nat.reduceLT, Nat.reduceBEq, Nat.zero_add, Nat.add_zero, Nat.zero_ne_one, Nat.one_ne_zero, Bool.not_true, Bool.not_false, Bool.and_true, Bool.true_and, Bool.and_false, Bool.false_and, BEq.rfl, beq_self_eq_true, Bool.false_eq_true, reduceCtorEq, not_false_eq_true, fv0, fv1, fv2, fv3, eb_l0, eb_l1, eb_l2, eb_l3, eb_l4, eb_l5, eb_s0, eb_s1, eb_s2, eb_s3, eb_s4, eb_s5, oz_add, oz_sub, oz_mul, oz_neg, ol_add, ol_sub, sD_eq, sD_sD, sD_ne, sD_in, sD_in2, sD_in3, upR_is, upR_ne, mk_v, mk_n, mk_x, mk_i, mv_cs, Nat.reduceLeDiff, mv_ch_z, nh_X10_forecastLength, g7_0]
theorem c_X10_rainAt (hd : 1 ≤ d) {i : Int} (hW : zWF (T.1 o1) 99) (i1 : -2147483648 ≤ i) (i2 : i < 2147483648) : mv_cl L xs d k_X10_rainAt [.ref 0, .int (Int32.ofInt i)] (t, 142, mz T) = some (if 0 ≤ i ∧ i < T.1 o1 2 then (.inl (some (.int (Int32.ofInt (T.1 o1 (51 + i))))), (t, 142, mz T)) else (.inr 2, (t + 1, 142, mz T))) := by
  have a2 := hW.2.2.1
  have a12 := hW.2.2.2.1
  by_cases h0 : 0 ≤ i
  · by_cases h : i < T.1 o1 2
    · rw [if_pos ⟨h0, h⟩]
      obtain ⟨d, rfl⟩ : ∃ e, d = e + 1 := ⟨d - 1, by omega⟩
      apply mv_cl_of
      simp only [mv_il, Value.category, Nat.zero_add, Nat.reduceAdd]
      simp (disch := omega) only [mv_Ev_row r_X10_rainAt_0, mv_Ev_row r_X10_rainAt_1, mv_Ev_row r_X10_rainAt_4, mv_Ev_row r_X10_rainAt_5, mv_Ev_row r_X10_rainAt_6, mv_Ev_row r_X10_rainAt_9, mv_Ev_row r_X10_rainAt_12, mv_Ev_row r_X10_rainAt_15, mv_Ev_row r_X10_rainAt_18, mv_Ev_row r_X10_rainAt_19, mv_Ev_row r_X10_rainAt_21, mv_Ev_row r_X10_rainAt_24, mv_Ev_row r_X10_rainAt_25, mv_Ev_row r_X10_rainAt_26, mv_Ev_row r_X10_rainAt_29, mv_Ev_row r_X10_rainAt_32, mv_Ev_row r_X10_rainAt_33, mv_Ev_row r_X10_rainAt_34, ea_iload_n, ea_ifc, ea_aload_n, gg_1_3 Ch.o1, ea_icmp, ez_thr, ea_dup_i, ea_dup_r, ea_ldc, gg_1_2 Ch.o1, ea_ireturn, ez_ret, ez_retc, ar_ld (AI.fc Ch.o1), cz_eq, cz_ne, cz_lt, cz_ge, cz_gt, cz_le, c0_eq, c0_ne, c0_lt, c0_ge, c0_gt, c0_le, mv_ac, decide_eq_true_eq, not_true_eq_false, and_self, and_true, true_and, ea_2n, ea_2f, ea_2c, ea_if, if_pos, if_neg, mv_lk, mv_f1, mv_f2, Value.category, List.filter, ↓reduceIte, Nat.reduceEqDiff, Nat.reduceAdd, Nat.reduceLT, Nat.reduceBEq, Nat.zero_add, Nat.add_zero, Nat.zero_ne_one, Nat.one_ne_zero, Bool.not_true, Bool.not_false, Bool.and_true, Bool.true_and, Bool.and_false, Bool.false_and, BEq.rfl, beq_self_eq_true, Bool.false_eq_true, reduceCtorEq, not_false_eq_true, fv0, fv1, fv2, fv3, eb_l0, eb_l1, eb_l2, eb_l3, eb_l4, eb_l5, eb_s0, eb_s1, eb_s2, eb_s3, eb_s4, eb_s5, oz_add, oz_sub, oz_mul, oz_neg, ol_add, ol_sub, sD_eq, sD_sD, sD_ne, sD_in, sD_in2, sD_in3, upR_is, upR_ne, mk_v, mk_n, mk_x, mk_i, mv_cs, Nat.reduceLeDiff, mv_ch_z, nh_X10_rainAt, g7_0]
    · rw [if_neg (fun q => h q.2)]
      obtain ⟨d, rfl⟩ : ∃ e, d = e + 1 := ⟨d - 1, by omega⟩
      apply mv_cl_of
      simp only [mv_il, Value.category, Nat.zero_add, Nat.reduceAdd]
      simp (disch := omega) only [mv_Ev_row r_X10_rainAt_0, mv_Ev_row r_X10_rainAt_1, mv_Ev_row r_X10_rainAt_4, mv_Ev_row r_X10_rainAt_5, mv_Ev_row r_X10_rainAt_6, mv_Ev_row r_X10_rainAt_9, mv_Ev_row r_X10_rainAt_12, mv_Ev_row r_X10_rainAt_15, mv_Ev_row r_X10_rainAt_18, mv_Ev_row r_X10_rainAt_19, mv_Ev_row r_X10_rainAt_21, mv_Ev_row r_X10_rainAt_24, mv_Ev_row r_X10_rainAt_25, mv_Ev_row r_X10_rainAt_26, mv_Ev_row r_X10_rainAt_29, mv_Ev_row r_X10_rainAt_32, mv_Ev_row r_X10_rainAt_33, mv_Ev_row r_X10_rainAt_34, ea_iload_n, ea_ifc, ea_aload_n, gg_1_3 Ch.o1, ea_icmp, ez_thr, ea_dup_i, ea_dup_r, ea_ldc, gg_1_2 Ch.o1, ea_ireturn, ez_ret, ez_retc, ar_ld (AI.fc Ch.o1), cz_eq, cz_ne, cz_lt, cz_ge, cz_gt, cz_le, c0_eq, c0_ne, c0_lt, c0_ge, c0_gt, c0_le, mv_ac, decide_eq_true_eq, not_true_eq_false, and_self, and_true, true_and, ea_2n, ea_2f, ea_2c, ea_if, if_pos, if_neg, mv_lk, mv_f1, mv_f2, Value.category, List.filter, ↓reduceIte, Nat.reduceEqDiff, Nat.reduceAdd, Nat.reduceLT, Nat.reduceBEq, Nat.zero_add, Nat.add_zero, Nat.zero_ne_one, Nat.one_ne_zero, Bool.not_true, Bool.not_false, Bool.and_true, Bool.true_and, Bool.and_false, Bool.false_and, BEq.rfl, beq_self_eq_true, Bool.false_eq_true, reduceCtorEq, not_false_eq_true, fv0, fv1, fv2, fv3, eb_l0, eb_l1, eb_l2, eb_l3, eb_l4, eb_l5, eb_s0, eb_s1, eb_s2, eb_s3, eb_s4, eb_s5, oz_add, oz_sub, oz_mul, oz_neg, ol_add, ol_sub, sD_eq, sD_sD, sD_ne, sD_in, sD_in2, sD_in3, upR_is, upR_ne, mk_v, mk_n, mk_x, mk_i, mv_cs, Nat.reduceLeDiff, mv_ch_z, nh_X10_rainAt, g7_0]
  · rw [if_neg (fun q => h0 q.1)]
    obtain ⟨d, rfl⟩ : ∃ e, d = e + 1 := ⟨d - 1, by omega⟩
    apply mv_cl_of
    simp only [mv_il, Value.category, Nat.zero_add, Nat.reduceAdd]
    simp (disch := omega) only [mv_Ev_row r_X10_rainAt_0, mv_Ev_row r_X10_rainAt_1, mv_Ev_row r_X10_rainAt_4, mv_Ev_row r_X10_rainAt_5, mv_Ev_row r_X10_rainAt_6, mv_Ev_row r_X10_rainAt_9, mv_Ev_row r_X10_rainAt_12, mv_Ev_row r_X10_rainAt_15, mv_Ev_row r_X10_rainAt_18, mv_Ev_row r_X10_rainAt_19, mv_Ev_row r_X10_rainAt_21, mv_Ev_row r_X10_rainAt_24, mv_Ev_row r_X10_rainAt_25, mv_Ev_row r_X10_rainAt_26, mv_Ev_row r_X10_rainAt_29, mv_Ev_row r_X10_rainAt_32, mv_Ev_row r_X10_rainAt_33, mv_Ev_row r_X10_rainAt_34, ea_iload_n, ea_ifc, ea_aload_n, gg_1_3 Ch.o1, ea_icmp, ez_thr, ea_dup_i, ea_dup_r, ea_ldc, gg_1_2 Ch.o1, ea_ireturn, ez_ret, ez_retc, ar_ld (AI.fc Ch.o1), cz_eq, cz_ne, cz_lt, cz_ge, cz_gt, cz_le, c0_eq, c0_ne, c0_lt, c0_ge, c0_gt, c0_le, mv_ac, decide_eq_true_eq, not_true_eq_false, and_self, and_true, true_and, ea_2n, ea_2f, ea_2c, ea_if, if_pos, if_neg, mv_lk, mv_f1, mv_f2, Value.category, List.filter, ↓reduceIte, Nat.reduceEqDiff, Nat.reduceAdd, Nat.reduceLT, Nat.reduceBEq, Nat.zero_add, Nat.add_zero, Nat.zero_ne_one, Nat.one_ne_zero, Bool.not_true, Bool.not_false, Bool.and_true, Bool.true_and, Bool.and_false, Bool.false_and, BEq.rfl, beq_self_eq_true, Bool.false_eq_true, reduceCtorEq, not_false_eq_true, fv0, fv1, fv2, fv3, eb_l0, eb_l1, eb_l2, eb_l3, eb_l4, eb_l5, eb_s0, eb_s1, eb_s2, eb_s3, eb_s4, eb_s5, oz_add, oz_sub, oz_mul, oz_neg, ol_add, ol_sub, sD_eq, sD_sD, sD_ne, sD_in, sD_in2, sD_in3, upR_is, upR_ne, mk_v, mk_n, mk_x, mk_i, mv_cs, Nat.reduceLeDiff, mv_ch_z, nh_X10_rainAt, g7_0]
end FCE
