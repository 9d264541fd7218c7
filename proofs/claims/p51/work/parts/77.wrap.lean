/-! THE LAW'S WRAPPERS -/
theorem tb_L_addBasin : mv_tb k_L_addBasin = t_L_addBasin := rfl
theorem r_L_addBasin_0 : mv_in k_L_addBasin 0 = some (.aload_n 0, 1, 0, 0, 0) := by unfold mv_in; rw [tb_L_addBasin]; rfl
theorem r_L_addBasin_1 : mv_in k_L_addBasin 1 = some (.iload_n 1, 2, 0, 0, 0) := by unfold mv_in; rw [tb_L_addBasin]; rfl
theorem r_L_addBasin_2 : mv_in k_L_addBasin 2 = some (.iload_n 2, 3, 0, 0, 0) := by unfold mv_in; rw [tb_L_addBasin]; rfl
theorem r_L_addBasin_3 : mv_in k_L_addBasin 3 = some (.iload_n 3, 4, 0, 0, 0) := by unfold mv_in; rw [tb_L_addBasin]; rfl
theorem r_L_addBasin_4 : mv_in k_L_addBasin 4 = some (.invokevirtual 13, 7, k_X10_addBasin, 4, 828) := by unfold mv_in; rw [tb_L_addBasin]; rfl
theorem r_L_addBasin_7 : mv_in k_L_addBasin 7 = some (.ireturn, 8, 0, 0, 0) := by unfold mv_in; rw [tb_L_addBasin]; rfl
theorem r_L_addBasin_8 : mv_in k_L_addBasin 8 = some (.astore 4, 10, 0, 0, 0) := by unfold mv_in; rw [tb_L_addBasin]; rfl
theorem r_L_addBasin_10 : mv_in k_L_addBasin 10 = some (.sipush (-20000), 13, 0, 0, 0) := by unfold mv_in; rw [tb_L_addBasin]; rfl
theorem r_L_addBasin_13 : mv_in k_L_addBasin 13 = some (.ireturn, 14, 0, 0, 0) := by unfold mv_in; rw [tb_L_addBasin]; rfl
theorem r_L_addBasin_14 : mv_in k_L_addBasin 14 = some (.astore 4, 16, 0, 0, 0) := by unfold mv_in; rw [tb_L_addBasin]; rfl
theorem r_L_addBasin_16 : mv_in k_L_addBasin 16 = some (.sipush (-10000), 19, 0, 0, 0) := by unfold mv_in; rw [tb_L_addBasin]; rfl
theorem r_L_addBasin_19 : mv_in k_L_addBasin 19 = some (.ireturn, 20, 0, 0, 0) := by unfold mv_in; rw [tb_L_addBasin]; rfl
theorem tb_L_setGate : mv_tb k_L_setGate = t_L_setGate := rfl
theorem r_L_setGate_0 : mv_in k_L_setGate 0 = some (.aload_n 0, 1, 0, 0, 0) := by unfold mv_in; rw [tb_L_setGate]; rfl
theorem r_L_setGate_1 : mv_in k_L_setGate 1 = some (.iload_n 1, 2, 0, 0, 0) := by unfold mv_in; rw [tb_L_setGate]; rfl
theorem r_L_setGate_2 : mv_in k_L_setGate 2 = some (.iload_n 2, 3, 0, 0, 0) := by unfold mv_in; rw [tb_L_setGate]; rfl
theorem r_L_setGate_3 : mv_in k_L_setGate 3 = some (.invokevirtual 23, 6, k_X10_setGate, 3, 937) := by unfold mv_in; rw [tb_L_setGate]; rfl
theorem r_L_setGate_6 : mv_in k_L_setGate 6 = some (.ireturn, 7, 0, 0, 0) := by unfold mv_in; rw [tb_L_setGate]; rfl
theorem r_L_setGate_7 : mv_in k_L_setGate 7 = some (.astore_n 3, 8, 0, 0, 0) := by unfold mv_in; rw [tb_L_setGate]; rfl
theorem r_L_setGate_8 : mv_in k_L_setGate 8 = some (.sipush (-25000), 11, 0, 0, 0) := by unfold mv_in; rw [tb_L_setGate]; rfl
theorem r_L_setGate_11 : mv_in k_L_setGate 11 = some (.ireturn, 12, 0, 0, 0) := by unfold mv_in; rw [tb_L_setGate]; rfl
theorem r_L_setGate_12 : mv_in k_L_setGate 12 = some (.astore_n 3, 13, 0, 0, 0) := by unfold mv_in; rw [tb_L_setGate]; rfl
theorem r_L_setGate_13 : mv_in k_L_setGate 13 = some (.sipush (-20000), 16, 0, 0, 0) := by unfold mv_in; rw [tb_L_setGate]; rfl
theorem r_L_setGate_16 : mv_in k_L_setGate 16 = some (.ireturn, 17, 0, 0, 0) := by unfold mv_in; rw [tb_L_setGate]; rfl
theorem r_L_setGate_17 : mv_in k_L_setGate 17 = some (.astore_n 3, 18, 0, 0, 0) := by unfold mv_in; rw [tb_L_setGate]; rfl
theorem r_L_setGate_18 : mv_in k_L_setGate 18 = some (.sipush (-10000), 21, 0, 0, 0) := by unfold mv_in; rw [tb_L_setGate]; rfl
theorem r_L_setGate_21 : mv_in k_L_setGate 21 = some (.ireturn, 22, 0, 0, 0) := by unfold mv_in; rw [tb_L_setGate]; rfl
theorem tb_L_setAutomatic : mv_tb k_L_setAutomatic = t_L_setAutomatic := rfl
theorem r_L_setAutomatic_0 : mv_in k_L_setAutomatic 0 = some (.aload_n 0, 1, 0, 0, 0) := by unfold mv_in; rw [tb_L_setAutomatic]; rfl
theorem r_L_setAutomatic_1 : mv_in k_L_setAutomatic 1 = some (.iload_n 1, 2, 0, 0, 0) := by unfold mv_in; rw [tb_L_setAutomatic]; rfl
theorem r_L_setAutomatic_2 : mv_in k_L_setAutomatic 2 = some (.iload_n 2, 3, 0, 0, 0) := by unfold mv_in; rw [tb_L_setAutomatic]; rfl
theorem r_L_setAutomatic_3 : mv_in k_L_setAutomatic 3 = some (.invokevirtual 29, 6, k_X10_setAutomatic, 3, 946) := by unfold mv_in; rw [tb_L_setAutomatic]; rfl
theorem r_L_setAutomatic_6 : mv_in k_L_setAutomatic 6 = some (.ireturn, 7, 0, 0, 0) := by unfold mv_in; rw [tb_L_setAutomatic]; rfl
theorem r_L_setAutomatic_7 : mv_in k_L_setAutomatic 7 = some (.astore_n 3, 8, 0, 0, 0) := by unfold mv_in; rw [tb_L_setAutomatic]; rfl
theorem r_L_setAutomatic_8 : mv_in k_L_setAutomatic 8 = some (.sipush (-25000), 11, 0, 0, 0) := by unfold mv_in; rw [tb_L_setAutomatic]; rfl
theorem r_L_setAutomatic_11 : mv_in k_L_setAutomatic 11 = some (.ireturn, 12, 0, 0, 0) := by unfold mv_in; rw [tb_L_setAutomatic]; rfl
theorem r_L_setAutomatic_12 : mv_in k_L_setAutomatic 12 = some (.astore_n 3, 13, 0, 0, 0) := by unfold mv_in; rw [tb_L_setAutomatic]; rfl
theorem r_L_setAutomatic_13 : mv_in k_L_setAutomatic 13 = some (.sipush (-20000), 16, 0, 0, 0) := by unfold mv_in; rw [tb_L_setAutomatic]; rfl
theorem r_L_setAutomatic_16 : mv_in k_L_setAutomatic 16 = some (.ireturn, 17, 0, 0, 0) := by unfold mv_in; rw [tb_L_setAutomatic]; rfl
theorem tb_L_setManual : mv_tb k_L_setManual = t_L_setManual := rfl
theorem r_L_setManual_0 : mv_in k_L_setManual 0 = some (.aload_n 0, 1, 0, 0, 0) := by unfold mv_in; rw [tb_L_setManual]; rfl
theorem r_L_setManual_1 : mv_in k_L_setManual 1 = some (.iload_n 1, 2, 0, 0, 0) := by unfold mv_in; rw [tb_L_setManual]; rfl
theorem r_L_setManual_2 : mv_in k_L_setManual 2 = some (.invokevirtual 32, 5, k_X10_setManual, 2, 955) := by unfold mv_in; rw [tb_L_setManual]; rfl
theorem r_L_setManual_5 : mv_in k_L_setManual 5 = some (.ireturn, 6, 0, 0, 0) := by unfold mv_in; rw [tb_L_setManual]; rfl
theorem r_L_setManual_6 : mv_in k_L_setManual 6 = some (.astore_n 2, 7, 0, 0, 0) := by unfold mv_in; rw [tb_L_setManual]; rfl
theorem r_L_setManual_7 : mv_in k_L_setManual 7 = some (.sipush (-25000), 10, 0, 0, 0) := by unfold mv_in; rw [tb_L_setManual]; rfl
theorem r_L_setManual_10 : mv_in k_L_setManual 10 = some (.ireturn, 11, 0, 0, 0) := by unfold mv_in; rw [tb_L_setManual]; rfl
theorem r_L_setManual_11 : mv_in k_L_setManual 11 = some (.astore_n 2, 12, 0, 0, 0) := by unfold mv_in; rw [tb_L_setManual]; rfl
theorem r_L_setManual_12 : mv_in k_L_setManual 12 = some (.sipush (-10000), 15, 0, 0, 0) := by unfold mv_in; rw [tb_L_setManual]; rfl
theorem r_L_setManual_15 : mv_in k_L_setManual 15 = some (.ireturn, 16, 0, 0, 0) := by unfold mv_in; rw [tb_L_setManual]; rfl
theorem tb_L_addRain : mv_tb k_L_addRain = t_L_addRain := rfl
theorem r_L_addRain_0 : mv_in k_L_addRain 0 = some (.aload_n 0, 1, 0, 0, 0) := by unfold mv_in; rw [tb_L_addRain]; rfl
theorem r_L_addRain_1 : mv_in k_L_addRain 1 = some (.iload_n 1, 2, 0, 0, 0) := by unfold mv_in; rw [tb_L_addRain]; rfl
theorem r_L_addRain_2 : mv_in k_L_addRain 2 = some (.invokevirtual 36, 5, k_X10_addRain, 2, 925) := by unfold mv_in; rw [tb_L_addRain]; rfl
theorem r_L_addRain_5 : mv_in k_L_addRain 5 = some (.ireturn, 6, 0, 0, 0) := by unfold mv_in; rw [tb_L_addRain]; rfl
theorem r_L_addRain_6 : mv_in k_L_addRain 6 = some (.astore_n 2, 7, 0, 0, 0) := by unfold mv_in; rw [tb_L_addRain]; rfl
theorem r_L_addRain_7 : mv_in k_L_addRain 7 = some (.sipush (-20000), 10, 0, 0, 0) := by unfold mv_in; rw [tb_L_addRain]; rfl
theorem r_L_addRain_10 : mv_in k_L_addRain 10 = some (.ireturn, 11, 0, 0, 0) := by unfold mv_in; rw [tb_L_addRain]; rfl
theorem r_L_addRain_11 : mv_in k_L_addRain 11 = some (.astore_n 2, 12, 0, 0, 0) := by unfold mv_in; rw [tb_L_addRain]; rfl
theorem r_L_addRain_12 : mv_in k_L_addRain 12 = some (.sipush (-10000), 15, 0, 0, 0) := by unfold mv_in; rw [tb_L_addRain]; rfl
theorem r_L_addRain_15 : mv_in k_L_addRain 15 = some (.ireturn, 16, 0, 0, 0) := by unfold mv_in; rw [tb_L_addRain]; rfl
theorem tb_L_pour : mv_tb k_L_pour = t_L_pour := rfl
theorem r_L_pour_0 : mv_in k_L_pour 0 = some (.aload_n 0, 1, 0, 0, 0) := by unfold mv_in; rw [tb_L_pour]; rfl
theorem r_L_pour_1 : mv_in k_L_pour 1 = some (.iload_n 1, 2, 0, 0, 0) := by unfold mv_in; rw [tb_L_pour]; rfl
theorem r_L_pour_2 : mv_in k_L_pour 2 = some (.iload_n 2, 3, 0, 0, 0) := by unfold mv_in; rw [tb_L_pour]; rfl
theorem r_L_pour_3 : mv_in k_L_pour 3 = some (.invokevirtual 39, 6, k_X10_pour, 3, 969) := by unfold mv_in; rw [tb_L_pour]; rfl
theorem r_L_pour_6 : mv_in k_L_pour 6 = some (.ireturn, 7, 0, 0, 0) := by unfold mv_in; rw [tb_L_pour]; rfl
theorem r_L_pour_7 : mv_in k_L_pour 7 = some (.astore_n 3, 8, 0, 0, 0) := by unfold mv_in; rw [tb_L_pour]; rfl
theorem r_L_pour_8 : mv_in k_L_pour 8 = some (.sipush (-25000), 11, 0, 0, 0) := by unfold mv_in; rw [tb_L_pour]; rfl
theorem r_L_pour_11 : mv_in k_L_pour 11 = some (.ireturn, 12, 0, 0, 0) := by unfold mv_in; rw [tb_L_pour]; rfl
theorem r_L_pour_12 : mv_in k_L_pour 12 = some (.astore_n 3, 13, 0, 0, 0) := by unfold mv_in; rw [tb_L_pour]; rfl
theorem r_L_pour_13 : mv_in k_L_pour 13 = some (.sipush (-20000), 16, 0, 0, 0) := by unfold mv_in; rw [tb_L_pour]; rfl
theorem r_L_pour_16 : mv_in k_L_pour 16 = some (.ireturn, 17, 0, 0, 0) := by unfold mv_in; rw [tb_L_pour]; rfl
theorem r_L_pour_17 : mv_in k_L_pour 17 = some (.astore_n 3, 18, 0, 0, 0) := by unfold mv_in; rw [tb_L_pour]; rfl
theorem r_L_pour_18 : mv_in k_L_pour 18 = some (.sipush (-10000), 21, 0, 0, 0) := by unfold mv_in; rw [tb_L_pour]; rfl
theorem r_L_pour_21 : mv_in k_L_pour 21 = some (.ireturn, 22, 0, 0, 0) := by unfold mv_in; rw [tb_L_pour]; rfl
theorem tb_L_advance : mv_tb k_L_advance = t_L_advance := rfl
theorem r_L_advance_0 : mv_in k_L_advance 0 = some (.aload_n 0, 1, 0, 0, 0) := by unfold mv_in; rw [tb_L_advance]; rfl
theorem r_L_advance_1 : mv_in k_L_advance 1 = some (.iload_n 1, 2, 0, 0, 0) := by unfold mv_in; rw [tb_L_advance]; rfl
theorem r_L_advance_2 : mv_in k_L_advance 2 = some (.invokevirtual 42, 5, k_X10_advance, 2, 978) := by unfold mv_in; rw [tb_L_advance]; rfl
theorem r_L_advance_5 : mv_in k_L_advance 5 = some (.ireturn, 6, 0, 0, 0) := by unfold mv_in; rw [tb_L_advance]; rfl
theorem r_L_advance_6 : mv_in k_L_advance 6 = some (.astore_n 2, 7, 0, 0, 0) := by unfold mv_in; rw [tb_L_advance]; rfl
theorem r_L_advance_7 : mv_in k_L_advance 7 = some (.sipush (-20000), 10, 0, 0, 0) := by unfold mv_in; rw [tb_L_advance]; rfl
theorem r_L_advance_10 : mv_in k_L_advance 10 = some (.ireturn, 11, 0, 0, 0) := by unfold mv_in; rw [tb_L_advance]; rfl
theorem tb_L_threshold : mv_tb k_L_threshold = t_L_threshold := rfl
theorem r_L_threshold_0 : mv_in k_L_threshold 0 = some (.aload_n 0, 1, 0, 0, 0) := by unfold mv_in; rw [tb_L_threshold]; rfl
theorem r_L_threshold_1 : mv_in k_L_threshold 1 = some (.iload_n 1, 2, 0, 0, 0) := by unfold mv_in; rw [tb_L_threshold]; rfl
theorem r_L_threshold_2 : mv_in k_L_threshold 2 = some (.invokevirtual 45, 5, k_X10_threshold, 2, 801) := by unfold mv_in; rw [tb_L_threshold]; rfl
theorem r_L_threshold_5 : mv_in k_L_threshold 5 = some (.ireturn, 6, 0, 0, 0) := by unfold mv_in; rw [tb_L_threshold]; rfl
theorem r_L_threshold_6 : mv_in k_L_threshold 6 = some (.astore_n 2, 7, 0, 0, 0) := by unfold mv_in; rw [tb_L_threshold]; rfl
theorem r_L_threshold_7 : mv_in k_L_threshold 7 = some (.sipush (-25000), 10, 0, 0, 0) := by unfold mv_in; rw [tb_L_threshold]; rfl
theorem r_L_threshold_10 : mv_in k_L_threshold 10 = some (.ireturn, 11, 0, 0, 0) := by unfold mv_in; rw [tb_L_threshold]; rfl
theorem r_L_threshold_11 : mv_in k_L_threshold 11 = some (.astore_n 2, 12, 0, 0, 0) := by unfold mv_in; rw [tb_L_threshold]; rfl
theorem r_L_threshold_12 : mv_in k_L_threshold 12 = some (.sipush (-30000), 15, 0, 0, 0) := by unfold mv_in; rw [tb_L_threshold]; rfl
theorem r_L_threshold_15 : mv_in k_L_threshold 15 = some (.ireturn, 16, 0, 0, 0) := by unfold mv_in; rw [tb_L_threshold]; rfl
theorem tb_L_basinAtRank : mv_tb k_L_basinAtRank = t_L_basinAtRank := rfl
theorem r_L_basinAtRank_0 : mv_in k_L_basinAtRank 0 = some (.aload_n 0, 1, 0, 0, 0) := by unfold mv_in; rw [tb_L_basinAtRank]; rfl
theorem r_L_basinAtRank_1 : mv_in k_L_basinAtRank 1 = some (.iload_n 1, 2, 0, 0, 0) := by unfold mv_in; rw [tb_L_basinAtRank]; rfl
theorem r_L_basinAtRank_2 : mv_in k_L_basinAtRank 2 = some (.invokevirtual 50, 5, k_X10_basinAtRank, 2, 433) := by unfold mv_in; rw [tb_L_basinAtRank]; rfl
theorem r_L_basinAtRank_5 : mv_in k_L_basinAtRank 5 = some (.ireturn, 6, 0, 0, 0) := by unfold mv_in; rw [tb_L_basinAtRank]; rfl
theorem r_L_basinAtRank_6 : mv_in k_L_basinAtRank 6 = some (.astore_n 2, 7, 0, 0, 0) := by unfold mv_in; rw [tb_L_basinAtRank]; rfl
theorem r_L_basinAtRank_7 : mv_in k_L_basinAtRank 7 = some (.sipush (-30000), 10, 0, 0, 0) := by unfold mv_in; rw [tb_L_basinAtRank]; rfl
theorem r_L_basinAtRank_10 : mv_in k_L_basinAtRank 10 = some (.ireturn, 11, 0, 0, 0) := by unfold mv_in; rw [tb_L_basinAtRank]; rfl
theorem tb_L_rainAt : mv_tb k_L_rainAt = t_L_rainAt := rfl
theorem r_L_rainAt_0 : mv_in k_L_rainAt 0 = some (.aload_n 0, 1, 0, 0, 0) := by unfold mv_in; rw [tb_L_rainAt]; rfl
theorem r_L_rainAt_1 : mv_in k_L_rainAt 1 = some (.iload_n 1, 2, 0, 0, 0) := by unfold mv_in; rw [tb_L_rainAt]; rfl
theorem r_L_rainAt_2 : mv_in k_L_rainAt 2 = some (.invokevirtual 53, 5, k_X10_rainAt, 2, 469) := by unfold mv_in; rw [tb_L_rainAt]; rfl
theorem r_L_rainAt_5 : mv_in k_L_rainAt 5 = some (.ireturn, 6, 0, 0, 0) := by unfold mv_in; rw [tb_L_rainAt]; rfl
theorem r_L_rainAt_6 : mv_in k_L_rainAt 6 = some (.astore_n 2, 7, 0, 0, 0) := by unfold mv_in; rw [tb_L_rainAt]; rfl
theorem r_L_rainAt_7 : mv_in k_L_rainAt 7 = some (.sipush (-25000), 10, 0, 0, 0) := by unfold mv_in; rw [tb_L_rainAt]; rfl
theorem r_L_rainAt_10 : mv_in k_L_rainAt 10 = some (.ireturn, 11, 0, 0, 0) := by unfold mv_in; rw [tb_L_rainAt]; rfl
theorem tb_L_stepsUntilFlood : mv_tb k_L_stepsUntilFlood = t_L_stepsUntilFlood := rfl
theorem r_L_stepsUntilFlood_0 : mv_in k_L_stepsUntilFlood 0 = some (.aload_n 0, 1, 0, 0, 0) := by unfold mv_in; rw [tb_L_stepsUntilFlood]; rfl
theorem r_L_stepsUntilFlood_1 : mv_in k_L_stepsUntilFlood 1 = some (.invokevirtual 56, 4, k_X10_stepsUntilFlood, 1, 815) := by unfold mv_in; rw [tb_L_stepsUntilFlood]; rfl
theorem r_L_stepsUntilFlood_4 : mv_in k_L_stepsUntilFlood 4 = some (.ireturn, 5, 0, 0, 0) := by unfold mv_in; rw [tb_L_stepsUntilFlood]; rfl
theorem r_L_stepsUntilFlood_5 : mv_in k_L_stepsUntilFlood 5 = some (.astore_n 1, 6, 0, 0, 0) := by unfold mv_in; rw [tb_L_stepsUntilFlood]; rfl
theorem r_L_stepsUntilFlood_6 : mv_in k_L_stepsUntilFlood 6 = some (.sipush (-30000), 9, 0, 0, 0) := by unfold mv_in; rw [tb_L_stepsUntilFlood]; rfl
theorem r_L_stepsUntilFlood_9 : mv_in k_L_stepsUntilFlood 9 = some (.ireturn, 10, 0, 0, 0) := by unfold mv_in; rw [tb_L_stepsUntilFlood]; rfl
section LWC
variable {L : Nat} {xs : Nat → Int32}
end LWC
section LW
variable {L : Nat} {xs : Nat → Int32} {d t t2 : Nat} {T T2 : zT}
theorem nl_L_addBasin : mv_nh k_L_addBasin = false := by decide +kernel
theorem w_L_addBasin_ok {a1 a2 a3 : Int32} {x : Int32} (hq : mv_cl L xs d k_X10_addBasin [.ref 0, .int a1, .int a2, .int a3] (t, 142, mz T) = some (.inl (some (.int x)), (t2, 142, mz T2))) : mv_cl L xs (d + 1) k_L_addBasin [.ref 0, .int a1, .int a2, .int a3] (t, 142, mz T) = some (.inl (some (.int x)), (t2, 142, mz T2)) := by
  apply mv_cl_of
  simp only [mv_il, Value.category, Nat.zero_add, Nat.reduceAdd]
  simp (disch := omega) only [mv_Ev_row r_L_addBasin_0, mv_Ev_row r_L_addBasin_1, mv_Ev_row r_L_addBasin_2, mv_Ev_row r_L_addBasin_3, mv_Ev_row r_L_addBasin_4, mv_Ev_row r_L_addBasin_7, mv_Ev_row r_L_addBasin_8, mv_Ev_row r_L_addBasin_10, mv_Ev_row r_L_addBasin_13, mv_Ev_row r_L_addBasin_14, mv_Ev_row r_L_addBasin_16, mv_Ev_row r_L_addBasin_19, ea_aload_n, ea_iload_n, kv_X10_addBasin, ea_ireturn, ez_ret, ez_retc, ea_astore, ea_sipush, sz_m20000, sz_m10000, mv_ac, decide_eq_true_eq, not_true_eq_false, and_self, and_true, true_and, ea_2n, ea_2f, ea_2c, ea_if, if_pos, if_neg, mv_lk, mv_f1, mv_f2, Value.category, List.filter, ↓reduceIte, Nat.reduceEqDiff, Nat.reduceAdd, Nat.reduceLT, Nat.reduceBEq, Nat.zero_add, Nat.add_zero, Nat.zero_ne_one, Nat.one_ne_zero, Bool.not_true, Bool.not_false, Bool.and_true, Bool.true_and, Bool.and_false, Bool.false_and, BEq.rfl, beq_self_eq_true, Bool.false_eq_true, reduceCtorEq, not_false_eq_true, fv0, fv1, fv2, fv3, eb_l0, eb_l1, eb_l2, eb_l3, eb_l4, eb_l5, eb_s0, eb_s1, eb_s2, eb_s3, eb_s4, eb_s5, oz_add, oz_sub, oz_mul, oz_neg, ol_add, ol_sub, sD_eq, sD_sD, sD_ne, sD_in, sD_in2, sD_in3, upR_is, upR_ne, mk_v, mk_n, mk_x, mk_i, mv_cs, Nat.reduceLeDiff, mv_ch_z, hq]
theorem hd_L_addBasin_0 : mv_hd k_L_addBasin 4 0 = some (10, 4) := by
  have e : mv_hd1 4 0 (mv_hl k_L_addBasin mv_hs) = some 8 := by decide +kernel
  unfold mv_hd
  rw [e]
  simp only [r_L_addBasin_8] <;> rfl
theorem w_L_addBasin_0 {a1 a2 a3 : Int32} (hq : mv_cl L xs d k_X10_addBasin [.ref 0, .int a1, .int a2, .int a3] (t, 142, mz T) = some (.inr 0, (t2, 142, mz T2))) : mv_cl L xs (d + 1) k_L_addBasin [.ref 0, .int a1, .int a2, .int a3] (t, 142, mz T) = some (.inl (some (.int (Int32.ofInt (-20000)))), (t2, 142, mz T2)) := by
  apply mv_cl_of
  simp only [mv_il, Value.category, Nat.zero_add, Nat.reduceAdd]
  simp (disch := omega) only [mv_Ev_row r_L_addBasin_0, mv_Ev_row r_L_addBasin_1, mv_Ev_row r_L_addBasin_2, mv_Ev_row r_L_addBasin_3, mv_Ev_row r_L_addBasin_4, mv_Ev_row r_L_addBasin_7, mv_Ev_row r_L_addBasin_8, mv_Ev_row r_L_addBasin_10, mv_Ev_row r_L_addBasin_13, mv_Ev_row r_L_addBasin_14, mv_Ev_row r_L_addBasin_16, mv_Ev_row r_L_addBasin_19, ea_aload_n, ea_iload_n, kv_X10_addBasin, ea_ireturn, ez_ret, ez_retc, ea_astore, ea_sipush, sz_m20000, sz_m10000, mv_ac, decide_eq_true_eq, not_true_eq_false, and_self, and_true, true_and, ea_2n, ea_2f, ea_2c, ea_if, if_pos, if_neg, mv_lk, mv_f1, mv_f2, Value.category, List.filter, ↓reduceIte, Nat.reduceEqDiff, Nat.reduceAdd, Nat.reduceLT, Nat.reduceBEq, Nat.zero_add, Nat.add_zero, Nat.zero_ne_one, Nat.one_ne_zero, Bool.not_true, Bool.not_false, Bool.and_true, Bool.true_and, Bool.and_false, Bool.false_and, BEq.rfl, beq_self_eq_true, Bool.false_eq_true, reduceCtorEq, not_false_eq_true, fv0, fv1, fv2, fv3, eb_l0, eb_l1, eb_l2, eb_l3, eb_l4, eb_l5, eb_s0, eb_s1, eb_s2, eb_s3, eb_s4, eb_s5, oz_add, oz_sub, oz_mul, oz_neg, ol_add, ol_sub, sD_eq, sD_sD, sD_ne, sD_in, sD_in2, sD_in3, upR_is, upR_ne, mk_v, mk_n, mk_x, mk_i, mv_cs, Nat.reduceLeDiff, mv_ch_z, hq, nl_L_addBasin, hd_L_addBasin_0]
theorem hd_L_addBasin_1 : mv_hd k_L_addBasin 4 1 = some (16, 4) := by
  have e : mv_hd1 4 1 (mv_hl k_L_addBasin mv_hs) = some 14 := by decide +kernel
  unfold mv_hd
  rw [e]
  simp only [r_L_addBasin_14] <;> rfl
theorem w_L_addBasin_1 {a1 a2 a3 : Int32} (hq : mv_cl L xs d k_X10_addBasin [.ref 0, .int a1, .int a2, .int a3] (t, 142, mz T) = some (.inr 1, (t2, 142, mz T2))) : mv_cl L xs (d + 1) k_L_addBasin [.ref 0, .int a1, .int a2, .int a3] (t, 142, mz T) = some (.inl (some (.int (Int32.ofInt (-10000)))), (t2, 142, mz T2)) := by
  apply mv_cl_of
  simp only [mv_il, Value.category, Nat.zero_add, Nat.reduceAdd]
  simp (disch := omega) only [mv_Ev_row r_L_addBasin_0, mv_Ev_row r_L_addBasin_1, mv_Ev_row r_L_addBasin_2, mv_Ev_row r_L_addBasin_3, mv_Ev_row r_L_addBasin_4, mv_Ev_row r_L_addBasin_7, mv_Ev_row r_L_addBasin_8, mv_Ev_row r_L_addBasin_10, mv_Ev_row r_L_addBasin_13, mv_Ev_row r_L_addBasin_14, mv_Ev_row r_L_addBasin_16, mv_Ev_row r_L_addBasin_19, ea_aload_n, ea_iload_n, kv_X10_addBasin, ea_ireturn, ez_ret, ez_retc, ea_astore, ea_sipush, sz_m20000, sz_m10000, mv_ac, decide_eq_true_eq, not_true_eq_false, and_self, and_true, true_and, ea_2n, ea_2f, ea_2c, ea_if, if_pos, if_neg, mv_lk, mv_f1, mv_f2, Value.category, List.filter, ↓reduceIte, Nat.reduceEqDiff, Nat.reduceAdd, Nat.reduceLT, Nat.reduceBEq, Nat.zero_add, Nat.add_zero, Nat.zero_ne_one, Nat.one_ne_zero, Bool.not_true, Bool.not_false, Bool.and_true, Bool.true_and, Bool.and_false, Bool.false_and, BEq.rfl, beq_self_eq_true, Bool.false_eq_true, reduceCtorEq, not_false_eq_true, fv0, fv1, fv2, fv3, eb_l0, eb_l1, eb_l2, eb_l3, eb_l4, eb_l5, eb_s0, eb_s1, eb_s2, eb_s3, eb_s4, eb_s5, oz_add, oz_sub, oz_mul, oz_neg, ol_add, ol_sub, sD_eq, sD_sD, sD_ne, sD_in, sD_in2, sD_in3, upR_is, upR_ne, mk_v, mk_n, mk_x, mk_i, mv_cs, Nat.reduceLeDiff, mv_ch_z, hq, nl_L_addBasin, hd_L_addBasin_1]
theorem nl_L_setGate : mv_nh k_L_setGate = false := by decide +kernel
theorem w_L_setGate_ok {a1 a2 : Int32} {x : Int32} (hq : mv_cl L xs d k_X10_setGate [.ref 0, .int a1, .int a2] (t, 142, mz T) = some (.inl (some (.int x)), (t2, 142, mz T2))) : mv_cl L xs (d + 1) k_L_setGate [.ref 0, .int a1, .int a2] (t, 142, mz T) = some (.inl (some (.int x)), (t2, 142, mz T2)) := by
  apply mv_cl_of
  simp only [mv_il, Value.category, Nat.zero_add, Nat.reduceAdd]
  simp (disch := omega) only [mv_Ev_row r_L_setGate_0, mv_Ev_row r_L_setGate_1, mv_Ev_row r_L_setGate_2, mv_Ev_row r_L_setGate_3, mv_Ev_row r_L_setGate_6, mv_Ev_row r_L_setGate_7, mv_Ev_row r_L_setGate_8, mv_Ev_row r_L_setGate_11, mv_Ev_row r_L_setGate_12, mv_Ev_row r_L_setGate_13, mv_Ev_row r_L_setGate_16, mv_Ev_row r_L_setGate_17, mv_Ev_row r_L_setGate_18, mv_Ev_row r_L_setGate_21, ea_aload_n, ea_iload_n, kv_X10_setGate, ea_ireturn, ez_ret, ez_retc, ea_astore_n, ea_sipush, sz_m25000, sz_m20000, sz_m10000, mv_ac, decide_eq_true_eq, not_true_eq_false, and_self, and_true, true_and, ea_2n, ea_2f, ea_2c, ea_if, if_pos, if_neg, mv_lk, mv_f1, mv_f2, Value.category, List.filter, ↓reduceIte, Nat.reduceEqDiff, Nat.reduceAdd, Nat.reduceLT, Nat.reduceBEq, Nat.zero_add, Nat.add_zero, Nat.zero_ne_one, Nat.one_ne_zero, Bool.not_true, Bool.not_false, Bool.and_true, Bool.true_and, Bool.and_false, Bool.false_and, BEq.rfl, beq_self_eq_true, Bool.false_eq_true, reduceCtorEq, not_false_eq_true, fv0, fv1, fv2, fv3, eb_l0, eb_l1, eb_l2, eb_l3, eb_l4, eb_l5, eb_s0, eb_s1, eb_s2, eb_s3, eb_s4, eb_s5, oz_add, oz_sub, oz_mul, oz_neg, ol_add, ol_sub, sD_eq, sD_sD, sD_ne, sD_in, sD_in2, sD_in3, upR_is, upR_ne, mk_v, mk_n, mk_x, mk_i, mv_cs, Nat.reduceLeDiff, mv_ch_z, hq]
theorem hd_L_setGate_2 : mv_hd k_L_setGate 3 2 = some (8, 3) := by
  have e : mv_hd1 3 2 (mv_hl k_L_setGate mv_hs) = some 7 := by decide +kernel
  unfold mv_hd
  rw [e]
  simp only [r_L_setGate_7] <;> rfl
theorem w_L_setGate_2 {a1 a2 : Int32} (hq : mv_cl L xs d k_X10_setGate [.ref 0, .int a1, .int a2] (t, 142, mz T) = some (.inr 2, (t2, 142, mz T2))) : mv_cl L xs (d + 1) k_L_setGate [.ref 0, .int a1, .int a2] (t, 142, mz T) = some (.inl (some (.int (Int32.ofInt (-25000)))), (t2, 142, mz T2)) := by
  apply mv_cl_of
  simp only [mv_il, Value.category, Nat.zero_add, Nat.reduceAdd]
  simp (disch := omega) only [mv_Ev_row r_L_setGate_0, mv_Ev_row r_L_setGate_1, mv_Ev_row r_L_setGate_2, mv_Ev_row r_L_setGate_3, mv_Ev_row r_L_setGate_6, mv_Ev_row r_L_setGate_7, mv_Ev_row r_L_setGate_8, mv_Ev_row r_L_setGate_11, mv_Ev_row r_L_setGate_12, mv_Ev_row r_L_setGate_13, mv_Ev_row r_L_setGate_16, mv_Ev_row r_L_setGate_17, mv_Ev_row r_L_setGate_18, mv_Ev_row r_L_setGate_21, ea_aload_n, ea_iload_n, kv_X10_setGate, ea_ireturn, ez_ret, ez_retc, ea_astore_n, ea_sipush, sz_m25000, sz_m20000, sz_m10000, mv_ac, decide_eq_true_eq, not_true_eq_false, and_self, and_true, true_and, ea_2n, ea_2f, ea_2c, ea_if, if_pos, if_neg, mv_lk, mv_f1, mv_f2, Value.category, List.filter, ↓reduceIte, Nat.reduceEqDiff, Nat.reduceAdd, Nat.reduceLT, Nat.reduceBEq, Nat.zero_add, Nat.add_zero, Nat.zero_ne_one, Nat.one_ne_zero, Bool.not_true, Bool.not_false, Bool.and_true, Bool.true_and, Bool.and_false, Bool.false_and, BEq.rfl, beq_self_eq_true, Bool.false_eq_true, reduceCtorEq, not_false_eq_true, fv0, fv1, fv2, fv3, eb_l0, eb_l1, eb_l2, eb_l3, eb_l4, eb_l5, eb_s0, eb_s1, eb_s2, eb_s3, eb_s4, eb_s5, oz_add, oz_sub, oz_mul, oz_neg, ol_add, ol_sub, sD_eq, sD_sD, sD_ne, sD_in, sD_in2, sD_in3, upR_is, upR_ne, mk_v, mk_n, mk_x, mk_i, mv_cs, Nat.reduceLeDiff, mv_ch_z, hq, nl_L_setGate, hd_L_setGate_2]
theorem hd_L_setGate_0 : mv_hd k_L_setGate 3 0 = some (13, 3) := by
  have e : mv_hd1 3 0 (mv_hl k_L_setGate mv_hs) = some 12 := by decide +kernel
  unfold mv_hd
  rw [e]
  simp only [r_L_setGate_12] <;> rfl
theorem w_L_setGate_0 {a1 a2 : Int32} (hq : mv_cl L xs d k_X10_setGate [.ref 0, .int a1, .int a2] (t, 142, mz T) = some (.inr 0, (t2, 142, mz T2))) : mv_cl L xs (d + 1) k_L_setGate [.ref 0, .int a1, .int a2] (t, 142, mz T) = some (.inl (some (.int (Int32.ofInt (-20000)))), (t2, 142, mz T2)) := by
  apply mv_cl_of
  simp only [mv_il, Value.category, Nat.zero_add, Nat.reduceAdd]
  simp (disch := omega) only [mv_Ev_row r_L_setGate_0, mv_Ev_row r_L_setGate_1, mv_Ev_row r_L_setGate_2, mv_Ev_row r_L_setGate_3, mv_Ev_row r_L_setGate_6, mv_Ev_row r_L_setGate_7, mv_Ev_row r_L_setGate_8, mv_Ev_row r_L_setGate_11, mv_Ev_row r_L_setGate_12, mv_Ev_row r_L_setGate_13, mv_Ev_row r_L_setGate_16, mv_Ev_row r_L_setGate_17, mv_Ev_row r_L_setGate_18, mv_Ev_row r_L_setGate_21, ea_aload_n, ea_iload_n, kv_X10_setGate, ea_ireturn, ez_ret, ez_retc, ea_astore_n, ea_sipush, sz_m25000, sz_m20000, sz_m10000, mv_ac, decide_eq_true_eq, not_true_eq_false, and_self, and_true, true_and, ea_2n, ea_2f, ea_2c, ea_if, if_pos, if_neg, mv_lk, mv_f1, mv_f2, Value.category, List.filter, ↓reduceIte, Nat.reduceEqDiff, Nat.reduceAdd, Nat.reduceLT, Nat.reduceBEq, Nat.zero_add, Nat.add_zero, Nat.zero_ne_one, Nat.one_ne_zero, Bool.not_true, Bool.not_false, Bool.and_true, Bool.true_and, Bool.and_false, Bool.false_and, BEq.rfl, beq_self_eq_true, Bool.false_eq_true, reduceCtorEq, not_false_eq_true, fv0, fv1, fv2, fv3, eb_l0, eb_l1, eb_l2, eb_l3, eb_l4, eb_l5, eb_s0, eb_s1, eb_s2, eb_s3, eb_s4, eb_s5, oz_add, oz_sub, oz_mul, oz_neg, ol_add, ol_sub, sD_eq, sD_sD, sD_ne, sD_in, sD_in2, sD_in3, upR_is, upR_ne, mk_v, mk_n, mk_x, mk_i, mv_cs, Nat.reduceLeDiff, mv_ch_z, hq, nl_L_setGate, hd_L_setGate_0]
theorem hd_L_setGate_1 : mv_hd k_L_setGate 3 1 = some (18, 3) := by
  have e : mv_hd1 3 1 (mv_hl k_L_setGate mv_hs) = some 17 := by decide +kernel
  unfold mv_hd
  rw [e]
  simp only [r_L_setGate_17] <;> rfl
theorem w_L_setGate_1 {a1 a2 : Int32} (hq : mv_cl L xs d k_X10_setGate [.ref 0, .int a1, .int a2] (t, 142, mz T) = some (.inr 1, (t2, 142, mz T2))) : mv_cl L xs (d + 1) k_L_setGate [.ref 0, .int a1, .int a2] (t, 142, mz T) = some (.inl (some (.int (Int32.ofInt (-10000)))), (t2, 142, mz T2)) := by
  apply mv_cl_of
  simp only [mv_il, Value.category, Nat.zero_add, Nat.reduceAdd]
  simp (disch := omega) only [mv_Ev_row r_L_setGate_0, mv_Ev_row r_L_setGate_1, mv_Ev_row r_L_setGate_2, mv_Ev_row r_L_setGate_3, mv_Ev_row r_L_setGate_6, mv_Ev_row r_L_setGate_7, mv_Ev_row r_L_setGate_8, mv_Ev_row r_L_setGate_11, mv_Ev_row r_L_setGate_12, mv_Ev_row r_L_setGate_13, mv_Ev_row r_L_setGate_16, mv_Ev_row r_L_setGate_17, mv_Ev_row r_L_setGate_18, mv_Ev_row r_L_setGate_21, ea_aload_n, ea_iload_n, kv_X10_setGate, ea_ireturn, ez_ret, ez_retc, ea_astore_n, ea_sipush, sz_m25000, sz_m20000, sz_m10000, mv_ac, decide_eq_true_eq, not_true_eq_false, and_self, and_true, true_and, ea_2n, ea_2f, ea_2c, ea_if, if_pos, if_neg, mv_lk, mv_f1, mv_f2, Value.category, List.filter, ↓reduceIte, Nat.reduceEqDiff, Nat.reduceAdd, Nat.reduceLT, Nat.reduceBEq, Nat.zero_add, Nat.add_zero, Nat.zero_ne_one, Nat.one_ne_zero, Bool.not_true, Bool.not_false, Bool.and_true, Bool.true_and, Bool.and_false, Bool.false_and, BEq.rfl, beq_self_eq_true, Bool.false_eq_true, reduceCtorEq, not_false_eq_true, fv0, fv1, fv2, fv3, eb_l0, eb_l1, eb_l2, eb_l3, eb_l4, eb_l5, eb_s0, eb_s1, eb_s2, eb_s3, eb_s4, eb_s5, oz_add, oz_sub, oz_mul, oz_neg, ol_add, ol_sub, sD_eq, sD_sD, sD_ne, sD_in, sD_in2, sD_in3, upR_is, upR_ne, mk_v, mk_n, mk_x, mk_i, mv_cs, Nat.reduceLeDiff, mv_ch_z, hq, nl_L_setGate, hd_L_setGate_1]
theorem nl_L_setAutomatic : mv_nh k_L_setAutomatic = false := by decide +kernel
theorem w_L_setAutomatic_ok {a1 a2 : Int32} {x : Int32} (hq : mv_cl L xs d k_X10_setAutomatic [.ref 0, .int a1, .int a2] (t, 142, mz T) = some (.inl (some (.int x)), (t2, 142, mz T2))) : mv_cl L xs (d + 1) k_L_setAutomatic [.ref 0, .int a1, .int a2] (t, 142, mz T) = some (.inl (some (.int x)), (t2, 142, mz T2)) := by
  apply mv_cl_of
  simp only [mv_il, Value.category, Nat.zero_add, Nat.reduceAdd]
  simp (disch := omega) only [mv_Ev_row r_L_setAutomatic_0, mv_Ev_row r_L_setAutomatic_1, mv_Ev_row r_L_setAutomatic_2, mv_Ev_row r_L_setAutomatic_3, mv_Ev_row r_L_setAutomatic_6, mv_Ev_row r_L_setAutomatic_7, mv_Ev_row r_L_setAutomatic_8, mv_Ev_row r_L_setAutomatic_11, mv_Ev_row r_L_setAutomatic_12, mv_Ev_row r_L_setAutomatic_13, mv_Ev_row r_L_setAutomatic_16, ea_aload_n, ea_iload_n, kv_X10_setAutomatic, ea_ireturn, ez_ret, ez_retc, ea_astore_n, ea_sipush, sz_m25000, sz_m20000, mv_ac, decide_eq_true_eq, not_true_eq_false, and_self, and_true, true_and, ea_2n, ea_2f, ea_2c, ea_if, if_pos, if_neg, mv_lk, mv_f1, mv_f2, Value.category, List.filter, ↓reduceIte, Nat.reduceEqDiff, Nat.reduceAdd, Nat.reduceLT, Nat.reduceBEq, Nat.zero_add, Nat.add_zero, Nat.zero_ne_one, Nat.one_ne_zero, Bool.not_true, Bool.not_false, Bool.and_true, Bool.true_and, Bool.and_false, Bool.false_and, BEq.rfl, beq_self_eq_true, Bool.false_eq_true, reduceCtorEq, not_false_eq_true, fv0, fv1, fv2, fv3, eb_l0, eb_l1, eb_l2, eb_l3, eb_l4, eb_l5, eb_s0, eb_s1, eb_s2, eb_s3, eb_s4, eb_s5, oz_add, oz_sub, oz_mul, oz_neg, ol_add, ol_sub, sD_eq, sD_sD, sD_ne, sD_in, sD_in2, sD_in3, upR_is, upR_ne, mk_v, mk_n, mk_x, mk_i, mv_cs, Nat.reduceLeDiff, mv_ch_z, hq]
theorem hd_L_setAutomatic_2 : mv_hd k_L_setAutomatic 3 2 = some (8, 3) := by
  have e : mv_hd1 3 2 (mv_hl k_L_setAutomatic mv_hs) = some 7 := by decide +kernel
  unfold mv_hd
  rw [e]
  simp only [r_L_setAutomatic_7] <;> rfl
theorem w_L_setAutomatic_2 {a1 a2 : Int32} (hq : mv_cl L xs d k_X10_setAutomatic [.ref 0, .int a1, .int a2] (t, 142, mz T) = some (.inr 2, (t2, 142, mz T2))) : mv_cl L xs (d + 1) k_L_setAutomatic [.ref 0, .int a1, .int a2] (t, 142, mz T) = some (.inl (some (.int (Int32.ofInt (-25000)))), (t2, 142, mz T2)) := by
  apply mv_cl_of
  simp only [mv_il, Value.category, Nat.zero_add, Nat.reduceAdd]
  simp (disch := omega) only [mv_Ev_row r_L_setAutomatic_0, mv_Ev_row r_L_setAutomatic_1, mv_Ev_row r_L_setAutomatic_2, mv_Ev_row r_L_setAutomatic_3, mv_Ev_row r_L_setAutomatic_6, mv_Ev_row r_L_setAutomatic_7, mv_Ev_row r_L_setAutomatic_8, mv_Ev_row r_L_setAutomatic_11, mv_Ev_row r_L_setAutomatic_12, mv_Ev_row r_L_setAutomatic_13, mv_Ev_row r_L_setAutomatic_16, ea_aload_n, ea_iload_n, kv_X10_setAutomatic, ea_ireturn, ez_ret, ez_retc, ea_astore_n, ea_sipush, sz_m25000, sz_m20000, mv_ac, decide_eq_true_eq, not_true_eq_false, and_self, and_true, true_and, ea_2n, ea_2f, ea_2c, ea_if, if_pos, if_neg, mv_lk, mv_f1, mv_f2, Value.category, List.filter, ↓reduceIte, Nat.reduceEqDiff, Nat.reduceAdd, Nat.reduceLT, Nat.reduceBEq, Nat.zero_add, Nat.add_zero, Nat.zero_ne_one, Nat.one_ne_zero, Bool.not_true, Bool.not_false, Bool.and_true, Bool.true_and, Bool.and_false, Bool.false_and, BEq.rfl, beq_self_eq_true, Bool.false_eq_true, reduceCtorEq, not_false_eq_true, fv0, fv1, fv2, fv3, eb_l0, eb_l1, eb_l2, eb_l3, eb_l4, eb_l5, eb_s0, eb_s1, eb_s2, eb_s3, eb_s4, eb_s5, oz_add, oz_sub, oz_mul, oz_neg, ol_add, ol_sub, sD_eq, sD_sD, sD_ne, sD_in, sD_in2, sD_in3, upR_is, upR_ne, mk_v, mk_n, mk_x, mk_i, mv_cs, Nat.reduceLeDiff, mv_ch_z, hq, nl_L_setAutomatic, hd_L_setAutomatic_2]
theorem hd_L_setAutomatic_0 : mv_hd k_L_setAutomatic 3 0 = some (13, 3) := by
  have e : mv_hd1 3 0 (mv_hl k_L_setAutomatic mv_hs) = some 12 := by decide +kernel
  unfold mv_hd
  rw [e]
  simp only [r_L_setAutomatic_12] <;> rfl
theorem w_L_setAutomatic_0 {a1 a2 : Int32} (hq : mv_cl L xs d k_X10_setAutomatic [.ref 0, .int a1, .int a2] (t, 142, mz T) = some (.inr 0, (t2, 142, mz T2))) : mv_cl L xs (d + 1) k_L_setAutomatic [.ref 0, .int a1, .int a2] (t, 142, mz T) = some (.inl (some (.int (Int32.ofInt (-20000)))), (t2, 142, mz T2)) := by
  apply mv_cl_of
  simp only [mv_il, Value.category, Nat.zero_add, Nat.reduceAdd]
  simp (disch := omega) only [mv_Ev_row r_L_setAutomatic_0, mv_Ev_row r_L_setAutomatic_1, mv_Ev_row r_L_setAutomatic_2, mv_Ev_row r_L_setAutomatic_3, mv_Ev_row r_L_setAutomatic_6, mv_Ev_row r_L_setAutomatic_7, mv_Ev_row r_L_setAutomatic_8, mv_Ev_row r_L_setAutomatic_11, mv_Ev_row r_L_setAutomatic_12, mv_Ev_row r_L_setAutomatic_13, mv_Ev_row r_L_setAutomatic_16, ea_aload_n, ea_iload_n, kv_X10_setAutomatic, ea_ireturn, ez_ret, ez_retc, ea_astore_n, ea_sipush, sz_m25000, sz_m20000, mv_ac, decide_eq_true_eq, not_true_eq_false, and_self, and_true, true_and, ea_2n, ea_2f, ea_2c, ea_if, if_pos, if_neg, mv_lk, mv_f1, mv_f2, Value.category, List.filter, ↓reduceIte, Nat.reduceEqDiff, Nat.reduceAdd, Nat.reduceLT, Nat.reduceBEq, Nat.zero_add, Nat.add_zero, Nat.zero_ne_one, Nat.one_ne_zero, Bool.not_true, Bool.not_false, Bool.and_true, Bool.true_and, Bool.and_false, Bool.false_and, BEq.rfl, beq_self_eq_true, Bool.false_eq_true, reduceCtorEq, not_false_eq_true, fv0, fv1, fv2, fv3, eb_l0, eb_l1, eb_l2, eb_l3, eb_l4, eb_l5, eb_s0, eb_s1, eb_s2, eb_s3, eb_s4, eb_s5, oz_add, oz_sub, oz_mul, oz_neg, ol_add, ol_sub, sD_eq, sD_sD, sD_ne, sD_in, sD_in2, sD_in3, upR_is, upR_ne, mk_v, mk_n, mk_x, mk_i, mv_cs, Nat.reduceLeDiff, mv_ch_z, hq, nl_L_setAutomatic, hd_L_setAutomatic_0]
theorem nl_L_setManual : mv_nh k_L_setManual = false := by decide +kernel
theorem w_L_setManual_ok {a1 : Int32} {x : Int32} (hq : mv_cl L xs d k_X10_setManual [.ref 0, .int a1] (t, 142, mz T) = some (.inl (some (.int x)), (t2, 142, mz T2))) : mv_cl L xs (d + 1) k_L_setManual [.ref 0, .int a1] (t, 142, mz T) = some (.inl (some (.int x)), (t2, 142, mz T2)) := by
  apply mv_cl_of
  simp only [mv_il, Value.category, Nat.zero_add, Nat.reduceAdd]
  simp (disch := omega) only [mv_Ev_row r_L_setManual_0, mv_Ev_row r_L_setManual_1, mv_Ev_row r_L_setManual_2, mv_Ev_row r_L_setManual_5, mv_Ev_row r_L_setManual_6, mv_Ev_row r_L_setManual_7, mv_Ev_row r_L_setManual_10, mv_Ev_row r_L_setManual_11, mv_Ev_row r_L_setManual_12, mv_Ev_row r_L_setManual_15, ea_aload_n, ea_iload_n, kv_X10_setManual, ea_ireturn, ez_ret, ez_retc, ea_astore_n, ea_sipush, sz_m25000, sz_m10000, mv_ac, decide_eq_true_eq, not_true_eq_false, and_self, and_true, true_and, ea_2n, ea_2f, ea_2c, ea_if, if_pos, if_neg, mv_lk, mv_f1, mv_f2, Value.category, List.filter, ↓reduceIte, Nat.reduceEqDiff, Nat.reduceAdd, Nat.reduceLT, Nat.reduceBEq, Nat.zero_add, Nat.add_zero, Nat.zero_ne_one, Nat.one_ne_zero, Bool.not_true, Bool.not_false, Bool.and_true, Bool.true_and, Bool.and_false, Bool.false_and, BEq.rfl, beq_self_eq_true, Bool.false_eq_true, reduceCtorEq, not_false_eq_true, fv0, fv1, fv2, fv3, eb_l0, eb_l1, eb_l2, eb_l3, eb_l4, eb_l5, eb_s0, eb_s1, eb_s2, eb_s3, eb_s4, eb_s5, oz_add, oz_sub, oz_mul, oz_neg, ol_add, ol_sub, sD_eq, sD_sD, sD_ne, sD_in, sD_in2, sD_in3, upR_is, upR_ne, mk_v, mk_n, mk_x, mk_i, mv_cs, Nat.reduceLeDiff, mv_ch_z, hq]
theorem hd_L_setManual_2 : mv_hd k_L_setManual 2 2 = some (7, 2) := by
  have e : mv_hd1 2 2 (mv_hl k_L_setManual mv_hs) = some 6 := by decide +kernel
  unfold mv_hd
  rw [e]
  simp only [r_L_setManual_6] <;> rfl
theorem w_L_setManual_2 {a1 : Int32} (hq : mv_cl L xs d k_X10_setManual [.ref 0, .int a1] (t, 142, mz T) = some (.inr 2, (t2, 142, mz T2))) : mv_cl L xs (d + 1) k_L_setManual [.ref 0, .int a1] (t, 142, mz T) = some (.inl (some (.int (Int32.ofInt (-25000)))), (t2, 142, mz T2)) := by
  apply mv_cl_of
  simp only [mv_il, Value.category, Nat.zero_add, Nat.reduceAdd]
  simp (disch := omega) only [mv_Ev_row r_L_setManual_0, mv_Ev_row r_L_setManual_1, mv_Ev_row r_L_setManual_2, mv_Ev_row r_L_setManual_5, mv_Ev_row r_L_setManual_6, mv_Ev_row r_L_setManual_7, mv_Ev_row r_L_setManual_10, mv_Ev_row r_L_setManual_11, mv_Ev_row r_L_setManual_12, mv_Ev_row r_L_setManual_15, ea_aload_n, ea_iload_n, kv_X10_setManual, ea_ireturn, ez_ret, ez_retc, ea_astore_n, ea_sipush, sz_m25000, sz_m10000, mv_ac, decide_eq_true_eq, not_true_eq_false, and_self, and_true, true_and, ea_2n, ea_2f, ea_2c, ea_if, if_pos, if_neg, mv_lk, mv_f1, mv_f2, Value.category, List.filter, ↓reduceIte, Nat.reduceEqDiff, Nat.reduceAdd, Nat.reduceLT, Nat.reduceBEq, Nat.zero_add, Nat.add_zero, Nat.zero_ne_one, Nat.one_ne_zero, Bool.not_true, Bool.not_false, Bool.and_true, Bool.true_and, Bool.and_false, Bool.false_and, BEq.rfl, beq_self_eq_true, Bool.false_eq_true, reduceCtorEq, not_false_eq_true, fv0, fv1, fv2, fv3, eb_l0, eb_l1, eb_l2, eb_l3, eb_l4, eb_l5, eb_s0, eb_s1, eb_s2, eb_s3, eb_s4, eb_s5, oz_add, oz_sub, oz_mul, oz_neg, ol_add, ol_sub, sD_eq, sD_sD, sD_ne, sD_in, sD_in2, sD_in3, upR_is, upR_ne, mk_v, mk_n, mk_x, mk_i, mv_cs, Nat.reduceLeDiff, mv_ch_z, hq, nl_L_setManual, hd_L_setManual_2]
theorem hd_L_setManual_1 : mv_hd k_L_setManual 2 1 = some (12, 2) := by
  have e : mv_hd1 2 1 (mv_hl k_L_setManual mv_hs) = some 11 := by decide +kernel
  unfold mv_hd
  rw [e]
  simp only [r_L_setManual_11] <;> rfl
theorem w_L_setManual_1 {a1 : Int32} (hq : mv_cl L xs d k_X10_setManual [.ref 0, .int a1] (t, 142, mz T) = some (.inr 1, (t2, 142, mz T2))) : mv_cl L xs (d + 1) k_L_setManual [.ref 0, .int a1] (t, 142, mz T) = some (.inl (some (.int (Int32.ofInt (-10000)))), (t2, 142, mz T2)) := by
  apply mv_cl_of
  simp only [mv_il, Value.category, Nat.zero_add, Nat.reduceAdd]
  simp (disch := omega) only [mv_Ev_row r_L_setManual_0, mv_Ev_row r_L_setManual_1, mv_Ev_row r_L_setManual_2, mv_Ev_row r_L_setManual_5, mv_Ev_row r_L_setManual_6, mv_Ev_row r_L_setManual_7, mv_Ev_row r_L_setManual_10, mv_Ev_row r_L_setManual_11, mv_Ev_row r_L_setManual_12, mv_Ev_row r_L_setManual_15, ea_aload_n, ea_iload_n, kv_X10_setManual, ea_ireturn, ez_ret, ez_retc, ea_astore_n, ea_sipush, sz_m25000, sz_m10000, mv_ac, decide_eq_true_eq, not_true_eq_false, and_self, and_true, true_and, ea_2n, ea_2f, ea_2c, ea_if, if_pos, if_neg, mv_lk, mv_f1, mv_f2, Value.category, List.filter, ↓reduceIte, Nat.reduceEqDiff, Nat.reduceAdd, Nat.reduceLT, Nat.reduceBEq, Nat.zero_add, Nat.add_zero, Nat.zero_ne_one, Nat.one_ne_zero, Bool.not_true, Bool.not_false, Bool.and_true, Bool.true_and, Bool.and_false, Bool.false_and, BEq.rfl, beq_self_eq_true, Bool.false_eq_true, reduceCtorEq, not_false_eq_true, fv0, fv1, fv2, fv3, eb_l0, eb_l1, eb_l2, eb_l3, eb_l4, eb_l5, eb_s0, eb_s1, eb_s2, eb_s3, eb_s4, eb_s5, oz_add, oz_sub, oz_mul, oz_neg, ol_add, ol_sub, sD_eq, sD_sD, sD_ne, sD_in, sD_in2, sD_in3, upR_is, upR_ne, mk_v, mk_n, mk_x, mk_i, mv_cs, Nat.reduceLeDiff, mv_ch_z, hq, nl_L_setManual, hd_L_setManual_1]
theorem nl_L_addRain : mv_nh k_L_addRain = false := by decide +kernel
theorem w_L_addRain_ok {a1 : Int32} {x : Int32} (hq : mv_cl L xs d k_X10_addRain [.ref 0, .int a1] (t, 142, mz T) = some (.inl (some (.int x)), (t2, 142, mz T2))) : mv_cl L xs (d + 1) k_L_addRain [.ref 0, .int a1] (t, 142, mz T) = some (.inl (some (.int x)), (t2, 142, mz T2)) := by
  apply mv_cl_of
  simp only [mv_il, Value.category, Nat.zero_add, Nat.reduceAdd]
  simp (disch := omega) only [mv_Ev_row r_L_addRain_0, mv_Ev_row r_L_addRain_1, mv_Ev_row r_L_addRain_2, mv_Ev_row r_L_addRain_5, mv_Ev_row r_L_addRain_6, mv_Ev_row r_L_addRain_7, mv_Ev_row r_L_addRain_10, mv_Ev_row r_L_addRain_11, mv_Ev_row r_L_addRain_12, mv_Ev_row r_L_addRain_15, ea_aload_n, ea_iload_n, kv_X10_addRain, ea_ireturn, ez_ret, ez_retc, ea_astore_n, ea_sipush, sz_m20000, sz_m10000, mv_ac, decide_eq_true_eq, not_true_eq_false, and_self, and_true, true_and, ea_2n, ea_2f, ea_2c, ea_if, if_pos, if_neg, mv_lk, mv_f1, mv_f2, Value.category, List.filter, ↓reduceIte, Nat.reduceEqDiff, Nat.reduceAdd, Nat.reduceLT, Nat.reduceBEq, Nat.zero_add, Nat.add_zero, Nat.zero_ne_one, Nat.one_ne_zero, Bool.not_true, Bool.not_false, Bool.and_true, Bool.true_and, Bool.and_false, Bool.false_and, BEq.rfl, beq_self_eq_true, Bool.false_eq_true, reduceCtorEq, not_false_eq_true, fv0, fv1, fv2, fv3, eb_l0, eb_l1, eb_l2, eb_l3, eb_l4, eb_l5, eb_s0, eb_s1, eb_s2, eb_s3, eb_s4, eb_s5, oz_add, oz_sub, oz_mul, oz_neg, ol_add, ol_sub, sD_eq, sD_sD, sD_ne, sD_in, sD_in2, sD_in3, upR_is, upR_ne, mk_v, mk_n, mk_x, mk_i, mv_cs, Nat.reduceLeDiff, mv_ch_z, hq]
theorem hd_L_addRain_0 : mv_hd k_L_addRain 2 0 = some (7, 2) := by
  have e : mv_hd1 2 0 (mv_hl k_L_addRain mv_hs) = some 6 := by decide +kernel
  unfold mv_hd
  rw [e]
  simp only [r_L_addRain_6] <;> rfl
theorem w_L_addRain_0 {a1 : Int32} (hq : mv_cl L xs d k_X10_addRain [.ref 0, .int a1] (t, 142, mz T) = some (.inr 0, (t2, 142, mz T2))) : mv_cl L xs (d + 1) k_L_addRain [.ref 0, .int a1] (t, 142, mz T) = some (.inl (some (.int (Int32.ofInt (-20000)))), (t2, 142, mz T2)) := by
  apply mv_cl_of
  simp only [mv_il, Value.category, Nat.zero_add, Nat.reduceAdd]
  simp (disch := omega) only [mv_Ev_row r_L_addRain_0, mv_Ev_row r_L_addRain_1, mv_Ev_row r_L_addRain_2, mv_Ev_row r_L_addRain_5, mv_Ev_row r_L_addRain_6, mv_Ev_row r_L_addRain_7, mv_Ev_row r_L_addRain_10, mv_Ev_row r_L_addRain_11, mv_Ev_row r_L_addRain_12, mv_Ev_row r_L_addRain_15, ea_aload_n, ea_iload_n, kv_X10_addRain, ea_ireturn, ez_ret, ez_retc, ea_astore_n, ea_sipush, sz_m20000, sz_m10000, mv_ac, decide_eq_true_eq, not_true_eq_false, and_self, and_true, true_and, ea_2n, ea_2f, ea_2c, ea_if, if_pos, if_neg, mv_lk, mv_f1, mv_f2, Value.category, List.filter, ↓reduceIte, Nat.reduceEqDiff, Nat.reduceAdd, Nat.reduceLT, Nat.reduceBEq, Nat.zero_add, Nat.add_zero, Nat.zero_ne_one, Nat.one_ne_zero, Bool.not_true, Bool.not_false, Bool.and_true, Bool.true_and, Bool.and_false, Bool.false_and, BEq.rfl, beq_self_eq_true, Bool.false_eq_true, reduceCtorEq, not_false_eq_true, fv0, fv1, fv2, fv3, eb_l0, eb_l1, eb_l2, eb_l3, eb_l4, eb_l5, eb_s0, eb_s1, eb_s2, eb_s3, eb_s4, eb_s5, oz_add, oz_sub, oz_mul, oz_neg, ol_add, ol_sub, sD_eq, sD_sD, sD_ne, sD_in, sD_in2, sD_in3, upR_is, upR_ne, mk_v, mk_n, mk_x, mk_i, mv_cs, Nat.reduceLeDiff, mv_ch_z, hq, nl_L_addRain, hd_L_addRain_0]
theorem hd_L_addRain_1 : mv_hd k_L_addRain 2 1 = some (12, 2) := by
  have e : mv_hd1 2 1 (mv_hl k_L_addRain mv_hs) = some 11 := by decide +kernel
  unfold mv_hd
  rw [e]
  simp only [r_L_addRain_11] <;> rfl
theorem w_L_addRain_1 {a1 : Int32} (hq : mv_cl L xs d k_X10_addRain [.ref 0, .int a1] (t, 142, mz T) = some (.inr 1, (t2, 142, mz T2))) : mv_cl L xs (d + 1) k_L_addRain [.ref 0, .int a1] (t, 142, mz T) = some (.inl (some (.int (Int32.ofInt (-10000)))), (t2, 142, mz T2)) := by
  apply mv_cl_of
  simp only [mv_il, Value.category, Nat.zero_add, Nat.reduceAdd]
  simp (disch := omega) only [mv_Ev_row r_L_addRain_0, mv_Ev_row r_L_addRain_1, mv_Ev_row r_L_addRain_2, mv_Ev_row r_L_addRain_5, mv_Ev_row r_L_addRain_6, mv_Ev_row r_L_addRain_7, mv_Ev_row r_L_addRain_10, mv_Ev_row r_L_addRain_11, mv_Ev_row r_L_addRain_12, mv_Ev_row r_L_addRain_15, ea_aload_n, ea_iload_n, kv_X10_addRain, ea_ireturn, ez_ret, ez_retc, ea_astore_n, ea_sipush, sz_m20000, sz_m10000, mv_ac, decide_eq_true_eq, not_true_eq_false, and_self, and_true, true_and, ea_2n, ea_2f, ea_2c, ea_if, if_pos, if_neg, mv_lk, mv_f1, mv_f2, Value.category, List.filter, ↓reduceIte, Nat.reduceEqDiff, Nat.reduceAdd, Nat.reduceLT, Nat.reduceBEq, Nat.zero_add, Nat.add_zero, Nat.zero_ne_one, Nat.one_ne_zero, Bool.not_true, Bool.not_false, Bool.and_true, Bool.true_and, Bool.and_false, Bool.false_and, BEq.rfl, beq_self_eq_true, Bool.false_eq_true, reduceCtorEq, not_false_eq_true, fv0, fv1, fv2, fv3, eb_l0, eb_l1, eb_l2, eb_l3, eb_l4, eb_l5, eb_s0, eb_s1, eb_s2, eb_s3, eb_s4, eb_s5, oz_add, oz_sub, oz_mul, oz_neg, ol_add, ol_sub, sD_eq, sD_sD, sD_ne, sD_in, sD_in2, sD_in3, upR_is, upR_ne, mk_v, mk_n, mk_x, mk_i, mv_cs, Nat.reduceLeDiff, mv_ch_z, hq, nl_L_addRain, hd_L_addRain_1]
theorem nl_L_pour : mv_nh k_L_pour = false := by decide +kernel
theorem w_L_pour_ok {a1 a2 : Int32} {x : Int32} (hq : mv_cl L xs d k_X10_pour [.ref 0, .int a1, .int a2] (t, 142, mz T) = some (.inl (some (.int x)), (t2, 142, mz T2))) : mv_cl L xs (d + 1) k_L_pour [.ref 0, .int a1, .int a2] (t, 142, mz T) = some (.inl (some (.int x)), (t2, 142, mz T2)) := by
  apply mv_cl_of
  simp only [mv_il, Value.category, Nat.zero_add, Nat.reduceAdd]
  simp (disch := omega) only [mv_Ev_row r_L_pour_0, mv_Ev_row r_L_pour_1, mv_Ev_row r_L_pour_2, mv_Ev_row r_L_pour_3, mv_Ev_row r_L_pour_6, mv_Ev_row r_L_pour_7, mv_Ev_row r_L_pour_8, mv_Ev_row r_L_pour_11, mv_Ev_row r_L_pour_12, mv_Ev_row r_L_pour_13, mv_Ev_row r_L_pour_16, mv_Ev_row r_L_pour_17, mv_Ev_row r_L_pour_18, mv_Ev_row r_L_pour_21, ea_aload_n, ea_iload_n, kv_X10_pour, ea_ireturn, ez_ret, ez_retc, ea_astore_n, ea_sipush, sz_m25000, sz_m20000, sz_m10000, mv_ac, decide_eq_true_eq, not_true_eq_false, and_self, and_true, true_and, ea_2n, ea_2f, ea_2c, ea_if, if_pos, if_neg, mv_lk, mv_f1, mv_f2, Value.category, List.filter, ↓reduceIte, Nat.reduceEqDiff, Nat.reduceAdd, Nat.reduceLT, Nat.reduceBEq, Nat.zero_add, Nat.add_zero, Nat.zero_ne_one, Nat.one_ne_zero, Bool.not_true, Bool.not_false, Bool.and_true, Bool.true_and, Bool.and_false, Bool.false_and, BEq.rfl, beq_self_eq_true, Bool.false_eq_true, reduceCtorEq, not_false_eq_true, fv0, fv1, fv2, fv3, eb_l0, eb_l1, eb_l2, eb_l3, eb_l4, eb_l5, eb_s0, eb_s1, eb_s2, eb_s3, eb_s4, eb_s5, oz_add, oz_sub, oz_mul, oz_neg, ol_add, ol_sub, sD_eq, sD_sD, sD_ne, sD_in, sD_in2, sD_in3, upR_is, upR_ne, mk_v, mk_n, mk_x, mk_i, mv_cs, Nat.reduceLeDiff, mv_ch_z, hq]
theorem hd_L_pour_2 : mv_hd k_L_pour 3 2 = some (8, 3) := by
  have e : mv_hd1 3 2 (mv_hl k_L_pour mv_hs) = some 7 := by decide +kernel
  unfold mv_hd
  rw [e]
  simp only [r_L_pour_7] <;> rfl
theorem w_L_pour_2 {a1 a2 : Int32} (hq : mv_cl L xs d k_X10_pour [.ref 0, .int a1, .int a2] (t, 142, mz T) = some (.inr 2, (t2, 142, mz T2))) : mv_cl L xs (d + 1) k_L_pour [.ref 0, .int a1, .int a2] (t, 142, mz T) = some (.inl (some (.int (Int32.ofInt (-25000)))), (t2, 142, mz T2)) := by
  apply mv_cl_of
  simp only [mv_il, Value.category, Nat.zero_add, Nat.reduceAdd]
  simp (disch := omega) only [mv_Ev_row r_L_pour_0, mv_Ev_row r_L_pour_1, mv_Ev_row r_L_pour_2, mv_Ev_row r_L_pour_3, mv_Ev_row r_L_pour_6, mv_Ev_row r_L_pour_7, mv_Ev_row r_L_pour_8, mv_Ev_row r_L_pour_11, mv_Ev_row r_L_pour_12, mv_Ev_row r_L_pour_13, mv_Ev_row r_L_pour_16, mv_Ev_row r_L_pour_17, mv_Ev_row r_L_pour_18, mv_Ev_row r_L_pour_21, ea_aload_n, ea_iload_n, kv_X10_pour, ea_ireturn, ez_ret, ez_retc, ea_astore_n, ea_sipush, sz_m25000, sz_m20000, sz_m10000, mv_ac, decide_eq_true_eq, not_true_eq_false, and_self, and_true, true_and, ea_2n, ea_2f, ea_2c, ea_if, if_pos, if_neg, mv_lk, mv_f1, mv_f2, Value.category, List.filter, ↓reduceIte, Nat.reduceEqDiff, Nat.reduceAdd, Nat.reduceLT, Nat.reduceBEq, Nat.zero_add, Nat.add_zero, Nat.zero_ne_one, Nat.one_ne_zero, Bool.not_true, Bool.not_false, Bool.and_true, Bool.true_and, Bool.and_false, Bool.false_and, BEq.rfl, beq_self_eq_true, Bool.false_eq_true, reduceCtorEq, not_false_eq_true, fv0, fv1, fv2, fv3, eb_l0, eb_l1, eb_l2, eb_l3, eb_l4, eb_l5, eb_s0, eb_s1, eb_s2, eb_s3, eb_s4, eb_s5, oz_add, oz_sub, oz_mul, oz_neg, ol_add, ol_sub, sD_eq, sD_sD, sD_ne, sD_in, sD_in2, sD_in3, upR_is, upR_ne, mk_v, mk_n, mk_x, mk_i, mv_cs, Nat.reduceLeDiff, mv_ch_z, hq, nl_L_pour, hd_L_pour_2]
theorem hd_L_pour_0 : mv_hd k_L_pour 3 0 = some (13, 3) := by
  have e : mv_hd1 3 0 (mv_hl k_L_pour mv_hs) = some 12 := by decide +kernel
  unfold mv_hd
  rw [e]
  simp only [r_L_pour_12] <;> rfl
theorem w_L_pour_0 {a1 a2 : Int32} (hq : mv_cl L xs d k_X10_pour [.ref 0, .int a1, .int a2] (t, 142, mz T) = some (.inr 0, (t2, 142, mz T2))) : mv_cl L xs (d + 1) k_L_pour [.ref 0, .int a1, .int a2] (t, 142, mz T) = some (.inl (some (.int (Int32.ofInt (-20000)))), (t2, 142, mz T2)) := by
  apply mv_cl_of
  simp only [mv_il, Value.category, Nat.zero_add, Nat.reduceAdd]
  simp (disch := omega) only [mv_Ev_row r_L_pour_0, mv_Ev_row r_L_pour_1, mv_Ev_row r_L_pour_2, mv_Ev_row r_L_pour_3, mv_Ev_row r_L_pour_6, mv_Ev_row r_L_pour_7, mv_Ev_row r_L_pour_8, mv_Ev_row r_L_pour_11, mv_Ev_row r_L_pour_12, mv_Ev_row r_L_pour_13, mv_Ev_row r_L_pour_16, mv_Ev_row r_L_pour_17, mv_Ev_row r_L_pour_18, mv_Ev_row r_L_pour_21, ea_aload_n, ea_iload_n, kv_X10_pour, ea_ireturn, ez_ret, ez_retc, ea_astore_n, ea_sipush, sz_m25000, sz_m20000, sz_m10000, mv_ac, decide_eq_true_eq, not_true_eq_false, and_self, and_true, true_and, ea_2n, ea_2f, ea_2c, ea_if, if_pos, if_neg, mv_lk, mv_f1, mv_f2, Value.category, List.filter, ↓reduceIte, Nat.reduceEqDiff, Nat.reduceAdd, Nat.reduceLT, Nat.reduceBEq, Nat.zero_add, Nat.add_zero, Nat.zero_ne_one, Nat.one_ne_zero, Bool.not_true, Bool.not_false, Bool.and_true, Bool.true_and, Bool.and_false, Bool.false_and, BEq.rfl, beq_self_eq_true, Bool.false_eq_true, reduceCtorEq, not_false_eq_true, fv0, fv1, fv2, fv3, eb_l0, eb_l1, eb_l2, eb_l3, eb_l4, eb_l5, eb_s0, eb_s1, eb_s2, eb_s3, eb_s4, eb_s5, oz_add, oz_sub, oz_mul, oz_neg, ol_add, ol_sub, sD_eq, sD_sD, sD_ne, sD_in, sD_in2, sD_in3, upR_is, upR_ne, mk_v, mk_n, mk_x, mk_i, mv_cs, Nat.reduceLeDiff, mv_ch_z, hq, nl_L_pour, hd_L_pour_0]
theorem hd_L_pour_1 : mv_hd k_L_pour 3 1 = some (18, 3) := by
  have e : mv_hd1 3 1 (mv_hl k_L_pour mv_hs) = some 17 := by decide +kernel
  unfold mv_hd
  rw [e]
  simp only [r_L_pour_17] <;> rfl
theorem w_L_pour_1 {a1 a2 : Int32} (hq : mv_cl L xs d k_X10_pour [.ref 0, .int a1, .int a2] (t, 142, mz T) = some (.inr 1, (t2, 142, mz T2))) : mv_cl L xs (d + 1) k_L_pour [.ref 0, .int a1, .int a2] (t, 142, mz T) = some (.inl (some (.int (Int32.ofInt (-10000)))), (t2, 142, mz T2)) := by
  apply mv_cl_of
  simp only [mv_il, Value.category, Nat.zero_add, Nat.reduceAdd]
  simp (disch := omega) only [mv_Ev_row r_L_pour_0, mv_Ev_row r_L_pour_1, mv_Ev_row r_L_pour_2, mv_Ev_row r_L_pour_3, mv_Ev_row r_L_pour_6, mv_Ev_row r_L_pour_7, mv_Ev_row r_L_pour_8, mv_Ev_row r_L_pour_11, mv_Ev_row r_L_pour_12, mv_Ev_row r_L_pour_13, mv_Ev_row r_L_pour_16, mv_Ev_row r_L_pour_17, mv_Ev_row r_L_pour_18, mv_Ev_row r_L_pour_21, ea_aload_n, ea_iload_n, kv_X10_pour, ea_ireturn, ez_ret, ez_retc, ea_astore_n, ea_sipush, sz_m25000, sz_m20000, sz_m10000, mv_ac, decide_eq_true_eq, not_true_eq_false, and_self, and_true, true_and, ea_2n, ea_2f, ea_2c, ea_if, if_pos, if_neg, mv_lk, mv_f1, mv_f2, Value.category, List.filter, ↓reduceIte, Nat.reduceEqDiff, Nat.reduceAdd, Nat.reduceLT, Nat.reduceBEq, Nat.zero_add, Nat.add_zero, Nat.zero_ne_one, Nat.one_ne_zero, Bool.not_true, Bool.not_false, Bool.and_true, Bool.true_and, Bool.and_false, Bool.false_and, BEq.rfl, beq_self_eq_true, Bool.false_eq_true, reduceCtorEq, not_false_eq_true, fv0, fv1, fv2, fv3, eb_l0, eb_l1, eb_l2, eb_l3, eb_l4, eb_l5, eb_s0, eb_s1, eb_s2, eb_s3, eb_s4, eb_s5, oz_add, oz_sub, oz_mul, oz_neg, ol_add, ol_sub, sD_eq, sD_sD, sD_ne, sD_in, sD_in2, sD_in3, upR_is, upR_ne, mk_v, mk_n, mk_x, mk_i, mv_cs, Nat.reduceLeDiff, mv_ch_z, hq, nl_L_pour, hd_L_pour_1]
theorem nl_L_advance : mv_nh k_L_advance = false := by decide +kernel
theorem w_L_advance_ok {a1 : Int32} {x : Int32} (hq : mv_cl L xs d k_X10_advance [.ref 0, .int a1] (t, 142, mz T) = some (.inl (some (.int x)), (t2, 142, mz T2))) : mv_cl L xs (d + 1) k_L_advance [.ref 0, .int a1] (t, 142, mz T) = some (.inl (some (.int x)), (t2, 142, mz T2)) := by
  apply mv_cl_of
  simp only [mv_il, Value.category, Nat.zero_add, Nat.reduceAdd]
  simp (disch := omega) only [mv_Ev_row r_L_advance_0, mv_Ev_row r_L_advance_1, mv_Ev_row r_L_advance_2, mv_Ev_row r_L_advance_5, mv_Ev_row r_L_advance_6, mv_Ev_row r_L_advance_7, mv_Ev_row r_L_advance_10, ea_aload_n, ea_iload_n, kv_X10_advance, ea_ireturn, ez_ret, ez_retc, ea_astore_n, ea_sipush, sz_m20000, mv_ac, decide_eq_true_eq, not_true_eq_false, and_self, and_true, true_and, ea_2n, ea_2f, ea_2c, ea_if, if_pos, if_neg, mv_lk, mv_f1, mv_f2, Value.category, List.filter, ↓reduceIte, Nat.reduceEqDiff, Nat.reduceAdd, Nat.reduceLT, Nat.reduceBEq, Nat.zero_add, Nat.add_zero, Nat.zero_ne_one, Nat.one_ne_zero, Bool.not_true, Bool.not_false, Bool.and_true, Bool.true_and, Bool.and_false, Bool.false_and, BEq.rfl, beq_self_eq_true, Bool.false_eq_true, reduceCtorEq, not_false_eq_true, fv0, fv1, fv2, fv3, eb_l0, eb_l1, eb_l2, eb_l3, eb_l4, eb_l5, eb_s0, eb_s1, eb_s2, eb_s3, eb_s4, eb_s5, oz_add, oz_sub, oz_mul, oz_neg, ol_add, ol_sub, sD_eq, sD_sD, sD_ne, sD_in, sD_in2, sD_in3, upR_is, upR_ne, mk_v, mk_n, mk_x, mk_i, mv_cs, Nat.reduceLeDiff, mv_ch_z, hq]
theorem hd_L_advance_0 : mv_hd k_L_advance 2 0 = some (7, 2) := by
  have e : mv_hd1 2 0 (mv_hl k_L_advance mv_hs) = some 6 := by decide +kernel
  unfold mv_hd
  rw [e]
  simp only [r_L_advance_6] <;> rfl
theorem w_L_advance_0 {a1 : Int32} (hq : mv_cl L xs d k_X10_advance [.ref 0, .int a1] (t, 142, mz T) = some (.inr 0, (t2, 142, mz T2))) : mv_cl L xs (d + 1) k_L_advance [.ref 0, .int a1] (t, 142, mz T) = some (.inl (some (.int (Int32.ofInt (-20000)))), (t2, 142, mz T2)) := by
  apply mv_cl_of
  simp only [mv_il, Value.category, Nat.zero_add, Nat.reduceAdd]
  simp (disch := omega) only [mv_Ev_row r_L_advance_0, mv_Ev_row r_L_advance_1, mv_Ev_row r_L_advance_2, mv_Ev_row r_L_advance_5, mv_Ev_row r_L_advance_6, mv_Ev_row r_L_advance_7, mv_Ev_row r_L_advance_10, ea_aload_n, ea_iload_n, kv_X10_advance, ea_ireturn, ez_ret, ez_retc, ea_astore_n, ea_sipush, sz_m20000, mv_ac, decide_eq_true_eq, not_true_eq_false, and_self, and_true, true_and, ea_2n, ea_2f, ea_2c, ea_if, if_pos, if_neg, mv_lk, mv_f1, mv_f2, Value.category, List.filter, ↓reduceIte, Nat.reduceEqDiff, Nat.reduceAdd, Nat.reduceLT, Nat.reduceBEq, Nat.zero_add, Nat.add_zero, Nat.zero_ne_one, Nat.one_ne_zero, Bool.not_true, Bool.not_false, Bool.and_true, Bool.true_and, Bool.and_false, Bool.false_and, BEq.rfl, beq_self_eq_true, Bool.false_eq_true, reduceCtorEq, not_false_eq_true, fv0, fv1, fv2, fv3, eb_l0, eb_l1, eb_l2, eb_l3, eb_l4, eb_l5, eb_s0, eb_s1, eb_s2, eb_s3, eb_s4, eb_s5, oz_add, oz_sub, oz_mul, oz_neg, ol_add, ol_sub, sD_eq, sD_sD, sD_ne, sD_in, sD_in2, sD_in3, upR_is, upR_ne, mk_v, mk_n, mk_x, mk_i, mv_cs, Nat.reduceLeDiff, mv_ch_z, hq, nl_L_advance, hd_L_advance_0]
theorem nl_L_threshold : mv_nh k_L_threshold = false := by decide +kernel
theorem w_L_threshold_ok {a1 : Int32} {x : Int32} (hq : mv_cl L xs d k_X10_threshold [.ref 0, .int a1] (t, 142, mz T) = some (.inl (some (.int x)), (t2, 142, mz T2))) : mv_cl L xs (d + 1) k_L_threshold [.ref 0, .int a1] (t, 142, mz T) = some (.inl (some (.int x)), (t2, 142, mz T2)) := by
  apply mv_cl_of
  simp only [mv_il, Value.category, Nat.zero_add, Nat.reduceAdd]
  simp (disch := omega) only [mv_Ev_row r_L_threshold_0, mv_Ev_row r_L_threshold_1, mv_Ev_row r_L_threshold_2, mv_Ev_row r_L_threshold_5, mv_Ev_row r_L_threshold_6, mv_Ev_row r_L_threshold_7, mv_Ev_row r_L_threshold_10, mv_Ev_row r_L_threshold_11, mv_Ev_row r_L_threshold_12, mv_Ev_row r_L_threshold_15, ea_aload_n, ea_iload_n, kv_X10_threshold, ea_ireturn, ez_ret, ez_retc, ea_astore_n, ea_sipush, sz_m30000, sz_m25000, mv_ac, decide_eq_true_eq, not_true_eq_false, and_self, and_true, true_and, ea_2n, ea_2f, ea_2c, ea_if, if_pos, if_neg, mv_lk, mv_f1, mv_f2, Value.category, List.filter, ↓reduceIte, Nat.reduceEqDiff, Nat.reduceAdd, Nat.reduceLT, Nat.reduceBEq, Nat.zero_add, Nat.add_zero, Nat.zero_ne_one, Nat.one_ne_zero, Bool.not_true, Bool.not_false, Bool.and_true, Bool.true_and, Bool.and_false, Bool.false_and, BEq.rfl, beq_self_eq_true, Bool.false_eq_true, reduceCtorEq, not_false_eq_true, fv0, fv1, fv2, fv3, eb_l0, eb_l1, eb_l2, eb_l3, eb_l4, eb_l5, eb_s0, eb_s1, eb_s2, eb_s3, eb_s4, eb_s5, oz_add, oz_sub, oz_mul, oz_neg, ol_add, ol_sub, sD_eq, sD_sD, sD_ne, sD_in, sD_in2, sD_in3, upR_is, upR_ne, mk_v, mk_n, mk_x, mk_i, mv_cs, Nat.reduceLeDiff, mv_ch_z, hq]
theorem hd_L_threshold_2 : mv_hd k_L_threshold 2 2 = some (7, 2) := by
  have e : mv_hd1 2 2 (mv_hl k_L_threshold mv_hs) = some 6 := by decide +kernel
  unfold mv_hd
  rw [e]
  simp only [r_L_threshold_6] <;> rfl
theorem w_L_threshold_2 {a1 : Int32} (hq : mv_cl L xs d k_X10_threshold [.ref 0, .int a1] (t, 142, mz T) = some (.inr 2, (t2, 142, mz T2))) : mv_cl L xs (d + 1) k_L_threshold [.ref 0, .int a1] (t, 142, mz T) = some (.inl (some (.int (Int32.ofInt (-25000)))), (t2, 142, mz T2)) := by
  apply mv_cl_of
  simp only [mv_il, Value.category, Nat.zero_add, Nat.reduceAdd]
  simp (disch := omega) only [mv_Ev_row r_L_threshold_0, mv_Ev_row r_L_threshold_1, mv_Ev_row r_L_threshold_2, mv_Ev_row r_L_threshold_5, mv_Ev_row r_L_threshold_6, mv_Ev_row r_L_threshold_7, mv_Ev_row r_L_threshold_10, mv_Ev_row r_L_threshold_11, mv_Ev_row r_L_threshold_12, mv_Ev_row r_L_threshold_15, ea_aload_n, ea_iload_n, kv_X10_threshold, ea_ireturn, ez_ret, ez_retc, ea_astore_n, ea_sipush, sz_m30000, sz_m25000, mv_ac, decide_eq_true_eq, not_true_eq_false, and_self, and_true, true_and, ea_2n, ea_2f, ea_2c, ea_if, if_pos, if_neg, mv_lk, mv_f1, mv_f2, Value.category, List.filter, ↓reduceIte, Nat.reduceEqDiff, Nat.reduceAdd, Nat.reduceLT, Nat.reduceBEq, Nat.zero_add, Nat.add_zero, Nat.zero_ne_one, Nat.one_ne_zero, Bool.not_true, Bool.not_false, Bool.and_true, Bool.true_and, Bool.and_false, Bool.false_and, BEq.rfl, beq_self_eq_true, Bool.false_eq_true, reduceCtorEq, not_false_eq_true, fv0, fv1, fv2, fv3, eb_l0, eb_l1, eb_l2, eb_l3, eb_l4, eb_l5, eb_s0, eb_s1, eb_s2, eb_s3, eb_s4, eb_s5, oz_add, oz_sub, oz_mul, oz_neg, ol_add, ol_sub, sD_eq, sD_sD, sD_ne, sD_in, sD_in2, sD_in3, upR_is, upR_ne, mk_v, mk_n, mk_x, mk_i, mv_cs, Nat.reduceLeDiff, mv_ch_z, hq, nl_L_threshold, hd_L_threshold_2]
theorem hd_L_threshold_5 : mv_hd k_L_threshold 2 5 = some (12, 2) := by
  have e : mv_hd1 2 5 (mv_hl k_L_threshold mv_hs) = some 11 := by decide +kernel
  unfold mv_hd
  rw [e]
  simp only [r_L_threshold_11] <;> rfl
theorem w_L_threshold_5 {a1 : Int32} (hq : mv_cl L xs d k_X10_threshold [.ref 0, .int a1] (t, 142, mz T) = some (.inr 5, (t2, 142, mz T2))) : mv_cl L xs (d + 1) k_L_threshold [.ref 0, .int a1] (t, 142, mz T) = some (.inl (some (.int (Int32.ofInt (-30000)))), (t2, 142, mz T2)) := by
  apply mv_cl_of
  simp only [mv_il, Value.category, Nat.zero_add, Nat.reduceAdd]
  simp (disch := omega) only [mv_Ev_row r_L_threshold_0, mv_Ev_row r_L_threshold_1, mv_Ev_row r_L_threshold_2, mv_Ev_row r_L_threshold_5, mv_Ev_row r_L_threshold_6, mv_Ev_row r_L_threshold_7, mv_Ev_row r_L_threshold_10, mv_Ev_row r_L_threshold_11, mv_Ev_row r_L_threshold_12, mv_Ev_row r_L_threshold_15, ea_aload_n, ea_iload_n, kv_X10_threshold, ea_ireturn, ez_ret, ez_retc, ea_astore_n, ea_sipush, sz_m30000, sz_m25000, mv_ac, decide_eq_true_eq, not_true_eq_false, and_self, and_true, true_and, ea_2n, ea_2f, ea_2c, ea_if, if_pos, if_neg, mv_lk, mv_f1, mv_f2, Value.category, List.filter, ↓reduceIte, Nat.reduceEqDiff, Nat.reduceAdd, Nat.reduceLT, Nat.reduceBEq, Nat.zero_add, Nat.add_zero, Nat.zero_ne_one, Nat.one_ne_zero, Bool.not_true, Bool.not_false, Bool.and_true, Bool.true_and, Bool.and_false, Bool.false_and, BEq.rfl, beq_self_eq_true, Bool.false_eq_true, reduceCtorEq, not_false_eq_true, fv0, fv1, fv2, fv3, eb_l0, eb_l1, eb_l2, eb_l3, eb_l4, eb_l5, eb_s0, eb_s1, eb_s2, eb_s3, eb_s4, eb_s5, oz_add, oz_sub, oz_mul, oz_neg, ol_add, ol_sub, sD_eq, sD_sD, sD_ne, sD_in, sD_in2, sD_in3, upR_is, upR_ne, mk_v, mk_n, mk_x, mk_i, mv_cs, Nat.reduceLeDiff, mv_ch_z, hq, nl_L_threshold, hd_L_threshold_5]
theorem nl_L_basinAtRank : mv_nh k_L_basinAtRank = false := by decide +kernel
theorem w_L_basinAtRank_ok {a1 : Int32} {x : Int32} (hq : mv_cl L xs d k_X10_basinAtRank [.ref 0, .int a1] (t, 142, mz T) = some (.inl (some (.int x)), (t2, 142, mz T2))) : mv_cl L xs (d + 1) k_L_basinAtRank [.ref 0, .int a1] (t, 142, mz T) = some (.inl (some (.int x)), (t2, 142, mz T2)) := by
  apply mv_cl_of
  simp only [mv_il, Value.category, Nat.zero_add, Nat.reduceAdd]
  simp (disch := omega) only [mv_Ev_row r_L_basinAtRank_0, mv_Ev_row r_L_basinAtRank_1, mv_Ev_row r_L_basinAtRank_2, mv_Ev_row r_L_basinAtRank_5, mv_Ev_row r_L_basinAtRank_6, mv_Ev_row r_L_basinAtRank_7, mv_Ev_row r_L_basinAtRank_10, ea_aload_n, ea_iload_n, kv_X10_basinAtRank, ea_ireturn, ez_ret, ez_retc, ea_astore_n, ea_sipush, sz_m30000, mv_ac, decide_eq_true_eq, not_true_eq_false, and_self, and_true, true_and, ea_2n, ea_2f, ea_2c, ea_if, if_pos, if_neg, mv_lk, mv_f1, mv_f2, Value.category, List.filter, ↓reduceIte, Nat.reduceEqDiff, Nat.reduceAdd, Nat.reduceLT, Nat.reduceBEq, Nat.zero_add, Nat.add_zero, Nat.zero_ne_one, Nat.one_ne_zero, Bool.not_true, Bool.not_false, Bool.and_true, Bool.true_and, Bool.and_false, Bool.false_and, BEq.rfl, beq_self_eq_true, Bool.false_eq_true, reduceCtorEq, not_false_eq_true, fv0, fv1, fv2, fv3, eb_l0, eb_l1, eb_l2, eb_l3, eb_l4, eb_l5, eb_s0, eb_s1, eb_s2, eb_s3, eb_s4, eb_s5, oz_add, oz_sub, oz_mul, oz_neg, ol_add, ol_sub, sD_eq, sD_sD, sD_ne, sD_in, sD_in2, sD_in3, upR_is, upR_ne, mk_v, mk_n, mk_x, mk_i, mv_cs, Nat.reduceLeDiff, mv_ch_z, hq]
theorem hd_L_basinAtRank_5 : mv_hd k_L_basinAtRank 2 5 = some (7, 2) := by
  have e : mv_hd1 2 5 (mv_hl k_L_basinAtRank mv_hs) = some 6 := by decide +kernel
  unfold mv_hd
  rw [e]
  simp only [r_L_basinAtRank_6] <;> rfl
theorem w_L_basinAtRank_5 {a1 : Int32} (hq : mv_cl L xs d k_X10_basinAtRank [.ref 0, .int a1] (t, 142, mz T) = some (.inr 5, (t2, 142, mz T2))) : mv_cl L xs (d + 1) k_L_basinAtRank [.ref 0, .int a1] (t, 142, mz T) = some (.inl (some (.int (Int32.ofInt (-30000)))), (t2, 142, mz T2)) := by
  apply mv_cl_of
  simp only [mv_il, Value.category, Nat.zero_add, Nat.reduceAdd]
  simp (disch := omega) only [mv_Ev_row r_L_basinAtRank_0, mv_Ev_row r_L_basinAtRank_1, mv_Ev_row r_L_basinAtRank_2, mv_Ev_row r_L_basinAtRank_5, mv_Ev_row r_L_basinAtRank_6, mv_Ev_row r_L_basinAtRank_7, mv_Ev_row r_L_basinAtRank_10, ea_aload_n, ea_iload_n, kv_X10_basinAtRank, ea_ireturn, ez_ret, ez_retc, ea_astore_n, ea_sipush, sz_m30000, mv_ac, decide_eq_true_eq, not_true_eq_false, and_self, and_true, true_and, ea_2n, ea_2f, ea_2c, ea_if, if_pos, if_neg, mv_lk, mv_f1, mv_f2, Value.category, List.filter, ↓reduceIte, Nat.reduceEqDiff, Nat.reduceAdd, Nat.reduceLT, Nat.reduceBEq, Nat.zero_add, Nat.add_zero, Nat.zero_ne_one, Nat.one_ne_zero, Bool.not_true, Bool.not_false, Bool.and_true, Bool.true_and, Bool.and_false, Bool.false_and, BEq.rfl, beq_self_eq_true, Bool.false_eq_true, reduceCtorEq, not_false_eq_true, fv0, fv1, fv2, fv3, eb_l0, eb_l1, eb_l2, eb_l3, eb_l4, eb_l5, eb_s0, eb_s1, eb_s2, eb_s3, eb_s4, eb_s5, oz_add, oz_sub, oz_mul, oz_neg, ol_add, ol_sub, sD_eq, sD_sD, sD_ne, sD_in, sD_in2, sD_in3, upR_is, upR_ne, mk_v, mk_n, mk_x, mk_i, mv_cs, Nat.reduceLeDiff, mv_ch_z, hq, nl_L_basinAtRank, hd_L_basinAtRank_5]
theorem nl_L_rainAt : mv_nh k_L_rainAt = false := by decide +kernel
theorem w_L_rainAt_ok {a1 : Int32} {x : Int32} (hq : mv_cl L xs d k_X10_rainAt [.ref 0, .int a1] (t, 142, mz T) = some (.inl (some (.int x)), (t2, 142, mz T2))) : mv_cl L xs (d + 1) k_L_rainAt [.ref 0, .int a1] (t, 142, mz T) = some (.inl (some (.int x)), (t2, 142, mz T2)) := by
  apply mv_cl_of
  simp only [mv_il, Value.category, Nat.zero_add, Nat.reduceAdd]
  simp (disch := omega) only [mv_Ev_row r_L_rainAt_0, mv_Ev_row r_L_rainAt_1, mv_Ev_row r_L_rainAt_2, mv_Ev_row r_L_rainAt_5, mv_Ev_row r_L_rainAt_6, mv_Ev_row r_L_rainAt_7, mv_Ev_row r_L_rainAt_10, ea_aload_n, ea_iload_n, kv_X10_rainAt, ea_ireturn, ez_ret, ez_retc, ea_astore_n, ea_sipush, sz_m25000, mv_ac, decide_eq_true_eq, not_true_eq_false, and_self, and_true, true_and, ea_2n, ea_2f, ea_2c, ea_if, if_pos, if_neg, mv_lk, mv_f1, mv_f2, Value.category, List.filter, ↓reduceIte, Nat.reduceEqDiff, Nat.reduceAdd, Nat.reduceLT, Nat.reduceBEq, Nat.zero_add, Nat.add_zero, Nat.zero_ne_one, Nat.one_ne_zero, Bool.not_true, Bool.not_false, Bool.and_true, Bool.true_and, Bool.and_false, Bool.false_and, BEq.rfl, beq_self_eq_true, Bool.false_eq_true, reduceCtorEq, not_false_eq_true, fv0, fv1, fv2, fv3, eb_l0, eb_l1, eb_l2, eb_l3, eb_l4, eb_l5, eb_s0, eb_s1, eb_s2, eb_s3, eb_s4, eb_s5, oz_add, oz_sub, oz_mul, oz_neg, ol_add, ol_sub, sD_eq, sD_sD, sD_ne, sD_in, sD_in2, sD_in3, upR_is, upR_ne, mk_v, mk_n, mk_x, mk_i, mv_cs, Nat.reduceLeDiff, mv_ch_z, hq]
theorem hd_L_rainAt_2 : mv_hd k_L_rainAt 2 2 = some (7, 2) := by
  have e : mv_hd1 2 2 (mv_hl k_L_rainAt mv_hs) = some 6 := by decide +kernel
  unfold mv_hd
  rw [e]
  simp only [r_L_rainAt_6] <;> rfl
theorem w_L_rainAt_2 {a1 : Int32} (hq : mv_cl L xs d k_X10_rainAt [.ref 0, .int a1] (t, 142, mz T) = some (.inr 2, (t2, 142, mz T2))) : mv_cl L xs (d + 1) k_L_rainAt [.ref 0, .int a1] (t, 142, mz T) = some (.inl (some (.int (Int32.ofInt (-25000)))), (t2, 142, mz T2)) := by
  apply mv_cl_of
  simp only [mv_il, Value.category, Nat.zero_add, Nat.reduceAdd]
  simp (disch := omega) only [mv_Ev_row r_L_rainAt_0, mv_Ev_row r_L_rainAt_1, mv_Ev_row r_L_rainAt_2, mv_Ev_row r_L_rainAt_5, mv_Ev_row r_L_rainAt_6, mv_Ev_row r_L_rainAt_7, mv_Ev_row r_L_rainAt_10, ea_aload_n, ea_iload_n, kv_X10_rainAt, ea_ireturn, ez_ret, ez_retc, ea_astore_n, ea_sipush, sz_m25000, mv_ac, decide_eq_true_eq, not_true_eq_false, and_self, and_true, true_and, ea_2n, ea_2f, ea_2c, ea_if, if_pos, if_neg, mv_lk, mv_f1, mv_f2, Value.category, List.filter, ↓reduceIte, Nat.reduceEqDiff, Nat.reduceAdd, Nat.reduceLT, Nat.reduceBEq, Nat.zero_add, Nat.add_zero, Nat.zero_ne_one, Nat.one_ne_zero, Bool.not_true, Bool.not_false, Bool.and_true, Bool.true_and, Bool.and_false, Bool.false_and, BEq.rfl, beq_self_eq_true, Bool.false_eq_true, reduceCtorEq, not_false_eq_true, fv0, fv1, fv2, fv3, eb_l0, eb_l1, eb_l2, eb_l3, eb_l4, eb_l5, eb_s0, eb_s1, eb_s2, eb_s3, eb_s4, eb_s5, oz_add, oz_sub, oz_mul, oz_neg, ol_add, ol_sub, sD_eq, sD_sD, sD_ne, sD_in, sD_in2, sD_in3, upR_is, upR_ne, mk_v, mk_n, mk_x, mk_i, mv_cs, Nat.reduceLeDiff, mv_ch_z, hq, nl_L_rainAt, hd_L_rainAt_2]
theorem nl_L_stepsUntilFlood : mv_nh k_L_stepsUntilFlood = false := by decide +kernel
theorem w_L_stepsUntilFlood_ok {x : Int32} (hq : mv_cl L xs d k_X10_stepsUntilFlood [.ref 0] (t, 142, mz T) = some (.inl (some (.int x)), (t2, 142, mz T2))) : mv_cl L xs (d + 1) k_L_stepsUntilFlood [.ref 0] (t, 142, mz T) = some (.inl (some (.int x)), (t2, 142, mz T2)) := by
  apply mv_cl_of
  simp only [mv_il, Value.category, Nat.zero_add, Nat.reduceAdd]
  simp (disch := omega) only [mv_Ev_row r_L_stepsUntilFlood_0, mv_Ev_row r_L_stepsUntilFlood_1, mv_Ev_row r_L_stepsUntilFlood_4, mv_Ev_row r_L_stepsUntilFlood_5, mv_Ev_row r_L_stepsUntilFlood_6, mv_Ev_row r_L_stepsUntilFlood_9, ea_aload_n, kv_X10_stepsUntilFlood, ea_ireturn, ez_ret, ez_retc, ea_astore_n, ea_sipush, sz_m30000, mv_ac, decide_eq_true_eq, not_true_eq_false, and_self, and_true, true_and, ea_2n, ea_2f, ea_2c, ea_if, if_pos, if_neg, mv_lk, mv_f1, mv_f2, Value.category, List.filter, ↓reduceIte, Nat.reduceEqDiff, Nat.reduceAdd, Nat.reduceLT, Nat.reduceBEq, Nat.zero_add, Nat.add_zero, Nat.zero_ne_one, Nat.one_ne_zero, Bool.not_true, Bool.not_false, Bool.and_true, Bool.true_and, Bool.and_false, Bool.false_and, BEq.rfl, beq_self_eq_true, Bool.false_eq_true, reduceCtorEq, not_false_eq_true, fv0, fv1, fv2, fv3, eb_l0, eb_l1, eb_l2, eb_l3, eb_l4, eb_l5, eb_s0, eb_s1, eb_s2, eb_s3, eb_s4, eb_s5, oz_add, oz_sub, oz_mul, oz_neg, ol_add, ol_sub, sD_eq, sD_sD, sD_ne, sD_in, sD_in2, sD_in3, upR_is, upR_ne, mk_v, mk_n, mk_x, mk_i, mv_cs, Nat.reduceLeDiff, mv_ch_z, hq]
theorem hd_L_stepsUntilFlood_5 : mv_hd k_L_stepsUntilFlood 1 5 = some (6, 1) := by
  have e : mv_hd1 1 5 (mv_hl k_L_stepsUntilFlood mv_hs) = some 5 := by decide +kernel
  unfold mv_hd
  rw [e]
  simp only [r_L_stepsUntilFlood_5] <;> rfl
theorem w_L_stepsUntilFlood_5 (hq : mv_cl L xs d k_X10_stepsUntilFlood [.ref 0] (t, 142, mz T) = some (.inr 5, (t2, 142, mz T2))) : mv_cl L xs (d + 1) k_L_stepsUntilFlood [.ref 0] (t, 142, mz T) = some (.inl (some (.int (Int32.ofInt (-30000)))), (t2, 142, mz T2)) := by
  apply mv_cl_of
  simp only [mv_il, Value.category, Nat.zero_add, Nat.reduceAdd]
  simp (disch := omega) only [mv_Ev_row r_L_stepsUntilFlood_0, mv_Ev_row r_L_stepsUntilFlood_1, mv_Ev_row r_L_stepsUntilFlood_4, mv_Ev_row r_L_stepsUntilFlood_5, mv_Ev_row r_L_stepsUntilFlood_6, mv_Ev_row r_L_stepsUntilFlood_9, ea_aload_n, kv_X10_stepsUntilFlood, ea_ireturn, ez_ret, ez_retc, ea_astore_n, ea_sipush, sz_m30000, mv_ac, decide_eq_true_eq, not_true_eq_false, and_self, and_true, true_and, ea_2n, ea_2f, ea_2c, ea_if, if_pos, if_neg, mv_lk, mv_f1, mv_f2, Value.category, List.filter, ↓reduceIte, Nat.reduceEqDiff, Nat.reduceAdd, Nat.reduceLT, Nat.reduceBEq, Nat.zero_add, Nat.add_zero, Nat.zero_ne_one, Nat.one_ne_zero, Bool.not_true, Bool.not_false, Bool.and_true, Bool.true_and, Bool.and_false, Bool.false_and, BEq.rfl, beq_self_eq_true, Bool.false_eq_true, reduceCtorEq, not_false_eq_true, fv0, fv1, fv2, fv3, eb_l0, eb_l1, eb_l2, eb_l3, eb_l4, eb_l5, eb_s0, eb_s1, eb_s2, eb_s3, eb_s4, eb_s5, oz_add, oz_sub, oz_mul, oz_neg, ol_add, ol_sub, sD_eq, sD_sD, sD_ne, sD_in, sD_in2, sD_in3, upR_is, upR_ne, mk_v, mk_n, mk_x, mk_i, mv_cs, Nat.reduceLeDiff, mv_ch_z, hq, nl_L_stepsUntilFlood, hd_L_stepsUntilFlood_5]
end LW

