/-! THE LAW'S WRAPPERS -/
theorem tb_L_addBasin : mv_tb k_L_addBasin = t_L_addBasin := rfl
theorem r_L_addBasin_0 : mv_in k_L_addBasin 0 = some (.aload 4, 2, 0, 0, 0) := by unfold mv_in; rw [tb_L_addBasin]; rfl
theorem r_L_addBasin_2 : mv_in k_L_addBasin 2 = some (.iconst 0, 3, 0, 0, 0) := by unfold mv_in; rw [tb_L_addBasin]; rfl
theorem r_L_addBasin_3 : mv_in k_L_addBasin 3 = some (.aload_n 0, 4, 0, 0, 0) := by unfold mv_in; rw [tb_L_addBasin]; rfl
theorem r_L_addBasin_4 : mv_in k_L_addBasin 4 = some (.iload_n 1, 5, 0, 0, 0) := by unfold mv_in; rw [tb_L_addBasin]; rfl
theorem r_L_addBasin_5 : mv_in k_L_addBasin 5 = some (.iload_n 2, 6, 0, 0, 0) := by unfold mv_in; rw [tb_L_addBasin]; rfl
theorem r_L_addBasin_6 : mv_in k_L_addBasin 6 = some (.iload_n 3, 7, 0, 0, 0) := by unfold mv_in; rw [tb_L_addBasin]; rfl
theorem r_L_addBasin_7 : mv_in k_L_addBasin 7 = some (.invokevirtual 7, 10, k_X10_addBasin, 4, 778) := by unfold mv_in; rw [tb_L_addBasin]; rfl
theorem r_L_addBasin_10 : mv_in k_L_addBasin 10 = some (.i2l, 11, 0, 0, 0) := by unfold mv_in; rw [tb_L_addBasin]; rfl
theorem r_L_addBasin_11 : mv_in k_L_addBasin 11 = some (.lastore, 12, 0, 0, 0) := by unfold mv_in; rw [tb_L_addBasin]; rfl
theorem r_L_addBasin_12 : mv_in k_L_addBasin 12 = some (.goto 11, 15, 23, 0, 0) := by unfold mv_in; rw [tb_L_addBasin]; rfl
theorem r_L_addBasin_15 : mv_in k_L_addBasin 15 = some (.astore 5, 17, 0, 0, 0) := by unfold mv_in; rw [tb_L_addBasin]; rfl
theorem r_L_addBasin_17 : mv_in k_L_addBasin 17 = some (.iconst 1, 18, 0, 0, 0) := by unfold mv_in; rw [tb_L_addBasin]; rfl
theorem r_L_addBasin_18 : mv_in k_L_addBasin 18 = some (.ireturn, 19, 0, 0, 0) := by unfold mv_in; rw [tb_L_addBasin]; rfl
theorem r_L_addBasin_19 : mv_in k_L_addBasin 19 = some (.astore 5, 21, 0, 0, 0) := by unfold mv_in; rw [tb_L_addBasin]; rfl
theorem r_L_addBasin_21 : mv_in k_L_addBasin 21 = some (.iconst 2, 22, 0, 0, 0) := by unfold mv_in; rw [tb_L_addBasin]; rfl
theorem r_L_addBasin_22 : mv_in k_L_addBasin 22 = some (.ireturn, 23, 0, 0, 0) := by unfold mv_in; rw [tb_L_addBasin]; rfl
theorem r_L_addBasin_23 : mv_in k_L_addBasin 23 = some (.iconst 0, 24, 0, 0, 0) := by unfold mv_in; rw [tb_L_addBasin]; rfl
theorem r_L_addBasin_24 : mv_in k_L_addBasin 24 = some (.ireturn, 25, 0, 0, 0) := by unfold mv_in; rw [tb_L_addBasin]; rfl
theorem tb_L_setGate : mv_tb k_L_setGate = t_L_setGate := rfl
theorem r_L_setGate_0 : mv_in k_L_setGate 0 = some (.aload_n 3, 1, 0, 0, 0) := by unfold mv_in; rw [tb_L_setGate]; rfl
theorem r_L_setGate_1 : mv_in k_L_setGate 1 = some (.iconst 0, 2, 0, 0, 0) := by unfold mv_in; rw [tb_L_setGate]; rfl
theorem r_L_setGate_2 : mv_in k_L_setGate 2 = some (.aload_n 0, 3, 0, 0, 0) := by unfold mv_in; rw [tb_L_setGate]; rfl
theorem r_L_setGate_3 : mv_in k_L_setGate 3 = some (.iload_n 1, 4, 0, 0, 0) := by unfold mv_in; rw [tb_L_setGate]; rfl
theorem r_L_setGate_4 : mv_in k_L_setGate 4 = some (.iload_n 2, 5, 0, 0, 0) := by unfold mv_in; rw [tb_L_setGate]; rfl
theorem r_L_setGate_5 : mv_in k_L_setGate 5 = some (.invokevirtual 17, 8, k_X10_setGate, 3, 808) := by unfold mv_in; rw [tb_L_setGate]; rfl
theorem r_L_setGate_8 : mv_in k_L_setGate 8 = some (.i2l, 9, 0, 0, 0) := by unfold mv_in; rw [tb_L_setGate]; rfl
theorem r_L_setGate_9 : mv_in k_L_setGate 9 = some (.lastore, 10, 0, 0, 0) := by unfold mv_in; rw [tb_L_setGate]; rfl
theorem r_L_setGate_10 : mv_in k_L_setGate 10 = some (.goto 15, 13, 25, 0, 0) := by unfold mv_in; rw [tb_L_setGate]; rfl
theorem r_L_setGate_13 : mv_in k_L_setGate 13 = some (.astore 4, 15, 0, 0, 0) := by unfold mv_in; rw [tb_L_setGate]; rfl
theorem r_L_setGate_15 : mv_in k_L_setGate 15 = some (.iconst 1, 16, 0, 0, 0) := by unfold mv_in; rw [tb_L_setGate]; rfl
theorem r_L_setGate_16 : mv_in k_L_setGate 16 = some (.ireturn, 17, 0, 0, 0) := by unfold mv_in; rw [tb_L_setGate]; rfl
theorem r_L_setGate_17 : mv_in k_L_setGate 17 = some (.astore 4, 19, 0, 0, 0) := by unfold mv_in; rw [tb_L_setGate]; rfl
theorem r_L_setGate_19 : mv_in k_L_setGate 19 = some (.iconst 2, 20, 0, 0, 0) := by unfold mv_in; rw [tb_L_setGate]; rfl
theorem r_L_setGate_20 : mv_in k_L_setGate 20 = some (.ireturn, 21, 0, 0, 0) := by unfold mv_in; rw [tb_L_setGate]; rfl
theorem r_L_setGate_21 : mv_in k_L_setGate 21 = some (.astore 4, 23, 0, 0, 0) := by unfold mv_in; rw [tb_L_setGate]; rfl
theorem r_L_setGate_23 : mv_in k_L_setGate 23 = some (.iconst 3, 24, 0, 0, 0) := by unfold mv_in; rw [tb_L_setGate]; rfl
theorem r_L_setGate_24 : mv_in k_L_setGate 24 = some (.ireturn, 25, 0, 0, 0) := by unfold mv_in; rw [tb_L_setGate]; rfl
theorem r_L_setGate_25 : mv_in k_L_setGate 25 = some (.iconst 0, 26, 0, 0, 0) := by unfold mv_in; rw [tb_L_setGate]; rfl
theorem r_L_setGate_26 : mv_in k_L_setGate 26 = some (.ireturn, 27, 0, 0, 0) := by unfold mv_in; rw [tb_L_setGate]; rfl
theorem tb_L_setAutomatic : mv_tb k_L_setAutomatic = t_L_setAutomatic := rfl
theorem r_L_setAutomatic_0 : mv_in k_L_setAutomatic 0 = some (.aload_n 3, 1, 0, 0, 0) := by unfold mv_in; rw [tb_L_setAutomatic]; rfl
theorem r_L_setAutomatic_1 : mv_in k_L_setAutomatic 1 = some (.iconst 0, 2, 0, 0, 0) := by unfold mv_in; rw [tb_L_setAutomatic]; rfl
theorem r_L_setAutomatic_2 : mv_in k_L_setAutomatic 2 = some (.aload_n 0, 3, 0, 0, 0) := by unfold mv_in; rw [tb_L_setAutomatic]; rfl
theorem r_L_setAutomatic_3 : mv_in k_L_setAutomatic 3 = some (.iload_n 1, 4, 0, 0, 0) := by unfold mv_in; rw [tb_L_setAutomatic]; rfl
theorem r_L_setAutomatic_4 : mv_in k_L_setAutomatic 4 = some (.iload_n 2, 5, 0, 0, 0) := by unfold mv_in; rw [tb_L_setAutomatic]; rfl
theorem r_L_setAutomatic_5 : mv_in k_L_setAutomatic 5 = some (.invokevirtual 23, 8, k_X10_setAutomatic, 3, 817) := by unfold mv_in; rw [tb_L_setAutomatic]; rfl
theorem r_L_setAutomatic_8 : mv_in k_L_setAutomatic 8 = some (.i2l, 9, 0, 0, 0) := by unfold mv_in; rw [tb_L_setAutomatic]; rfl
theorem r_L_setAutomatic_9 : mv_in k_L_setAutomatic 9 = some (.lastore, 10, 0, 0, 0) := by unfold mv_in; rw [tb_L_setAutomatic]; rfl
theorem r_L_setAutomatic_10 : mv_in k_L_setAutomatic 10 = some (.goto 11, 13, 21, 0, 0) := by unfold mv_in; rw [tb_L_setAutomatic]; rfl
theorem r_L_setAutomatic_13 : mv_in k_L_setAutomatic 13 = some (.astore 4, 15, 0, 0, 0) := by unfold mv_in; rw [tb_L_setAutomatic]; rfl
theorem r_L_setAutomatic_15 : mv_in k_L_setAutomatic 15 = some (.iconst 1, 16, 0, 0, 0) := by unfold mv_in; rw [tb_L_setAutomatic]; rfl
theorem r_L_setAutomatic_16 : mv_in k_L_setAutomatic 16 = some (.ireturn, 17, 0, 0, 0) := by unfold mv_in; rw [tb_L_setAutomatic]; rfl
theorem r_L_setAutomatic_17 : mv_in k_L_setAutomatic 17 = some (.astore 4, 19, 0, 0, 0) := by unfold mv_in; rw [tb_L_setAutomatic]; rfl
theorem r_L_setAutomatic_19 : mv_in k_L_setAutomatic 19 = some (.iconst 2, 20, 0, 0, 0) := by unfold mv_in; rw [tb_L_setAutomatic]; rfl
theorem r_L_setAutomatic_20 : mv_in k_L_setAutomatic 20 = some (.ireturn, 21, 0, 0, 0) := by unfold mv_in; rw [tb_L_setAutomatic]; rfl
theorem r_L_setAutomatic_21 : mv_in k_L_setAutomatic 21 = some (.iconst 0, 22, 0, 0, 0) := by unfold mv_in; rw [tb_L_setAutomatic]; rfl
theorem r_L_setAutomatic_22 : mv_in k_L_setAutomatic 22 = some (.ireturn, 23, 0, 0, 0) := by unfold mv_in; rw [tb_L_setAutomatic]; rfl
theorem tb_L_setManual : mv_tb k_L_setManual = t_L_setManual := rfl
theorem r_L_setManual_0 : mv_in k_L_setManual 0 = some (.aload_n 2, 1, 0, 0, 0) := by unfold mv_in; rw [tb_L_setManual]; rfl
theorem r_L_setManual_1 : mv_in k_L_setManual 1 = some (.iconst 0, 2, 0, 0, 0) := by unfold mv_in; rw [tb_L_setManual]; rfl
theorem r_L_setManual_2 : mv_in k_L_setManual 2 = some (.aload_n 0, 3, 0, 0, 0) := by unfold mv_in; rw [tb_L_setManual]; rfl
theorem r_L_setManual_3 : mv_in k_L_setManual 3 = some (.iload_n 1, 4, 0, 0, 0) := by unfold mv_in; rw [tb_L_setManual]; rfl
theorem r_L_setManual_4 : mv_in k_L_setManual 4 = some (.invokevirtual 26, 7, k_X10_setManual, 2, 826) := by unfold mv_in; rw [tb_L_setManual]; rfl
theorem r_L_setManual_7 : mv_in k_L_setManual 7 = some (.i2l, 8, 0, 0, 0) := by unfold mv_in; rw [tb_L_setManual]; rfl
theorem r_L_setManual_8 : mv_in k_L_setManual 8 = some (.lastore, 9, 0, 0, 0) := by unfold mv_in; rw [tb_L_setManual]; rfl
theorem r_L_setManual_9 : mv_in k_L_setManual 9 = some (.goto 9, 12, 18, 0, 0) := by unfold mv_in; rw [tb_L_setManual]; rfl
theorem r_L_setManual_12 : mv_in k_L_setManual 12 = some (.astore_n 3, 13, 0, 0, 0) := by unfold mv_in; rw [tb_L_setManual]; rfl
theorem r_L_setManual_13 : mv_in k_L_setManual 13 = some (.iconst 1, 14, 0, 0, 0) := by unfold mv_in; rw [tb_L_setManual]; rfl
theorem r_L_setManual_14 : mv_in k_L_setManual 14 = some (.ireturn, 15, 0, 0, 0) := by unfold mv_in; rw [tb_L_setManual]; rfl
theorem r_L_setManual_15 : mv_in k_L_setManual 15 = some (.astore_n 3, 16, 0, 0, 0) := by unfold mv_in; rw [tb_L_setManual]; rfl
theorem r_L_setManual_16 : mv_in k_L_setManual 16 = some (.iconst 2, 17, 0, 0, 0) := by unfold mv_in; rw [tb_L_setManual]; rfl
theorem r_L_setManual_17 : mv_in k_L_setManual 17 = some (.ireturn, 18, 0, 0, 0) := by unfold mv_in; rw [tb_L_setManual]; rfl
theorem r_L_setManual_18 : mv_in k_L_setManual 18 = some (.iconst 0, 19, 0, 0, 0) := by unfold mv_in; rw [tb_L_setManual]; rfl
theorem r_L_setManual_19 : mv_in k_L_setManual 19 = some (.ireturn, 20, 0, 0, 0) := by unfold mv_in; rw [tb_L_setManual]; rfl
theorem tb_L_addRain : mv_tb k_L_addRain = t_L_addRain := rfl
theorem r_L_addRain_0 : mv_in k_L_addRain 0 = some (.aload_n 2, 1, 0, 0, 0) := by unfold mv_in; rw [tb_L_addRain]; rfl
theorem r_L_addRain_1 : mv_in k_L_addRain 1 = some (.iconst 0, 2, 0, 0, 0) := by unfold mv_in; rw [tb_L_addRain]; rfl
theorem r_L_addRain_2 : mv_in k_L_addRain 2 = some (.aload_n 0, 3, 0, 0, 0) := by unfold mv_in; rw [tb_L_addRain]; rfl
theorem r_L_addRain_3 : mv_in k_L_addRain 3 = some (.iload_n 1, 4, 0, 0, 0) := by unfold mv_in; rw [tb_L_addRain]; rfl
theorem r_L_addRain_4 : mv_in k_L_addRain 4 = some (.invokevirtual 30, 7, k_X10_addRain, 2, 835) := by unfold mv_in; rw [tb_L_addRain]; rfl
theorem r_L_addRain_7 : mv_in k_L_addRain 7 = some (.i2l, 8, 0, 0, 0) := by unfold mv_in; rw [tb_L_addRain]; rfl
theorem r_L_addRain_8 : mv_in k_L_addRain 8 = some (.lastore, 9, 0, 0, 0) := by unfold mv_in; rw [tb_L_addRain]; rfl
theorem r_L_addRain_9 : mv_in k_L_addRain 9 = some (.goto 9, 12, 18, 0, 0) := by unfold mv_in; rw [tb_L_addRain]; rfl
theorem r_L_addRain_12 : mv_in k_L_addRain 12 = some (.astore_n 3, 13, 0, 0, 0) := by unfold mv_in; rw [tb_L_addRain]; rfl
theorem r_L_addRain_13 : mv_in k_L_addRain 13 = some (.iconst 1, 14, 0, 0, 0) := by unfold mv_in; rw [tb_L_addRain]; rfl
theorem r_L_addRain_14 : mv_in k_L_addRain 14 = some (.ireturn, 15, 0, 0, 0) := by unfold mv_in; rw [tb_L_addRain]; rfl
theorem r_L_addRain_15 : mv_in k_L_addRain 15 = some (.astore_n 3, 16, 0, 0, 0) := by unfold mv_in; rw [tb_L_addRain]; rfl
theorem r_L_addRain_16 : mv_in k_L_addRain 16 = some (.iconst 2, 17, 0, 0, 0) := by unfold mv_in; rw [tb_L_addRain]; rfl
theorem r_L_addRain_17 : mv_in k_L_addRain 17 = some (.ireturn, 18, 0, 0, 0) := by unfold mv_in; rw [tb_L_addRain]; rfl
theorem r_L_addRain_18 : mv_in k_L_addRain 18 = some (.iconst 0, 19, 0, 0, 0) := by unfold mv_in; rw [tb_L_addRain]; rfl
theorem r_L_addRain_19 : mv_in k_L_addRain 19 = some (.ireturn, 20, 0, 0, 0) := by unfold mv_in; rw [tb_L_addRain]; rfl
theorem tb_L_pour : mv_tb k_L_pour = t_L_pour := rfl
theorem r_L_pour_0 : mv_in k_L_pour 0 = some (.aload_n 3, 1, 0, 0, 0) := by unfold mv_in; rw [tb_L_pour]; rfl
theorem r_L_pour_1 : mv_in k_L_pour 1 = some (.iconst 0, 2, 0, 0, 0) := by unfold mv_in; rw [tb_L_pour]; rfl
theorem r_L_pour_2 : mv_in k_L_pour 2 = some (.aload_n 0, 3, 0, 0, 0) := by unfold mv_in; rw [tb_L_pour]; rfl
theorem r_L_pour_3 : mv_in k_L_pour 3 = some (.iload_n 1, 4, 0, 0, 0) := by unfold mv_in; rw [tb_L_pour]; rfl
theorem r_L_pour_4 : mv_in k_L_pour 4 = some (.iload_n 2, 5, 0, 0, 0) := by unfold mv_in; rw [tb_L_pour]; rfl
theorem r_L_pour_5 : mv_in k_L_pour 5 = some (.invokevirtual 33, 8, k_X10_pour, 3, 844) := by unfold mv_in; rw [tb_L_pour]; rfl
theorem r_L_pour_8 : mv_in k_L_pour 8 = some (.i2l, 9, 0, 0, 0) := by unfold mv_in; rw [tb_L_pour]; rfl
theorem r_L_pour_9 : mv_in k_L_pour 9 = some (.lastore, 10, 0, 0, 0) := by unfold mv_in; rw [tb_L_pour]; rfl
theorem r_L_pour_10 : mv_in k_L_pour 10 = some (.goto 15, 13, 25, 0, 0) := by unfold mv_in; rw [tb_L_pour]; rfl
theorem r_L_pour_13 : mv_in k_L_pour 13 = some (.astore 4, 15, 0, 0, 0) := by unfold mv_in; rw [tb_L_pour]; rfl
theorem r_L_pour_15 : mv_in k_L_pour 15 = some (.iconst 1, 16, 0, 0, 0) := by unfold mv_in; rw [tb_L_pour]; rfl
theorem r_L_pour_16 : mv_in k_L_pour 16 = some (.ireturn, 17, 0, 0, 0) := by unfold mv_in; rw [tb_L_pour]; rfl
theorem r_L_pour_17 : mv_in k_L_pour 17 = some (.astore 4, 19, 0, 0, 0) := by unfold mv_in; rw [tb_L_pour]; rfl
theorem r_L_pour_19 : mv_in k_L_pour 19 = some (.iconst 2, 20, 0, 0, 0) := by unfold mv_in; rw [tb_L_pour]; rfl
theorem r_L_pour_20 : mv_in k_L_pour 20 = some (.ireturn, 21, 0, 0, 0) := by unfold mv_in; rw [tb_L_pour]; rfl
theorem r_L_pour_21 : mv_in k_L_pour 21 = some (.astore 4, 23, 0, 0, 0) := by unfold mv_in; rw [tb_L_pour]; rfl
theorem r_L_pour_23 : mv_in k_L_pour 23 = some (.iconst 3, 24, 0, 0, 0) := by unfold mv_in; rw [tb_L_pour]; rfl
theorem r_L_pour_24 : mv_in k_L_pour 24 = some (.ireturn, 25, 0, 0, 0) := by unfold mv_in; rw [tb_L_pour]; rfl
theorem r_L_pour_25 : mv_in k_L_pour 25 = some (.iconst 0, 26, 0, 0, 0) := by unfold mv_in; rw [tb_L_pour]; rfl
theorem r_L_pour_26 : mv_in k_L_pour 26 = some (.ireturn, 27, 0, 0, 0) := by unfold mv_in; rw [tb_L_pour]; rfl
theorem tb_L_advance : mv_tb k_L_advance = t_L_advance := rfl
theorem r_L_advance_0 : mv_in k_L_advance 0 = some (.aload_n 2, 1, 0, 0, 0) := by unfold mv_in; rw [tb_L_advance]; rfl
theorem r_L_advance_1 : mv_in k_L_advance 1 = some (.iconst 0, 2, 0, 0, 0) := by unfold mv_in; rw [tb_L_advance]; rfl
theorem r_L_advance_2 : mv_in k_L_advance 2 = some (.aload_n 0, 3, 0, 0, 0) := by unfold mv_in; rw [tb_L_advance]; rfl
theorem r_L_advance_3 : mv_in k_L_advance 3 = some (.iload_n 1, 4, 0, 0, 0) := by unfold mv_in; rw [tb_L_advance]; rfl
theorem r_L_advance_4 : mv_in k_L_advance 4 = some (.invokevirtual 36, 7, k_X10_advance, 2, 853) := by unfold mv_in; rw [tb_L_advance]; rfl
theorem r_L_advance_7 : mv_in k_L_advance 7 = some (.i2l, 8, 0, 0, 0) := by unfold mv_in; rw [tb_L_advance]; rfl
theorem r_L_advance_8 : mv_in k_L_advance 8 = some (.lastore, 9, 0, 0, 0) := by unfold mv_in; rw [tb_L_advance]; rfl
theorem r_L_advance_9 : mv_in k_L_advance 9 = some (.goto 6, 12, 15, 0, 0) := by unfold mv_in; rw [tb_L_advance]; rfl
theorem r_L_advance_12 : mv_in k_L_advance 12 = some (.astore_n 3, 13, 0, 0, 0) := by unfold mv_in; rw [tb_L_advance]; rfl
theorem r_L_advance_13 : mv_in k_L_advance 13 = some (.iconst 1, 14, 0, 0, 0) := by unfold mv_in; rw [tb_L_advance]; rfl
theorem r_L_advance_14 : mv_in k_L_advance 14 = some (.ireturn, 15, 0, 0, 0) := by unfold mv_in; rw [tb_L_advance]; rfl
theorem r_L_advance_15 : mv_in k_L_advance 15 = some (.iconst 0, 16, 0, 0, 0) := by unfold mv_in; rw [tb_L_advance]; rfl
theorem r_L_advance_16 : mv_in k_L_advance 16 = some (.ireturn, 17, 0, 0, 0) := by unfold mv_in; rw [tb_L_advance]; rfl
theorem tb_L_capacity : mv_tb k_L_capacity = t_L_capacity := rfl
theorem r_L_capacity_0 : mv_in k_L_capacity 0 = some (.aload_n 2, 1, 0, 0, 0) := by unfold mv_in; rw [tb_L_capacity]; rfl
theorem r_L_capacity_1 : mv_in k_L_capacity 1 = some (.iconst 0, 2, 0, 0, 0) := by unfold mv_in; rw [tb_L_capacity]; rfl
theorem r_L_capacity_2 : mv_in k_L_capacity 2 = some (.aload_n 0, 3, 0, 0, 0) := by unfold mv_in; rw [tb_L_capacity]; rfl
theorem r_L_capacity_3 : mv_in k_L_capacity 3 = some (.iload_n 1, 4, 0, 0, 0) := by unfold mv_in; rw [tb_L_capacity]; rfl
theorem r_L_capacity_4 : mv_in k_L_capacity 4 = some (.invokevirtual 39, 7, k_X10_capacity, 2, 862) := by unfold mv_in; rw [tb_L_capacity]; rfl
theorem r_L_capacity_7 : mv_in k_L_capacity 7 = some (.i2l, 8, 0, 0, 0) := by unfold mv_in; rw [tb_L_capacity]; rfl
theorem r_L_capacity_8 : mv_in k_L_capacity 8 = some (.lastore, 9, 0, 0, 0) := by unfold mv_in; rw [tb_L_capacity]; rfl
theorem r_L_capacity_9 : mv_in k_L_capacity 9 = some (.goto 6, 12, 15, 0, 0) := by unfold mv_in; rw [tb_L_capacity]; rfl
theorem r_L_capacity_12 : mv_in k_L_capacity 12 = some (.astore_n 3, 13, 0, 0, 0) := by unfold mv_in; rw [tb_L_capacity]; rfl
theorem r_L_capacity_13 : mv_in k_L_capacity 13 = some (.iconst 1, 14, 0, 0, 0) := by unfold mv_in; rw [tb_L_capacity]; rfl
theorem r_L_capacity_14 : mv_in k_L_capacity 14 = some (.ireturn, 15, 0, 0, 0) := by unfold mv_in; rw [tb_L_capacity]; rfl
theorem r_L_capacity_15 : mv_in k_L_capacity 15 = some (.iconst 0, 16, 0, 0, 0) := by unfold mv_in; rw [tb_L_capacity]; rfl
theorem r_L_capacity_16 : mv_in k_L_capacity 16 = some (.ireturn, 17, 0, 0, 0) := by unfold mv_in; rw [tb_L_capacity]; rfl
theorem tb_L_level : mv_tb k_L_level = t_L_level := rfl
theorem r_L_level_0 : mv_in k_L_level 0 = some (.aload_n 2, 1, 0, 0, 0) := by unfold mv_in; rw [tb_L_level]; rfl
theorem r_L_level_1 : mv_in k_L_level 1 = some (.iconst 0, 2, 0, 0, 0) := by unfold mv_in; rw [tb_L_level]; rfl
theorem r_L_level_2 : mv_in k_L_level 2 = some (.aload_n 0, 3, 0, 0, 0) := by unfold mv_in; rw [tb_L_level]; rfl
theorem r_L_level_3 : mv_in k_L_level 3 = some (.iload_n 1, 4, 0, 0, 0) := by unfold mv_in; rw [tb_L_level]; rfl
theorem r_L_level_4 : mv_in k_L_level 4 = some (.invokevirtual 42, 7, k_X10_level, 2, 874) := by unfold mv_in; rw [tb_L_level]; rfl
theorem r_L_level_7 : mv_in k_L_level 7 = some (.i2l, 8, 0, 0, 0) := by unfold mv_in; rw [tb_L_level]; rfl
theorem r_L_level_8 : mv_in k_L_level 8 = some (.lastore, 9, 0, 0, 0) := by unfold mv_in; rw [tb_L_level]; rfl
theorem r_L_level_9 : mv_in k_L_level 9 = some (.goto 6, 12, 15, 0, 0) := by unfold mv_in; rw [tb_L_level]; rfl
theorem r_L_level_12 : mv_in k_L_level 12 = some (.astore_n 3, 13, 0, 0, 0) := by unfold mv_in; rw [tb_L_level]; rfl
theorem r_L_level_13 : mv_in k_L_level 13 = some (.iconst 1, 14, 0, 0, 0) := by unfold mv_in; rw [tb_L_level]; rfl
theorem r_L_level_14 : mv_in k_L_level 14 = some (.ireturn, 15, 0, 0, 0) := by unfold mv_in; rw [tb_L_level]; rfl
theorem r_L_level_15 : mv_in k_L_level 15 = some (.iconst 0, 16, 0, 0, 0) := by unfold mv_in; rw [tb_L_level]; rfl
theorem r_L_level_16 : mv_in k_L_level 16 = some (.ireturn, 17, 0, 0, 0) := by unfold mv_in; rw [tb_L_level]; rfl
theorem tb_L_catchment : mv_tb k_L_catchment = t_L_catchment := rfl
theorem r_L_catchment_0 : mv_in k_L_catchment 0 = some (.aload_n 2, 1, 0, 0, 0) := by unfold mv_in; rw [tb_L_catchment]; rfl
theorem r_L_catchment_1 : mv_in k_L_catchment 1 = some (.iconst 0, 2, 0, 0, 0) := by unfold mv_in; rw [tb_L_catchment]; rfl
theorem r_L_catchment_2 : mv_in k_L_catchment 2 = some (.aload_n 0, 3, 0, 0, 0) := by unfold mv_in; rw [tb_L_catchment]; rfl
theorem r_L_catchment_3 : mv_in k_L_catchment 3 = some (.iload_n 1, 4, 0, 0, 0) := by unfold mv_in; rw [tb_L_catchment]; rfl
theorem r_L_catchment_4 : mv_in k_L_catchment 4 = some (.invokevirtual 45, 7, k_X10_catchment, 2, 881) := by unfold mv_in; rw [tb_L_catchment]; rfl
theorem r_L_catchment_7 : mv_in k_L_catchment 7 = some (.i2l, 8, 0, 0, 0) := by unfold mv_in; rw [tb_L_catchment]; rfl
theorem r_L_catchment_8 : mv_in k_L_catchment 8 = some (.lastore, 9, 0, 0, 0) := by unfold mv_in; rw [tb_L_catchment]; rfl
theorem r_L_catchment_9 : mv_in k_L_catchment 9 = some (.goto 6, 12, 15, 0, 0) := by unfold mv_in; rw [tb_L_catchment]; rfl
theorem r_L_catchment_12 : mv_in k_L_catchment 12 = some (.astore_n 3, 13, 0, 0, 0) := by unfold mv_in; rw [tb_L_catchment]; rfl
theorem r_L_catchment_13 : mv_in k_L_catchment 13 = some (.iconst 1, 14, 0, 0, 0) := by unfold mv_in; rw [tb_L_catchment]; rfl
theorem r_L_catchment_14 : mv_in k_L_catchment 14 = some (.ireturn, 15, 0, 0, 0) := by unfold mv_in; rw [tb_L_catchment]; rfl
theorem r_L_catchment_15 : mv_in k_L_catchment 15 = some (.iconst 0, 16, 0, 0, 0) := by unfold mv_in; rw [tb_L_catchment]; rfl
theorem r_L_catchment_16 : mv_in k_L_catchment 16 = some (.ireturn, 17, 0, 0, 0) := by unfold mv_in; rw [tb_L_catchment]; rfl
theorem tb_L_fieldValue : mv_tb k_L_fieldValue = t_L_fieldValue := rfl
theorem r_L_fieldValue_0 : mv_in k_L_fieldValue 0 = some (.aload_n 2, 1, 0, 0, 0) := by unfold mv_in; rw [tb_L_fieldValue]; rfl
theorem r_L_fieldValue_1 : mv_in k_L_fieldValue 1 = some (.iconst 0, 2, 0, 0, 0) := by unfold mv_in; rw [tb_L_fieldValue]; rfl
theorem r_L_fieldValue_2 : mv_in k_L_fieldValue 2 = some (.aload_n 0, 3, 0, 0, 0) := by unfold mv_in; rw [tb_L_fieldValue]; rfl
theorem r_L_fieldValue_3 : mv_in k_L_fieldValue 3 = some (.iload_n 1, 4, 0, 0, 0) := by unfold mv_in; rw [tb_L_fieldValue]; rfl
theorem r_L_fieldValue_4 : mv_in k_L_fieldValue 4 = some (.invokevirtual 48, 7, k_X10_fieldValue, 2, 888) := by unfold mv_in; rw [tb_L_fieldValue]; rfl
theorem r_L_fieldValue_7 : mv_in k_L_fieldValue 7 = some (.i2l, 8, 0, 0, 0) := by unfold mv_in; rw [tb_L_fieldValue]; rfl
theorem r_L_fieldValue_8 : mv_in k_L_fieldValue 8 = some (.lastore, 9, 0, 0, 0) := by unfold mv_in; rw [tb_L_fieldValue]; rfl
theorem r_L_fieldValue_9 : mv_in k_L_fieldValue 9 = some (.goto 6, 12, 15, 0, 0) := by unfold mv_in; rw [tb_L_fieldValue]; rfl
theorem r_L_fieldValue_12 : mv_in k_L_fieldValue 12 = some (.astore_n 3, 13, 0, 0, 0) := by unfold mv_in; rw [tb_L_fieldValue]; rfl
theorem r_L_fieldValue_13 : mv_in k_L_fieldValue 13 = some (.iconst 1, 14, 0, 0, 0) := by unfold mv_in; rw [tb_L_fieldValue]; rfl
theorem r_L_fieldValue_14 : mv_in k_L_fieldValue 14 = some (.ireturn, 15, 0, 0, 0) := by unfold mv_in; rw [tb_L_fieldValue]; rfl
theorem r_L_fieldValue_15 : mv_in k_L_fieldValue 15 = some (.iconst 0, 16, 0, 0, 0) := by unfold mv_in; rw [tb_L_fieldValue]; rfl
theorem r_L_fieldValue_16 : mv_in k_L_fieldValue 16 = some (.ireturn, 17, 0, 0, 0) := by unfold mv_in; rw [tb_L_fieldValue]; rfl
theorem tb_L_opening : mv_tb k_L_opening = t_L_opening := rfl
theorem r_L_opening_0 : mv_in k_L_opening 0 = some (.aload_n 2, 1, 0, 0, 0) := by unfold mv_in; rw [tb_L_opening]; rfl
theorem r_L_opening_1 : mv_in k_L_opening 1 = some (.iconst 0, 2, 0, 0, 0) := by unfold mv_in; rw [tb_L_opening]; rfl
theorem r_L_opening_2 : mv_in k_L_opening 2 = some (.aload_n 0, 3, 0, 0, 0) := by unfold mv_in; rw [tb_L_opening]; rfl
theorem r_L_opening_3 : mv_in k_L_opening 3 = some (.iload_n 1, 4, 0, 0, 0) := by unfold mv_in; rw [tb_L_opening]; rfl
theorem r_L_opening_4 : mv_in k_L_opening 4 = some (.invokevirtual 51, 7, k_X10_opening, 2, 895) := by unfold mv_in; rw [tb_L_opening]; rfl
theorem r_L_opening_7 : mv_in k_L_opening 7 = some (.i2l, 8, 0, 0, 0) := by unfold mv_in; rw [tb_L_opening]; rfl
theorem r_L_opening_8 : mv_in k_L_opening 8 = some (.lastore, 9, 0, 0, 0) := by unfold mv_in; rw [tb_L_opening]; rfl
theorem r_L_opening_9 : mv_in k_L_opening 9 = some (.goto 6, 12, 15, 0, 0) := by unfold mv_in; rw [tb_L_opening]; rfl
theorem r_L_opening_12 : mv_in k_L_opening 12 = some (.astore_n 3, 13, 0, 0, 0) := by unfold mv_in; rw [tb_L_opening]; rfl
theorem r_L_opening_13 : mv_in k_L_opening 13 = some (.iconst 1, 14, 0, 0, 0) := by unfold mv_in; rw [tb_L_opening]; rfl
theorem r_L_opening_14 : mv_in k_L_opening 14 = some (.ireturn, 15, 0, 0, 0) := by unfold mv_in; rw [tb_L_opening]; rfl
theorem r_L_opening_15 : mv_in k_L_opening 15 = some (.iconst 0, 16, 0, 0, 0) := by unfold mv_in; rw [tb_L_opening]; rfl
theorem r_L_opening_16 : mv_in k_L_opening 16 = some (.ireturn, 17, 0, 0, 0) := by unfold mv_in; rw [tb_L_opening]; rfl
theorem tb_L_isAutomatic : mv_tb k_L_isAutomatic = t_L_isAutomatic := rfl
theorem r_L_isAutomatic_0 : mv_in k_L_isAutomatic 0 = some (.aload_n 2, 1, 0, 0, 0) := by unfold mv_in; rw [tb_L_isAutomatic]; rfl
theorem r_L_isAutomatic_1 : mv_in k_L_isAutomatic 1 = some (.iconst 0, 2, 0, 0, 0) := by unfold mv_in; rw [tb_L_isAutomatic]; rfl
theorem r_L_isAutomatic_2 : mv_in k_L_isAutomatic 2 = some (.aload_n 0, 3, 0, 0, 0) := by unfold mv_in; rw [tb_L_isAutomatic]; rfl
theorem r_L_isAutomatic_3 : mv_in k_L_isAutomatic 3 = some (.iload_n 1, 4, 0, 0, 0) := by unfold mv_in; rw [tb_L_isAutomatic]; rfl
theorem r_L_isAutomatic_4 : mv_in k_L_isAutomatic 4 = some (.invokevirtual 54, 7, k_X10_isAutomatic, 2, 902) := by unfold mv_in; rw [tb_L_isAutomatic]; rfl
theorem r_L_isAutomatic_7 : mv_in k_L_isAutomatic 7 = some (.ifCond .eq 7, 10, 14, 0, 0) := by unfold mv_in; rw [tb_L_isAutomatic]; rfl
theorem r_L_isAutomatic_10 : mv_in k_L_isAutomatic 10 = some (.lconst 1, 11, 0, 0, 0) := by unfold mv_in; rw [tb_L_isAutomatic]; rfl
theorem r_L_isAutomatic_11 : mv_in k_L_isAutomatic 11 = some (.goto 4, 14, 15, 0, 0) := by unfold mv_in; rw [tb_L_isAutomatic]; rfl
theorem r_L_isAutomatic_14 : mv_in k_L_isAutomatic 14 = some (.lconst 0, 15, 0, 0, 0) := by unfold mv_in; rw [tb_L_isAutomatic]; rfl
theorem r_L_isAutomatic_15 : mv_in k_L_isAutomatic 15 = some (.lastore, 16, 0, 0, 0) := by unfold mv_in; rw [tb_L_isAutomatic]; rfl
theorem r_L_isAutomatic_16 : mv_in k_L_isAutomatic 16 = some (.goto 6, 19, 22, 0, 0) := by unfold mv_in; rw [tb_L_isAutomatic]; rfl
theorem r_L_isAutomatic_19 : mv_in k_L_isAutomatic 19 = some (.astore_n 3, 20, 0, 0, 0) := by unfold mv_in; rw [tb_L_isAutomatic]; rfl
theorem r_L_isAutomatic_20 : mv_in k_L_isAutomatic 20 = some (.iconst 1, 21, 0, 0, 0) := by unfold mv_in; rw [tb_L_isAutomatic]; rfl
theorem r_L_isAutomatic_21 : mv_in k_L_isAutomatic 21 = some (.ireturn, 22, 0, 0, 0) := by unfold mv_in; rw [tb_L_isAutomatic]; rfl
theorem r_L_isAutomatic_22 : mv_in k_L_isAutomatic 22 = some (.iconst 0, 23, 0, 0, 0) := by unfold mv_in; rw [tb_L_isAutomatic]; rfl
theorem r_L_isAutomatic_23 : mv_in k_L_isAutomatic 23 = some (.ireturn, 24, 0, 0, 0) := by unfold mv_in; rw [tb_L_isAutomatic]; rfl
theorem tb_L_threshold : mv_tb k_L_threshold = t_L_threshold := rfl
theorem r_L_threshold_0 : mv_in k_L_threshold 0 = some (.aload_n 2, 1, 0, 0, 0) := by unfold mv_in; rw [tb_L_threshold]; rfl
theorem r_L_threshold_1 : mv_in k_L_threshold 1 = some (.iconst 0, 2, 0, 0, 0) := by unfold mv_in; rw [tb_L_threshold]; rfl
theorem r_L_threshold_2 : mv_in k_L_threshold 2 = some (.aload_n 0, 3, 0, 0, 0) := by unfold mv_in; rw [tb_L_threshold]; rfl
theorem r_L_threshold_3 : mv_in k_L_threshold 3 = some (.iload_n 1, 4, 0, 0, 0) := by unfold mv_in; rw [tb_L_threshold]; rfl
theorem r_L_threshold_4 : mv_in k_L_threshold 4 = some (.invokevirtual 58, 7, k_X10_threshold, 2, 910) := by unfold mv_in; rw [tb_L_threshold]; rfl
theorem r_L_threshold_7 : mv_in k_L_threshold 7 = some (.i2l, 8, 0, 0, 0) := by unfold mv_in; rw [tb_L_threshold]; rfl
theorem r_L_threshold_8 : mv_in k_L_threshold 8 = some (.lastore, 9, 0, 0, 0) := by unfold mv_in; rw [tb_L_threshold]; rfl
theorem r_L_threshold_9 : mv_in k_L_threshold 9 = some (.goto 9, 12, 18, 0, 0) := by unfold mv_in; rw [tb_L_threshold]; rfl
theorem r_L_threshold_12 : mv_in k_L_threshold 12 = some (.astore_n 3, 13, 0, 0, 0) := by unfold mv_in; rw [tb_L_threshold]; rfl
theorem r_L_threshold_13 : mv_in k_L_threshold 13 = some (.iconst 1, 14, 0, 0, 0) := by unfold mv_in; rw [tb_L_threshold]; rfl
theorem r_L_threshold_14 : mv_in k_L_threshold 14 = some (.ireturn, 15, 0, 0, 0) := by unfold mv_in; rw [tb_L_threshold]; rfl
theorem r_L_threshold_15 : mv_in k_L_threshold 15 = some (.astore_n 3, 16, 0, 0, 0) := by unfold mv_in; rw [tb_L_threshold]; rfl
theorem r_L_threshold_16 : mv_in k_L_threshold 16 = some (.iconst 2, 17, 0, 0, 0) := by unfold mv_in; rw [tb_L_threshold]; rfl
theorem r_L_threshold_17 : mv_in k_L_threshold 17 = some (.ireturn, 18, 0, 0, 0) := by unfold mv_in; rw [tb_L_threshold]; rfl
theorem r_L_threshold_18 : mv_in k_L_threshold 18 = some (.iconst 0, 19, 0, 0, 0) := by unfold mv_in; rw [tb_L_threshold]; rfl
theorem r_L_threshold_19 : mv_in k_L_threshold 19 = some (.ireturn, 20, 0, 0, 0) := by unfold mv_in; rw [tb_L_threshold]; rfl
theorem tb_L_spilled : mv_tb k_L_spilled = t_L_spilled := rfl
theorem r_L_spilled_0 : mv_in k_L_spilled 0 = some (.aload_n 2, 1, 0, 0, 0) := by unfold mv_in; rw [tb_L_spilled]; rfl
theorem r_L_spilled_1 : mv_in k_L_spilled 1 = some (.iconst 0, 2, 0, 0, 0) := by unfold mv_in; rw [tb_L_spilled]; rfl
theorem r_L_spilled_2 : mv_in k_L_spilled 2 = some (.aload_n 0, 3, 0, 0, 0) := by unfold mv_in; rw [tb_L_spilled]; rfl
theorem r_L_spilled_3 : mv_in k_L_spilled 3 = some (.iload_n 1, 4, 0, 0, 0) := by unfold mv_in; rw [tb_L_spilled]; rfl
theorem r_L_spilled_4 : mv_in k_L_spilled 4 = some (.invokevirtual 63, 7, k_X10_spilled, 2, 933) := by unfold mv_in; rw [tb_L_spilled]; rfl
theorem r_L_spilled_7 : mv_in k_L_spilled 7 = some (.i2l, 8, 0, 0, 0) := by unfold mv_in; rw [tb_L_spilled]; rfl
theorem r_L_spilled_8 : mv_in k_L_spilled 8 = some (.lastore, 9, 0, 0, 0) := by unfold mv_in; rw [tb_L_spilled]; rfl
theorem r_L_spilled_9 : mv_in k_L_spilled 9 = some (.goto 6, 12, 15, 0, 0) := by unfold mv_in; rw [tb_L_spilled]; rfl
theorem r_L_spilled_12 : mv_in k_L_spilled 12 = some (.astore_n 3, 13, 0, 0, 0) := by unfold mv_in; rw [tb_L_spilled]; rfl
theorem r_L_spilled_13 : mv_in k_L_spilled 13 = some (.iconst 1, 14, 0, 0, 0) := by unfold mv_in; rw [tb_L_spilled]; rfl
theorem r_L_spilled_14 : mv_in k_L_spilled 14 = some (.ireturn, 15, 0, 0, 0) := by unfold mv_in; rw [tb_L_spilled]; rfl
theorem r_L_spilled_15 : mv_in k_L_spilled 15 = some (.iconst 0, 16, 0, 0, 0) := by unfold mv_in; rw [tb_L_spilled]; rfl
theorem r_L_spilled_16 : mv_in k_L_spilled 16 = some (.ireturn, 17, 0, 0, 0) := by unfold mv_in; rw [tb_L_spilled]; rfl
theorem tb_L_floodedSteps : mv_tb k_L_floodedSteps = t_L_floodedSteps := rfl
theorem r_L_floodedSteps_0 : mv_in k_L_floodedSteps 0 = some (.aload_n 2, 1, 0, 0, 0) := by unfold mv_in; rw [tb_L_floodedSteps]; rfl
theorem r_L_floodedSteps_1 : mv_in k_L_floodedSteps 1 = some (.iconst 0, 2, 0, 0, 0) := by unfold mv_in; rw [tb_L_floodedSteps]; rfl
theorem r_L_floodedSteps_2 : mv_in k_L_floodedSteps 2 = some (.aload_n 0, 3, 0, 0, 0) := by unfold mv_in; rw [tb_L_floodedSteps]; rfl
theorem r_L_floodedSteps_3 : mv_in k_L_floodedSteps 3 = some (.iload_n 1, 4, 0, 0, 0) := by unfold mv_in; rw [tb_L_floodedSteps]; rfl
theorem r_L_floodedSteps_4 : mv_in k_L_floodedSteps 4 = some (.invokevirtual 66, 7, k_X10_floodedSteps, 2, 940) := by unfold mv_in; rw [tb_L_floodedSteps]; rfl
theorem r_L_floodedSteps_7 : mv_in k_L_floodedSteps 7 = some (.i2l, 8, 0, 0, 0) := by unfold mv_in; rw [tb_L_floodedSteps]; rfl
theorem r_L_floodedSteps_8 : mv_in k_L_floodedSteps 8 = some (.lastore, 9, 0, 0, 0) := by unfold mv_in; rw [tb_L_floodedSteps]; rfl
theorem r_L_floodedSteps_9 : mv_in k_L_floodedSteps 9 = some (.goto 6, 12, 15, 0, 0) := by unfold mv_in; rw [tb_L_floodedSteps]; rfl
theorem r_L_floodedSteps_12 : mv_in k_L_floodedSteps 12 = some (.astore_n 3, 13, 0, 0, 0) := by unfold mv_in; rw [tb_L_floodedSteps]; rfl
theorem r_L_floodedSteps_13 : mv_in k_L_floodedSteps 13 = some (.iconst 1, 14, 0, 0, 0) := by unfold mv_in; rw [tb_L_floodedSteps]; rfl
theorem r_L_floodedSteps_14 : mv_in k_L_floodedSteps 14 = some (.ireturn, 15, 0, 0, 0) := by unfold mv_in; rw [tb_L_floodedSteps]; rfl
theorem r_L_floodedSteps_15 : mv_in k_L_floodedSteps 15 = some (.iconst 0, 16, 0, 0, 0) := by unfold mv_in; rw [tb_L_floodedSteps]; rfl
theorem r_L_floodedSteps_16 : mv_in k_L_floodedSteps 16 = some (.ireturn, 17, 0, 0, 0) := by unfold mv_in; rw [tb_L_floodedSteps]; rfl
theorem tb_L_basinAtRank : mv_tb k_L_basinAtRank = t_L_basinAtRank := rfl
theorem r_L_basinAtRank_0 : mv_in k_L_basinAtRank 0 = some (.aload_n 2, 1, 0, 0, 0) := by unfold mv_in; rw [tb_L_basinAtRank]; rfl
theorem r_L_basinAtRank_1 : mv_in k_L_basinAtRank 1 = some (.iconst 0, 2, 0, 0, 0) := by unfold mv_in; rw [tb_L_basinAtRank]; rfl
theorem r_L_basinAtRank_2 : mv_in k_L_basinAtRank 2 = some (.aload_n 0, 3, 0, 0, 0) := by unfold mv_in; rw [tb_L_basinAtRank]; rfl
theorem r_L_basinAtRank_3 : mv_in k_L_basinAtRank 3 = some (.iload_n 1, 4, 0, 0, 0) := by unfold mv_in; rw [tb_L_basinAtRank]; rfl
theorem r_L_basinAtRank_4 : mv_in k_L_basinAtRank 4 = some (.invokevirtual 69, 7, k_X10_basinAtRank, 2, 947) := by unfold mv_in; rw [tb_L_basinAtRank]; rfl
theorem r_L_basinAtRank_7 : mv_in k_L_basinAtRank 7 = some (.i2l, 8, 0, 0, 0) := by unfold mv_in; rw [tb_L_basinAtRank]; rfl
theorem r_L_basinAtRank_8 : mv_in k_L_basinAtRank 8 = some (.lastore, 9, 0, 0, 0) := by unfold mv_in; rw [tb_L_basinAtRank]; rfl
theorem r_L_basinAtRank_9 : mv_in k_L_basinAtRank 9 = some (.goto 6, 12, 15, 0, 0) := by unfold mv_in; rw [tb_L_basinAtRank]; rfl
theorem r_L_basinAtRank_12 : mv_in k_L_basinAtRank 12 = some (.astore_n 3, 13, 0, 0, 0) := by unfold mv_in; rw [tb_L_basinAtRank]; rfl
theorem r_L_basinAtRank_13 : mv_in k_L_basinAtRank 13 = some (.iconst 1, 14, 0, 0, 0) := by unfold mv_in; rw [tb_L_basinAtRank]; rfl
theorem r_L_basinAtRank_14 : mv_in k_L_basinAtRank 14 = some (.ireturn, 15, 0, 0, 0) := by unfold mv_in; rw [tb_L_basinAtRank]; rfl
theorem r_L_basinAtRank_15 : mv_in k_L_basinAtRank 15 = some (.iconst 0, 16, 0, 0, 0) := by unfold mv_in; rw [tb_L_basinAtRank]; rfl
theorem r_L_basinAtRank_16 : mv_in k_L_basinAtRank 16 = some (.ireturn, 17, 0, 0, 0) := by unfold mv_in; rw [tb_L_basinAtRank]; rfl
theorem tb_L_rainAt : mv_tb k_L_rainAt = t_L_rainAt := rfl
theorem r_L_rainAt_0 : mv_in k_L_rainAt 0 = some (.aload_n 2, 1, 0, 0, 0) := by unfold mv_in; rw [tb_L_rainAt]; rfl
theorem r_L_rainAt_1 : mv_in k_L_rainAt 1 = some (.iconst 0, 2, 0, 0, 0) := by unfold mv_in; rw [tb_L_rainAt]; rfl
theorem r_L_rainAt_2 : mv_in k_L_rainAt 2 = some (.aload_n 0, 3, 0, 0, 0) := by unfold mv_in; rw [tb_L_rainAt]; rfl
theorem r_L_rainAt_3 : mv_in k_L_rainAt 3 = some (.iload_n 1, 4, 0, 0, 0) := by unfold mv_in; rw [tb_L_rainAt]; rfl
theorem r_L_rainAt_4 : mv_in k_L_rainAt 4 = some (.invokevirtual 72, 7, k_X10_rainAt, 2, 963) := by unfold mv_in; rw [tb_L_rainAt]; rfl
theorem r_L_rainAt_7 : mv_in k_L_rainAt 7 = some (.i2l, 8, 0, 0, 0) := by unfold mv_in; rw [tb_L_rainAt]; rfl
theorem r_L_rainAt_8 : mv_in k_L_rainAt 8 = some (.lastore, 9, 0, 0, 0) := by unfold mv_in; rw [tb_L_rainAt]; rfl
theorem r_L_rainAt_9 : mv_in k_L_rainAt 9 = some (.goto 6, 12, 15, 0, 0) := by unfold mv_in; rw [tb_L_rainAt]; rfl
theorem r_L_rainAt_12 : mv_in k_L_rainAt 12 = some (.astore_n 3, 13, 0, 0, 0) := by unfold mv_in; rw [tb_L_rainAt]; rfl
theorem r_L_rainAt_13 : mv_in k_L_rainAt 13 = some (.iconst 1, 14, 0, 0, 0) := by unfold mv_in; rw [tb_L_rainAt]; rfl
theorem r_L_rainAt_14 : mv_in k_L_rainAt 14 = some (.ireturn, 15, 0, 0, 0) := by unfold mv_in; rw [tb_L_rainAt]; rfl
theorem r_L_rainAt_15 : mv_in k_L_rainAt 15 = some (.iconst 0, 16, 0, 0, 0) := by unfold mv_in; rw [tb_L_rainAt]; rfl
theorem r_L_rainAt_16 : mv_in k_L_rainAt 16 = some (.ireturn, 17, 0, 0, 0) := by unfold mv_in; rw [tb_L_rainAt]; rfl
theorem tb_L_meanFill : mv_tb k_L_meanFill = t_L_meanFill := rfl
theorem r_L_meanFill_0 : mv_in k_L_meanFill 0 = some (.aload_n 1, 1, 0, 0, 0) := by unfold mv_in; rw [tb_L_meanFill]; rfl
theorem r_L_meanFill_1 : mv_in k_L_meanFill 1 = some (.iconst 0, 2, 0, 0, 0) := by unfold mv_in; rw [tb_L_meanFill]; rfl
theorem r_L_meanFill_2 : mv_in k_L_meanFill 2 = some (.aload_n 0, 3, 0, 0, 0) := by unfold mv_in; rw [tb_L_meanFill]; rfl
theorem r_L_meanFill_3 : mv_in k_L_meanFill 3 = some (.invokevirtual 75, 6, k_X10_meanFill, 1, 985) := by unfold mv_in; rw [tb_L_meanFill]; rfl
theorem r_L_meanFill_6 : mv_in k_L_meanFill 6 = some (.dastore, 7, 0, 0, 0) := by unfold mv_in; rw [tb_L_meanFill]; rfl
theorem r_L_meanFill_7 : mv_in k_L_meanFill 7 = some (.goto 6, 10, 13, 0, 0) := by unfold mv_in; rw [tb_L_meanFill]; rfl
theorem r_L_meanFill_10 : mv_in k_L_meanFill 10 = some (.astore_n 2, 11, 0, 0, 0) := by unfold mv_in; rw [tb_L_meanFill]; rfl
theorem r_L_meanFill_11 : mv_in k_L_meanFill 11 = some (.iconst 1, 12, 0, 0, 0) := by unfold mv_in; rw [tb_L_meanFill]; rfl
theorem r_L_meanFill_12 : mv_in k_L_meanFill 12 = some (.ireturn, 13, 0, 0, 0) := by unfold mv_in; rw [tb_L_meanFill]; rfl
theorem r_L_meanFill_13 : mv_in k_L_meanFill 13 = some (.iconst 0, 14, 0, 0, 0) := by unfold mv_in; rw [tb_L_meanFill]; rfl
theorem r_L_meanFill_14 : mv_in k_L_meanFill 14 = some (.ireturn, 15, 0, 0, 0) := by unfold mv_in; rw [tb_L_meanFill]; rfl
theorem tb_L_floodShare : mv_tb k_L_floodShare = t_L_floodShare := rfl
theorem r_L_floodShare_0 : mv_in k_L_floodShare 0 = some (.aload_n 1, 1, 0, 0, 0) := by unfold mv_in; rw [tb_L_floodShare]; rfl
theorem r_L_floodShare_1 : mv_in k_L_floodShare 1 = some (.iconst 0, 2, 0, 0, 0) := by unfold mv_in; rw [tb_L_floodShare]; rfl
theorem r_L_floodShare_2 : mv_in k_L_floodShare 2 = some (.aload_n 0, 3, 0, 0, 0) := by unfold mv_in; rw [tb_L_floodShare]; rfl
theorem r_L_floodShare_3 : mv_in k_L_floodShare 3 = some (.invokevirtual 81, 6, k_X10_floodShare, 1, 995) := by unfold mv_in; rw [tb_L_floodShare]; rfl
theorem r_L_floodShare_6 : mv_in k_L_floodShare 6 = some (.f2d, 7, 0, 0, 0) := by unfold mv_in; rw [tb_L_floodShare]; rfl
theorem r_L_floodShare_7 : mv_in k_L_floodShare 7 = some (.dastore, 8, 0, 0, 0) := by unfold mv_in; rw [tb_L_floodShare]; rfl
theorem r_L_floodShare_8 : mv_in k_L_floodShare 8 = some (.goto 6, 11, 14, 0, 0) := by unfold mv_in; rw [tb_L_floodShare]; rfl
theorem r_L_floodShare_11 : mv_in k_L_floodShare 11 = some (.astore_n 2, 12, 0, 0, 0) := by unfold mv_in; rw [tb_L_floodShare]; rfl
theorem r_L_floodShare_12 : mv_in k_L_floodShare 12 = some (.iconst 1, 13, 0, 0, 0) := by unfold mv_in; rw [tb_L_floodShare]; rfl
theorem r_L_floodShare_13 : mv_in k_L_floodShare 13 = some (.ireturn, 14, 0, 0, 0) := by unfold mv_in; rw [tb_L_floodShare]; rfl
theorem r_L_floodShare_14 : mv_in k_L_floodShare 14 = some (.iconst 0, 15, 0, 0, 0) := by unfold mv_in; rw [tb_L_floodShare]; rfl
theorem r_L_floodShare_15 : mv_in k_L_floodShare 15 = some (.ireturn, 16, 0, 0, 0) := by unfold mv_in; rw [tb_L_floodShare]; rfl
theorem tb_L_levelAfter : mv_tb k_L_levelAfter = t_L_levelAfter := rfl
theorem r_L_levelAfter_0 : mv_in k_L_levelAfter 0 = some (.aload_n 3, 1, 0, 0, 0) := by unfold mv_in; rw [tb_L_levelAfter]; rfl
theorem r_L_levelAfter_1 : mv_in k_L_levelAfter 1 = some (.iconst 0, 2, 0, 0, 0) := by unfold mv_in; rw [tb_L_levelAfter]; rfl
theorem r_L_levelAfter_2 : mv_in k_L_levelAfter 2 = some (.aload_n 0, 3, 0, 0, 0) := by unfold mv_in; rw [tb_L_levelAfter]; rfl
theorem r_L_levelAfter_3 : mv_in k_L_levelAfter 3 = some (.iload_n 1, 4, 0, 0, 0) := by unfold mv_in; rw [tb_L_levelAfter]; rfl
theorem r_L_levelAfter_4 : mv_in k_L_levelAfter 4 = some (.iload_n 2, 5, 0, 0, 0) := by unfold mv_in; rw [tb_L_levelAfter]; rfl
theorem r_L_levelAfter_5 : mv_in k_L_levelAfter 5 = some (.invokevirtual 85, 8, k_X10_levelAfter, 3, 1007) := by unfold mv_in; rw [tb_L_levelAfter]; rfl
theorem r_L_levelAfter_8 : mv_in k_L_levelAfter 8 = some (.i2l, 9, 0, 0, 0) := by unfold mv_in; rw [tb_L_levelAfter]; rfl
theorem r_L_levelAfter_9 : mv_in k_L_levelAfter 9 = some (.lastore, 10, 0, 0, 0) := by unfold mv_in; rw [tb_L_levelAfter]; rfl
theorem r_L_levelAfter_10 : mv_in k_L_levelAfter 10 = some (.goto 11, 13, 21, 0, 0) := by unfold mv_in; rw [tb_L_levelAfter]; rfl
theorem r_L_levelAfter_13 : mv_in k_L_levelAfter 13 = some (.astore 4, 15, 0, 0, 0) := by unfold mv_in; rw [tb_L_levelAfter]; rfl
theorem r_L_levelAfter_15 : mv_in k_L_levelAfter 15 = some (.iconst 1, 16, 0, 0, 0) := by unfold mv_in; rw [tb_L_levelAfter]; rfl
theorem r_L_levelAfter_16 : mv_in k_L_levelAfter 16 = some (.ireturn, 17, 0, 0, 0) := by unfold mv_in; rw [tb_L_levelAfter]; rfl
theorem r_L_levelAfter_17 : mv_in k_L_levelAfter 17 = some (.astore 4, 19, 0, 0, 0) := by unfold mv_in; rw [tb_L_levelAfter]; rfl
theorem r_L_levelAfter_19 : mv_in k_L_levelAfter 19 = some (.iconst 2, 20, 0, 0, 0) := by unfold mv_in; rw [tb_L_levelAfter]; rfl
theorem r_L_levelAfter_20 : mv_in k_L_levelAfter 20 = some (.ireturn, 21, 0, 0, 0) := by unfold mv_in; rw [tb_L_levelAfter]; rfl
theorem r_L_levelAfter_21 : mv_in k_L_levelAfter 21 = some (.iconst 0, 22, 0, 0, 0) := by unfold mv_in; rw [tb_L_levelAfter]; rfl
theorem r_L_levelAfter_22 : mv_in k_L_levelAfter 22 = some (.ireturn, 23, 0, 0, 0) := by unfold mv_in; rw [tb_L_levelAfter]; rfl
theorem tb_L_spillOf : mv_tb k_L_spillOf = t_L_spillOf := rfl
theorem r_L_spillOf_0 : mv_in k_L_spillOf 0 = some (.aload_n 3, 1, 0, 0, 0) := by unfold mv_in; rw [tb_L_spillOf]; rfl
theorem r_L_spillOf_1 : mv_in k_L_spillOf 1 = some (.iconst 0, 2, 0, 0, 0) := by unfold mv_in; rw [tb_L_spillOf]; rfl
theorem r_L_spillOf_2 : mv_in k_L_spillOf 2 = some (.aload_n 0, 3, 0, 0, 0) := by unfold mv_in; rw [tb_L_spillOf]; rfl
theorem r_L_spillOf_3 : mv_in k_L_spillOf 3 = some (.iload_n 1, 4, 0, 0, 0) := by unfold mv_in; rw [tb_L_spillOf]; rfl
theorem r_L_spillOf_4 : mv_in k_L_spillOf 4 = some (.iload_n 2, 5, 0, 0, 0) := by unfold mv_in; rw [tb_L_spillOf]; rfl
theorem r_L_spillOf_5 : mv_in k_L_spillOf 5 = some (.invokevirtual 88, 8, k_X10_spillOf, 3, 1018) := by unfold mv_in; rw [tb_L_spillOf]; rfl
theorem r_L_spillOf_8 : mv_in k_L_spillOf 8 = some (.i2l, 9, 0, 0, 0) := by unfold mv_in; rw [tb_L_spillOf]; rfl
theorem r_L_spillOf_9 : mv_in k_L_spillOf 9 = some (.lastore, 10, 0, 0, 0) := by unfold mv_in; rw [tb_L_spillOf]; rfl
theorem r_L_spillOf_10 : mv_in k_L_spillOf 10 = some (.goto 11, 13, 21, 0, 0) := by unfold mv_in; rw [tb_L_spillOf]; rfl
theorem r_L_spillOf_13 : mv_in k_L_spillOf 13 = some (.astore 4, 15, 0, 0, 0) := by unfold mv_in; rw [tb_L_spillOf]; rfl
theorem r_L_spillOf_15 : mv_in k_L_spillOf 15 = some (.iconst 1, 16, 0, 0, 0) := by unfold mv_in; rw [tb_L_spillOf]; rfl
theorem r_L_spillOf_16 : mv_in k_L_spillOf 16 = some (.ireturn, 17, 0, 0, 0) := by unfold mv_in; rw [tb_L_spillOf]; rfl
theorem r_L_spillOf_17 : mv_in k_L_spillOf 17 = some (.astore 4, 19, 0, 0, 0) := by unfold mv_in; rw [tb_L_spillOf]; rfl
theorem r_L_spillOf_19 : mv_in k_L_spillOf 19 = some (.iconst 2, 20, 0, 0, 0) := by unfold mv_in; rw [tb_L_spillOf]; rfl
theorem r_L_spillOf_20 : mv_in k_L_spillOf 20 = some (.ireturn, 21, 0, 0, 0) := by unfold mv_in; rw [tb_L_spillOf]; rfl
theorem r_L_spillOf_21 : mv_in k_L_spillOf 21 = some (.iconst 0, 22, 0, 0, 0) := by unfold mv_in; rw [tb_L_spillOf]; rfl
theorem r_L_spillOf_22 : mv_in k_L_spillOf 22 = some (.ireturn, 23, 0, 0, 0) := by unfold mv_in; rw [tb_L_spillOf]; rfl
theorem tb_L_stepsUntilFlood : mv_tb k_L_stepsUntilFlood = t_L_stepsUntilFlood := rfl
theorem r_L_stepsUntilFlood_0 : mv_in k_L_stepsUntilFlood 0 = some (.aload_n 1, 1, 0, 0, 0) := by unfold mv_in; rw [tb_L_stepsUntilFlood]; rfl
theorem r_L_stepsUntilFlood_1 : mv_in k_L_stepsUntilFlood 1 = some (.iconst 0, 2, 0, 0, 0) := by unfold mv_in; rw [tb_L_stepsUntilFlood]; rfl
theorem r_L_stepsUntilFlood_2 : mv_in k_L_stepsUntilFlood 2 = some (.aload_n 0, 3, 0, 0, 0) := by unfold mv_in; rw [tb_L_stepsUntilFlood]; rfl
theorem r_L_stepsUntilFlood_3 : mv_in k_L_stepsUntilFlood 3 = some (.invokevirtual 91, 6, k_X10_stepsUntilFlood, 1, 1025) := by unfold mv_in; rw [tb_L_stepsUntilFlood]; rfl
theorem r_L_stepsUntilFlood_6 : mv_in k_L_stepsUntilFlood 6 = some (.i2l, 7, 0, 0, 0) := by unfold mv_in; rw [tb_L_stepsUntilFlood]; rfl
theorem r_L_stepsUntilFlood_7 : mv_in k_L_stepsUntilFlood 7 = some (.lastore, 8, 0, 0, 0) := by unfold mv_in; rw [tb_L_stepsUntilFlood]; rfl
theorem r_L_stepsUntilFlood_8 : mv_in k_L_stepsUntilFlood 8 = some (.goto 6, 11, 14, 0, 0) := by unfold mv_in; rw [tb_L_stepsUntilFlood]; rfl
theorem r_L_stepsUntilFlood_11 : mv_in k_L_stepsUntilFlood 11 = some (.astore_n 2, 12, 0, 0, 0) := by unfold mv_in; rw [tb_L_stepsUntilFlood]; rfl
theorem r_L_stepsUntilFlood_12 : mv_in k_L_stepsUntilFlood 12 = some (.iconst 1, 13, 0, 0, 0) := by unfold mv_in; rw [tb_L_stepsUntilFlood]; rfl
theorem r_L_stepsUntilFlood_13 : mv_in k_L_stepsUntilFlood 13 = some (.ireturn, 14, 0, 0, 0) := by unfold mv_in; rw [tb_L_stepsUntilFlood]; rfl
theorem r_L_stepsUntilFlood_14 : mv_in k_L_stepsUntilFlood 14 = some (.iconst 0, 15, 0, 0, 0) := by unfold mv_in; rw [tb_L_stepsUntilFlood]; rfl
theorem r_L_stepsUntilFlood_15 : mv_in k_L_stepsUntilFlood 15 = some (.ireturn, 16, 0, 0, 0) := by unfold mv_in; rw [tb_L_stepsUntilFlood]; rfl
theorem tb_L_leastSpill : mv_tb k_L_leastSpill = t_L_leastSpill := rfl
theorem r_L_leastSpill_0 : mv_in k_L_leastSpill 0 = some (.aload_n 3, 1, 0, 0, 0) := by unfold mv_in; rw [tb_L_leastSpill]; rfl
theorem r_L_leastSpill_1 : mv_in k_L_leastSpill 1 = some (.iconst 0, 2, 0, 0, 0) := by unfold mv_in; rw [tb_L_leastSpill]; rfl
theorem r_L_leastSpill_2 : mv_in k_L_leastSpill 2 = some (.aload_n 0, 3, 0, 0, 0) := by unfold mv_in; rw [tb_L_leastSpill]; rfl
theorem r_L_leastSpill_3 : mv_in k_L_leastSpill 3 = some (.iload_n 1, 4, 0, 0, 0) := by unfold mv_in; rw [tb_L_leastSpill]; rfl
theorem r_L_leastSpill_4 : mv_in k_L_leastSpill 4 = some (.iload_n 2, 5, 0, 0, 0) := by unfold mv_in; rw [tb_L_leastSpill]; rfl
theorem r_L_leastSpill_5 : mv_in k_L_leastSpill 5 = some (.invokevirtual 95, 8, k_X10_leastSpill, 3, 1033) := by unfold mv_in; rw [tb_L_leastSpill]; rfl
theorem r_L_leastSpill_8 : mv_in k_L_leastSpill 8 = some (.i2l, 9, 0, 0, 0) := by unfold mv_in; rw [tb_L_leastSpill]; rfl
theorem r_L_leastSpill_9 : mv_in k_L_leastSpill 9 = some (.lastore, 10, 0, 0, 0) := by unfold mv_in; rw [tb_L_leastSpill]; rfl
theorem r_L_leastSpill_10 : mv_in k_L_leastSpill 10 = some (.goto 15, 13, 25, 0, 0) := by unfold mv_in; rw [tb_L_leastSpill]; rfl
theorem r_L_leastSpill_13 : mv_in k_L_leastSpill 13 = some (.astore 4, 15, 0, 0, 0) := by unfold mv_in; rw [tb_L_leastSpill]; rfl
theorem r_L_leastSpill_15 : mv_in k_L_leastSpill 15 = some (.iconst 1, 16, 0, 0, 0) := by unfold mv_in; rw [tb_L_leastSpill]; rfl
theorem r_L_leastSpill_16 : mv_in k_L_leastSpill 16 = some (.ireturn, 17, 0, 0, 0) := by unfold mv_in; rw [tb_L_leastSpill]; rfl
theorem r_L_leastSpill_17 : mv_in k_L_leastSpill 17 = some (.astore 4, 19, 0, 0, 0) := by unfold mv_in; rw [tb_L_leastSpill]; rfl
theorem r_L_leastSpill_19 : mv_in k_L_leastSpill 19 = some (.iconst 2, 20, 0, 0, 0) := by unfold mv_in; rw [tb_L_leastSpill]; rfl
theorem r_L_leastSpill_20 : mv_in k_L_leastSpill 20 = some (.ireturn, 21, 0, 0, 0) := by unfold mv_in; rw [tb_L_leastSpill]; rfl
theorem r_L_leastSpill_21 : mv_in k_L_leastSpill 21 = some (.astore 4, 23, 0, 0, 0) := by unfold mv_in; rw [tb_L_leastSpill]; rfl
theorem r_L_leastSpill_23 : mv_in k_L_leastSpill 23 = some (.iconst 3, 24, 0, 0, 0) := by unfold mv_in; rw [tb_L_leastSpill]; rfl
theorem r_L_leastSpill_24 : mv_in k_L_leastSpill 24 = some (.ireturn, 25, 0, 0, 0) := by unfold mv_in; rw [tb_L_leastSpill]; rfl
theorem r_L_leastSpill_25 : mv_in k_L_leastSpill 25 = some (.iconst 0, 26, 0, 0, 0) := by unfold mv_in; rw [tb_L_leastSpill]; rfl
theorem r_L_leastSpill_26 : mv_in k_L_leastSpill 26 = some (.ireturn, 27, 0, 0, 0) := by unfold mv_in; rw [tb_L_leastSpill]; rfl
theorem tb_L_leastSpillByPruning : mv_tb k_L_leastSpillByPruning = t_L_leastSpillByPruning := rfl
theorem r_L_leastSpillByPruning_0 : mv_in k_L_leastSpillByPruning 0 = some (.aload_n 3, 1, 0, 0, 0) := by unfold mv_in; rw [tb_L_leastSpillByPruning]; rfl
theorem r_L_leastSpillByPruning_1 : mv_in k_L_leastSpillByPruning 1 = some (.iconst 0, 2, 0, 0, 0) := by unfold mv_in; rw [tb_L_leastSpillByPruning]; rfl
theorem r_L_leastSpillByPruning_2 : mv_in k_L_leastSpillByPruning 2 = some (.aload_n 0, 3, 0, 0, 0) := by unfold mv_in; rw [tb_L_leastSpillByPruning]; rfl
theorem r_L_leastSpillByPruning_3 : mv_in k_L_leastSpillByPruning 3 = some (.iload_n 1, 4, 0, 0, 0) := by unfold mv_in; rw [tb_L_leastSpillByPruning]; rfl
theorem r_L_leastSpillByPruning_4 : mv_in k_L_leastSpillByPruning 4 = some (.iload_n 2, 5, 0, 0, 0) := by unfold mv_in; rw [tb_L_leastSpillByPruning]; rfl
theorem r_L_leastSpillByPruning_5 : mv_in k_L_leastSpillByPruning 5 = some (.invokevirtual 98, 8, k_X10_leastSpillByPruning, 3, 1044) := by unfold mv_in; rw [tb_L_leastSpillByPruning]; rfl
theorem r_L_leastSpillByPruning_8 : mv_in k_L_leastSpillByPruning 8 = some (.i2l, 9, 0, 0, 0) := by unfold mv_in; rw [tb_L_leastSpillByPruning]; rfl
theorem r_L_leastSpillByPruning_9 : mv_in k_L_leastSpillByPruning 9 = some (.lastore, 10, 0, 0, 0) := by unfold mv_in; rw [tb_L_leastSpillByPruning]; rfl
theorem r_L_leastSpillByPruning_10 : mv_in k_L_leastSpillByPruning 10 = some (.goto 15, 13, 25, 0, 0) := by unfold mv_in; rw [tb_L_leastSpillByPruning]; rfl
theorem r_L_leastSpillByPruning_13 : mv_in k_L_leastSpillByPruning 13 = some (.astore 4, 15, 0, 0, 0) := by unfold mv_in; rw [tb_L_leastSpillByPruning]; rfl
theorem r_L_leastSpillByPruning_15 : mv_in k_L_leastSpillByPruning 15 = some (.iconst 1, 16, 0, 0, 0) := by unfold mv_in; rw [tb_L_leastSpillByPruning]; rfl
theorem r_L_leastSpillByPruning_16 : mv_in k_L_leastSpillByPruning 16 = some (.ireturn, 17, 0, 0, 0) := by unfold mv_in; rw [tb_L_leastSpillByPruning]; rfl
theorem r_L_leastSpillByPruning_17 : mv_in k_L_leastSpillByPruning 17 = some (.astore 4, 19, 0, 0, 0) := by unfold mv_in; rw [tb_L_leastSpillByPruning]; rfl
theorem r_L_leastSpillByPruning_19 : mv_in k_L_leastSpillByPruning 19 = some (.iconst 2, 20, 0, 0, 0) := by unfold mv_in; rw [tb_L_leastSpillByPruning]; rfl
theorem r_L_leastSpillByPruning_20 : mv_in k_L_leastSpillByPruning 20 = some (.ireturn, 21, 0, 0, 0) := by unfold mv_in; rw [tb_L_leastSpillByPruning]; rfl
theorem r_L_leastSpillByPruning_21 : mv_in k_L_leastSpillByPruning 21 = some (.astore 4, 23, 0, 0, 0) := by unfold mv_in; rw [tb_L_leastSpillByPruning]; rfl
theorem r_L_leastSpillByPruning_23 : mv_in k_L_leastSpillByPruning 23 = some (.iconst 3, 24, 0, 0, 0) := by unfold mv_in; rw [tb_L_leastSpillByPruning]; rfl
theorem r_L_leastSpillByPruning_24 : mv_in k_L_leastSpillByPruning 24 = some (.ireturn, 25, 0, 0, 0) := by unfold mv_in; rw [tb_L_leastSpillByPruning]; rfl
theorem r_L_leastSpillByPruning_25 : mv_in k_L_leastSpillByPruning 25 = some (.iconst 0, 26, 0, 0, 0) := by unfold mv_in; rw [tb_L_leastSpillByPruning]; rfl
theorem r_L_leastSpillByPruning_26 : mv_in k_L_leastSpillByPruning 26 = some (.ireturn, 27, 0, 0, 0) := by unfold mv_in; rw [tb_L_leastSpillByPruning]; rfl
theorem tb_L_bestOpening : mv_tb k_L_bestOpening = t_L_bestOpening := rfl
theorem r_L_bestOpening_0 : mv_in k_L_bestOpening 0 = some (.aload_n 3, 1, 0, 0, 0) := by unfold mv_in; rw [tb_L_bestOpening]; rfl
theorem r_L_bestOpening_1 : mv_in k_L_bestOpening 1 = some (.iconst 0, 2, 0, 0, 0) := by unfold mv_in; rw [tb_L_bestOpening]; rfl
theorem r_L_bestOpening_2 : mv_in k_L_bestOpening 2 = some (.aload_n 0, 3, 0, 0, 0) := by unfold mv_in; rw [tb_L_bestOpening]; rfl
theorem r_L_bestOpening_3 : mv_in k_L_bestOpening 3 = some (.iload_n 1, 4, 0, 0, 0) := by unfold mv_in; rw [tb_L_bestOpening]; rfl
theorem r_L_bestOpening_4 : mv_in k_L_bestOpening 4 = some (.iload_n 2, 5, 0, 0, 0) := by unfold mv_in; rw [tb_L_bestOpening]; rfl
theorem r_L_bestOpening_5 : mv_in k_L_bestOpening 5 = some (.invokevirtual 101, 8, k_X10_bestOpening, 3, 1051) := by unfold mv_in; rw [tb_L_bestOpening]; rfl
theorem r_L_bestOpening_8 : mv_in k_L_bestOpening 8 = some (.i2l, 9, 0, 0, 0) := by unfold mv_in; rw [tb_L_bestOpening]; rfl
theorem r_L_bestOpening_9 : mv_in k_L_bestOpening 9 = some (.lastore, 10, 0, 0, 0) := by unfold mv_in; rw [tb_L_bestOpening]; rfl
theorem r_L_bestOpening_10 : mv_in k_L_bestOpening 10 = some (.goto 15, 13, 25, 0, 0) := by unfold mv_in; rw [tb_L_bestOpening]; rfl
theorem r_L_bestOpening_13 : mv_in k_L_bestOpening 13 = some (.astore 4, 15, 0, 0, 0) := by unfold mv_in; rw [tb_L_bestOpening]; rfl
theorem r_L_bestOpening_15 : mv_in k_L_bestOpening 15 = some (.iconst 1, 16, 0, 0, 0) := by unfold mv_in; rw [tb_L_bestOpening]; rfl
theorem r_L_bestOpening_16 : mv_in k_L_bestOpening 16 = some (.ireturn, 17, 0, 0, 0) := by unfold mv_in; rw [tb_L_bestOpening]; rfl
theorem r_L_bestOpening_17 : mv_in k_L_bestOpening 17 = some (.astore 4, 19, 0, 0, 0) := by unfold mv_in; rw [tb_L_bestOpening]; rfl
theorem r_L_bestOpening_19 : mv_in k_L_bestOpening 19 = some (.iconst 2, 20, 0, 0, 0) := by unfold mv_in; rw [tb_L_bestOpening]; rfl
theorem r_L_bestOpening_20 : mv_in k_L_bestOpening 20 = some (.ireturn, 21, 0, 0, 0) := by unfold mv_in; rw [tb_L_bestOpening]; rfl
theorem r_L_bestOpening_21 : mv_in k_L_bestOpening 21 = some (.astore 4, 23, 0, 0, 0) := by unfold mv_in; rw [tb_L_bestOpening]; rfl
theorem r_L_bestOpening_23 : mv_in k_L_bestOpening 23 = some (.iconst 3, 24, 0, 0, 0) := by unfold mv_in; rw [tb_L_bestOpening]; rfl
theorem r_L_bestOpening_24 : mv_in k_L_bestOpening 24 = some (.ireturn, 25, 0, 0, 0) := by unfold mv_in; rw [tb_L_bestOpening]; rfl
theorem r_L_bestOpening_25 : mv_in k_L_bestOpening 25 = some (.iconst 0, 26, 0, 0, 0) := by unfold mv_in; rw [tb_L_bestOpening]; rfl
theorem r_L_bestOpening_26 : mv_in k_L_bestOpening 26 = some (.ireturn, 27, 0, 0, 0) := by unfold mv_in; rw [tb_L_bestOpening]; rfl
theorem tb_L_endangered : mv_tb k_L_endangered = t_L_endangered := rfl
theorem r_L_endangered_0 : mv_in k_L_endangered 0 = some (.aload_n 2, 1, 0, 0, 0) := by unfold mv_in; rw [tb_L_endangered]; rfl
theorem r_L_endangered_1 : mv_in k_L_endangered 1 = some (.iconst 0, 2, 0, 0, 0) := by unfold mv_in; rw [tb_L_endangered]; rfl
theorem r_L_endangered_2 : mv_in k_L_endangered 2 = some (.aload_n 0, 3, 0, 0, 0) := by unfold mv_in; rw [tb_L_endangered]; rfl
theorem r_L_endangered_3 : mv_in k_L_endangered 3 = some (.iload_n 1, 4, 0, 0, 0) := by unfold mv_in; rw [tb_L_endangered]; rfl
theorem r_L_endangered_4 : mv_in k_L_endangered 4 = some (.invokevirtual 104, 7, k_X10_endangered, 2, 1062) := by unfold mv_in; rw [tb_L_endangered]; rfl
theorem r_L_endangered_7 : mv_in k_L_endangered 7 = some (.i2l, 8, 0, 0, 0) := by unfold mv_in; rw [tb_L_endangered]; rfl
theorem r_L_endangered_8 : mv_in k_L_endangered 8 = some (.lastore, 9, 0, 0, 0) := by unfold mv_in; rw [tb_L_endangered]; rfl
theorem r_L_endangered_9 : mv_in k_L_endangered 9 = some (.goto 6, 12, 15, 0, 0) := by unfold mv_in; rw [tb_L_endangered]; rfl
theorem r_L_endangered_12 : mv_in k_L_endangered 12 = some (.astore_n 3, 13, 0, 0, 0) := by unfold mv_in; rw [tb_L_endangered]; rfl
theorem r_L_endangered_13 : mv_in k_L_endangered 13 = some (.iconst 1, 14, 0, 0, 0) := by unfold mv_in; rw [tb_L_endangered]; rfl
theorem r_L_endangered_14 : mv_in k_L_endangered 14 = some (.ireturn, 15, 0, 0, 0) := by unfold mv_in; rw [tb_L_endangered]; rfl
theorem r_L_endangered_15 : mv_in k_L_endangered 15 = some (.iconst 0, 16, 0, 0, 0) := by unfold mv_in; rw [tb_L_endangered]; rfl
theorem r_L_endangered_16 : mv_in k_L_endangered 16 = some (.ireturn, 17, 0, 0, 0) := by unfold mv_in; rw [tb_L_endangered]; rfl
theorem tb_L_bestProtection : mv_tb k_L_bestProtection = t_L_bestProtection := rfl
theorem r_L_bestProtection_0 : mv_in k_L_bestProtection 0 = some (.aload_n 3, 1, 0, 0, 0) := by unfold mv_in; rw [tb_L_bestProtection]; rfl
theorem r_L_bestProtection_1 : mv_in k_L_bestProtection 1 = some (.iconst 0, 2, 0, 0, 0) := by unfold mv_in; rw [tb_L_bestProtection]; rfl
theorem r_L_bestProtection_2 : mv_in k_L_bestProtection 2 = some (.aload_n 0, 3, 0, 0, 0) := by unfold mv_in; rw [tb_L_bestProtection]; rfl
theorem r_L_bestProtection_3 : mv_in k_L_bestProtection 3 = some (.iload_n 1, 4, 0, 0, 0) := by unfold mv_in; rw [tb_L_bestProtection]; rfl
theorem r_L_bestProtection_4 : mv_in k_L_bestProtection 4 = some (.iload_n 2, 5, 0, 0, 0) := by unfold mv_in; rw [tb_L_bestProtection]; rfl
theorem r_L_bestProtection_5 : mv_in k_L_bestProtection 5 = some (.invokevirtual 107, 8, k_X10_bestProtection, 3, 1070) := by unfold mv_in; rw [tb_L_bestProtection]; rfl
theorem r_L_bestProtection_8 : mv_in k_L_bestProtection 8 = some (.i2l, 9, 0, 0, 0) := by unfold mv_in; rw [tb_L_bestProtection]; rfl
theorem r_L_bestProtection_9 : mv_in k_L_bestProtection 9 = some (.lastore, 10, 0, 0, 0) := by unfold mv_in; rw [tb_L_bestProtection]; rfl
theorem r_L_bestProtection_10 : mv_in k_L_bestProtection 10 = some (.goto 7, 13, 17, 0, 0) := by unfold mv_in; rw [tb_L_bestProtection]; rfl
theorem r_L_bestProtection_13 : mv_in k_L_bestProtection 13 = some (.astore 4, 15, 0, 0, 0) := by unfold mv_in; rw [tb_L_bestProtection]; rfl
theorem r_L_bestProtection_15 : mv_in k_L_bestProtection 15 = some (.iconst 1, 16, 0, 0, 0) := by unfold mv_in; rw [tb_L_bestProtection]; rfl
theorem r_L_bestProtection_16 : mv_in k_L_bestProtection 16 = some (.ireturn, 17, 0, 0, 0) := by unfold mv_in; rw [tb_L_bestProtection]; rfl
theorem r_L_bestProtection_17 : mv_in k_L_bestProtection 17 = some (.iconst 0, 18, 0, 0, 0) := by unfold mv_in; rw [tb_L_bestProtection]; rfl
theorem r_L_bestProtection_18 : mv_in k_L_bestProtection 18 = some (.ireturn, 19, 0, 0, 0) := by unfold mv_in; rw [tb_L_bestProtection]; rfl
theorem tb_L_bestProtectionBySets : mv_tb k_L_bestProtectionBySets = t_L_bestProtectionBySets := rfl
theorem r_L_bestProtectionBySets_0 : mv_in k_L_bestProtectionBySets 0 = some (.aload_n 3, 1, 0, 0, 0) := by unfold mv_in; rw [tb_L_bestProtectionBySets]; rfl
theorem r_L_bestProtectionBySets_1 : mv_in k_L_bestProtectionBySets 1 = some (.iconst 0, 2, 0, 0, 0) := by unfold mv_in; rw [tb_L_bestProtectionBySets]; rfl
theorem r_L_bestProtectionBySets_2 : mv_in k_L_bestProtectionBySets 2 = some (.aload_n 0, 3, 0, 0, 0) := by unfold mv_in; rw [tb_L_bestProtectionBySets]; rfl
theorem r_L_bestProtectionBySets_3 : mv_in k_L_bestProtectionBySets 3 = some (.iload_n 1, 4, 0, 0, 0) := by unfold mv_in; rw [tb_L_bestProtectionBySets]; rfl
theorem r_L_bestProtectionBySets_4 : mv_in k_L_bestProtectionBySets 4 = some (.iload_n 2, 5, 0, 0, 0) := by unfold mv_in; rw [tb_L_bestProtectionBySets]; rfl
theorem r_L_bestProtectionBySets_5 : mv_in k_L_bestProtectionBySets 5 = some (.invokevirtual 110, 8, k_X10_bestProtectionBySets, 3, 1077) := by unfold mv_in; rw [tb_L_bestProtectionBySets]; rfl
theorem r_L_bestProtectionBySets_8 : mv_in k_L_bestProtectionBySets 8 = some (.i2l, 9, 0, 0, 0) := by unfold mv_in; rw [tb_L_bestProtectionBySets]; rfl
theorem r_L_bestProtectionBySets_9 : mv_in k_L_bestProtectionBySets 9 = some (.lastore, 10, 0, 0, 0) := by unfold mv_in; rw [tb_L_bestProtectionBySets]; rfl
theorem r_L_bestProtectionBySets_10 : mv_in k_L_bestProtectionBySets 10 = some (.goto 7, 13, 17, 0, 0) := by unfold mv_in; rw [tb_L_bestProtectionBySets]; rfl
theorem r_L_bestProtectionBySets_13 : mv_in k_L_bestProtectionBySets 13 = some (.astore 4, 15, 0, 0, 0) := by unfold mv_in; rw [tb_L_bestProtectionBySets]; rfl
theorem r_L_bestProtectionBySets_15 : mv_in k_L_bestProtectionBySets 15 = some (.iconst 1, 16, 0, 0, 0) := by unfold mv_in; rw [tb_L_bestProtectionBySets]; rfl
theorem r_L_bestProtectionBySets_16 : mv_in k_L_bestProtectionBySets 16 = some (.ireturn, 17, 0, 0, 0) := by unfold mv_in; rw [tb_L_bestProtectionBySets]; rfl
theorem r_L_bestProtectionBySets_17 : mv_in k_L_bestProtectionBySets 17 = some (.iconst 0, 18, 0, 0, 0) := by unfold mv_in; rw [tb_L_bestProtectionBySets]; rfl
theorem r_L_bestProtectionBySets_18 : mv_in k_L_bestProtectionBySets 18 = some (.ireturn, 19, 0, 0, 0) := by unfold mv_in; rw [tb_L_bestProtectionBySets]; rfl
theorem tb_L_bagsForAll : mv_tb k_L_bagsForAll = t_L_bagsForAll := rfl
theorem r_L_bagsForAll_0 : mv_in k_L_bagsForAll 0 = some (.aload_n 2, 1, 0, 0, 0) := by unfold mv_in; rw [tb_L_bagsForAll]; rfl
theorem r_L_bagsForAll_1 : mv_in k_L_bagsForAll 1 = some (.iconst 0, 2, 0, 0, 0) := by unfold mv_in; rw [tb_L_bagsForAll]; rfl
theorem r_L_bagsForAll_2 : mv_in k_L_bagsForAll 2 = some (.aload_n 0, 3, 0, 0, 0) := by unfold mv_in; rw [tb_L_bagsForAll]; rfl
theorem r_L_bagsForAll_3 : mv_in k_L_bagsForAll 3 = some (.iload_n 1, 4, 0, 0, 0) := by unfold mv_in; rw [tb_L_bagsForAll]; rfl
theorem r_L_bagsForAll_4 : mv_in k_L_bagsForAll 4 = some (.invokevirtual 113, 7, k_X10_bagsForAll, 2, 1084) := by unfold mv_in; rw [tb_L_bagsForAll]; rfl
theorem r_L_bagsForAll_7 : mv_in k_L_bagsForAll 7 = some (.i2l, 8, 0, 0, 0) := by unfold mv_in; rw [tb_L_bagsForAll]; rfl
theorem r_L_bagsForAll_8 : mv_in k_L_bagsForAll 8 = some (.lastore, 9, 0, 0, 0) := by unfold mv_in; rw [tb_L_bagsForAll]; rfl
theorem r_L_bagsForAll_9 : mv_in k_L_bagsForAll 9 = some (.goto 6, 12, 15, 0, 0) := by unfold mv_in; rw [tb_L_bagsForAll]; rfl
theorem r_L_bagsForAll_12 : mv_in k_L_bagsForAll 12 = some (.astore_n 3, 13, 0, 0, 0) := by unfold mv_in; rw [tb_L_bagsForAll]; rfl
theorem r_L_bagsForAll_13 : mv_in k_L_bagsForAll 13 = some (.iconst 1, 14, 0, 0, 0) := by unfold mv_in; rw [tb_L_bagsForAll]; rfl
theorem r_L_bagsForAll_14 : mv_in k_L_bagsForAll 14 = some (.ireturn, 15, 0, 0, 0) := by unfold mv_in; rw [tb_L_bagsForAll]; rfl
theorem r_L_bagsForAll_15 : mv_in k_L_bagsForAll 15 = some (.iconst 0, 16, 0, 0, 0) := by unfold mv_in; rw [tb_L_bagsForAll]; rfl
theorem r_L_bagsForAll_16 : mv_in k_L_bagsForAll 16 = some (.ireturn, 17, 0, 0, 0) := by unfold mv_in; rw [tb_L_bagsForAll]; rfl
theorem tb_L_append : mv_tb k_L_append = t_L_append := rfl
theorem r_L_append_0 : mv_in k_L_append 0 = some (.aload_n 2, 1, 0, 0, 0) := by unfold mv_in; rw [tb_L_append]; rfl
theorem r_L_append_1 : mv_in k_L_append 1 = some (.iconst 0, 2, 0, 0, 0) := by unfold mv_in; rw [tb_L_append]; rfl
theorem r_L_append_2 : mv_in k_L_append 2 = some (.aload_n 0, 3, 0, 0, 0) := by unfold mv_in; rw [tb_L_append]; rfl
theorem r_L_append_3 : mv_in k_L_append 3 = some (.iload_n 1, 4, 0, 0, 0) := by unfold mv_in; rw [tb_L_append]; rfl
theorem r_L_append_4 : mv_in k_L_append 4 = some (.invokevirtual 116, 7, k_X10_append, 2, 1095) := by unfold mv_in; rw [tb_L_append]; rfl
theorem r_L_append_7 : mv_in k_L_append 7 = some (.i2l, 8, 0, 0, 0) := by unfold mv_in; rw [tb_L_append]; rfl
theorem r_L_append_8 : mv_in k_L_append 8 = some (.lastore, 9, 0, 0, 0) := by unfold mv_in; rw [tb_L_append]; rfl
theorem r_L_append_9 : mv_in k_L_append 9 = some (.goto 6, 12, 15, 0, 0) := by unfold mv_in; rw [tb_L_append]; rfl
theorem r_L_append_12 : mv_in k_L_append 12 = some (.astore_n 3, 13, 0, 0, 0) := by unfold mv_in; rw [tb_L_append]; rfl
theorem r_L_append_13 : mv_in k_L_append 13 = some (.iconst 1, 14, 0, 0, 0) := by unfold mv_in; rw [tb_L_append]; rfl
theorem r_L_append_14 : mv_in k_L_append 14 = some (.ireturn, 15, 0, 0, 0) := by unfold mv_in; rw [tb_L_append]; rfl
theorem r_L_append_15 : mv_in k_L_append 15 = some (.iconst 0, 16, 0, 0, 0) := by unfold mv_in; rw [tb_L_append]; rfl
theorem r_L_append_16 : mv_in k_L_append 16 = some (.ireturn, 17, 0, 0, 0) := by unfold mv_in; rw [tb_L_append]; rfl
theorem tb_L_run : mv_tb k_L_run = t_L_run := rfl
theorem r_L_run_0 : mv_in k_L_run 0 = some (.aload_n 1, 1, 0, 0, 0) := by unfold mv_in; rw [tb_L_run]; rfl
theorem r_L_run_1 : mv_in k_L_run 1 = some (.iconst 0, 2, 0, 0, 0) := by unfold mv_in; rw [tb_L_run]; rfl
theorem r_L_run_2 : mv_in k_L_run 2 = some (.aload_n 0, 3, 0, 0, 0) := by unfold mv_in; rw [tb_L_run]; rfl
theorem r_L_run_3 : mv_in k_L_run 3 = some (.invokevirtual 120, 6, k_X10_run, 1, 1108) := by unfold mv_in; rw [tb_L_run]; rfl
theorem r_L_run_6 : mv_in k_L_run 6 = some (.i2l, 7, 0, 0, 0) := by unfold mv_in; rw [tb_L_run]; rfl
theorem r_L_run_7 : mv_in k_L_run 7 = some (.lastore, 8, 0, 0, 0) := by unfold mv_in; rw [tb_L_run]; rfl
theorem r_L_run_8 : mv_in k_L_run 8 = some (.goto 9, 11, 17, 0, 0) := by unfold mv_in; rw [tb_L_run]; rfl
theorem r_L_run_11 : mv_in k_L_run 11 = some (.astore_n 2, 12, 0, 0, 0) := by unfold mv_in; rw [tb_L_run]; rfl
theorem r_L_run_12 : mv_in k_L_run 12 = some (.iconst 1, 13, 0, 0, 0) := by unfold mv_in; rw [tb_L_run]; rfl
theorem r_L_run_13 : mv_in k_L_run 13 = some (.ireturn, 14, 0, 0, 0) := by unfold mv_in; rw [tb_L_run]; rfl
theorem r_L_run_14 : mv_in k_L_run 14 = some (.astore_n 2, 15, 0, 0, 0) := by unfold mv_in; rw [tb_L_run]; rfl
theorem r_L_run_15 : mv_in k_L_run 15 = some (.iconst 2, 16, 0, 0, 0) := by unfold mv_in; rw [tb_L_run]; rfl
theorem r_L_run_16 : mv_in k_L_run 16 = some (.ireturn, 17, 0, 0, 0) := by unfold mv_in; rw [tb_L_run]; rfl
theorem r_L_run_17 : mv_in k_L_run 17 = some (.iconst 0, 18, 0, 0, 0) := by unfold mv_in; rw [tb_L_run]; rfl
theorem r_L_run_18 : mv_in k_L_run 18 = some (.ireturn, 19, 0, 0, 0) := by unfold mv_in; rw [tb_L_run]; rfl
theorem tb_L_errorPosition : mv_tb k_L_errorPosition = t_L_errorPosition := rfl
theorem r_L_errorPosition_0 : mv_in k_L_errorPosition 0 = some (.aload_n 1, 1, 0, 0, 0) := by unfold mv_in; rw [tb_L_errorPosition]; rfl
theorem r_L_errorPosition_1 : mv_in k_L_errorPosition 1 = some (.iconst 0, 2, 0, 0, 0) := by unfold mv_in; rw [tb_L_errorPosition]; rfl
theorem r_L_errorPosition_2 : mv_in k_L_errorPosition 2 = some (.aload_n 0, 3, 0, 0, 0) := by unfold mv_in; rw [tb_L_errorPosition]; rfl
theorem r_L_errorPosition_3 : mv_in k_L_errorPosition 3 = some (.invokevirtual 125, 6, k_X10_errorPosition, 1, 1219) := by unfold mv_in; rw [tb_L_errorPosition]; rfl
theorem r_L_errorPosition_6 : mv_in k_L_errorPosition 6 = some (.i2l, 7, 0, 0, 0) := by unfold mv_in; rw [tb_L_errorPosition]; rfl
theorem r_L_errorPosition_7 : mv_in k_L_errorPosition 7 = some (.lastore, 8, 0, 0, 0) := by unfold mv_in; rw [tb_L_errorPosition]; rfl
theorem r_L_errorPosition_8 : mv_in k_L_errorPosition 8 = some (.goto 6, 11, 14, 0, 0) := by unfold mv_in; rw [tb_L_errorPosition]; rfl
theorem r_L_errorPosition_11 : mv_in k_L_errorPosition 11 = some (.astore_n 2, 12, 0, 0, 0) := by unfold mv_in; rw [tb_L_errorPosition]; rfl
theorem r_L_errorPosition_12 : mv_in k_L_errorPosition 12 = some (.iconst 1, 13, 0, 0, 0) := by unfold mv_in; rw [tb_L_errorPosition]; rfl
theorem r_L_errorPosition_13 : mv_in k_L_errorPosition 13 = some (.ireturn, 14, 0, 0, 0) := by unfold mv_in; rw [tb_L_errorPosition]; rfl
theorem r_L_errorPosition_14 : mv_in k_L_errorPosition 14 = some (.iconst 0, 15, 0, 0, 0) := by unfold mv_in; rw [tb_L_errorPosition]; rfl
theorem r_L_errorPosition_15 : mv_in k_L_errorPosition 15 = some (.ireturn, 16, 0, 0, 0) := by unfold mv_in; rw [tb_L_errorPosition]; rfl
theorem tb_L_failedCommand : mv_tb k_L_failedCommand = t_L_failedCommand := rfl
theorem r_L_failedCommand_0 : mv_in k_L_failedCommand 0 = some (.aload_n 1, 1, 0, 0, 0) := by unfold mv_in; rw [tb_L_failedCommand]; rfl
theorem r_L_failedCommand_1 : mv_in k_L_failedCommand 1 = some (.iconst 0, 2, 0, 0, 0) := by unfold mv_in; rw [tb_L_failedCommand]; rfl
theorem r_L_failedCommand_2 : mv_in k_L_failedCommand 2 = some (.aload_n 0, 3, 0, 0, 0) := by unfold mv_in; rw [tb_L_failedCommand]; rfl
theorem r_L_failedCommand_3 : mv_in k_L_failedCommand 3 = some (.invokevirtual 128, 6, k_X10_failedCommand, 1, 1227) := by unfold mv_in; rw [tb_L_failedCommand]; rfl
theorem r_L_failedCommand_6 : mv_in k_L_failedCommand 6 = some (.i2l, 7, 0, 0, 0) := by unfold mv_in; rw [tb_L_failedCommand]; rfl
theorem r_L_failedCommand_7 : mv_in k_L_failedCommand 7 = some (.lastore, 8, 0, 0, 0) := by unfold mv_in; rw [tb_L_failedCommand]; rfl
theorem r_L_failedCommand_8 : mv_in k_L_failedCommand 8 = some (.goto 6, 11, 14, 0, 0) := by unfold mv_in; rw [tb_L_failedCommand]; rfl
theorem r_L_failedCommand_11 : mv_in k_L_failedCommand 11 = some (.astore_n 2, 12, 0, 0, 0) := by unfold mv_in; rw [tb_L_failedCommand]; rfl
theorem r_L_failedCommand_12 : mv_in k_L_failedCommand 12 = some (.iconst 1, 13, 0, 0, 0) := by unfold mv_in; rw [tb_L_failedCommand]; rfl
theorem r_L_failedCommand_13 : mv_in k_L_failedCommand 13 = some (.ireturn, 14, 0, 0, 0) := by unfold mv_in; rw [tb_L_failedCommand]; rfl
theorem r_L_failedCommand_14 : mv_in k_L_failedCommand 14 = some (.iconst 0, 15, 0, 0, 0) := by unfold mv_in; rw [tb_L_failedCommand]; rfl
theorem r_L_failedCommand_15 : mv_in k_L_failedCommand 15 = some (.ireturn, 16, 0, 0, 0) := by unfold mv_in; rw [tb_L_failedCommand]; rfl
theorem tb_L_outputAt : mv_tb k_L_outputAt = t_L_outputAt := rfl
theorem r_L_outputAt_0 : mv_in k_L_outputAt 0 = some (.aload_n 2, 1, 0, 0, 0) := by unfold mv_in; rw [tb_L_outputAt]; rfl
theorem r_L_outputAt_1 : mv_in k_L_outputAt 1 = some (.iconst 0, 2, 0, 0, 0) := by unfold mv_in; rw [tb_L_outputAt]; rfl
theorem r_L_outputAt_2 : mv_in k_L_outputAt 2 = some (.aload_n 0, 3, 0, 0, 0) := by unfold mv_in; rw [tb_L_outputAt]; rfl
theorem r_L_outputAt_3 : mv_in k_L_outputAt 3 = some (.iload_n 1, 4, 0, 0, 0) := by unfold mv_in; rw [tb_L_outputAt]; rfl
theorem r_L_outputAt_4 : mv_in k_L_outputAt 4 = some (.invokevirtual 131, 7, k_X10_outputAt, 2, 1235) := by unfold mv_in; rw [tb_L_outputAt]; rfl
theorem r_L_outputAt_7 : mv_in k_L_outputAt 7 = some (.i2l, 8, 0, 0, 0) := by unfold mv_in; rw [tb_L_outputAt]; rfl
theorem r_L_outputAt_8 : mv_in k_L_outputAt 8 = some (.lastore, 9, 0, 0, 0) := by unfold mv_in; rw [tb_L_outputAt]; rfl
theorem r_L_outputAt_9 : mv_in k_L_outputAt 9 = some (.goto 6, 12, 15, 0, 0) := by unfold mv_in; rw [tb_L_outputAt]; rfl
theorem r_L_outputAt_12 : mv_in k_L_outputAt 12 = some (.astore_n 3, 13, 0, 0, 0) := by unfold mv_in; rw [tb_L_outputAt]; rfl
theorem r_L_outputAt_13 : mv_in k_L_outputAt 13 = some (.iconst 1, 14, 0, 0, 0) := by unfold mv_in; rw [tb_L_outputAt]; rfl
theorem r_L_outputAt_14 : mv_in k_L_outputAt 14 = some (.ireturn, 15, 0, 0, 0) := by unfold mv_in; rw [tb_L_outputAt]; rfl
theorem r_L_outputAt_15 : mv_in k_L_outputAt 15 = some (.iconst 0, 16, 0, 0, 0) := by unfold mv_in; rw [tb_L_outputAt]; rfl
theorem r_L_outputAt_16 : mv_in k_L_outputAt 16 = some (.ireturn, 17, 0, 0, 0) := by unfold mv_in; rw [tb_L_outputAt]; rfl
theorem tb_L_undo : mv_tb k_L_undo = t_L_undo := rfl
theorem r_L_undo_0 : mv_in k_L_undo 0 = some (.aload_n 1, 1, 0, 0, 0) := by unfold mv_in; rw [tb_L_undo]; rfl
theorem r_L_undo_1 : mv_in k_L_undo 1 = some (.iconst 0, 2, 0, 0, 0) := by unfold mv_in; rw [tb_L_undo]; rfl
theorem r_L_undo_2 : mv_in k_L_undo 2 = some (.aload_n 0, 3, 0, 0, 0) := by unfold mv_in; rw [tb_L_undo]; rfl
theorem r_L_undo_3 : mv_in k_L_undo 3 = some (.invokevirtual 135, 6, k_X10_undo, 1, 1243) := by unfold mv_in; rw [tb_L_undo]; rfl
theorem r_L_undo_6 : mv_in k_L_undo 6 = some (.i2l, 7, 0, 0, 0) := by unfold mv_in; rw [tb_L_undo]; rfl
theorem r_L_undo_7 : mv_in k_L_undo 7 = some (.lastore, 8, 0, 0, 0) := by unfold mv_in; rw [tb_L_undo]; rfl
theorem r_L_undo_8 : mv_in k_L_undo 8 = some (.goto 6, 11, 14, 0, 0) := by unfold mv_in; rw [tb_L_undo]; rfl
theorem r_L_undo_11 : mv_in k_L_undo 11 = some (.astore_n 2, 12, 0, 0, 0) := by unfold mv_in; rw [tb_L_undo]; rfl
theorem r_L_undo_12 : mv_in k_L_undo 12 = some (.iconst 1, 13, 0, 0, 0) := by unfold mv_in; rw [tb_L_undo]; rfl
theorem r_L_undo_13 : mv_in k_L_undo 13 = some (.ireturn, 14, 0, 0, 0) := by unfold mv_in; rw [tb_L_undo]; rfl
theorem r_L_undo_14 : mv_in k_L_undo 14 = some (.iconst 0, 15, 0, 0, 0) := by unfold mv_in; rw [tb_L_undo]; rfl
theorem r_L_undo_15 : mv_in k_L_undo 15 = some (.ireturn, 16, 0, 0, 0) := by unfold mv_in; rw [tb_L_undo]; rfl
theorem tb_L_restore : mv_tb k_L_restore = t_L_restore := rfl
theorem r_L_restore_0 : mv_in k_L_restore 0 = some (.aload_n 0, 1, 0, 0, 0) := by unfold mv_in; rw [tb_L_restore]; rfl
theorem r_L_restore_1 : mv_in k_L_restore 1 = some (.invokevirtual 138, 4, k_X10_restore, 1, 1255) := by unfold mv_in; rw [tb_L_restore]; rfl
theorem r_L_restore_4 : mv_in k_L_restore 4 = some (.goto 6, 7, 10, 0, 0) := by unfold mv_in; rw [tb_L_restore]; rfl
theorem r_L_restore_7 : mv_in k_L_restore 7 = some (.astore_n 1, 8, 0, 0, 0) := by unfold mv_in; rw [tb_L_restore]; rfl
theorem r_L_restore_8 : mv_in k_L_restore 8 = some (.iconst 1, 9, 0, 0, 0) := by unfold mv_in; rw [tb_L_restore]; rfl
theorem r_L_restore_9 : mv_in k_L_restore 9 = some (.ireturn, 10, 0, 0, 0) := by unfold mv_in; rw [tb_L_restore]; rfl
theorem r_L_restore_10 : mv_in k_L_restore 10 = some (.iconst 0, 11, 0, 0, 0) := by unfold mv_in; rw [tb_L_restore]; rfl
theorem r_L_restore_11 : mv_in k_L_restore 11 = some (.ireturn, 12, 0, 0, 0) := by unfold mv_in; rw [tb_L_restore]; rfl
section LW
variable {L : Nat} {xs : Nat → Int32} {d t t2 : Nat} {T T2 : zT}
section
variable {nx a b w : Nat} {ls : mv_V} {st : List Value}
theorem al_st {v : Int} : mv_stp L xs (.lastore, nx, a, b, w) ls (.long (Int64.ofInt v) :: .int (Int32.ofInt 0) :: .ref 147 :: st) (t, 149, mz T) = some (.inl (nx, ls, st, (t, 149, mz (sD T 147 (upR (T.1 147) 0 v))))) := by
  show mv_as 22 nx ls (.long (Int64.ofInt v) :: .int (Int32.ofInt 0) :: .ref 147 :: st) (t, 149, mz T) = _
  have h1 : (Int32.ofInt 0).toNatClampNeg = 0 := by decide
  have h2 : mv_is 149 147 22 = true := by decide +kernel
  have h3 : mv_ix (Int32.ofInt 0) (mv_kd 147).2 = true := by decide +kernel
  have h4 : zk 147 0 = 1 := by decide +kernel
  have h5 : zo 147 = 147 := by decide +kernel
  have h6 : zi 147 0 = 0 := by decide +kernel
  simp only [mv_as, if_pos (And.intro trivial (And.intro h2 h3)), h1, mz_ul h4, h5, h6, mv_nx]
  rfl
theorem al_ld : mv_stp L xs (.laload, nx, a, b, w) ls (.int (Int32.ofInt 0) :: .ref 147 :: st) (t, 149, mz T) = some (.inl (nx, ls, .long (Int64.ofInt (T.1 147 0)) :: st, (t, 149, mz T))) := by
  show mv_al L xs 22 nx ls (.int (Int32.ofInt 0) :: .ref 147 :: st) (t, 149, mz T) = _
  have h1 : (Int32.ofInt 0).toNatClampNeg = 0 := by decide
  have h2 : mv_is 149 147 22 = true := by decide +kernel
  have h3 : mv_ix (Int32.ofInt 0) (mv_kd 147).2 = true := by decide +kernel
  have h4 : zk 147 0 = 1 := by decide +kernel
  have h5 : zo 147 = 147 := by decide +kernel
  have h6 : zi 147 0 = 0 := by decide +kernel
  have h7 : mz T 147 0 = .long (Int64.ofInt (T.1 147 0)) := by rw [mz_l h4, h5, h6]; rfl
  simp only [mv_al, (by decide : (147 : Nat) < 149), if_true, if_pos (And.intro h2 h3), h1, h7, mv_nx]
theorem ad_st {v : UInt64} : mv_stp L xs (.dastore, nx, a, b, w) ls (.double v :: .int (Int32.ofInt 0) :: .ref 148 :: st) (t, 149, mz T) = some (.inl (nx, ls, st, (t, 149, mz (T.1, T.2.1, v, T.2.2.2)))) := by
  show mv_as 23 nx ls (.double v :: .int (Int32.ofInt 0) :: .ref 148 :: st) (t, 149, mz T) = _
  have h1 : (Int32.ofInt 0).toNatClampNeg = 0 := by decide
  have h2 : mv_is 149 148 23 = true := by decide +kernel
  have h3 : mv_ix (Int32.ofInt 0) (mv_kd 148).2 = true := by decide +kernel
  simp only [mv_as, if_pos (And.intro trivial (And.intro h2 h3)), h1, mz_ud, mv_nx]
end
theorem nl_L_addBasin : mv_nh k_L_addBasin = false := by decide +kernel
theorem w_L_addBasin_ok {a1 a2 a3 : Int32} {v : Int} (hv1 : -2147483648 ≤ v) (hv2 : v < 2147483648) (hq : mv_cl L xs d k_X10_addBasin [.ref 0, .int a1, .int a2, .int a3] (t, 149, mz T) = some (.inl (some (.int (Int32.ofInt v))), (t2, 149, mz T2))) : mv_cl L xs (d + 1) k_L_addBasin [.ref 0, .int a1, .int a2, .int a3, .ref 147] (t, 149, mz T) = some (.inl (some (.int (Int32.ofInt 0))), (t2, 149, mz (sD T2 147 (upR (T2.1 147) 0 v)))) := by
  apply mv_cl_of
  simp only [mv_il, Value.category, Nat.zero_add, Nat.reduceAdd]
  simp (disch := omega) only [mv_Ev_row r_L_addBasin_0, mv_Ev_row r_L_addBasin_2, mv_Ev_row r_L_addBasin_3, mv_Ev_row r_L_addBasin_4, mv_Ev_row r_L_addBasin_5, mv_Ev_row r_L_addBasin_6, mv_Ev_row r_L_addBasin_7, mv_Ev_row r_L_addBasin_10, mv_Ev_row r_L_addBasin_11, mv_Ev_row r_L_addBasin_12, mv_Ev_row r_L_addBasin_15, mv_Ev_row r_L_addBasin_17, mv_Ev_row r_L_addBasin_18, mv_Ev_row r_L_addBasin_19, mv_Ev_row r_L_addBasin_21, mv_Ev_row r_L_addBasin_22, mv_Ev_row r_L_addBasin_23, mv_Ev_row r_L_addBasin_24, ea_aload, ea_iconst, ea_aload_n, ea_iload_n, kv_X10_addBasin, i2l_z, ea_goto, ea_astore, ea_ireturn, ez_ret, ez_retc, mv_ac, decide_eq_true_eq, not_true_eq_false, and_self, and_true, true_and, ea_2n, ea_2f, ea_2c, ea_if, if_pos, if_neg, mv_lk, mv_f1, mv_f2, Value.category, List.filter, ↓reduceIte, Nat.reduceEqDiff, Nat.reduceAdd, Nat.reduceLT, Nat.reduceBEq, Nat.zero_add, Nat.add_zero, Nat.zero_ne_one, Nat.one_ne_zero, Bool.not_true, Bool.not_false, Bool.and_true, Bool.true_and, Bool.and_false, Bool.false_and, BEq.rfl, beq_self_eq_true, Bool.false_eq_true, reduceCtorEq, not_false_eq_true, fv0, fv1, fv2, fv3, eb_l0, eb_l1, eb_l2, eb_l3, eb_l4, eb_l5, eb_s0, eb_s1, eb_s2, eb_s3, eb_s4, eb_s5, oz_add, oz_sub, oz_mul, oz_neg, ol_add, ol_sub, sD_eq, sD_sD, sD_ne, sD_in, sD_in2, sD_in3, upR_is, upR_ne, mk_v, mk_n, mk_x, mk_i, mv_cs, Nat.reduceLeDiff, mv_ch_z, hq, al_st]
theorem hd_L_addBasin_0 : mv_hd k_L_addBasin 7 0 = some (17, 5) := by
  have e : mv_hd1 7 0 (mv_hl k_L_addBasin mv_hs) = some 15 := by decide +kernel
  unfold mv_hd
  rw [e]
  simp only [r_L_addBasin_15] <;> rfl
theorem w_L_addBasin_0 {a1 a2 a3 : Int32} (hq : mv_cl L xs d k_X10_addBasin [.ref 0, .int a1, .int a2, .int a3] (t, 149, mz T) = some (.inr 0, (t2, 149, mz T2))) : mv_cl L xs (d + 1) k_L_addBasin [.ref 0, .int a1, .int a2, .int a3, .ref 147] (t, 149, mz T) = some (.inl (some (.int (Int32.ofInt 1))), (t2, 149, mz T2)) := by
  apply mv_cl_of
  simp only [mv_il, Value.category, Nat.zero_add, Nat.reduceAdd]
  simp (disch := omega) only [mv_Ev_row r_L_addBasin_0, mv_Ev_row r_L_addBasin_2, mv_Ev_row r_L_addBasin_3, mv_Ev_row r_L_addBasin_4, mv_Ev_row r_L_addBasin_5, mv_Ev_row r_L_addBasin_6, mv_Ev_row r_L_addBasin_7, mv_Ev_row r_L_addBasin_10, mv_Ev_row r_L_addBasin_11, mv_Ev_row r_L_addBasin_12, mv_Ev_row r_L_addBasin_15, mv_Ev_row r_L_addBasin_17, mv_Ev_row r_L_addBasin_18, mv_Ev_row r_L_addBasin_19, mv_Ev_row r_L_addBasin_21, mv_Ev_row r_L_addBasin_22, mv_Ev_row r_L_addBasin_23, mv_Ev_row r_L_addBasin_24, ea_aload, ea_iconst, ea_aload_n, ea_iload_n, kv_X10_addBasin, i2l_z, ea_goto, ea_astore, ea_ireturn, ez_ret, ez_retc, mv_ac, decide_eq_true_eq, not_true_eq_false, and_self, and_true, true_and, ea_2n, ea_2f, ea_2c, ea_if, if_pos, if_neg, mv_lk, mv_f1, mv_f2, Value.category, List.filter, ↓reduceIte, Nat.reduceEqDiff, Nat.reduceAdd, Nat.reduceLT, Nat.reduceBEq, Nat.zero_add, Nat.add_zero, Nat.zero_ne_one, Nat.one_ne_zero, Bool.not_true, Bool.not_false, Bool.and_true, Bool.true_and, Bool.and_false, Bool.false_and, BEq.rfl, beq_self_eq_true, Bool.false_eq_true, reduceCtorEq, not_false_eq_true, fv0, fv1, fv2, fv3, eb_l0, eb_l1, eb_l2, eb_l3, eb_l4, eb_l5, eb_s0, eb_s1, eb_s2, eb_s3, eb_s4, eb_s5, oz_add, oz_sub, oz_mul, oz_neg, ol_add, ol_sub, sD_eq, sD_sD, sD_ne, sD_in, sD_in2, sD_in3, upR_is, upR_ne, mk_v, mk_n, mk_x, mk_i, mv_cs, Nat.reduceLeDiff, mv_ch_z, hq, nl_L_addBasin, hd_L_addBasin_0]
theorem hd_L_addBasin_1 : mv_hd k_L_addBasin 7 1 = some (21, 5) := by
  have e : mv_hd1 7 1 (mv_hl k_L_addBasin mv_hs) = some 19 := by decide +kernel
  unfold mv_hd
  rw [e]
  simp only [r_L_addBasin_19] <;> rfl
theorem w_L_addBasin_1 {a1 a2 a3 : Int32} (hq : mv_cl L xs d k_X10_addBasin [.ref 0, .int a1, .int a2, .int a3] (t, 149, mz T) = some (.inr 1, (t2, 149, mz T2))) : mv_cl L xs (d + 1) k_L_addBasin [.ref 0, .int a1, .int a2, .int a3, .ref 147] (t, 149, mz T) = some (.inl (some (.int (Int32.ofInt 2))), (t2, 149, mz T2)) := by
  apply mv_cl_of
  simp only [mv_il, Value.category, Nat.zero_add, Nat.reduceAdd]
  simp (disch := omega) only [mv_Ev_row r_L_addBasin_0, mv_Ev_row r_L_addBasin_2, mv_Ev_row r_L_addBasin_3, mv_Ev_row r_L_addBasin_4, mv_Ev_row r_L_addBasin_5, mv_Ev_row r_L_addBasin_6, mv_Ev_row r_L_addBasin_7, mv_Ev_row r_L_addBasin_10, mv_Ev_row r_L_addBasin_11, mv_Ev_row r_L_addBasin_12, mv_Ev_row r_L_addBasin_15, mv_Ev_row r_L_addBasin_17, mv_Ev_row r_L_addBasin_18, mv_Ev_row r_L_addBasin_19, mv_Ev_row r_L_addBasin_21, mv_Ev_row r_L_addBasin_22, mv_Ev_row r_L_addBasin_23, mv_Ev_row r_L_addBasin_24, ea_aload, ea_iconst, ea_aload_n, ea_iload_n, kv_X10_addBasin, i2l_z, ea_goto, ea_astore, ea_ireturn, ez_ret, ez_retc, mv_ac, decide_eq_true_eq, not_true_eq_false, and_self, and_true, true_and, ea_2n, ea_2f, ea_2c, ea_if, if_pos, if_neg, mv_lk, mv_f1, mv_f2, Value.category, List.filter, ↓reduceIte, Nat.reduceEqDiff, Nat.reduceAdd, Nat.reduceLT, Nat.reduceBEq, Nat.zero_add, Nat.add_zero, Nat.zero_ne_one, Nat.one_ne_zero, Bool.not_true, Bool.not_false, Bool.and_true, Bool.true_and, Bool.and_false, Bool.false_and, BEq.rfl, beq_self_eq_true, Bool.false_eq_true, reduceCtorEq, not_false_eq_true, fv0, fv1, fv2, fv3, eb_l0, eb_l1, eb_l2, eb_l3, eb_l4, eb_l5, eb_s0, eb_s1, eb_s2, eb_s3, eb_s4, eb_s5, oz_add, oz_sub, oz_mul, oz_neg, ol_add, ol_sub, sD_eq, sD_sD, sD_ne, sD_in, sD_in2, sD_in3, upR_is, upR_ne, mk_v, mk_n, mk_x, mk_i, mv_cs, Nat.reduceLeDiff, mv_ch_z, hq, nl_L_addBasin, hd_L_addBasin_1]
theorem nl_L_setGate : mv_nh k_L_setGate = false := by decide +kernel
theorem w_L_setGate_ok {a1 a2 : Int32} {v : Int} (hv1 : -2147483648 ≤ v) (hv2 : v < 2147483648) (hq : mv_cl L xs d k_X10_setGate [.ref 0, .int a1, .int a2] (t, 149, mz T) = some (.inl (some (.int (Int32.ofInt v))), (t2, 149, mz T2))) : mv_cl L xs (d + 1) k_L_setGate [.ref 0, .int a1, .int a2, .ref 147] (t, 149, mz T) = some (.inl (some (.int (Int32.ofInt 0))), (t2, 149, mz (sD T2 147 (upR (T2.1 147) 0 v)))) := by
  apply mv_cl_of
  simp only [mv_il, Value.category, Nat.zero_add, Nat.reduceAdd]
  simp (disch := omega) only [mv_Ev_row r_L_setGate_0, mv_Ev_row r_L_setGate_1, mv_Ev_row r_L_setGate_2, mv_Ev_row r_L_setGate_3, mv_Ev_row r_L_setGate_4, mv_Ev_row r_L_setGate_5, mv_Ev_row r_L_setGate_8, mv_Ev_row r_L_setGate_9, mv_Ev_row r_L_setGate_10, mv_Ev_row r_L_setGate_13, mv_Ev_row r_L_setGate_15, mv_Ev_row r_L_setGate_16, mv_Ev_row r_L_setGate_17, mv_Ev_row r_L_setGate_19, mv_Ev_row r_L_setGate_20, mv_Ev_row r_L_setGate_21, mv_Ev_row r_L_setGate_23, mv_Ev_row r_L_setGate_24, mv_Ev_row r_L_setGate_25, mv_Ev_row r_L_setGate_26, ea_aload_n, ea_iconst, ea_iload_n, kv_X10_setGate, i2l_z, ea_goto, ea_astore, ea_ireturn, ez_ret, ez_retc, mv_ac, decide_eq_true_eq, not_true_eq_false, and_self, and_true, true_and, ea_2n, ea_2f, ea_2c, ea_if, if_pos, if_neg, mv_lk, mv_f1, mv_f2, Value.category, List.filter, ↓reduceIte, Nat.reduceEqDiff, Nat.reduceAdd, Nat.reduceLT, Nat.reduceBEq, Nat.zero_add, Nat.add_zero, Nat.zero_ne_one, Nat.one_ne_zero, Bool.not_true, Bool.not_false, Bool.and_true, Bool.true_and, Bool.and_false, Bool.false_and, BEq.rfl, beq_self_eq_true, Bool.false_eq_true, reduceCtorEq, not_false_eq_true, fv0, fv1, fv2, fv3, eb_l0, eb_l1, eb_l2, eb_l3, eb_l4, eb_l5, eb_s0, eb_s1, eb_s2, eb_s3, eb_s4, eb_s5, oz_add, oz_sub, oz_mul, oz_neg, ol_add, ol_sub, sD_eq, sD_sD, sD_ne, sD_in, sD_in2, sD_in3, upR_is, upR_ne, mk_v, mk_n, mk_x, mk_i, mv_cs, Nat.reduceLeDiff, mv_ch_z, hq, al_st]
theorem hd_L_setGate_2 : mv_hd k_L_setGate 5 2 = some (15, 4) := by
  have e : mv_hd1 5 2 (mv_hl k_L_setGate mv_hs) = some 13 := by decide +kernel
  unfold mv_hd
  rw [e]
  simp only [r_L_setGate_13] <;> rfl
theorem w_L_setGate_2 {a1 a2 : Int32} (hq : mv_cl L xs d k_X10_setGate [.ref 0, .int a1, .int a2] (t, 149, mz T) = some (.inr 2, (t2, 149, mz T2))) : mv_cl L xs (d + 1) k_L_setGate [.ref 0, .int a1, .int a2, .ref 147] (t, 149, mz T) = some (.inl (some (.int (Int32.ofInt 1))), (t2, 149, mz T2)) := by
  apply mv_cl_of
  simp only [mv_il, Value.category, Nat.zero_add, Nat.reduceAdd]
  simp (disch := omega) only [mv_Ev_row r_L_setGate_0, mv_Ev_row r_L_setGate_1, mv_Ev_row r_L_setGate_2, mv_Ev_row r_L_setGate_3, mv_Ev_row r_L_setGate_4, mv_Ev_row r_L_setGate_5, mv_Ev_row r_L_setGate_8, mv_Ev_row r_L_setGate_9, mv_Ev_row r_L_setGate_10, mv_Ev_row r_L_setGate_13, mv_Ev_row r_L_setGate_15, mv_Ev_row r_L_setGate_16, mv_Ev_row r_L_setGate_17, mv_Ev_row r_L_setGate_19, mv_Ev_row r_L_setGate_20, mv_Ev_row r_L_setGate_21, mv_Ev_row r_L_setGate_23, mv_Ev_row r_L_setGate_24, mv_Ev_row r_L_setGate_25, mv_Ev_row r_L_setGate_26, ea_aload_n, ea_iconst, ea_iload_n, kv_X10_setGate, i2l_z, ea_goto, ea_astore, ea_ireturn, ez_ret, ez_retc, mv_ac, decide_eq_true_eq, not_true_eq_false, and_self, and_true, true_and, ea_2n, ea_2f, ea_2c, ea_if, if_pos, if_neg, mv_lk, mv_f1, mv_f2, Value.category, List.filter, ↓reduceIte, Nat.reduceEqDiff, Nat.reduceAdd, Nat.reduceLT, Nat.reduceBEq, Nat.zero_add, Nat.add_zero, Nat.zero_ne_one, Nat.one_ne_zero, Bool.not_true, Bool.not_false, Bool.and_true, Bool.true_and, Bool.and_false, Bool.false_and, BEq.rfl, beq_self_eq_true, Bool.false_eq_true, reduceCtorEq, not_false_eq_true, fv0, fv1, fv2, fv3, eb_l0, eb_l1, eb_l2, eb_l3, eb_l4, eb_l5, eb_s0, eb_s1, eb_s2, eb_s3, eb_s4, eb_s5, oz_add, oz_sub, oz_mul, oz_neg, ol_add, ol_sub, sD_eq, sD_sD, sD_ne, sD_in, sD_in2, sD_in3, upR_is, upR_ne, mk_v, mk_n, mk_x, mk_i, mv_cs, Nat.reduceLeDiff, mv_ch_z, hq, nl_L_setGate, hd_L_setGate_2]
theorem hd_L_setGate_0 : mv_hd k_L_setGate 5 0 = some (19, 4) := by
  have e : mv_hd1 5 0 (mv_hl k_L_setGate mv_hs) = some 17 := by decide +kernel
  unfold mv_hd
  rw [e]
  simp only [r_L_setGate_17] <;> rfl
theorem w_L_setGate_0 {a1 a2 : Int32} (hq : mv_cl L xs d k_X10_setGate [.ref 0, .int a1, .int a2] (t, 149, mz T) = some (.inr 0, (t2, 149, mz T2))) : mv_cl L xs (d + 1) k_L_setGate [.ref 0, .int a1, .int a2, .ref 147] (t, 149, mz T) = some (.inl (some (.int (Int32.ofInt 2))), (t2, 149, mz T2)) := by
  apply mv_cl_of
  simp only [mv_il, Value.category, Nat.zero_add, Nat.reduceAdd]
  simp (disch := omega) only [mv_Ev_row r_L_setGate_0, mv_Ev_row r_L_setGate_1, mv_Ev_row r_L_setGate_2, mv_Ev_row r_L_setGate_3, mv_Ev_row r_L_setGate_4, mv_Ev_row r_L_setGate_5, mv_Ev_row r_L_setGate_8, mv_Ev_row r_L_setGate_9, mv_Ev_row r_L_setGate_10, mv_Ev_row r_L_setGate_13, mv_Ev_row r_L_setGate_15, mv_Ev_row r_L_setGate_16, mv_Ev_row r_L_setGate_17, mv_Ev_row r_L_setGate_19, mv_Ev_row r_L_setGate_20, mv_Ev_row r_L_setGate_21, mv_Ev_row r_L_setGate_23, mv_Ev_row r_L_setGate_24, mv_Ev_row r_L_setGate_25, mv_Ev_row r_L_setGate_26, ea_aload_n, ea_iconst, ea_iload_n, kv_X10_setGate, i2l_z, ea_goto, ea_astore, ea_ireturn, ez_ret, ez_retc, mv_ac, decide_eq_true_eq, not_true_eq_false, and_self, and_true, true_and, ea_2n, ea_2f, ea_2c, ea_if, if_pos, if_neg, mv_lk, mv_f1, mv_f2, Value.category, List.filter, ↓reduceIte, Nat.reduceEqDiff, Nat.reduceAdd, Nat.reduceLT, Nat.reduceBEq, Nat.zero_add, Nat.add_zero, Nat.zero_ne_one, Nat.one_ne_zero, Bool.not_true, Bool.not_false, Bool.and_true, Bool.true_and, Bool.and_false, Bool.false_and, BEq.rfl, beq_self_eq_true, Bool.false_eq_true, reduceCtorEq, not_false_eq_true, fv0, fv1, fv2, fv3, eb_l0, eb_l1, eb_l2, eb_l3, eb_l4, eb_l5, eb_s0, eb_s1, eb_s2, eb_s3, eb_s4, eb_s5, oz_add, oz_sub, oz_mul, oz_neg, ol_add, ol_sub, sD_eq, sD_sD, sD_ne, sD_in, sD_in2, sD_in3, upR_is, upR_ne, mk_v, mk_n, mk_x, mk_i, mv_cs, Nat.reduceLeDiff, mv_ch_z, hq, nl_L_setGate, hd_L_setGate_0]
theorem hd_L_setGate_1 : mv_hd k_L_setGate 5 1 = some (23, 4) := by
  have e : mv_hd1 5 1 (mv_hl k_L_setGate mv_hs) = some 21 := by decide +kernel
  unfold mv_hd
  rw [e]
  simp only [r_L_setGate_21] <;> rfl
theorem w_L_setGate_1 {a1 a2 : Int32} (hq : mv_cl L xs d k_X10_setGate [.ref 0, .int a1, .int a2] (t, 149, mz T) = some (.inr 1, (t2, 149, mz T2))) : mv_cl L xs (d + 1) k_L_setGate [.ref 0, .int a1, .int a2, .ref 147] (t, 149, mz T) = some (.inl (some (.int (Int32.ofInt 3))), (t2, 149, mz T2)) := by
  apply mv_cl_of
  simp only [mv_il, Value.category, Nat.zero_add, Nat.reduceAdd]
  simp (disch := omega) only [mv_Ev_row r_L_setGate_0, mv_Ev_row r_L_setGate_1, mv_Ev_row r_L_setGate_2, mv_Ev_row r_L_setGate_3, mv_Ev_row r_L_setGate_4, mv_Ev_row r_L_setGate_5, mv_Ev_row r_L_setGate_8, mv_Ev_row r_L_setGate_9, mv_Ev_row r_L_setGate_10, mv_Ev_row r_L_setGate_13, mv_Ev_row r_L_setGate_15, mv_Ev_row r_L_setGate_16, mv_Ev_row r_L_setGate_17, mv_Ev_row r_L_setGate_19, mv_Ev_row r_L_setGate_20, mv_Ev_row r_L_setGate_21, mv_Ev_row r_L_setGate_23, mv_Ev_row r_L_setGate_24, mv_Ev_row r_L_setGate_25, mv_Ev_row r_L_setGate_26, ea_aload_n, ea_iconst, ea_iload_n, kv_X10_setGate, i2l_z, ea_goto, ea_astore, ea_ireturn, ez_ret, ez_retc, mv_ac, decide_eq_true_eq, not_true_eq_false, and_self, and_true, true_and, ea_2n, ea_2f, ea_2c, ea_if, if_pos, if_neg, mv_lk, mv_f1, mv_f2, Value.category, List.filter, ↓reduceIte, Nat.reduceEqDiff, Nat.reduceAdd, Nat.reduceLT, Nat.reduceBEq, Nat.zero_add, Nat.add_zero, Nat.zero_ne_one, Nat.one_ne_zero, Bool.not_true, Bool.not_false, Bool.and_true, Bool.true_and, Bool.and_false, Bool.false_and, BEq.rfl, beq_self_eq_true, Bool.false_eq_true, reduceCtorEq, not_false_eq_true, fv0, fv1, fv2, fv3, eb_l0, eb_l1, eb_l2, eb_l3, eb_l4, eb_l5, eb_s0, eb_s1, eb_s2, eb_s3, eb_s4, eb_s5, oz_add, oz_sub, oz_mul, oz_neg, ol_add, ol_sub, sD_eq, sD_sD, sD_ne, sD_in, sD_in2, sD_in3, upR_is, upR_ne, mk_v, mk_n, mk_x, mk_i, mv_cs, Nat.reduceLeDiff, mv_ch_z, hq, nl_L_setGate, hd_L_setGate_1]
theorem nl_L_setAutomatic : mv_nh k_L_setAutomatic = false := by decide +kernel
theorem w_L_setAutomatic_ok {a1 a2 : Int32} {v : Int} (hv1 : -2147483648 ≤ v) (hv2 : v < 2147483648) (hq : mv_cl L xs d k_X10_setAutomatic [.ref 0, .int a1, .int a2] (t, 149, mz T) = some (.inl (some (.int (Int32.ofInt v))), (t2, 149, mz T2))) : mv_cl L xs (d + 1) k_L_setAutomatic [.ref 0, .int a1, .int a2, .ref 147] (t, 149, mz T) = some (.inl (some (.int (Int32.ofInt 0))), (t2, 149, mz (sD T2 147 (upR (T2.1 147) 0 v)))) := by
  apply mv_cl_of
  simp only [mv_il, Value.category, Nat.zero_add, Nat.reduceAdd]
  simp (disch := omega) only [mv_Ev_row r_L_setAutomatic_0, mv_Ev_row r_L_setAutomatic_1, mv_Ev_row r_L_setAutomatic_2, mv_Ev_row r_L_setAutomatic_3, mv_Ev_row r_L_setAutomatic_4, mv_Ev_row r_L_setAutomatic_5, mv_Ev_row r_L_setAutomatic_8, mv_Ev_row r_L_setAutomatic_9, mv_Ev_row r_L_setAutomatic_10, mv_Ev_row r_L_setAutomatic_13, mv_Ev_row r_L_setAutomatic_15, mv_Ev_row r_L_setAutomatic_16, mv_Ev_row r_L_setAutomatic_17, mv_Ev_row r_L_setAutomatic_19, mv_Ev_row r_L_setAutomatic_20, mv_Ev_row r_L_setAutomatic_21, mv_Ev_row r_L_setAutomatic_22, ea_aload_n, ea_iconst, ea_iload_n, kv_X10_setAutomatic, i2l_z, ea_goto, ea_astore, ea_ireturn, ez_ret, ez_retc, mv_ac, decide_eq_true_eq, not_true_eq_false, and_self, and_true, true_and, ea_2n, ea_2f, ea_2c, ea_if, if_pos, if_neg, mv_lk, mv_f1, mv_f2, Value.category, List.filter, ↓reduceIte, Nat.reduceEqDiff, Nat.reduceAdd, Nat.reduceLT, Nat.reduceBEq, Nat.zero_add, Nat.add_zero, Nat.zero_ne_one, Nat.one_ne_zero, Bool.not_true, Bool.not_false, Bool.and_true, Bool.true_and, Bool.and_false, Bool.false_and, BEq.rfl, beq_self_eq_true, Bool.false_eq_true, reduceCtorEq, not_false_eq_true, fv0, fv1, fv2, fv3, eb_l0, eb_l1, eb_l2, eb_l3, eb_l4, eb_l5, eb_s0, eb_s1, eb_s2, eb_s3, eb_s4, eb_s5, oz_add, oz_sub, oz_mul, oz_neg, ol_add, ol_sub, sD_eq, sD_sD, sD_ne, sD_in, sD_in2, sD_in3, upR_is, upR_ne, mk_v, mk_n, mk_x, mk_i, mv_cs, Nat.reduceLeDiff, mv_ch_z, hq, al_st]
theorem hd_L_setAutomatic_2 : mv_hd k_L_setAutomatic 5 2 = some (15, 4) := by
  have e : mv_hd1 5 2 (mv_hl k_L_setAutomatic mv_hs) = some 13 := by decide +kernel
  unfold mv_hd
  rw [e]
  simp only [r_L_setAutomatic_13] <;> rfl
theorem w_L_setAutomatic_2 {a1 a2 : Int32} (hq : mv_cl L xs d k_X10_setAutomatic [.ref 0, .int a1, .int a2] (t, 149, mz T) = some (.inr 2, (t2, 149, mz T2))) : mv_cl L xs (d + 1) k_L_setAutomatic [.ref 0, .int a1, .int a2, .ref 147] (t, 149, mz T) = some (.inl (some (.int (Int32.ofInt 1))), (t2, 149, mz T2)) := by
  apply mv_cl_of
  simp only [mv_il, Value.category, Nat.zero_add, Nat.reduceAdd]
  simp (disch := omega) only [mv_Ev_row r_L_setAutomatic_0, mv_Ev_row r_L_setAutomatic_1, mv_Ev_row r_L_setAutomatic_2, mv_Ev_row r_L_setAutomatic_3, mv_Ev_row r_L_setAutomatic_4, mv_Ev_row r_L_setAutomatic_5, mv_Ev_row r_L_setAutomatic_8, mv_Ev_row r_L_setAutomatic_9, mv_Ev_row r_L_setAutomatic_10, mv_Ev_row r_L_setAutomatic_13, mv_Ev_row r_L_setAutomatic_15, mv_Ev_row r_L_setAutomatic_16, mv_Ev_row r_L_setAutomatic_17, mv_Ev_row r_L_setAutomatic_19, mv_Ev_row r_L_setAutomatic_20, mv_Ev_row r_L_setAutomatic_21, mv_Ev_row r_L_setAutomatic_22, ea_aload_n, ea_iconst, ea_iload_n, kv_X10_setAutomatic, i2l_z, ea_goto, ea_astore, ea_ireturn, ez_ret, ez_retc, mv_ac, decide_eq_true_eq, not_true_eq_false, and_self, and_true, true_and, ea_2n, ea_2f, ea_2c, ea_if, if_pos, if_neg, mv_lk, mv_f1, mv_f2, Value.category, List.filter, ↓reduceIte, Nat.reduceEqDiff, Nat.reduceAdd, Nat.reduceLT, Nat.reduceBEq, Nat.zero_add, Nat.add_zero, Nat.zero_ne_one, Nat.one_ne_zero, Bool.not_true, Bool.not_false, Bool.and_true, Bool.true_and, Bool.and_false, Bool.false_and, BEq.rfl, beq_self_eq_true, Bool.false_eq_true, reduceCtorEq, not_false_eq_true, fv0, fv1, fv2, fv3, eb_l0, eb_l1, eb_l2, eb_l3, eb_l4, eb_l5, eb_s0, eb_s1, eb_s2, eb_s3, eb_s4, eb_s5, oz_add, oz_sub, oz_mul, oz_neg, ol_add, ol_sub, sD_eq, sD_sD, sD_ne, sD_in, sD_in2, sD_in3, upR_is, upR_ne, mk_v, mk_n, mk_x, mk_i, mv_cs, Nat.reduceLeDiff, mv_ch_z, hq, nl_L_setAutomatic, hd_L_setAutomatic_2]
theorem hd_L_setAutomatic_0 : mv_hd k_L_setAutomatic 5 0 = some (19, 4) := by
  have e : mv_hd1 5 0 (mv_hl k_L_setAutomatic mv_hs) = some 17 := by decide +kernel
  unfold mv_hd
  rw [e]
  simp only [r_L_setAutomatic_17] <;> rfl
theorem w_L_setAutomatic_0 {a1 a2 : Int32} (hq : mv_cl L xs d k_X10_setAutomatic [.ref 0, .int a1, .int a2] (t, 149, mz T) = some (.inr 0, (t2, 149, mz T2))) : mv_cl L xs (d + 1) k_L_setAutomatic [.ref 0, .int a1, .int a2, .ref 147] (t, 149, mz T) = some (.inl (some (.int (Int32.ofInt 2))), (t2, 149, mz T2)) := by
  apply mv_cl_of
  simp only [mv_il, Value.category, Nat.zero_add, Nat.reduceAdd]
  simp (disch := omega) only [mv_Ev_row r_L_setAutomatic_0, mv_Ev_row r_L_setAutomatic_1, mv_Ev_row r_L_setAutomatic_2, mv_Ev_row r_L_setAutomatic_3, mv_Ev_row r_L_setAutomatic_4, mv_Ev_row r_L_setAutomatic_5, mv_Ev_row r_L_setAutomatic_8, mv_Ev_row r_L_setAutomatic_9, mv_Ev_row r_L_setAutomatic_10, mv_Ev_row r_L_setAutomatic_13, mv_Ev_row r_L_setAutomatic_15, mv_Ev_row r_L_setAutomatic_16, mv_Ev_row r_L_setAutomatic_17, mv_Ev_row r_L_setAutomatic_19, mv_Ev_row r_L_setAutomatic_20, mv_Ev_row r_L_setAutomatic_21, mv_Ev_row r_L_setAutomatic_22, ea_aload_n, ea_iconst, ea_iload_n, kv_X10_setAutomatic, i2l_z, ea_goto, ea_astore, ea_ireturn, ez_ret, ez_retc, mv_ac, decide_eq_true_eq, not_true_eq_false, and_self, and_true, true_and, ea_2n, ea_2f, ea_2c, ea_if, if_pos, if_neg, mv_lk, mv_f1, mv_f2, Value.category, List.filter, ↓reduceIte, Nat.reduceEqDiff, Nat.reduceAdd, Nat.reduceLT, Nat.reduceBEq, Nat.zero_add, Nat.add_zero, Nat.zero_ne_one, Nat.one_ne_zero, Bool.not_true, Bool.not_false, Bool.and_true, Bool.true_and, Bool.and_false, Bool.false_and, BEq.rfl, beq_self_eq_true, Bool.false_eq_true, reduceCtorEq, not_false_eq_true, fv0, fv1, fv2, fv3, eb_l0, eb_l1, eb_l2, eb_l3, eb_l4, eb_l5, eb_s0, eb_s1, eb_s2, eb_s3, eb_s4, eb_s5, oz_add, oz_sub, oz_mul, oz_neg, ol_add, ol_sub, sD_eq, sD_sD, sD_ne, sD_in, sD_in2, sD_in3, upR_is, upR_ne, mk_v, mk_n, mk_x, mk_i, mv_cs, Nat.reduceLeDiff, mv_ch_z, hq, nl_L_setAutomatic, hd_L_setAutomatic_0]
theorem nl_L_setManual : mv_nh k_L_setManual = false := by decide +kernel
theorem w_L_setManual_ok {a1 : Int32} {v : Int} (hv1 : -2147483648 ≤ v) (hv2 : v < 2147483648) (hq : mv_cl L xs d k_X10_setManual [.ref 0, .int a1] (t, 149, mz T) = some (.inl (some (.int (Int32.ofInt v))), (t2, 149, mz T2))) : mv_cl L xs (d + 1) k_L_setManual [.ref 0, .int a1, .ref 147] (t, 149, mz T) = some (.inl (some (.int (Int32.ofInt 0))), (t2, 149, mz (sD T2 147 (upR (T2.1 147) 0 v)))) := by
  apply mv_cl_of
  simp only [mv_il, Value.category, Nat.zero_add, Nat.reduceAdd]
  simp (disch := omega) only [mv_Ev_row r_L_setManual_0, mv_Ev_row r_L_setManual_1, mv_Ev_row r_L_setManual_2, mv_Ev_row r_L_setManual_3, mv_Ev_row r_L_setManual_4, mv_Ev_row r_L_setManual_7, mv_Ev_row r_L_setManual_8, mv_Ev_row r_L_setManual_9, mv_Ev_row r_L_setManual_12, mv_Ev_row r_L_setManual_13, mv_Ev_row r_L_setManual_14, mv_Ev_row r_L_setManual_15, mv_Ev_row r_L_setManual_16, mv_Ev_row r_L_setManual_17, mv_Ev_row r_L_setManual_18, mv_Ev_row r_L_setManual_19, ea_aload_n, ea_iconst, ea_iload_n, kv_X10_setManual, i2l_z, ea_goto, ea_astore_n, ea_ireturn, ez_ret, ez_retc, mv_ac, decide_eq_true_eq, not_true_eq_false, and_self, and_true, true_and, ea_2n, ea_2f, ea_2c, ea_if, if_pos, if_neg, mv_lk, mv_f1, mv_f2, Value.category, List.filter, ↓reduceIte, Nat.reduceEqDiff, Nat.reduceAdd, Nat.reduceLT, Nat.reduceBEq, Nat.zero_add, Nat.add_zero, Nat.zero_ne_one, Nat.one_ne_zero, Bool.not_true, Bool.not_false, Bool.and_true, Bool.true_and, Bool.and_false, Bool.false_and, BEq.rfl, beq_self_eq_true, Bool.false_eq_true, reduceCtorEq, not_false_eq_true, fv0, fv1, fv2, fv3, eb_l0, eb_l1, eb_l2, eb_l3, eb_l4, eb_l5, eb_s0, eb_s1, eb_s2, eb_s3, eb_s4, eb_s5, oz_add, oz_sub, oz_mul, oz_neg, ol_add, ol_sub, sD_eq, sD_sD, sD_ne, sD_in, sD_in2, sD_in3, upR_is, upR_ne, mk_v, mk_n, mk_x, mk_i, mv_cs, Nat.reduceLeDiff, mv_ch_z, hq, al_st]
theorem hd_L_setManual_2 : mv_hd k_L_setManual 4 2 = some (13, 3) := by
  have e : mv_hd1 4 2 (mv_hl k_L_setManual mv_hs) = some 12 := by decide +kernel
  unfold mv_hd
  rw [e]
  simp only [r_L_setManual_12] <;> rfl
theorem w_L_setManual_2 {a1 : Int32} (hq : mv_cl L xs d k_X10_setManual [.ref 0, .int a1] (t, 149, mz T) = some (.inr 2, (t2, 149, mz T2))) : mv_cl L xs (d + 1) k_L_setManual [.ref 0, .int a1, .ref 147] (t, 149, mz T) = some (.inl (some (.int (Int32.ofInt 1))), (t2, 149, mz T2)) := by
  apply mv_cl_of
  simp only [mv_il, Value.category, Nat.zero_add, Nat.reduceAdd]
  simp (disch := omega) only [mv_Ev_row r_L_setManual_0, mv_Ev_row r_L_setManual_1, mv_Ev_row r_L_setManual_2, mv_Ev_row r_L_setManual_3, mv_Ev_row r_L_setManual_4, mv_Ev_row r_L_setManual_7, mv_Ev_row r_L_setManual_8, mv_Ev_row r_L_setManual_9, mv_Ev_row r_L_setManual_12, mv_Ev_row r_L_setManual_13, mv_Ev_row r_L_setManual_14, mv_Ev_row r_L_setManual_15, mv_Ev_row r_L_setManual_16, mv_Ev_row r_L_setManual_17, mv_Ev_row r_L_setManual_18, mv_Ev_row r_L_setManual_19, ea_aload_n, ea_iconst, ea_iload_n, kv_X10_setManual, i2l_z, ea_goto, ea_astore_n, ea_ireturn, ez_ret, ez_retc, mv_ac, decide_eq_true_eq, not_true_eq_false, and_self, and_true, true_and, ea_2n, ea_2f, ea_2c, ea_if, if_pos, if_neg, mv_lk, mv_f1, mv_f2, Value.category, List.filter, ↓reduceIte, Nat.reduceEqDiff, Nat.reduceAdd, Nat.reduceLT, Nat.reduceBEq, Nat.zero_add, Nat.add_zero, Nat.zero_ne_one, Nat.one_ne_zero, Bool.not_true, Bool.not_false, Bool.and_true, Bool.true_and, Bool.and_false, Bool.false_and, BEq.rfl, beq_self_eq_true, Bool.false_eq_true, reduceCtorEq, not_false_eq_true, fv0, fv1, fv2, fv3, eb_l0, eb_l1, eb_l2, eb_l3, eb_l4, eb_l5, eb_s0, eb_s1, eb_s2, eb_s3, eb_s4, eb_s5, oz_add, oz_sub, oz_mul, oz_neg, ol_add, ol_sub, sD_eq, sD_sD, sD_ne, sD_in, sD_in2, sD_in3, upR_is, upR_ne, mk_v, mk_n, mk_x, mk_i, mv_cs, Nat.reduceLeDiff, mv_ch_z, hq, nl_L_setManual, hd_L_setManual_2]
theorem hd_L_setManual_1 : mv_hd k_L_setManual 4 1 = some (16, 3) := by
  have e : mv_hd1 4 1 (mv_hl k_L_setManual mv_hs) = some 15 := by decide +kernel
  unfold mv_hd
  rw [e]
  simp only [r_L_setManual_15] <;> rfl
theorem w_L_setManual_1 {a1 : Int32} (hq : mv_cl L xs d k_X10_setManual [.ref 0, .int a1] (t, 149, mz T) = some (.inr 1, (t2, 149, mz T2))) : mv_cl L xs (d + 1) k_L_setManual [.ref 0, .int a1, .ref 147] (t, 149, mz T) = some (.inl (some (.int (Int32.ofInt 2))), (t2, 149, mz T2)) := by
  apply mv_cl_of
  simp only [mv_il, Value.category, Nat.zero_add, Nat.reduceAdd]
  simp (disch := omega) only [mv_Ev_row r_L_setManual_0, mv_Ev_row r_L_setManual_1, mv_Ev_row r_L_setManual_2, mv_Ev_row r_L_setManual_3, mv_Ev_row r_L_setManual_4, mv_Ev_row r_L_setManual_7, mv_Ev_row r_L_setManual_8, mv_Ev_row r_L_setManual_9, mv_Ev_row r_L_setManual_12, mv_Ev_row r_L_setManual_13, mv_Ev_row r_L_setManual_14, mv_Ev_row r_L_setManual_15, mv_Ev_row r_L_setManual_16, mv_Ev_row r_L_setManual_17, mv_Ev_row r_L_setManual_18, mv_Ev_row r_L_setManual_19, ea_aload_n, ea_iconst, ea_iload_n, kv_X10_setManual, i2l_z, ea_goto, ea_astore_n, ea_ireturn, ez_ret, ez_retc, mv_ac, decide_eq_true_eq, not_true_eq_false, and_self, and_true, true_and, ea_2n, ea_2f, ea_2c, ea_if, if_pos, if_neg, mv_lk, mv_f1, mv_f2, Value.category, List.filter, ↓reduceIte, Nat.reduceEqDiff, Nat.reduceAdd, Nat.reduceLT, Nat.reduceBEq, Nat.zero_add, Nat.add_zero, Nat.zero_ne_one, Nat.one_ne_zero, Bool.not_true, Bool.not_false, Bool.and_true, Bool.true_and, Bool.and_false, Bool.false_and, BEq.rfl, beq_self_eq_true, Bool.false_eq_true, reduceCtorEq, not_false_eq_true, fv0, fv1, fv2, fv3, eb_l0, eb_l1, eb_l2, eb_l3, eb_l4, eb_l5, eb_s0, eb_s1, eb_s2, eb_s3, eb_s4, eb_s5, oz_add, oz_sub, oz_mul, oz_neg, ol_add, ol_sub, sD_eq, sD_sD, sD_ne, sD_in, sD_in2, sD_in3, upR_is, upR_ne, mk_v, mk_n, mk_x, mk_i, mv_cs, Nat.reduceLeDiff, mv_ch_z, hq, nl_L_setManual, hd_L_setManual_1]
theorem nl_L_addRain : mv_nh k_L_addRain = false := by decide +kernel
theorem w_L_addRain_ok {a1 : Int32} {v : Int} (hv1 : -2147483648 ≤ v) (hv2 : v < 2147483648) (hq : mv_cl L xs d k_X10_addRain [.ref 0, .int a1] (t, 149, mz T) = some (.inl (some (.int (Int32.ofInt v))), (t2, 149, mz T2))) : mv_cl L xs (d + 1) k_L_addRain [.ref 0, .int a1, .ref 147] (t, 149, mz T) = some (.inl (some (.int (Int32.ofInt 0))), (t2, 149, mz (sD T2 147 (upR (T2.1 147) 0 v)))) := by
  apply mv_cl_of
  simp only [mv_il, Value.category, Nat.zero_add, Nat.reduceAdd]
  simp (disch := omega) only [mv_Ev_row r_L_addRain_0, mv_Ev_row r_L_addRain_1, mv_Ev_row r_L_addRain_2, mv_Ev_row r_L_addRain_3, mv_Ev_row r_L_addRain_4, mv_Ev_row r_L_addRain_7, mv_Ev_row r_L_addRain_8, mv_Ev_row r_L_addRain_9, mv_Ev_row r_L_addRain_12, mv_Ev_row r_L_addRain_13, mv_Ev_row r_L_addRain_14, mv_Ev_row r_L_addRain_15, mv_Ev_row r_L_addRain_16, mv_Ev_row r_L_addRain_17, mv_Ev_row r_L_addRain_18, mv_Ev_row r_L_addRain_19, ea_aload_n, ea_iconst, ea_iload_n, kv_X10_addRain, i2l_z, ea_goto, ea_astore_n, ea_ireturn, ez_ret, ez_retc, mv_ac, decide_eq_true_eq, not_true_eq_false, and_self, and_true, true_and, ea_2n, ea_2f, ea_2c, ea_if, if_pos, if_neg, mv_lk, mv_f1, mv_f2, Value.category, List.filter, ↓reduceIte, Nat.reduceEqDiff, Nat.reduceAdd, Nat.reduceLT, Nat.reduceBEq, Nat.zero_add, Nat.add_zero, Nat.zero_ne_one, Nat.one_ne_zero, Bool.not_true, Bool.not_false, Bool.and_true, Bool.true_and, Bool.and_false, Bool.false_and, BEq.rfl, beq_self_eq_true, Bool.false_eq_true, reduceCtorEq, not_false_eq_true, fv0, fv1, fv2, fv3, eb_l0, eb_l1, eb_l2, eb_l3, eb_l4, eb_l5, eb_s0, eb_s1, eb_s2, eb_s3, eb_s4, eb_s5, oz_add, oz_sub, oz_mul, oz_neg, ol_add, ol_sub, sD_eq, sD_sD, sD_ne, sD_in, sD_in2, sD_in3, upR_is, upR_ne, mk_v, mk_n, mk_x, mk_i, mv_cs, Nat.reduceLeDiff, mv_ch_z, hq, al_st]
theorem hd_L_addRain_0 : mv_hd k_L_addRain 4 0 = some (13, 3) := by
  have e : mv_hd1 4 0 (mv_hl k_L_addRain mv_hs) = some 12 := by decide +kernel
  unfold mv_hd
  rw [e]
  simp only [r_L_addRain_12] <;> rfl
theorem w_L_addRain_0 {a1 : Int32} (hq : mv_cl L xs d k_X10_addRain [.ref 0, .int a1] (t, 149, mz T) = some (.inr 0, (t2, 149, mz T2))) : mv_cl L xs (d + 1) k_L_addRain [.ref 0, .int a1, .ref 147] (t, 149, mz T) = some (.inl (some (.int (Int32.ofInt 1))), (t2, 149, mz T2)) := by
  apply mv_cl_of
  simp only [mv_il, Value.category, Nat.zero_add, Nat.reduceAdd]
  simp (disch := omega) only [mv_Ev_row r_L_addRain_0, mv_Ev_row r_L_addRain_1, mv_Ev_row r_L_addRain_2, mv_Ev_row r_L_addRain_3, mv_Ev_row r_L_addRain_4, mv_Ev_row r_L_addRain_7, mv_Ev_row r_L_addRain_8, mv_Ev_row r_L_addRain_9, mv_Ev_row r_L_addRain_12, mv_Ev_row r_L_addRain_13, mv_Ev_row r_L_addRain_14, mv_Ev_row r_L_addRain_15, mv_Ev_row r_L_addRain_16, mv_Ev_row r_L_addRain_17, mv_Ev_row r_L_addRain_18, mv_Ev_row r_L_addRain_19, ea_aload_n, ea_iconst, ea_iload_n, kv_X10_addRain, i2l_z, ea_goto, ea_astore_n, ea_ireturn, ez_ret, ez_retc, mv_ac, decide_eq_true_eq, not_true_eq_false, and_self, and_true, true_and, ea_2n, ea_2f, ea_2c, ea_if, if_pos, if_neg, mv_lk, mv_f1, mv_f2, Value.category, List.filter, ↓reduceIte, Nat.reduceEqDiff, Nat.reduceAdd, Nat.reduceLT, Nat.reduceBEq, Nat.zero_add, Nat.add_zero, Nat.zero_ne_one, Nat.one_ne_zero, Bool.not_true, Bool.not_false, Bool.and_true, Bool.true_and, Bool.and_false, Bool.false_and, BEq.rfl, beq_self_eq_true, Bool.false_eq_true, reduceCtorEq, not_false_eq_true, fv0, fv1, fv2, fv3, eb_l0, eb_l1, eb_l2, eb_l3, eb_l4, eb_l5, eb_s0, eb_s1, eb_s2, eb_s3, eb_s4, eb_s5, oz_add, oz_sub, oz_mul, oz_neg, ol_add, ol_sub, sD_eq, sD_sD, sD_ne, sD_in, sD_in2, sD_in3, upR_is, upR_ne, mk_v, mk_n, mk_x, mk_i, mv_cs, Nat.reduceLeDiff, mv_ch_z, hq, nl_L_addRain, hd_L_addRain_0]
theorem hd_L_addRain_1 : mv_hd k_L_addRain 4 1 = some (16, 3) := by
  have e : mv_hd1 4 1 (mv_hl k_L_addRain mv_hs) = some 15 := by decide +kernel
  unfold mv_hd
  rw [e]
  simp only [r_L_addRain_15] <;> rfl
theorem w_L_addRain_1 {a1 : Int32} (hq : mv_cl L xs d k_X10_addRain [.ref 0, .int a1] (t, 149, mz T) = some (.inr 1, (t2, 149, mz T2))) : mv_cl L xs (d + 1) k_L_addRain [.ref 0, .int a1, .ref 147] (t, 149, mz T) = some (.inl (some (.int (Int32.ofInt 2))), (t2, 149, mz T2)) := by
  apply mv_cl_of
  simp only [mv_il, Value.category, Nat.zero_add, Nat.reduceAdd]
  simp (disch := omega) only [mv_Ev_row r_L_addRain_0, mv_Ev_row r_L_addRain_1, mv_Ev_row r_L_addRain_2, mv_Ev_row r_L_addRain_3, mv_Ev_row r_L_addRain_4, mv_Ev_row r_L_addRain_7, mv_Ev_row r_L_addRain_8, mv_Ev_row r_L_addRain_9, mv_Ev_row r_L_addRain_12, mv_Ev_row r_L_addRain_13, mv_Ev_row r_L_addRain_14, mv_Ev_row r_L_addRain_15, mv_Ev_row r_L_addRain_16, mv_Ev_row r_L_addRain_17, mv_Ev_row r_L_addRain_18, mv_Ev_row r_L_addRain_19, ea_aload_n, ea_iconst, ea_iload_n, kv_X10_addRain, i2l_z, ea_goto, ea_astore_n, ea_ireturn, ez_ret, ez_retc, mv_ac, decide_eq_true_eq, not_true_eq_false, and_self, and_true, true_and, ea_2n, ea_2f, ea_2c, ea_if, if_pos, if_neg, mv_lk, mv_f1, mv_f2, Value.category, List.filter, ↓reduceIte, Nat.reduceEqDiff, Nat.reduceAdd, Nat.reduceLT, Nat.reduceBEq, Nat.zero_add, Nat.add_zero, Nat.zero_ne_one, Nat.one_ne_zero, Bool.not_true, Bool.not_false, Bool.and_true, Bool.true_and, Bool.and_false, Bool.false_and, BEq.rfl, beq_self_eq_true, Bool.false_eq_true, reduceCtorEq, not_false_eq_true, fv0, fv1, fv2, fv3, eb_l0, eb_l1, eb_l2, eb_l3, eb_l4, eb_l5, eb_s0, eb_s1, eb_s2, eb_s3, eb_s4, eb_s5, oz_add, oz_sub, oz_mul, oz_neg, ol_add, ol_sub, sD_eq, sD_sD, sD_ne, sD_in, sD_in2, sD_in3, upR_is, upR_ne, mk_v, mk_n, mk_x, mk_i, mv_cs, Nat.reduceLeDiff, mv_ch_z, hq, nl_L_addRain, hd_L_addRain_1]
theorem nl_L_pour : mv_nh k_L_pour = false := by decide +kernel
theorem w_L_pour_ok {a1 a2 : Int32} {v : Int} (hv1 : -2147483648 ≤ v) (hv2 : v < 2147483648) (hq : mv_cl L xs d k_X10_pour [.ref 0, .int a1, .int a2] (t, 149, mz T) = some (.inl (some (.int (Int32.ofInt v))), (t2, 149, mz T2))) : mv_cl L xs (d + 1) k_L_pour [.ref 0, .int a1, .int a2, .ref 147] (t, 149, mz T) = some (.inl (some (.int (Int32.ofInt 0))), (t2, 149, mz (sD T2 147 (upR (T2.1 147) 0 v)))) := by
  apply mv_cl_of
  simp only [mv_il, Value.category, Nat.zero_add, Nat.reduceAdd]
  simp (disch := omega) only [mv_Ev_row r_L_pour_0, mv_Ev_row r_L_pour_1, mv_Ev_row r_L_pour_2, mv_Ev_row r_L_pour_3, mv_Ev_row r_L_pour_4, mv_Ev_row r_L_pour_5, mv_Ev_row r_L_pour_8, mv_Ev_row r_L_pour_9, mv_Ev_row r_L_pour_10, mv_Ev_row r_L_pour_13, mv_Ev_row r_L_pour_15, mv_Ev_row r_L_pour_16, mv_Ev_row r_L_pour_17, mv_Ev_row r_L_pour_19, mv_Ev_row r_L_pour_20, mv_Ev_row r_L_pour_21, mv_Ev_row r_L_pour_23, mv_Ev_row r_L_pour_24, mv_Ev_row r_L_pour_25, mv_Ev_row r_L_pour_26, ea_aload_n, ea_iconst, ea_iload_n, kv_X10_pour, i2l_z, ea_goto, ea_astore, ea_ireturn, ez_ret, ez_retc, mv_ac, decide_eq_true_eq, not_true_eq_false, and_self, and_true, true_and, ea_2n, ea_2f, ea_2c, ea_if, if_pos, if_neg, mv_lk, mv_f1, mv_f2, Value.category, List.filter, ↓reduceIte, Nat.reduceEqDiff, Nat.reduceAdd, Nat.reduceLT, Nat.reduceBEq, Nat.zero_add, Nat.add_zero, Nat.zero_ne_one, Nat.one_ne_zero, Bool.not_true, Bool.not_false, Bool.and_true, Bool.true_and, Bool.and_false, Bool.false_and, BEq.rfl, beq_self_eq_true, Bool.false_eq_true, reduceCtorEq, not_false_eq_true, fv0, fv1, fv2, fv3, eb_l0, eb_l1, eb_l2, eb_l3, eb_l4, eb_l5, eb_s0, eb_s1, eb_s2, eb_s3, eb_s4, eb_s5, oz_add, oz_sub, oz_mul, oz_neg, ol_add, ol_sub, sD_eq, sD_sD, sD_ne, sD_in, sD_in2, sD_in3, upR_is, upR_ne, mk_v, mk_n, mk_x, mk_i, mv_cs, Nat.reduceLeDiff, mv_ch_z, hq, al_st]
theorem hd_L_pour_2 : mv_hd k_L_pour 5 2 = some (15, 4) := by
  have e : mv_hd1 5 2 (mv_hl k_L_pour mv_hs) = some 13 := by decide +kernel
  unfold mv_hd
  rw [e]
  simp only [r_L_pour_13] <;> rfl
theorem w_L_pour_2 {a1 a2 : Int32} (hq : mv_cl L xs d k_X10_pour [.ref 0, .int a1, .int a2] (t, 149, mz T) = some (.inr 2, (t2, 149, mz T2))) : mv_cl L xs (d + 1) k_L_pour [.ref 0, .int a1, .int a2, .ref 147] (t, 149, mz T) = some (.inl (some (.int (Int32.ofInt 1))), (t2, 149, mz T2)) := by
  apply mv_cl_of
  simp only [mv_il, Value.category, Nat.zero_add, Nat.reduceAdd]
  simp (disch := omega) only [mv_Ev_row r_L_pour_0, mv_Ev_row r_L_pour_1, mv_Ev_row r_L_pour_2, mv_Ev_row r_L_pour_3, mv_Ev_row r_L_pour_4, mv_Ev_row r_L_pour_5, mv_Ev_row r_L_pour_8, mv_Ev_row r_L_pour_9, mv_Ev_row r_L_pour_10, mv_Ev_row r_L_pour_13, mv_Ev_row r_L_pour_15, mv_Ev_row r_L_pour_16, mv_Ev_row r_L_pour_17, mv_Ev_row r_L_pour_19, mv_Ev_row r_L_pour_20, mv_Ev_row r_L_pour_21, mv_Ev_row r_L_pour_23, mv_Ev_row r_L_pour_24, mv_Ev_row r_L_pour_25, mv_Ev_row r_L_pour_26, ea_aload_n, ea_iconst, ea_iload_n, kv_X10_pour, i2l_z, ea_goto, ea_astore, ea_ireturn, ez_ret, ez_retc, mv_ac, decide_eq_true_eq, not_true_eq_false, and_self, and_true, true_and, ea_2n, ea_2f, ea_2c, ea_if, if_pos, if_neg, mv_lk, mv_f1, mv_f2, Value.category, List.filter, ↓reduceIte, Nat.reduceEqDiff, Nat.reduceAdd, Nat.reduceLT, Nat.reduceBEq, Nat.zero_add, Nat.add_zero, Nat.zero_ne_one, Nat.one_ne_zero, Bool.not_true, Bool.not_false, Bool.and_true, Bool.true_and, Bool.and_false, Bool.false_and, BEq.rfl, beq_self_eq_true, Bool.false_eq_true, reduceCtorEq, not_false_eq_true, fv0, fv1, fv2, fv3, eb_l0, eb_l1, eb_l2, eb_l3, eb_l4, eb_l5, eb_s0, eb_s1, eb_s2, eb_s3, eb_s4, eb_s5, oz_add, oz_sub, oz_mul, oz_neg, ol_add, ol_sub, sD_eq, sD_sD, sD_ne, sD_in, sD_in2, sD_in3, upR_is, upR_ne, mk_v, mk_n, mk_x, mk_i, mv_cs, Nat.reduceLeDiff, mv_ch_z, hq, nl_L_pour, hd_L_pour_2]
theorem hd_L_pour_0 : mv_hd k_L_pour 5 0 = some (19, 4) := by
  have e : mv_hd1 5 0 (mv_hl k_L_pour mv_hs) = some 17 := by decide +kernel
  unfold mv_hd
  rw [e]
  simp only [r_L_pour_17] <;> rfl
theorem w_L_pour_0 {a1 a2 : Int32} (hq : mv_cl L xs d k_X10_pour [.ref 0, .int a1, .int a2] (t, 149, mz T) = some (.inr 0, (t2, 149, mz T2))) : mv_cl L xs (d + 1) k_L_pour [.ref 0, .int a1, .int a2, .ref 147] (t, 149, mz T) = some (.inl (some (.int (Int32.ofInt 2))), (t2, 149, mz T2)) := by
  apply mv_cl_of
  simp only [mv_il, Value.category, Nat.zero_add, Nat.reduceAdd]
  simp (disch := omega) only [mv_Ev_row r_L_pour_0, mv_Ev_row r_L_pour_1, mv_Ev_row r_L_pour_2, mv_Ev_row r_L_pour_3, mv_Ev_row r_L_pour_4, mv_Ev_row r_L_pour_5, mv_Ev_row r_L_pour_8, mv_Ev_row r_L_pour_9, mv_Ev_row r_L_pour_10, mv_Ev_row r_L_pour_13, mv_Ev_row r_L_pour_15, mv_Ev_row r_L_pour_16, mv_Ev_row r_L_pour_17, mv_Ev_row r_L_pour_19, mv_Ev_row r_L_pour_20, mv_Ev_row r_L_pour_21, mv_Ev_row r_L_pour_23, mv_Ev_row r_L_pour_24, mv_Ev_row r_L_pour_25, mv_Ev_row r_L_pour_26, ea_aload_n, ea_iconst, ea_iload_n, kv_X10_pour, i2l_z, ea_goto, ea_astore, ea_ireturn, ez_ret, ez_retc, mv_ac, decide_eq_true_eq, not_true_eq_false, and_self, and_true, true_and, ea_2n, ea_2f, ea_2c, ea_if, if_pos, if_neg, mv_lk, mv_f1, mv_f2, Value.category, List.filter, ↓reduceIte, Nat.reduceEqDiff, Nat.reduceAdd, Nat.reduceLT, Nat.reduceBEq, Nat.zero_add, Nat.add_zero, Nat.zero_ne_one, Nat.one_ne_zero, Bool.not_true, Bool.not_false, Bool.and_true, Bool.true_and, Bool.and_false, Bool.false_and, BEq.rfl, beq_self_eq_true, Bool.false_eq_true, reduceCtorEq, not_false_eq_true, fv0, fv1, fv2, fv3, eb_l0, eb_l1, eb_l2, eb_l3, eb_l4, eb_l5, eb_s0, eb_s1, eb_s2, eb_s3, eb_s4, eb_s5, oz_add, oz_sub, oz_mul, oz_neg, ol_add, ol_sub, sD_eq, sD_sD, sD_ne, sD_in, sD_in2, sD_in3, upR_is, upR_ne, mk_v, mk_n, mk_x, mk_i, mv_cs, Nat.reduceLeDiff, mv_ch_z, hq, nl_L_pour, hd_L_pour_0]
theorem hd_L_pour_1 : mv_hd k_L_pour 5 1 = some (23, 4) := by
  have e : mv_hd1 5 1 (mv_hl k_L_pour mv_hs) = some 21 := by decide +kernel
  unfold mv_hd
  rw [e]
  simp only [r_L_pour_21] <;> rfl
theorem w_L_pour_1 {a1 a2 : Int32} (hq : mv_cl L xs d k_X10_pour [.ref 0, .int a1, .int a2] (t, 149, mz T) = some (.inr 1, (t2, 149, mz T2))) : mv_cl L xs (d + 1) k_L_pour [.ref 0, .int a1, .int a2, .ref 147] (t, 149, mz T) = some (.inl (some (.int (Int32.ofInt 3))), (t2, 149, mz T2)) := by
  apply mv_cl_of
  simp only [mv_il, Value.category, Nat.zero_add, Nat.reduceAdd]
  simp (disch := omega) only [mv_Ev_row r_L_pour_0, mv_Ev_row r_L_pour_1, mv_Ev_row r_L_pour_2, mv_Ev_row r_L_pour_3, mv_Ev_row r_L_pour_4, mv_Ev_row r_L_pour_5, mv_Ev_row r_L_pour_8, mv_Ev_row r_L_pour_9, mv_Ev_row r_L_pour_10, mv_Ev_row r_L_pour_13, mv_Ev_row r_L_pour_15, mv_Ev_row r_L_pour_16, mv_Ev_row r_L_pour_17, mv_Ev_row r_L_pour_19, mv_Ev_row r_L_pour_20, mv_Ev_row r_L_pour_21, mv_Ev_row r_L_pour_23, mv_Ev_row r_L_pour_24, mv_Ev_row r_L_pour_25, mv_Ev_row r_L_pour_26, ea_aload_n, ea_iconst, ea_iload_n, kv_X10_pour, i2l_z, ea_goto, ea_astore, ea_ireturn, ez_ret, ez_retc, mv_ac, decide_eq_true_eq, not_true_eq_false, and_self, and_true, true_and, ea_2n, ea_2f, ea_2c, ea_if, if_pos, if_neg, mv_lk, mv_f1, mv_f2, Value.category, List.filter, ↓reduceIte, Nat.reduceEqDiff, Nat.reduceAdd, Nat.reduceLT, Nat.reduceBEq, Nat.zero_add, Nat.add_zero, Nat.zero_ne_one, Nat.one_ne_zero, Bool.not_true, Bool.not_false, Bool.and_true, Bool.true_and, Bool.and_false, Bool.false_and, BEq.rfl, beq_self_eq_true, Bool.false_eq_true, reduceCtorEq, not_false_eq_true, fv0, fv1, fv2, fv3, eb_l0, eb_l1, eb_l2, eb_l3, eb_l4, eb_l5, eb_s0, eb_s1, eb_s2, eb_s3, eb_s4, eb_s5, oz_add, oz_sub, oz_mul, oz_neg, ol_add, ol_sub, sD_eq, sD_sD, sD_ne, sD_in, sD_in2, sD_in3, upR_is, upR_ne, mk_v, mk_n, mk_x, mk_i, mv_cs, Nat.reduceLeDiff, mv_ch_z, hq, nl_L_pour, hd_L_pour_1]
theorem nl_L_advance : mv_nh k_L_advance = false := by decide +kernel
theorem w_L_advance_ok {a1 : Int32} {v : Int} (hv1 : -2147483648 ≤ v) (hv2 : v < 2147483648) (hq : mv_cl L xs d k_X10_advance [.ref 0, .int a1] (t, 149, mz T) = some (.inl (some (.int (Int32.ofInt v))), (t2, 149, mz T2))) : mv_cl L xs (d + 1) k_L_advance [.ref 0, .int a1, .ref 147] (t, 149, mz T) = some (.inl (some (.int (Int32.ofInt 0))), (t2, 149, mz (sD T2 147 (upR (T2.1 147) 0 v)))) := by
  apply mv_cl_of
  simp only [mv_il, Value.category, Nat.zero_add, Nat.reduceAdd]
  simp (disch := omega) only [mv_Ev_row r_L_advance_0, mv_Ev_row r_L_advance_1, mv_Ev_row r_L_advance_2, mv_Ev_row r_L_advance_3, mv_Ev_row r_L_advance_4, mv_Ev_row r_L_advance_7, mv_Ev_row r_L_advance_8, mv_Ev_row r_L_advance_9, mv_Ev_row r_L_advance_12, mv_Ev_row r_L_advance_13, mv_Ev_row r_L_advance_14, mv_Ev_row r_L_advance_15, mv_Ev_row r_L_advance_16, ea_aload_n, ea_iconst, ea_iload_n, kv_X10_advance, i2l_z, ea_goto, ea_astore_n, ea_ireturn, ez_ret, ez_retc, mv_ac, decide_eq_true_eq, not_true_eq_false, and_self, and_true, true_and, ea_2n, ea_2f, ea_2c, ea_if, if_pos, if_neg, mv_lk, mv_f1, mv_f2, Value.category, List.filter, ↓reduceIte, Nat.reduceEqDiff, Nat.reduceAdd, Nat.reduceLT, Nat.reduceBEq, Nat.zero_add, Nat.add_zero, Nat.zero_ne_one, Nat.one_ne_zero, Bool.not_true, Bool.not_false, Bool.and_true, Bool.true_and, Bool.and_false, Bool.false_and, BEq.rfl, beq_self_eq_true, Bool.false_eq_true, reduceCtorEq, not_false_eq_true, fv0, fv1, fv2, fv3, eb_l0, eb_l1, eb_l2, eb_l3, eb_l4, eb_l5, eb_s0, eb_s1, eb_s2, eb_s3, eb_s4, eb_s5, oz_add, oz_sub, oz_mul, oz_neg, ol_add, ol_sub, sD_eq, sD_sD, sD_ne, sD_in, sD_in2, sD_in3, upR_is, upR_ne, mk_v, mk_n, mk_x, mk_i, mv_cs, Nat.reduceLeDiff, mv_ch_z, hq, al_st]
theorem hd_L_advance_0 : mv_hd k_L_advance 4 0 = some (13, 3) := by
  have e : mv_hd1 4 0 (mv_hl k_L_advance mv_hs) = some 12 := by decide +kernel
  unfold mv_hd
  rw [e]
  simp only [r_L_advance_12] <;> rfl
theorem w_L_advance_0 {a1 : Int32} (hq : mv_cl L xs d k_X10_advance [.ref 0, .int a1] (t, 149, mz T) = some (.inr 0, (t2, 149, mz T2))) : mv_cl L xs (d + 1) k_L_advance [.ref 0, .int a1, .ref 147] (t, 149, mz T) = some (.inl (some (.int (Int32.ofInt 1))), (t2, 149, mz T2)) := by
  apply mv_cl_of
  simp only [mv_il, Value.category, Nat.zero_add, Nat.reduceAdd]
  simp (disch := omega) only [mv_Ev_row r_L_advance_0, mv_Ev_row r_L_advance_1, mv_Ev_row r_L_advance_2, mv_Ev_row r_L_advance_3, mv_Ev_row r_L_advance_4, mv_Ev_row r_L_advance_7, mv_Ev_row r_L_advance_8, mv_Ev_row r_L_advance_9, mv_Ev_row r_L_advance_12, mv_Ev_row r_L_advance_13, mv_Ev_row r_L_advance_14, mv_Ev_row r_L_advance_15, mv_Ev_row r_L_advance_16, ea_aload_n, ea_iconst, ea_iload_n, kv_X10_advance, i2l_z, ea_goto, ea_astore_n, ea_ireturn, ez_ret, ez_retc, mv_ac, decide_eq_true_eq, not_true_eq_false, and_self, and_true, true_and, ea_2n, ea_2f, ea_2c, ea_if, if_pos, if_neg, mv_lk, mv_f1, mv_f2, Value.category, List.filter, ↓reduceIte, Nat.reduceEqDiff, Nat.reduceAdd, Nat.reduceLT, Nat.reduceBEq, Nat.zero_add, Nat.add_zero, Nat.zero_ne_one, Nat.one_ne_zero, Bool.not_true, Bool.not_false, Bool.and_true, Bool.true_and, Bool.and_false, Bool.false_and, BEq.rfl, beq_self_eq_true, Bool.false_eq_true, reduceCtorEq, not_false_eq_true, fv0, fv1, fv2, fv3, eb_l0, eb_l1, eb_l2, eb_l3, eb_l4, eb_l5, eb_s0, eb_s1, eb_s2, eb_s3, eb_s4, eb_s5, oz_add, oz_sub, oz_mul, oz_neg, ol_add, ol_sub, sD_eq, sD_sD, sD_ne, sD_in, sD_in2, sD_in3, upR_is, upR_ne, mk_v, mk_n, mk_x, mk_i, mv_cs, Nat.reduceLeDiff, mv_ch_z, hq, nl_L_advance, hd_L_advance_0]
theorem nl_L_capacity : mv_nh k_L_capacity = false := by decide +kernel
theorem w_L_capacity_ok {a1 : Int32} {v : Int} (hv1 : -2147483648 ≤ v) (hv2 : v < 2147483648) (hq : mv_cl L xs d k_X10_capacity [.ref 0, .int a1] (t, 149, mz T) = some (.inl (some (.int (Int32.ofInt v))), (t2, 149, mz T2))) : mv_cl L xs (d + 1) k_L_capacity [.ref 0, .int a1, .ref 147] (t, 149, mz T) = some (.inl (some (.int (Int32.ofInt 0))), (t2, 149, mz (sD T2 147 (upR (T2.1 147) 0 v)))) := by
  apply mv_cl_of
  simp only [mv_il, Value.category, Nat.zero_add, Nat.reduceAdd]
  simp (disch := omega) only [mv_Ev_row r_L_capacity_0, mv_Ev_row r_L_capacity_1, mv_Ev_row r_L_capacity_2, mv_Ev_row r_L_capacity_3, mv_Ev_row r_L_capacity_4, mv_Ev_row r_L_capacity_7, mv_Ev_row r_L_capacity_8, mv_Ev_row r_L_capacity_9, mv_Ev_row r_L_capacity_12, mv_Ev_row r_L_capacity_13, mv_Ev_row r_L_capacity_14, mv_Ev_row r_L_capacity_15, mv_Ev_row r_L_capacity_16, ea_aload_n, ea_iconst, ea_iload_n, kv_X10_capacity, i2l_z, ea_goto, ea_astore_n, ea_ireturn, ez_ret, ez_retc, mv_ac, decide_eq_true_eq, not_true_eq_false, and_self, and_true, true_and, ea_2n, ea_2f, ea_2c, ea_if, if_pos, if_neg, mv_lk, mv_f1, mv_f2, Value.category, List.filter, ↓reduceIte, Nat.reduceEqDiff, Nat.reduceAdd, Nat.reduceLT, Nat.reduceBEq, Nat.zero_add, Nat.add_zero, Nat.zero_ne_one, Nat.one_ne_zero, Bool.not_true, Bool.not_false, Bool.and_true, Bool.true_and, Bool.and_false, Bool.false_and, BEq.rfl, beq_self_eq_true, Bool.false_eq_true, reduceCtorEq, not_false_eq_true, fv0, fv1, fv2, fv3, eb_l0, eb_l1, eb_l2, eb_l3, eb_l4, eb_l5, eb_s0, eb_s1, eb_s2, eb_s3, eb_s4, eb_s5, oz_add, oz_sub, oz_mul, oz_neg, ol_add, ol_sub, sD_eq, sD_sD, sD_ne, sD_in, sD_in2, sD_in3, upR_is, upR_ne, mk_v, mk_n, mk_x, mk_i, mv_cs, Nat.reduceLeDiff, mv_ch_z, hq, al_st]
theorem hd_L_capacity_2 : mv_hd k_L_capacity 4 2 = some (13, 3) := by
  have e : mv_hd1 4 2 (mv_hl k_L_capacity mv_hs) = some 12 := by decide +kernel
  unfold mv_hd
  rw [e]
  simp only [r_L_capacity_12] <;> rfl
theorem w_L_capacity_2 {a1 : Int32} (hq : mv_cl L xs d k_X10_capacity [.ref 0, .int a1] (t, 149, mz T) = some (.inr 2, (t2, 149, mz T2))) : mv_cl L xs (d + 1) k_L_capacity [.ref 0, .int a1, .ref 147] (t, 149, mz T) = some (.inl (some (.int (Int32.ofInt 1))), (t2, 149, mz T2)) := by
  apply mv_cl_of
  simp only [mv_il, Value.category, Nat.zero_add, Nat.reduceAdd]
  simp (disch := omega) only [mv_Ev_row r_L_capacity_0, mv_Ev_row r_L_capacity_1, mv_Ev_row r_L_capacity_2, mv_Ev_row r_L_capacity_3, mv_Ev_row r_L_capacity_4, mv_Ev_row r_L_capacity_7, mv_Ev_row r_L_capacity_8, mv_Ev_row r_L_capacity_9, mv_Ev_row r_L_capacity_12, mv_Ev_row r_L_capacity_13, mv_Ev_row r_L_capacity_14, mv_Ev_row r_L_capacity_15, mv_Ev_row r_L_capacity_16, ea_aload_n, ea_iconst, ea_iload_n, kv_X10_capacity, i2l_z, ea_goto, ea_astore_n, ea_ireturn, ez_ret, ez_retc, mv_ac, decide_eq_true_eq, not_true_eq_false, and_self, and_true, true_and, ea_2n, ea_2f, ea_2c, ea_if, if_pos, if_neg, mv_lk, mv_f1, mv_f2, Value.category, List.filter, ↓reduceIte, Nat.reduceEqDiff, Nat.reduceAdd, Nat.reduceLT, Nat.reduceBEq, Nat.zero_add, Nat.add_zero, Nat.zero_ne_one, Nat.one_ne_zero, Bool.not_true, Bool.not_false, Bool.and_true, Bool.true_and, Bool.and_false, Bool.false_and, BEq.rfl, beq_self_eq_true, Bool.false_eq_true, reduceCtorEq, not_false_eq_true, fv0, fv1, fv2, fv3, eb_l0, eb_l1, eb_l2, eb_l3, eb_l4, eb_l5, eb_s0, eb_s1, eb_s2, eb_s3, eb_s4, eb_s5, oz_add, oz_sub, oz_mul, oz_neg, ol_add, ol_sub, sD_eq, sD_sD, sD_ne, sD_in, sD_in2, sD_in3, upR_is, upR_ne, mk_v, mk_n, mk_x, mk_i, mv_cs, Nat.reduceLeDiff, mv_ch_z, hq, nl_L_capacity, hd_L_capacity_2]
theorem nl_L_level : mv_nh k_L_level = false := by decide +kernel
theorem w_L_level_ok {a1 : Int32} {v : Int} (hv1 : -2147483648 ≤ v) (hv2 : v < 2147483648) (hq : mv_cl L xs d k_X10_level [.ref 0, .int a1] (t, 149, mz T) = some (.inl (some (.int (Int32.ofInt v))), (t2, 149, mz T2))) : mv_cl L xs (d + 1) k_L_level [.ref 0, .int a1, .ref 147] (t, 149, mz T) = some (.inl (some (.int (Int32.ofInt 0))), (t2, 149, mz (sD T2 147 (upR (T2.1 147) 0 v)))) := by
  apply mv_cl_of
  simp only [mv_il, Value.category, Nat.zero_add, Nat.reduceAdd]
  simp (disch := omega) only [mv_Ev_row r_L_level_0, mv_Ev_row r_L_level_1, mv_Ev_row r_L_level_2, mv_Ev_row r_L_level_3, mv_Ev_row r_L_level_4, mv_Ev_row r_L_level_7, mv_Ev_row r_L_level_8, mv_Ev_row r_L_level_9, mv_Ev_row r_L_level_12, mv_Ev_row r_L_level_13, mv_Ev_row r_L_level_14, mv_Ev_row r_L_level_15, mv_Ev_row r_L_level_16, ea_aload_n, ea_iconst, ea_iload_n, kv_X10_level, i2l_z, ea_goto, ea_astore_n, ea_ireturn, ez_ret, ez_retc, mv_ac, decide_eq_true_eq, not_true_eq_false, and_self, and_true, true_and, ea_2n, ea_2f, ea_2c, ea_if, if_pos, if_neg, mv_lk, mv_f1, mv_f2, Value.category, List.filter, ↓reduceIte, Nat.reduceEqDiff, Nat.reduceAdd, Nat.reduceLT, Nat.reduceBEq, Nat.zero_add, Nat.add_zero, Nat.zero_ne_one, Nat.one_ne_zero, Bool.not_true, Bool.not_false, Bool.and_true, Bool.true_and, Bool.and_false, Bool.false_and, BEq.rfl, beq_self_eq_true, Bool.false_eq_true, reduceCtorEq, not_false_eq_true, fv0, fv1, fv2, fv3, eb_l0, eb_l1, eb_l2, eb_l3, eb_l4, eb_l5, eb_s0, eb_s1, eb_s2, eb_s3, eb_s4, eb_s5, oz_add, oz_sub, oz_mul, oz_neg, ol_add, ol_sub, sD_eq, sD_sD, sD_ne, sD_in, sD_in2, sD_in3, upR_is, upR_ne, mk_v, mk_n, mk_x, mk_i, mv_cs, Nat.reduceLeDiff, mv_ch_z, hq, al_st]
theorem hd_L_level_2 : mv_hd k_L_level 4 2 = some (13, 3) := by
  have e : mv_hd1 4 2 (mv_hl k_L_level mv_hs) = some 12 := by decide +kernel
  unfold mv_hd
  rw [e]
  simp only [r_L_level_12] <;> rfl
theorem w_L_level_2 {a1 : Int32} (hq : mv_cl L xs d k_X10_level [.ref 0, .int a1] (t, 149, mz T) = some (.inr 2, (t2, 149, mz T2))) : mv_cl L xs (d + 1) k_L_level [.ref 0, .int a1, .ref 147] (t, 149, mz T) = some (.inl (some (.int (Int32.ofInt 1))), (t2, 149, mz T2)) := by
  apply mv_cl_of
  simp only [mv_il, Value.category, Nat.zero_add, Nat.reduceAdd]
  simp (disch := omega) only [mv_Ev_row r_L_level_0, mv_Ev_row r_L_level_1, mv_Ev_row r_L_level_2, mv_Ev_row r_L_level_3, mv_Ev_row r_L_level_4, mv_Ev_row r_L_level_7, mv_Ev_row r_L_level_8, mv_Ev_row r_L_level_9, mv_Ev_row r_L_level_12, mv_Ev_row r_L_level_13, mv_Ev_row r_L_level_14, mv_Ev_row r_L_level_15, mv_Ev_row r_L_level_16, ea_aload_n, ea_iconst, ea_iload_n, kv_X10_level, i2l_z, ea_goto, ea_astore_n, ea_ireturn, ez_ret, ez_retc, mv_ac, decide_eq_true_eq, not_true_eq_false, and_self, and_true, true_and, ea_2n, ea_2f, ea_2c, ea_if, if_pos, if_neg, mv_lk, mv_f1, mv_f2, Value.category, List.filter, ↓reduceIte, Nat.reduceEqDiff, Nat.reduceAdd, Nat.reduceLT, Nat.reduceBEq, Nat.zero_add, Nat.add_zero, Nat.zero_ne_one, Nat.one_ne_zero, Bool.not_true, Bool.not_false, Bool.and_true, Bool.true_and, Bool.and_false, Bool.false_and, BEq.rfl, beq_self_eq_true, Bool.false_eq_true, reduceCtorEq, not_false_eq_true, fv0, fv1, fv2, fv3, eb_l0, eb_l1, eb_l2, eb_l3, eb_l4, eb_l5, eb_s0, eb_s1, eb_s2, eb_s3, eb_s4, eb_s5, oz_add, oz_sub, oz_mul, oz_neg, ol_add, ol_sub, sD_eq, sD_sD, sD_ne, sD_in, sD_in2, sD_in3, upR_is, upR_ne, mk_v, mk_n, mk_x, mk_i, mv_cs, Nat.reduceLeDiff, mv_ch_z, hq, nl_L_level, hd_L_level_2]
theorem nl_L_catchment : mv_nh k_L_catchment = false := by decide +kernel
theorem w_L_catchment_ok {a1 : Int32} {v : Int} (hv1 : -2147483648 ≤ v) (hv2 : v < 2147483648) (hq : mv_cl L xs d k_X10_catchment [.ref 0, .int a1] (t, 149, mz T) = some (.inl (some (.int (Int32.ofInt v))), (t2, 149, mz T2))) : mv_cl L xs (d + 1) k_L_catchment [.ref 0, .int a1, .ref 147] (t, 149, mz T) = some (.inl (some (.int (Int32.ofInt 0))), (t2, 149, mz (sD T2 147 (upR (T2.1 147) 0 v)))) := by
  apply mv_cl_of
  simp only [mv_il, Value.category, Nat.zero_add, Nat.reduceAdd]
  simp (disch := omega) only [mv_Ev_row r_L_catchment_0, mv_Ev_row r_L_catchment_1, mv_Ev_row r_L_catchment_2, mv_Ev_row r_L_catchment_3, mv_Ev_row r_L_catchment_4, mv_Ev_row r_L_catchment_7, mv_Ev_row r_L_catchment_8, mv_Ev_row r_L_catchment_9, mv_Ev_row r_L_catchment_12, mv_Ev_row r_L_catchment_13, mv_Ev_row r_L_catchment_14, mv_Ev_row r_L_catchment_15, mv_Ev_row r_L_catchment_16, ea_aload_n, ea_iconst, ea_iload_n, kv_X10_catchment, i2l_z, ea_goto, ea_astore_n, ea_ireturn, ez_ret, ez_retc, mv_ac, decide_eq_true_eq, not_true_eq_false, and_self, and_true, true_and, ea_2n, ea_2f, ea_2c, ea_if, if_pos, if_neg, mv_lk, mv_f1, mv_f2, Value.category, List.filter, ↓reduceIte, Nat.reduceEqDiff, Nat.reduceAdd, Nat.reduceLT, Nat.reduceBEq, Nat.zero_add, Nat.add_zero, Nat.zero_ne_one, Nat.one_ne_zero, Bool.not_true, Bool.not_false, Bool.and_true, Bool.true_and, Bool.and_false, Bool.false_and, BEq.rfl, beq_self_eq_true, Bool.false_eq_true, reduceCtorEq, not_false_eq_true, fv0, fv1, fv2, fv3, eb_l0, eb_l1, eb_l2, eb_l3, eb_l4, eb_l5, eb_s0, eb_s1, eb_s2, eb_s3, eb_s4, eb_s5, oz_add, oz_sub, oz_mul, oz_neg, ol_add, ol_sub, sD_eq, sD_sD, sD_ne, sD_in, sD_in2, sD_in3, upR_is, upR_ne, mk_v, mk_n, mk_x, mk_i, mv_cs, Nat.reduceLeDiff, mv_ch_z, hq, al_st]
theorem hd_L_catchment_2 : mv_hd k_L_catchment 4 2 = some (13, 3) := by
  have e : mv_hd1 4 2 (mv_hl k_L_catchment mv_hs) = some 12 := by decide +kernel
  unfold mv_hd
  rw [e]
  simp only [r_L_catchment_12] <;> rfl
theorem w_L_catchment_2 {a1 : Int32} (hq : mv_cl L xs d k_X10_catchment [.ref 0, .int a1] (t, 149, mz T) = some (.inr 2, (t2, 149, mz T2))) : mv_cl L xs (d + 1) k_L_catchment [.ref 0, .int a1, .ref 147] (t, 149, mz T) = some (.inl (some (.int (Int32.ofInt 1))), (t2, 149, mz T2)) := by
  apply mv_cl_of
  simp only [mv_il, Value.category, Nat.zero_add, Nat.reduceAdd]
  simp (disch := omega) only [mv_Ev_row r_L_catchment_0, mv_Ev_row r_L_catchment_1, mv_Ev_row r_L_catchment_2, mv_Ev_row r_L_catchment_3, mv_Ev_row r_L_catchment_4, mv_Ev_row r_L_catchment_7, mv_Ev_row r_L_catchment_8, mv_Ev_row r_L_catchment_9, mv_Ev_row r_L_catchment_12, mv_Ev_row r_L_catchment_13, mv_Ev_row r_L_catchment_14, mv_Ev_row r_L_catchment_15, mv_Ev_row r_L_catchment_16, ea_aload_n, ea_iconst, ea_iload_n, kv_X10_catchment, i2l_z, ea_goto, ea_astore_n, ea_ireturn, ez_ret, ez_retc, mv_ac, decide_eq_true_eq, not_true_eq_false, and_self, and_true, true_and, ea_2n, ea_2f, ea_2c, ea_if, if_pos, if_neg, mv_lk, mv_f1, mv_f2, Value.category, List.filter, ↓reduceIte, Nat.reduceEqDiff, Nat.reduceAdd, Nat.reduceLT, Nat.reduceBEq, Nat.zero_add, Nat.add_zero, Nat.zero_ne_one, Nat.one_ne_zero, Bool.not_true, Bool.not_false, Bool.and_true, Bool.true_and, Bool.and_false, Bool.false_and, BEq.rfl, beq_self_eq_true, Bool.false_eq_true, reduceCtorEq, not_false_eq_true, fv0, fv1, fv2, fv3, eb_l0, eb_l1, eb_l2, eb_l3, eb_l4, eb_l5, eb_s0, eb_s1, eb_s2, eb_s3, eb_s4, eb_s5, oz_add, oz_sub, oz_mul, oz_neg, ol_add, ol_sub, sD_eq, sD_sD, sD_ne, sD_in, sD_in2, sD_in3, upR_is, upR_ne, mk_v, mk_n, mk_x, mk_i, mv_cs, Nat.reduceLeDiff, mv_ch_z, hq, nl_L_catchment, hd_L_catchment_2]
theorem nl_L_fieldValue : mv_nh k_L_fieldValue = false := by decide +kernel
theorem w_L_fieldValue_ok {a1 : Int32} {v : Int} (hv1 : -2147483648 ≤ v) (hv2 : v < 2147483648) (hq : mv_cl L xs d k_X10_fieldValue [.ref 0, .int a1] (t, 149, mz T) = some (.inl (some (.int (Int32.ofInt v))), (t2, 149, mz T2))) : mv_cl L xs (d + 1) k_L_fieldValue [.ref 0, .int a1, .ref 147] (t, 149, mz T) = some (.inl (some (.int (Int32.ofInt 0))), (t2, 149, mz (sD T2 147 (upR (T2.1 147) 0 v)))) := by
  apply mv_cl_of
  simp only [mv_il, Value.category, Nat.zero_add, Nat.reduceAdd]
  simp (disch := omega) only [mv_Ev_row r_L_fieldValue_0, mv_Ev_row r_L_fieldValue_1, mv_Ev_row r_L_fieldValue_2, mv_Ev_row r_L_fieldValue_3, mv_Ev_row r_L_fieldValue_4, mv_Ev_row r_L_fieldValue_7, mv_Ev_row r_L_fieldValue_8, mv_Ev_row r_L_fieldValue_9, mv_Ev_row r_L_fieldValue_12, mv_Ev_row r_L_fieldValue_13, mv_Ev_row r_L_fieldValue_14, mv_Ev_row r_L_fieldValue_15, mv_Ev_row r_L_fieldValue_16, ea_aload_n, ea_iconst, ea_iload_n, kv_X10_fieldValue, i2l_z, ea_goto, ea_astore_n, ea_ireturn, ez_ret, ez_retc, mv_ac, decide_eq_true_eq, not_true_eq_false, and_self, and_true, true_and, ea_2n, ea_2f, ea_2c, ea_if, if_pos, if_neg, mv_lk, mv_f1, mv_f2, Value.category, List.filter, ↓reduceIte, Nat.reduceEqDiff, Nat.reduceAdd, Nat.reduceLT, Nat.reduceBEq, Nat.zero_add, Nat.add_zero, Nat.zero_ne_one, Nat.one_ne_zero, Bool.not_true, Bool.not_false, Bool.and_true, Bool.true_and, Bool.and_false, Bool.false_and, BEq.rfl, beq_self_eq_true, Bool.false_eq_true, reduceCtorEq, not_false_eq_true, fv0, fv1, fv2, fv3, eb_l0, eb_l1, eb_l2, eb_l3, eb_l4, eb_l5, eb_s0, eb_s1, eb_s2, eb_s3, eb_s4, eb_s5, oz_add, oz_sub, oz_mul, oz_neg, ol_add, ol_sub, sD_eq, sD_sD, sD_ne, sD_in, sD_in2, sD_in3, upR_is, upR_ne, mk_v, mk_n, mk_x, mk_i, mv_cs, Nat.reduceLeDiff, mv_ch_z, hq, al_st]
theorem hd_L_fieldValue_2 : mv_hd k_L_fieldValue 4 2 = some (13, 3) := by
  have e : mv_hd1 4 2 (mv_hl k_L_fieldValue mv_hs) = some 12 := by decide +kernel
  unfold mv_hd
  rw [e]
  simp only [r_L_fieldValue_12] <;> rfl
theorem w_L_fieldValue_2 {a1 : Int32} (hq : mv_cl L xs d k_X10_fieldValue [.ref 0, .int a1] (t, 149, mz T) = some (.inr 2, (t2, 149, mz T2))) : mv_cl L xs (d + 1) k_L_fieldValue [.ref 0, .int a1, .ref 147] (t, 149, mz T) = some (.inl (some (.int (Int32.ofInt 1))), (t2, 149, mz T2)) := by
  apply mv_cl_of
  simp only [mv_il, Value.category, Nat.zero_add, Nat.reduceAdd]
  simp (disch := omega) only [mv_Ev_row r_L_fieldValue_0, mv_Ev_row r_L_fieldValue_1, mv_Ev_row r_L_fieldValue_2, mv_Ev_row r_L_fieldValue_3, mv_Ev_row r_L_fieldValue_4, mv_Ev_row r_L_fieldValue_7, mv_Ev_row r_L_fieldValue_8, mv_Ev_row r_L_fieldValue_9, mv_Ev_row r_L_fieldValue_12, mv_Ev_row r_L_fieldValue_13, mv_Ev_row r_L_fieldValue_14, mv_Ev_row r_L_fieldValue_15, mv_Ev_row r_L_fieldValue_16, ea_aload_n, ea_iconst, ea_iload_n, kv_X10_fieldValue, i2l_z, ea_goto, ea_astore_n, ea_ireturn, ez_ret, ez_retc, mv_ac, decide_eq_true_eq, not_true_eq_false, and_self, and_true, true_and, ea_2n, ea_2f, ea_2c, ea_if, if_pos, if_neg, mv_lk, mv_f1, mv_f2, Value.category, List.filter, ↓reduceIte, Nat.reduceEqDiff, Nat.reduceAdd, Nat.reduceLT, Nat.reduceBEq, Nat.zero_add, Nat.add_zero, Nat.zero_ne_one, Nat.one_ne_zero, Bool.not_true, Bool.not_false, Bool.and_true, Bool.true_and, Bool.and_false, Bool.false_and, BEq.rfl, beq_self_eq_true, Bool.false_eq_true, reduceCtorEq, not_false_eq_true, fv0, fv1, fv2, fv3, eb_l0, eb_l1, eb_l2, eb_l3, eb_l4, eb_l5, eb_s0, eb_s1, eb_s2, eb_s3, eb_s4, eb_s5, oz_add, oz_sub, oz_mul, oz_neg, ol_add, ol_sub, sD_eq, sD_sD, sD_ne, sD_in, sD_in2, sD_in3, upR_is, upR_ne, mk_v, mk_n, mk_x, mk_i, mv_cs, Nat.reduceLeDiff, mv_ch_z, hq, nl_L_fieldValue, hd_L_fieldValue_2]
theorem nl_L_opening : mv_nh k_L_opening = false := by decide +kernel
theorem w_L_opening_ok {a1 : Int32} {v : Int} (hv1 : -2147483648 ≤ v) (hv2 : v < 2147483648) (hq : mv_cl L xs d k_X10_opening [.ref 0, .int a1] (t, 149, mz T) = some (.inl (some (.int (Int32.ofInt v))), (t2, 149, mz T2))) : mv_cl L xs (d + 1) k_L_opening [.ref 0, .int a1, .ref 147] (t, 149, mz T) = some (.inl (some (.int (Int32.ofInt 0))), (t2, 149, mz (sD T2 147 (upR (T2.1 147) 0 v)))) := by
  apply mv_cl_of
  simp only [mv_il, Value.category, Nat.zero_add, Nat.reduceAdd]
  simp (disch := omega) only [mv_Ev_row r_L_opening_0, mv_Ev_row r_L_opening_1, mv_Ev_row r_L_opening_2, mv_Ev_row r_L_opening_3, mv_Ev_row r_L_opening_4, mv_Ev_row r_L_opening_7, mv_Ev_row r_L_opening_8, mv_Ev_row r_L_opening_9, mv_Ev_row r_L_opening_12, mv_Ev_row r_L_opening_13, mv_Ev_row r_L_opening_14, mv_Ev_row r_L_opening_15, mv_Ev_row r_L_opening_16, ea_aload_n, ea_iconst, ea_iload_n, kv_X10_opening, i2l_z, ea_goto, ea_astore_n, ea_ireturn, ez_ret, ez_retc, mv_ac, decide_eq_true_eq, not_true_eq_false, and_self, and_true, true_and, ea_2n, ea_2f, ea_2c, ea_if, if_pos, if_neg, mv_lk, mv_f1, mv_f2, Value.category, List.filter, ↓reduceIte, Nat.reduceEqDiff, Nat.reduceAdd, Nat.reduceLT, Nat.reduceBEq, Nat.zero_add, Nat.add_zero, Nat.zero_ne_one, Nat.one_ne_zero, Bool.not_true, Bool.not_false, Bool.and_true, Bool.true_and, Bool.and_false, Bool.false_and, BEq.rfl, beq_self_eq_true, Bool.false_eq_true, reduceCtorEq, not_false_eq_true, fv0, fv1, fv2, fv3, eb_l0, eb_l1, eb_l2, eb_l3, eb_l4, eb_l5, eb_s0, eb_s1, eb_s2, eb_s3, eb_s4, eb_s5, oz_add, oz_sub, oz_mul, oz_neg, ol_add, ol_sub, sD_eq, sD_sD, sD_ne, sD_in, sD_in2, sD_in3, upR_is, upR_ne, mk_v, mk_n, mk_x, mk_i, mv_cs, Nat.reduceLeDiff, mv_ch_z, hq, al_st]
theorem hd_L_opening_2 : mv_hd k_L_opening 4 2 = some (13, 3) := by
  have e : mv_hd1 4 2 (mv_hl k_L_opening mv_hs) = some 12 := by decide +kernel
  unfold mv_hd
  rw [e]
  simp only [r_L_opening_12] <;> rfl
theorem w_L_opening_2 {a1 : Int32} (hq : mv_cl L xs d k_X10_opening [.ref 0, .int a1] (t, 149, mz T) = some (.inr 2, (t2, 149, mz T2))) : mv_cl L xs (d + 1) k_L_opening [.ref 0, .int a1, .ref 147] (t, 149, mz T) = some (.inl (some (.int (Int32.ofInt 1))), (t2, 149, mz T2)) := by
  apply mv_cl_of
  simp only [mv_il, Value.category, Nat.zero_add, Nat.reduceAdd]
  simp (disch := omega) only [mv_Ev_row r_L_opening_0, mv_Ev_row r_L_opening_1, mv_Ev_row r_L_opening_2, mv_Ev_row r_L_opening_3, mv_Ev_row r_L_opening_4, mv_Ev_row r_L_opening_7, mv_Ev_row r_L_opening_8, mv_Ev_row r_L_opening_9, mv_Ev_row r_L_opening_12, mv_Ev_row r_L_opening_13, mv_Ev_row r_L_opening_14, mv_Ev_row r_L_opening_15, mv_Ev_row r_L_opening_16, ea_aload_n, ea_iconst, ea_iload_n, kv_X10_opening, i2l_z, ea_goto, ea_astore_n, ea_ireturn, ez_ret, ez_retc, mv_ac, decide_eq_true_eq, not_true_eq_false, and_self, and_true, true_and, ea_2n, ea_2f, ea_2c, ea_if, if_pos, if_neg, mv_lk, mv_f1, mv_f2, Value.category, List.filter, ↓reduceIte, Nat.reduceEqDiff, Nat.reduceAdd, Nat.reduceLT, Nat.reduceBEq, Nat.zero_add, Nat.add_zero, Nat.zero_ne_one, Nat.one_ne_zero, Bool.not_true, Bool.not_false, Bool.and_true, Bool.true_and, Bool.and_false, Bool.false_and, BEq.rfl, beq_self_eq_true, Bool.false_eq_true, reduceCtorEq, not_false_eq_true, fv0, fv1, fv2, fv3, eb_l0, eb_l1, eb_l2, eb_l3, eb_l4, eb_l5, eb_s0, eb_s1, eb_s2, eb_s3, eb_s4, eb_s5, oz_add, oz_sub, oz_mul, oz_neg, ol_add, ol_sub, sD_eq, sD_sD, sD_ne, sD_in, sD_in2, sD_in3, upR_is, upR_ne, mk_v, mk_n, mk_x, mk_i, mv_cs, Nat.reduceLeDiff, mv_ch_z, hq, nl_L_opening, hd_L_opening_2]
theorem nl_L_isAutomatic : mv_nh k_L_isAutomatic = false := by decide +kernel
theorem hd_L_isAutomatic_2 : mv_hd k_L_isAutomatic 4 2 = some (20, 3) := by
  have e : mv_hd1 4 2 (mv_hl k_L_isAutomatic mv_hs) = some 19 := by decide +kernel
  unfold mv_hd
  rw [e]
  simp only [r_L_isAutomatic_19] <;> rfl
theorem w_L_isAutomatic_2 {a1 : Int32} (hq : mv_cl L xs d k_X10_isAutomatic [.ref 0, .int a1] (t, 149, mz T) = some (.inr 2, (t2, 149, mz T2))) : mv_cl L xs (d + 1) k_L_isAutomatic [.ref 0, .int a1, .ref 147] (t, 149, mz T) = some (.inl (some (.int (Int32.ofInt 1))), (t2, 149, mz T2)) := by
  apply mv_cl_of
  simp only [mv_il, Value.category, Nat.zero_add, Nat.reduceAdd]
  simp (disch := omega) only [mv_Ev_row r_L_isAutomatic_0, mv_Ev_row r_L_isAutomatic_1, mv_Ev_row r_L_isAutomatic_2, mv_Ev_row r_L_isAutomatic_3, mv_Ev_row r_L_isAutomatic_4, mv_Ev_row r_L_isAutomatic_7, mv_Ev_row r_L_isAutomatic_10, mv_Ev_row r_L_isAutomatic_11, mv_Ev_row r_L_isAutomatic_14, mv_Ev_row r_L_isAutomatic_15, mv_Ev_row r_L_isAutomatic_16, mv_Ev_row r_L_isAutomatic_19, mv_Ev_row r_L_isAutomatic_20, mv_Ev_row r_L_isAutomatic_21, mv_Ev_row r_L_isAutomatic_22, mv_Ev_row r_L_isAutomatic_23, ea_aload_n, ea_iconst, ea_iload_n, kv_X10_isAutomatic, ea_ifc, ea_lconst, ea_goto, ea_astore_n, ea_ireturn, ez_ret, ez_retc, c0_eq, c0_ne, c0_lt, c0_ge, c0_gt, c0_le, mv_ac, decide_eq_true_eq, not_true_eq_false, and_self, and_true, true_and, ea_2n, ea_2f, ea_2c, ea_if, if_pos, if_neg, mv_lk, mv_f1, mv_f2, Value.category, List.filter, ↓reduceIte, Nat.reduceEqDiff, Nat.reduceAdd, Nat.reduceLT, Nat.reduceBEq, Nat.zero_add, Nat.add_zero, Nat.zero_ne_one, Nat.one_ne_zero, Bool.not_true, Bool.not_false, Bool.and_true, Bool.true_and, Bool.and_false, Bool.false_and, BEq.rfl, beq_self_eq_true, Bool.false_eq_true, reduceCtorEq, not_false_eq_true, fv0, fv1, fv2, fv3, eb_l0, eb_l1, eb_l2, eb_l3, eb_l4, eb_l5, eb_s0, eb_s1, eb_s2, eb_s3, eb_s4, eb_s5, oz_add, oz_sub, oz_mul, oz_neg, ol_add, ol_sub, sD_eq, sD_sD, sD_ne, sD_in, sD_in2, sD_in3, upR_is, upR_ne, mk_v, mk_n, mk_x, mk_i, mv_cs, Nat.reduceLeDiff, mv_ch_z, hq, nl_L_isAutomatic, hd_L_isAutomatic_2]
theorem nl_L_threshold : mv_nh k_L_threshold = false := by decide +kernel
theorem w_L_threshold_ok {a1 : Int32} {v : Int} (hv1 : -2147483648 ≤ v) (hv2 : v < 2147483648) (hq : mv_cl L xs d k_X10_threshold [.ref 0, .int a1] (t, 149, mz T) = some (.inl (some (.int (Int32.ofInt v))), (t2, 149, mz T2))) : mv_cl L xs (d + 1) k_L_threshold [.ref 0, .int a1, .ref 147] (t, 149, mz T) = some (.inl (some (.int (Int32.ofInt 0))), (t2, 149, mz (sD T2 147 (upR (T2.1 147) 0 v)))) := by
  apply mv_cl_of
  simp only [mv_il, Value.category, Nat.zero_add, Nat.reduceAdd]
  simp (disch := omega) only [mv_Ev_row r_L_threshold_0, mv_Ev_row r_L_threshold_1, mv_Ev_row r_L_threshold_2, mv_Ev_row r_L_threshold_3, mv_Ev_row r_L_threshold_4, mv_Ev_row r_L_threshold_7, mv_Ev_row r_L_threshold_8, mv_Ev_row r_L_threshold_9, mv_Ev_row r_L_threshold_12, mv_Ev_row r_L_threshold_13, mv_Ev_row r_L_threshold_14, mv_Ev_row r_L_threshold_15, mv_Ev_row r_L_threshold_16, mv_Ev_row r_L_threshold_17, mv_Ev_row r_L_threshold_18, mv_Ev_row r_L_threshold_19, ea_aload_n, ea_iconst, ea_iload_n, kv_X10_threshold, i2l_z, ea_goto, ea_astore_n, ea_ireturn, ez_ret, ez_retc, mv_ac, decide_eq_true_eq, not_true_eq_false, and_self, and_true, true_and, ea_2n, ea_2f, ea_2c, ea_if, if_pos, if_neg, mv_lk, mv_f1, mv_f2, Value.category, List.filter, ↓reduceIte, Nat.reduceEqDiff, Nat.reduceAdd, Nat.reduceLT, Nat.reduceBEq, Nat.zero_add, Nat.add_zero, Nat.zero_ne_one, Nat.one_ne_zero, Bool.not_true, Bool.not_false, Bool.and_true, Bool.true_and, Bool.and_false, Bool.false_and, BEq.rfl, beq_self_eq_true, Bool.false_eq_true, reduceCtorEq, not_false_eq_true, fv0, fv1, fv2, fv3, eb_l0, eb_l1, eb_l2, eb_l3, eb_l4, eb_l5, eb_s0, eb_s1, eb_s2, eb_s3, eb_s4, eb_s5, oz_add, oz_sub, oz_mul, oz_neg, ol_add, ol_sub, sD_eq, sD_sD, sD_ne, sD_in, sD_in2, sD_in3, upR_is, upR_ne, mk_v, mk_n, mk_x, mk_i, mv_cs, Nat.reduceLeDiff, mv_ch_z, hq, al_st]
theorem hd_L_threshold_2 : mv_hd k_L_threshold 4 2 = some (13, 3) := by
  have e : mv_hd1 4 2 (mv_hl k_L_threshold mv_hs) = some 12 := by decide +kernel
  unfold mv_hd
  rw [e]
  simp only [r_L_threshold_12] <;> rfl
theorem w_L_threshold_2 {a1 : Int32} (hq : mv_cl L xs d k_X10_threshold [.ref 0, .int a1] (t, 149, mz T) = some (.inr 2, (t2, 149, mz T2))) : mv_cl L xs (d + 1) k_L_threshold [.ref 0, .int a1, .ref 147] (t, 149, mz T) = some (.inl (some (.int (Int32.ofInt 1))), (t2, 149, mz T2)) := by
  apply mv_cl_of
  simp only [mv_il, Value.category, Nat.zero_add, Nat.reduceAdd]
  simp (disch := omega) only [mv_Ev_row r_L_threshold_0, mv_Ev_row r_L_threshold_1, mv_Ev_row r_L_threshold_2, mv_Ev_row r_L_threshold_3, mv_Ev_row r_L_threshold_4, mv_Ev_row r_L_threshold_7, mv_Ev_row r_L_threshold_8, mv_Ev_row r_L_threshold_9, mv_Ev_row r_L_threshold_12, mv_Ev_row r_L_threshold_13, mv_Ev_row r_L_threshold_14, mv_Ev_row r_L_threshold_15, mv_Ev_row r_L_threshold_16, mv_Ev_row r_L_threshold_17, mv_Ev_row r_L_threshold_18, mv_Ev_row r_L_threshold_19, ea_aload_n, ea_iconst, ea_iload_n, kv_X10_threshold, i2l_z, ea_goto, ea_astore_n, ea_ireturn, ez_ret, ez_retc, mv_ac, decide_eq_true_eq, not_true_eq_false, and_self, and_true, true_and, ea_2n, ea_2f, ea_2c, ea_if, if_pos, if_neg, mv_lk, mv_f1, mv_f2, Value.category, List.filter, ↓reduceIte, Nat.reduceEqDiff, Nat.reduceAdd, Nat.reduceLT, Nat.reduceBEq, Nat.zero_add, Nat.add_zero, Nat.zero_ne_one, Nat.one_ne_zero, Bool.not_true, Bool.not_false, Bool.and_true, Bool.true_and, Bool.and_false, Bool.false_and, BEq.rfl, beq_self_eq_true, Bool.false_eq_true, reduceCtorEq, not_false_eq_true, fv0, fv1, fv2, fv3, eb_l0, eb_l1, eb_l2, eb_l3, eb_l4, eb_l5, eb_s0, eb_s1, eb_s2, eb_s3, eb_s4, eb_s5, oz_add, oz_sub, oz_mul, oz_neg, ol_add, ol_sub, sD_eq, sD_sD, sD_ne, sD_in, sD_in2, sD_in3, upR_is, upR_ne, mk_v, mk_n, mk_x, mk_i, mv_cs, Nat.reduceLeDiff, mv_ch_z, hq, nl_L_threshold, hd_L_threshold_2]
theorem hd_L_threshold_5 : mv_hd k_L_threshold 4 5 = some (16, 3) := by
  have e : mv_hd1 4 5 (mv_hl k_L_threshold mv_hs) = some 15 := by decide +kernel
  unfold mv_hd
  rw [e]
  simp only [r_L_threshold_15] <;> rfl
theorem w_L_threshold_5 {a1 : Int32} (hq : mv_cl L xs d k_X10_threshold [.ref 0, .int a1] (t, 149, mz T) = some (.inr 5, (t2, 149, mz T2))) : mv_cl L xs (d + 1) k_L_threshold [.ref 0, .int a1, .ref 147] (t, 149, mz T) = some (.inl (some (.int (Int32.ofInt 2))), (t2, 149, mz T2)) := by
  apply mv_cl_of
  simp only [mv_il, Value.category, Nat.zero_add, Nat.reduceAdd]
  simp (disch := omega) only [mv_Ev_row r_L_threshold_0, mv_Ev_row r_L_threshold_1, mv_Ev_row r_L_threshold_2, mv_Ev_row r_L_threshold_3, mv_Ev_row r_L_threshold_4, mv_Ev_row r_L_threshold_7, mv_Ev_row r_L_threshold_8, mv_Ev_row r_L_threshold_9, mv_Ev_row r_L_threshold_12, mv_Ev_row r_L_threshold_13, mv_Ev_row r_L_threshold_14, mv_Ev_row r_L_threshold_15, mv_Ev_row r_L_threshold_16, mv_Ev_row r_L_threshold_17, mv_Ev_row r_L_threshold_18, mv_Ev_row r_L_threshold_19, ea_aload_n, ea_iconst, ea_iload_n, kv_X10_threshold, i2l_z, ea_goto, ea_astore_n, ea_ireturn, ez_ret, ez_retc, mv_ac, decide_eq_true_eq, not_true_eq_false, and_self, and_true, true_and, ea_2n, ea_2f, ea_2c, ea_if, if_pos, if_neg, mv_lk, mv_f1, mv_f2, Value.category, List.filter, ↓reduceIte, Nat.reduceEqDiff, Nat.reduceAdd, Nat.reduceLT, Nat.reduceBEq, Nat.zero_add, Nat.add_zero, Nat.zero_ne_one, Nat.one_ne_zero, Bool.not_true, Bool.not_false, Bool.and_true, Bool.true_and, Bool.and_false, Bool.false_and, BEq.rfl, beq_self_eq_true, Bool.false_eq_true, reduceCtorEq, not_false_eq_true, fv0, fv1, fv2, fv3, eb_l0, eb_l1, eb_l2, eb_l3, eb_l4, eb_l5, eb_s0, eb_s1, eb_s2, eb_s3, eb_s4, eb_s5, oz_add, oz_sub, oz_mul, oz_neg, ol_add, ol_sub, sD_eq, sD_sD, sD_ne, sD_in, sD_in2, sD_in3, upR_is, upR_ne, mk_v, mk_n, mk_x, mk_i, mv_cs, Nat.reduceLeDiff, mv_ch_z, hq, nl_L_threshold, hd_L_threshold_5]
theorem nl_L_spilled : mv_nh k_L_spilled = false := by decide +kernel
theorem w_L_spilled_ok {a1 : Int32} {v : Int} (hv1 : -2147483648 ≤ v) (hv2 : v < 2147483648) (hq : mv_cl L xs d k_X10_spilled [.ref 0, .int a1] (t, 149, mz T) = some (.inl (some (.int (Int32.ofInt v))), (t2, 149, mz T2))) : mv_cl L xs (d + 1) k_L_spilled [.ref 0, .int a1, .ref 147] (t, 149, mz T) = some (.inl (some (.int (Int32.ofInt 0))), (t2, 149, mz (sD T2 147 (upR (T2.1 147) 0 v)))) := by
  apply mv_cl_of
  simp only [mv_il, Value.category, Nat.zero_add, Nat.reduceAdd]
  simp (disch := omega) only [mv_Ev_row r_L_spilled_0, mv_Ev_row r_L_spilled_1, mv_Ev_row r_L_spilled_2, mv_Ev_row r_L_spilled_3, mv_Ev_row r_L_spilled_4, mv_Ev_row r_L_spilled_7, mv_Ev_row r_L_spilled_8, mv_Ev_row r_L_spilled_9, mv_Ev_row r_L_spilled_12, mv_Ev_row r_L_spilled_13, mv_Ev_row r_L_spilled_14, mv_Ev_row r_L_spilled_15, mv_Ev_row r_L_spilled_16, ea_aload_n, ea_iconst, ea_iload_n, kv_X10_spilled, i2l_z, ea_goto, ea_astore_n, ea_ireturn, ez_ret, ez_retc, mv_ac, decide_eq_true_eq, not_true_eq_false, and_self, and_true, true_and, ea_2n, ea_2f, ea_2c, ea_if, if_pos, if_neg, mv_lk, mv_f1, mv_f2, Value.category, List.filter, ↓reduceIte, Nat.reduceEqDiff, Nat.reduceAdd, Nat.reduceLT, Nat.reduceBEq, Nat.zero_add, Nat.add_zero, Nat.zero_ne_one, Nat.one_ne_zero, Bool.not_true, Bool.not_false, Bool.and_true, Bool.true_and, Bool.and_false, Bool.false_and, BEq.rfl, beq_self_eq_true, Bool.false_eq_true, reduceCtorEq, not_false_eq_true, fv0, fv1, fv2, fv3, eb_l0, eb_l1, eb_l2, eb_l3, eb_l4, eb_l5, eb_s0, eb_s1, eb_s2, eb_s3, eb_s4, eb_s5, oz_add, oz_sub, oz_mul, oz_neg, ol_add, ol_sub, sD_eq, sD_sD, sD_ne, sD_in, sD_in2, sD_in3, upR_is, upR_ne, mk_v, mk_n, mk_x, mk_i, mv_cs, Nat.reduceLeDiff, mv_ch_z, hq, al_st]
theorem hd_L_spilled_2 : mv_hd k_L_spilled 4 2 = some (13, 3) := by
  have e : mv_hd1 4 2 (mv_hl k_L_spilled mv_hs) = some 12 := by decide +kernel
  unfold mv_hd
  rw [e]
  simp only [r_L_spilled_12] <;> rfl
theorem w_L_spilled_2 {a1 : Int32} (hq : mv_cl L xs d k_X10_spilled [.ref 0, .int a1] (t, 149, mz T) = some (.inr 2, (t2, 149, mz T2))) : mv_cl L xs (d + 1) k_L_spilled [.ref 0, .int a1, .ref 147] (t, 149, mz T) = some (.inl (some (.int (Int32.ofInt 1))), (t2, 149, mz T2)) := by
  apply mv_cl_of
  simp only [mv_il, Value.category, Nat.zero_add, Nat.reduceAdd]
  simp (disch := omega) only [mv_Ev_row r_L_spilled_0, mv_Ev_row r_L_spilled_1, mv_Ev_row r_L_spilled_2, mv_Ev_row r_L_spilled_3, mv_Ev_row r_L_spilled_4, mv_Ev_row r_L_spilled_7, mv_Ev_row r_L_spilled_8, mv_Ev_row r_L_spilled_9, mv_Ev_row r_L_spilled_12, mv_Ev_row r_L_spilled_13, mv_Ev_row r_L_spilled_14, mv_Ev_row r_L_spilled_15, mv_Ev_row r_L_spilled_16, ea_aload_n, ea_iconst, ea_iload_n, kv_X10_spilled, i2l_z, ea_goto, ea_astore_n, ea_ireturn, ez_ret, ez_retc, mv_ac, decide_eq_true_eq, not_true_eq_false, and_self, and_true, true_and, ea_2n, ea_2f, ea_2c, ea_if, if_pos, if_neg, mv_lk, mv_f1, mv_f2, Value.category, List.filter, ↓reduceIte, Nat.reduceEqDiff, Nat.reduceAdd, Nat.reduceLT, Nat.reduceBEq, Nat.zero_add, Nat.add_zero, Nat.zero_ne_one, Nat.one_ne_zero, Bool.not_true, Bool.not_false, Bool.and_true, Bool.true_and, Bool.and_false, Bool.false_and, BEq.rfl, beq_self_eq_true, Bool.false_eq_true, reduceCtorEq, not_false_eq_true, fv0, fv1, fv2, fv3, eb_l0, eb_l1, eb_l2, eb_l3, eb_l4, eb_l5, eb_s0, eb_s1, eb_s2, eb_s3, eb_s4, eb_s5, oz_add, oz_sub, oz_mul, oz_neg, ol_add, ol_sub, sD_eq, sD_sD, sD_ne, sD_in, sD_in2, sD_in3, upR_is, upR_ne, mk_v, mk_n, mk_x, mk_i, mv_cs, Nat.reduceLeDiff, mv_ch_z, hq, nl_L_spilled, hd_L_spilled_2]
theorem nl_L_floodedSteps : mv_nh k_L_floodedSteps = false := by decide +kernel
theorem w_L_floodedSteps_ok {a1 : Int32} {v : Int} (hv1 : -2147483648 ≤ v) (hv2 : v < 2147483648) (hq : mv_cl L xs d k_X10_floodedSteps [.ref 0, .int a1] (t, 149, mz T) = some (.inl (some (.int (Int32.ofInt v))), (t2, 149, mz T2))) : mv_cl L xs (d + 1) k_L_floodedSteps [.ref 0, .int a1, .ref 147] (t, 149, mz T) = some (.inl (some (.int (Int32.ofInt 0))), (t2, 149, mz (sD T2 147 (upR (T2.1 147) 0 v)))) := by
  apply mv_cl_of
  simp only [mv_il, Value.category, Nat.zero_add, Nat.reduceAdd]
  simp (disch := omega) only [mv_Ev_row r_L_floodedSteps_0, mv_Ev_row r_L_floodedSteps_1, mv_Ev_row r_L_floodedSteps_2, mv_Ev_row r_L_floodedSteps_3, mv_Ev_row r_L_floodedSteps_4, mv_Ev_row r_L_floodedSteps_7, mv_Ev_row r_L_floodedSteps_8, mv_Ev_row r_L_floodedSteps_9, mv_Ev_row r_L_floodedSteps_12, mv_Ev_row r_L_floodedSteps_13, mv_Ev_row r_L_floodedSteps_14, mv_Ev_row r_L_floodedSteps_15, mv_Ev_row r_L_floodedSteps_16, ea_aload_n, ea_iconst, ea_iload_n, kv_X10_floodedSteps, i2l_z, ea_goto, ea_astore_n, ea_ireturn, ez_ret, ez_retc, mv_ac, decide_eq_true_eq, not_true_eq_false, and_self, and_true, true_and, ea_2n, ea_2f, ea_2c, ea_if, if_pos, if_neg, mv_lk, mv_f1, mv_f2, Value.category, List.filter, ↓reduceIte, Nat.reduceEqDiff, Nat.reduceAdd, Nat.reduceLT, Nat.reduceBEq, Nat.zero_add, Nat.add_zero, Nat.zero_ne_one, Nat.one_ne_zero, Bool.not_true, Bool.not_false, Bool.and_true, Bool.true_and, Bool.and_false, Bool.false_and, BEq.rfl, beq_self_eq_true, Bool.false_eq_true, reduceCtorEq, not_false_eq_true, fv0, fv1, fv2, fv3, eb_l0, eb_l1, eb_l2, eb_l3, eb_l4, eb_l5, eb_s0, eb_s1, eb_s2, eb_s3, eb_s4, eb_s5, oz_add, oz_sub, oz_mul, oz_neg, ol_add, ol_sub, sD_eq, sD_sD, sD_ne, sD_in, sD_in2, sD_in3, upR_is, upR_ne, mk_v, mk_n, mk_x, mk_i, mv_cs, Nat.reduceLeDiff, mv_ch_z, hq, al_st]
theorem hd_L_floodedSteps_2 : mv_hd k_L_floodedSteps 4 2 = some (13, 3) := by
  have e : mv_hd1 4 2 (mv_hl k_L_floodedSteps mv_hs) = some 12 := by decide +kernel
  unfold mv_hd
  rw [e]
  simp only [r_L_floodedSteps_12] <;> rfl
theorem w_L_floodedSteps_2 {a1 : Int32} (hq : mv_cl L xs d k_X10_floodedSteps [.ref 0, .int a1] (t, 149, mz T) = some (.inr 2, (t2, 149, mz T2))) : mv_cl L xs (d + 1) k_L_floodedSteps [.ref 0, .int a1, .ref 147] (t, 149, mz T) = some (.inl (some (.int (Int32.ofInt 1))), (t2, 149, mz T2)) := by
  apply mv_cl_of
  simp only [mv_il, Value.category, Nat.zero_add, Nat.reduceAdd]
  simp (disch := omega) only [mv_Ev_row r_L_floodedSteps_0, mv_Ev_row r_L_floodedSteps_1, mv_Ev_row r_L_floodedSteps_2, mv_Ev_row r_L_floodedSteps_3, mv_Ev_row r_L_floodedSteps_4, mv_Ev_row r_L_floodedSteps_7, mv_Ev_row r_L_floodedSteps_8, mv_Ev_row r_L_floodedSteps_9, mv_Ev_row r_L_floodedSteps_12, mv_Ev_row r_L_floodedSteps_13, mv_Ev_row r_L_floodedSteps_14, mv_Ev_row r_L_floodedSteps_15, mv_Ev_row r_L_floodedSteps_16, ea_aload_n, ea_iconst, ea_iload_n, kv_X10_floodedSteps, i2l_z, ea_goto, ea_astore_n, ea_ireturn, ez_ret, ez_retc, mv_ac, decide_eq_true_eq, not_true_eq_false, and_self, and_true, true_and, ea_2n, ea_2f, ea_2c, ea_if, if_pos, if_neg, mv_lk, mv_f1, mv_f2, Value.category, List.filter, ↓reduceIte, Nat.reduceEqDiff, Nat.reduceAdd, Nat.reduceLT, Nat.reduceBEq, Nat.zero_add, Nat.add_zero, Nat.zero_ne_one, Nat.one_ne_zero, Bool.not_true, Bool.not_false, Bool.and_true, Bool.true_and, Bool.and_false, Bool.false_and, BEq.rfl, beq_self_eq_true, Bool.false_eq_true, reduceCtorEq, not_false_eq_true, fv0, fv1, fv2, fv3, eb_l0, eb_l1, eb_l2, eb_l3, eb_l4, eb_l5, eb_s0, eb_s1, eb_s2, eb_s3, eb_s4, eb_s5, oz_add, oz_sub, oz_mul, oz_neg, ol_add, ol_sub, sD_eq, sD_sD, sD_ne, sD_in, sD_in2, sD_in3, upR_is, upR_ne, mk_v, mk_n, mk_x, mk_i, mv_cs, Nat.reduceLeDiff, mv_ch_z, hq, nl_L_floodedSteps, hd_L_floodedSteps_2]
theorem nl_L_basinAtRank : mv_nh k_L_basinAtRank = false := by decide +kernel
theorem w_L_basinAtRank_ok {a1 : Int32} {v : Int} (hv1 : -2147483648 ≤ v) (hv2 : v < 2147483648) (hq : mv_cl L xs d k_X10_basinAtRank [.ref 0, .int a1] (t, 149, mz T) = some (.inl (some (.int (Int32.ofInt v))), (t2, 149, mz T2))) : mv_cl L xs (d + 1) k_L_basinAtRank [.ref 0, .int a1, .ref 147] (t, 149, mz T) = some (.inl (some (.int (Int32.ofInt 0))), (t2, 149, mz (sD T2 147 (upR (T2.1 147) 0 v)))) := by
  apply mv_cl_of
  simp only [mv_il, Value.category, Nat.zero_add, Nat.reduceAdd]
  simp (disch := omega) only [mv_Ev_row r_L_basinAtRank_0, mv_Ev_row r_L_basinAtRank_1, mv_Ev_row r_L_basinAtRank_2, mv_Ev_row r_L_basinAtRank_3, mv_Ev_row r_L_basinAtRank_4, mv_Ev_row r_L_basinAtRank_7, mv_Ev_row r_L_basinAtRank_8, mv_Ev_row r_L_basinAtRank_9, mv_Ev_row r_L_basinAtRank_12, mv_Ev_row r_L_basinAtRank_13, mv_Ev_row r_L_basinAtRank_14, mv_Ev_row r_L_basinAtRank_15, mv_Ev_row r_L_basinAtRank_16, ea_aload_n, ea_iconst, ea_iload_n, kv_X10_basinAtRank, i2l_z, ea_goto, ea_astore_n, ea_ireturn, ez_ret, ez_retc, mv_ac, decide_eq_true_eq, not_true_eq_false, and_self, and_true, true_and, ea_2n, ea_2f, ea_2c, ea_if, if_pos, if_neg, mv_lk, mv_f1, mv_f2, Value.category, List.filter, ↓reduceIte, Nat.reduceEqDiff, Nat.reduceAdd, Nat.reduceLT, Nat.reduceBEq, Nat.zero_add, Nat.add_zero, Nat.zero_ne_one, Nat.one_ne_zero, Bool.not_true, Bool.not_false, Bool.and_true, Bool.true_and, Bool.and_false, Bool.false_and, BEq.rfl, beq_self_eq_true, Bool.false_eq_true, reduceCtorEq, not_false_eq_true, fv0, fv1, fv2, fv3, eb_l0, eb_l1, eb_l2, eb_l3, eb_l4, eb_l5, eb_s0, eb_s1, eb_s2, eb_s3, eb_s4, eb_s5, oz_add, oz_sub, oz_mul, oz_neg, ol_add, ol_sub, sD_eq, sD_sD, sD_ne, sD_in, sD_in2, sD_in3, upR_is, upR_ne, mk_v, mk_n, mk_x, mk_i, mv_cs, Nat.reduceLeDiff, mv_ch_z, hq, al_st]
theorem hd_L_basinAtRank_5 : mv_hd k_L_basinAtRank 4 5 = some (13, 3) := by
  have e : mv_hd1 4 5 (mv_hl k_L_basinAtRank mv_hs) = some 12 := by decide +kernel
  unfold mv_hd
  rw [e]
  simp only [r_L_basinAtRank_12] <;> rfl
theorem w_L_basinAtRank_5 {a1 : Int32} (hq : mv_cl L xs d k_X10_basinAtRank [.ref 0, .int a1] (t, 149, mz T) = some (.inr 5, (t2, 149, mz T2))) : mv_cl L xs (d + 1) k_L_basinAtRank [.ref 0, .int a1, .ref 147] (t, 149, mz T) = some (.inl (some (.int (Int32.ofInt 1))), (t2, 149, mz T2)) := by
  apply mv_cl_of
  simp only [mv_il, Value.category, Nat.zero_add, Nat.reduceAdd]
  simp (disch := omega) only [mv_Ev_row r_L_basinAtRank_0, mv_Ev_row r_L_basinAtRank_1, mv_Ev_row r_L_basinAtRank_2, mv_Ev_row r_L_basinAtRank_3, mv_Ev_row r_L_basinAtRank_4, mv_Ev_row r_L_basinAtRank_7, mv_Ev_row r_L_basinAtRank_8, mv_Ev_row r_L_basinAtRank_9, mv_Ev_row r_L_basinAtRank_12, mv_Ev_row r_L_basinAtRank_13, mv_Ev_row r_L_basinAtRank_14, mv_Ev_row r_L_basinAtRank_15, mv_Ev_row r_L_basinAtRank_16, ea_aload_n, ea_iconst, ea_iload_n, kv_X10_basinAtRank, i2l_z, ea_goto, ea_astore_n, ea_ireturn, ez_ret, ez_retc, mv_ac, decide_eq_true_eq, not_true_eq_false, and_self, and_true, true_and, ea_2n, ea_2f, ea_2c, ea_if, if_pos, if_neg, mv_lk, mv_f1, mv_f2, Value.category, List.filter, ↓reduceIte, Nat.reduceEqDiff, Nat.reduceAdd, Nat.reduceLT, Nat.reduceBEq, Nat.zero_add, Nat.add_zero, Nat.zero_ne_one, Nat.one_ne_zero, Bool.not_true, Bool.not_false, Bool.and_true, Bool.true_and, Bool.and_false, Bool.false_and, BEq.rfl, beq_self_eq_true, Bool.false_eq_true, reduceCtorEq, not_false_eq_true, fv0, fv1, fv2, fv3, eb_l0, eb_l1, eb_l2, eb_l3, eb_l4, eb_l5, eb_s0, eb_s1, eb_s2, eb_s3, eb_s4, eb_s5, oz_add, oz_sub, oz_mul, oz_neg, ol_add, ol_sub, sD_eq, sD_sD, sD_ne, sD_in, sD_in2, sD_in3, upR_is, upR_ne, mk_v, mk_n, mk_x, mk_i, mv_cs, Nat.reduceLeDiff, mv_ch_z, hq, nl_L_basinAtRank, hd_L_basinAtRank_5]
theorem nl_L_rainAt : mv_nh k_L_rainAt = false := by decide +kernel
theorem w_L_rainAt_ok {a1 : Int32} {v : Int} (hv1 : -2147483648 ≤ v) (hv2 : v < 2147483648) (hq : mv_cl L xs d k_X10_rainAt [.ref 0, .int a1] (t, 149, mz T) = some (.inl (some (.int (Int32.ofInt v))), (t2, 149, mz T2))) : mv_cl L xs (d + 1) k_L_rainAt [.ref 0, .int a1, .ref 147] (t, 149, mz T) = some (.inl (some (.int (Int32.ofInt 0))), (t2, 149, mz (sD T2 147 (upR (T2.1 147) 0 v)))) := by
  apply mv_cl_of
  simp only [mv_il, Value.category, Nat.zero_add, Nat.reduceAdd]
  simp (disch := omega) only [mv_Ev_row r_L_rainAt_0, mv_Ev_row r_L_rainAt_1, mv_Ev_row r_L_rainAt_2, mv_Ev_row r_L_rainAt_3, mv_Ev_row r_L_rainAt_4, mv_Ev_row r_L_rainAt_7, mv_Ev_row r_L_rainAt_8, mv_Ev_row r_L_rainAt_9, mv_Ev_row r_L_rainAt_12, mv_Ev_row r_L_rainAt_13, mv_Ev_row r_L_rainAt_14, mv_Ev_row r_L_rainAt_15, mv_Ev_row r_L_rainAt_16, ea_aload_n, ea_iconst, ea_iload_n, kv_X10_rainAt, i2l_z, ea_goto, ea_astore_n, ea_ireturn, ez_ret, ez_retc, mv_ac, decide_eq_true_eq, not_true_eq_false, and_self, and_true, true_and, ea_2n, ea_2f, ea_2c, ea_if, if_pos, if_neg, mv_lk, mv_f1, mv_f2, Value.category, List.filter, ↓reduceIte, Nat.reduceEqDiff, Nat.reduceAdd, Nat.reduceLT, Nat.reduceBEq, Nat.zero_add, Nat.add_zero, Nat.zero_ne_one, Nat.one_ne_zero, Bool.not_true, Bool.not_false, Bool.and_true, Bool.true_and, Bool.and_false, Bool.false_and, BEq.rfl, beq_self_eq_true, Bool.false_eq_true, reduceCtorEq, not_false_eq_true, fv0, fv1, fv2, fv3, eb_l0, eb_l1, eb_l2, eb_l3, eb_l4, eb_l5, eb_s0, eb_s1, eb_s2, eb_s3, eb_s4, eb_s5, oz_add, oz_sub, oz_mul, oz_neg, ol_add, ol_sub, sD_eq, sD_sD, sD_ne, sD_in, sD_in2, sD_in3, upR_is, upR_ne, mk_v, mk_n, mk_x, mk_i, mv_cs, Nat.reduceLeDiff, mv_ch_z, hq, al_st]
theorem hd_L_rainAt_2 : mv_hd k_L_rainAt 4 2 = some (13, 3) := by
  have e : mv_hd1 4 2 (mv_hl k_L_rainAt mv_hs) = some 12 := by decide +kernel
  unfold mv_hd
  rw [e]
  simp only [r_L_rainAt_12] <;> rfl
theorem w_L_rainAt_2 {a1 : Int32} (hq : mv_cl L xs d k_X10_rainAt [.ref 0, .int a1] (t, 149, mz T) = some (.inr 2, (t2, 149, mz T2))) : mv_cl L xs (d + 1) k_L_rainAt [.ref 0, .int a1, .ref 147] (t, 149, mz T) = some (.inl (some (.int (Int32.ofInt 1))), (t2, 149, mz T2)) := by
  apply mv_cl_of
  simp only [mv_il, Value.category, Nat.zero_add, Nat.reduceAdd]
  simp (disch := omega) only [mv_Ev_row r_L_rainAt_0, mv_Ev_row r_L_rainAt_1, mv_Ev_row r_L_rainAt_2, mv_Ev_row r_L_rainAt_3, mv_Ev_row r_L_rainAt_4, mv_Ev_row r_L_rainAt_7, mv_Ev_row r_L_rainAt_8, mv_Ev_row r_L_rainAt_9, mv_Ev_row r_L_rainAt_12, mv_Ev_row r_L_rainAt_13, mv_Ev_row r_L_rainAt_14, mv_Ev_row r_L_rainAt_15, mv_Ev_row r_L_rainAt_16, ea_aload_n, ea_iconst, ea_iload_n, kv_X10_rainAt, i2l_z, ea_goto, ea_astore_n, ea_ireturn, ez_ret, ez_retc, mv_ac, decide_eq_true_eq, not_true_eq_false, and_self, and_true, true_and, ea_2n, ea_2f, ea_2c, ea_if, if_pos, if_neg, mv_lk, mv_f1, mv_f2, Value.category, List.filter, ↓reduceIte, Nat.reduceEqDiff, Nat.reduceAdd, Nat.reduceLT, Nat.reduceBEq, Nat.zero_add, Nat.add_zero, Nat.zero_ne_one, Nat.one_ne_zero, Bool.not_true, Bool.not_false, Bool.and_true, Bool.true_and, Bool.and_false, Bool.false_and, BEq.rfl, beq_self_eq_true, Bool.false_eq_true, reduceCtorEq, not_false_eq_true, fv0, fv1, fv2, fv3, eb_l0, eb_l1, eb_l2, eb_l3, eb_l4, eb_l5, eb_s0, eb_s1, eb_s2, eb_s3, eb_s4, eb_s5, oz_add, oz_sub, oz_mul, oz_neg, ol_add, ol_sub, sD_eq, sD_sD, sD_ne, sD_in, sD_in2, sD_in3, upR_is, upR_ne, mk_v, mk_n, mk_x, mk_i, mv_cs, Nat.reduceLeDiff, mv_ch_z, hq, nl_L_rainAt, hd_L_rainAt_2]
theorem nl_L_meanFill : mv_nh k_L_meanFill = false := by decide +kernel
theorem hd_L_meanFill_3 : mv_hd k_L_meanFill 3 3 = some (11, 2) := by
  have e : mv_hd1 3 3 (mv_hl k_L_meanFill mv_hs) = some 10 := by decide +kernel
  unfold mv_hd
  rw [e]
  simp only [r_L_meanFill_10] <;> rfl
theorem w_L_meanFill_3 (hq : mv_cl L xs d k_X10_meanFill [.ref 0] (t, 149, mz T) = some (.inr 3, (t2, 149, mz T2))) : mv_cl L xs (d + 1) k_L_meanFill [.ref 0, .ref 148] (t, 149, mz T) = some (.inl (some (.int (Int32.ofInt 1))), (t2, 149, mz T2)) := by
  apply mv_cl_of
  simp only [mv_il, Value.category, Nat.zero_add, Nat.reduceAdd]
  simp (disch := omega) only [mv_Ev_row r_L_meanFill_0, mv_Ev_row r_L_meanFill_1, mv_Ev_row r_L_meanFill_2, mv_Ev_row r_L_meanFill_3, mv_Ev_row r_L_meanFill_6, mv_Ev_row r_L_meanFill_7, mv_Ev_row r_L_meanFill_10, mv_Ev_row r_L_meanFill_11, mv_Ev_row r_L_meanFill_12, mv_Ev_row r_L_meanFill_13, mv_Ev_row r_L_meanFill_14, ea_aload_n, ea_iconst, kv_X10_meanFill, ea_goto, ea_astore_n, ea_ireturn, ez_ret, ez_retc, mv_ac, decide_eq_true_eq, not_true_eq_false, and_self, and_true, true_and, ea_2n, ea_2f, ea_2c, ea_if, if_pos, if_neg, mv_lk, mv_f1, mv_f2, Value.category, List.filter, ↓reduceIte, Nat.reduceEqDiff, Nat.reduceAdd, Nat.reduceLT, Nat.reduceBEq, Nat.zero_add, Nat.add_zero, Nat.zero_ne_one, Nat.one_ne_zero, Bool.not_true, Bool.not_false, Bool.and_true, Bool.true_and, Bool.and_false, Bool.false_and, BEq.rfl, beq_self_eq_true, Bool.false_eq_true, reduceCtorEq, not_false_eq_true, fv0, fv1, fv2, fv3, eb_l0, eb_l1, eb_l2, eb_l3, eb_l4, eb_l5, eb_s0, eb_s1, eb_s2, eb_s3, eb_s4, eb_s5, oz_add, oz_sub, oz_mul, oz_neg, ol_add, ol_sub, sD_eq, sD_sD, sD_ne, sD_in, sD_in2, sD_in3, upR_is, upR_ne, mk_v, mk_n, mk_x, mk_i, mv_cs, Nat.reduceLeDiff, mv_ch_z, hq, nl_L_meanFill, hd_L_meanFill_3]
theorem nl_L_floodShare : mv_nh k_L_floodShare = false := by decide +kernel
theorem hd_L_floodShare_3 : mv_hd k_L_floodShare 3 3 = some (12, 2) := by
  have e : mv_hd1 3 3 (mv_hl k_L_floodShare mv_hs) = some 11 := by decide +kernel
  unfold mv_hd
  rw [e]
  simp only [r_L_floodShare_11] <;> rfl
theorem w_L_floodShare_3 (hq : mv_cl L xs d k_X10_floodShare [.ref 0] (t, 149, mz T) = some (.inr 3, (t2, 149, mz T2))) : mv_cl L xs (d + 1) k_L_floodShare [.ref 0, .ref 148] (t, 149, mz T) = some (.inl (some (.int (Int32.ofInt 1))), (t2, 149, mz T2)) := by
  apply mv_cl_of
  simp only [mv_il, Value.category, Nat.zero_add, Nat.reduceAdd]
  simp (disch := omega) only [mv_Ev_row r_L_floodShare_0, mv_Ev_row r_L_floodShare_1, mv_Ev_row r_L_floodShare_2, mv_Ev_row r_L_floodShare_3, mv_Ev_row r_L_floodShare_6, mv_Ev_row r_L_floodShare_7, mv_Ev_row r_L_floodShare_8, mv_Ev_row r_L_floodShare_11, mv_Ev_row r_L_floodShare_12, mv_Ev_row r_L_floodShare_13, mv_Ev_row r_L_floodShare_14, mv_Ev_row r_L_floodShare_15, ea_aload_n, ea_iconst, kv_X10_floodShare, ea_f2d, ea_goto, ea_astore_n, ea_ireturn, ez_ret, ez_retc, mv_ac, decide_eq_true_eq, not_true_eq_false, and_self, and_true, true_and, ea_2n, ea_2f, ea_2c, ea_if, if_pos, if_neg, mv_lk, mv_f1, mv_f2, Value.category, List.filter, ↓reduceIte, Nat.reduceEqDiff, Nat.reduceAdd, Nat.reduceLT, Nat.reduceBEq, Nat.zero_add, Nat.add_zero, Nat.zero_ne_one, Nat.one_ne_zero, Bool.not_true, Bool.not_false, Bool.and_true, Bool.true_and, Bool.and_false, Bool.false_and, BEq.rfl, beq_self_eq_true, Bool.false_eq_true, reduceCtorEq, not_false_eq_true, fv0, fv1, fv2, fv3, eb_l0, eb_l1, eb_l2, eb_l3, eb_l4, eb_l5, eb_s0, eb_s1, eb_s2, eb_s3, eb_s4, eb_s5, oz_add, oz_sub, oz_mul, oz_neg, ol_add, ol_sub, sD_eq, sD_sD, sD_ne, sD_in, sD_in2, sD_in3, upR_is, upR_ne, mk_v, mk_n, mk_x, mk_i, mv_cs, Nat.reduceLeDiff, mv_ch_z, hq, nl_L_floodShare, hd_L_floodShare_3]
theorem nl_L_levelAfter : mv_nh k_L_levelAfter = false := by decide +kernel
theorem w_L_levelAfter_ok {a1 a2 : Int32} {v : Int} (hv1 : -2147483648 ≤ v) (hv2 : v < 2147483648) (hq : mv_cl L xs d k_X10_levelAfter [.ref 0, .int a1, .int a2] (t, 149, mz T) = some (.inl (some (.int (Int32.ofInt v))), (t2, 149, mz T2))) : mv_cl L xs (d + 1) k_L_levelAfter [.ref 0, .int a1, .int a2, .ref 147] (t, 149, mz T) = some (.inl (some (.int (Int32.ofInt 0))), (t2, 149, mz (sD T2 147 (upR (T2.1 147) 0 v)))) := by
  apply mv_cl_of
  simp only [mv_il, Value.category, Nat.zero_add, Nat.reduceAdd]
  simp (disch := omega) only [mv_Ev_row r_L_levelAfter_0, mv_Ev_row r_L_levelAfter_1, mv_Ev_row r_L_levelAfter_2, mv_Ev_row r_L_levelAfter_3, mv_Ev_row r_L_levelAfter_4, mv_Ev_row r_L_levelAfter_5, mv_Ev_row r_L_levelAfter_8, mv_Ev_row r_L_levelAfter_9, mv_Ev_row r_L_levelAfter_10, mv_Ev_row r_L_levelAfter_13, mv_Ev_row r_L_levelAfter_15, mv_Ev_row r_L_levelAfter_16, mv_Ev_row r_L_levelAfter_17, mv_Ev_row r_L_levelAfter_19, mv_Ev_row r_L_levelAfter_20, mv_Ev_row r_L_levelAfter_21, mv_Ev_row r_L_levelAfter_22, ea_aload_n, ea_iconst, ea_iload_n, kv_X10_levelAfter, i2l_z, ea_goto, ea_astore, ea_ireturn, ez_ret, ez_retc, mv_ac, decide_eq_true_eq, not_true_eq_false, and_self, and_true, true_and, ea_2n, ea_2f, ea_2c, ea_if, if_pos, if_neg, mv_lk, mv_f1, mv_f2, Value.category, List.filter, ↓reduceIte, Nat.reduceEqDiff, Nat.reduceAdd, Nat.reduceLT, Nat.reduceBEq, Nat.zero_add, Nat.add_zero, Nat.zero_ne_one, Nat.one_ne_zero, Bool.not_true, Bool.not_false, Bool.and_true, Bool.true_and, Bool.and_false, Bool.false_and, BEq.rfl, beq_self_eq_true, Bool.false_eq_true, reduceCtorEq, not_false_eq_true, fv0, fv1, fv2, fv3, eb_l0, eb_l1, eb_l2, eb_l3, eb_l4, eb_l5, eb_s0, eb_s1, eb_s2, eb_s3, eb_s4, eb_s5, oz_add, oz_sub, oz_mul, oz_neg, ol_add, ol_sub, sD_eq, sD_sD, sD_ne, sD_in, sD_in2, sD_in3, upR_is, upR_ne, mk_v, mk_n, mk_x, mk_i, mv_cs, Nat.reduceLeDiff, mv_ch_z, hq, al_st]
theorem hd_L_levelAfter_2 : mv_hd k_L_levelAfter 5 2 = some (15, 4) := by
  have e : mv_hd1 5 2 (mv_hl k_L_levelAfter mv_hs) = some 13 := by decide +kernel
  unfold mv_hd
  rw [e]
  simp only [r_L_levelAfter_13] <;> rfl
theorem w_L_levelAfter_2 {a1 a2 : Int32} (hq : mv_cl L xs d k_X10_levelAfter [.ref 0, .int a1, .int a2] (t, 149, mz T) = some (.inr 2, (t2, 149, mz T2))) : mv_cl L xs (d + 1) k_L_levelAfter [.ref 0, .int a1, .int a2, .ref 147] (t, 149, mz T) = some (.inl (some (.int (Int32.ofInt 1))), (t2, 149, mz T2)) := by
  apply mv_cl_of
  simp only [mv_il, Value.category, Nat.zero_add, Nat.reduceAdd]
  simp (disch := omega) only [mv_Ev_row r_L_levelAfter_0, mv_Ev_row r_L_levelAfter_1, mv_Ev_row r_L_levelAfter_2, mv_Ev_row r_L_levelAfter_3, mv_Ev_row r_L_levelAfter_4, mv_Ev_row r_L_levelAfter_5, mv_Ev_row r_L_levelAfter_8, mv_Ev_row r_L_levelAfter_9, mv_Ev_row r_L_levelAfter_10, mv_Ev_row r_L_levelAfter_13, mv_Ev_row r_L_levelAfter_15, mv_Ev_row r_L_levelAfter_16, mv_Ev_row r_L_levelAfter_17, mv_Ev_row r_L_levelAfter_19, mv_Ev_row r_L_levelAfter_20, mv_Ev_row r_L_levelAfter_21, mv_Ev_row r_L_levelAfter_22, ea_aload_n, ea_iconst, ea_iload_n, kv_X10_levelAfter, i2l_z, ea_goto, ea_astore, ea_ireturn, ez_ret, ez_retc, mv_ac, decide_eq_true_eq, not_true_eq_false, and_self, and_true, true_and, ea_2n, ea_2f, ea_2c, ea_if, if_pos, if_neg, mv_lk, mv_f1, mv_f2, Value.category, List.filter, ↓reduceIte, Nat.reduceEqDiff, Nat.reduceAdd, Nat.reduceLT, Nat.reduceBEq, Nat.zero_add, Nat.add_zero, Nat.zero_ne_one, Nat.one_ne_zero, Bool.not_true, Bool.not_false, Bool.and_true, Bool.true_and, Bool.and_false, Bool.false_and, BEq.rfl, beq_self_eq_true, Bool.false_eq_true, reduceCtorEq, not_false_eq_true, fv0, fv1, fv2, fv3, eb_l0, eb_l1, eb_l2, eb_l3, eb_l4, eb_l5, eb_s0, eb_s1, eb_s2, eb_s3, eb_s4, eb_s5, oz_add, oz_sub, oz_mul, oz_neg, ol_add, ol_sub, sD_eq, sD_sD, sD_ne, sD_in, sD_in2, sD_in3, upR_is, upR_ne, mk_v, mk_n, mk_x, mk_i, mv_cs, Nat.reduceLeDiff, mv_ch_z, hq, nl_L_levelAfter, hd_L_levelAfter_2]
theorem hd_L_levelAfter_0 : mv_hd k_L_levelAfter 5 0 = some (19, 4) := by
  have e : mv_hd1 5 0 (mv_hl k_L_levelAfter mv_hs) = some 17 := by decide +kernel
  unfold mv_hd
  rw [e]
  simp only [r_L_levelAfter_17] <;> rfl
theorem w_L_levelAfter_0 {a1 a2 : Int32} (hq : mv_cl L xs d k_X10_levelAfter [.ref 0, .int a1, .int a2] (t, 149, mz T) = some (.inr 0, (t2, 149, mz T2))) : mv_cl L xs (d + 1) k_L_levelAfter [.ref 0, .int a1, .int a2, .ref 147] (t, 149, mz T) = some (.inl (some (.int (Int32.ofInt 2))), (t2, 149, mz T2)) := by
  apply mv_cl_of
  simp only [mv_il, Value.category, Nat.zero_add, Nat.reduceAdd]
  simp (disch := omega) only [mv_Ev_row r_L_levelAfter_0, mv_Ev_row r_L_levelAfter_1, mv_Ev_row r_L_levelAfter_2, mv_Ev_row r_L_levelAfter_3, mv_Ev_row r_L_levelAfter_4, mv_Ev_row r_L_levelAfter_5, mv_Ev_row r_L_levelAfter_8, mv_Ev_row r_L_levelAfter_9, mv_Ev_row r_L_levelAfter_10, mv_Ev_row r_L_levelAfter_13, mv_Ev_row r_L_levelAfter_15, mv_Ev_row r_L_levelAfter_16, mv_Ev_row r_L_levelAfter_17, mv_Ev_row r_L_levelAfter_19, mv_Ev_row r_L_levelAfter_20, mv_Ev_row r_L_levelAfter_21, mv_Ev_row r_L_levelAfter_22, ea_aload_n, ea_iconst, ea_iload_n, kv_X10_levelAfter, i2l_z, ea_goto, ea_astore, ea_ireturn, ez_ret, ez_retc, mv_ac, decide_eq_true_eq, not_true_eq_false, and_self, and_true, true_and, ea_2n, ea_2f, ea_2c, ea_if, if_pos, if_neg, mv_lk, mv_f1, mv_f2, Value.category, List.filter, ↓reduceIte, Nat.reduceEqDiff, Nat.reduceAdd, Nat.reduceLT, Nat.reduceBEq, Nat.zero_add, Nat.add_zero, Nat.zero_ne_one, Nat.one_ne_zero, Bool.not_true, Bool.not_false, Bool.and_true, Bool.true_and, Bool.and_false, Bool.false_and, BEq.rfl, beq_self_eq_true, Bool.false_eq_true, reduceCtorEq, not_false_eq_true, fv0, fv1, fv2, fv3, eb_l0, eb_l1, eb_l2, eb_l3, eb_l4, eb_l5, eb_s0, eb_s1, eb_s2, eb_s3, eb_s4, eb_s5, oz_add, oz_sub, oz_mul, oz_neg, ol_add, ol_sub, sD_eq, sD_sD, sD_ne, sD_in, sD_in2, sD_in3, upR_is, upR_ne, mk_v, mk_n, mk_x, mk_i, mv_cs, Nat.reduceLeDiff, mv_ch_z, hq, nl_L_levelAfter, hd_L_levelAfter_0]
theorem nl_L_spillOf : mv_nh k_L_spillOf = false := by decide +kernel
theorem w_L_spillOf_ok {a1 a2 : Int32} {v : Int} (hv1 : -2147483648 ≤ v) (hv2 : v < 2147483648) (hq : mv_cl L xs d k_X10_spillOf [.ref 0, .int a1, .int a2] (t, 149, mz T) = some (.inl (some (.int (Int32.ofInt v))), (t2, 149, mz T2))) : mv_cl L xs (d + 1) k_L_spillOf [.ref 0, .int a1, .int a2, .ref 147] (t, 149, mz T) = some (.inl (some (.int (Int32.ofInt 0))), (t2, 149, mz (sD T2 147 (upR (T2.1 147) 0 v)))) := by
  apply mv_cl_of
  simp only [mv_il, Value.category, Nat.zero_add, Nat.reduceAdd]
  simp (disch := omega) only [mv_Ev_row r_L_spillOf_0, mv_Ev_row r_L_spillOf_1, mv_Ev_row r_L_spillOf_2, mv_Ev_row r_L_spillOf_3, mv_Ev_row r_L_spillOf_4, mv_Ev_row r_L_spillOf_5, mv_Ev_row r_L_spillOf_8, mv_Ev_row r_L_spillOf_9, mv_Ev_row r_L_spillOf_10, mv_Ev_row r_L_spillOf_13, mv_Ev_row r_L_spillOf_15, mv_Ev_row r_L_spillOf_16, mv_Ev_row r_L_spillOf_17, mv_Ev_row r_L_spillOf_19, mv_Ev_row r_L_spillOf_20, mv_Ev_row r_L_spillOf_21, mv_Ev_row r_L_spillOf_22, ea_aload_n, ea_iconst, ea_iload_n, kv_X10_spillOf, i2l_z, ea_goto, ea_astore, ea_ireturn, ez_ret, ez_retc, mv_ac, decide_eq_true_eq, not_true_eq_false, and_self, and_true, true_and, ea_2n, ea_2f, ea_2c, ea_if, if_pos, if_neg, mv_lk, mv_f1, mv_f2, Value.category, List.filter, ↓reduceIte, Nat.reduceEqDiff, Nat.reduceAdd, Nat.reduceLT, Nat.reduceBEq, Nat.zero_add, Nat.add_zero, Nat.zero_ne_one, Nat.one_ne_zero, Bool.not_true, Bool.not_false, Bool.and_true, Bool.true_and, Bool.and_false, Bool.false_and, BEq.rfl, beq_self_eq_true, Bool.false_eq_true, reduceCtorEq, not_false_eq_true, fv0, fv1, fv2, fv3, eb_l0, eb_l1, eb_l2, eb_l3, eb_l4, eb_l5, eb_s0, eb_s1, eb_s2, eb_s3, eb_s4, eb_s5, oz_add, oz_sub, oz_mul, oz_neg, ol_add, ol_sub, sD_eq, sD_sD, sD_ne, sD_in, sD_in2, sD_in3, upR_is, upR_ne, mk_v, mk_n, mk_x, mk_i, mv_cs, Nat.reduceLeDiff, mv_ch_z, hq, al_st]
theorem hd_L_spillOf_2 : mv_hd k_L_spillOf 5 2 = some (15, 4) := by
  have e : mv_hd1 5 2 (mv_hl k_L_spillOf mv_hs) = some 13 := by decide +kernel
  unfold mv_hd
  rw [e]
  simp only [r_L_spillOf_13] <;> rfl
theorem w_L_spillOf_2 {a1 a2 : Int32} (hq : mv_cl L xs d k_X10_spillOf [.ref 0, .int a1, .int a2] (t, 149, mz T) = some (.inr 2, (t2, 149, mz T2))) : mv_cl L xs (d + 1) k_L_spillOf [.ref 0, .int a1, .int a2, .ref 147] (t, 149, mz T) = some (.inl (some (.int (Int32.ofInt 1))), (t2, 149, mz T2)) := by
  apply mv_cl_of
  simp only [mv_il, Value.category, Nat.zero_add, Nat.reduceAdd]
  simp (disch := omega) only [mv_Ev_row r_L_spillOf_0, mv_Ev_row r_L_spillOf_1, mv_Ev_row r_L_spillOf_2, mv_Ev_row r_L_spillOf_3, mv_Ev_row r_L_spillOf_4, mv_Ev_row r_L_spillOf_5, mv_Ev_row r_L_spillOf_8, mv_Ev_row r_L_spillOf_9, mv_Ev_row r_L_spillOf_10, mv_Ev_row r_L_spillOf_13, mv_Ev_row r_L_spillOf_15, mv_Ev_row r_L_spillOf_16, mv_Ev_row r_L_spillOf_17, mv_Ev_row r_L_spillOf_19, mv_Ev_row r_L_spillOf_20, mv_Ev_row r_L_spillOf_21, mv_Ev_row r_L_spillOf_22, ea_aload_n, ea_iconst, ea_iload_n, kv_X10_spillOf, i2l_z, ea_goto, ea_astore, ea_ireturn, ez_ret, ez_retc, mv_ac, decide_eq_true_eq, not_true_eq_false, and_self, and_true, true_and, ea_2n, ea_2f, ea_2c, ea_if, if_pos, if_neg, mv_lk, mv_f1, mv_f2, Value.category, List.filter, ↓reduceIte, Nat.reduceEqDiff, Nat.reduceAdd, Nat.reduceLT, Nat.reduceBEq, Nat.zero_add, Nat.add_zero, Nat.zero_ne_one, Nat.one_ne_zero, Bool.not_true, Bool.not_false, Bool.and_true, Bool.true_and, Bool.and_false, Bool.false_and, BEq.rfl, beq_self_eq_true, Bool.false_eq_true, reduceCtorEq, not_false_eq_true, fv0, fv1, fv2, fv3, eb_l0, eb_l1, eb_l2, eb_l3, eb_l4, eb_l5, eb_s0, eb_s1, eb_s2, eb_s3, eb_s4, eb_s5, oz_add, oz_sub, oz_mul, oz_neg, ol_add, ol_sub, sD_eq, sD_sD, sD_ne, sD_in, sD_in2, sD_in3, upR_is, upR_ne, mk_v, mk_n, mk_x, mk_i, mv_cs, Nat.reduceLeDiff, mv_ch_z, hq, nl_L_spillOf, hd_L_spillOf_2]
theorem hd_L_spillOf_0 : mv_hd k_L_spillOf 5 0 = some (19, 4) := by
  have e : mv_hd1 5 0 (mv_hl k_L_spillOf mv_hs) = some 17 := by decide +kernel
  unfold mv_hd
  rw [e]
  simp only [r_L_spillOf_17] <;> rfl
theorem w_L_spillOf_0 {a1 a2 : Int32} (hq : mv_cl L xs d k_X10_spillOf [.ref 0, .int a1, .int a2] (t, 149, mz T) = some (.inr 0, (t2, 149, mz T2))) : mv_cl L xs (d + 1) k_L_spillOf [.ref 0, .int a1, .int a2, .ref 147] (t, 149, mz T) = some (.inl (some (.int (Int32.ofInt 2))), (t2, 149, mz T2)) := by
  apply mv_cl_of
  simp only [mv_il, Value.category, Nat.zero_add, Nat.reduceAdd]
  simp (disch := omega) only [mv_Ev_row r_L_spillOf_0, mv_Ev_row r_L_spillOf_1, mv_Ev_row r_L_spillOf_2, mv_Ev_row r_L_spillOf_3, mv_Ev_row r_L_spillOf_4, mv_Ev_row r_L_spillOf_5, mv_Ev_row r_L_spillOf_8, mv_Ev_row r_L_spillOf_9, mv_Ev_row r_L_spillOf_10, mv_Ev_row r_L_spillOf_13, mv_Ev_row r_L_spillOf_15, mv_Ev_row r_L_spillOf_16, mv_Ev_row r_L_spillOf_17, mv_Ev_row r_L_spillOf_19, mv_Ev_row r_L_spillOf_20, mv_Ev_row r_L_spillOf_21, mv_Ev_row r_L_spillOf_22, ea_aload_n, ea_iconst, ea_iload_n, kv_X10_spillOf, i2l_z, ea_goto, ea_astore, ea_ireturn, ez_ret, ez_retc, mv_ac, decide_eq_true_eq, not_true_eq_false, and_self, and_true, true_and, ea_2n, ea_2f, ea_2c, ea_if, if_pos, if_neg, mv_lk, mv_f1, mv_f2, Value.category, List.filter, ↓reduceIte, Nat.reduceEqDiff, Nat.reduceAdd, Nat.reduceLT, Nat.reduceBEq, Nat.zero_add, Nat.add_zero, Nat.zero_ne_one, Nat.one_ne_zero, Bool.not_true, Bool.not_false, Bool.and_true, Bool.true_and, Bool.and_false, Bool.false_and, BEq.rfl, beq_self_eq_true, Bool.false_eq_true, reduceCtorEq, not_false_eq_true, fv0, fv1, fv2, fv3, eb_l0, eb_l1, eb_l2, eb_l3, eb_l4, eb_l5, eb_s0, eb_s1, eb_s2, eb_s3, eb_s4, eb_s5, oz_add, oz_sub, oz_mul, oz_neg, ol_add, ol_sub, sD_eq, sD_sD, sD_ne, sD_in, sD_in2, sD_in3, upR_is, upR_ne, mk_v, mk_n, mk_x, mk_i, mv_cs, Nat.reduceLeDiff, mv_ch_z, hq, nl_L_spillOf, hd_L_spillOf_0]
theorem nl_L_stepsUntilFlood : mv_nh k_L_stepsUntilFlood = false := by decide +kernel
theorem w_L_stepsUntilFlood_ok {v : Int} (hv1 : -2147483648 ≤ v) (hv2 : v < 2147483648) (hq : mv_cl L xs d k_X10_stepsUntilFlood [.ref 0] (t, 149, mz T) = some (.inl (some (.int (Int32.ofInt v))), (t2, 149, mz T2))) : mv_cl L xs (d + 1) k_L_stepsUntilFlood [.ref 0, .ref 147] (t, 149, mz T) = some (.inl (some (.int (Int32.ofInt 0))), (t2, 149, mz (sD T2 147 (upR (T2.1 147) 0 v)))) := by
  apply mv_cl_of
  simp only [mv_il, Value.category, Nat.zero_add, Nat.reduceAdd]
  simp (disch := omega) only [mv_Ev_row r_L_stepsUntilFlood_0, mv_Ev_row r_L_stepsUntilFlood_1, mv_Ev_row r_L_stepsUntilFlood_2, mv_Ev_row r_L_stepsUntilFlood_3, mv_Ev_row r_L_stepsUntilFlood_6, mv_Ev_row r_L_stepsUntilFlood_7, mv_Ev_row r_L_stepsUntilFlood_8, mv_Ev_row r_L_stepsUntilFlood_11, mv_Ev_row r_L_stepsUntilFlood_12, mv_Ev_row r_L_stepsUntilFlood_13, mv_Ev_row r_L_stepsUntilFlood_14, mv_Ev_row r_L_stepsUntilFlood_15, ea_aload_n, ea_iconst, kv_X10_stepsUntilFlood, i2l_z, ea_goto, ea_astore_n, ea_ireturn, ez_ret, ez_retc, mv_ac, decide_eq_true_eq, not_true_eq_false, and_self, and_true, true_and, ea_2n, ea_2f, ea_2c, ea_if, if_pos, if_neg, mv_lk, mv_f1, mv_f2, Value.category, List.filter, ↓reduceIte, Nat.reduceEqDiff, Nat.reduceAdd, Nat.reduceLT, Nat.reduceBEq, Nat.zero_add, Nat.add_zero, Nat.zero_ne_one, Nat.one_ne_zero, Bool.not_true, Bool.not_false, Bool.and_true, Bool.true_and, Bool.and_false, Bool.false_and, BEq.rfl, beq_self_eq_true, Bool.false_eq_true, reduceCtorEq, not_false_eq_true, fv0, fv1, fv2, fv3, eb_l0, eb_l1, eb_l2, eb_l3, eb_l4, eb_l5, eb_s0, eb_s1, eb_s2, eb_s3, eb_s4, eb_s5, oz_add, oz_sub, oz_mul, oz_neg, ol_add, ol_sub, sD_eq, sD_sD, sD_ne, sD_in, sD_in2, sD_in3, upR_is, upR_ne, mk_v, mk_n, mk_x, mk_i, mv_cs, Nat.reduceLeDiff, mv_ch_z, hq, al_st]
theorem hd_L_stepsUntilFlood_5 : mv_hd k_L_stepsUntilFlood 3 5 = some (12, 2) := by
  have e : mv_hd1 3 5 (mv_hl k_L_stepsUntilFlood mv_hs) = some 11 := by decide +kernel
  unfold mv_hd
  rw [e]
  simp only [r_L_stepsUntilFlood_11] <;> rfl
theorem w_L_stepsUntilFlood_5 (hq : mv_cl L xs d k_X10_stepsUntilFlood [.ref 0] (t, 149, mz T) = some (.inr 5, (t2, 149, mz T2))) : mv_cl L xs (d + 1) k_L_stepsUntilFlood [.ref 0, .ref 147] (t, 149, mz T) = some (.inl (some (.int (Int32.ofInt 1))), (t2, 149, mz T2)) := by
  apply mv_cl_of
  simp only [mv_il, Value.category, Nat.zero_add, Nat.reduceAdd]
  simp (disch := omega) only [mv_Ev_row r_L_stepsUntilFlood_0, mv_Ev_row r_L_stepsUntilFlood_1, mv_Ev_row r_L_stepsUntilFlood_2, mv_Ev_row r_L_stepsUntilFlood_3, mv_Ev_row r_L_stepsUntilFlood_6, mv_Ev_row r_L_stepsUntilFlood_7, mv_Ev_row r_L_stepsUntilFlood_8, mv_Ev_row r_L_stepsUntilFlood_11, mv_Ev_row r_L_stepsUntilFlood_12, mv_Ev_row r_L_stepsUntilFlood_13, mv_Ev_row r_L_stepsUntilFlood_14, mv_Ev_row r_L_stepsUntilFlood_15, ea_aload_n, ea_iconst, kv_X10_stepsUntilFlood, i2l_z, ea_goto, ea_astore_n, ea_ireturn, ez_ret, ez_retc, mv_ac, decide_eq_true_eq, not_true_eq_false, and_self, and_true, true_and, ea_2n, ea_2f, ea_2c, ea_if, if_pos, if_neg, mv_lk, mv_f1, mv_f2, Value.category, List.filter, ↓reduceIte, Nat.reduceEqDiff, Nat.reduceAdd, Nat.reduceLT, Nat.reduceBEq, Nat.zero_add, Nat.add_zero, Nat.zero_ne_one, Nat.one_ne_zero, Bool.not_true, Bool.not_false, Bool.and_true, Bool.true_and, Bool.and_false, Bool.false_and, BEq.rfl, beq_self_eq_true, Bool.false_eq_true, reduceCtorEq, not_false_eq_true, fv0, fv1, fv2, fv3, eb_l0, eb_l1, eb_l2, eb_l3, eb_l4, eb_l5, eb_s0, eb_s1, eb_s2, eb_s3, eb_s4, eb_s5, oz_add, oz_sub, oz_mul, oz_neg, ol_add, ol_sub, sD_eq, sD_sD, sD_ne, sD_in, sD_in2, sD_in3, upR_is, upR_ne, mk_v, mk_n, mk_x, mk_i, mv_cs, Nat.reduceLeDiff, mv_ch_z, hq, nl_L_stepsUntilFlood, hd_L_stepsUntilFlood_5]
theorem nl_L_leastSpill : mv_nh k_L_leastSpill = false := by decide +kernel
theorem w_L_leastSpill_ok {a1 a2 : Int32} {v : Int} (hv1 : -2147483648 ≤ v) (hv2 : v < 2147483648) (hq : mv_cl L xs d k_X10_leastSpill [.ref 0, .int a1, .int a2] (t, 149, mz T) = some (.inl (some (.int (Int32.ofInt v))), (t2, 149, mz T2))) : mv_cl L xs (d + 1) k_L_leastSpill [.ref 0, .int a1, .int a2, .ref 147] (t, 149, mz T) = some (.inl (some (.int (Int32.ofInt 0))), (t2, 149, mz (sD T2 147 (upR (T2.1 147) 0 v)))) := by
  apply mv_cl_of
  simp only [mv_il, Value.category, Nat.zero_add, Nat.reduceAdd]
  simp (disch := omega) only [mv_Ev_row r_L_leastSpill_0, mv_Ev_row r_L_leastSpill_1, mv_Ev_row r_L_leastSpill_2, mv_Ev_row r_L_leastSpill_3, mv_Ev_row r_L_leastSpill_4, mv_Ev_row r_L_leastSpill_5, mv_Ev_row r_L_leastSpill_8, mv_Ev_row r_L_leastSpill_9, mv_Ev_row r_L_leastSpill_10, mv_Ev_row r_L_leastSpill_13, mv_Ev_row r_L_leastSpill_15, mv_Ev_row r_L_leastSpill_16, mv_Ev_row r_L_leastSpill_17, mv_Ev_row r_L_leastSpill_19, mv_Ev_row r_L_leastSpill_20, mv_Ev_row r_L_leastSpill_21, mv_Ev_row r_L_leastSpill_23, mv_Ev_row r_L_leastSpill_24, mv_Ev_row r_L_leastSpill_25, mv_Ev_row r_L_leastSpill_26, ea_aload_n, ea_iconst, ea_iload_n, kv_X10_leastSpill, i2l_z, ea_goto, ea_astore, ea_ireturn, ez_ret, ez_retc, mv_ac, decide_eq_true_eq, not_true_eq_false, and_self, and_true, true_and, ea_2n, ea_2f, ea_2c, ea_if, if_pos, if_neg, mv_lk, mv_f1, mv_f2, Value.category, List.filter, ↓reduceIte, Nat.reduceEqDiff, Nat.reduceAdd, Nat.reduceLT, Nat.reduceBEq, Nat.zero_add, Nat.add_zero, Nat.zero_ne_one, Nat.one_ne_zero, Bool.not_true, Bool.not_false, Bool.and_true, Bool.true_and, Bool.and_false, Bool.false_and, BEq.rfl, beq_self_eq_true, Bool.false_eq_true, reduceCtorEq, not_false_eq_true, fv0, fv1, fv2, fv3, eb_l0, eb_l1, eb_l2, eb_l3, eb_l4, eb_l5, eb_s0, eb_s1, eb_s2, eb_s3, eb_s4, eb_s5, oz_add, oz_sub, oz_mul, oz_neg, ol_add, ol_sub, sD_eq, sD_sD, sD_ne, sD_in, sD_in2, sD_in3, upR_is, upR_ne, mk_v, mk_n, mk_x, mk_i, mv_cs, Nat.reduceLeDiff, mv_ch_z, hq, al_st]
theorem hd_L_leastSpill_2 : mv_hd k_L_leastSpill 5 2 = some (15, 4) := by
  have e : mv_hd1 5 2 (mv_hl k_L_leastSpill mv_hs) = some 13 := by decide +kernel
  unfold mv_hd
  rw [e]
  simp only [r_L_leastSpill_13] <;> rfl
theorem w_L_leastSpill_2 {a1 a2 : Int32} (hq : mv_cl L xs d k_X10_leastSpill [.ref 0, .int a1, .int a2] (t, 149, mz T) = some (.inr 2, (t2, 149, mz T2))) : mv_cl L xs (d + 1) k_L_leastSpill [.ref 0, .int a1, .int a2, .ref 147] (t, 149, mz T) = some (.inl (some (.int (Int32.ofInt 1))), (t2, 149, mz T2)) := by
  apply mv_cl_of
  simp only [mv_il, Value.category, Nat.zero_add, Nat.reduceAdd]
  simp (disch := omega) only [mv_Ev_row r_L_leastSpill_0, mv_Ev_row r_L_leastSpill_1, mv_Ev_row r_L_leastSpill_2, mv_Ev_row r_L_leastSpill_3, mv_Ev_row r_L_leastSpill_4, mv_Ev_row r_L_leastSpill_5, mv_Ev_row r_L_leastSpill_8, mv_Ev_row r_L_leastSpill_9, mv_Ev_row r_L_leastSpill_10, mv_Ev_row r_L_leastSpill_13, mv_Ev_row r_L_leastSpill_15, mv_Ev_row r_L_leastSpill_16, mv_Ev_row r_L_leastSpill_17, mv_Ev_row r_L_leastSpill_19, mv_Ev_row r_L_leastSpill_20, mv_Ev_row r_L_leastSpill_21, mv_Ev_row r_L_leastSpill_23, mv_Ev_row r_L_leastSpill_24, mv_Ev_row r_L_leastSpill_25, mv_Ev_row r_L_leastSpill_26, ea_aload_n, ea_iconst, ea_iload_n, kv_X10_leastSpill, i2l_z, ea_goto, ea_astore, ea_ireturn, ez_ret, ez_retc, mv_ac, decide_eq_true_eq, not_true_eq_false, and_self, and_true, true_and, ea_2n, ea_2f, ea_2c, ea_if, if_pos, if_neg, mv_lk, mv_f1, mv_f2, Value.category, List.filter, ↓reduceIte, Nat.reduceEqDiff, Nat.reduceAdd, Nat.reduceLT, Nat.reduceBEq, Nat.zero_add, Nat.add_zero, Nat.zero_ne_one, Nat.one_ne_zero, Bool.not_true, Bool.not_false, Bool.and_true, Bool.true_and, Bool.and_false, Bool.false_and, BEq.rfl, beq_self_eq_true, Bool.false_eq_true, reduceCtorEq, not_false_eq_true, fv0, fv1, fv2, fv3, eb_l0, eb_l1, eb_l2, eb_l3, eb_l4, eb_l5, eb_s0, eb_s1, eb_s2, eb_s3, eb_s4, eb_s5, oz_add, oz_sub, oz_mul, oz_neg, ol_add, ol_sub, sD_eq, sD_sD, sD_ne, sD_in, sD_in2, sD_in3, upR_is, upR_ne, mk_v, mk_n, mk_x, mk_i, mv_cs, Nat.reduceLeDiff, mv_ch_z, hq, nl_L_leastSpill, hd_L_leastSpill_2]
theorem hd_L_leastSpill_0 : mv_hd k_L_leastSpill 5 0 = some (19, 4) := by
  have e : mv_hd1 5 0 (mv_hl k_L_leastSpill mv_hs) = some 17 := by decide +kernel
  unfold mv_hd
  rw [e]
  simp only [r_L_leastSpill_17] <;> rfl
theorem w_L_leastSpill_0 {a1 a2 : Int32} (hq : mv_cl L xs d k_X10_leastSpill [.ref 0, .int a1, .int a2] (t, 149, mz T) = some (.inr 0, (t2, 149, mz T2))) : mv_cl L xs (d + 1) k_L_leastSpill [.ref 0, .int a1, .int a2, .ref 147] (t, 149, mz T) = some (.inl (some (.int (Int32.ofInt 2))), (t2, 149, mz T2)) := by
  apply mv_cl_of
  simp only [mv_il, Value.category, Nat.zero_add, Nat.reduceAdd]
  simp (disch := omega) only [mv_Ev_row r_L_leastSpill_0, mv_Ev_row r_L_leastSpill_1, mv_Ev_row r_L_leastSpill_2, mv_Ev_row r_L_leastSpill_3, mv_Ev_row r_L_leastSpill_4, mv_Ev_row r_L_leastSpill_5, mv_Ev_row r_L_leastSpill_8, mv_Ev_row r_L_leastSpill_9, mv_Ev_row r_L_leastSpill_10, mv_Ev_row r_L_leastSpill_13, mv_Ev_row r_L_leastSpill_15, mv_Ev_row r_L_leastSpill_16, mv_Ev_row r_L_leastSpill_17, mv_Ev_row r_L_leastSpill_19, mv_Ev_row r_L_leastSpill_20, mv_Ev_row r_L_leastSpill_21, mv_Ev_row r_L_leastSpill_23, mv_Ev_row r_L_leastSpill_24, mv_Ev_row r_L_leastSpill_25, mv_Ev_row r_L_leastSpill_26, ea_aload_n, ea_iconst, ea_iload_n, kv_X10_leastSpill, i2l_z, ea_goto, ea_astore, ea_ireturn, ez_ret, ez_retc, mv_ac, decide_eq_true_eq, not_true_eq_false, and_self, and_true, true_and, ea_2n, ea_2f, ea_2c, ea_if, if_pos, if_neg, mv_lk, mv_f1, mv_f2, Value.category, List.filter, ↓reduceIte, Nat.reduceEqDiff, Nat.reduceAdd, Nat.reduceLT, Nat.reduceBEq, Nat.zero_add, Nat.add_zero, Nat.zero_ne_one, Nat.one_ne_zero, Bool.not_true, Bool.not_false, Bool.and_true, Bool.true_and, Bool.and_false, Bool.false_and, BEq.rfl, beq_self_eq_true, Bool.false_eq_true, reduceCtorEq, not_false_eq_true, fv0, fv1, fv2, fv3, eb_l0, eb_l1, eb_l2, eb_l3, eb_l4, eb_l5, eb_s0, eb_s1, eb_s2, eb_s3, eb_s4, eb_s5, oz_add, oz_sub, oz_mul, oz_neg, ol_add, ol_sub, sD_eq, sD_sD, sD_ne, sD_in, sD_in2, sD_in3, upR_is, upR_ne, mk_v, mk_n, mk_x, mk_i, mv_cs, Nat.reduceLeDiff, mv_ch_z, hq, nl_L_leastSpill, hd_L_leastSpill_0]
theorem hd_L_leastSpill_1 : mv_hd k_L_leastSpill 5 1 = some (23, 4) := by
  have e : mv_hd1 5 1 (mv_hl k_L_leastSpill mv_hs) = some 21 := by decide +kernel
  unfold mv_hd
  rw [e]
  simp only [r_L_leastSpill_21] <;> rfl
theorem w_L_leastSpill_1 {a1 a2 : Int32} (hq : mv_cl L xs d k_X10_leastSpill [.ref 0, .int a1, .int a2] (t, 149, mz T) = some (.inr 1, (t2, 149, mz T2))) : mv_cl L xs (d + 1) k_L_leastSpill [.ref 0, .int a1, .int a2, .ref 147] (t, 149, mz T) = some (.inl (some (.int (Int32.ofInt 3))), (t2, 149, mz T2)) := by
  apply mv_cl_of
  simp only [mv_il, Value.category, Nat.zero_add, Nat.reduceAdd]
  simp (disch := omega) only [mv_Ev_row r_L_leastSpill_0, mv_Ev_row r_L_leastSpill_1, mv_Ev_row r_L_leastSpill_2, mv_Ev_row r_L_leastSpill_3, mv_Ev_row r_L_leastSpill_4, mv_Ev_row r_L_leastSpill_5, mv_Ev_row r_L_leastSpill_8, mv_Ev_row r_L_leastSpill_9, mv_Ev_row r_L_leastSpill_10, mv_Ev_row r_L_leastSpill_13, mv_Ev_row r_L_leastSpill_15, mv_Ev_row r_L_leastSpill_16, mv_Ev_row r_L_leastSpill_17, mv_Ev_row r_L_leastSpill_19, mv_Ev_row r_L_leastSpill_20, mv_Ev_row r_L_leastSpill_21, mv_Ev_row r_L_leastSpill_23, mv_Ev_row r_L_leastSpill_24, mv_Ev_row r_L_leastSpill_25, mv_Ev_row r_L_leastSpill_26, ea_aload_n, ea_iconst, ea_iload_n, kv_X10_leastSpill, i2l_z, ea_goto, ea_astore, ea_ireturn, ez_ret, ez_retc, mv_ac, decide_eq_true_eq, not_true_eq_false, and_self, and_true, true_and, ea_2n, ea_2f, ea_2c, ea_if, if_pos, if_neg, mv_lk, mv_f1, mv_f2, Value.category, List.filter, ↓reduceIte, Nat.reduceEqDiff, Nat.reduceAdd, Nat.reduceLT, Nat.reduceBEq, Nat.zero_add, Nat.add_zero, Nat.zero_ne_one, Nat.one_ne_zero, Bool.not_true, Bool.not_false, Bool.and_true, Bool.true_and, Bool.and_false, Bool.false_and, BEq.rfl, beq_self_eq_true, Bool.false_eq_true, reduceCtorEq, not_false_eq_true, fv0, fv1, fv2, fv3, eb_l0, eb_l1, eb_l2, eb_l3, eb_l4, eb_l5, eb_s0, eb_s1, eb_s2, eb_s3, eb_s4, eb_s5, oz_add, oz_sub, oz_mul, oz_neg, ol_add, ol_sub, sD_eq, sD_sD, sD_ne, sD_in, sD_in2, sD_in3, upR_is, upR_ne, mk_v, mk_n, mk_x, mk_i, mv_cs, Nat.reduceLeDiff, mv_ch_z, hq, nl_L_leastSpill, hd_L_leastSpill_1]
theorem nl_L_leastSpillByPruning : mv_nh k_L_leastSpillByPruning = false := by decide +kernel
theorem w_L_leastSpillByPruning_ok {a1 a2 : Int32} {v : Int} (hv1 : -2147483648 ≤ v) (hv2 : v < 2147483648) (hq : mv_cl L xs d k_X10_leastSpillByPruning [.ref 0, .int a1, .int a2] (t, 149, mz T) = some (.inl (some (.int (Int32.ofInt v))), (t2, 149, mz T2))) : mv_cl L xs (d + 1) k_L_leastSpillByPruning [.ref 0, .int a1, .int a2, .ref 147] (t, 149, mz T) = some (.inl (some (.int (Int32.ofInt 0))), (t2, 149, mz (sD T2 147 (upR (T2.1 147) 0 v)))) := by
  apply mv_cl_of
  simp only [mv_il, Value.category, Nat.zero_add, Nat.reduceAdd]
  simp (disch := omega) only [mv_Ev_row r_L_leastSpillByPruning_0, mv_Ev_row r_L_leastSpillByPruning_1, mv_Ev_row r_L_leastSpillByPruning_2, mv_Ev_row r_L_leastSpillByPruning_3, mv_Ev_row r_L_leastSpillByPruning_4, mv_Ev_row r_L_leastSpillByPruning_5, mv_Ev_row r_L_leastSpillByPruning_8, mv_Ev_row r_L_leastSpillByPruning_9, mv_Ev_row r_L_leastSpillByPruning_10, mv_Ev_row r_L_leastSpillByPruning_13, mv_Ev_row r_L_leastSpillByPruning_15, mv_Ev_row r_L_leastSpillByPruning_16, mv_Ev_row r_L_leastSpillByPruning_17, mv_Ev_row r_L_leastSpillByPruning_19, mv_Ev_row r_L_leastSpillByPruning_20, mv_Ev_row r_L_leastSpillByPruning_21, mv_Ev_row r_L_leastSpillByPruning_23, mv_Ev_row r_L_leastSpillByPruning_24, mv_Ev_row r_L_leastSpillByPruning_25, mv_Ev_row r_L_leastSpillByPruning_26, ea_aload_n, ea_iconst, ea_iload_n, kv_X10_leastSpillByPruning, i2l_z, ea_goto, ea_astore, ea_ireturn, ez_ret, ez_retc, mv_ac, decide_eq_true_eq, not_true_eq_false, and_self, and_true, true_and, ea_2n, ea_2f, ea_2c, ea_if, if_pos, if_neg, mv_lk, mv_f1, mv_f2, Value.category, List.filter, ↓reduceIte, Nat.reduceEqDiff, Nat.reduceAdd, Nat.reduceLT, Nat.reduceBEq, Nat.zero_add, Nat.add_zero, Nat.zero_ne_one, Nat.one_ne_zero, Bool.not_true, Bool.not_false, Bool.and_true, Bool.true_and, Bool.and_false, Bool.false_and, BEq.rfl, beq_self_eq_true, Bool.false_eq_true, reduceCtorEq, not_false_eq_true, fv0, fv1, fv2, fv3, eb_l0, eb_l1, eb_l2, eb_l3, eb_l4, eb_l5, eb_s0, eb_s1, eb_s2, eb_s3, eb_s4, eb_s5, oz_add, oz_sub, oz_mul, oz_neg, ol_add, ol_sub, sD_eq, sD_sD, sD_ne, sD_in, sD_in2, sD_in3, upR_is, upR_ne, mk_v, mk_n, mk_x, mk_i, mv_cs, Nat.reduceLeDiff, mv_ch_z, hq, al_st]
theorem hd_L_leastSpillByPruning_2 : mv_hd k_L_leastSpillByPruning 5 2 = some (15, 4) := by
  have e : mv_hd1 5 2 (mv_hl k_L_leastSpillByPruning mv_hs) = some 13 := by decide +kernel
  unfold mv_hd
  rw [e]
  simp only [r_L_leastSpillByPruning_13] <;> rfl
theorem w_L_leastSpillByPruning_2 {a1 a2 : Int32} (hq : mv_cl L xs d k_X10_leastSpillByPruning [.ref 0, .int a1, .int a2] (t, 149, mz T) = some (.inr 2, (t2, 149, mz T2))) : mv_cl L xs (d + 1) k_L_leastSpillByPruning [.ref 0, .int a1, .int a2, .ref 147] (t, 149, mz T) = some (.inl (some (.int (Int32.ofInt 1))), (t2, 149, mz T2)) := by
  apply mv_cl_of
  simp only [mv_il, Value.category, Nat.zero_add, Nat.reduceAdd]
  simp (disch := omega) only [mv_Ev_row r_L_leastSpillByPruning_0, mv_Ev_row r_L_leastSpillByPruning_1, mv_Ev_row r_L_leastSpillByPruning_2, mv_Ev_row r_L_leastSpillByPruning_3, mv_Ev_row r_L_leastSpillByPruning_4, mv_Ev_row r_L_leastSpillByPruning_5, mv_Ev_row r_L_leastSpillByPruning_8, mv_Ev_row r_L_leastSpillByPruning_9, mv_Ev_row r_L_leastSpillByPruning_10, mv_Ev_row r_L_leastSpillByPruning_13, mv_Ev_row r_L_leastSpillByPruning_15, mv_Ev_row r_L_leastSpillByPruning_16, mv_Ev_row r_L_leastSpillByPruning_17, mv_Ev_row r_L_leastSpillByPruning_19, mv_Ev_row r_L_leastSpillByPruning_20, mv_Ev_row r_L_leastSpillByPruning_21, mv_Ev_row r_L_leastSpillByPruning_23, mv_Ev_row r_L_leastSpillByPruning_24, mv_Ev_row r_L_leastSpillByPruning_25, mv_Ev_row r_L_leastSpillByPruning_26, ea_aload_n, ea_iconst, ea_iload_n, kv_X10_leastSpillByPruning, i2l_z, ea_goto, ea_astore, ea_ireturn, ez_ret, ez_retc, mv_ac, decide_eq_true_eq, not_true_eq_false, and_self, and_true, true_and, ea_2n, ea_2f, ea_2c, ea_if, if_pos, if_neg, mv_lk, mv_f1, mv_f2, Value.category, List.filter, ↓reduceIte, Nat.reduceEqDiff, Nat.reduceAdd, Nat.reduceLT, Nat.reduceBEq, Nat.zero_add, Nat.add_zero, Nat.zero_ne_one, Nat.one_ne_zero, Bool.not_true, Bool.not_false, Bool.and_true, Bool.true_and, Bool.and_false, Bool.false_and, BEq.rfl, beq_self_eq_true, Bool.false_eq_true, reduceCtorEq, not_false_eq_true, fv0, fv1, fv2, fv3, eb_l0, eb_l1, eb_l2, eb_l3, eb_l4, eb_l5, eb_s0, eb_s1, eb_s2, eb_s3, eb_s4, eb_s5, oz_add, oz_sub, oz_mul, oz_neg, ol_add, ol_sub, sD_eq, sD_sD, sD_ne, sD_in, sD_in2, sD_in3, upR_is, upR_ne, mk_v, mk_n, mk_x, mk_i, mv_cs, Nat.reduceLeDiff, mv_ch_z, hq, nl_L_leastSpillByPruning, hd_L_leastSpillByPruning_2]
theorem hd_L_leastSpillByPruning_0 : mv_hd k_L_leastSpillByPruning 5 0 = some (19, 4) := by
  have e : mv_hd1 5 0 (mv_hl k_L_leastSpillByPruning mv_hs) = some 17 := by decide +kernel
  unfold mv_hd
  rw [e]
  simp only [r_L_leastSpillByPruning_17] <;> rfl
theorem w_L_leastSpillByPruning_0 {a1 a2 : Int32} (hq : mv_cl L xs d k_X10_leastSpillByPruning [.ref 0, .int a1, .int a2] (t, 149, mz T) = some (.inr 0, (t2, 149, mz T2))) : mv_cl L xs (d + 1) k_L_leastSpillByPruning [.ref 0, .int a1, .int a2, .ref 147] (t, 149, mz T) = some (.inl (some (.int (Int32.ofInt 2))), (t2, 149, mz T2)) := by
  apply mv_cl_of
  simp only [mv_il, Value.category, Nat.zero_add, Nat.reduceAdd]
  simp (disch := omega) only [mv_Ev_row r_L_leastSpillByPruning_0, mv_Ev_row r_L_leastSpillByPruning_1, mv_Ev_row r_L_leastSpillByPruning_2, mv_Ev_row r_L_leastSpillByPruning_3, mv_Ev_row r_L_leastSpillByPruning_4, mv_Ev_row r_L_leastSpillByPruning_5, mv_Ev_row r_L_leastSpillByPruning_8, mv_Ev_row r_L_leastSpillByPruning_9, mv_Ev_row r_L_leastSpillByPruning_10, mv_Ev_row r_L_leastSpillByPruning_13, mv_Ev_row r_L_leastSpillByPruning_15, mv_Ev_row r_L_leastSpillByPruning_16, mv_Ev_row r_L_leastSpillByPruning_17, mv_Ev_row r_L_leastSpillByPruning_19, mv_Ev_row r_L_leastSpillByPruning_20, mv_Ev_row r_L_leastSpillByPruning_21, mv_Ev_row r_L_leastSpillByPruning_23, mv_Ev_row r_L_leastSpillByPruning_24, mv_Ev_row r_L_leastSpillByPruning_25, mv_Ev_row r_L_leastSpillByPruning_26, ea_aload_n, ea_iconst, ea_iload_n, kv_X10_leastSpillByPruning, i2l_z, ea_goto, ea_astore, ea_ireturn, ez_ret, ez_retc, mv_ac, decide_eq_true_eq, not_true_eq_false, and_self, and_true, true_and, ea_2n, ea_2f, ea_2c, ea_if, if_pos, if_neg, mv_lk, mv_f1, mv_f2, Value.category, List.filter, ↓reduceIte, Nat.reduceEqDiff, Nat.reduceAdd, Nat.reduceLT, Nat.reduceBEq, Nat.zero_add, Nat.add_zero, Nat.zero_ne_one, Nat.one_ne_zero, Bool.not_true, Bool.not_false, Bool.and_true, Bool.true_and, Bool.and_false, Bool.false_and, BEq.rfl, beq_self_eq_true, Bool.false_eq_true, reduceCtorEq, not_false_eq_true, fv0, fv1, fv2, fv3, eb_l0, eb_l1, eb_l2, eb_l3, eb_l4, eb_l5, eb_s0, eb_s1, eb_s2, eb_s3, eb_s4, eb_s5, oz_add, oz_sub, oz_mul, oz_neg, ol_add, ol_sub, sD_eq, sD_sD, sD_ne, sD_in, sD_in2, sD_in3, upR_is, upR_ne, mk_v, mk_n, mk_x, mk_i, mv_cs, Nat.reduceLeDiff, mv_ch_z, hq, nl_L_leastSpillByPruning, hd_L_leastSpillByPruning_0]
theorem hd_L_leastSpillByPruning_1 : mv_hd k_L_leastSpillByPruning 5 1 = some (23, 4) := by
  have e : mv_hd1 5 1 (mv_hl k_L_leastSpillByPruning mv_hs) = some 21 := by decide +kernel
  unfold mv_hd
  rw [e]
  simp only [r_L_leastSpillByPruning_21] <;> rfl
theorem w_L_leastSpillByPruning_1 {a1 a2 : Int32} (hq : mv_cl L xs d k_X10_leastSpillByPruning [.ref 0, .int a1, .int a2] (t, 149, mz T) = some (.inr 1, (t2, 149, mz T2))) : mv_cl L xs (d + 1) k_L_leastSpillByPruning [.ref 0, .int a1, .int a2, .ref 147] (t, 149, mz T) = some (.inl (some (.int (Int32.ofInt 3))), (t2, 149, mz T2)) := by
  apply mv_cl_of
  simp only [mv_il, Value.category, Nat.zero_add, Nat.reduceAdd]
  simp (disch := omega) only [mv_Ev_row r_L_leastSpillByPruning_0, mv_Ev_row r_L_leastSpillByPruning_1, mv_Ev_row r_L_leastSpillByPruning_2, mv_Ev_row r_L_leastSpillByPruning_3, mv_Ev_row r_L_leastSpillByPruning_4, mv_Ev_row r_L_leastSpillByPruning_5, mv_Ev_row r_L_leastSpillByPruning_8, mv_Ev_row r_L_leastSpillByPruning_9, mv_Ev_row r_L_leastSpillByPruning_10, mv_Ev_row r_L_leastSpillByPruning_13, mv_Ev_row r_L_leastSpillByPruning_15, mv_Ev_row r_L_leastSpillByPruning_16, mv_Ev_row r_L_leastSpillByPruning_17, mv_Ev_row r_L_leastSpillByPruning_19, mv_Ev_row r_L_leastSpillByPruning_20, mv_Ev_row r_L_leastSpillByPruning_21, mv_Ev_row r_L_leastSpillByPruning_23, mv_Ev_row r_L_leastSpillByPruning_24, mv_Ev_row r_L_leastSpillByPruning_25, mv_Ev_row r_L_leastSpillByPruning_26, ea_aload_n, ea_iconst, ea_iload_n, kv_X10_leastSpillByPruning, i2l_z, ea_goto, ea_astore, ea_ireturn, ez_ret, ez_retc, mv_ac, decide_eq_true_eq, not_true_eq_false, and_self, and_true, true_and, ea_2n, ea_2f, ea_2c, ea_if, if_pos, if_neg, mv_lk, mv_f1, mv_f2, Value.category, List.filter, ↓reduceIte, Nat.reduceEqDiff, Nat.reduceAdd, Nat.reduceLT, Nat.reduceBEq, Nat.zero_add, Nat.add_zero, Nat.zero_ne_one, Nat.one_ne_zero, Bool.not_true, Bool.not_false, Bool.and_true, Bool.true_and, Bool.and_false, Bool.false_and, BEq.rfl, beq_self_eq_true, Bool.false_eq_true, reduceCtorEq, not_false_eq_true, fv0, fv1, fv2, fv3, eb_l0, eb_l1, eb_l2, eb_l3, eb_l4, eb_l5, eb_s0, eb_s1, eb_s2, eb_s3, eb_s4, eb_s5, oz_add, oz_sub, oz_mul, oz_neg, ol_add, ol_sub, sD_eq, sD_sD, sD_ne, sD_in, sD_in2, sD_in3, upR_is, upR_ne, mk_v, mk_n, mk_x, mk_i, mv_cs, Nat.reduceLeDiff, mv_ch_z, hq, nl_L_leastSpillByPruning, hd_L_leastSpillByPruning_1]
theorem nl_L_bestOpening : mv_nh k_L_bestOpening = false := by decide +kernel
theorem w_L_bestOpening_ok {a1 a2 : Int32} {v : Int} (hv1 : -2147483648 ≤ v) (hv2 : v < 2147483648) (hq : mv_cl L xs d k_X10_bestOpening [.ref 0, .int a1, .int a2] (t, 149, mz T) = some (.inl (some (.int (Int32.ofInt v))), (t2, 149, mz T2))) : mv_cl L xs (d + 1) k_L_bestOpening [.ref 0, .int a1, .int a2, .ref 147] (t, 149, mz T) = some (.inl (some (.int (Int32.ofInt 0))), (t2, 149, mz (sD T2 147 (upR (T2.1 147) 0 v)))) := by
  apply mv_cl_of
  simp only [mv_il, Value.category, Nat.zero_add, Nat.reduceAdd]
  simp (disch := omega) only [mv_Ev_row r_L_bestOpening_0, mv_Ev_row r_L_bestOpening_1, mv_Ev_row r_L_bestOpening_2, mv_Ev_row r_L_bestOpening_3, mv_Ev_row r_L_bestOpening_4, mv_Ev_row r_L_bestOpening_5, mv_Ev_row r_L_bestOpening_8, mv_Ev_row r_L_bestOpening_9, mv_Ev_row r_L_bestOpening_10, mv_Ev_row r_L_bestOpening_13, mv_Ev_row r_L_bestOpening_15, mv_Ev_row r_L_bestOpening_16, mv_Ev_row r_L_bestOpening_17, mv_Ev_row r_L_bestOpening_19, mv_Ev_row r_L_bestOpening_20, mv_Ev_row r_L_bestOpening_21, mv_Ev_row r_L_bestOpening_23, mv_Ev_row r_L_bestOpening_24, mv_Ev_row r_L_bestOpening_25, mv_Ev_row r_L_bestOpening_26, ea_aload_n, ea_iconst, ea_iload_n, kv_X10_bestOpening, i2l_z, ea_goto, ea_astore, ea_ireturn, ez_ret, ez_retc, mv_ac, decide_eq_true_eq, not_true_eq_false, and_self, and_true, true_and, ea_2n, ea_2f, ea_2c, ea_if, if_pos, if_neg, mv_lk, mv_f1, mv_f2, Value.category, List.filter, ↓reduceIte, Nat.reduceEqDiff, Nat.reduceAdd, Nat.reduceLT, Nat.reduceBEq, Nat.zero_add, Nat.add_zero, Nat.zero_ne_one, Nat.one_ne_zero, Bool.not_true, Bool.not_false, Bool.and_true, Bool.true_and, Bool.and_false, Bool.false_and, BEq.rfl, beq_self_eq_true, Bool.false_eq_true, reduceCtorEq, not_false_eq_true, fv0, fv1, fv2, fv3, eb_l0, eb_l1, eb_l2, eb_l3, eb_l4, eb_l5, eb_s0, eb_s1, eb_s2, eb_s3, eb_s4, eb_s5, oz_add, oz_sub, oz_mul, oz_neg, ol_add, ol_sub, sD_eq, sD_sD, sD_ne, sD_in, sD_in2, sD_in3, upR_is, upR_ne, mk_v, mk_n, mk_x, mk_i, mv_cs, Nat.reduceLeDiff, mv_ch_z, hq, al_st]
theorem hd_L_bestOpening_2 : mv_hd k_L_bestOpening 5 2 = some (15, 4) := by
  have e : mv_hd1 5 2 (mv_hl k_L_bestOpening mv_hs) = some 13 := by decide +kernel
  unfold mv_hd
  rw [e]
  simp only [r_L_bestOpening_13] <;> rfl
theorem w_L_bestOpening_2 {a1 a2 : Int32} (hq : mv_cl L xs d k_X10_bestOpening [.ref 0, .int a1, .int a2] (t, 149, mz T) = some (.inr 2, (t2, 149, mz T2))) : mv_cl L xs (d + 1) k_L_bestOpening [.ref 0, .int a1, .int a2, .ref 147] (t, 149, mz T) = some (.inl (some (.int (Int32.ofInt 1))), (t2, 149, mz T2)) := by
  apply mv_cl_of
  simp only [mv_il, Value.category, Nat.zero_add, Nat.reduceAdd]
  simp (disch := omega) only [mv_Ev_row r_L_bestOpening_0, mv_Ev_row r_L_bestOpening_1, mv_Ev_row r_L_bestOpening_2, mv_Ev_row r_L_bestOpening_3, mv_Ev_row r_L_bestOpening_4, mv_Ev_row r_L_bestOpening_5, mv_Ev_row r_L_bestOpening_8, mv_Ev_row r_L_bestOpening_9, mv_Ev_row r_L_bestOpening_10, mv_Ev_row r_L_bestOpening_13, mv_Ev_row r_L_bestOpening_15, mv_Ev_row r_L_bestOpening_16, mv_Ev_row r_L_bestOpening_17, mv_Ev_row r_L_bestOpening_19, mv_Ev_row r_L_bestOpening_20, mv_Ev_row r_L_bestOpening_21, mv_Ev_row r_L_bestOpening_23, mv_Ev_row r_L_bestOpening_24, mv_Ev_row r_L_bestOpening_25, mv_Ev_row r_L_bestOpening_26, ea_aload_n, ea_iconst, ea_iload_n, kv_X10_bestOpening, i2l_z, ea_goto, ea_astore, ea_ireturn, ez_ret, ez_retc, mv_ac, decide_eq_true_eq, not_true_eq_false, and_self, and_true, true_and, ea_2n, ea_2f, ea_2c, ea_if, if_pos, if_neg, mv_lk, mv_f1, mv_f2, Value.category, List.filter, ↓reduceIte, Nat.reduceEqDiff, Nat.reduceAdd, Nat.reduceLT, Nat.reduceBEq, Nat.zero_add, Nat.add_zero, Nat.zero_ne_one, Nat.one_ne_zero, Bool.not_true, Bool.not_false, Bool.and_true, Bool.true_and, Bool.and_false, Bool.false_and, BEq.rfl, beq_self_eq_true, Bool.false_eq_true, reduceCtorEq, not_false_eq_true, fv0, fv1, fv2, fv3, eb_l0, eb_l1, eb_l2, eb_l3, eb_l4, eb_l5, eb_s0, eb_s1, eb_s2, eb_s3, eb_s4, eb_s5, oz_add, oz_sub, oz_mul, oz_neg, ol_add, ol_sub, sD_eq, sD_sD, sD_ne, sD_in, sD_in2, sD_in3, upR_is, upR_ne, mk_v, mk_n, mk_x, mk_i, mv_cs, Nat.reduceLeDiff, mv_ch_z, hq, nl_L_bestOpening, hd_L_bestOpening_2]
theorem hd_L_bestOpening_0 : mv_hd k_L_bestOpening 5 0 = some (19, 4) := by
  have e : mv_hd1 5 0 (mv_hl k_L_bestOpening mv_hs) = some 17 := by decide +kernel
  unfold mv_hd
  rw [e]
  simp only [r_L_bestOpening_17] <;> rfl
theorem w_L_bestOpening_0 {a1 a2 : Int32} (hq : mv_cl L xs d k_X10_bestOpening [.ref 0, .int a1, .int a2] (t, 149, mz T) = some (.inr 0, (t2, 149, mz T2))) : mv_cl L xs (d + 1) k_L_bestOpening [.ref 0, .int a1, .int a2, .ref 147] (t, 149, mz T) = some (.inl (some (.int (Int32.ofInt 2))), (t2, 149, mz T2)) := by
  apply mv_cl_of
  simp only [mv_il, Value.category, Nat.zero_add, Nat.reduceAdd]
  simp (disch := omega) only [mv_Ev_row r_L_bestOpening_0, mv_Ev_row r_L_bestOpening_1, mv_Ev_row r_L_bestOpening_2, mv_Ev_row r_L_bestOpening_3, mv_Ev_row r_L_bestOpening_4, mv_Ev_row r_L_bestOpening_5, mv_Ev_row r_L_bestOpening_8, mv_Ev_row r_L_bestOpening_9, mv_Ev_row r_L_bestOpening_10, mv_Ev_row r_L_bestOpening_13, mv_Ev_row r_L_bestOpening_15, mv_Ev_row r_L_bestOpening_16, mv_Ev_row r_L_bestOpening_17, mv_Ev_row r_L_bestOpening_19, mv_Ev_row r_L_bestOpening_20, mv_Ev_row r_L_bestOpening_21, mv_Ev_row r_L_bestOpening_23, mv_Ev_row r_L_bestOpening_24, mv_Ev_row r_L_bestOpening_25, mv_Ev_row r_L_bestOpening_26, ea_aload_n, ea_iconst, ea_iload_n, kv_X10_bestOpening, i2l_z, ea_goto, ea_astore, ea_ireturn, ez_ret, ez_retc, mv_ac, decide_eq_true_eq, not_true_eq_false, and_self, and_true, true_and, ea_2n, ea_2f, ea_2c, ea_if, if_pos, if_neg, mv_lk, mv_f1, mv_f2, Value.category, List.filter, ↓reduceIte, Nat.reduceEqDiff, Nat.reduceAdd, Nat.reduceLT, Nat.reduceBEq, Nat.zero_add, Nat.add_zero, Nat.zero_ne_one, Nat.one_ne_zero, Bool.not_true, Bool.not_false, Bool.and_true, Bool.true_and, Bool.and_false, Bool.false_and, BEq.rfl, beq_self_eq_true, Bool.false_eq_true, reduceCtorEq, not_false_eq_true, fv0, fv1, fv2, fv3, eb_l0, eb_l1, eb_l2, eb_l3, eb_l4, eb_l5, eb_s0, eb_s1, eb_s2, eb_s3, eb_s4, eb_s5, oz_add, oz_sub, oz_mul, oz_neg, ol_add, ol_sub, sD_eq, sD_sD, sD_ne, sD_in, sD_in2, sD_in3, upR_is, upR_ne, mk_v, mk_n, mk_x, mk_i, mv_cs, Nat.reduceLeDiff, mv_ch_z, hq, nl_L_bestOpening, hd_L_bestOpening_0]
theorem hd_L_bestOpening_1 : mv_hd k_L_bestOpening 5 1 = some (23, 4) := by
  have e : mv_hd1 5 1 (mv_hl k_L_bestOpening mv_hs) = some 21 := by decide +kernel
  unfold mv_hd
  rw [e]
  simp only [r_L_bestOpening_21] <;> rfl
theorem w_L_bestOpening_1 {a1 a2 : Int32} (hq : mv_cl L xs d k_X10_bestOpening [.ref 0, .int a1, .int a2] (t, 149, mz T) = some (.inr 1, (t2, 149, mz T2))) : mv_cl L xs (d + 1) k_L_bestOpening [.ref 0, .int a1, .int a2, .ref 147] (t, 149, mz T) = some (.inl (some (.int (Int32.ofInt 3))), (t2, 149, mz T2)) := by
  apply mv_cl_of
  simp only [mv_il, Value.category, Nat.zero_add, Nat.reduceAdd]
  simp (disch := omega) only [mv_Ev_row r_L_bestOpening_0, mv_Ev_row r_L_bestOpening_1, mv_Ev_row r_L_bestOpening_2, mv_Ev_row r_L_bestOpening_3, mv_Ev_row r_L_bestOpening_4, mv_Ev_row r_L_bestOpening_5, mv_Ev_row r_L_bestOpening_8, mv_Ev_row r_L_bestOpening_9, mv_Ev_row r_L_bestOpening_10, mv_Ev_row r_L_bestOpening_13, mv_Ev_row r_L_bestOpening_15, mv_Ev_row r_L_bestOpening_16, mv_Ev_row r_L_bestOpening_17, mv_Ev_row r_L_bestOpening_19, mv_Ev_row r_L_bestOpening_20, mv_Ev_row r_L_bestOpening_21, mv_Ev_row r_L_bestOpening_23, mv_Ev_row r_L_bestOpening_24, mv_Ev_row r_L_bestOpening_25, mv_Ev_row r_L_bestOpening_26, ea_aload_n, ea_iconst, ea_iload_n, kv_X10_bestOpening, i2l_z, ea_goto, ea_astore, ea_ireturn, ez_ret, ez_retc, mv_ac, decide_eq_true_eq, not_true_eq_false, and_self, and_true, true_and, ea_2n, ea_2f, ea_2c, ea_if, if_pos, if_neg, mv_lk, mv_f1, mv_f2, Value.category, List.filter, ↓reduceIte, Nat.reduceEqDiff, Nat.reduceAdd, Nat.reduceLT, Nat.reduceBEq, Nat.zero_add, Nat.add_zero, Nat.zero_ne_one, Nat.one_ne_zero, Bool.not_true, Bool.not_false, Bool.and_true, Bool.true_and, Bool.and_false, Bool.false_and, BEq.rfl, beq_self_eq_true, Bool.false_eq_true, reduceCtorEq, not_false_eq_true, fv0, fv1, fv2, fv3, eb_l0, eb_l1, eb_l2, eb_l3, eb_l4, eb_l5, eb_s0, eb_s1, eb_s2, eb_s3, eb_s4, eb_s5, oz_add, oz_sub, oz_mul, oz_neg, ol_add, ol_sub, sD_eq, sD_sD, sD_ne, sD_in, sD_in2, sD_in3, upR_is, upR_ne, mk_v, mk_n, mk_x, mk_i, mv_cs, Nat.reduceLeDiff, mv_ch_z, hq, nl_L_bestOpening, hd_L_bestOpening_1]
theorem nl_L_endangered : mv_nh k_L_endangered = false := by decide +kernel
theorem w_L_endangered_ok {a1 : Int32} {v : Int} (hv1 : -2147483648 ≤ v) (hv2 : v < 2147483648) (hq : mv_cl L xs d k_X10_endangered [.ref 0, .int a1] (t, 149, mz T) = some (.inl (some (.int (Int32.ofInt v))), (t2, 149, mz T2))) : mv_cl L xs (d + 1) k_L_endangered [.ref 0, .int a1, .ref 147] (t, 149, mz T) = some (.inl (some (.int (Int32.ofInt 0))), (t2, 149, mz (sD T2 147 (upR (T2.1 147) 0 v)))) := by
  apply mv_cl_of
  simp only [mv_il, Value.category, Nat.zero_add, Nat.reduceAdd]
  simp (disch := omega) only [mv_Ev_row r_L_endangered_0, mv_Ev_row r_L_endangered_1, mv_Ev_row r_L_endangered_2, mv_Ev_row r_L_endangered_3, mv_Ev_row r_L_endangered_4, mv_Ev_row r_L_endangered_7, mv_Ev_row r_L_endangered_8, mv_Ev_row r_L_endangered_9, mv_Ev_row r_L_endangered_12, mv_Ev_row r_L_endangered_13, mv_Ev_row r_L_endangered_14, mv_Ev_row r_L_endangered_15, mv_Ev_row r_L_endangered_16, ea_aload_n, ea_iconst, ea_iload_n, kv_X10_endangered, i2l_z, ea_goto, ea_astore_n, ea_ireturn, ez_ret, ez_retc, mv_ac, decide_eq_true_eq, not_true_eq_false, and_self, and_true, true_and, ea_2n, ea_2f, ea_2c, ea_if, if_pos, if_neg, mv_lk, mv_f1, mv_f2, Value.category, List.filter, ↓reduceIte, Nat.reduceEqDiff, Nat.reduceAdd, Nat.reduceLT, Nat.reduceBEq, Nat.zero_add, Nat.add_zero, Nat.zero_ne_one, Nat.one_ne_zero, Bool.not_true, Bool.not_false, Bool.and_true, Bool.true_and, Bool.and_false, Bool.false_and, BEq.rfl, beq_self_eq_true, Bool.false_eq_true, reduceCtorEq, not_false_eq_true, fv0, fv1, fv2, fv3, eb_l0, eb_l1, eb_l2, eb_l3, eb_l4, eb_l5, eb_s0, eb_s1, eb_s2, eb_s3, eb_s4, eb_s5, oz_add, oz_sub, oz_mul, oz_neg, ol_add, ol_sub, sD_eq, sD_sD, sD_ne, sD_in, sD_in2, sD_in3, upR_is, upR_ne, mk_v, mk_n, mk_x, mk_i, mv_cs, Nat.reduceLeDiff, mv_ch_z, hq, al_st]
theorem hd_L_endangered_0 : mv_hd k_L_endangered 4 0 = some (13, 3) := by
  have e : mv_hd1 4 0 (mv_hl k_L_endangered mv_hs) = some 12 := by decide +kernel
  unfold mv_hd
  rw [e]
  simp only [r_L_endangered_12] <;> rfl
theorem w_L_endangered_0 {a1 : Int32} (hq : mv_cl L xs d k_X10_endangered [.ref 0, .int a1] (t, 149, mz T) = some (.inr 0, (t2, 149, mz T2))) : mv_cl L xs (d + 1) k_L_endangered [.ref 0, .int a1, .ref 147] (t, 149, mz T) = some (.inl (some (.int (Int32.ofInt 1))), (t2, 149, mz T2)) := by
  apply mv_cl_of
  simp only [mv_il, Value.category, Nat.zero_add, Nat.reduceAdd]
  simp (disch := omega) only [mv_Ev_row r_L_endangered_0, mv_Ev_row r_L_endangered_1, mv_Ev_row r_L_endangered_2, mv_Ev_row r_L_endangered_3, mv_Ev_row r_L_endangered_4, mv_Ev_row r_L_endangered_7, mv_Ev_row r_L_endangered_8, mv_Ev_row r_L_endangered_9, mv_Ev_row r_L_endangered_12, mv_Ev_row r_L_endangered_13, mv_Ev_row r_L_endangered_14, mv_Ev_row r_L_endangered_15, mv_Ev_row r_L_endangered_16, ea_aload_n, ea_iconst, ea_iload_n, kv_X10_endangered, i2l_z, ea_goto, ea_astore_n, ea_ireturn, ez_ret, ez_retc, mv_ac, decide_eq_true_eq, not_true_eq_false, and_self, and_true, true_and, ea_2n, ea_2f, ea_2c, ea_if, if_pos, if_neg, mv_lk, mv_f1, mv_f2, Value.category, List.filter, ↓reduceIte, Nat.reduceEqDiff, Nat.reduceAdd, Nat.reduceLT, Nat.reduceBEq, Nat.zero_add, Nat.add_zero, Nat.zero_ne_one, Nat.one_ne_zero, Bool.not_true, Bool.not_false, Bool.and_true, Bool.true_and, Bool.and_false, Bool.false_and, BEq.rfl, beq_self_eq_true, Bool.false_eq_true, reduceCtorEq, not_false_eq_true, fv0, fv1, fv2, fv3, eb_l0, eb_l1, eb_l2, eb_l3, eb_l4, eb_l5, eb_s0, eb_s1, eb_s2, eb_s3, eb_s4, eb_s5, oz_add, oz_sub, oz_mul, oz_neg, ol_add, ol_sub, sD_eq, sD_sD, sD_ne, sD_in, sD_in2, sD_in3, upR_is, upR_ne, mk_v, mk_n, mk_x, mk_i, mv_cs, Nat.reduceLeDiff, mv_ch_z, hq, nl_L_endangered, hd_L_endangered_0]
theorem nl_L_bestProtection : mv_nh k_L_bestProtection = false := by decide +kernel
theorem w_L_bestProtection_ok {a1 a2 : Int32} {v : Int} (hv1 : -2147483648 ≤ v) (hv2 : v < 2147483648) (hq : mv_cl L xs d k_X10_bestProtection [.ref 0, .int a1, .int a2] (t, 149, mz T) = some (.inl (some (.int (Int32.ofInt v))), (t2, 149, mz T2))) : mv_cl L xs (d + 1) k_L_bestProtection [.ref 0, .int a1, .int a2, .ref 147] (t, 149, mz T) = some (.inl (some (.int (Int32.ofInt 0))), (t2, 149, mz (sD T2 147 (upR (T2.1 147) 0 v)))) := by
  apply mv_cl_of
  simp only [mv_il, Value.category, Nat.zero_add, Nat.reduceAdd]
  simp (disch := omega) only [mv_Ev_row r_L_bestProtection_0, mv_Ev_row r_L_bestProtection_1, mv_Ev_row r_L_bestProtection_2, mv_Ev_row r_L_bestProtection_3, mv_Ev_row r_L_bestProtection_4, mv_Ev_row r_L_bestProtection_5, mv_Ev_row r_L_bestProtection_8, mv_Ev_row r_L_bestProtection_9, mv_Ev_row r_L_bestProtection_10, mv_Ev_row r_L_bestProtection_13, mv_Ev_row r_L_bestProtection_15, mv_Ev_row r_L_bestProtection_16, mv_Ev_row r_L_bestProtection_17, mv_Ev_row r_L_bestProtection_18, ea_aload_n, ea_iconst, ea_iload_n, kv_X10_bestProtection, i2l_z, ea_goto, ea_astore, ea_ireturn, ez_ret, ez_retc, mv_ac, decide_eq_true_eq, not_true_eq_false, and_self, and_true, true_and, ea_2n, ea_2f, ea_2c, ea_if, if_pos, if_neg, mv_lk, mv_f1, mv_f2, Value.category, List.filter, ↓reduceIte, Nat.reduceEqDiff, Nat.reduceAdd, Nat.reduceLT, Nat.reduceBEq, Nat.zero_add, Nat.add_zero, Nat.zero_ne_one, Nat.one_ne_zero, Bool.not_true, Bool.not_false, Bool.and_true, Bool.true_and, Bool.and_false, Bool.false_and, BEq.rfl, beq_self_eq_true, Bool.false_eq_true, reduceCtorEq, not_false_eq_true, fv0, fv1, fv2, fv3, eb_l0, eb_l1, eb_l2, eb_l3, eb_l4, eb_l5, eb_s0, eb_s1, eb_s2, eb_s3, eb_s4, eb_s5, oz_add, oz_sub, oz_mul, oz_neg, ol_add, ol_sub, sD_eq, sD_sD, sD_ne, sD_in, sD_in2, sD_in3, upR_is, upR_ne, mk_v, mk_n, mk_x, mk_i, mv_cs, Nat.reduceLeDiff, mv_ch_z, hq, al_st]
theorem hd_L_bestProtection_0 : mv_hd k_L_bestProtection 5 0 = some (15, 4) := by
  have e : mv_hd1 5 0 (mv_hl k_L_bestProtection mv_hs) = some 13 := by decide +kernel
  unfold mv_hd
  rw [e]
  simp only [r_L_bestProtection_13] <;> rfl
theorem w_L_bestProtection_0 {a1 a2 : Int32} (hq : mv_cl L xs d k_X10_bestProtection [.ref 0, .int a1, .int a2] (t, 149, mz T) = some (.inr 0, (t2, 149, mz T2))) : mv_cl L xs (d + 1) k_L_bestProtection [.ref 0, .int a1, .int a2, .ref 147] (t, 149, mz T) = some (.inl (some (.int (Int32.ofInt 1))), (t2, 149, mz T2)) := by
  apply mv_cl_of
  simp only [mv_il, Value.category, Nat.zero_add, Nat.reduceAdd]
  simp (disch := omega) only [mv_Ev_row r_L_bestProtection_0, mv_Ev_row r_L_bestProtection_1, mv_Ev_row r_L_bestProtection_2, mv_Ev_row r_L_bestProtection_3, mv_Ev_row r_L_bestProtection_4, mv_Ev_row r_L_bestProtection_5, mv_Ev_row r_L_bestProtection_8, mv_Ev_row r_L_bestProtection_9, mv_Ev_row r_L_bestProtection_10, mv_Ev_row r_L_bestProtection_13, mv_Ev_row r_L_bestProtection_15, mv_Ev_row r_L_bestProtection_16, mv_Ev_row r_L_bestProtection_17, mv_Ev_row r_L_bestProtection_18, ea_aload_n, ea_iconst, ea_iload_n, kv_X10_bestProtection, i2l_z, ea_goto, ea_astore, ea_ireturn, ez_ret, ez_retc, mv_ac, decide_eq_true_eq, not_true_eq_false, and_self, and_true, true_and, ea_2n, ea_2f, ea_2c, ea_if, if_pos, if_neg, mv_lk, mv_f1, mv_f2, Value.category, List.filter, ↓reduceIte, Nat.reduceEqDiff, Nat.reduceAdd, Nat.reduceLT, Nat.reduceBEq, Nat.zero_add, Nat.add_zero, Nat.zero_ne_one, Nat.one_ne_zero, Bool.not_true, Bool.not_false, Bool.and_true, Bool.true_and, Bool.and_false, Bool.false_and, BEq.rfl, beq_self_eq_true, Bool.false_eq_true, reduceCtorEq, not_false_eq_true, fv0, fv1, fv2, fv3, eb_l0, eb_l1, eb_l2, eb_l3, eb_l4, eb_l5, eb_s0, eb_s1, eb_s2, eb_s3, eb_s4, eb_s5, oz_add, oz_sub, oz_mul, oz_neg, ol_add, ol_sub, sD_eq, sD_sD, sD_ne, sD_in, sD_in2, sD_in3, upR_is, upR_ne, mk_v, mk_n, mk_x, mk_i, mv_cs, Nat.reduceLeDiff, mv_ch_z, hq, nl_L_bestProtection, hd_L_bestProtection_0]
theorem nl_L_bestProtectionBySets : mv_nh k_L_bestProtectionBySets = false := by decide +kernel
theorem w_L_bestProtectionBySets_ok {a1 a2 : Int32} {v : Int} (hv1 : -2147483648 ≤ v) (hv2 : v < 2147483648) (hq : mv_cl L xs d k_X10_bestProtectionBySets [.ref 0, .int a1, .int a2] (t, 149, mz T) = some (.inl (some (.int (Int32.ofInt v))), (t2, 149, mz T2))) : mv_cl L xs (d + 1) k_L_bestProtectionBySets [.ref 0, .int a1, .int a2, .ref 147] (t, 149, mz T) = some (.inl (some (.int (Int32.ofInt 0))), (t2, 149, mz (sD T2 147 (upR (T2.1 147) 0 v)))) := by
  apply mv_cl_of
  simp only [mv_il, Value.category, Nat.zero_add, Nat.reduceAdd]
  simp (disch := omega) only [mv_Ev_row r_L_bestProtectionBySets_0, mv_Ev_row r_L_bestProtectionBySets_1, mv_Ev_row r_L_bestProtectionBySets_2, mv_Ev_row r_L_bestProtectionBySets_3, mv_Ev_row r_L_bestProtectionBySets_4, mv_Ev_row r_L_bestProtectionBySets_5, mv_Ev_row r_L_bestProtectionBySets_8, mv_Ev_row r_L_bestProtectionBySets_9, mv_Ev_row r_L_bestProtectionBySets_10, mv_Ev_row r_L_bestProtectionBySets_13, mv_Ev_row r_L_bestProtectionBySets_15, mv_Ev_row r_L_bestProtectionBySets_16, mv_Ev_row r_L_bestProtectionBySets_17, mv_Ev_row r_L_bestProtectionBySets_18, ea_aload_n, ea_iconst, ea_iload_n, kv_X10_bestProtectionBySets, i2l_z, ea_goto, ea_astore, ea_ireturn, ez_ret, ez_retc, mv_ac, decide_eq_true_eq, not_true_eq_false, and_self, and_true, true_and, ea_2n, ea_2f, ea_2c, ea_if, if_pos, if_neg, mv_lk, mv_f1, mv_f2, Value.category, List.filter, ↓reduceIte, Nat.reduceEqDiff, Nat.reduceAdd, Nat.reduceLT, Nat.reduceBEq, Nat.zero_add, Nat.add_zero, Nat.zero_ne_one, Nat.one_ne_zero, Bool.not_true, Bool.not_false, Bool.and_true, Bool.true_and, Bool.and_false, Bool.false_and, BEq.rfl, beq_self_eq_true, Bool.false_eq_true, reduceCtorEq, not_false_eq_true, fv0, fv1, fv2, fv3, eb_l0, eb_l1, eb_l2, eb_l3, eb_l4, eb_l5, eb_s0, eb_s1, eb_s2, eb_s3, eb_s4, eb_s5, oz_add, oz_sub, oz_mul, oz_neg, ol_add, ol_sub, sD_eq, sD_sD, sD_ne, sD_in, sD_in2, sD_in3, upR_is, upR_ne, mk_v, mk_n, mk_x, mk_i, mv_cs, Nat.reduceLeDiff, mv_ch_z, hq, al_st]
theorem hd_L_bestProtectionBySets_0 : mv_hd k_L_bestProtectionBySets 5 0 = some (15, 4) := by
  have e : mv_hd1 5 0 (mv_hl k_L_bestProtectionBySets mv_hs) = some 13 := by decide +kernel
  unfold mv_hd
  rw [e]
  simp only [r_L_bestProtectionBySets_13] <;> rfl
theorem w_L_bestProtectionBySets_0 {a1 a2 : Int32} (hq : mv_cl L xs d k_X10_bestProtectionBySets [.ref 0, .int a1, .int a2] (t, 149, mz T) = some (.inr 0, (t2, 149, mz T2))) : mv_cl L xs (d + 1) k_L_bestProtectionBySets [.ref 0, .int a1, .int a2, .ref 147] (t, 149, mz T) = some (.inl (some (.int (Int32.ofInt 1))), (t2, 149, mz T2)) := by
  apply mv_cl_of
  simp only [mv_il, Value.category, Nat.zero_add, Nat.reduceAdd]
  simp (disch := omega) only [mv_Ev_row r_L_bestProtectionBySets_0, mv_Ev_row r_L_bestProtectionBySets_1, mv_Ev_row r_L_bestProtectionBySets_2, mv_Ev_row r_L_bestProtectionBySets_3, mv_Ev_row r_L_bestProtectionBySets_4, mv_Ev_row r_L_bestProtectionBySets_5, mv_Ev_row r_L_bestProtectionBySets_8, mv_Ev_row r_L_bestProtectionBySets_9, mv_Ev_row r_L_bestProtectionBySets_10, mv_Ev_row r_L_bestProtectionBySets_13, mv_Ev_row r_L_bestProtectionBySets_15, mv_Ev_row r_L_bestProtectionBySets_16, mv_Ev_row r_L_bestProtectionBySets_17, mv_Ev_row r_L_bestProtectionBySets_18, ea_aload_n, ea_iconst, ea_iload_n, kv_X10_bestProtectionBySets, i2l_z, ea_goto, ea_astore, ea_ireturn, ez_ret, ez_retc, mv_ac, decide_eq_true_eq, not_true_eq_false, and_self, and_true, true_and, ea_2n, ea_2f, ea_2c, ea_if, if_pos, if_neg, mv_lk, mv_f1, mv_f2, Value.category, List.filter, ↓reduceIte, Nat.reduceEqDiff, Nat.reduceAdd, Nat.reduceLT, Nat.reduceBEq, Nat.zero_add, Nat.add_zero, Nat.zero_ne_one, Nat.one_ne_zero, Bool.not_true, Bool.not_false, Bool.and_true, Bool.true_and, Bool.and_false, Bool.false_and, BEq.rfl, beq_self_eq_true, Bool.false_eq_true, reduceCtorEq, not_false_eq_true, fv0, fv1, fv2, fv3, eb_l0, eb_l1, eb_l2, eb_l3, eb_l4, eb_l5, eb_s0, eb_s1, eb_s2, eb_s3, eb_s4, eb_s5, oz_add, oz_sub, oz_mul, oz_neg, ol_add, ol_sub, sD_eq, sD_sD, sD_ne, sD_in, sD_in2, sD_in3, upR_is, upR_ne, mk_v, mk_n, mk_x, mk_i, mv_cs, Nat.reduceLeDiff, mv_ch_z, hq, nl_L_bestProtectionBySets, hd_L_bestProtectionBySets_0]
theorem nl_L_bagsForAll : mv_nh k_L_bagsForAll = false := by decide +kernel
theorem w_L_bagsForAll_ok {a1 : Int32} {v : Int} (hv1 : -2147483648 ≤ v) (hv2 : v < 2147483648) (hq : mv_cl L xs d k_X10_bagsForAll [.ref 0, .int a1] (t, 149, mz T) = some (.inl (some (.int (Int32.ofInt v))), (t2, 149, mz T2))) : mv_cl L xs (d + 1) k_L_bagsForAll [.ref 0, .int a1, .ref 147] (t, 149, mz T) = some (.inl (some (.int (Int32.ofInt 0))), (t2, 149, mz (sD T2 147 (upR (T2.1 147) 0 v)))) := by
  apply mv_cl_of
  simp only [mv_il, Value.category, Nat.zero_add, Nat.reduceAdd]
  simp (disch := omega) only [mv_Ev_row r_L_bagsForAll_0, mv_Ev_row r_L_bagsForAll_1, mv_Ev_row r_L_bagsForAll_2, mv_Ev_row r_L_bagsForAll_3, mv_Ev_row r_L_bagsForAll_4, mv_Ev_row r_L_bagsForAll_7, mv_Ev_row r_L_bagsForAll_8, mv_Ev_row r_L_bagsForAll_9, mv_Ev_row r_L_bagsForAll_12, mv_Ev_row r_L_bagsForAll_13, mv_Ev_row r_L_bagsForAll_14, mv_Ev_row r_L_bagsForAll_15, mv_Ev_row r_L_bagsForAll_16, ea_aload_n, ea_iconst, ea_iload_n, kv_X10_bagsForAll, i2l_z, ea_goto, ea_astore_n, ea_ireturn, ez_ret, ez_retc, mv_ac, decide_eq_true_eq, not_true_eq_false, and_self, and_true, true_and, ea_2n, ea_2f, ea_2c, ea_if, if_pos, if_neg, mv_lk, mv_f1, mv_f2, Value.category, List.filter, ↓reduceIte, Nat.reduceEqDiff, Nat.reduceAdd, Nat.reduceLT, Nat.reduceBEq, Nat.zero_add, Nat.add_zero, Nat.zero_ne_one, Nat.one_ne_zero, Bool.not_true, Bool.not_false, Bool.and_true, Bool.true_and, Bool.and_false, Bool.false_and, BEq.rfl, beq_self_eq_true, Bool.false_eq_true, reduceCtorEq, not_false_eq_true, fv0, fv1, fv2, fv3, eb_l0, eb_l1, eb_l2, eb_l3, eb_l4, eb_l5, eb_s0, eb_s1, eb_s2, eb_s3, eb_s4, eb_s5, oz_add, oz_sub, oz_mul, oz_neg, ol_add, ol_sub, sD_eq, sD_sD, sD_ne, sD_in, sD_in2, sD_in3, upR_is, upR_ne, mk_v, mk_n, mk_x, mk_i, mv_cs, Nat.reduceLeDiff, mv_ch_z, hq, al_st]
theorem hd_L_bagsForAll_0 : mv_hd k_L_bagsForAll 4 0 = some (13, 3) := by
  have e : mv_hd1 4 0 (mv_hl k_L_bagsForAll mv_hs) = some 12 := by decide +kernel
  unfold mv_hd
  rw [e]
  simp only [r_L_bagsForAll_12] <;> rfl
theorem w_L_bagsForAll_0 {a1 : Int32} (hq : mv_cl L xs d k_X10_bagsForAll [.ref 0, .int a1] (t, 149, mz T) = some (.inr 0, (t2, 149, mz T2))) : mv_cl L xs (d + 1) k_L_bagsForAll [.ref 0, .int a1, .ref 147] (t, 149, mz T) = some (.inl (some (.int (Int32.ofInt 1))), (t2, 149, mz T2)) := by
  apply mv_cl_of
  simp only [mv_il, Value.category, Nat.zero_add, Nat.reduceAdd]
  simp (disch := omega) only [mv_Ev_row r_L_bagsForAll_0, mv_Ev_row r_L_bagsForAll_1, mv_Ev_row r_L_bagsForAll_2, mv_Ev_row r_L_bagsForAll_3, mv_Ev_row r_L_bagsForAll_4, mv_Ev_row r_L_bagsForAll_7, mv_Ev_row r_L_bagsForAll_8, mv_Ev_row r_L_bagsForAll_9, mv_Ev_row r_L_bagsForAll_12, mv_Ev_row r_L_bagsForAll_13, mv_Ev_row r_L_bagsForAll_14, mv_Ev_row r_L_bagsForAll_15, mv_Ev_row r_L_bagsForAll_16, ea_aload_n, ea_iconst, ea_iload_n, kv_X10_bagsForAll, i2l_z, ea_goto, ea_astore_n, ea_ireturn, ez_ret, ez_retc, mv_ac, decide_eq_true_eq, not_true_eq_false, and_self, and_true, true_and, ea_2n, ea_2f, ea_2c, ea_if, if_pos, if_neg, mv_lk, mv_f1, mv_f2, Value.category, List.filter, ↓reduceIte, Nat.reduceEqDiff, Nat.reduceAdd, Nat.reduceLT, Nat.reduceBEq, Nat.zero_add, Nat.add_zero, Nat.zero_ne_one, Nat.one_ne_zero, Bool.not_true, Bool.not_false, Bool.and_true, Bool.true_and, Bool.and_false, Bool.false_and, BEq.rfl, beq_self_eq_true, Bool.false_eq_true, reduceCtorEq, not_false_eq_true, fv0, fv1, fv2, fv3, eb_l0, eb_l1, eb_l2, eb_l3, eb_l4, eb_l5, eb_s0, eb_s1, eb_s2, eb_s3, eb_s4, eb_s5, oz_add, oz_sub, oz_mul, oz_neg, ol_add, ol_sub, sD_eq, sD_sD, sD_ne, sD_in, sD_in2, sD_in3, upR_is, upR_ne, mk_v, mk_n, mk_x, mk_i, mv_cs, Nat.reduceLeDiff, mv_ch_z, hq, nl_L_bagsForAll, hd_L_bagsForAll_0]
theorem nl_L_append : mv_nh k_L_append = false := by decide +kernel
theorem w_L_append_ok {a1 : Int32} {v : Int} (hv1 : -2147483648 ≤ v) (hv2 : v < 2147483648) (hq : mv_cl L xs d k_X10_append [.ref 0, .int a1] (t, 149, mz T) = some (.inl (some (.int (Int32.ofInt v))), (t2, 149, mz T2))) : mv_cl L xs (d + 1) k_L_append [.ref 0, .int a1, .ref 147] (t, 149, mz T) = some (.inl (some (.int (Int32.ofInt 0))), (t2, 149, mz (sD T2 147 (upR (T2.1 147) 0 v)))) := by
  apply mv_cl_of
  simp only [mv_il, Value.category, Nat.zero_add, Nat.reduceAdd]
  simp (disch := omega) only [mv_Ev_row r_L_append_0, mv_Ev_row r_L_append_1, mv_Ev_row r_L_append_2, mv_Ev_row r_L_append_3, mv_Ev_row r_L_append_4, mv_Ev_row r_L_append_7, mv_Ev_row r_L_append_8, mv_Ev_row r_L_append_9, mv_Ev_row r_L_append_12, mv_Ev_row r_L_append_13, mv_Ev_row r_L_append_14, mv_Ev_row r_L_append_15, mv_Ev_row r_L_append_16, ea_aload_n, ea_iconst, ea_iload_n, kv_X10_append, i2l_z, ea_goto, ea_astore_n, ea_ireturn, ez_ret, ez_retc, mv_ac, decide_eq_true_eq, not_true_eq_false, and_self, and_true, true_and, ea_2n, ea_2f, ea_2c, ea_if, if_pos, if_neg, mv_lk, mv_f1, mv_f2, Value.category, List.filter, ↓reduceIte, Nat.reduceEqDiff, Nat.reduceAdd, Nat.reduceLT, Nat.reduceBEq, Nat.zero_add, Nat.add_zero, Nat.zero_ne_one, Nat.one_ne_zero, Bool.not_true, Bool.not_false, Bool.and_true, Bool.true_and, Bool.and_false, Bool.false_and, BEq.rfl, beq_self_eq_true, Bool.false_eq_true, reduceCtorEq, not_false_eq_true, fv0, fv1, fv2, fv3, eb_l0, eb_l1, eb_l2, eb_l3, eb_l4, eb_l5, eb_s0, eb_s1, eb_s2, eb_s3, eb_s4, eb_s5, oz_add, oz_sub, oz_mul, oz_neg, ol_add, ol_sub, sD_eq, sD_sD, sD_ne, sD_in, sD_in2, sD_in3, upR_is, upR_ne, mk_v, mk_n, mk_x, mk_i, mv_cs, Nat.reduceLeDiff, mv_ch_z, hq, al_st]
theorem hd_L_append_1 : mv_hd k_L_append 4 1 = some (13, 3) := by
  have e : mv_hd1 4 1 (mv_hl k_L_append mv_hs) = some 12 := by decide +kernel
  unfold mv_hd
  rw [e]
  simp only [r_L_append_12] <;> rfl
theorem w_L_append_1 {a1 : Int32} (hq : mv_cl L xs d k_X10_append [.ref 0, .int a1] (t, 149, mz T) = some (.inr 1, (t2, 149, mz T2))) : mv_cl L xs (d + 1) k_L_append [.ref 0, .int a1, .ref 147] (t, 149, mz T) = some (.inl (some (.int (Int32.ofInt 1))), (t2, 149, mz T2)) := by
  apply mv_cl_of
  simp only [mv_il, Value.category, Nat.zero_add, Nat.reduceAdd]
  simp (disch := omega) only [mv_Ev_row r_L_append_0, mv_Ev_row r_L_append_1, mv_Ev_row r_L_append_2, mv_Ev_row r_L_append_3, mv_Ev_row r_L_append_4, mv_Ev_row r_L_append_7, mv_Ev_row r_L_append_8, mv_Ev_row r_L_append_9, mv_Ev_row r_L_append_12, mv_Ev_row r_L_append_13, mv_Ev_row r_L_append_14, mv_Ev_row r_L_append_15, mv_Ev_row r_L_append_16, ea_aload_n, ea_iconst, ea_iload_n, kv_X10_append, i2l_z, ea_goto, ea_astore_n, ea_ireturn, ez_ret, ez_retc, mv_ac, decide_eq_true_eq, not_true_eq_false, and_self, and_true, true_and, ea_2n, ea_2f, ea_2c, ea_if, if_pos, if_neg, mv_lk, mv_f1, mv_f2, Value.category, List.filter, ↓reduceIte, Nat.reduceEqDiff, Nat.reduceAdd, Nat.reduceLT, Nat.reduceBEq, Nat.zero_add, Nat.add_zero, Nat.zero_ne_one, Nat.one_ne_zero, Bool.not_true, Bool.not_false, Bool.and_true, Bool.true_and, Bool.and_false, Bool.false_and, BEq.rfl, beq_self_eq_true, Bool.false_eq_true, reduceCtorEq, not_false_eq_true, fv0, fv1, fv2, fv3, eb_l0, eb_l1, eb_l2, eb_l3, eb_l4, eb_l5, eb_s0, eb_s1, eb_s2, eb_s3, eb_s4, eb_s5, oz_add, oz_sub, oz_mul, oz_neg, ol_add, ol_sub, sD_eq, sD_sD, sD_ne, sD_in, sD_in2, sD_in3, upR_is, upR_ne, mk_v, mk_n, mk_x, mk_i, mv_cs, Nat.reduceLeDiff, mv_ch_z, hq, nl_L_append, hd_L_append_1]
theorem nl_L_run : mv_nh k_L_run = false := by decide +kernel
theorem w_L_run_ok {v : Int} (hv1 : -2147483648 ≤ v) (hv2 : v < 2147483648) (hq : mv_cl L xs d k_X10_run [.ref 0] (t, 149, mz T) = some (.inl (some (.int (Int32.ofInt v))), (t2, 149, mz T2))) : mv_cl L xs (d + 1) k_L_run [.ref 0, .ref 147] (t, 149, mz T) = some (.inl (some (.int (Int32.ofInt 0))), (t2, 149, mz (sD T2 147 (upR (T2.1 147) 0 v)))) := by
  apply mv_cl_of
  simp only [mv_il, Value.category, Nat.zero_add, Nat.reduceAdd]
  simp (disch := omega) only [mv_Ev_row r_L_run_0, mv_Ev_row r_L_run_1, mv_Ev_row r_L_run_2, mv_Ev_row r_L_run_3, mv_Ev_row r_L_run_6, mv_Ev_row r_L_run_7, mv_Ev_row r_L_run_8, mv_Ev_row r_L_run_11, mv_Ev_row r_L_run_12, mv_Ev_row r_L_run_13, mv_Ev_row r_L_run_14, mv_Ev_row r_L_run_15, mv_Ev_row r_L_run_16, mv_Ev_row r_L_run_17, mv_Ev_row r_L_run_18, ea_aload_n, ea_iconst, kv_X10_run, i2l_z, ea_goto, ea_astore_n, ea_ireturn, ez_ret, ez_retc, mv_ac, decide_eq_true_eq, not_true_eq_false, and_self, and_true, true_and, ea_2n, ea_2f, ea_2c, ea_if, if_pos, if_neg, mv_lk, mv_f1, mv_f2, Value.category, List.filter, ↓reduceIte, Nat.reduceEqDiff, Nat.reduceAdd, Nat.reduceLT, Nat.reduceBEq, Nat.zero_add, Nat.add_zero, Nat.zero_ne_one, Nat.one_ne_zero, Bool.not_true, Bool.not_false, Bool.and_true, Bool.true_and, Bool.and_false, Bool.false_and, BEq.rfl, beq_self_eq_true, Bool.false_eq_true, reduceCtorEq, not_false_eq_true, fv0, fv1, fv2, fv3, eb_l0, eb_l1, eb_l2, eb_l3, eb_l4, eb_l5, eb_s0, eb_s1, eb_s2, eb_s3, eb_s4, eb_s5, oz_add, oz_sub, oz_mul, oz_neg, ol_add, ol_sub, sD_eq, sD_sD, sD_ne, sD_in, sD_in2, sD_in3, upR_is, upR_ne, mk_v, mk_n, mk_x, mk_i, mv_cs, Nat.reduceLeDiff, mv_ch_z, hq, al_st]
theorem hd_L_run_0 : mv_hd k_L_run 3 0 = some (12, 2) := by
  have e : mv_hd1 3 0 (mv_hl k_L_run mv_hs) = some 11 := by decide +kernel
  unfold mv_hd
  rw [e]
  simp only [r_L_run_11] <;> rfl
theorem w_L_run_0 (hq : mv_cl L xs d k_X10_run [.ref 0] (t, 149, mz T) = some (.inr 0, (t2, 149, mz T2))) : mv_cl L xs (d + 1) k_L_run [.ref 0, .ref 147] (t, 149, mz T) = some (.inl (some (.int (Int32.ofInt 1))), (t2, 149, mz T2)) := by
  apply mv_cl_of
  simp only [mv_il, Value.category, Nat.zero_add, Nat.reduceAdd]
  simp (disch := omega) only [mv_Ev_row r_L_run_0, mv_Ev_row r_L_run_1, mv_Ev_row r_L_run_2, mv_Ev_row r_L_run_3, mv_Ev_row r_L_run_6, mv_Ev_row r_L_run_7, mv_Ev_row r_L_run_8, mv_Ev_row r_L_run_11, mv_Ev_row r_L_run_12, mv_Ev_row r_L_run_13, mv_Ev_row r_L_run_14, mv_Ev_row r_L_run_15, mv_Ev_row r_L_run_16, mv_Ev_row r_L_run_17, mv_Ev_row r_L_run_18, ea_aload_n, ea_iconst, kv_X10_run, i2l_z, ea_goto, ea_astore_n, ea_ireturn, ez_ret, ez_retc, mv_ac, decide_eq_true_eq, not_true_eq_false, and_self, and_true, true_and, ea_2n, ea_2f, ea_2c, ea_if, if_pos, if_neg, mv_lk, mv_f1, mv_f2, Value.category, List.filter, ↓reduceIte, Nat.reduceEqDiff, Nat.reduceAdd, Nat.reduceLT, Nat.reduceBEq, Nat.zero_add, Nat.add_zero, Nat.zero_ne_one, Nat.one_ne_zero, Bool.not_true, Bool.not_false, Bool.and_true, Bool.true_and, Bool.and_false, Bool.false_and, BEq.rfl, beq_self_eq_true, Bool.false_eq_true, reduceCtorEq, not_false_eq_true, fv0, fv1, fv2, fv3, eb_l0, eb_l1, eb_l2, eb_l3, eb_l4, eb_l5, eb_s0, eb_s1, eb_s2, eb_s3, eb_s4, eb_s5, oz_add, oz_sub, oz_mul, oz_neg, ol_add, ol_sub, sD_eq, sD_sD, sD_ne, sD_in, sD_in2, sD_in3, upR_is, upR_ne, mk_v, mk_n, mk_x, mk_i, mv_cs, Nat.reduceLeDiff, mv_ch_z, hq, nl_L_run, hd_L_run_0]
theorem hd_L_run_4 : mv_hd k_L_run 3 4 = some (15, 2) := by
  have e : mv_hd1 3 4 (mv_hl k_L_run mv_hs) = some 14 := by decide +kernel
  unfold mv_hd
  rw [e]
  simp only [r_L_run_14] <;> rfl
theorem w_L_run_4 (hq : mv_cl L xs d k_X10_run [.ref 0] (t, 149, mz T) = some (.inr 4, (t2, 149, mz T2))) : mv_cl L xs (d + 1) k_L_run [.ref 0, .ref 147] (t, 149, mz T) = some (.inl (some (.int (Int32.ofInt 2))), (t2, 149, mz T2)) := by
  apply mv_cl_of
  simp only [mv_il, Value.category, Nat.zero_add, Nat.reduceAdd]
  simp (disch := omega) only [mv_Ev_row r_L_run_0, mv_Ev_row r_L_run_1, mv_Ev_row r_L_run_2, mv_Ev_row r_L_run_3, mv_Ev_row r_L_run_6, mv_Ev_row r_L_run_7, mv_Ev_row r_L_run_8, mv_Ev_row r_L_run_11, mv_Ev_row r_L_run_12, mv_Ev_row r_L_run_13, mv_Ev_row r_L_run_14, mv_Ev_row r_L_run_15, mv_Ev_row r_L_run_16, mv_Ev_row r_L_run_17, mv_Ev_row r_L_run_18, ea_aload_n, ea_iconst, kv_X10_run, i2l_z, ea_goto, ea_astore_n, ea_ireturn, ez_ret, ez_retc, mv_ac, decide_eq_true_eq, not_true_eq_false, and_self, and_true, true_and, ea_2n, ea_2f, ea_2c, ea_if, if_pos, if_neg, mv_lk, mv_f1, mv_f2, Value.category, List.filter, ↓reduceIte, Nat.reduceEqDiff, Nat.reduceAdd, Nat.reduceLT, Nat.reduceBEq, Nat.zero_add, Nat.add_zero, Nat.zero_ne_one, Nat.one_ne_zero, Bool.not_true, Bool.not_false, Bool.and_true, Bool.true_and, Bool.and_false, Bool.false_and, BEq.rfl, beq_self_eq_true, Bool.false_eq_true, reduceCtorEq, not_false_eq_true, fv0, fv1, fv2, fv3, eb_l0, eb_l1, eb_l2, eb_l3, eb_l4, eb_l5, eb_s0, eb_s1, eb_s2, eb_s3, eb_s4, eb_s5, oz_add, oz_sub, oz_mul, oz_neg, ol_add, ol_sub, sD_eq, sD_sD, sD_ne, sD_in, sD_in2, sD_in3, upR_is, upR_ne, mk_v, mk_n, mk_x, mk_i, mv_cs, Nat.reduceLeDiff, mv_ch_z, hq, nl_L_run, hd_L_run_4]
theorem nl_L_errorPosition : mv_nh k_L_errorPosition = false := by decide +kernel
theorem w_L_errorPosition_ok {v : Int} (hv1 : -2147483648 ≤ v) (hv2 : v < 2147483648) (hq : mv_cl L xs d k_X10_errorPosition [.ref 0] (t, 149, mz T) = some (.inl (some (.int (Int32.ofInt v))), (t2, 149, mz T2))) : mv_cl L xs (d + 1) k_L_errorPosition [.ref 0, .ref 147] (t, 149, mz T) = some (.inl (some (.int (Int32.ofInt 0))), (t2, 149, mz (sD T2 147 (upR (T2.1 147) 0 v)))) := by
  apply mv_cl_of
  simp only [mv_il, Value.category, Nat.zero_add, Nat.reduceAdd]
  simp (disch := omega) only [mv_Ev_row r_L_errorPosition_0, mv_Ev_row r_L_errorPosition_1, mv_Ev_row r_L_errorPosition_2, mv_Ev_row r_L_errorPosition_3, mv_Ev_row r_L_errorPosition_6, mv_Ev_row r_L_errorPosition_7, mv_Ev_row r_L_errorPosition_8, mv_Ev_row r_L_errorPosition_11, mv_Ev_row r_L_errorPosition_12, mv_Ev_row r_L_errorPosition_13, mv_Ev_row r_L_errorPosition_14, mv_Ev_row r_L_errorPosition_15, ea_aload_n, ea_iconst, kv_X10_errorPosition, i2l_z, ea_goto, ea_astore_n, ea_ireturn, ez_ret, ez_retc, mv_ac, decide_eq_true_eq, not_true_eq_false, and_self, and_true, true_and, ea_2n, ea_2f, ea_2c, ea_if, if_pos, if_neg, mv_lk, mv_f1, mv_f2, Value.category, List.filter, ↓reduceIte, Nat.reduceEqDiff, Nat.reduceAdd, Nat.reduceLT, Nat.reduceBEq, Nat.zero_add, Nat.add_zero, Nat.zero_ne_one, Nat.one_ne_zero, Bool.not_true, Bool.not_false, Bool.and_true, Bool.true_and, Bool.and_false, Bool.false_and, BEq.rfl, beq_self_eq_true, Bool.false_eq_true, reduceCtorEq, not_false_eq_true, fv0, fv1, fv2, fv3, eb_l0, eb_l1, eb_l2, eb_l3, eb_l4, eb_l5, eb_s0, eb_s1, eb_s2, eb_s3, eb_s4, eb_s5, oz_add, oz_sub, oz_mul, oz_neg, ol_add, ol_sub, sD_eq, sD_sD, sD_ne, sD_in, sD_in2, sD_in3, upR_is, upR_ne, mk_v, mk_n, mk_x, mk_i, mv_cs, Nat.reduceLeDiff, mv_ch_z, hq, al_st]
theorem hd_L_errorPosition_5 : mv_hd k_L_errorPosition 3 5 = some (12, 2) := by
  have e : mv_hd1 3 5 (mv_hl k_L_errorPosition mv_hs) = some 11 := by decide +kernel
  unfold mv_hd
  rw [e]
  simp only [r_L_errorPosition_11] <;> rfl
theorem w_L_errorPosition_5 (hq : mv_cl L xs d k_X10_errorPosition [.ref 0] (t, 149, mz T) = some (.inr 5, (t2, 149, mz T2))) : mv_cl L xs (d + 1) k_L_errorPosition [.ref 0, .ref 147] (t, 149, mz T) = some (.inl (some (.int (Int32.ofInt 1))), (t2, 149, mz T2)) := by
  apply mv_cl_of
  simp only [mv_il, Value.category, Nat.zero_add, Nat.reduceAdd]
  simp (disch := omega) only [mv_Ev_row r_L_errorPosition_0, mv_Ev_row r_L_errorPosition_1, mv_Ev_row r_L_errorPosition_2, mv_Ev_row r_L_errorPosition_3, mv_Ev_row r_L_errorPosition_6, mv_Ev_row r_L_errorPosition_7, mv_Ev_row r_L_errorPosition_8, mv_Ev_row r_L_errorPosition_11, mv_Ev_row r_L_errorPosition_12, mv_Ev_row r_L_errorPosition_13, mv_Ev_row r_L_errorPosition_14, mv_Ev_row r_L_errorPosition_15, ea_aload_n, ea_iconst, kv_X10_errorPosition, i2l_z, ea_goto, ea_astore_n, ea_ireturn, ez_ret, ez_retc, mv_ac, decide_eq_true_eq, not_true_eq_false, and_self, and_true, true_and, ea_2n, ea_2f, ea_2c, ea_if, if_pos, if_neg, mv_lk, mv_f1, mv_f2, Value.category, List.filter, ↓reduceIte, Nat.reduceEqDiff, Nat.reduceAdd, Nat.reduceLT, Nat.reduceBEq, Nat.zero_add, Nat.add_zero, Nat.zero_ne_one, Nat.one_ne_zero, Bool.not_true, Bool.not_false, Bool.and_true, Bool.true_and, Bool.and_false, Bool.false_and, BEq.rfl, beq_self_eq_true, Bool.false_eq_true, reduceCtorEq, not_false_eq_true, fv0, fv1, fv2, fv3, eb_l0, eb_l1, eb_l2, eb_l3, eb_l4, eb_l5, eb_s0, eb_s1, eb_s2, eb_s3, eb_s4, eb_s5, oz_add, oz_sub, oz_mul, oz_neg, ol_add, ol_sub, sD_eq, sD_sD, sD_ne, sD_in, sD_in2, sD_in3, upR_is, upR_ne, mk_v, mk_n, mk_x, mk_i, mv_cs, Nat.reduceLeDiff, mv_ch_z, hq, nl_L_errorPosition, hd_L_errorPosition_5]
theorem nl_L_failedCommand : mv_nh k_L_failedCommand = false := by decide +kernel
theorem w_L_failedCommand_ok {v : Int} (hv1 : -2147483648 ≤ v) (hv2 : v < 2147483648) (hq : mv_cl L xs d k_X10_failedCommand [.ref 0] (t, 149, mz T) = some (.inl (some (.int (Int32.ofInt v))), (t2, 149, mz T2))) : mv_cl L xs (d + 1) k_L_failedCommand [.ref 0, .ref 147] (t, 149, mz T) = some (.inl (some (.int (Int32.ofInt 0))), (t2, 149, mz (sD T2 147 (upR (T2.1 147) 0 v)))) := by
  apply mv_cl_of
  simp only [mv_il, Value.category, Nat.zero_add, Nat.reduceAdd]
  simp (disch := omega) only [mv_Ev_row r_L_failedCommand_0, mv_Ev_row r_L_failedCommand_1, mv_Ev_row r_L_failedCommand_2, mv_Ev_row r_L_failedCommand_3, mv_Ev_row r_L_failedCommand_6, mv_Ev_row r_L_failedCommand_7, mv_Ev_row r_L_failedCommand_8, mv_Ev_row r_L_failedCommand_11, mv_Ev_row r_L_failedCommand_12, mv_Ev_row r_L_failedCommand_13, mv_Ev_row r_L_failedCommand_14, mv_Ev_row r_L_failedCommand_15, ea_aload_n, ea_iconst, kv_X10_failedCommand, i2l_z, ea_goto, ea_astore_n, ea_ireturn, ez_ret, ez_retc, mv_ac, decide_eq_true_eq, not_true_eq_false, and_self, and_true, true_and, ea_2n, ea_2f, ea_2c, ea_if, if_pos, if_neg, mv_lk, mv_f1, mv_f2, Value.category, List.filter, ↓reduceIte, Nat.reduceEqDiff, Nat.reduceAdd, Nat.reduceLT, Nat.reduceBEq, Nat.zero_add, Nat.add_zero, Nat.zero_ne_one, Nat.one_ne_zero, Bool.not_true, Bool.not_false, Bool.and_true, Bool.true_and, Bool.and_false, Bool.false_and, BEq.rfl, beq_self_eq_true, Bool.false_eq_true, reduceCtorEq, not_false_eq_true, fv0, fv1, fv2, fv3, eb_l0, eb_l1, eb_l2, eb_l3, eb_l4, eb_l5, eb_s0, eb_s1, eb_s2, eb_s3, eb_s4, eb_s5, oz_add, oz_sub, oz_mul, oz_neg, ol_add, ol_sub, sD_eq, sD_sD, sD_ne, sD_in, sD_in2, sD_in3, upR_is, upR_ne, mk_v, mk_n, mk_x, mk_i, mv_cs, Nat.reduceLeDiff, mv_ch_z, hq, al_st]
theorem hd_L_failedCommand_5 : mv_hd k_L_failedCommand 3 5 = some (12, 2) := by
  have e : mv_hd1 3 5 (mv_hl k_L_failedCommand mv_hs) = some 11 := by decide +kernel
  unfold mv_hd
  rw [e]
  simp only [r_L_failedCommand_11] <;> rfl
theorem w_L_failedCommand_5 (hq : mv_cl L xs d k_X10_failedCommand [.ref 0] (t, 149, mz T) = some (.inr 5, (t2, 149, mz T2))) : mv_cl L xs (d + 1) k_L_failedCommand [.ref 0, .ref 147] (t, 149, mz T) = some (.inl (some (.int (Int32.ofInt 1))), (t2, 149, mz T2)) := by
  apply mv_cl_of
  simp only [mv_il, Value.category, Nat.zero_add, Nat.reduceAdd]
  simp (disch := omega) only [mv_Ev_row r_L_failedCommand_0, mv_Ev_row r_L_failedCommand_1, mv_Ev_row r_L_failedCommand_2, mv_Ev_row r_L_failedCommand_3, mv_Ev_row r_L_failedCommand_6, mv_Ev_row r_L_failedCommand_7, mv_Ev_row r_L_failedCommand_8, mv_Ev_row r_L_failedCommand_11, mv_Ev_row r_L_failedCommand_12, mv_Ev_row r_L_failedCommand_13, mv_Ev_row r_L_failedCommand_14, mv_Ev_row r_L_failedCommand_15, ea_aload_n, ea_iconst, kv_X10_failedCommand, i2l_z, ea_goto, ea_astore_n, ea_ireturn, ez_ret, ez_retc, mv_ac, decide_eq_true_eq, not_true_eq_false, and_self, and_true, true_and, ea_2n, ea_2f, ea_2c, ea_if, if_pos, if_neg, mv_lk, mv_f1, mv_f2, Value.category, List.filter, ↓reduceIte, Nat.reduceEqDiff, Nat.reduceAdd, Nat.reduceLT, Nat.reduceBEq, Nat.zero_add, Nat.add_zero, Nat.zero_ne_one, Nat.one_ne_zero, Bool.not_true, Bool.not_false, Bool.and_true, Bool.true_and, Bool.and_false, Bool.false_and, BEq.rfl, beq_self_eq_true, Bool.false_eq_true, reduceCtorEq, not_false_eq_true, fv0, fv1, fv2, fv3, eb_l0, eb_l1, eb_l2, eb_l3, eb_l4, eb_l5, eb_s0, eb_s1, eb_s2, eb_s3, eb_s4, eb_s5, oz_add, oz_sub, oz_mul, oz_neg, ol_add, ol_sub, sD_eq, sD_sD, sD_ne, sD_in, sD_in2, sD_in3, upR_is, upR_ne, mk_v, mk_n, mk_x, mk_i, mv_cs, Nat.reduceLeDiff, mv_ch_z, hq, nl_L_failedCommand, hd_L_failedCommand_5]
theorem nl_L_outputAt : mv_nh k_L_outputAt = false := by decide +kernel
theorem w_L_outputAt_ok {a1 : Int32} {v : Int} (hv1 : -2147483648 ≤ v) (hv2 : v < 2147483648) (hq : mv_cl L xs d k_X10_outputAt [.ref 0, .int a1] (t, 149, mz T) = some (.inl (some (.int (Int32.ofInt v))), (t2, 149, mz T2))) : mv_cl L xs (d + 1) k_L_outputAt [.ref 0, .int a1, .ref 147] (t, 149, mz T) = some (.inl (some (.int (Int32.ofInt 0))), (t2, 149, mz (sD T2 147 (upR (T2.1 147) 0 v)))) := by
  apply mv_cl_of
  simp only [mv_il, Value.category, Nat.zero_add, Nat.reduceAdd]
  simp (disch := omega) only [mv_Ev_row r_L_outputAt_0, mv_Ev_row r_L_outputAt_1, mv_Ev_row r_L_outputAt_2, mv_Ev_row r_L_outputAt_3, mv_Ev_row r_L_outputAt_4, mv_Ev_row r_L_outputAt_7, mv_Ev_row r_L_outputAt_8, mv_Ev_row r_L_outputAt_9, mv_Ev_row r_L_outputAt_12, mv_Ev_row r_L_outputAt_13, mv_Ev_row r_L_outputAt_14, mv_Ev_row r_L_outputAt_15, mv_Ev_row r_L_outputAt_16, ea_aload_n, ea_iconst, ea_iload_n, kv_X10_outputAt, i2l_z, ea_goto, ea_astore_n, ea_ireturn, ez_ret, ez_retc, mv_ac, decide_eq_true_eq, not_true_eq_false, and_self, and_true, true_and, ea_2n, ea_2f, ea_2c, ea_if, if_pos, if_neg, mv_lk, mv_f1, mv_f2, Value.category, List.filter, ↓reduceIte, Nat.reduceEqDiff, Nat.reduceAdd, Nat.reduceLT, Nat.reduceBEq, Nat.zero_add, Nat.add_zero, Nat.zero_ne_one, Nat.one_ne_zero, Bool.not_true, Bool.not_false, Bool.and_true, Bool.true_and, Bool.and_false, Bool.false_and, BEq.rfl, beq_self_eq_true, Bool.false_eq_true, reduceCtorEq, not_false_eq_true, fv0, fv1, fv2, fv3, eb_l0, eb_l1, eb_l2, eb_l3, eb_l4, eb_l5, eb_s0, eb_s1, eb_s2, eb_s3, eb_s4, eb_s5, oz_add, oz_sub, oz_mul, oz_neg, ol_add, ol_sub, sD_eq, sD_sD, sD_ne, sD_in, sD_in2, sD_in3, upR_is, upR_ne, mk_v, mk_n, mk_x, mk_i, mv_cs, Nat.reduceLeDiff, mv_ch_z, hq, al_st]
theorem hd_L_outputAt_2 : mv_hd k_L_outputAt 4 2 = some (13, 3) := by
  have e : mv_hd1 4 2 (mv_hl k_L_outputAt mv_hs) = some 12 := by decide +kernel
  unfold mv_hd
  rw [e]
  simp only [r_L_outputAt_12] <;> rfl
theorem w_L_outputAt_2 {a1 : Int32} (hq : mv_cl L xs d k_X10_outputAt [.ref 0, .int a1] (t, 149, mz T) = some (.inr 2, (t2, 149, mz T2))) : mv_cl L xs (d + 1) k_L_outputAt [.ref 0, .int a1, .ref 147] (t, 149, mz T) = some (.inl (some (.int (Int32.ofInt 1))), (t2, 149, mz T2)) := by
  apply mv_cl_of
  simp only [mv_il, Value.category, Nat.zero_add, Nat.reduceAdd]
  simp (disch := omega) only [mv_Ev_row r_L_outputAt_0, mv_Ev_row r_L_outputAt_1, mv_Ev_row r_L_outputAt_2, mv_Ev_row r_L_outputAt_3, mv_Ev_row r_L_outputAt_4, mv_Ev_row r_L_outputAt_7, mv_Ev_row r_L_outputAt_8, mv_Ev_row r_L_outputAt_9, mv_Ev_row r_L_outputAt_12, mv_Ev_row r_L_outputAt_13, mv_Ev_row r_L_outputAt_14, mv_Ev_row r_L_outputAt_15, mv_Ev_row r_L_outputAt_16, ea_aload_n, ea_iconst, ea_iload_n, kv_X10_outputAt, i2l_z, ea_goto, ea_astore_n, ea_ireturn, ez_ret, ez_retc, mv_ac, decide_eq_true_eq, not_true_eq_false, and_self, and_true, true_and, ea_2n, ea_2f, ea_2c, ea_if, if_pos, if_neg, mv_lk, mv_f1, mv_f2, Value.category, List.filter, ↓reduceIte, Nat.reduceEqDiff, Nat.reduceAdd, Nat.reduceLT, Nat.reduceBEq, Nat.zero_add, Nat.add_zero, Nat.zero_ne_one, Nat.one_ne_zero, Bool.not_true, Bool.not_false, Bool.and_true, Bool.true_and, Bool.and_false, Bool.false_and, BEq.rfl, beq_self_eq_true, Bool.false_eq_true, reduceCtorEq, not_false_eq_true, fv0, fv1, fv2, fv3, eb_l0, eb_l1, eb_l2, eb_l3, eb_l4, eb_l5, eb_s0, eb_s1, eb_s2, eb_s3, eb_s4, eb_s5, oz_add, oz_sub, oz_mul, oz_neg, ol_add, ol_sub, sD_eq, sD_sD, sD_ne, sD_in, sD_in2, sD_in3, upR_is, upR_ne, mk_v, mk_n, mk_x, mk_i, mv_cs, Nat.reduceLeDiff, mv_ch_z, hq, nl_L_outputAt, hd_L_outputAt_2]
theorem nl_L_undo : mv_nh k_L_undo = false := by decide +kernel
theorem w_L_undo_ok {v : Int} (hv1 : -2147483648 ≤ v) (hv2 : v < 2147483648) (hq : mv_cl L xs d k_X10_undo [.ref 0] (t, 149, mz T) = some (.inl (some (.int (Int32.ofInt v))), (t2, 149, mz T2))) : mv_cl L xs (d + 1) k_L_undo [.ref 0, .ref 147] (t, 149, mz T) = some (.inl (some (.int (Int32.ofInt 0))), (t2, 149, mz (sD T2 147 (upR (T2.1 147) 0 v)))) := by
  apply mv_cl_of
  simp only [mv_il, Value.category, Nat.zero_add, Nat.reduceAdd]
  simp (disch := omega) only [mv_Ev_row r_L_undo_0, mv_Ev_row r_L_undo_1, mv_Ev_row r_L_undo_2, mv_Ev_row r_L_undo_3, mv_Ev_row r_L_undo_6, mv_Ev_row r_L_undo_7, mv_Ev_row r_L_undo_8, mv_Ev_row r_L_undo_11, mv_Ev_row r_L_undo_12, mv_Ev_row r_L_undo_13, mv_Ev_row r_L_undo_14, mv_Ev_row r_L_undo_15, ea_aload_n, ea_iconst, kv_X10_undo, i2l_z, ea_goto, ea_astore_n, ea_ireturn, ez_ret, ez_retc, mv_ac, decide_eq_true_eq, not_true_eq_false, and_self, and_true, true_and, ea_2n, ea_2f, ea_2c, ea_if, if_pos, if_neg, mv_lk, mv_f1, mv_f2, Value.category, List.filter, ↓reduceIte, Nat.reduceEqDiff, Nat.reduceAdd, Nat.reduceLT, Nat.reduceBEq, Nat.zero_add, Nat.add_zero, Nat.zero_ne_one, Nat.one_ne_zero, Bool.not_true, Bool.not_false, Bool.and_true, Bool.true_and, Bool.and_false, Bool.false_and, BEq.rfl, beq_self_eq_true, Bool.false_eq_true, reduceCtorEq, not_false_eq_true, fv0, fv1, fv2, fv3, eb_l0, eb_l1, eb_l2, eb_l3, eb_l4, eb_l5, eb_s0, eb_s1, eb_s2, eb_s3, eb_s4, eb_s5, oz_add, oz_sub, oz_mul, oz_neg, ol_add, ol_sub, sD_eq, sD_sD, sD_ne, sD_in, sD_in2, sD_in3, upR_is, upR_ne, mk_v, mk_n, mk_x, mk_i, mv_cs, Nat.reduceLeDiff, mv_ch_z, hq, al_st]
theorem hd_L_undo_1 : mv_hd k_L_undo 3 1 = some (12, 2) := by
  have e : mv_hd1 3 1 (mv_hl k_L_undo mv_hs) = some 11 := by decide +kernel
  unfold mv_hd
  rw [e]
  simp only [r_L_undo_11] <;> rfl
theorem w_L_undo_1 (hq : mv_cl L xs d k_X10_undo [.ref 0] (t, 149, mz T) = some (.inr 1, (t2, 149, mz T2))) : mv_cl L xs (d + 1) k_L_undo [.ref 0, .ref 147] (t, 149, mz T) = some (.inl (some (.int (Int32.ofInt 1))), (t2, 149, mz T2)) := by
  apply mv_cl_of
  simp only [mv_il, Value.category, Nat.zero_add, Nat.reduceAdd]
  simp (disch := omega) only [mv_Ev_row r_L_undo_0, mv_Ev_row r_L_undo_1, mv_Ev_row r_L_undo_2, mv_Ev_row r_L_undo_3, mv_Ev_row r_L_undo_6, mv_Ev_row r_L_undo_7, mv_Ev_row r_L_undo_8, mv_Ev_row r_L_undo_11, mv_Ev_row r_L_undo_12, mv_Ev_row r_L_undo_13, mv_Ev_row r_L_undo_14, mv_Ev_row r_L_undo_15, ea_aload_n, ea_iconst, kv_X10_undo, i2l_z, ea_goto, ea_astore_n, ea_ireturn, ez_ret, ez_retc, mv_ac, decide_eq_true_eq, not_true_eq_false, and_self, and_true, true_and, ea_2n, ea_2f, ea_2c, ea_if, if_pos, if_neg, mv_lk, mv_f1, mv_f2, Value.category, List.filter, ↓reduceIte, Nat.reduceEqDiff, Nat.reduceAdd, Nat.reduceLT, Nat.reduceBEq, Nat.zero_add, Nat.add_zero, Nat.zero_ne_one, Nat.one_ne_zero, Bool.not_true, Bool.not_false, Bool.and_true, Bool.true_and, Bool.and_false, Bool.false_and, BEq.rfl, beq_self_eq_true, Bool.false_eq_true, reduceCtorEq, not_false_eq_true, fv0, fv1, fv2, fv3, eb_l0, eb_l1, eb_l2, eb_l3, eb_l4, eb_l5, eb_s0, eb_s1, eb_s2, eb_s3, eb_s4, eb_s5, oz_add, oz_sub, oz_mul, oz_neg, ol_add, ol_sub, sD_eq, sD_sD, sD_ne, sD_in, sD_in2, sD_in3, upR_is, upR_ne, mk_v, mk_n, mk_x, mk_i, mv_cs, Nat.reduceLeDiff, mv_ch_z, hq, nl_L_undo, hd_L_undo_1]
theorem nl_L_restore : mv_nh k_L_restore = false := by decide +kernel
theorem hd_L_restore_1 : mv_hd k_L_restore 1 1 = some (8, 1) := by
  have e : mv_hd1 1 1 (mv_hl k_L_restore mv_hs) = some 7 := by decide +kernel
  unfold mv_hd
  rw [e]
  simp only [r_L_restore_7] <;> rfl
theorem w_L_restore_1 (hq : mv_cl L xs d k_X10_restore [.ref 0] (t, 149, mz T) = some (.inr 1, (t2, 149, mz T2))) : mv_cl L xs (d + 1) k_L_restore [.ref 0] (t, 149, mz T) = some (.inl (some (.int (Int32.ofInt 1))), (t2, 149, mz T2)) := by
  apply mv_cl_of
  simp only [mv_il, Value.category, Nat.zero_add, Nat.reduceAdd]
  simp (disch := omega) only [mv_Ev_row r_L_restore_0, mv_Ev_row r_L_restore_1, mv_Ev_row r_L_restore_4, mv_Ev_row r_L_restore_7, mv_Ev_row r_L_restore_8, mv_Ev_row r_L_restore_9, mv_Ev_row r_L_restore_10, mv_Ev_row r_L_restore_11, ea_aload_n, kv_X10_restore, ea_goto, ea_astore_n, ea_iconst, ea_ireturn, ez_ret, ez_retc, mv_ac, decide_eq_true_eq, not_true_eq_false, and_self, and_true, true_and, ea_2n, ea_2f, ea_2c, ea_if, if_pos, if_neg, mv_lk, mv_f1, mv_f2, Value.category, List.filter, ↓reduceIte, Nat.reduceEqDiff, Nat.reduceAdd, Nat.reduceLT, Nat.reduceBEq, Nat.zero_add, Nat.add_zero, Nat.zero_ne_one, Nat.one_ne_zero, Bool.not_true, Bool.not_false, Bool.and_true, Bool.true_and, Bool.and_false, Bool.false_and, BEq.rfl, beq_self_eq_true, Bool.false_eq_true, reduceCtorEq, not_false_eq_true, fv0, fv1, fv2, fv3, eb_l0, eb_l1, eb_l2, eb_l3, eb_l4, eb_l5, eb_s0, eb_s1, eb_s2, eb_s3, eb_s4, eb_s5, oz_add, oz_sub, oz_mul, oz_neg, ol_add, ol_sub, sD_eq, sD_sD, sD_ne, sD_in, sD_in2, sD_in3, upR_is, upR_ne, mk_v, mk_n, mk_x, mk_i, mv_cs, Nat.reduceLeDiff, mv_ch_z, hq, nl_L_restore, hd_L_restore_1]
theorem w_L_isAutomatic_ok {a0 : Int32} {v : Int} (hv : v = 0 ∨ v = 1) (hq : mv_cl L xs d k_X10_isAutomatic [.ref 0, .int a0] (t, 149, mz T) = some (.inl (some (.int (Int32.ofInt v))), (t2, 149, mz T2))) : mv_cl L xs (d + 1) k_L_isAutomatic [.ref 0, .int a0, .ref 147] (t, 149, mz T) = some (.inl (some (.int (Int32.ofInt 0))), (t2, 149, mz (sD T2 147 (upR (T2.1 147) 0 v)))) := by
  have l0 : Int64.ofNat ((0 : Fin 2) : Nat) = Int64.ofInt 0 := rfl
  have l1 : Int64.ofNat ((1 : Fin 2) : Nat) = Int64.ofInt 1 := rfl
  apply mv_cl_of
  simp only [mv_il, Value.category, Nat.zero_add, Nat.reduceAdd]
  rcases hv with rfl | rfl
  · simp (disch := omega) only [mv_Ev_row r_L_isAutomatic_0, mv_Ev_row r_L_isAutomatic_1, mv_Ev_row r_L_isAutomatic_2, mv_Ev_row r_L_isAutomatic_3, mv_Ev_row r_L_isAutomatic_4, mv_Ev_row r_L_isAutomatic_7, mv_Ev_row r_L_isAutomatic_10, mv_Ev_row r_L_isAutomatic_11, mv_Ev_row r_L_isAutomatic_14, mv_Ev_row r_L_isAutomatic_15, mv_Ev_row r_L_isAutomatic_16, mv_Ev_row r_L_isAutomatic_19, mv_Ev_row r_L_isAutomatic_20, mv_Ev_row r_L_isAutomatic_21, mv_Ev_row r_L_isAutomatic_22, mv_Ev_row r_L_isAutomatic_23, ea_aload_n, ea_iconst, ea_iload_n, kv_X10_isAutomatic, ea_ifc, ea_lconst, ea_goto, ea_astore_n, ea_ireturn, ez_ret, ez_retc, c0_eq, c0_ne, c0_lt, c0_ge, c0_gt, c0_le, mv_ac, decide_eq_true_eq, not_true_eq_false, and_self, and_true, true_and, ea_2n, ea_2f, ea_2c, ea_if, if_pos, if_neg, mv_lk, mv_f1, mv_f2, Value.category, List.filter, ↓reduceIte, Nat.reduceEqDiff, Nat.reduceAdd, Nat.reduceLT, Nat.reduceBEq, Nat.zero_add, Nat.add_zero, Nat.zero_ne_one, Nat.one_ne_zero, Bool.not_true, Bool.not_false, Bool.and_true, Bool.true_and, Bool.and_false, Bool.false_and, BEq.rfl, beq_self_eq_true, Bool.false_eq_true, reduceCtorEq, not_false_eq_true, fv0, fv1, fv2, fv3, eb_l0, eb_l1, eb_l2, eb_l3, eb_l4, eb_l5, eb_s0, eb_s1, eb_s2, eb_s3, eb_s4, eb_s5, oz_add, oz_sub, oz_mul, oz_neg, ol_add, ol_sub, sD_eq, sD_sD, sD_ne, sD_in, sD_in2, sD_in3, upR_is, upR_ne, mk_v, mk_n, mk_x, mk_i, mv_cs, Nat.reduceLeDiff, mv_ch_z, hq, al_st, l0, l1]
  · simp (disch := omega) only [mv_Ev_row r_L_isAutomatic_0, mv_Ev_row r_L_isAutomatic_1, mv_Ev_row r_L_isAutomatic_2, mv_Ev_row r_L_isAutomatic_3, mv_Ev_row r_L_isAutomatic_4, mv_Ev_row r_L_isAutomatic_7, mv_Ev_row r_L_isAutomatic_10, mv_Ev_row r_L_isAutomatic_11, mv_Ev_row r_L_isAutomatic_14, mv_Ev_row r_L_isAutomatic_15, mv_Ev_row r_L_isAutomatic_16, mv_Ev_row r_L_isAutomatic_19, mv_Ev_row r_L_isAutomatic_20, mv_Ev_row r_L_isAutomatic_21, mv_Ev_row r_L_isAutomatic_22, mv_Ev_row r_L_isAutomatic_23, ea_aload_n, ea_iconst, ea_iload_n, kv_X10_isAutomatic, ea_ifc, ea_lconst, ea_goto, ea_astore_n, ea_ireturn, ez_ret, ez_retc, c0_eq, c0_ne, c0_lt, c0_ge, c0_gt, c0_le, mv_ac, decide_eq_true_eq, not_true_eq_false, and_self, and_true, true_and, ea_2n, ea_2f, ea_2c, ea_if, if_pos, if_neg, mv_lk, mv_f1, mv_f2, Value.category, List.filter, ↓reduceIte, Nat.reduceEqDiff, Nat.reduceAdd, Nat.reduceLT, Nat.reduceBEq, Nat.zero_add, Nat.add_zero, Nat.zero_ne_one, Nat.one_ne_zero, Bool.not_true, Bool.not_false, Bool.and_true, Bool.true_and, Bool.and_false, Bool.false_and, BEq.rfl, beq_self_eq_true, Bool.false_eq_true, reduceCtorEq, not_false_eq_true, fv0, fv1, fv2, fv3, eb_l0, eb_l1, eb_l2, eb_l3, eb_l4, eb_l5, eb_s0, eb_s1, eb_s2, eb_s3, eb_s4, eb_s5, oz_add, oz_sub, oz_mul, oz_neg, ol_add, ol_sub, sD_eq, sD_sD, sD_ne, sD_in, sD_in2, sD_in3, upR_is, upR_ne, mk_v, mk_n, mk_x, mk_i, mv_cs, Nat.reduceLeDiff, mv_ch_z, hq, al_st, l0, l1]
theorem w_L_meanFill_ok {x : UInt64} (hq : mv_cl L xs d k_X10_meanFill [.ref 0] (t, 149, mz T) = some (.inl (some (.double x)), (t2, 149, mz T2))) : mv_cl L xs (d + 1) k_L_meanFill [.ref 0, .ref 148] (t, 149, mz T) = some (.inl (some (.int (Int32.ofInt 0))), (t2, 149, mz (T2.1, T2.2.1, x, T2.2.2.2))) := by
  apply mv_cl_of
  simp only [mv_il, Value.category, Nat.zero_add, Nat.reduceAdd]
  simp (disch := omega) only [mv_Ev_row r_L_meanFill_0, mv_Ev_row r_L_meanFill_1, mv_Ev_row r_L_meanFill_2, mv_Ev_row r_L_meanFill_3, mv_Ev_row r_L_meanFill_6, mv_Ev_row r_L_meanFill_7, mv_Ev_row r_L_meanFill_10, mv_Ev_row r_L_meanFill_11, mv_Ev_row r_L_meanFill_12, mv_Ev_row r_L_meanFill_13, mv_Ev_row r_L_meanFill_14, ea_aload_n, ea_iconst, kv_X10_meanFill, ea_goto, ea_astore_n, ea_ireturn, ez_ret, ez_retc, mv_ac, decide_eq_true_eq, not_true_eq_false, and_self, and_true, true_and, ea_2n, ea_2f, ea_2c, ea_if, if_pos, if_neg, mv_lk, mv_f1, mv_f2, Value.category, List.filter, ↓reduceIte, Nat.reduceEqDiff, Nat.reduceAdd, Nat.reduceLT, Nat.reduceBEq, Nat.zero_add, Nat.add_zero, Nat.zero_ne_one, Nat.one_ne_zero, Bool.not_true, Bool.not_false, Bool.and_true, Bool.true_and, Bool.and_false, Bool.false_and, BEq.rfl, beq_self_eq_true, Bool.false_eq_true, reduceCtorEq, not_false_eq_true, fv0, fv1, fv2, fv3, eb_l0, eb_l1, eb_l2, eb_l3, eb_l4, eb_l5, eb_s0, eb_s1, eb_s2, eb_s3, eb_s4, eb_s5, oz_add, oz_sub, oz_mul, oz_neg, ol_add, ol_sub, sD_eq, sD_sD, sD_ne, sD_in, sD_in2, sD_in3, upR_is, upR_ne, mk_v, mk_n, mk_x, mk_i, mv_cs, Nat.reduceLeDiff, mv_ch_z, hq, ad_st]
theorem w_L_floodShare_ok {x : UInt32} (hx : mv_n64 (FP.f2d x) = true) (hq : mv_cl L xs d k_X10_floodShare [.ref 0] (t, 149, mz T) = some (.inl (some (.float x)), (t2, 149, mz T2))) : mv_cl L xs (d + 1) k_L_floodShare [.ref 0, .ref 148] (t, 149, mz T) = some (.inl (some (.int (Int32.ofInt 0))), (t2, 149, mz (T2.1, T2.2.1, FP.f2d x, T2.2.2.2))) := by
  apply mv_cl_of
  simp only [mv_il, Value.category, Nat.zero_add, Nat.reduceAdd]
  simp (disch := omega) only [mv_Ev_row r_L_floodShare_0, mv_Ev_row r_L_floodShare_1, mv_Ev_row r_L_floodShare_2, mv_Ev_row r_L_floodShare_3, mv_Ev_row r_L_floodShare_6, mv_Ev_row r_L_floodShare_7, mv_Ev_row r_L_floodShare_8, mv_Ev_row r_L_floodShare_11, mv_Ev_row r_L_floodShare_12, mv_Ev_row r_L_floodShare_13, mv_Ev_row r_L_floodShare_14, mv_Ev_row r_L_floodShare_15, ea_aload_n, ea_iconst, kv_X10_floodShare, ea_goto, ea_astore_n, ea_ireturn, ez_ret, ez_retc, mv_ac, decide_eq_true_eq, not_true_eq_false, and_self, and_true, true_and, ea_2n, ea_2f, ea_2c, ea_if, if_pos, if_neg, mv_lk, mv_f1, mv_f2, Value.category, List.filter, ↓reduceIte, Nat.reduceEqDiff, Nat.reduceAdd, Nat.reduceLT, Nat.reduceBEq, Nat.zero_add, Nat.add_zero, Nat.zero_ne_one, Nat.one_ne_zero, Bool.not_true, Bool.not_false, Bool.and_true, Bool.true_and, Bool.and_false, Bool.false_and, BEq.rfl, beq_self_eq_true, Bool.false_eq_true, reduceCtorEq, not_false_eq_true, fv0, fv1, fv2, fv3, eb_l0, eb_l1, eb_l2, eb_l3, eb_l4, eb_l5, eb_s0, eb_s1, eb_s2, eb_s3, eb_s4, eb_s5, oz_add, oz_sub, oz_mul, oz_neg, ol_add, ol_sub, sD_eq, sD_sD, sD_ne, sD_in, sD_in2, sD_in3, upR_is, upR_ne, mk_v, mk_n, mk_x, mk_i, mv_cs, Nat.reduceLeDiff, mv_ch_z, hq, ad_st, ea_f2d hx]
theorem w_L_restore_ok (hq : mv_cl L xs d k_X10_restore [.ref 0] (t, 149, mz T) = some (.inl none, (t2, 149, mz T2))) : mv_cl L xs (d + 1) k_L_restore [.ref 0] (t, 149, mz T) = some (.inl (some (.int (Int32.ofInt 0))), (t2, 149, mz T2)) := by
  apply mv_cl_of
  simp only [mv_il, Value.category, Nat.zero_add, Nat.reduceAdd]
  simp (disch := omega) only [mv_Ev_row r_L_restore_0, mv_Ev_row r_L_restore_1, mv_Ev_row r_L_restore_4, mv_Ev_row r_L_restore_7, mv_Ev_row r_L_restore_8, mv_Ev_row r_L_restore_9, mv_Ev_row r_L_restore_10, mv_Ev_row r_L_restore_11, ea_aload_n, kv_X10_restore, ea_goto, ea_astore_n, ea_iconst, ea_ireturn, ez_ret, ez_retc, mv_ac, decide_eq_true_eq, not_true_eq_false, and_self, and_true, true_and, ea_2n, ea_2f, ea_2c, ea_if, if_pos, if_neg, mv_lk, mv_f1, mv_f2, Value.category, List.filter, ↓reduceIte, Nat.reduceEqDiff, Nat.reduceAdd, Nat.reduceLT, Nat.reduceBEq, Nat.zero_add, Nat.add_zero, Nat.zero_ne_one, Nat.one_ne_zero, Bool.not_true, Bool.not_false, Bool.and_true, Bool.true_and, Bool.and_false, Bool.false_and, BEq.rfl, beq_self_eq_true, Bool.false_eq_true, reduceCtorEq, not_false_eq_true, fv0, fv1, fv2, fv3, eb_l0, eb_l1, eb_l2, eb_l3, eb_l4, eb_l5, eb_s0, eb_s1, eb_s2, eb_s3, eb_s4, eb_s5, oz_add, oz_sub, oz_mul, oz_neg, ol_add, ol_sub, sD_eq, sD_sD, sD_ne, sD_in, sD_in2, sD_in3, upR_is, upR_ne, mk_v, mk_n, mk_x, mk_i, mv_cs, Nat.reduceLeDiff, mv_ch_z, hq]
end LW

