/-! DOUBLES AND FLOATS: no NaN is made; means and shares -/
theorem tb_X11_meanFill : mv_tb k_X11_meanFill = t_X11_meanFill := rfl
theorem r_X11_meanFill_0 : mv_in k_X11_meanFill 0 = some (.dconst 0, 1, 0, 0, 0) := by unfold mv_in; rw [tb_X11_meanFill]; rfl
theorem r_X11_meanFill_1 : mv_in k_X11_meanFill 1 = some (.dstore_n 1, 2, 0, 0, 0) := by unfold mv_in; rw [tb_X11_meanFill]; rfl
theorem r_X11_meanFill_2 : mv_in k_X11_meanFill 2 = some (.iconst 0, 3, 0, 0, 0) := by unfold mv_in; rw [tb_X11_meanFill]; rfl
theorem r_X11_meanFill_3 : mv_in k_X11_meanFill 3 = some (.istore_n 3, 4, 0, 0, 0) := by unfold mv_in; rw [tb_X11_meanFill]; rfl
theorem r_X11_meanFill_4 : mv_in k_X11_meanFill 4 = some (.iload_n 3, 5, 0, 0, 0) := by unfold mv_in; rw [tb_X11_meanFill]; rfl
theorem r_X11_meanFill_5 : mv_in k_X11_meanFill 5 = some (.aload_n 0, 6, 0, 0, 0) := by unfold mv_in; rw [tb_X11_meanFill]; rfl
theorem r_X11_meanFill_6 : mv_in k_X11_meanFill 6 = some (.getfield 9, 9, 8, 1, 1267) := by unfold mv_in; rw [tb_X11_meanFill]; rfl
theorem r_X11_meanFill_9 : mv_in k_X11_meanFill 9 = some (.iconst 0, 10, 0, 0, 0) := by unfold mv_in; rw [tb_X11_meanFill]; rfl
theorem r_X11_meanFill_10 : mv_in k_X11_meanFill 10 = some (.iaload, 11, 0, 0, 0) := by unfold mv_in; rw [tb_X11_meanFill]; rfl
theorem r_X11_meanFill_11 : mv_in k_X11_meanFill 11 = some (.if_icmp .ge 27, 14, 38, 0, 0) := by unfold mv_in; rw [tb_X11_meanFill]; rfl
theorem r_X11_meanFill_14 : mv_in k_X11_meanFill 14 = some (.dload_n 1, 15, 0, 0, 0) := by unfold mv_in; rw [tb_X11_meanFill]; rfl
theorem r_X11_meanFill_15 : mv_in k_X11_meanFill 15 = some (.aload_n 0, 16, 0, 0, 0) := by unfold mv_in; rw [tb_X11_meanFill]; rfl
theorem r_X11_meanFill_16 : mv_in k_X11_meanFill 16 = some (.iload_n 3, 17, 0, 0, 0) := by unfold mv_in; rw [tb_X11_meanFill]; rfl
theorem r_X11_meanFill_17 : mv_in k_X11_meanFill 17 = some (.iconst 1, 18, 0, 0, 0) := by unfold mv_in; rw [tb_X11_meanFill]; rfl
theorem r_X11_meanFill_18 : mv_in k_X11_meanFill 18 = some (.invokevirtual 47, 21, k_X11_b, 3, 1358) := by unfold mv_in; rw [tb_X11_meanFill]; rfl
theorem r_X11_meanFill_21 : mv_in k_X11_meanFill 21 = some (.i2d, 22, 0, 0, 0) := by unfold mv_in; rw [tb_X11_meanFill]; rfl
theorem r_X11_meanFill_22 : mv_in k_X11_meanFill 22 = some (.aload_n 0, 23, 0, 0, 0) := by unfold mv_in; rw [tb_X11_meanFill]; rfl
theorem r_X11_meanFill_23 : mv_in k_X11_meanFill 23 = some (.iload_n 3, 24, 0, 0, 0) := by unfold mv_in; rw [tb_X11_meanFill]; rfl
theorem r_X11_meanFill_24 : mv_in k_X11_meanFill 24 = some (.iconst 0, 25, 0, 0, 0) := by unfold mv_in; rw [tb_X11_meanFill]; rfl
theorem r_X11_meanFill_25 : mv_in k_X11_meanFill 25 = some (.invokevirtual 47, 28, k_X11_b, 3, 1358) := by unfold mv_in; rw [tb_X11_meanFill]; rfl
theorem r_X11_meanFill_28 : mv_in k_X11_meanFill 28 = some (.i2d, 29, 0, 0, 0) := by unfold mv_in; rw [tb_X11_meanFill]; rfl
theorem r_X11_meanFill_29 : mv_in k_X11_meanFill 29 = some (.ddiv, 30, 0, 0, 0) := by unfold mv_in; rw [tb_X11_meanFill]; rfl
theorem r_X11_meanFill_30 : mv_in k_X11_meanFill 30 = some (.dadd, 31, 0, 0, 0) := by unfold mv_in; rw [tb_X11_meanFill]; rfl
theorem r_X11_meanFill_31 : mv_in k_X11_meanFill 31 = some (.dstore_n 1, 32, 0, 0, 0) := by unfold mv_in; rw [tb_X11_meanFill]; rfl
theorem r_X11_meanFill_32 : mv_in k_X11_meanFill 32 = some (.iinc 3 1, 35, 0, 0, 0) := by unfold mv_in; rw [tb_X11_meanFill]; rfl
theorem r_X11_meanFill_35 : mv_in k_X11_meanFill 35 = some (.goto (-31), 38, 4, 0, 0) := by unfold mv_in; rw [tb_X11_meanFill]; rfl
theorem r_X11_meanFill_38 : mv_in k_X11_meanFill 38 = some (.aload_n 0, 39, 0, 0, 0) := by unfold mv_in; rw [tb_X11_meanFill]; rfl
theorem r_X11_meanFill_39 : mv_in k_X11_meanFill 39 = some (.aload_n 0, 40, 0, 0, 0) := by unfold mv_in; rw [tb_X11_meanFill]; rfl
theorem r_X11_meanFill_40 : mv_in k_X11_meanFill 40 = some (.getfield 9, 43, 8, 1, 1267) := by unfold mv_in; rw [tb_X11_meanFill]; rfl
theorem r_X11_meanFill_43 : mv_in k_X11_meanFill 43 = some (.iconst 0, 44, 0, 0, 0) := by unfold mv_in; rw [tb_X11_meanFill]; rfl
theorem r_X11_meanFill_44 : mv_in k_X11_meanFill 44 = some (.iaload, 45, 0, 0, 0) := by unfold mv_in; rw [tb_X11_meanFill]; rfl
theorem r_X11_meanFill_45 : mv_in k_X11_meanFill 45 = some (.ifCond .le 7, 48, 52, 0, 0) := by unfold mv_in; rw [tb_X11_meanFill]; rfl
theorem r_X11_meanFill_48 : mv_in k_X11_meanFill 48 = some (.iconst 1, 49, 0, 0, 0) := by unfold mv_in; rw [tb_X11_meanFill]; rfl
theorem r_X11_meanFill_49 : mv_in k_X11_meanFill 49 = some (.goto 4, 52, 53, 0, 0) := by unfold mv_in; rw [tb_X11_meanFill]; rfl
theorem r_X11_meanFill_52 : mv_in k_X11_meanFill 52 = some (.iconst 0, 53, 0, 0, 0) := by unfold mv_in; rw [tb_X11_meanFill]; rfl
theorem r_X11_meanFill_53 : mv_in k_X11_meanFill 53 = some (.invokevirtual 112, 56, k_X11_isFine, 2, 1446) := by unfold mv_in; rw [tb_X11_meanFill]; rfl
theorem r_X11_meanFill_56 : mv_in k_X11_meanFill 56 = some (.ifCond .eq 15, 59, 71, 0, 0) := by unfold mv_in; rw [tb_X11_meanFill]; rfl
theorem r_X11_meanFill_59 : mv_in k_X11_meanFill 59 = some (.dload_n 1, 60, 0, 0, 0) := by unfold mv_in; rw [tb_X11_meanFill]; rfl
theorem r_X11_meanFill_60 : mv_in k_X11_meanFill 60 = some (.aload_n 0, 61, 0, 0, 0) := by unfold mv_in; rw [tb_X11_meanFill]; rfl
theorem r_X11_meanFill_61 : mv_in k_X11_meanFill 61 = some (.getfield 9, 64, 8, 1, 1267) := by unfold mv_in; rw [tb_X11_meanFill]; rfl
theorem r_X11_meanFill_64 : mv_in k_X11_meanFill 64 = some (.iconst 0, 65, 0, 0, 0) := by unfold mv_in; rw [tb_X11_meanFill]; rfl
theorem r_X11_meanFill_65 : mv_in k_X11_meanFill 65 = some (.iaload, 66, 0, 0, 0) := by unfold mv_in; rw [tb_X11_meanFill]; rfl
theorem r_X11_meanFill_66 : mv_in k_X11_meanFill 66 = some (.i2d, 67, 0, 0, 0) := by unfold mv_in; rw [tb_X11_meanFill]; rfl
theorem r_X11_meanFill_67 : mv_in k_X11_meanFill 67 = some (.ddiv, 68, 0, 0, 0) := by unfold mv_in; rw [tb_X11_meanFill]; rfl
theorem r_X11_meanFill_68 : mv_in k_X11_meanFill 68 = some (.goto 4, 71, 72, 0, 0) := by unfold mv_in; rw [tb_X11_meanFill]; rfl
theorem r_X11_meanFill_71 : mv_in k_X11_meanFill 71 = some (.dconst 0, 72, 0, 0, 0) := by unfold mv_in; rw [tb_X11_meanFill]; rfl
theorem r_X11_meanFill_72 : mv_in k_X11_meanFill 72 = some (.dreturn, 73, 0, 0, 0) := by unfold mv_in; rw [tb_X11_meanFill]; rfl
theorem nh_X11_meanFill : mv_nh k_X11_meanFill = true := rfl
theorem tb_X11_floodShare : mv_tb k_X11_floodShare = t_X11_floodShare := rfl
theorem r_X11_floodShare_0 : mv_in k_X11_floodShare 0 = some (.aload_n 0, 1, 0, 0, 0) := by unfold mv_in; rw [tb_X11_floodShare]; rfl
theorem r_X11_floodShare_1 : mv_in k_X11_floodShare 1 = some (.aload_n 0, 2, 0, 0, 0) := by unfold mv_in; rw [tb_X11_floodShare]; rfl
theorem r_X11_floodShare_2 : mv_in k_X11_floodShare 2 = some (.getfield 9, 5, 8, 1, 1267) := by unfold mv_in; rw [tb_X11_floodShare]; rfl
theorem r_X11_floodShare_5 : mv_in k_X11_floodShare 5 = some (.iconst 1, 6, 0, 0, 0) := by unfold mv_in; rw [tb_X11_floodShare]; rfl
theorem r_X11_floodShare_6 : mv_in k_X11_floodShare 6 = some (.iaload, 7, 0, 0, 0) := by unfold mv_in; rw [tb_X11_floodShare]; rfl
theorem r_X11_floodShare_7 : mv_in k_X11_floodShare 7 = some (.ifCond .le 7, 10, 14, 0, 0) := by unfold mv_in; rw [tb_X11_floodShare]; rfl
theorem r_X11_floodShare_10 : mv_in k_X11_floodShare 10 = some (.iconst 1, 11, 0, 0, 0) := by unfold mv_in; rw [tb_X11_floodShare]; rfl
theorem r_X11_floodShare_11 : mv_in k_X11_floodShare 11 = some (.goto 4, 14, 15, 0, 0) := by unfold mv_in; rw [tb_X11_floodShare]; rfl
theorem r_X11_floodShare_14 : mv_in k_X11_floodShare 14 = some (.iconst 0, 15, 0, 0, 0) := by unfold mv_in; rw [tb_X11_floodShare]; rfl
theorem r_X11_floodShare_15 : mv_in k_X11_floodShare 15 = some (.invokevirtual 112, 18, k_X11_isFine, 2, 1446) := by unfold mv_in; rw [tb_X11_floodShare]; rfl
theorem r_X11_floodShare_18 : mv_in k_X11_floodShare 18 = some (.ifCond .eq 21, 21, 39, 0, 0) := by unfold mv_in; rw [tb_X11_floodShare]; rfl
theorem r_X11_floodShare_21 : mv_in k_X11_floodShare 21 = some (.aload_n 0, 22, 0, 0, 0) := by unfold mv_in; rw [tb_X11_floodShare]; rfl
theorem r_X11_floodShare_22 : mv_in k_X11_floodShare 22 = some (.bipush 8, 24, 0, 0, 0) := by unfold mv_in; rw [tb_X11_floodShare]; rfl
theorem r_X11_floodShare_24 : mv_in k_X11_floodShare 24 = some (.invokevirtual 123, 27, k_X11_sum, 2, 1506) := by unfold mv_in; rw [tb_X11_floodShare]; rfl
theorem r_X11_floodShare_27 : mv_in k_X11_floodShare 27 = some (.i2f, 28, 0, 0, 0) := by unfold mv_in; rw [tb_X11_floodShare]; rfl
theorem r_X11_floodShare_28 : mv_in k_X11_floodShare 28 = some (.aload_n 0, 29, 0, 0, 0) := by unfold mv_in; rw [tb_X11_floodShare]; rfl
theorem r_X11_floodShare_29 : mv_in k_X11_floodShare 29 = some (.getfield 9, 32, 8, 1, 1267) := by unfold mv_in; rw [tb_X11_floodShare]; rfl
theorem r_X11_floodShare_32 : mv_in k_X11_floodShare 32 = some (.iconst 1, 33, 0, 0, 0) := by unfold mv_in; rw [tb_X11_floodShare]; rfl
theorem r_X11_floodShare_33 : mv_in k_X11_floodShare 33 = some (.iaload, 34, 0, 0, 0) := by unfold mv_in; rw [tb_X11_floodShare]; rfl
theorem r_X11_floodShare_34 : mv_in k_X11_floodShare 34 = some (.i2f, 35, 0, 0, 0) := by unfold mv_in; rw [tb_X11_floodShare]; rfl
theorem r_X11_floodShare_35 : mv_in k_X11_floodShare 35 = some (.fdiv, 36, 0, 0, 0) := by unfold mv_in; rw [tb_X11_floodShare]; rfl
theorem r_X11_floodShare_36 : mv_in k_X11_floodShare 36 = some (.goto 4, 39, 40, 0, 0) := by unfold mv_in; rw [tb_X11_floodShare]; rfl
theorem r_X11_floodShare_39 : mv_in k_X11_floodShare 39 = some (.fconst 0, 40, 0, 0, 0) := by unfold mv_in; rw [tb_X11_floodShare]; rfl
theorem r_X11_floodShare_40 : mv_in k_X11_floodShare 40 = some (.freturn, 41, 0, 0, 0) := by unfold mv_in; rw [tb_X11_floodShare]; rfl
theorem nh_X11_floodShare : mv_nh k_X11_floodShare = true := rfl
theorem tb_X10_meanFill : mv_tb k_X10_meanFill = t_X10_meanFill := rfl
theorem r_X10_meanFill_0 : mv_in k_X10_meanFill 0 = some (.aload_n 0, 1, 0, 0, 0) := by unfold mv_in; rw [tb_X10_meanFill]; rfl
theorem r_X10_meanFill_1 : mv_in k_X10_meanFill 1 = some (.getfield 10, 4, 7, 0, 338) := by unfold mv_in; rw [tb_X10_meanFill]; rfl
theorem r_X10_meanFill_4 : mv_in k_X10_meanFill 4 = some (.getfield 117, 7, 1, 1, 211) := by unfold mv_in; rw [tb_X10_meanFill]; rfl
theorem r_X10_meanFill_7 : mv_in k_X10_meanFill 7 = some (.ifCond .ne 13, 10, 20, 0, 0) := by unfold mv_in; rw [tb_X10_meanFill]; rfl
theorem r_X10_meanFill_10 : mv_in k_X10_meanFill 10 = some (.new 192, 13, 99, 3, 989) := by unfold mv_in; rw [tb_X10_meanFill]; rfl
theorem r_X10_meanFill_13 : mv_in k_X10_meanFill 13 = some (.dup, 14, 0, 0, 0) := by unfold mv_in; rw [tb_X10_meanFill]; rfl
theorem r_X10_meanFill_14 : mv_in k_X10_meanFill 14 = some (.ldc 194, 16, 0, 0, 990) := by unfold mv_in; rw [tb_X10_meanFill]; rfl
theorem r_X10_meanFill_16 : mv_in k_X10_meanFill 16 = some (.invokespecial 196, 19, 999, 2, 991) := by unfold mv_in; rw [tb_X10_meanFill]; rfl
theorem r_X10_meanFill_19 : mv_in k_X10_meanFill 19 = some (.athrow, 20, 0, 0, 0) := by unfold mv_in; rw [tb_X10_meanFill]; rfl
theorem r_X10_meanFill_20 : mv_in k_X10_meanFill 20 = some (.dconst 0, 21, 0, 0, 0) := by unfold mv_in; rw [tb_X10_meanFill]; rfl
theorem r_X10_meanFill_21 : mv_in k_X10_meanFill 21 = some (.dstore_n 1, 22, 0, 0, 0) := by unfold mv_in; rw [tb_X10_meanFill]; rfl
theorem r_X10_meanFill_22 : mv_in k_X10_meanFill 22 = some (.iconst 0, 23, 0, 0, 0) := by unfold mv_in; rw [tb_X10_meanFill]; rfl
theorem r_X10_meanFill_23 : mv_in k_X10_meanFill 23 = some (.istore_n 3, 24, 0, 0, 0) := by unfold mv_in; rw [tb_X10_meanFill]; rfl
theorem r_X10_meanFill_24 : mv_in k_X10_meanFill 24 = some (.iload_n 3, 25, 0, 0, 0) := by unfold mv_in; rw [tb_X10_meanFill]; rfl
theorem r_X10_meanFill_25 : mv_in k_X10_meanFill 25 = some (.aload_n 0, 26, 0, 0, 0) := by unfold mv_in; rw [tb_X10_meanFill]; rfl
theorem r_X10_meanFill_26 : mv_in k_X10_meanFill 26 = some (.getfield 10, 29, 7, 0, 338) := by unfold mv_in; rw [tb_X10_meanFill]; rfl
theorem r_X10_meanFill_29 : mv_in k_X10_meanFill 29 = some (.getfield 117, 32, 1, 1, 211) := by unfold mv_in; rw [tb_X10_meanFill]; rfl
theorem r_X10_meanFill_32 : mv_in k_X10_meanFill 32 = some (.if_icmp .ge 36, 35, 68, 0, 0) := by unfold mv_in; rw [tb_X10_meanFill]; rfl
theorem r_X10_meanFill_35 : mv_in k_X10_meanFill 35 = some (.aload_n 0, 36, 0, 0, 0) := by unfold mv_in; rw [tb_X10_meanFill]; rfl
theorem r_X10_meanFill_36 : mv_in k_X10_meanFill 36 = some (.getfield 10, 39, 7, 0, 338) := by unfold mv_in; rw [tb_X10_meanFill]; rfl
theorem r_X10_meanFill_39 : mv_in k_X10_meanFill 39 = some (.getfield 197, 42, 1, 0, 209) := by unfold mv_in; rw [tb_X10_meanFill]; rfl
theorem r_X10_meanFill_42 : mv_in k_X10_meanFill 42 = some (.iload_n 3, 43, 0, 0, 0) := by unfold mv_in; rw [tb_X10_meanFill]; rfl
theorem r_X10_meanFill_43 : mv_in k_X10_meanFill 43 = some (.aaload, 44, 0, 0, 0) := by unfold mv_in; rw [tb_X10_meanFill]; rfl
theorem r_X10_meanFill_44 : mv_in k_X10_meanFill 44 = some (.astore 4, 46, 0, 0, 0) := by unfold mv_in; rw [tb_X10_meanFill]; rfl
theorem r_X10_meanFill_46 : mv_in k_X10_meanFill 46 = some (.dload_n 1, 47, 0, 0, 0) := by unfold mv_in; rw [tb_X10_meanFill]; rfl
theorem r_X10_meanFill_47 : mv_in k_X10_meanFill 47 = some (.aload 4, 49, 0, 0, 0) := by unfold mv_in; rw [tb_X10_meanFill]; rfl
theorem r_X10_meanFill_49 : mv_in k_X10_meanFill 49 = some (.getfield 129, 52, 0, 3, 172) := by unfold mv_in; rw [tb_X10_meanFill]; rfl
theorem r_X10_meanFill_52 : mv_in k_X10_meanFill 52 = some (.i2d, 53, 0, 0, 0) := by unfold mv_in; rw [tb_X10_meanFill]; rfl
theorem r_X10_meanFill_53 : mv_in k_X10_meanFill 53 = some (.aload 4, 55, 0, 0, 0) := by unfold mv_in; rw [tb_X10_meanFill]; rfl
theorem r_X10_meanFill_55 : mv_in k_X10_meanFill 55 = some (.getfield 124, 58, 0, 0, 164) := by unfold mv_in; rw [tb_X10_meanFill]; rfl
theorem r_X10_meanFill_58 : mv_in k_X10_meanFill 58 = some (.i2d, 59, 0, 0, 0) := by unfold mv_in; rw [tb_X10_meanFill]; rfl
theorem r_X10_meanFill_59 : mv_in k_X10_meanFill 59 = some (.ddiv, 60, 0, 0, 0) := by unfold mv_in; rw [tb_X10_meanFill]; rfl
theorem r_X10_meanFill_60 : mv_in k_X10_meanFill 60 = some (.dadd, 61, 0, 0, 0) := by unfold mv_in; rw [tb_X10_meanFill]; rfl
theorem r_X10_meanFill_61 : mv_in k_X10_meanFill 61 = some (.dstore_n 1, 62, 0, 0, 0) := by unfold mv_in; rw [tb_X10_meanFill]; rfl
theorem r_X10_meanFill_62 : mv_in k_X10_meanFill 62 = some (.iinc 3 1, 65, 0, 0, 0) := by unfold mv_in; rw [tb_X10_meanFill]; rfl
theorem r_X10_meanFill_65 : mv_in k_X10_meanFill 65 = some (.goto (-41), 68, 24, 0, 0) := by unfold mv_in; rw [tb_X10_meanFill]; rfl
theorem r_X10_meanFill_68 : mv_in k_X10_meanFill 68 = some (.dload_n 1, 69, 0, 0, 0) := by unfold mv_in; rw [tb_X10_meanFill]; rfl
theorem r_X10_meanFill_69 : mv_in k_X10_meanFill 69 = some (.aload_n 0, 70, 0, 0, 0) := by unfold mv_in; rw [tb_X10_meanFill]; rfl
theorem r_X10_meanFill_70 : mv_in k_X10_meanFill 70 = some (.getfield 10, 73, 7, 0, 338) := by unfold mv_in; rw [tb_X10_meanFill]; rfl
theorem r_X10_meanFill_73 : mv_in k_X10_meanFill 73 = some (.getfield 117, 76, 1, 1, 211) := by unfold mv_in; rw [tb_X10_meanFill]; rfl
theorem r_X10_meanFill_76 : mv_in k_X10_meanFill 76 = some (.i2d, 77, 0, 0, 0) := by unfold mv_in; rw [tb_X10_meanFill]; rfl
theorem r_X10_meanFill_77 : mv_in k_X10_meanFill 77 = some (.ddiv, 78, 0, 0, 0) := by unfold mv_in; rw [tb_X10_meanFill]; rfl
theorem r_X10_meanFill_78 : mv_in k_X10_meanFill 78 = some (.dreturn, 79, 0, 0, 0) := by unfold mv_in; rw [tb_X10_meanFill]; rfl
theorem nh_X10_meanFill : mv_nh k_X10_meanFill = true := rfl
theorem tb_X10_floodShare : mv_tb k_X10_floodShare = t_X10_floodShare := rfl
theorem r_X10_floodShare_0 : mv_in k_X10_floodShare 0 = some (.aload_n 0, 1, 0, 0, 0) := by unfold mv_in; rw [tb_X10_floodShare]; rfl
theorem r_X10_floodShare_1 : mv_in k_X10_floodShare 1 = some (.getfield 10, 4, 7, 0, 338) := by unfold mv_in; rw [tb_X10_floodShare]; rfl
theorem r_X10_floodShare_4 : mv_in k_X10_floodShare 4 = some (.getfield 166, 7, 1, 4, 217) := by unfold mv_in; rw [tb_X10_floodShare]; rfl
theorem r_X10_floodShare_7 : mv_in k_X10_floodShare 7 = some (.ifCond .ne 13, 10, 20, 0, 0) := by unfold mv_in; rw [tb_X10_floodShare]; rfl
theorem r_X10_floodShare_10 : mv_in k_X10_floodShare 10 = some (.new 192, 13, 99, 3, 989) := by unfold mv_in; rw [tb_X10_floodShare]; rfl
theorem r_X10_floodShare_13 : mv_in k_X10_floodShare 13 = some (.dup, 14, 0, 0, 0) := by unfold mv_in; rw [tb_X10_floodShare]; rfl
theorem r_X10_floodShare_14 : mv_in k_X10_floodShare 14 = some (.ldc 201, 16, 0, 0, 999) := by unfold mv_in; rw [tb_X10_floodShare]; rfl
theorem r_X10_floodShare_16 : mv_in k_X10_floodShare 16 = some (.invokespecial 196, 19, 999, 2, 991) := by unfold mv_in; rw [tb_X10_floodShare]; rfl
theorem r_X10_floodShare_19 : mv_in k_X10_floodShare 19 = some (.athrow, 20, 0, 0, 0) := by unfold mv_in; rw [tb_X10_floodShare]; rfl
theorem r_X10_floodShare_20 : mv_in k_X10_floodShare 20 = some (.aload_n 0, 21, 0, 0, 0) := by unfold mv_in; rw [tb_X10_floodShare]; rfl
theorem r_X10_floodShare_21 : mv_in k_X10_floodShare 21 = some (.getfield 10, 24, 7, 0, 338) := by unfold mv_in; rw [tb_X10_floodShare]; rfl
theorem r_X10_floodShare_24 : mv_in k_X10_floodShare 24 = some (.invokevirtual 203, 27, k_X2_sumOfFloodedSteps, 1, 1000) := by unfold mv_in; rw [tb_X10_floodShare]; rfl
theorem r_X10_floodShare_27 : mv_in k_X10_floodShare 27 = some (.i2f, 28, 0, 0, 0) := by unfold mv_in; rw [tb_X10_floodShare]; rfl
theorem r_X10_floodShare_28 : mv_in k_X10_floodShare 28 = some (.aload_n 0, 29, 0, 0, 0) := by unfold mv_in; rw [tb_X10_floodShare]; rfl
theorem r_X10_floodShare_29 : mv_in k_X10_floodShare 29 = some (.getfield 10, 32, 7, 0, 338) := by unfold mv_in; rw [tb_X10_floodShare]; rfl
theorem r_X10_floodShare_32 : mv_in k_X10_floodShare 32 = some (.getfield 166, 35, 1, 4, 217) := by unfold mv_in; rw [tb_X10_floodShare]; rfl
theorem r_X10_floodShare_35 : mv_in k_X10_floodShare 35 = some (.i2f, 36, 0, 0, 0) := by unfold mv_in; rw [tb_X10_floodShare]; rfl
theorem r_X10_floodShare_36 : mv_in k_X10_floodShare 36 = some (.fdiv, 37, 0, 0, 0) := by unfold mv_in; rw [tb_X10_floodShare]; rfl
theorem r_X10_floodShare_37 : mv_in k_X10_floodShare 37 = some (.freturn, 38, 0, 0, 0) := by unfold mv_in; rw [tb_X10_floodShare]; rfl
theorem nh_X10_floodShare : mv_nh k_X10_floodShare = true := rfl
section KV
variable {L : Nat} {xs : Nat → Int32}
theorem kv_X11_meanFill  {q nx w : Nat} {ls : mv_V} {st : List Value} {t : Nat} {h : mv_H} : mv_stp L xs (.invokevirtual q, nx, k_X11_meanFill, 1, w) ls (.ref 142 :: st) (t, 149, h) = if mv_cs st ≤ 8 then some (.inr (.inr (k_X11_meanFill, [.ref 142], st))) else none := by
  exact cl_any (nx := nx) (ls := ls) (kk := 1) (as := [.ref 142]) (by decide) rfl rfl (.inr ((by decide : mv_is 149 142 8 = true)))
theorem kv_X11_floodShare  {q nx w : Nat} {ls : mv_V} {st : List Value} {t : Nat} {h : mv_H} : mv_stp L xs (.invokevirtual q, nx, k_X11_floodShare, 1, w) ls (.ref 142 :: st) (t, 149, h) = if mv_cs st ≤ 8 then some (.inr (.inr (k_X11_floodShare, [.ref 142], st))) else none := by
  exact cl_any (nx := nx) (ls := ls) (kk := 1) (as := [.ref 142]) (by decide) rfl rfl (.inr ((by decide : mv_is 149 142 8 = true)))
theorem kv_X10_meanFill  {q nx w : Nat} {ls : mv_V} {st : List Value} {t : Nat} {h : mv_H} : mv_stp L xs (.invokevirtual q, nx, k_X10_meanFill, 1, w) ls (.ref 0 :: st) (t, 149, h) = if mv_cs st ≤ 8 then some (.inr (.inr (k_X10_meanFill, [.ref 0], st))) else none := by
  exact cl_any (nx := nx) (ls := ls) (kk := 1) (as := [.ref 0]) (by decide) rfl rfl (.inr ((by decide : mv_is 149 0 7 = true)))
theorem kv_X10_floodShare  {q nx w : Nat} {ls : mv_V} {st : List Value} {t : Nat} {h : mv_H} : mv_stp L xs (.invokevirtual q, nx, k_X10_floodShare, 1, w) ls (.ref 0 :: st) (t, 149, h) = if mv_cs st ≤ 8 then some (.inr (.inr (k_X10_floodShare, [.ref 0], st))) else none := by
  exact cl_any (nx := nx) (ls := ls) (kk := 1) (as := [.ref 0]) (by decide) rfl rfl (.inr ((by decide : mv_is 149 0 7 = true)))
end KV
theorem n64_of {x : UInt64} (h : Jvm.FP.Core.dIsNaN x = false) : mv_n64 x = true := by
  have h1 : ¬ 9218868437227405312 < x.toNat % 2 ^ 63 := fun q => by
    have := (Jvm.FP.Core.isNaN_bits x).mpr q
    rw [h] at this
    cases this
  unfold mv_n64
  apply decide_eq_true
  rw [UInt64.le_iff_toNat_le, UInt64.toNat_and]
  show x.toNat &&& 9223372036854775807 ≤ 9218868437227405312
  rw [show (9223372036854775807 : Nat) = 2 ^ 63 - 1 from rfl, Nat.and_two_pow_sub_one_eq_mod]
  omega
theorem n32_of {x : UInt32} (h : Jvm.FP.Core.fIsNaN x = false) : mv_n32 x = true := by
  have h1 : ¬ 2139095040 < x.toNat % 2 ^ 31 := fun q => by
    have := (Jvm.FP.Core.isNaN_bits32 x).mpr q
    rw [h] at this
    cases this
  unfold mv_n32
  apply decide_eq_true
  rw [UInt32.le_iff_toNat_le, UInt32.toNat_and]
  show x.toNat &&& 2147483647 ≤ 2139095040
  rw [show (2147483647 : Nat) = 2 ^ 31 - 1 from rfl, Nat.and_two_pow_sub_one_eq_mod]
  omega
theorem i32_ne {c : Int} (h0 : 0 < c) (h1 : c < 2147483648) : Int32.ofInt c ≠ 0 := oz_b0 h0 h1
theorem fp_nz {c : Int} (h0 : 0 < c) (h1 : c < 2147483648) : ¬ Jvm.FP.Core.DZero (Jvm.FP.Core.i2d (Int32.ofInt c)) := fun h => Jvm.FP.Core.i2d_ne_zero (i32_ne h0 h1) ((Jvm.FP.Core.zero_bits2 _).mp h)
/-- a quotient of two whole numbers is a number, and finite -/
theorem fp_q {c : Int} (x : Int32) (h0 : 0 < c) (h1 : c < 2147483648) : Jvm.FP.Core.dIsNaN (Jvm.FP.Core.ddiv (Jvm.FP.Core.i2d x) (Jvm.FP.Core.i2d (Int32.ofInt c))) = false ∧ Jvm.FP.Core.DFin (Jvm.FP.Core.ddiv (Jvm.FP.Core.i2d x) (Jvm.FP.Core.i2d (Int32.ofInt c))) := by
  refine ⟨Jvm.FP.Core.ddiv_out (Jvm.FP.Core.i2d_fin x).notNaN (Jvm.FP.Core.i2d_fin _) (fp_nz h0 h1), ?_⟩
  have hb := Jvm.FP.Core.i2d_big (v := Int32.ofInt c) (Jvm.FP.Core.int32_ne (i32_ne h0 h1))
  have := Jvm.FP.Core.ddiv_mag (K := 1056) (L := 1023) (Jvm.FP.Core.i2d_mag x) hb.1 hb.2 (by omega) (by omega)
  exact Jvm.FP.Core.fin_of_lt (K := 1057) this (by omega)
def zMf (A : Int → Int) : Nat → Int → UInt64 → UInt64
  | 0, _, s => s
  | n + 1, k, s => zMf A n (k + 1) (FP.dadd s (FP.ddiv (FP.i2d (Int32.ofInt (A (6 + 9 * k + 1)))) (FP.i2d (Int32.ofInt (A (6 + 9 * k + 0))))))
def zMn64 (A : Int → Int) : UInt64 := FP.ddiv (zMf A (A 0).toNat 0 0) (FP.i2d (Int32.ofInt (A 0)))
def zFs32 (A : Int → Int) : UInt32 := FP.fdiv (FP.i2f (Int32.ofInt (zSm 8 (A 0).toNat 0 0 A))) (FP.i2f (Int32.ofInt (A 1)))
theorem zMf_nan {A : Int → Int} : ∀ (n : Nat) (k : Int) (s : UInt64), Jvm.FP.Core.dIsNaN s = false → (∀ j, k ≤ j → j < k + n → 10 ≤ A (6 + 9 * j + 0) ∧ A (6 + 9 * j + 0) ≤ 99) → Jvm.FP.Core.dIsNaN (zMf A n k s) = false
  | 0, _, _, h, _ => h
  | n + 1, k, s, h, hk => by
    rw [zMf]
    have h1 := hk k (by omega) (by omega)
    exact zMf_nan n (k + 1) _ (Jvm.FP.Core.dadd_out h (fp_q _ (by omega) (by omega)).2) (fun j h2 h3 => hk j (by omega) (by omega))
theorem fp_0 : Jvm.FP.Core.dIsNaN 0 = false := by decide +kernel
theorem fp_s {s : Int} {c : Int} (h0 : 0 < c) (h1 : c < 2147483648) : Jvm.FP.Core.fIsNaN (FP.fdiv (FP.i2f (Int32.ofInt s)) (FP.i2f (Int32.ofInt c))) = false ∧ Jvm.FP.Core.FFin (FP.fdiv (FP.i2f (Int32.ofInt s)) (FP.i2f (Int32.ofInt c))) := by
  have hz : ¬ Jvm.FP.Core.FZero (Jvm.FP.Core.i2f (Int32.ofInt c)) := fun h => Jvm.FP.Core.i2f_ne_zero (i32_ne h0 h1) ((Jvm.FP.Core.zero_bits232 _).mp h)
  refine ⟨Jvm.FP.Core.fdiv_out (Jvm.FP.Core.i2f_fin _).notNaN (Jvm.FP.Core.i2f_fin _) hz, ?_⟩
  have hb := Jvm.FP.Core.i2f_big (v := Int32.ofInt c) (Jvm.FP.Core.int32_ne (i32_ne h0 h1))
  have := Jvm.FP.Core.fdiv_mag (K := 160) (L := 127) (Jvm.FP.Core.i2f_mag (Int32.ofInt s)) hb.1 hb.2 (by omega) (by omega)
  exact Jvm.FP.Core.fin_of_lt32 (K := 161) this (by omega)
theorem fp_w {x : UInt32} (h : Jvm.FP.Core.fIsNaN x = false) (h2 : Jvm.FP.Core.FFin x) : Jvm.FP.Core.dIsNaN (FP.f2d x) = false := by
  have e : FP.f2d x = Jvm.FP.Core.f2d x := by unfold FP.f2d; rw [h]; rfl
  rw [e]
  exact (Jvm.FP.Core.f2d_fin h2).notNaN
theorem fp_c {x : UInt64} (h : Jvm.FP.Core.dIsNaN x = false) (o : CmpOp) : Op.cmpValue (FP.dcmp x x) o = Int32.ofInt 0 := by
  rw [show FP.dcmp x x = some .eq from Jvm.FP.Core.dcmp_refl h]
  cases o <;> rfl
section FPS
variable {L : Nat} {xs : Nat → Int32} {d t : Nat} {T : zT} {A B F : Int → Int}
theorem lp_X11_meanFill (hd : 2 ≤ d) (hW : zWF A 99) : ∀ (n : Nat) (k : Int) (s : UInt64), 0 ≤ k → k + n = A 0 → Jvm.FP.Core.dIsNaN s = false → mv_Ev L xs (mv_cl L xs d) k_X11_meanFill 4 [(3, .int (Int32.ofInt k)), (1, .double s), (0, .ref 142)] [] (t, 149, mz (sD (sD T 142 F) 143 A)) (.inl (some (.double (if 0 < A 0 then FP.ddiv (zMf A n k s) (FP.i2d (Int32.ofInt (A 0))) else 0))), (t, 149, mz (sD (sD T 142 (upR F 0 (if 0 < A 0 then 0 else 1))) 143 A))) := by
  have a5 := hW.2.1
  intro n
  induction n with
  | zero =>
    intro k s h0 hn hs
    have e1 := fun A v hv => c_X11_isFine (L := L) (xs := xs) (t := t) (T := sD T 143 A) (F := F) (d := d) (v := v) (by omega) hv
    simp only [sD_comm T (o := 143) (p := 142) _ _ (by decide)] at e1
    by_cases q : 0 < A 0
    · have hq : mv_n64 (FP.ddiv s (FP.i2d (Int32.ofInt (A 0)))) = true := n64_of (Jvm.FP.Core.ddiv_out hs (Jvm.FP.Core.i2d_fin _) (fp_nz q (by omega)))
      simp (disch := omega) only [mv_Ev_row r_X11_meanFill_0, mv_Ev_row r_X11_meanFill_1, mv_Ev_row r_X11_meanFill_2, mv_Ev_row r_X11_meanFill_3, mv_Ev_row r_X11_meanFill_4, mv_Ev_row r_X11_meanFill_5, mv_Ev_row r_X11_meanFill_6, mv_Ev_row r_X11_meanFill_9, mv_Ev_row r_X11_meanFill_10, mv_Ev_row r_X11_meanFill_11, mv_Ev_row r_X11_meanFill_14, mv_Ev_row r_X11_meanFill_15, mv_Ev_row r_X11_meanFill_16, mv_Ev_row r_X11_meanFill_17, mv_Ev_row r_X11_meanFill_18, mv_Ev_row r_X11_meanFill_21, mv_Ev_row r_X11_meanFill_22, mv_Ev_row r_X11_meanFill_23, mv_Ev_row r_X11_meanFill_24, mv_Ev_row r_X11_meanFill_25, mv_Ev_row r_X11_meanFill_28, mv_Ev_row r_X11_meanFill_29, mv_Ev_row r_X11_meanFill_30, mv_Ev_row r_X11_meanFill_31, mv_Ev_row r_X11_meanFill_32, mv_Ev_row r_X11_meanFill_35, mv_Ev_row r_X11_meanFill_38, mv_Ev_row r_X11_meanFill_39, mv_Ev_row r_X11_meanFill_40, mv_Ev_row r_X11_meanFill_43, mv_Ev_row r_X11_meanFill_44, mv_Ev_row r_X11_meanFill_45, mv_Ev_row r_X11_meanFill_48, mv_Ev_row r_X11_meanFill_49, mv_Ev_row r_X11_meanFill_52, mv_Ev_row r_X11_meanFill_53, mv_Ev_row r_X11_meanFill_56, mv_Ev_row r_X11_meanFill_59, mv_Ev_row r_X11_meanFill_60, mv_Ev_row r_X11_meanFill_61, mv_Ev_row r_X11_meanFill_64, mv_Ev_row r_X11_meanFill_65, mv_Ev_row r_X11_meanFill_66, mv_Ev_row r_X11_meanFill_67, mv_Ev_row r_X11_meanFill_68, mv_Ev_row r_X11_meanFill_71, mv_Ev_row r_X11_meanFill_72, ea_dconst, ea_dstore_n, ea_iconst, ea_istore_n, ea_iload_n, ea_aload_n, gg_8_1, ea_icmp, ea_dload_n, kv_X11_b, ea_i2d, ea_ddiv, ea_dadd, ea_iinc, eb_inc, ea_goto, ea_ifc, kv_X11_isFine, ea_dret, ar_ld0 ai_143, cz_eq, cz_ne, cz_lt, cz_ge, cz_gt, cz_le, c0_eq, c0_ne, c0_lt, c0_ge, c0_gt, c0_le, mv_ac, decide_eq_true_eq, not_true_eq_false, and_self, and_true, true_and, ea_2n, ea_2f, ea_2c, ea_if, if_pos, if_neg, mv_lk, mv_f1, mv_f2, Value.category, List.filter, ↓reduceIte, Nat.reduceEqDiff, Nat.reduceAdd, Nat.reduceLT, Nat.reduceBEq, Nat.zero_add, Nat.add_zero, Nat.zero_ne_one, Nat.one_ne_zero, Bool.not_true, Bool.not_false, Bool.and_true, Bool.true_and, Bool.and_false, Bool.false_and, BEq.rfl, beq_self_eq_true, Bool.false_eq_true, reduceCtorEq, not_false_eq_true, fv0, fv1, fv2, fv3, eb_l0, eb_l1, eb_l2, eb_l3, eb_l4, eb_l5, eb_s0, eb_s1, eb_s2, eb_s3, eb_s4, eb_s5, oz_add, oz_sub, oz_mul, oz_neg, ol_add, ol_sub, sD_eq, sD_sD, sD_ne, sD_in, sD_in2, sD_in3, upR_is, upR_ne, mk_v, mk_n, mk_x, mk_i, mv_cs, Nat.reduceLeDiff, mv_ch_z, nh_X11_meanFill, zMf, e1, ea_ddiv hq, Int.sub_self]
    · simp (disch := omega) only [mv_Ev_row r_X11_meanFill_0, mv_Ev_row r_X11_meanFill_1, mv_Ev_row r_X11_meanFill_2, mv_Ev_row r_X11_meanFill_3, mv_Ev_row r_X11_meanFill_4, mv_Ev_row r_X11_meanFill_5, mv_Ev_row r_X11_meanFill_6, mv_Ev_row r_X11_meanFill_9, mv_Ev_row r_X11_meanFill_10, mv_Ev_row r_X11_meanFill_11, mv_Ev_row r_X11_meanFill_14, mv_Ev_row r_X11_meanFill_15, mv_Ev_row r_X11_meanFill_16, mv_Ev_row r_X11_meanFill_17, mv_Ev_row r_X11_meanFill_18, mv_Ev_row r_X11_meanFill_21, mv_Ev_row r_X11_meanFill_22, mv_Ev_row r_X11_meanFill_23, mv_Ev_row r_X11_meanFill_24, mv_Ev_row r_X11_meanFill_25, mv_Ev_row r_X11_meanFill_28, mv_Ev_row r_X11_meanFill_29, mv_Ev_row r_X11_meanFill_30, mv_Ev_row r_X11_meanFill_31, mv_Ev_row r_X11_meanFill_32, mv_Ev_row r_X11_meanFill_35, mv_Ev_row r_X11_meanFill_38, mv_Ev_row r_X11_meanFill_39, mv_Ev_row r_X11_meanFill_40, mv_Ev_row r_X11_meanFill_43, mv_Ev_row r_X11_meanFill_44, mv_Ev_row r_X11_meanFill_45, mv_Ev_row r_X11_meanFill_48, mv_Ev_row r_X11_meanFill_49, mv_Ev_row r_X11_meanFill_52, mv_Ev_row r_X11_meanFill_53, mv_Ev_row r_X11_meanFill_56, mv_Ev_row r_X11_meanFill_59, mv_Ev_row r_X11_meanFill_60, mv_Ev_row r_X11_meanFill_61, mv_Ev_row r_X11_meanFill_64, mv_Ev_row r_X11_meanFill_65, mv_Ev_row r_X11_meanFill_66, mv_Ev_row r_X11_meanFill_67, mv_Ev_row r_X11_meanFill_68, mv_Ev_row r_X11_meanFill_71, mv_Ev_row r_X11_meanFill_72, ea_dconst, ea_dstore_n, ea_iconst, ea_istore_n, ea_iload_n, ea_aload_n, gg_8_1, ea_icmp, ea_dload_n, kv_X11_b, ea_i2d, ea_ddiv, ea_dadd, ea_iinc, eb_inc, ea_goto, ea_ifc, kv_X11_isFine, ea_dret, ar_ld0 ai_143, cz_eq, cz_ne, cz_lt, cz_ge, cz_gt, cz_le, c0_eq, c0_ne, c0_lt, c0_ge, c0_gt, c0_le, mv_ac, decide_eq_true_eq, not_true_eq_false, and_self, and_true, true_and, ea_2n, ea_2f, ea_2c, ea_if, if_pos, if_neg, mv_lk, mv_f1, mv_f2, Value.category, List.filter, ↓reduceIte, Nat.reduceEqDiff, Nat.reduceAdd, Nat.reduceLT, Nat.reduceBEq, Nat.zero_add, Nat.add_zero, Nat.zero_ne_one, Nat.one_ne_zero, Bool.not_true, Bool.not_false, Bool.and_true, Bool.true_and, Bool.and_false, Bool.false_and, BEq.rfl, beq_self_eq_true, Bool.false_eq_true, reduceCtorEq, not_false_eq_true, fv0, fv1, fv2, fv3, eb_l0, eb_l1, eb_l2, eb_l3, eb_l4, eb_l5, eb_s0, eb_s1, eb_s2, eb_s3, eb_s4, eb_s5, oz_add, oz_sub, oz_mul, oz_neg, ol_add, ol_sub, sD_eq, sD_sD, sD_ne, sD_in, sD_in2, sD_in3, upR_is, upR_ne, mk_v, mk_n, mk_x, mk_i, mv_cs, Nat.reduceLeDiff, mv_ch_z, nh_X11_meanFill, zMf, e1, Int.sub_zero]
  | succ n ih =>
    intro k s h0 hn hs
    have hk := hW.2.2.2.2.1 k h0 (by omega)
    unfold zOK at hk
    have hq := fp_q (c := A (6 + 9 * k + 0)) (Int32.ofInt (A (6 + 9 * k + 1))) (by omega) (by omega)
    have hq1 : mv_n64 (FP.ddiv (FP.i2d (Int32.ofInt (A (6 + 9 * k + 1)))) (FP.i2d (Int32.ofInt (A (6 + 9 * k + 0))))) = true := n64_of hq.1
    have hs2 := Jvm.FP.Core.dadd_out hs hq.2
    have hq2 : mv_n64 (FP.dadd s (FP.ddiv (FP.i2d (Int32.ofInt (A (6 + 9 * k + 1)))) (FP.i2d (Int32.ofInt (A (6 + 9 * k + 0)))))) = true := n64_of hs2
    have h := ih (k + 1) _ (by omega) (by omega) hs2
    have hpos : 0 < A 0 := by omega
    simp only [if_pos hpos] at h ⊢
    rw [zMf]
    rw [mv_Ev_row r_X11_meanFill_4]
    simp (disch := omega) only [mv_Ev_row r_X11_meanFill_0, mv_Ev_row r_X11_meanFill_1, mv_Ev_row r_X11_meanFill_2, mv_Ev_row r_X11_meanFill_3, mv_Ev_row r_X11_meanFill_5, mv_Ev_row r_X11_meanFill_6, mv_Ev_row r_X11_meanFill_9, mv_Ev_row r_X11_meanFill_10, mv_Ev_row r_X11_meanFill_11, mv_Ev_row r_X11_meanFill_14, mv_Ev_row r_X11_meanFill_15, mv_Ev_row r_X11_meanFill_16, mv_Ev_row r_X11_meanFill_17, mv_Ev_row r_X11_meanFill_18, mv_Ev_row r_X11_meanFill_21, mv_Ev_row r_X11_meanFill_22, mv_Ev_row r_X11_meanFill_23, mv_Ev_row r_X11_meanFill_24, mv_Ev_row r_X11_meanFill_25, mv_Ev_row r_X11_meanFill_28, mv_Ev_row r_X11_meanFill_29, mv_Ev_row r_X11_meanFill_30, mv_Ev_row r_X11_meanFill_31, mv_Ev_row r_X11_meanFill_32, mv_Ev_row r_X11_meanFill_35, mv_Ev_row r_X11_meanFill_38, mv_Ev_row r_X11_meanFill_39, mv_Ev_row r_X11_meanFill_40, mv_Ev_row r_X11_meanFill_43, mv_Ev_row r_X11_meanFill_44, mv_Ev_row r_X11_meanFill_45, mv_Ev_row r_X11_meanFill_48, mv_Ev_row r_X11_meanFill_49, mv_Ev_row r_X11_meanFill_52, mv_Ev_row r_X11_meanFill_53, mv_Ev_row r_X11_meanFill_56, mv_Ev_row r_X11_meanFill_59, mv_Ev_row r_X11_meanFill_60, mv_Ev_row r_X11_meanFill_61, mv_Ev_row r_X11_meanFill_64, mv_Ev_row r_X11_meanFill_65, mv_Ev_row r_X11_meanFill_66, mv_Ev_row r_X11_meanFill_67, mv_Ev_row r_X11_meanFill_68, mv_Ev_row r_X11_meanFill_71, mv_Ev_row r_X11_meanFill_72, ea_dconst, ea_dstore_n, ea_iconst, ea_istore_n, ea_iload_n, ea_aload_n, gg_8_1, ea_icmp, ea_dload_n, kv_X11_b, ea_i2d, ea_ddiv, ea_dadd, ea_iinc, eb_inc, ea_goto, ea_ifc, kv_X11_isFine, ea_dret, ar_ld0 ai_143, cz_eq, cz_ne, cz_lt, cz_ge, cz_gt, cz_le, c0_eq, c0_ne, c0_lt, c0_ge, c0_gt, c0_le, mv_ac, decide_eq_true_eq, not_true_eq_false, and_self, and_true, true_and, ea_2n, ea_2f, ea_2c, ea_if, if_pos, if_neg, mv_lk, mv_f1, mv_f2, Value.category, List.filter, ↓reduceIte, Nat.reduceEqDiff, Nat.reduceAdd, Nat.reduceLT, Nat.reduceBEq, Nat.zero_add, Nat.add_zero, Nat.zero_ne_one, Nat.one_ne_zero, Bool.not_true, Bool.not_false, Bool.and_true, Bool.true_and, Bool.and_false, Bool.false_and, BEq.rfl, beq_self_eq_true, Bool.false_eq_true, reduceCtorEq, not_false_eq_true, fv0, fv1, fv2, fv3, eb_l0, eb_l1, eb_l2, eb_l3, eb_l4, eb_l5, eb_s0, eb_s1, eb_s2, eb_s3, eb_s4, eb_s5, oz_add, oz_sub, oz_mul, oz_neg, ol_add, ol_sub, sD_eq, sD_sD, sD_ne, sD_in, sD_in2, sD_in3, upR_is, upR_ne, mk_v, mk_n, mk_x, mk_i, mv_cs, Nat.reduceLeDiff, mv_ch_z, nh_X11_meanFill, c_X11_b, ea_ddiv hq1, ea_dadd hq2]
    exact mv_Es h
theorem c_X11_meanFill (hd : 3 ≤ d) (hW : zWF A 99) : mv_cl L xs d k_X11_meanFill [.ref 142] (t, 149, mz (sD (sD T 142 F) 143 A)) = some (.inl (some (.double (if 0 < A 0 then zMn64 A else 0))), (t, 149, mz (sD (sD T 142 (upR F 0 (if 0 < A 0 then 0 else 1))) 143 A))) := by
  have a0 := hW.1
  obtain ⟨d, rfl⟩ : ∃ e, d = e + 1 := ⟨d - 1, by omega⟩
  apply mv_cl_of
  simp only [mv_il, Value.category, Nat.zero_add, Nat.reduceAdd]
  simp (disch := omega) only [mv_Ev_row r_X11_meanFill_0, mv_Ev_row r_X11_meanFill_1, mv_Ev_row r_X11_meanFill_2, mv_Ev_row r_X11_meanFill_3, mv_Ev_row r_X11_meanFill_5, mv_Ev_row r_X11_meanFill_6, mv_Ev_row r_X11_meanFill_9, mv_Ev_row r_X11_meanFill_10, mv_Ev_row r_X11_meanFill_11, mv_Ev_row r_X11_meanFill_14, mv_Ev_row r_X11_meanFill_15, mv_Ev_row r_X11_meanFill_16, mv_Ev_row r_X11_meanFill_17, mv_Ev_row r_X11_meanFill_18, mv_Ev_row r_X11_meanFill_21, mv_Ev_row r_X11_meanFill_22, mv_Ev_row r_X11_meanFill_23, mv_Ev_row r_X11_meanFill_24, mv_Ev_row r_X11_meanFill_25, mv_Ev_row r_X11_meanFill_28, mv_Ev_row r_X11_meanFill_29, mv_Ev_row r_X11_meanFill_30, mv_Ev_row r_X11_meanFill_31, mv_Ev_row r_X11_meanFill_32, mv_Ev_row r_X11_meanFill_35, mv_Ev_row r_X11_meanFill_38, mv_Ev_row r_X11_meanFill_39, mv_Ev_row r_X11_meanFill_40, mv_Ev_row r_X11_meanFill_43, mv_Ev_row r_X11_meanFill_44, mv_Ev_row r_X11_meanFill_45, mv_Ev_row r_X11_meanFill_48, mv_Ev_row r_X11_meanFill_49, mv_Ev_row r_X11_meanFill_52, mv_Ev_row r_X11_meanFill_53, mv_Ev_row r_X11_meanFill_56, mv_Ev_row r_X11_meanFill_59, mv_Ev_row r_X11_meanFill_60, mv_Ev_row r_X11_meanFill_61, mv_Ev_row r_X11_meanFill_64, mv_Ev_row r_X11_meanFill_65, mv_Ev_row r_X11_meanFill_66, mv_Ev_row r_X11_meanFill_67, mv_Ev_row r_X11_meanFill_68, mv_Ev_row r_X11_meanFill_71, mv_Ev_row r_X11_meanFill_72, ea_dconst, ea_dstore_n, ea_iconst, ea_istore_n, ea_iload_n, ea_aload_n, gg_8_1, ea_icmp, ea_dload_n, kv_X11_b, ea_i2d, ea_ddiv, ea_dadd, ea_iinc, eb_inc, ea_goto, ea_ifc, kv_X11_isFine, ea_dret, ar_ld0 ai_143, cz_eq, cz_ne, cz_lt, cz_ge, cz_gt, cz_le, c0_eq, c0_ne, c0_lt, c0_ge, c0_gt, c0_le, mv_ac, decide_eq_true_eq, not_true_eq_false, and_self, and_true, true_and, ea_2n, ea_2f, ea_2c, ea_if, mv_lk, mv_f1, mv_f2, Value.category, List.filter, ↓reduceIte, Nat.reduceEqDiff, Nat.reduceAdd, Nat.reduceLT, Nat.reduceBEq, Nat.zero_add, Nat.add_zero, Nat.zero_ne_one, Nat.one_ne_zero, Bool.not_true, Bool.not_false, Bool.and_true, Bool.true_and, Bool.and_false, Bool.false_and, BEq.rfl, beq_self_eq_true, Bool.false_eq_true, reduceCtorEq, not_false_eq_true, fv0, fv1, fv2, fv3, eb_l0, eb_l1, eb_l2, eb_l3, eb_l4, eb_l5, eb_s0, eb_s1, eb_s2, eb_s3, eb_s4, eb_s5, oz_add, oz_sub, oz_mul, oz_neg, ol_add, ol_sub, sD_eq, sD_sD, sD_ne, sD_in, sD_in2, sD_in3, upR_is, upR_ne, mk_v, mk_n, mk_x, mk_i, mv_cs, Nat.reduceLeDiff, mv_ch_z, nh_X11_meanFill]
  exact mv_Es (lp_X11_meanFill (by omega) hW (A 0).toNat 0 0 (by omega) (by omega) fp_0)
theorem c_X11_floodShare (hd : 3 ≤ d) (hW : zWF A 99) (h1 : 0 ≤ A 1) (h2 : A 1 < 2147483648) : mv_cl L xs d k_X11_floodShare [.ref 142] (t, 149, mz (sD (sD T 142 F) 143 A)) = some (.inl (some (.float (if 0 < A 1 then zFs32 A else 0))), (t, 149, mz (sD (sD T 142 (upR F 0 (if 0 < A 1 then 0 else 1))) 143 A))) := by
  have a0 := hW.1
  have a5 := hW.2.1
  obtain ⟨d, rfl⟩ : ∃ e, d = e + 1 := ⟨d - 1, by omega⟩
  apply mv_cl_of
  simp only [mv_il, Value.category, Nat.zero_add, Nat.reduceAdd]
  have e1 := fun A v hv => c_X11_isFine (L := L) (xs := xs) (t := t) (T := sD T 143 A) (F := F) (d := d) (v := v) (by omega) hv
  simp only [sD_comm T (o := 143) (p := 142) _ _ (by decide)] at e1
  by_cases q : 0 < A 1
  · have hq : mv_n32 (FP.fdiv (FP.i2f (Int32.ofInt (zSm 8 (A 0).toNat 0 0 A))) (FP.i2f (Int32.ofInt (A 1)))) = true := n32_of (fp_s q h2).1
    simp (disch := omega) only [mv_Ev_row r_X11_floodShare_0, mv_Ev_row r_X11_floodShare_1, mv_Ev_row r_X11_floodShare_2, mv_Ev_row r_X11_floodShare_5, mv_Ev_row r_X11_floodShare_6, mv_Ev_row r_X11_floodShare_7, mv_Ev_row r_X11_floodShare_10, mv_Ev_row r_X11_floodShare_11, mv_Ev_row r_X11_floodShare_14, mv_Ev_row r_X11_floodShare_15, mv_Ev_row r_X11_floodShare_18, mv_Ev_row r_X11_floodShare_21, mv_Ev_row r_X11_floodShare_22, mv_Ev_row r_X11_floodShare_24, mv_Ev_row r_X11_floodShare_27, mv_Ev_row r_X11_floodShare_28, mv_Ev_row r_X11_floodShare_29, mv_Ev_row r_X11_floodShare_32, mv_Ev_row r_X11_floodShare_33, mv_Ev_row r_X11_floodShare_34, mv_Ev_row r_X11_floodShare_35, mv_Ev_row r_X11_floodShare_36, mv_Ev_row r_X11_floodShare_39, mv_Ev_row r_X11_floodShare_40, ea_aload_n, gg_8_1, ea_iconst, ea_ifc, ea_goto, kv_X11_isFine, ea_bipush, kv_X11_sum, ea_i2f, ea_fdiv, ea_fconst, ea_fret, ar_ld0 ai_143, bz_8, c0_eq, c0_ne, c0_lt, c0_ge, c0_gt, c0_le, mv_ac, decide_eq_true_eq, not_true_eq_false, and_self, and_true, true_and, ea_2n, ea_2f, ea_2c, ea_if, if_pos, if_neg, mv_lk, mv_f1, mv_f2, Value.category, List.filter, ↓reduceIte, Nat.reduceEqDiff, Nat.reduceAdd, Nat.reduceLT, Nat.reduceBEq, Nat.zero_add, Nat.add_zero, Nat.zero_ne_one, Nat.one_ne_zero, Bool.not_true, Bool.not_false, Bool.and_true, Bool.true_and, Bool.and_false, Bool.false_and, BEq.rfl, beq_self_eq_true, Bool.false_eq_true, reduceCtorEq, not_false_eq_true, fv0, fv1, fv2, fv3, eb_l0, eb_l1, eb_l2, eb_l3, eb_l4, eb_l5, eb_s0, eb_s1, eb_s2, eb_s3, eb_s4, eb_s5, oz_add, oz_sub, oz_mul, oz_neg, ol_add, ol_sub, sD_eq, sD_sD, sD_ne, sD_in, sD_in2, sD_in3, upR_is, upR_ne, mk_v, mk_n, mk_x, mk_i, mv_cs, Nat.reduceLeDiff, mv_ch_z, nh_X11_floodShare, e1, c_X11_sum, ea_fdiv hq, Int.sub_self, zFs32]
  · simp (disch := omega) only [mv_Ev_row r_X11_floodShare_0, mv_Ev_row r_X11_floodShare_1, mv_Ev_row r_X11_floodShare_2, mv_Ev_row r_X11_floodShare_5, mv_Ev_row r_X11_floodShare_6, mv_Ev_row r_X11_floodShare_7, mv_Ev_row r_X11_floodShare_10, mv_Ev_row r_X11_floodShare_11, mv_Ev_row r_X11_floodShare_14, mv_Ev_row r_X11_floodShare_15, mv_Ev_row r_X11_floodShare_18, mv_Ev_row r_X11_floodShare_21, mv_Ev_row r_X11_floodShare_22, mv_Ev_row r_X11_floodShare_24, mv_Ev_row r_X11_floodShare_27, mv_Ev_row r_X11_floodShare_28, mv_Ev_row r_X11_floodShare_29, mv_Ev_row r_X11_floodShare_32, mv_Ev_row r_X11_floodShare_33, mv_Ev_row r_X11_floodShare_34, mv_Ev_row r_X11_floodShare_35, mv_Ev_row r_X11_floodShare_36, mv_Ev_row r_X11_floodShare_39, mv_Ev_row r_X11_floodShare_40, ea_aload_n, gg_8_1, ea_iconst, ea_ifc, ea_goto, kv_X11_isFine, ea_bipush, kv_X11_sum, ea_i2f, ea_fdiv, ea_fconst, ea_fret, ar_ld0 ai_143, bz_8, c0_eq, c0_ne, c0_lt, c0_ge, c0_gt, c0_le, mv_ac, decide_eq_true_eq, not_true_eq_false, and_self, and_true, true_and, ea_2n, ea_2f, ea_2c, ea_if, if_pos, if_neg, mv_lk, mv_f1, mv_f2, Value.category, List.filter, ↓reduceIte, Nat.reduceEqDiff, Nat.reduceAdd, Nat.reduceLT, Nat.reduceBEq, Nat.zero_add, Nat.add_zero, Nat.zero_ne_one, Nat.one_ne_zero, Bool.not_true, Bool.not_false, Bool.and_true, Bool.true_and, Bool.and_false, Bool.false_and, BEq.rfl, beq_self_eq_true, Bool.false_eq_true, reduceCtorEq, not_false_eq_true, fv0, fv1, fv2, fv3, eb_l0, eb_l1, eb_l2, eb_l3, eb_l4, eb_l5, eb_s0, eb_s1, eb_s2, eb_s3, eb_s4, eb_s5, oz_add, oz_sub, oz_mul, oz_neg, ol_add, ol_sub, sD_eq, sD_sD, sD_ne, sD_in, sD_in2, sD_in3, upR_is, upR_ne, mk_v, mk_n, mk_x, mk_i, mv_cs, Nat.reduceLeDiff, mv_ch_z, nh_X11_floodShare, e1, Int.sub_zero]
end FPS

