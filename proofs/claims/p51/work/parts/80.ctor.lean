/-! THE CONSTRUCTORS -/
theorem tb_X1_init : mv_tb k_X1_init = t_X1_init := rfl
theorem r_X1_init_0 : mv_in k_X1_init 0 = some (.aload_n 0, 1, 0, 0, 0) := by unfold mv_in; rw [tb_X1_init]; rfl
theorem r_X1_init_1 : mv_in k_X1_init 1 = some (.invokespecial 3, 4, 905, 1, 114) := by unfold mv_in; rw [tb_X1_init]; rfl
theorem r_X1_init_4 : mv_in k_X1_init 4 = some (.aload_n 0, 5, 0, 0, 0) := by unfold mv_in; rw [tb_X1_init]; rfl
theorem r_X1_init_5 : mv_in k_X1_init 5 = some (.iconst 0, 6, 0, 0, 0) := by unfold mv_in; rw [tb_X1_init]; rfl
theorem r_X1_init_6 : mv_in k_X1_init 6 = some (.putfield 9, 9, 0, 0, 115) := by unfold mv_in; rw [tb_X1_init]; rfl
theorem r_X1_init_9 : mv_in k_X1_init 9 = some (.aload_n 0, 10, 0, 0, 0) := by unfold mv_in; rw [tb_X1_init]; rfl
theorem r_X1_init_10 : mv_in k_X1_init 10 = some (.iconst 0, 11, 0, 0, 0) := by unfold mv_in; rw [tb_X1_init]; rfl
theorem r_X1_init_11 : mv_in k_X1_init 11 = some (.putfield 15, 14, 0, 1, 118) := by unfold mv_in; rw [tb_X1_init]; rfl
theorem r_X1_init_14 : mv_in k_X1_init 14 = some (.aload_n 0, 15, 0, 0, 0) := by unfold mv_in; rw [tb_X1_init]; rfl
theorem r_X1_init_15 : mv_in k_X1_init 15 = some (.iconst 0, 16, 0, 0, 0) := by unfold mv_in; rw [tb_X1_init]; rfl
theorem r_X1_init_16 : mv_in k_X1_init 16 = some (.putfield 18, 19, 0, 2, 120) := by unfold mv_in; rw [tb_X1_init]; rfl
theorem r_X1_init_19 : mv_in k_X1_init 19 = some (.aload_n 0, 20, 0, 0, 0) := by unfold mv_in; rw [tb_X1_init]; rfl
theorem r_X1_init_20 : mv_in k_X1_init 20 = some (.iconst 0, 21, 0, 0, 0) := by unfold mv_in; rw [tb_X1_init]; rfl
theorem r_X1_init_21 : mv_in k_X1_init 21 = some (.putfield 21, 24, 0, 3, 122) := by unfold mv_in; rw [tb_X1_init]; rfl
theorem r_X1_init_24 : mv_in k_X1_init 24 = some (.aload_n 0, 25, 0, 0, 0) := by unfold mv_in; rw [tb_X1_init]; rfl
theorem r_X1_init_25 : mv_in k_X1_init 25 = some (.iconst 0, 26, 0, 0, 0) := by unfold mv_in; rw [tb_X1_init]; rfl
theorem r_X1_init_26 : mv_in k_X1_init 26 = some (.putfield 24, 29, 0, 4, 125) := by unfold mv_in; rw [tb_X1_init]; rfl
theorem r_X1_init_29 : mv_in k_X1_init 29 = some (.aload_n 0, 30, 0, 0, 0) := by unfold mv_in; rw [tb_X1_init]; rfl
theorem r_X1_init_30 : mv_in k_X1_init 30 = some (.iconst 0, 31, 0, 0, 0) := by unfold mv_in; rw [tb_X1_init]; rfl
theorem r_X1_init_31 : mv_in k_X1_init 31 = some (.putfield 27, 34, 0, 5, 128) := by unfold mv_in; rw [tb_X1_init]; rfl
theorem r_X1_init_34 : mv_in k_X1_init 34 = some (.aload_n 0, 35, 0, 0, 0) := by unfold mv_in; rw [tb_X1_init]; rfl
theorem r_X1_init_35 : mv_in k_X1_init 35 = some (.iconst 0, 36, 0, 0, 0) := by unfold mv_in; rw [tb_X1_init]; rfl
theorem r_X1_init_36 : mv_in k_X1_init 36 = some (.putfield 31, 39, 0, 6, 131) := by unfold mv_in; rw [tb_X1_init]; rfl
theorem r_X1_init_39 : mv_in k_X1_init 39 = some (.aload_n 0, 40, 0, 0, 0) := by unfold mv_in; rw [tb_X1_init]; rfl
theorem r_X1_init_40 : mv_in k_X1_init 40 = some (.iconst 0, 41, 0, 0, 0) := by unfold mv_in; rw [tb_X1_init]; rfl
theorem r_X1_init_41 : mv_in k_X1_init 41 = some (.putfield 34, 44, 0, 7, 134) := by unfold mv_in; rw [tb_X1_init]; rfl
theorem r_X1_init_44 : mv_in k_X1_init 44 = some (.aload_n 0, 45, 0, 0, 0) := by unfold mv_in; rw [tb_X1_init]; rfl
theorem r_X1_init_45 : mv_in k_X1_init 45 = some (.iconst 0, 46, 0, 0, 0) := by unfold mv_in; rw [tb_X1_init]; rfl
theorem r_X1_init_46 : mv_in k_X1_init 46 = some (.putfield 37, 49, 0, 8, 137) := by unfold mv_in; rw [tb_X1_init]; rfl
theorem r_X1_init_49 : mv_in k_X1_init 49 = some (.return_, 50, 0, 0, 0) := by unfold mv_in; rw [tb_X1_init]; rfl
theorem nh_X1_init : mv_nh k_X1_init = true := rfl
theorem tb_X2_init : mv_tb k_X2_init = t_X2_init := rfl
theorem r_X2_init_0 : mv_in k_X2_init 0 = some (.aload_n 0, 1, 0, 0, 0) := by unfold mv_in; rw [tb_X2_init]; rfl
theorem r_X2_init_1 : mv_in k_X2_init 1 = some (.invokespecial 3, 4, 905, 1, 107) := by unfold mv_in; rw [tb_X2_init]; rfl
theorem r_X2_init_4 : mv_in k_X2_init 4 = some (.aload_n 0, 5, 0, 0, 0) := by unfold mv_in; rw [tb_X2_init]; rfl
theorem r_X2_init_5 : mv_in k_X2_init 5 = some (.iconst 5, 6, 0, 0, 0) := by unfold mv_in; rw [tb_X2_init]; rfl
theorem r_X2_init_6 : mv_in k_X2_init 6 = some (.anewarray 9, 9, 24, 0, 108) := by unfold mv_in; rw [tb_X2_init]; rfl
theorem r_X2_init_9 : mv_in k_X2_init 9 = some (.putfield 11, 12, 1, 0, 160) := by unfold mv_in; rw [tb_X2_init]; rfl
theorem r_X2_init_12 : mv_in k_X2_init 12 = some (.aload_n 0, 13, 0, 0, 0) := by unfold mv_in; rw [tb_X2_init]; rfl
theorem r_X2_init_13 : mv_in k_X2_init 13 = some (.iconst 0, 14, 0, 0, 0) := by unfold mv_in; rw [tb_X2_init]; rfl
theorem r_X2_init_14 : mv_in k_X2_init 14 = some (.putfield 17, 17, 1, 1, 162) := by unfold mv_in; rw [tb_X2_init]; rfl
theorem r_X2_init_17 : mv_in k_X2_init 17 = some (.aload_n 0, 18, 0, 0, 0) := by unfold mv_in; rw [tb_X2_init]; rfl
theorem r_X2_init_18 : mv_in k_X2_init 18 = some (.bipush 12, 20, 0, 0, 0) := by unfold mv_in; rw [tb_X2_init]; rfl
theorem r_X2_init_20 : mv_in k_X2_init 20 = some (.newarray .int, 22, 20, 0, 0) := by unfold mv_in; rw [tb_X2_init]; rfl
theorem r_X2_init_22 : mv_in k_X2_init 22 = some (.putfield 21, 25, 1, 2, 164) := by unfold mv_in; rw [tb_X2_init]; rfl
theorem r_X2_init_25 : mv_in k_X2_init 25 = some (.aload_n 0, 26, 0, 0, 0) := by unfold mv_in; rw [tb_X2_init]; rfl
theorem r_X2_init_26 : mv_in k_X2_init 26 = some (.iconst 0, 27, 0, 0, 0) := by unfold mv_in; rw [tb_X2_init]; rfl
theorem r_X2_init_27 : mv_in k_X2_init 27 = some (.putfield 25, 30, 1, 3, 166) := by unfold mv_in; rw [tb_X2_init]; rfl
theorem r_X2_init_30 : mv_in k_X2_init 30 = some (.aload_n 0, 31, 0, 0, 0) := by unfold mv_in; rw [tb_X2_init]; rfl
theorem r_X2_init_31 : mv_in k_X2_init 31 = some (.iconst 0, 32, 0, 0, 0) := by unfold mv_in; rw [tb_X2_init]; rfl
theorem r_X2_init_32 : mv_in k_X2_init 32 = some (.putfield 28, 35, 1, 4, 168) := by unfold mv_in; rw [tb_X2_init]; rfl
theorem r_X2_init_35 : mv_in k_X2_init 35 = some (.aload_n 0, 36, 0, 0, 0) := by unfold mv_in; rw [tb_X2_init]; rfl
theorem r_X2_init_36 : mv_in k_X2_init 36 = some (.lconst 0, 37, 0, 0, 0) := by unfold mv_in; rw [tb_X2_init]; rfl
theorem r_X2_init_37 : mv_in k_X2_init 37 = some (.putfield 31, 40, 1, 5, 170) := by unfold mv_in; rw [tb_X2_init]; rfl
theorem r_X2_init_40 : mv_in k_X2_init 40 = some (.aload_n 0, 41, 0, 0, 0) := by unfold mv_in; rw [tb_X2_init]; rfl
theorem r_X2_init_41 : mv_in k_X2_init 41 = some (.lconst 0, 42, 0, 0, 0) := by unfold mv_in; rw [tb_X2_init]; rfl
theorem r_X2_init_42 : mv_in k_X2_init 42 = some (.putfield 35, 45, 1, 6, 171) := by unfold mv_in; rw [tb_X2_init]; rfl
theorem r_X2_init_45 : mv_in k_X2_init 45 = some (.aload_n 0, 46, 0, 0, 0) := by unfold mv_in; rw [tb_X2_init]; rfl
theorem r_X2_init_46 : mv_in k_X2_init 46 = some (.lconst 0, 47, 0, 0, 0) := by unfold mv_in; rw [tb_X2_init]; rfl
theorem r_X2_init_47 : mv_in k_X2_init 47 = some (.putfield 38, 50, 1, 7, 172) := by unfold mv_in; rw [tb_X2_init]; rfl
theorem r_X2_init_50 : mv_in k_X2_init 50 = some (.iconst 0, 51, 0, 0, 0) := by unfold mv_in; rw [tb_X2_init]; rfl
theorem r_X2_init_51 : mv_in k_X2_init 51 = some (.istore_n 1, 52, 0, 0, 0) := by unfold mv_in; rw [tb_X2_init]; rfl
theorem r_X2_init_52 : mv_in k_X2_init 52 = some (.iload_n 1, 53, 0, 0, 0) := by unfold mv_in; rw [tb_X2_init]; rfl
theorem r_X2_init_53 : mv_in k_X2_init 53 = some (.aload_n 0, 54, 0, 0, 0) := by unfold mv_in; rw [tb_X2_init]; rfl
theorem r_X2_init_54 : mv_in k_X2_init 54 = some (.getfield 11, 57, 1, 0, 160) := by unfold mv_in; rw [tb_X2_init]; rfl
theorem r_X2_init_57 : mv_in k_X2_init 57 = some (.arraylength, 58, 0, 0, 0) := by unfold mv_in; rw [tb_X2_init]; rfl
theorem r_X2_init_58 : mv_in k_X2_init 58 = some (.if_icmp .ge 22, 61, 80, 0, 0) := by unfold mv_in; rw [tb_X2_init]; rfl
theorem r_X2_init_61 : mv_in k_X2_init 61 = some (.aload_n 0, 62, 0, 0, 0) := by unfold mv_in; rw [tb_X2_init]; rfl
theorem r_X2_init_62 : mv_in k_X2_init 62 = some (.getfield 11, 65, 1, 0, 160) := by unfold mv_in; rw [tb_X2_init]; rfl
theorem r_X2_init_65 : mv_in k_X2_init 65 = some (.iload_n 1, 66, 0, 0, 0) := by unfold mv_in; rw [tb_X2_init]; rfl
theorem r_X2_init_66 : mv_in k_X2_init 66 = some (.new 9, 69, 0, 0, 108) := by unfold mv_in; rw [tb_X2_init]; rfl
theorem r_X2_init_69 : mv_in k_X2_init 69 = some (.dup, 70, 0, 0, 0) := by unfold mv_in; rw [tb_X2_init]; rfl
theorem r_X2_init_70 : mv_in k_X2_init 70 = some (.invokespecial 41, 73, k_X1_init, 1, 111) := by unfold mv_in; rw [tb_X2_init]; rfl
theorem r_X2_init_73 : mv_in k_X2_init 73 = some (.aastore, 74, 0, 0, 0) := by unfold mv_in; rw [tb_X2_init]; rfl
theorem r_X2_init_74 : mv_in k_X2_init 74 = some (.iinc 1 1, 77, 0, 0, 0) := by unfold mv_in; rw [tb_X2_init]; rfl
theorem r_X2_init_77 : mv_in k_X2_init 77 = some (.goto (-25), 80, 52, 0, 0) := by unfold mv_in; rw [tb_X2_init]; rfl
theorem r_X2_init_80 : mv_in k_X2_init 80 = some (.return_, 81, 0, 0, 0) := by unfold mv_in; rw [tb_X2_init]; rfl
theorem nh_X2_init : mv_nh k_X2_init = true := rfl
theorem tb_X5_init : mv_tb k_X5_init = t_X5_init := rfl
theorem r_X5_init_0 : mv_in k_X5_init 0 = some (.aload_n 0, 1, 0, 0, 0) := by unfold mv_in; rw [tb_X5_init]; rfl
theorem r_X5_init_1 : mv_in k_X5_init 1 = some (.invokespecial 3, 4, 905, 1, 196) := by unfold mv_in; rw [tb_X5_init]; rfl
theorem r_X5_init_4 : mv_in k_X5_init 4 = some (.aload_n 0, 5, 0, 0, 0) := by unfold mv_in; rw [tb_X5_init]; rfl
theorem r_X5_init_5 : mv_in k_X5_init 5 = some (.bipush 8, 7, 0, 0, 0) := by unfold mv_in; rw [tb_X5_init]; rfl
theorem r_X5_init_7 : mv_in k_X5_init 7 = some (.anewarray 9, 10, 25, 0, 197) := by unfold mv_in; rw [tb_X5_init]; rfl
theorem r_X5_init_10 : mv_in k_X5_init 10 = some (.putfield 11, 13, 2, 0, 200) := by unfold mv_in; rw [tb_X5_init]; rfl
theorem r_X5_init_13 : mv_in k_X5_init 13 = some (.aload_n 0, 14, 0, 0, 0) := by unfold mv_in; rw [tb_X5_init]; rfl
theorem r_X5_init_14 : mv_in k_X5_init 14 = some (.iconst 0, 15, 0, 0, 0) := by unfold mv_in; rw [tb_X5_init]; rfl
theorem r_X5_init_15 : mv_in k_X5_init 15 = some (.putfield 17, 18, 2, 1, 201) := by unfold mv_in; rw [tb_X5_init]; rfl
theorem r_X5_init_18 : mv_in k_X5_init 18 = some (.aload_n 0, 19, 0, 0, 0) := by unfold mv_in; rw [tb_X5_init]; rfl
theorem r_X5_init_19 : mv_in k_X5_init 19 = some (.iconst 0, 20, 0, 0, 0) := by unfold mv_in; rw [tb_X5_init]; rfl
theorem r_X5_init_20 : mv_in k_X5_init 20 = some (.putfield 21, 23, 2, 2, 202) := by unfold mv_in; rw [tb_X5_init]; rfl
theorem r_X5_init_23 : mv_in k_X5_init 23 = some (.iconst 0, 24, 0, 0, 0) := by unfold mv_in; rw [tb_X5_init]; rfl
theorem r_X5_init_24 : mv_in k_X5_init 24 = some (.istore_n 1, 25, 0, 0, 0) := by unfold mv_in; rw [tb_X5_init]; rfl
theorem r_X5_init_25 : mv_in k_X5_init 25 = some (.iload_n 1, 26, 0, 0, 0) := by unfold mv_in; rw [tb_X5_init]; rfl
theorem r_X5_init_26 : mv_in k_X5_init 26 = some (.aload_n 0, 27, 0, 0, 0) := by unfold mv_in; rw [tb_X5_init]; rfl
theorem r_X5_init_27 : mv_in k_X5_init 27 = some (.getfield 11, 30, 2, 0, 200) := by unfold mv_in; rw [tb_X5_init]; rfl
theorem r_X5_init_30 : mv_in k_X5_init 30 = some (.arraylength, 31, 0, 0, 0) := by unfold mv_in; rw [tb_X5_init]; rfl
theorem r_X5_init_31 : mv_in k_X5_init 31 = some (.if_icmp .ge 22, 34, 53, 0, 0) := by unfold mv_in; rw [tb_X5_init]; rfl
theorem r_X5_init_34 : mv_in k_X5_init 34 = some (.aload_n 0, 35, 0, 0, 0) := by unfold mv_in; rw [tb_X5_init]; rfl
theorem r_X5_init_35 : mv_in k_X5_init 35 = some (.getfield 11, 38, 2, 0, 200) := by unfold mv_in; rw [tb_X5_init]; rfl
theorem r_X5_init_38 : mv_in k_X5_init 38 = some (.iload_n 1, 39, 0, 0, 0) := by unfold mv_in; rw [tb_X5_init]; rfl
theorem r_X5_init_39 : mv_in k_X5_init 39 = some (.new 9, 42, 1, 0, 197) := by unfold mv_in; rw [tb_X5_init]; rfl
theorem r_X5_init_42 : mv_in k_X5_init 42 = some (.dup, 43, 0, 0, 0) := by unfold mv_in; rw [tb_X5_init]; rfl
theorem r_X5_init_43 : mv_in k_X5_init 43 = some (.invokespecial 24, 46, k_X2_init, 1, 199) := by unfold mv_in; rw [tb_X5_init]; rfl
theorem r_X5_init_46 : mv_in k_X5_init 46 = some (.aastore, 47, 0, 0, 0) := by unfold mv_in; rw [tb_X5_init]; rfl
theorem r_X5_init_47 : mv_in k_X5_init 47 = some (.iinc 1 1, 50, 0, 0, 0) := by unfold mv_in; rw [tb_X5_init]; rfl
theorem r_X5_init_50 : mv_in k_X5_init 50 = some (.goto (-25), 53, 25, 0, 0) := by unfold mv_in; rw [tb_X5_init]; rfl
theorem r_X5_init_53 : mv_in k_X5_init 53 = some (.return_, 54, 0, 0, 0) := by unfold mv_in; rw [tb_X5_init]; rfl
theorem nh_X5_init : mv_nh k_X5_init = true := rfl
theorem tb_X6_init : mv_tb k_X6_init = t_X6_init := rfl
theorem r_X6_init_0 : mv_in k_X6_init 0 = some (.aload_n 0, 1, 0, 0, 0) := by unfold mv_in; rw [tb_X6_init]; rfl
theorem r_X6_init_1 : mv_in k_X6_init 1 = some (.invokespecial 3, 4, 905, 1, 275) := by unfold mv_in; rw [tb_X6_init]; rfl
theorem r_X6_init_4 : mv_in k_X6_init 4 = some (.aload_n 0, 5, 0, 0, 0) := by unfold mv_in; rw [tb_X6_init]; rfl
theorem r_X6_init_5 : mv_in k_X6_init 5 = some (.bipush 54, 7, 0, 0, 0) := by unfold mv_in; rw [tb_X6_init]; rfl
theorem r_X6_init_7 : mv_in k_X6_init 7 = some (.newarray .char, 9, 21, 0, 0) := by unfold mv_in; rw [tb_X6_init]; rfl
theorem r_X6_init_9 : mv_in k_X6_init 9 = some (.putfield 9, 12, 3, 0, 276) := by unfold mv_in; rw [tb_X6_init]; rfl
theorem r_X6_init_12 : mv_in k_X6_init 12 = some (.aload_n 0, 13, 0, 0, 0) := by unfold mv_in; rw [tb_X6_init]; rfl
theorem r_X6_init_13 : mv_in k_X6_init 13 = some (.iconst 0, 14, 0, 0, 0) := by unfold mv_in; rw [tb_X6_init]; rfl
theorem r_X6_init_14 : mv_in k_X6_init 14 = some (.putfield 15, 17, 3, 1, 278) := by unfold mv_in; rw [tb_X6_init]; rfl
theorem r_X6_init_17 : mv_in k_X6_init 17 = some (.return_, 18, 0, 0, 0) := by unfold mv_in; rw [tb_X6_init]; rfl
theorem nh_X6_init : mv_nh k_X6_init = true := rfl
theorem tb_X7_init : mv_tb k_X7_init = t_X7_init := rfl
theorem r_X7_init_0 : mv_in k_X7_init 0 = some (.aload_n 0, 1, 0, 0, 0) := by unfold mv_in; rw [tb_X7_init]; rfl
theorem r_X7_init_1 : mv_in k_X7_init 1 = some (.invokespecial 3, 4, 905, 1, 215) := by unfold mv_in; rw [tb_X7_init]; rfl
theorem r_X7_init_4 : mv_in k_X7_init 4 = some (.aload_n 0, 5, 0, 0, 0) := by unfold mv_in; rw [tb_X7_init]; rfl
theorem r_X7_init_5 : mv_in k_X7_init 5 = some (.iconst 4, 6, 0, 0, 0) := by unfold mv_in; rw [tb_X7_init]; rfl
theorem r_X7_init_6 : mv_in k_X7_init 6 = some (.anewarray 9, 9, 25, 0, 216) := by unfold mv_in; rw [tb_X7_init]; rfl
theorem r_X7_init_9 : mv_in k_X7_init 9 = some (.putfield 11, 12, 4, 0, 218) := by unfold mv_in; rw [tb_X7_init]; rfl
theorem r_X7_init_12 : mv_in k_X7_init 12 = some (.iconst 0, 13, 0, 0, 0) := by unfold mv_in; rw [tb_X7_init]; rfl
theorem r_X7_init_13 : mv_in k_X7_init 13 = some (.istore_n 1, 14, 0, 0, 0) := by unfold mv_in; rw [tb_X7_init]; rfl
theorem r_X7_init_14 : mv_in k_X7_init 14 = some (.iload_n 1, 15, 0, 0, 0) := by unfold mv_in; rw [tb_X7_init]; rfl
theorem r_X7_init_15 : mv_in k_X7_init 15 = some (.aload_n 0, 16, 0, 0, 0) := by unfold mv_in; rw [tb_X7_init]; rfl
theorem r_X7_init_16 : mv_in k_X7_init 16 = some (.getfield 11, 19, 4, 0, 218) := by unfold mv_in; rw [tb_X7_init]; rfl
theorem r_X7_init_19 : mv_in k_X7_init 19 = some (.arraylength, 20, 0, 0, 0) := by unfold mv_in; rw [tb_X7_init]; rfl
theorem r_X7_init_20 : mv_in k_X7_init 20 = some (.if_icmp .ge 22, 23, 42, 0, 0) := by unfold mv_in; rw [tb_X7_init]; rfl
theorem r_X7_init_23 : mv_in k_X7_init 23 = some (.aload_n 0, 24, 0, 0, 0) := by unfold mv_in; rw [tb_X7_init]; rfl
theorem r_X7_init_24 : mv_in k_X7_init 24 = some (.getfield 11, 27, 4, 0, 218) := by unfold mv_in; rw [tb_X7_init]; rfl
theorem r_X7_init_27 : mv_in k_X7_init 27 = some (.iload_n 1, 28, 0, 0, 0) := by unfold mv_in; rw [tb_X7_init]; rfl
theorem r_X7_init_28 : mv_in k_X7_init 28 = some (.new 9, 31, 1, 0, 216) := by unfold mv_in; rw [tb_X7_init]; rfl
theorem r_X7_init_31 : mv_in k_X7_init 31 = some (.dup, 32, 0, 0, 0) := by unfold mv_in; rw [tb_X7_init]; rfl
theorem r_X7_init_32 : mv_in k_X7_init 32 = some (.invokespecial 17, 35, k_X2_init, 1, 217) := by unfold mv_in; rw [tb_X7_init]; rfl
theorem r_X7_init_35 : mv_in k_X7_init 35 = some (.aastore, 36, 0, 0, 0) := by unfold mv_in; rw [tb_X7_init]; rfl
theorem r_X7_init_36 : mv_in k_X7_init 36 = some (.iinc 1 1, 39, 0, 0, 0) := by unfold mv_in; rw [tb_X7_init]; rfl
theorem r_X7_init_39 : mv_in k_X7_init 39 = some (.goto (-25), 42, 14, 0, 0) := by unfold mv_in; rw [tb_X7_init]; rfl
theorem r_X7_init_42 : mv_in k_X7_init 42 = some (.return_, 43, 0, 0, 0) := by unfold mv_in; rw [tb_X7_init]; rfl
theorem nh_X7_init : mv_nh k_X7_init = true := rfl
theorem tb_X8_init : mv_tb k_X8_init = t_X8_init := rfl
theorem r_X8_init_0 : mv_in k_X8_init 0 = some (.aload_n 0, 1, 0, 0, 0) := by unfold mv_in; rw [tb_X8_init]; rfl
theorem r_X8_init_1 : mv_in k_X8_init 1 = some (.invokespecial 3, 4, 905, 1, 247) := by unfold mv_in; rw [tb_X8_init]; rfl
theorem r_X8_init_4 : mv_in k_X8_init 4 = some (.aload_n 0, 5, 0, 0, 0) := by unfold mv_in; rw [tb_X8_init]; rfl
theorem r_X8_init_5 : mv_in k_X8_init 5 = some (.bipush 60, 7, 0, 0, 0) := by unfold mv_in; rw [tb_X8_init]; rfl
theorem r_X8_init_7 : mv_in k_X8_init 7 = some (.newarray .char, 9, 21, 0, 0) := by unfold mv_in; rw [tb_X8_init]; rfl
theorem r_X8_init_9 : mv_in k_X8_init 9 = some (.putfield 9, 12, 5, 0, 250) := by unfold mv_in; rw [tb_X8_init]; rfl
theorem r_X8_init_12 : mv_in k_X8_init 12 = some (.aload_n 0, 13, 0, 0, 0) := by unfold mv_in; rw [tb_X8_init]; rfl
theorem r_X8_init_13 : mv_in k_X8_init 13 = some (.iconst 0, 14, 0, 0, 0) := by unfold mv_in; rw [tb_X8_init]; rfl
theorem r_X8_init_14 : mv_in k_X8_init 14 = some (.putfield 15, 17, 5, 1, 251) := by unfold mv_in; rw [tb_X8_init]; rfl
theorem r_X8_init_17 : mv_in k_X8_init 17 = some (.aload_n 0, 18, 0, 0, 0) := by unfold mv_in; rw [tb_X8_init]; rfl
theorem r_X8_init_18 : mv_in k_X8_init 18 = some (.iconst 0, 19, 0, 0, 0) := by unfold mv_in; rw [tb_X8_init]; rfl
theorem r_X8_init_19 : mv_in k_X8_init 19 = some (.putfield 19, 22, 5, 2, 252) := by unfold mv_in; rw [tb_X8_init]; rfl
theorem r_X8_init_22 : mv_in k_X8_init 22 = some (.aload_n 0, 23, 0, 0, 0) := by unfold mv_in; rw [tb_X8_init]; rfl
theorem r_X8_init_23 : mv_in k_X8_init 23 = some (.getstatic 22, 26, 1005, 0, 248) := by unfold mv_in; rw [tb_X8_init]; rfl
theorem r_X8_init_26 : mv_in k_X8_init 26 = some (.putfield 28, 29, 5, 3, 253) := by unfold mv_in; rw [tb_X8_init]; rfl
theorem r_X8_init_29 : mv_in k_X8_init 29 = some (.aload_n 0, 30, 0, 0, 0) := by unfold mv_in; rw [tb_X8_init]; rfl
theorem r_X8_init_30 : mv_in k_X8_init 30 = some (.iconst 3, 31, 0, 0, 0) := by unfold mv_in; rw [tb_X8_init]; rfl
theorem r_X8_init_31 : mv_in k_X8_init 31 = some (.newarray .int, 33, 20, 0, 0) := by unfold mv_in; rw [tb_X8_init]; rfl
theorem r_X8_init_33 : mv_in k_X8_init 33 = some (.putfield 31, 36, 5, 4, 254) := by unfold mv_in; rw [tb_X8_init]; rfl
theorem r_X8_init_36 : mv_in k_X8_init 36 = some (.aload_n 0, 37, 0, 0, 0) := by unfold mv_in; rw [tb_X8_init]; rfl
theorem r_X8_init_37 : mv_in k_X8_init 37 = some (.iconst 0, 38, 0, 0, 0) := by unfold mv_in; rw [tb_X8_init]; rfl
theorem r_X8_init_38 : mv_in k_X8_init 38 = some (.putfield 35, 41, 5, 5, 255) := by unfold mv_in; rw [tb_X8_init]; rfl
theorem r_X8_init_41 : mv_in k_X8_init 41 = some (.return_, 42, 0, 0, 0) := by unfold mv_in; rw [tb_X8_init]; rfl
theorem nh_X8_init : mv_nh k_X8_init = true := rfl
theorem tb_X9_init : mv_tb k_X9_init = t_X9_init := rfl
theorem r_X9_init_0 : mv_in k_X9_init 0 = some (.aload_n 0, 1, 0, 0, 0) := by unfold mv_in; rw [tb_X9_init]; rfl
theorem r_X9_init_1 : mv_in k_X9_init 1 = some (.invokespecial 3, 4, 905, 1, 227) := by unfold mv_in; rw [tb_X9_init]; rfl
theorem r_X9_init_4 : mv_in k_X9_init 4 = some (.aload_n 0, 5, 0, 0, 0) := by unfold mv_in; rw [tb_X9_init]; rfl
theorem r_X9_init_5 : mv_in k_X9_init 5 = some (.iconst 5, 6, 0, 0, 0) := by unfold mv_in; rw [tb_X9_init]; rfl
theorem r_X9_init_6 : mv_in k_X9_init 6 = some (.newarray .int, 8, 20, 0, 0) := by unfold mv_in; rw [tb_X9_init]; rfl
theorem r_X9_init_8 : mv_in k_X9_init 8 = some (.putfield 9, 11, 6, 0, 228) := by unfold mv_in; rw [tb_X9_init]; rfl
theorem r_X9_init_11 : mv_in k_X9_init 11 = some (.aload_n 0, 12, 0, 0, 0) := by unfold mv_in; rw [tb_X9_init]; rfl
theorem r_X9_init_12 : mv_in k_X9_init 12 = some (.iconst 5, 13, 0, 0, 0) := by unfold mv_in; rw [tb_X9_init]; rfl
theorem r_X9_init_13 : mv_in k_X9_init 13 = some (.newarray .int, 15, 20, 0, 0) := by unfold mv_in; rw [tb_X9_init]; rfl
theorem r_X9_init_15 : mv_in k_X9_init 15 = some (.putfield 15, 18, 6, 1, 229) := by unfold mv_in; rw [tb_X9_init]; rfl
theorem r_X9_init_18 : mv_in k_X9_init 18 = some (.aload_n 0, 19, 0, 0, 0) := by unfold mv_in; rw [tb_X9_init]; rfl
theorem r_X9_init_19 : mv_in k_X9_init 19 = some (.iconst 0, 20, 0, 0, 0) := by unfold mv_in; rw [tb_X9_init]; rfl
theorem r_X9_init_20 : mv_in k_X9_init 20 = some (.putfield 18, 23, 6, 2, 230) := by unfold mv_in; rw [tb_X9_init]; rfl
theorem r_X9_init_23 : mv_in k_X9_init 23 = some (.aload_n 0, 24, 0, 0, 0) := by unfold mv_in; rw [tb_X9_init]; rfl
theorem r_X9_init_24 : mv_in k_X9_init 24 = some (.bipush 100, 26, 0, 0, 0) := by unfold mv_in; rw [tb_X9_init]; rfl
theorem r_X9_init_26 : mv_in k_X9_init 26 = some (.newarray .int, 28, 20, 0, 0) := by unfold mv_in; rw [tb_X9_init]; rfl
theorem r_X9_init_28 : mv_in k_X9_init 28 = some (.putfield 22, 31, 6, 3, 232) := by unfold mv_in; rw [tb_X9_init]; rfl
theorem r_X9_init_31 : mv_in k_X9_init 31 = some (.return_, 32, 0, 0, 0) := by unfold mv_in; rw [tb_X9_init]; rfl
theorem nh_X9_init : mv_nh k_X9_init = true := rfl
theorem tb_X10_init : mv_tb k_X10_init = t_X10_init := rfl
theorem r_X10_init_0 : mv_in k_X10_init 0 = some (.aload_n 0, 1, 0, 0, 0) := by unfold mv_in; rw [tb_X10_init]; rfl
theorem r_X10_init_1 : mv_in k_X10_init 1 = some (.invokespecial 1, 4, 905, 1, 99) := by unfold mv_in; rw [tb_X10_init]; rfl
theorem r_X10_init_4 : mv_in k_X10_init 4 = some (.aload_n 0, 5, 0, 0, 0) := by unfold mv_in; rw [tb_X10_init]; rfl
theorem r_X10_init_5 : mv_in k_X10_init 5 = some (.new 7, 8, 1, 0, 102) := by unfold mv_in; rw [tb_X10_init]; rfl
theorem r_X10_init_8 : mv_in k_X10_init 8 = some (.dup, 9, 0, 0, 0) := by unfold mv_in; rw [tb_X10_init]; rfl
theorem r_X10_init_9 : mv_in k_X10_init 9 = some (.invokespecial 9, 12, k_X2_init, 1, 104) := by unfold mv_in; rw [tb_X10_init]; rfl
theorem r_X10_init_12 : mv_in k_X10_init 12 = some (.putfield 10, 15, 7, 0, 285) := by unfold mv_in; rw [tb_X10_init]; rfl
theorem r_X10_init_15 : mv_in k_X10_init 15 = some (.aload_n 0, 16, 0, 0, 0) := by unfold mv_in; rw [tb_X10_init]; rfl
theorem r_X10_init_16 : mv_in k_X10_init 16 = some (.new 7, 19, 1, 0, 102) := by unfold mv_in; rw [tb_X10_init]; rfl
theorem r_X10_init_19 : mv_in k_X10_init 19 = some (.dup, 20, 0, 0, 0) := by unfold mv_in; rw [tb_X10_init]; rfl
theorem r_X10_init_20 : mv_in k_X10_init 20 = some (.invokespecial 9, 23, k_X2_init, 1, 104) := by unfold mv_in; rw [tb_X10_init]; rfl
theorem r_X10_init_23 : mv_in k_X10_init 23 = some (.putfield 16, 26, 7, 1, 286) := by unfold mv_in; rw [tb_X10_init]; rfl
theorem r_X10_init_26 : mv_in k_X10_init 26 = some (.aload_n 0, 27, 0, 0, 0) := by unfold mv_in; rw [tb_X10_init]; rfl
theorem r_X10_init_27 : mv_in k_X10_init 27 = some (.new 7, 30, 1, 0, 102) := by unfold mv_in; rw [tb_X10_init]; rfl
theorem r_X10_init_30 : mv_in k_X10_init 30 = some (.dup, 31, 0, 0, 0) := by unfold mv_in; rw [tb_X10_init]; rfl
theorem r_X10_init_31 : mv_in k_X10_init 31 = some (.invokespecial 9, 34, k_X2_init, 1, 104) := by unfold mv_in; rw [tb_X10_init]; rfl
theorem r_X10_init_34 : mv_in k_X10_init 34 = some (.putfield 19, 37, 7, 2, 287) := by unfold mv_in; rw [tb_X10_init]; rfl
theorem r_X10_init_37 : mv_in k_X10_init 37 = some (.aload_n 0, 38, 0, 0, 0) := by unfold mv_in; rw [tb_X10_init]; rfl
theorem r_X10_init_38 : mv_in k_X10_init 38 = some (.new 7, 41, 1, 0, 102) := by unfold mv_in; rw [tb_X10_init]; rfl
theorem r_X10_init_41 : mv_in k_X10_init 41 = some (.dup, 42, 0, 0, 0) := by unfold mv_in; rw [tb_X10_init]; rfl
theorem r_X10_init_42 : mv_in k_X10_init 42 = some (.invokespecial 9, 45, k_X2_init, 1, 104) := by unfold mv_in; rw [tb_X10_init]; rfl
theorem r_X10_init_45 : mv_in k_X10_init 45 = some (.putfield 22, 48, 7, 3, 288) := by unfold mv_in; rw [tb_X10_init]; rfl
theorem r_X10_init_48 : mv_in k_X10_init 48 = some (.aload_n 0, 49, 0, 0, 0) := by unfold mv_in; rw [tb_X10_init]; rfl
theorem r_X10_init_49 : mv_in k_X10_init 49 = some (.new 25, 52, 2, 0, 191) := by unfold mv_in; rw [tb_X10_init]; rfl
theorem r_X10_init_52 : mv_in k_X10_init 52 = some (.dup, 53, 0, 0, 0) := by unfold mv_in; rw [tb_X10_init]; rfl
theorem r_X10_init_53 : mv_in k_X10_init 53 = some (.invokespecial 27, 56, k_X5_init, 1, 193) := by unfold mv_in; rw [tb_X10_init]; rfl
theorem r_X10_init_56 : mv_in k_X10_init 56 = some (.putfield 28, 59, 7, 4, 289) := by unfold mv_in; rw [tb_X10_init]; rfl
theorem r_X10_init_59 : mv_in k_X10_init 59 = some (.aload_n 0, 60, 0, 0, 0) := by unfold mv_in; rw [tb_X10_init]; rfl
theorem r_X10_init_60 : mv_in k_X10_init 60 = some (.new 32, 63, 4, 0, 210) := by unfold mv_in; rw [tb_X10_init]; rfl
theorem r_X10_init_63 : mv_in k_X10_init 63 = some (.dup, 64, 0, 0, 0) := by unfold mv_in; rw [tb_X10_init]; rfl
theorem r_X10_init_64 : mv_in k_X10_init 64 = some (.invokespecial 34, 67, k_X7_init, 1, 212) := by unfold mv_in; rw [tb_X10_init]; rfl
theorem r_X10_init_67 : mv_in k_X10_init 67 = some (.putfield 35, 70, 7, 5, 290) := by unfold mv_in; rw [tb_X10_init]; rfl
theorem r_X10_init_70 : mv_in k_X10_init 70 = some (.aload_n 0, 71, 0, 0, 0) := by unfold mv_in; rw [tb_X10_init]; rfl
theorem r_X10_init_71 : mv_in k_X10_init 71 = some (.new 39, 74, 6, 0, 222) := by unfold mv_in; rw [tb_X10_init]; rfl
theorem r_X10_init_74 : mv_in k_X10_init 74 = some (.dup, 75, 0, 0, 0) := by unfold mv_in; rw [tb_X10_init]; rfl
theorem r_X10_init_75 : mv_in k_X10_init 75 = some (.invokespecial 41, 78, k_X9_init, 1, 224) := by unfold mv_in; rw [tb_X10_init]; rfl
theorem r_X10_init_78 : mv_in k_X10_init 78 = some (.putfield 42, 81, 7, 6, 291) := by unfold mv_in; rw [tb_X10_init]; rfl
theorem r_X10_init_81 : mv_in k_X10_init 81 = some (.aload_n 0, 82, 0, 0, 0) := by unfold mv_in; rw [tb_X10_init]; rfl
theorem r_X10_init_82 : mv_in k_X10_init 82 = some (.new 46, 85, 5, 0, 242) := by unfold mv_in; rw [tb_X10_init]; rfl
theorem r_X10_init_85 : mv_in k_X10_init 85 = some (.dup, 86, 0, 0, 0) := by unfold mv_in; rw [tb_X10_init]; rfl
theorem r_X10_init_86 : mv_in k_X10_init 86 = some (.invokespecial 48, 89, k_X8_init, 1, 244) := by unfold mv_in; rw [tb_X10_init]; rfl
theorem r_X10_init_89 : mv_in k_X10_init 89 = some (.putfield 49, 92, 7, 7, 292) := by unfold mv_in; rw [tb_X10_init]; rfl
theorem r_X10_init_92 : mv_in k_X10_init 92 = some (.aload_n 0, 93, 0, 0, 0) := by unfold mv_in; rw [tb_X10_init]; rfl
theorem r_X10_init_93 : mv_in k_X10_init 93 = some (.new 53, 96, 3, 0, 270) := by unfold mv_in; rw [tb_X10_init]; rfl
theorem r_X10_init_96 : mv_in k_X10_init 96 = some (.dup, 97, 0, 0, 0) := by unfold mv_in; rw [tb_X10_init]; rfl
theorem r_X10_init_97 : mv_in k_X10_init 97 = some (.invokespecial 55, 100, k_X6_init, 1, 272) := by unfold mv_in; rw [tb_X10_init]; rfl
theorem r_X10_init_100 : mv_in k_X10_init 100 = some (.putfield 56, 103, 7, 8, 293) := by unfold mv_in; rw [tb_X10_init]; rfl
theorem r_X10_init_103 : mv_in k_X10_init 103 = some (.aload_n 0, 104, 0, 0, 0) := by unfold mv_in; rw [tb_X10_init]; rfl
theorem r_X10_init_104 : mv_in k_X10_init 104 = some (.iconst 0, 105, 0, 0, 0) := by unfold mv_in; rw [tb_X10_init]; rfl
theorem r_X10_init_105 : mv_in k_X10_init 105 = some (.putfield 60, 108, 7, 9, 294) := by unfold mv_in; rw [tb_X10_init]; rfl
theorem r_X10_init_108 : mv_in k_X10_init 108 = some (.aload_n 0, 109, 0, 0, 0) := by unfold mv_in; rw [tb_X10_init]; rfl
theorem r_X10_init_109 : mv_in k_X10_init 109 = some (.iconst (-1), 110, 0, 0, 0) := by unfold mv_in; rw [tb_X10_init]; rfl
theorem r_X10_init_110 : mv_in k_X10_init 110 = some (.putfield 64, 113, 7, 10, 295) := by unfold mv_in; rw [tb_X10_init]; rfl
theorem r_X10_init_113 : mv_in k_X10_init 113 = some (.aload_n 0, 114, 0, 0, 0) := by unfold mv_in; rw [tb_X10_init]; rfl
theorem r_X10_init_114 : mv_in k_X10_init 114 = some (.iconst (-1), 115, 0, 0, 0) := by unfold mv_in; rw [tb_X10_init]; rfl
theorem r_X10_init_115 : mv_in k_X10_init 115 = some (.putfield 68, 118, 7, 11, 296) := by unfold mv_in; rw [tb_X10_init]; rfl
theorem r_X10_init_118 : mv_in k_X10_init 118 = some (.return_, 119, 0, 0, 0) := by unfold mv_in; rw [tb_X10_init]; rfl
theorem nh_X10_init : mv_nh k_X10_init = true := rfl
/-- what stands behind the constructors -/
def zT0 : zT := (fun o k => if (o = 0 ∨ o = 142) ∧ (k = 10 ∨ k = 11) then -1 else 0, 5, 0, fun _ _ => .null)
theorem zo_0 : ∀ o, o < 142 → (zo o = 0 → o = 0) ∧ (zo o = 142 → o = 142) := by decide +kernel
theorem z0_at {o k : Nat} (h : ¬ zk o k = 4) (h0 : ¬ o = 0) (h1 : ¬ o = 142) : mz zT0 o k = if zk o k = 0 then .int (Int32.ofInt 0) else if zk o k = 1 then .long (Int64.ofInt 0) else if zk o k = 2 then .ref 1005 else if zk o k = 3 then .double 0 else .ref (zk o k - 10) := by
  have hz := zo_0 o (zk_in h).1
  have hD : zT0.1 (zo o) (zi o k) = 0 := by
    show (if (zo o = 0 ∨ zo o = 142) ∧ _ then (-1 : Int) else 0) = 0
    rw [if_neg]
    rintro ⟨e | e, _⟩
    · exact h0 (hz.1 e)
    · exact h1 (hz.2 e)
  unfold mz
  rw [hD, if_neg (c := zk o k = 4) h]
  rfl
def mv_u1 (g : Nat → Value) (k : Nat) (v : Value) : Nat → Value := fun j => if j = k then v else g j
theorem u1_eq {g : Nat → Value} {k : Nat} {v : Value} : mv_u1 g k v k = v := if_pos rfl
theorem u1_ne {g : Nat → Value} {k j : Nat} {v : Value} (h : ¬ j = k) : mv_u1 g k v j = g j := if_neg h
theorem up_same {h : mv_H} {o k : Nat} {g : Nat → Value} {v : Value} : mv_up (mv_upo h o g) o k v = mv_upo h o (mv_u1 g k v) := by
  funext p j
  unfold mv_up mv_upo mv_u1
  by_cases e : p = o
  · by_cases f : j = k
    · rw [if_pos ⟨e, f⟩, if_pos e, if_pos f]
    · rw [if_neg (fun q => f q.2), if_pos e, if_pos e, if_neg f]
  · rw [if_neg (fun q => e q.1), if_neg e, if_neg e]
theorem up_diff {h : mv_H} {o p k : Nat} {g : Nat → Value} {v : Value} (n : ¬ p = o) : mv_up (mv_upo h p g) o k v = mv_upo (mv_up h o k v) p g := by
  funext q j
  unfold mv_up mv_upo
  by_cases e : q = p
  · rw [if_neg (fun z => n (e ▸ z.1)), if_pos e, if_pos e]
  · rw [if_neg e, if_neg e]
theorem sm_up {h : mv_H} {o k : Nat} {v : Value} (hv : mo_rf 3000 v) (hh : ∀ p k, mo_rf 3000 (h p k)) : ∀ p j, mo_rf 3000 (mv_up h o k v p j) := by
  intro p j
  unfold mv_up
  split
  · exact hv
  · exact hh p j
theorem sm_upo {h : mv_H} {o : Nat} {g : Nat → Value} (hg : ∀ j, mo_rf 3000 (g j)) (hh : ∀ p k, mo_rf 3000 (h p k)) : ∀ p j, mo_rf 3000 (mv_upo h o g p j) := by
  intro p j
  unfold mv_upo
  split
  · exact hg j
  · exact hh p j
theorem sm_u1 {g : Nat → Value} {k : Nat} {v : Value} (hv : mo_rf 3000 v) (hg : ∀ j, mo_rf 3000 (g j)) : ∀ j, mo_rf 3000 (mv_u1 g k v j) := by
  intro j
  unfold mv_u1
  split
  · exact hv
  · exact hg j
theorem sm_dv {n : Nat} {t : FieldType} : mo_rf n (defaultValue t) := by cases t <;> exact trivial
theorem sm_if {n : Nat} {c : Prop} [Decidable c] {x y : Value} (hx : mo_rf n x) (hy : mo_rf n y) : mo_rf n (if c then x else y) := by
  by_cases h : c
  · rw [if_pos h]; exact hx
  · rw [if_neg h]; exact hy
theorem sm_dd {n a : Nat} : mo_rf n (mv_dv a) := by
  unfold mv_dv
  exact sm_if trivial (sm_if trivial (sm_if trivial (sm_if trivial trivial)))
theorem sm_r {n o : Nat} (h : o < n) : mo_rf n (.ref o) := h
theorem upo_eq {h : mv_H} {o : Nat} {g : Nat → Value} : mv_upo h o g o = g := by funext j; exact if_pos rfl
theorem upo_ne {h : mv_H} {o p : Nat} {g : Nat → Value} (n : ¬ p = o) : mv_upo h o g p = h p := by funext j; exact if_neg n
theorem up_ne {h : mv_H} {o p k : Nat} {v : Value} (n : ¬ p = o) : mv_up h o k v p = h p := by funext j; exact if_neg (fun q => n q.1)
theorem up_eq {h : mv_H} {o k : Nat} {v : Value} : mv_up h o k v o k = v := if_pos ⟨rfl, rfl⟩
theorem up_nk {h : mv_H} {o j k : Nat} {v : Value} (n : ¬ j = k) : mv_up h o k v o j = h o j := if_neg (fun q => n q.2)
section CI
variable {L : Nat} {xs : Nat → Int32} {d t n a b q nx w : Nat} {ls : mv_V} {st : List Value} {h : mv_H}
theorem ci_put {o : Nat} {v : Value} (h1 : o < n) (h2 : (mv_kd o).1 = a) (h3 : mv_fit (mv_ty a b) v = true) : mv_stp L xs (.putfield q, nx, a, b, w) ls (v :: .ref o :: st) (t, n, h) = some (.inl (nx, ls, st, (t, n, mv_up h o b v))) := by
  show mv_put a b nx ls (v :: .ref o :: st) (t, n, h) = _
  have : mv_is n o a = true := by simp [mv_is, h1, h2]
  simp only [mv_put, if_pos (And.intro this h3), mv_nx]
theorem ci_get {o : Nat} (ha : ¬ a = 30) (h1 : o < n) (h2 : (mv_kd o).1 = a) : mv_stp L xs (.getfield q, nx, a, b, w) ls (.ref o :: st) (t, n, h) = some (.inl (nx, ls, h o b :: st, (t, n, h))) := by
  show mv_get a b nx ls (.ref o :: st) (t, n, h) = _
  have : mv_is n o a = true := by simp [mv_is, h1, h2]
  simp only [mv_get, if_neg ha, if_pos this, mv_nx]
theorem ci_new {i : Nat} (h1 : n < 142) (h2 : a < 8) (h3 : (mv_kd n).1 = a) : mv_stp L xs (.new i, nx, a, b, w) ls st (t, n, h) = some (.inl (nx, ls, .ref n :: st, (t, n + 1, mv_upo h n (fun k => defaultValue (mv_ty a k))))) := by
  show (if a = 99 then _ else mv_new a nx ls st (t, n, h)) = _
  rw [if_neg (by omega)]
  unfold mv_new
  rw [if_neg (by omega), if_pos ⟨h1, h2, h3⟩]
  rfl
theorem ci_nwa {x : Int} (h1 : n < 142) (h2 : a = 20 ∨ a = 21 ∨ a = 24 ∨ a = 25) (h0 : 0 ≤ x) (hx : x < 2147483648) (h3 : mv_kd n = (a, x.toNat)) : mv_nwa a nx ls (.int (Int32.ofInt x) :: st) (t, n, h) = some (.inl (nx, ls, .ref n :: st, (t, n + 1, mv_upo h n (fun _ => mv_dv a)))) := by
  have e : ¬ Int32.ofInt x < 0 := by
    rw [Int32.lt_iff_toInt_lt, oz_ti (by omega) hx]
    show ¬ x < 0
    omega
  have e2 : (Int32.ofInt x).toNatClampNeg = x.toNat := oz_nc h0 hx
  simp only [mv_nwa]
  rw [if_pos ⟨h1, e, h2, by rw [e2]; exact h3⟩]
  rfl
theorem ci_nw1 {ty : ClassFile.ArrayType} {x : Int} (h1 : n < 142) (h2 : a = 20 ∨ a = 21 ∨ a = 24 ∨ a = 25) (h0 : 0 ≤ x) (hx : x < 2147483648) (h3 : mv_kd n = (a, x.toNat)) : mv_stp L xs (.newarray ty, nx, a, b, w) ls (.int (Int32.ofInt x) :: st) (t, n, h) = some (.inl (nx, ls, .ref n :: st, (t, n + 1, mv_upo h n (fun _ => mv_dv a)))) := ci_nwa h1 h2 h0 hx h3
theorem ci_nw2 {i : Nat} {x : Int} (h1 : n < 142) (h2 : a = 20 ∨ a = 21 ∨ a = 24 ∨ a = 25) (h0 : 0 ≤ x) (hx : x < 2147483648) (h3 : mv_kd n = (a, x.toNat)) : mv_stp L xs (.anewarray i, nx, a, b, w) ls (.int (Int32.ofInt x) :: st) (t, n, h) = some (.inl (nx, ls, .ref n :: st, (t, n + 1, mv_upo h n (fun _ => mv_dv a)))) := ci_nwa h1 h2 h0 hx h3
theorem ci_aas {o v : Nat} {i : Int} (h1 : o < n) (h2 : v < n) (h0 : 0 ≤ i) (hi : i < (mv_kd o).2) (h9 : (mv_kd o).2 < 2000) (h3 : ((mv_kd o).1 = 24 ∧ (mv_kd v).1 = 0) ∨ ((mv_kd o).1 = 25 ∧ (mv_kd v).1 = 1)) : mv_stp L xs (.aastore, nx, a, b, w) ls (.ref v :: .int (Int32.ofInt i) :: .ref o :: st) (t, n, h) = some (.inl (nx, ls, st, (t, n, mv_up h o i.toNat (.ref v)))) := by
  show mv_aas nx ls (.ref v :: .int (Int32.ofInt i) :: .ref o :: st) (t, n, h) = _
  have e : mv_ix (Int32.ofInt i) (mv_kd o).2 = true := oz_ix h0 hi (by omega)
  simp only [mv_aas]
  rw [if_pos ⟨h1, h2, e, h3⟩, oz_nc h0 (by omega)]
  rfl
theorem ci_len {o : Nat} (h1 : o < n) (h9 : o < 142) (h2 : 20 ≤ (mv_kd o).1) : mv_stp L xs (.arraylength, nx, a, b, w) ls (.ref o :: st) (t, n, h) = some (.inl (nx, ls, .int (Int32.ofInt ((mv_kd o).2 : Nat)) :: st, (t, n, h))) := by
  show mv_len L nx ls (.ref o :: st) (t, n, h) = _
  simp only [mv_len]
  rw [if_pos h9, if_pos ⟨h1, h2⟩]
  rfl
theorem ci_call {o : Nat} (ha : a < 900) (h1 : o < n) (h2 : (mv_kd o).1 = mv_cn a) : mv_stp L xs (.invokespecial q, nx, a, 1, w) ls (.ref o :: st) (t, n, h) = if mv_cs st ≤ 8 then some (.inr (.inr (a, [.ref o], st))) else none := by
  show mv_call 2 a 1 nx ls (.ref o :: st) (t, n, h) = _
  have hr : mv_rcv [.ref o] n a = true := by simp [mv_rcv, mv_is, h1, h2]
  unfold mv_call
  rw [if_pos ha, mv_cs_eq]
  by_cases hs : (st.map (fun v => v.category)).sum ≤ 8
  · rw [if_pos hs, if_pos ⟨by simp, hs, rfl, .inr hr⟩]
    rfl
  · rw [if_neg hs, if_neg (fun q => hs q.2.1)]
theorem ci_obj {o : Nat} {σ : mv_S} : mv_stp L xs (.invokespecial q, nx, 905, 1, w) ls (.ref o :: st) σ = if mv_cs st ≤ 8 then some (.inl (nx, ls, st, σ)) else none := by
  show mv_call 2 905 1 nx ls (.ref o :: st) σ = _
  unfold mv_call
  rw [if_neg (by decide), mv_cs_eq]
  rfl
theorem ck_X1_init {o : Nat} (h1 : o < n) (h2 : (mv_kd o).1 = 0) : mv_stp L xs (.invokespecial q, nx, k_X1_init, 1, w) ls (.ref o :: st) (t, n, h) = if mv_cs st ≤ 8 then some (.inr (.inr (k_X1_init, [.ref o], st))) else none := ci_call (by decide) h1 h2
theorem ck_X2_init {o : Nat} (h1 : o < n) (h2 : (mv_kd o).1 = 1) : mv_stp L xs (.invokespecial q, nx, k_X2_init, 1, w) ls (.ref o :: st) (t, n, h) = if mv_cs st ≤ 8 then some (.inr (.inr (k_X2_init, [.ref o], st))) else none := ci_call (by decide) h1 h2
theorem ck_X5_init {o : Nat} (h1 : o < n) (h2 : (mv_kd o).1 = 2) : mv_stp L xs (.invokespecial q, nx, k_X5_init, 1, w) ls (.ref o :: st) (t, n, h) = if mv_cs st ≤ 8 then some (.inr (.inr (k_X5_init, [.ref o], st))) else none := ci_call (by decide) h1 h2
theorem ck_X6_init {o : Nat} (h1 : o < n) (h2 : (mv_kd o).1 = 3) : mv_stp L xs (.invokespecial q, nx, k_X6_init, 1, w) ls (.ref o :: st) (t, n, h) = if mv_cs st ≤ 8 then some (.inr (.inr (k_X6_init, [.ref o], st))) else none := ci_call (by decide) h1 h2
theorem ck_X7_init {o : Nat} (h1 : o < n) (h2 : (mv_kd o).1 = 4) : mv_stp L xs (.invokespecial q, nx, k_X7_init, 1, w) ls (.ref o :: st) (t, n, h) = if mv_cs st ≤ 8 then some (.inr (.inr (k_X7_init, [.ref o], st))) else none := ci_call (by decide) h1 h2
theorem ck_X8_init {o : Nat} (h1 : o < n) (h2 : (mv_kd o).1 = 5) : mv_stp L xs (.invokespecial q, nx, k_X8_init, 1, w) ls (.ref o :: st) (t, n, h) = if mv_cs st ≤ 8 then some (.inr (.inr (k_X8_init, [.ref o], st))) else none := ci_call (by decide) h1 h2
theorem ck_X9_init {o : Nat} (h1 : o < n) (h2 : (mv_kd o).1 = 6) : mv_stp L xs (.invokespecial q, nx, k_X9_init, 1, w) ls (.ref o :: st) (t, n, h) = if mv_cs st ≤ 8 then some (.inr (.inr (k_X9_init, [.ref o], st))) else none := ci_call (by decide) h1 h2
theorem ck_X10_init {o : Nat} (h1 : o < n) (h2 : (mv_kd o).1 = 7) : mv_stp L xs (.invokespecial q, nx, k_X10_init, 1, w) ls (.ref o :: st) (t, n, h) = if mv_cs st ≤ 8 then some (.inr (.inr (k_X10_init, [.ref o], st))) else none := ci_call (by decide) h1 h2
theorem cp_0_0 {o : Nat} {x : Int32} (h1 : o < n) (h2 : (mv_kd o).1 = 0) : mv_stp L xs (.putfield q, nx, 0, 0, w) ls (.int x :: .ref o :: st) (t, n, h) = some (.inl (nx, ls, st, (t, n, mv_up h o 0 (.int x)))) := ci_put h1 h2 rfl
theorem cp_0_1 {o : Nat} {x : Int32} (h1 : o < n) (h2 : (mv_kd o).1 = 0) : mv_stp L xs (.putfield q, nx, 0, 1, w) ls (.int x :: .ref o :: st) (t, n, h) = some (.inl (nx, ls, st, (t, n, mv_up h o 1 (.int x)))) := ci_put h1 h2 rfl
theorem cp_0_2 {o : Nat} {x : Int32} (h1 : o < n) (h2 : (mv_kd o).1 = 0) : mv_stp L xs (.putfield q, nx, 0, 2, w) ls (.int x :: .ref o :: st) (t, n, h) = some (.inl (nx, ls, st, (t, n, mv_up h o 2 (.int x)))) := ci_put h1 h2 rfl
theorem cp_0_3 {o : Nat} {x : Int32} (h1 : o < n) (h2 : (mv_kd o).1 = 0) : mv_stp L xs (.putfield q, nx, 0, 3, w) ls (.int x :: .ref o :: st) (t, n, h) = some (.inl (nx, ls, st, (t, n, mv_up h o 3 (.int x)))) := ci_put h1 h2 rfl
theorem cp_0_4 {o : Nat} {x : Int32} (h1 : o < n) (h2 : (mv_kd o).1 = 0) : mv_stp L xs (.putfield q, nx, 0, 4, w) ls (.int x :: .ref o :: st) (t, n, h) = some (.inl (nx, ls, st, (t, n, mv_up h o 4 (.int x)))) := ci_put h1 h2 rfl
theorem cp_0_5 {o : Nat} (h1 : o < n) (h2 : (mv_kd o).1 = 0) : mv_stp L xs (.putfield q, nx, 0, 5, w) ls (.int (Int32.ofInt 0) :: .ref o :: st) (t, n, h) = some (.inl (nx, ls, st, (t, n, mv_up h o 5 (.int (Int32.ofInt 0))))) := ci_put h1 h2 rfl
theorem cp_0_6 {o : Nat} {x : Int32} (h1 : o < n) (h2 : (mv_kd o).1 = 0) : mv_stp L xs (.putfield q, nx, 0, 6, w) ls (.int x :: .ref o :: st) (t, n, h) = some (.inl (nx, ls, st, (t, n, mv_up h o 6 (.int x)))) := ci_put h1 h2 rfl
theorem cp_0_7 {o : Nat} {x : Int32} (h1 : o < n) (h2 : (mv_kd o).1 = 0) : mv_stp L xs (.putfield q, nx, 0, 7, w) ls (.int x :: .ref o :: st) (t, n, h) = some (.inl (nx, ls, st, (t, n, mv_up h o 7 (.int x)))) := ci_put h1 h2 rfl
theorem cp_0_8 {o : Nat} {x : Int32} (h1 : o < n) (h2 : (mv_kd o).1 = 0) : mv_stp L xs (.putfield q, nx, 0, 8, w) ls (.int x :: .ref o :: st) (t, n, h) = some (.inl (nx, ls, st, (t, n, mv_up h o 8 (.int x)))) := ci_put h1 h2 rfl
theorem cp_1_0 {o : Nat} {x : Nat} (h1 : o < n) (h2 : (mv_kd o).1 = 1) : mv_stp L xs (.putfield q, nx, 1, 0, w) ls (.ref x :: .ref o :: st) (t, n, h) = some (.inl (nx, ls, st, (t, n, mv_up h o 0 (.ref x)))) := ci_put h1 h2 rfl
theorem cp_1_1 {o : Nat} {x : Int32} (h1 : o < n) (h2 : (mv_kd o).1 = 1) : mv_stp L xs (.putfield q, nx, 1, 1, w) ls (.int x :: .ref o :: st) (t, n, h) = some (.inl (nx, ls, st, (t, n, mv_up h o 1 (.int x)))) := ci_put h1 h2 rfl
theorem cp_1_2 {o : Nat} {x : Nat} (h1 : o < n) (h2 : (mv_kd o).1 = 1) : mv_stp L xs (.putfield q, nx, 1, 2, w) ls (.ref x :: .ref o :: st) (t, n, h) = some (.inl (nx, ls, st, (t, n, mv_up h o 2 (.ref x)))) := ci_put h1 h2 rfl
theorem cp_1_3 {o : Nat} {x : Int32} (h1 : o < n) (h2 : (mv_kd o).1 = 1) : mv_stp L xs (.putfield q, nx, 1, 3, w) ls (.int x :: .ref o :: st) (t, n, h) = some (.inl (nx, ls, st, (t, n, mv_up h o 3 (.int x)))) := ci_put h1 h2 rfl
theorem cp_1_4 {o : Nat} {x : Int32} (h1 : o < n) (h2 : (mv_kd o).1 = 1) : mv_stp L xs (.putfield q, nx, 1, 4, w) ls (.int x :: .ref o :: st) (t, n, h) = some (.inl (nx, ls, st, (t, n, mv_up h o 4 (.int x)))) := ci_put h1 h2 rfl
theorem cp_1_5 {o : Nat} {x : Int64} (h1 : o < n) (h2 : (mv_kd o).1 = 1) : mv_stp L xs (.putfield q, nx, 1, 5, w) ls (.long x :: .ref o :: st) (t, n, h) = some (.inl (nx, ls, st, (t, n, mv_up h o 5 (.long x)))) := ci_put h1 h2 rfl
theorem cp_1_6 {o : Nat} {x : Int64} (h1 : o < n) (h2 : (mv_kd o).1 = 1) : mv_stp L xs (.putfield q, nx, 1, 6, w) ls (.long x :: .ref o :: st) (t, n, h) = some (.inl (nx, ls, st, (t, n, mv_up h o 6 (.long x)))) := ci_put h1 h2 rfl
theorem cp_1_7 {o : Nat} {x : Int64} (h1 : o < n) (h2 : (mv_kd o).1 = 1) : mv_stp L xs (.putfield q, nx, 1, 7, w) ls (.long x :: .ref o :: st) (t, n, h) = some (.inl (nx, ls, st, (t, n, mv_up h o 7 (.long x)))) := ci_put h1 h2 rfl
theorem cp_2_0 {o : Nat} {x : Nat} (h1 : o < n) (h2 : (mv_kd o).1 = 2) : mv_stp L xs (.putfield q, nx, 2, 0, w) ls (.ref x :: .ref o :: st) (t, n, h) = some (.inl (nx, ls, st, (t, n, mv_up h o 0 (.ref x)))) := ci_put h1 h2 rfl
theorem cp_2_1 {o : Nat} {x : Int32} (h1 : o < n) (h2 : (mv_kd o).1 = 2) : mv_stp L xs (.putfield q, nx, 2, 1, w) ls (.int x :: .ref o :: st) (t, n, h) = some (.inl (nx, ls, st, (t, n, mv_up h o 1 (.int x)))) := ci_put h1 h2 rfl
theorem cp_2_2 {o : Nat} {x : Int32} (h1 : o < n) (h2 : (mv_kd o).1 = 2) : mv_stp L xs (.putfield q, nx, 2, 2, w) ls (.int x :: .ref o :: st) (t, n, h) = some (.inl (nx, ls, st, (t, n, mv_up h o 2 (.int x)))) := ci_put h1 h2 rfl
theorem cp_3_0 {o : Nat} {x : Nat} (h1 : o < n) (h2 : (mv_kd o).1 = 3) : mv_stp L xs (.putfield q, nx, 3, 0, w) ls (.ref x :: .ref o :: st) (t, n, h) = some (.inl (nx, ls, st, (t, n, mv_up h o 0 (.ref x)))) := ci_put h1 h2 rfl
theorem cp_3_1 {o : Nat} {x : Int32} (h1 : o < n) (h2 : (mv_kd o).1 = 3) : mv_stp L xs (.putfield q, nx, 3, 1, w) ls (.int x :: .ref o :: st) (t, n, h) = some (.inl (nx, ls, st, (t, n, mv_up h o 1 (.int x)))) := ci_put h1 h2 rfl
theorem cp_4_0 {o : Nat} {x : Nat} (h1 : o < n) (h2 : (mv_kd o).1 = 4) : mv_stp L xs (.putfield q, nx, 4, 0, w) ls (.ref x :: .ref o :: st) (t, n, h) = some (.inl (nx, ls, st, (t, n, mv_up h o 0 (.ref x)))) := ci_put h1 h2 rfl
theorem cp_5_0 {o : Nat} {x : Nat} (h1 : o < n) (h2 : (mv_kd o).1 = 5) : mv_stp L xs (.putfield q, nx, 5, 0, w) ls (.ref x :: .ref o :: st) (t, n, h) = some (.inl (nx, ls, st, (t, n, mv_up h o 0 (.ref x)))) := ci_put h1 h2 rfl
theorem cp_5_1 {o : Nat} {x : Int32} (h1 : o < n) (h2 : (mv_kd o).1 = 5) : mv_stp L xs (.putfield q, nx, 5, 1, w) ls (.int x :: .ref o :: st) (t, n, h) = some (.inl (nx, ls, st, (t, n, mv_up h o 1 (.int x)))) := ci_put h1 h2 rfl
theorem cp_5_2 {o : Nat} {x : Int32} (h1 : o < n) (h2 : (mv_kd o).1 = 5) : mv_stp L xs (.putfield q, nx, 5, 2, w) ls (.int x :: .ref o :: st) (t, n, h) = some (.inl (nx, ls, st, (t, n, mv_up h o 2 (.int x)))) := ci_put h1 h2 rfl
theorem cp_5_3 {o : Nat} {x : Nat} (h1 : o < n) (h2 : (mv_kd o).1 = 5) : mv_stp L xs (.putfield q, nx, 5, 3, w) ls (.ref x :: .ref o :: st) (t, n, h) = some (.inl (nx, ls, st, (t, n, mv_up h o 3 (.ref x)))) := ci_put h1 h2 rfl
theorem cp_5_4 {o : Nat} {x : Nat} (h1 : o < n) (h2 : (mv_kd o).1 = 5) : mv_stp L xs (.putfield q, nx, 5, 4, w) ls (.ref x :: .ref o :: st) (t, n, h) = some (.inl (nx, ls, st, (t, n, mv_up h o 4 (.ref x)))) := ci_put h1 h2 rfl
theorem cp_5_5 {o : Nat} {x : Int32} (h1 : o < n) (h2 : (mv_kd o).1 = 5) : mv_stp L xs (.putfield q, nx, 5, 5, w) ls (.int x :: .ref o :: st) (t, n, h) = some (.inl (nx, ls, st, (t, n, mv_up h o 5 (.int x)))) := ci_put h1 h2 rfl
theorem cp_6_0 {o : Nat} {x : Nat} (h1 : o < n) (h2 : (mv_kd o).1 = 6) : mv_stp L xs (.putfield q, nx, 6, 0, w) ls (.ref x :: .ref o :: st) (t, n, h) = some (.inl (nx, ls, st, (t, n, mv_up h o 0 (.ref x)))) := ci_put h1 h2 rfl
theorem cp_6_1 {o : Nat} {x : Nat} (h1 : o < n) (h2 : (mv_kd o).1 = 6) : mv_stp L xs (.putfield q, nx, 6, 1, w) ls (.ref x :: .ref o :: st) (t, n, h) = some (.inl (nx, ls, st, (t, n, mv_up h o 1 (.ref x)))) := ci_put h1 h2 rfl
theorem cp_6_2 {o : Nat} {x : Int32} (h1 : o < n) (h2 : (mv_kd o).1 = 6) : mv_stp L xs (.putfield q, nx, 6, 2, w) ls (.int x :: .ref o :: st) (t, n, h) = some (.inl (nx, ls, st, (t, n, mv_up h o 2 (.int x)))) := ci_put h1 h2 rfl
theorem cp_6_3 {o : Nat} {x : Nat} (h1 : o < n) (h2 : (mv_kd o).1 = 6) : mv_stp L xs (.putfield q, nx, 6, 3, w) ls (.ref x :: .ref o :: st) (t, n, h) = some (.inl (nx, ls, st, (t, n, mv_up h o 3 (.ref x)))) := ci_put h1 h2 rfl
theorem cp_7_0 {o : Nat} {x : Nat} (h1 : o < n) (h2 : (mv_kd o).1 = 7) : mv_stp L xs (.putfield q, nx, 7, 0, w) ls (.ref x :: .ref o :: st) (t, n, h) = some (.inl (nx, ls, st, (t, n, mv_up h o 0 (.ref x)))) := ci_put h1 h2 rfl
theorem cp_7_1 {o : Nat} {x : Nat} (h1 : o < n) (h2 : (mv_kd o).1 = 7) : mv_stp L xs (.putfield q, nx, 7, 1, w) ls (.ref x :: .ref o :: st) (t, n, h) = some (.inl (nx, ls, st, (t, n, mv_up h o 1 (.ref x)))) := ci_put h1 h2 rfl
theorem cp_7_2 {o : Nat} {x : Nat} (h1 : o < n) (h2 : (mv_kd o).1 = 7) : mv_stp L xs (.putfield q, nx, 7, 2, w) ls (.ref x :: .ref o :: st) (t, n, h) = some (.inl (nx, ls, st, (t, n, mv_up h o 2 (.ref x)))) := ci_put h1 h2 rfl
theorem cp_7_3 {o : Nat} {x : Nat} (h1 : o < n) (h2 : (mv_kd o).1 = 7) : mv_stp L xs (.putfield q, nx, 7, 3, w) ls (.ref x :: .ref o :: st) (t, n, h) = some (.inl (nx, ls, st, (t, n, mv_up h o 3 (.ref x)))) := ci_put h1 h2 rfl
theorem cp_7_4 {o : Nat} {x : Nat} (h1 : o < n) (h2 : (mv_kd o).1 = 7) : mv_stp L xs (.putfield q, nx, 7, 4, w) ls (.ref x :: .ref o :: st) (t, n, h) = some (.inl (nx, ls, st, (t, n, mv_up h o 4 (.ref x)))) := ci_put h1 h2 rfl
theorem cp_7_5 {o : Nat} {x : Nat} (h1 : o < n) (h2 : (mv_kd o).1 = 7) : mv_stp L xs (.putfield q, nx, 7, 5, w) ls (.ref x :: .ref o :: st) (t, n, h) = some (.inl (nx, ls, st, (t, n, mv_up h o 5 (.ref x)))) := ci_put h1 h2 rfl
theorem cp_7_6 {o : Nat} {x : Nat} (h1 : o < n) (h2 : (mv_kd o).1 = 7) : mv_stp L xs (.putfield q, nx, 7, 6, w) ls (.ref x :: .ref o :: st) (t, n, h) = some (.inl (nx, ls, st, (t, n, mv_up h o 6 (.ref x)))) := ci_put h1 h2 rfl
theorem cp_7_7 {o : Nat} {x : Nat} (h1 : o < n) (h2 : (mv_kd o).1 = 7) : mv_stp L xs (.putfield q, nx, 7, 7, w) ls (.ref x :: .ref o :: st) (t, n, h) = some (.inl (nx, ls, st, (t, n, mv_up h o 7 (.ref x)))) := ci_put h1 h2 rfl
theorem cp_7_8 {o : Nat} {x : Nat} (h1 : o < n) (h2 : (mv_kd o).1 = 7) : mv_stp L xs (.putfield q, nx, 7, 8, w) ls (.ref x :: .ref o :: st) (t, n, h) = some (.inl (nx, ls, st, (t, n, mv_up h o 8 (.ref x)))) := ci_put h1 h2 rfl
theorem cp_7_9 {o : Nat} (h1 : o < n) (h2 : (mv_kd o).1 = 7) : mv_stp L xs (.putfield q, nx, 7, 9, w) ls (.int (Int32.ofInt 0) :: .ref o :: st) (t, n, h) = some (.inl (nx, ls, st, (t, n, mv_up h o 9 (.int (Int32.ofInt 0))))) := ci_put h1 h2 rfl
theorem cp_7_10 {o : Nat} {x : Int32} (h1 : o < n) (h2 : (mv_kd o).1 = 7) : mv_stp L xs (.putfield q, nx, 7, 10, w) ls (.int x :: .ref o :: st) (t, n, h) = some (.inl (nx, ls, st, (t, n, mv_up h o 10 (.int x)))) := ci_put h1 h2 rfl
theorem cp_7_11 {o : Nat} {x : Int32} (h1 : o < n) (h2 : (mv_kd o).1 = 7) : mv_stp L xs (.putfield q, nx, 7, 11, w) ls (.int x :: .ref o :: st) (t, n, h) = some (.inl (nx, ls, st, (t, n, mv_up h o 11 (.int x)))) := ci_put h1 h2 rfl
/-- a constructor's contract -/
def zCt (L : Nat) (xs : Nat → Int32) (d K o n' : Nat) : Prop := ∀ (t : Nat) (h : mv_H), ∃ h', mv_cl L xs d K [.ref o] (t, o + 1, mv_upo h o (fun k => defaultValue (mv_ty (mv_kd o).1 k))) = some (.inl none, (t, n', h')) ∧ (∀ p k, o ≤ p → p < n' → ¬ zk p k = 4 → h' p k = mz zT0 p k) ∧ (∀ p, p < o → h' p = h p) ∧ ((∀ p k, mo_rf 3000 (h p k)) → ∀ p k, mo_rf 3000 (h' p k))
theorem zk_0 {o k : Nat} (h : zk o k = 0) (h0 : ¬ o = 0) (h1 : ¬ o = 142) : mz zT0 o k = .int (Int32.ofInt 0) := by rw [z0_at (by omega) h0 h1, if_pos h]
theorem zk_1 {o k : Nat} (h : zk o k = 1) (h0 : ¬ o = 0) (h1 : ¬ o = 142) : mz zT0 o k = .long (Int64.ofInt 0) := by rw [z0_at (by omega) h0 h1, if_neg (by omega), if_pos h]
theorem zk_r {o k r : Nat} (h : zk o k = 10 + r) (h0 : ¬ o = 0) (h1 : ¬ o = 142) : mz zT0 o k = .ref r := by rw [z0_at (by omega) h0 h1, if_neg (by omega), if_neg (by omega), if_neg (by omega), if_neg (by omega), h, Nat.add_sub_cancel_left]
theorem c_X1_init (hd : 1 ≤ d) {o : Nat} (ho : o < 142) (hk : (mv_kd o).1 = 0) {g : Nat → Value} : mv_cl L xs d k_X1_init [.ref o] (t, o + 1, mv_upo h o g) = some (.inl none, (t, o + 1, mv_upo h o (mv_u1 (mv_u1 (mv_u1 (mv_u1 (mv_u1 (mv_u1 (mv_u1 (mv_u1 (mv_u1 g 0 (.int (Int32.ofInt 0))) 1 (.int (Int32.ofInt 0))) 2 (.int (Int32.ofInt 0))) 3 (.int (Int32.ofInt 0))) 4 (.int (Int32.ofInt 0))) 5 (.int (Int32.ofInt 0))) 6 (.int (Int32.ofInt 0))) 7 (.int (Int32.ofInt 0))) 8 (.int (Int32.ofInt 0))))) := by
  obtain ⟨d, rfl⟩ : ∃ e, d = e + 1 := ⟨d - 1, by omega⟩
  apply mv_cl_of
  simp only [mv_il, Value.category, Nat.zero_add, Nat.reduceAdd]
  simp (disch := first | assumption | omega | rfl | decide) only [mv_Ev_row r_X1_init_0, mv_Ev_row r_X1_init_1, mv_Ev_row r_X1_init_4, mv_Ev_row r_X1_init_5, mv_Ev_row r_X1_init_6, mv_Ev_row r_X1_init_9, mv_Ev_row r_X1_init_10, mv_Ev_row r_X1_init_11, mv_Ev_row r_X1_init_14, mv_Ev_row r_X1_init_15, mv_Ev_row r_X1_init_16, mv_Ev_row r_X1_init_19, mv_Ev_row r_X1_init_20, mv_Ev_row r_X1_init_21, mv_Ev_row r_X1_init_24, mv_Ev_row r_X1_init_25, mv_Ev_row r_X1_init_26, mv_Ev_row r_X1_init_29, mv_Ev_row r_X1_init_30, mv_Ev_row r_X1_init_31, mv_Ev_row r_X1_init_34, mv_Ev_row r_X1_init_35, mv_Ev_row r_X1_init_36, mv_Ev_row r_X1_init_39, mv_Ev_row r_X1_init_40, mv_Ev_row r_X1_init_41, mv_Ev_row r_X1_init_44, mv_Ev_row r_X1_init_45, mv_Ev_row r_X1_init_46, mv_Ev_row r_X1_init_49, ea_aload_n, ci_obj, ea_iconst, cp_0_0, cp_0_1, cp_0_2, cp_0_3, cp_0_4, cp_0_5, cp_0_6, cp_0_7, cp_0_8, ea_vret, cz_eq, cz_ne, cz_lt, cz_ge, cz_gt, cz_le, mv_ac, decide_eq_true_eq, not_true_eq_false, and_self, and_true, true_and, ea_2n, ea_2f, ea_2c, ea_if, if_pos, if_neg, mv_lk, mv_f1, mv_f2, Value.category, List.filter, ↓reduceIte, Nat.reduceEqDiff, Nat.reduceAdd, Nat.reduceLT, Nat.reduceBEq, Nat.zero_add, Nat.add_zero, Nat.zero_ne_one, Nat.one_ne_zero, Bool.not_true, Bool.not_false, Bool.and_true, Bool.true_and, Bool.and_false, Bool.false_and, BEq.rfl, beq_self_eq_true, Bool.false_eq_true, reduceCtorEq, not_false_eq_true, fv0, fv1, fv2, fv3, eb_l0, eb_l1, eb_l2, eb_l3, eb_l4, eb_l5, eb_s0, eb_s1, eb_s2, eb_s3, eb_s4, eb_s5, oz_add, oz_sub, oz_mul, oz_neg, ol_add, ol_sub, sD_eq, sD_sD, sD_ne, sD_in, sD_in2, sD_in3, upR_is, upR_ne, mk_v, mk_n, mk_x, mk_i, mv_cs, Nat.reduceLeDiff, mv_ch_z, nh_X1_init, up_same, up_diff, upo_eq, upo_ne, u1_eq, u1_ne, up_eq, up_nk, up_ne]
theorem u9_at (g : Nat → Value) {k : Nat} (hk : k < 9) : (mv_u1 (mv_u1 (mv_u1 (mv_u1 (mv_u1 (mv_u1 (mv_u1 (mv_u1 (mv_u1 g 0 (.int (Int32.ofInt 0))) 1 (.int (Int32.ofInt 0))) 2 (.int (Int32.ofInt 0))) 3 (.int (Int32.ofInt 0))) 4 (.int (Int32.ofInt 0))) 5 (.int (Int32.ofInt 0))) 6 (.int (Int32.ofInt 0))) 7 (.int (Int32.ofInt 0))) 8 (.int (Int32.ofInt 0))) k = .int (Int32.ofInt 0) := by
  rcases (by omega : k = 0 ∨ k = 1 ∨ k = 2 ∨ k = 3 ∨ k = 4 ∨ k = 5 ∨ k = 6 ∨ k = 7 ∨ k = 8) with rfl | rfl | rfl | rfl | rfl | rfl | rfl | rfl | rfl <;> rfl
theorem c_X2_init (hd : 2 ≤ d) {c : Nat} (hc : Ch c) : zCt L xs d k_X2_init c (c + 8) := by
  intro t h
  obtain ⟨d, rfl⟩ : ∃ e, d = e + 1 := ⟨d - 1, by omega⟩
  obtain ⟨hl, hz0, hz2, ha, hf, hne⟩ := ch_0 c hc.1 hc.2
  have hb := ch_b c hc.1 hc.2
  have kc : (mv_kd c).1 = 1 := by rw [hc.2]
  have k1 : mv_kd (c + 1) = (24, Int.toNat 5) := ha
  have k2 : mv_kd (c + 2) = (20, Int.toNat 12) := hf
  have k11 : (mv_kd (c + 1)).1 = 24 := by rw [ha]
  have k12 : (mv_kd (c + 1)).2 = 5 := by rw [ha]
  have b3 : (mv_kd (c + 3)).1 = 0 := congrArg Prod.fst (hb 0 (by omega)).2.1
  have b4 : (mv_kd (c + 4)).1 = 0 := congrArg Prod.fst (hb 1 (by omega)).2.1
  have b5 : (mv_kd (c + 5)).1 = 0 := congrArg Prod.fst (hb 2 (by omega)).2.1
  have b6 : (mv_kd (c + 6)).1 = 0 := congrArg Prod.fst (hb 3 (by omega)).2.1
  have b7 : (mv_kd (c + 7)).1 = 0 := congrArg Prod.fst (hb 4 (by omega)).2.1
  have hlen : ∀ {a b nx w n : Nat} {ls : mv_V} {st : List Value} {h : mv_H}, c + 1 < n → mv_stp L xs (.arraylength, nx, a, b, w) ls (.ref (c + 1) :: st) (t, n, h) = some (.inl (nx, ls, .int (Int32.ofInt 5) :: st, (t, n, h))) := by
    intro a b nx w n ls st h hn
    rw [ci_len hn (by omega) (by rw [k11]; decide), k12]
    rfl
  have haas : ∀ {a b nx w n v : Nat} {i : Int} {ls : mv_V} {st : List Value} {h : mv_H}, c + 1 < n → v < n → 0 ≤ i → i < 5 → (mv_kd v).1 = 0 → mv_stp L xs (.aastore, nx, a, b, w) ls (.ref v :: .int (Int32.ofInt i) :: .ref (c + 1) :: st) (t, n, h) = some (.inl (nx, ls, st, (t, n, mv_up h (c + 1) i.toNat (.ref v)))) := by
    intro a b nx w n v i ls st h q1 q2 q3 q4 q5
    exact ci_aas q1 q2 q3 (by rw [k12]; exact q4) (by rw [k12]; decide) (.inl ⟨k11, q5⟩)
  have hcon : ∀ {o : Nat} {h : mv_H} {g : Nat → Value}, o < 142 → (mv_kd o).1 = 0 → _ := fun {o h g} a b => c_X1_init (L := L) (xs := xs) (t := t) (d := d) (h := h) (g := g) (by omega) a b
  have l0 : Int64.ofNat ((0 : Fin 2) : Nat) = Int64.ofInt 0 := rfl
  refine ⟨?gw, ?ge, ?gp, ?gq⟩
  case ge =>
    rw [kc]
    apply mv_cl_of
    simp only [mv_il, Value.category, Nat.zero_add, Nat.reduceAdd]
    simp (disch := first | assumption | omega | rfl | decide) only [mv_Ev_row r_X2_init_0, mv_Ev_row r_X2_init_1, mv_Ev_row r_X2_init_4, mv_Ev_row r_X2_init_5, mv_Ev_row r_X2_init_6, mv_Ev_row r_X2_init_9, mv_Ev_row r_X2_init_12, mv_Ev_row r_X2_init_13, mv_Ev_row r_X2_init_14, mv_Ev_row r_X2_init_17, mv_Ev_row r_X2_init_18, mv_Ev_row r_X2_init_20, mv_Ev_row r_X2_init_22, mv_Ev_row r_X2_init_25, mv_Ev_row r_X2_init_26, mv_Ev_row r_X2_init_27, mv_Ev_row r_X2_init_30, mv_Ev_row r_X2_init_31, mv_Ev_row r_X2_init_32, mv_Ev_row r_X2_init_35, mv_Ev_row r_X2_init_36, mv_Ev_row r_X2_init_37, mv_Ev_row r_X2_init_40, mv_Ev_row r_X2_init_41, mv_Ev_row r_X2_init_42, mv_Ev_row r_X2_init_45, mv_Ev_row r_X2_init_46, mv_Ev_row r_X2_init_47, mv_Ev_row r_X2_init_50, mv_Ev_row r_X2_init_51, mv_Ev_row r_X2_init_52, mv_Ev_row r_X2_init_53, mv_Ev_row r_X2_init_54, mv_Ev_row r_X2_init_57, mv_Ev_row r_X2_init_58, mv_Ev_row r_X2_init_61, mv_Ev_row r_X2_init_62, mv_Ev_row r_X2_init_65, mv_Ev_row r_X2_init_66, mv_Ev_row r_X2_init_69, mv_Ev_row r_X2_init_70, mv_Ev_row r_X2_init_73, mv_Ev_row r_X2_init_74, mv_Ev_row r_X2_init_77, mv_Ev_row r_X2_init_80, ea_aload_n, ci_obj, ea_iconst, ci_nw2, cp_1_0, cp_1_1, ea_bipush, ci_nw1, cp_1_2, cp_1_3, cp_1_4, ea_lconst, cp_1_5, cp_1_6, cp_1_7, ea_istore_n, ea_iload_n, ci_get, ea_icmp, ci_new, ea_dup_i, ea_dup_r, ck_X1_init, ea_iinc, eb_inc, ea_goto, ea_vret, bz_12, cz_eq, cz_ne, cz_lt, cz_ge, cz_gt, cz_le, mv_ac, decide_eq_true_eq, not_true_eq_false, and_self, and_true, true_and, ea_2n, ea_2f, ea_2c, ea_if, if_pos, if_neg, mv_lk, mv_f1, mv_f2, Value.category, List.filter, ↓reduceIte, Nat.reduceEqDiff, Nat.reduceAdd, Nat.reduceLT, Nat.reduceBEq, Nat.zero_add, Nat.zero_ne_one, Nat.one_ne_zero, Bool.not_true, Bool.not_false, Bool.and_true, Bool.true_and, Bool.and_false, Bool.false_and, BEq.rfl, beq_self_eq_true, Bool.false_eq_true, reduceCtorEq, not_false_eq_true, fv0, fv1, fv2, fv3, eb_l0, eb_l1, eb_l2, eb_l3, eb_l4, eb_l5, eb_s0, eb_s1, eb_s2, eb_s3, eb_s4, eb_s5, oz_add, oz_sub, oz_mul, oz_neg, ol_add, ol_sub, sD_eq, sD_sD, sD_ne, sD_in, sD_in2, sD_in3, upR_is, upR_ne, mk_v, mk_n, mk_x, mk_i, mv_cs, Nat.reduceLeDiff, mv_ch_z, nh_X2_init, up_same, up_diff, upo_eq, upo_ne, u1_eq, u1_ne, up_eq, up_nk, up_ne, hlen, haas, hcon, l0, Nat.add_assoc, Int.reduceAdd, Int.reduceToNat]
    rfl
  case gp =>
    intro p k hp hp8 hz
    obtain ⟨hk1, hk2⟩ := zk_in hz
    have h125 := (by decide +kernel : ∀ o, o < 142 → mv_kd o = (1, 8) → o ≤ 125) c hc.1 hc.2
    obtain ⟨z0, z1, z2, z3, z4, z5, z6, z7⟩ := ch_1 c hc.1 hc.2
    obtain ⟨j, rfl⟩ : ∃ j, p = c + j := ⟨p - c, by omega⟩
    have n0 : ¬ c + j = 0 := by omega
    have n1 : ¬ c + j = 142 := by omega
    rcases (by omega : j = 0 ∨ j = 1 ∨ j = 2 ∨ j = 3 ∨ j = 4 ∨ j = 5 ∨ j = 6 ∨ j = 7) with rfl | rfl | rfl | rfl | rfl | rfl | rfl | rfl
    · have hk2 : k < 8 := by have : (mv_kd c).2 = 8 := congrArg Prod.snd hc.2
                             exact Nat.lt_of_lt_of_eq hk2 this
      simp (disch := omega) only [Nat.add_zero, upo_ne, upo_eq]
      rcases (by omega : k = 0 ∨ k = 1 ∨ k = 2 ∨ k = 3 ∨ k = 4 ∨ k = 5 ∨ k = 6 ∨ k = 7) with rfl | rfl | rfl | rfl | rfl | rfl | rfl | rfl
      · rw [zk_r z0 n0 n1]; rfl
      · rw [zk_0 z1 n0 n1]; rfl
      · rw [zk_r z2 n0 n1]; rfl
      · rw [zk_0 z3 n0 n1]; rfl
      · rw [zk_0 z4 n0 n1]; rfl
      · rw [zk_1 z5 n0 n1]; rfl
      · rw [zk_1 z6 n0 n1]; rfl
      · rw [zk_1 z7 n0 n1]; rfl
    · have hk2 : k < 5 := by have : (mv_kd (c + 1)).2 = 5 := congrArg Prod.snd ha
                             exact Nat.lt_of_lt_of_eq hk2 this
      simp (disch := omega) only [upo_ne, upo_eq]
      rcases (by omega : k = 0 ∨ k = 1 ∨ k = 2 ∨ k = 3 ∨ k = 4) with rfl | rfl | rfl | rfl | rfl
      · rw [zk_r (hb 0 (by omega)).1 n0 n1]; rfl
      · rw [zk_r (hb 1 (by omega)).1 n0 n1]; rfl
      · rw [zk_r (hb 2 (by omega)).1 n0 n1]; rfl
      · rw [zk_r (hb 3 (by omega)).1 n0 n1]; rfl
      · rw [zk_r (hb 4 (by omega)).1 n0 n1]; rfl
    · have hk2 : k < 12 := by have : (mv_kd (c + 2)).2 = 12 := congrArg Prod.snd hf
                              exact Nat.lt_of_lt_of_eq hk2 this
      simp (disch := omega) only [upo_ne, upo_eq]
      rw [zk_0 (ch_f c hc.1 hc.2 k hk2).1 n0 n1]
      rfl
    · have hk2 : k < 9 := by have : (mv_kd (c + 3)).2 = 9 := congrArg Prod.snd (hb 0 (by omega)).2.1
                             exact Nat.lt_of_lt_of_eq hk2 this
      simp (disch := omega) only [upo_ne, upo_eq]
      rw [zk_0 (ch_c c hc.1 hc.2 0 (by omega) k hk2).1 n0 n1]
      exact u9_at _ hk2
    · have hk2 : k < 9 := by have : (mv_kd (c + 4)).2 = 9 := congrArg Prod.snd (hb 1 (by omega)).2.1
                             exact Nat.lt_of_lt_of_eq hk2 this
      simp (disch := omega) only [upo_ne, upo_eq]
      rw [zk_0 (ch_c c hc.1 hc.2 1 (by omega) k hk2).1 n0 n1]
      exact u9_at _ hk2
    · have hk2 : k < 9 := by have : (mv_kd (c + 5)).2 = 9 := congrArg Prod.snd (hb 2 (by omega)).2.1
                             exact Nat.lt_of_lt_of_eq hk2 this
      simp (disch := omega) only [upo_ne, upo_eq]
      rw [zk_0 (ch_c c hc.1 hc.2 2 (by omega) k hk2).1 n0 n1]
      exact u9_at _ hk2
    · have hk2 : k < 9 := by have : (mv_kd (c + 6)).2 = 9 := congrArg Prod.snd (hb 3 (by omega)).2.1
                             exact Nat.lt_of_lt_of_eq hk2 this
      simp (disch := omega) only [upo_ne, upo_eq]
      rw [zk_0 (ch_c c hc.1 hc.2 3 (by omega) k hk2).1 n0 n1]
      exact u9_at _ hk2
    · have hk2 : k < 9 := by have : (mv_kd (c + 7)).2 = 9 := congrArg Prod.snd (hb 4 (by omega)).2.1
                             exact Nat.lt_of_lt_of_eq hk2 this
      simp (disch := omega) only [upo_ne, upo_eq]
      rw [zk_0 (ch_c c hc.1 hc.2 4 (by omega) k hk2).1 n0 n1]
      exact u9_at _ hk2
  case gq =>
    refine ⟨?_, fun hh => ?_⟩
    · intro p hp
      simp (disch := omega) only [upo_ne]
    · repeat' (first | exact hh | exact trivial | exact sm_dv | exact sm_dd | exact sm_r (by omega) | refine sm_up ?_ ?_ | refine sm_upo ?_ ?_ | refine sm_u1 ?_ ?_ | intro _)
end CI

