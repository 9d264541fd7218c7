/-! THE PROGRAM OF THE CLASS: reading commands -/
theorem tb_X8_take : mv_tb k_X8_take = t_X8_take := rfl
theorem r_X8_take_0 : mv_in k_X8_take 0 = some (.aload_n 0, 1, 0, 0, 0) := by unfold mv_in; rw [tb_X8_take]; rfl
theorem r_X8_take_1 : mv_in k_X8_take 1 = some (.getfield 15, 4, 5, 1, 300) := by unfold mv_in; rw [tb_X8_take]; rfl
theorem r_X8_take_4 : mv_in k_X8_take 4 = some (.bipush 60, 6, 0, 0, 0) := by unfold mv_in; rw [tb_X8_take]; rfl
theorem r_X8_take_6 : mv_in k_X8_take 6 = some (.if_icmp .ge 23, 9, 29, 0, 0) := by unfold mv_in; rw [tb_X8_take]; rfl
theorem r_X8_take_9 : mv_in k_X8_take 9 = some (.aload_n 0, 10, 0, 0, 0) := by unfold mv_in; rw [tb_X8_take]; rfl
theorem r_X8_take_10 : mv_in k_X8_take 10 = some (.getfield 9, 13, 5, 0, 299) := by unfold mv_in; rw [tb_X8_take]; rfl
theorem r_X8_take_13 : mv_in k_X8_take 13 = some (.aload_n 0, 14, 0, 0, 0) := by unfold mv_in; rw [tb_X8_take]; rfl
theorem r_X8_take_14 : mv_in k_X8_take 14 = some (.getfield 15, 17, 5, 1, 300) := by unfold mv_in; rw [tb_X8_take]; rfl
theorem r_X8_take_17 : mv_in k_X8_take 17 = some (.iload_n 1, 18, 0, 0, 0) := by unfold mv_in; rw [tb_X8_take]; rfl
theorem r_X8_take_18 : mv_in k_X8_take 18 = some (.castore, 19, 0, 0, 0) := by unfold mv_in; rw [tb_X8_take]; rfl
theorem r_X8_take_19 : mv_in k_X8_take 19 = some (.aload_n 0, 20, 0, 0, 0) := by unfold mv_in; rw [tb_X8_take]; rfl
theorem r_X8_take_20 : mv_in k_X8_take 20 = some (.dup, 21, 0, 0, 0) := by unfold mv_in; rw [tb_X8_take]; rfl
theorem r_X8_take_21 : mv_in k_X8_take 21 = some (.getfield 15, 24, 5, 1, 300) := by unfold mv_in; rw [tb_X8_take]; rfl
theorem r_X8_take_24 : mv_in k_X8_take 24 = some (.iconst 1, 25, 0, 0, 0) := by unfold mv_in; rw [tb_X8_take]; rfl
theorem r_X8_take_25 : mv_in k_X8_take 25 = some (.iadd, 26, 0, 0, 0) := by unfold mv_in; rw [tb_X8_take]; rfl
theorem r_X8_take_26 : mv_in k_X8_take 26 = some (.putfield 15, 29, 5, 1, 300) := by unfold mv_in; rw [tb_X8_take]; rfl
theorem r_X8_take_29 : mv_in k_X8_take 29 = some (.return_, 30, 0, 0, 0) := by unfold mv_in; rw [tb_X8_take]; rfl
theorem nh_X8_take : mv_nh k_X8_take = true := rfl
theorem tb_X8_isAtDigit : mv_tb k_X8_isAtDigit = t_X8_isAtDigit := rfl
theorem r_X8_isAtDigit_0 : mv_in k_X8_isAtDigit 0 = some (.aload_n 0, 1, 0, 0, 0) := by unfold mv_in; rw [tb_X8_isAtDigit]; rfl
theorem r_X8_isAtDigit_1 : mv_in k_X8_isAtDigit 1 = some (.getfield 19, 4, 5, 2, 302) := by unfold mv_in; rw [tb_X8_isAtDigit]; rfl
theorem r_X8_isAtDigit_4 : mv_in k_X8_isAtDigit 4 = some (.aload_n 0, 5, 0, 0, 0) := by unfold mv_in; rw [tb_X8_isAtDigit]; rfl
theorem r_X8_isAtDigit_5 : mv_in k_X8_isAtDigit 5 = some (.getfield 15, 8, 5, 1, 300) := by unfold mv_in; rw [tb_X8_isAtDigit]; rfl
theorem r_X8_isAtDigit_8 : mv_in k_X8_isAtDigit 8 = some (.if_icmp .ge 35, 11, 43, 0, 0) := by unfold mv_in; rw [tb_X8_isAtDigit]; rfl
theorem r_X8_isAtDigit_11 : mv_in k_X8_isAtDigit 11 = some (.aload_n 0, 12, 0, 0, 0) := by unfold mv_in; rw [tb_X8_isAtDigit]; rfl
theorem r_X8_isAtDigit_12 : mv_in k_X8_isAtDigit 12 = some (.getfield 9, 15, 5, 0, 299) := by unfold mv_in; rw [tb_X8_isAtDigit]; rfl
theorem r_X8_isAtDigit_15 : mv_in k_X8_isAtDigit 15 = some (.aload_n 0, 16, 0, 0, 0) := by unfold mv_in; rw [tb_X8_isAtDigit]; rfl
theorem r_X8_isAtDigit_16 : mv_in k_X8_isAtDigit 16 = some (.getfield 19, 19, 5, 2, 302) := by unfold mv_in; rw [tb_X8_isAtDigit]; rfl
theorem r_X8_isAtDigit_19 : mv_in k_X8_isAtDigit 19 = some (.caload, 20, 0, 0, 0) := by unfold mv_in; rw [tb_X8_isAtDigit]; rfl
theorem r_X8_isAtDigit_20 : mv_in k_X8_isAtDigit 20 = some (.bipush 48, 22, 0, 0, 0) := by unfold mv_in; rw [tb_X8_isAtDigit]; rfl
theorem r_X8_isAtDigit_22 : mv_in k_X8_isAtDigit 22 = some (.if_icmp .lt 21, 25, 43, 0, 0) := by unfold mv_in; rw [tb_X8_isAtDigit]; rfl
theorem r_X8_isAtDigit_25 : mv_in k_X8_isAtDigit 25 = some (.aload_n 0, 26, 0, 0, 0) := by unfold mv_in; rw [tb_X8_isAtDigit]; rfl
theorem r_X8_isAtDigit_26 : mv_in k_X8_isAtDigit 26 = some (.getfield 9, 29, 5, 0, 299) := by unfold mv_in; rw [tb_X8_isAtDigit]; rfl
theorem r_X8_isAtDigit_29 : mv_in k_X8_isAtDigit 29 = some (.aload_n 0, 30, 0, 0, 0) := by unfold mv_in; rw [tb_X8_isAtDigit]; rfl
theorem r_X8_isAtDigit_30 : mv_in k_X8_isAtDigit 30 = some (.getfield 19, 33, 5, 2, 302) := by unfold mv_in; rw [tb_X8_isAtDigit]; rfl
theorem r_X8_isAtDigit_33 : mv_in k_X8_isAtDigit 33 = some (.caload, 34, 0, 0, 0) := by unfold mv_in; rw [tb_X8_isAtDigit]; rfl
theorem r_X8_isAtDigit_34 : mv_in k_X8_isAtDigit 34 = some (.bipush 57, 36, 0, 0, 0) := by unfold mv_in; rw [tb_X8_isAtDigit]; rfl
theorem r_X8_isAtDigit_36 : mv_in k_X8_isAtDigit 36 = some (.if_icmp .gt 7, 39, 43, 0, 0) := by unfold mv_in; rw [tb_X8_isAtDigit]; rfl
theorem r_X8_isAtDigit_39 : mv_in k_X8_isAtDigit 39 = some (.iconst 1, 40, 0, 0, 0) := by unfold mv_in; rw [tb_X8_isAtDigit]; rfl
theorem r_X8_isAtDigit_40 : mv_in k_X8_isAtDigit 40 = some (.goto 4, 43, 44, 0, 0) := by unfold mv_in; rw [tb_X8_isAtDigit]; rfl
theorem r_X8_isAtDigit_43 : mv_in k_X8_isAtDigit 43 = some (.iconst 0, 44, 0, 0, 0) := by unfold mv_in; rw [tb_X8_isAtDigit]; rfl
theorem r_X8_isAtDigit_44 : mv_in k_X8_isAtDigit 44 = some (.ireturn, 45, 1, 0, 0) := by unfold mv_in; rw [tb_X8_isAtDigit]; rfl
theorem nh_X8_isAtDigit : mv_nh k_X8_isAtDigit = true := rfl
theorem tb_X8_readSign : mv_tb k_X8_readSign = t_X8_readSign := rfl
theorem r_X8_readSign_0 : mv_in k_X8_readSign 0 = some (.aload_n 0, 1, 0, 0, 0) := by unfold mv_in; rw [tb_X8_readSign]; rfl
theorem r_X8_readSign_1 : mv_in k_X8_readSign 1 = some (.getfield 19, 4, 5, 2, 302) := by unfold mv_in; rw [tb_X8_readSign]; rfl
theorem r_X8_readSign_4 : mv_in k_X8_readSign 4 = some (.aload_n 0, 5, 0, 0, 0) := by unfold mv_in; rw [tb_X8_readSign]; rfl
theorem r_X8_readSign_5 : mv_in k_X8_readSign 5 = some (.getfield 15, 8, 5, 1, 300) := by unfold mv_in; rw [tb_X8_readSign]; rfl
theorem r_X8_readSign_8 : mv_in k_X8_readSign 8 = some (.if_icmp .ge 16, 11, 24, 0, 0) := by unfold mv_in; rw [tb_X8_readSign]; rfl
theorem r_X8_readSign_11 : mv_in k_X8_readSign 11 = some (.aload_n 0, 12, 0, 0, 0) := by unfold mv_in; rw [tb_X8_readSign]; rfl
theorem r_X8_readSign_12 : mv_in k_X8_readSign 12 = some (.getfield 9, 15, 5, 0, 299) := by unfold mv_in; rw [tb_X8_readSign]; rfl
theorem r_X8_readSign_15 : mv_in k_X8_readSign 15 = some (.aload_n 0, 16, 0, 0, 0) := by unfold mv_in; rw [tb_X8_readSign]; rfl
theorem r_X8_readSign_16 : mv_in k_X8_readSign 16 = some (.getfield 19, 19, 5, 2, 302) := by unfold mv_in; rw [tb_X8_readSign]; rfl
theorem r_X8_readSign_19 : mv_in k_X8_readSign 19 = some (.caload, 20, 0, 0, 0) := by unfold mv_in; rw [tb_X8_readSign]; rfl
theorem r_X8_readSign_20 : mv_in k_X8_readSign 20 = some (.iload_n 1, 21, 0, 0, 0) := by unfold mv_in; rw [tb_X8_readSign]; rfl
theorem r_X8_readSign_21 : mv_in k_X8_readSign 21 = some (.if_icmp .eq 5, 24, 26, 0, 0) := by unfold mv_in; rw [tb_X8_readSign]; rfl
theorem r_X8_readSign_24 : mv_in k_X8_readSign 24 = some (.iconst 0, 25, 0, 0, 0) := by unfold mv_in; rw [tb_X8_readSign]; rfl
theorem r_X8_readSign_25 : mv_in k_X8_readSign 25 = some (.ireturn, 26, 1, 0, 0) := by unfold mv_in; rw [tb_X8_readSign]; rfl
theorem r_X8_readSign_26 : mv_in k_X8_readSign 26 = some (.aload_n 0, 27, 0, 0, 0) := by unfold mv_in; rw [tb_X8_readSign]; rfl
theorem r_X8_readSign_27 : mv_in k_X8_readSign 27 = some (.dup, 28, 0, 0, 0) := by unfold mv_in; rw [tb_X8_readSign]; rfl
theorem r_X8_readSign_28 : mv_in k_X8_readSign 28 = some (.getfield 19, 31, 5, 2, 302) := by unfold mv_in; rw [tb_X8_readSign]; rfl
theorem r_X8_readSign_31 : mv_in k_X8_readSign 31 = some (.iconst 1, 32, 0, 0, 0) := by unfold mv_in; rw [tb_X8_readSign]; rfl
theorem r_X8_readSign_32 : mv_in k_X8_readSign 32 = some (.iadd, 33, 0, 0, 0) := by unfold mv_in; rw [tb_X8_readSign]; rfl
theorem r_X8_readSign_33 : mv_in k_X8_readSign 33 = some (.putfield 19, 36, 5, 2, 302) := by unfold mv_in; rw [tb_X8_readSign]; rfl
theorem r_X8_readSign_36 : mv_in k_X8_readSign 36 = some (.iconst 1, 37, 0, 0, 0) := by unfold mv_in; rw [tb_X8_readSign]; rfl
theorem r_X8_readSign_37 : mv_in k_X8_readSign 37 = some (.ireturn, 38, 1, 0, 0) := by unfold mv_in; rw [tb_X8_readSign]; rfl
theorem nh_X8_readSign : mv_nh k_X8_readSign = true := rfl
theorem tb_X8_readNumber : mv_tb k_X8_readNumber = t_X8_readNumber := rfl
theorem r_X8_readNumber_0 : mv_in k_X8_readNumber 0 = some (.iconst 0, 1, 0, 0, 0) := by unfold mv_in; rw [tb_X8_readNumber]; rfl
theorem r_X8_readNumber_1 : mv_in k_X8_readNumber 1 = some (.istore_n 2, 2, 0, 0, 0) := by unfold mv_in; rw [tb_X8_readNumber]; rfl
theorem r_X8_readNumber_2 : mv_in k_X8_readNumber 2 = some (.iconst 0, 3, 0, 0, 0) := by unfold mv_in; rw [tb_X8_readNumber]; rfl
theorem r_X8_readNumber_3 : mv_in k_X8_readNumber 3 = some (.istore_n 3, 4, 0, 0, 0) := by unfold mv_in; rw [tb_X8_readNumber]; rfl
theorem r_X8_readNumber_4 : mv_in k_X8_readNumber 4 = some (.iload_n 3, 5, 0, 0, 0) := by unfold mv_in; rw [tb_X8_readNumber]; rfl
theorem r_X8_readNumber_5 : mv_in k_X8_readNumber 5 = some (.iload_n 1, 6, 0, 0, 0) := by unfold mv_in; rw [tb_X8_readNumber]; rfl
theorem r_X8_readNumber_6 : mv_in k_X8_readNumber 6 = some (.if_icmp .ge 44, 9, 50, 0, 0) := by unfold mv_in; rw [tb_X8_readNumber]; rfl
theorem r_X8_readNumber_9 : mv_in k_X8_readNumber 9 = some (.aload_n 0, 10, 0, 0, 0) := by unfold mv_in; rw [tb_X8_readNumber]; rfl
theorem r_X8_readNumber_10 : mv_in k_X8_readNumber 10 = some (.invokevirtual 78, 13, k_X8_isAtDigit, 1, 1190) := by unfold mv_in; rw [tb_X8_readNumber]; rfl
theorem r_X8_readNumber_13 : mv_in k_X8_readNumber 13 = some (.ifCond .eq 37, 16, 50, 0, 0) := by unfold mv_in; rw [tb_X8_readNumber]; rfl
theorem r_X8_readNumber_16 : mv_in k_X8_readNumber 16 = some (.bipush 10, 18, 0, 0, 0) := by unfold mv_in; rw [tb_X8_readNumber]; rfl
theorem r_X8_readNumber_18 : mv_in k_X8_readNumber 18 = some (.iload_n 2, 19, 0, 0, 0) := by unfold mv_in; rw [tb_X8_readNumber]; rfl
theorem r_X8_readNumber_19 : mv_in k_X8_readNumber 19 = some (.imul, 20, 0, 0, 0) := by unfold mv_in; rw [tb_X8_readNumber]; rfl
theorem r_X8_readNumber_20 : mv_in k_X8_readNumber 20 = some (.aload_n 0, 21, 0, 0, 0) := by unfold mv_in; rw [tb_X8_readNumber]; rfl
theorem r_X8_readNumber_21 : mv_in k_X8_readNumber 21 = some (.getfield 9, 24, 5, 0, 299) := by unfold mv_in; rw [tb_X8_readNumber]; rfl
theorem r_X8_readNumber_24 : mv_in k_X8_readNumber 24 = some (.aload_n 0, 25, 0, 0, 0) := by unfold mv_in; rw [tb_X8_readNumber]; rfl
theorem r_X8_readNumber_25 : mv_in k_X8_readNumber 25 = some (.getfield 19, 28, 5, 2, 302) := by unfold mv_in; rw [tb_X8_readNumber]; rfl
theorem r_X8_readNumber_28 : mv_in k_X8_readNumber 28 = some (.caload, 29, 0, 0, 0) := by unfold mv_in; rw [tb_X8_readNumber]; rfl
theorem r_X8_readNumber_29 : mv_in k_X8_readNumber 29 = some (.bipush 48, 31, 0, 0, 0) := by unfold mv_in; rw [tb_X8_readNumber]; rfl
theorem r_X8_readNumber_31 : mv_in k_X8_readNumber 31 = some (.isub, 32, 0, 0, 0) := by unfold mv_in; rw [tb_X8_readNumber]; rfl
theorem r_X8_readNumber_32 : mv_in k_X8_readNumber 32 = some (.iadd, 33, 0, 0, 0) := by unfold mv_in; rw [tb_X8_readNumber]; rfl
theorem r_X8_readNumber_33 : mv_in k_X8_readNumber 33 = some (.istore_n 2, 34, 0, 0, 0) := by unfold mv_in; rw [tb_X8_readNumber]; rfl
theorem r_X8_readNumber_34 : mv_in k_X8_readNumber 34 = some (.aload_n 0, 35, 0, 0, 0) := by unfold mv_in; rw [tb_X8_readNumber]; rfl
theorem r_X8_readNumber_35 : mv_in k_X8_readNumber 35 = some (.dup, 36, 0, 0, 0) := by unfold mv_in; rw [tb_X8_readNumber]; rfl
theorem r_X8_readNumber_36 : mv_in k_X8_readNumber 36 = some (.getfield 19, 39, 5, 2, 302) := by unfold mv_in; rw [tb_X8_readNumber]; rfl
theorem r_X8_readNumber_39 : mv_in k_X8_readNumber 39 = some (.iconst 1, 40, 0, 0, 0) := by unfold mv_in; rw [tb_X8_readNumber]; rfl
theorem r_X8_readNumber_40 : mv_in k_X8_readNumber 40 = some (.iadd, 41, 0, 0, 0) := by unfold mv_in; rw [tb_X8_readNumber]; rfl
theorem r_X8_readNumber_41 : mv_in k_X8_readNumber 41 = some (.putfield 19, 44, 5, 2, 302) := by unfold mv_in; rw [tb_X8_readNumber]; rfl
theorem r_X8_readNumber_44 : mv_in k_X8_readNumber 44 = some (.iinc 3 1, 47, 0, 0, 0) := by unfold mv_in; rw [tb_X8_readNumber]; rfl
theorem r_X8_readNumber_47 : mv_in k_X8_readNumber 47 = some (.goto (-43), 50, 4, 0, 0) := by unfold mv_in; rw [tb_X8_readNumber]; rfl
theorem r_X8_readNumber_50 : mv_in k_X8_readNumber 50 = some (.iload_n 3, 51, 0, 0, 0) := by unfold mv_in; rw [tb_X8_readNumber]; rfl
theorem r_X8_readNumber_51 : mv_in k_X8_readNumber 51 = some (.ifCond .eq 11, 54, 62, 0, 0) := by unfold mv_in; rw [tb_X8_readNumber]; rfl
theorem r_X8_readNumber_54 : mv_in k_X8_readNumber 54 = some (.aload_n 0, 55, 0, 0, 0) := by unfold mv_in; rw [tb_X8_readNumber]; rfl
theorem r_X8_readNumber_55 : mv_in k_X8_readNumber 55 = some (.getfield 35, 58, 5, 5, 308) := by unfold mv_in; rw [tb_X8_readNumber]; rfl
theorem r_X8_readNumber_58 : mv_in k_X8_readNumber 58 = some (.iconst 3, 59, 0, 0, 0) := by unfold mv_in; rw [tb_X8_readNumber]; rfl
theorem r_X8_readNumber_59 : mv_in k_X8_readNumber 59 = some (.if_icmp .lt 5, 62, 64, 0, 0) := by unfold mv_in; rw [tb_X8_readNumber]; rfl
theorem r_X8_readNumber_62 : mv_in k_X8_readNumber 62 = some (.iconst 0, 63, 0, 0, 0) := by unfold mv_in; rw [tb_X8_readNumber]; rfl
theorem r_X8_readNumber_63 : mv_in k_X8_readNumber 63 = some (.ireturn, 64, 1, 0, 0) := by unfold mv_in; rw [tb_X8_readNumber]; rfl
theorem r_X8_readNumber_64 : mv_in k_X8_readNumber 64 = some (.aload_n 0, 65, 0, 0, 0) := by unfold mv_in; rw [tb_X8_readNumber]; rfl
theorem r_X8_readNumber_65 : mv_in k_X8_readNumber 65 = some (.getfield 31, 68, 5, 4, 306) := by unfold mv_in; rw [tb_X8_readNumber]; rfl
theorem r_X8_readNumber_68 : mv_in k_X8_readNumber 68 = some (.aload_n 0, 69, 0, 0, 0) := by unfold mv_in; rw [tb_X8_readNumber]; rfl
theorem r_X8_readNumber_69 : mv_in k_X8_readNumber 69 = some (.getfield 35, 72, 5, 5, 308) := by unfold mv_in; rw [tb_X8_readNumber]; rfl
theorem r_X8_readNumber_72 : mv_in k_X8_readNumber 72 = some (.iload_n 2, 73, 0, 0, 0) := by unfold mv_in; rw [tb_X8_readNumber]; rfl
theorem r_X8_readNumber_73 : mv_in k_X8_readNumber 73 = some (.iastore, 74, 0, 0, 0) := by unfold mv_in; rw [tb_X8_readNumber]; rfl
theorem r_X8_readNumber_74 : mv_in k_X8_readNumber 74 = some (.aload_n 0, 75, 0, 0, 0) := by unfold mv_in; rw [tb_X8_readNumber]; rfl
theorem r_X8_readNumber_75 : mv_in k_X8_readNumber 75 = some (.dup, 76, 0, 0, 0) := by unfold mv_in; rw [tb_X8_readNumber]; rfl
theorem r_X8_readNumber_76 : mv_in k_X8_readNumber 76 = some (.getfield 35, 79, 5, 5, 308) := by unfold mv_in; rw [tb_X8_readNumber]; rfl
theorem r_X8_readNumber_79 : mv_in k_X8_readNumber 79 = some (.iconst 1, 80, 0, 0, 0) := by unfold mv_in; rw [tb_X8_readNumber]; rfl
theorem r_X8_readNumber_80 : mv_in k_X8_readNumber 80 = some (.iadd, 81, 0, 0, 0) := by unfold mv_in; rw [tb_X8_readNumber]; rfl
theorem r_X8_readNumber_81 : mv_in k_X8_readNumber 81 = some (.putfield 35, 84, 5, 5, 308) := by unfold mv_in; rw [tb_X8_readNumber]; rfl
theorem r_X8_readNumber_84 : mv_in k_X8_readNumber 84 = some (.iconst 1, 85, 0, 0, 0) := by unfold mv_in; rw [tb_X8_readNumber]; rfl
theorem r_X8_readNumber_85 : mv_in k_X8_readNumber 85 = some (.ireturn, 86, 1, 0, 0) := by unfold mv_in; rw [tb_X8_readNumber]; rfl
theorem nh_X8_readNumber : mv_nh k_X8_readNumber = true := rfl
theorem tb_X8_readPart : mv_tb k_X8_readPart = t_X8_readPart := rfl
theorem r_X8_readPart_0 : mv_in k_X8_readPart 0 = some (.iload_n 1, 1, 0, 0, 0) := by unfold mv_in; rw [tb_X8_readPart]; rfl
theorem r_X8_readPart_1 : mv_in k_X8_readPart 1 = some (.bipush 68, 3, 0, 0, 0) := by unfold mv_in; rw [tb_X8_readPart]; rfl
theorem r_X8_readPart_3 : mv_in k_X8_readPart 3 = some (.if_icmp .ne 9, 6, 12, 0, 0) := by unfold mv_in; rw [tb_X8_readPart]; rfl
theorem r_X8_readPart_6 : mv_in k_X8_readPart 6 = some (.aload_n 0, 7, 0, 0, 0) := by unfold mv_in; rw [tb_X8_readPart]; rfl
theorem r_X8_readPart_7 : mv_in k_X8_readPart 7 = some (.iconst 1, 8, 0, 0, 0) := by unfold mv_in; rw [tb_X8_readPart]; rfl
theorem r_X8_readPart_8 : mv_in k_X8_readPart 8 = some (.invokevirtual 74, 11, k_X8_readNumber, 2, 1186) := by unfold mv_in; rw [tb_X8_readPart]; rfl
theorem r_X8_readPart_11 : mv_in k_X8_readPart 11 = some (.ireturn, 12, 1, 0, 0) := by unfold mv_in; rw [tb_X8_readPart]; rfl
theorem r_X8_readPart_12 : mv_in k_X8_readPart 12 = some (.iload_n 1, 13, 0, 0, 0) := by unfold mv_in; rw [tb_X8_readPart]; rfl
theorem r_X8_readPart_13 : mv_in k_X8_readPart 13 = some (.bipush 78, 15, 0, 0, 0) := by unfold mv_in; rw [tb_X8_readPart]; rfl
theorem r_X8_readPart_15 : mv_in k_X8_readPart 15 = some (.if_icmp .ne 9, 18, 24, 0, 0) := by unfold mv_in; rw [tb_X8_readPart]; rfl
theorem r_X8_readPart_18 : mv_in k_X8_readPart 18 = some (.aload_n 0, 19, 0, 0, 0) := by unfold mv_in; rw [tb_X8_readPart]; rfl
theorem r_X8_readPart_19 : mv_in k_X8_readPart 19 = some (.iconst 2, 20, 0, 0, 0) := by unfold mv_in; rw [tb_X8_readPart]; rfl
theorem r_X8_readPart_20 : mv_in k_X8_readPart 20 = some (.invokevirtual 74, 23, k_X8_readNumber, 2, 1186) := by unfold mv_in; rw [tb_X8_readPart]; rfl
theorem r_X8_readPart_23 : mv_in k_X8_readPart 23 = some (.ireturn, 24, 1, 0, 0) := by unfold mv_in; rw [tb_X8_readPart]; rfl
theorem r_X8_readPart_24 : mv_in k_X8_readPart 24 = some (.aload_n 0, 25, 0, 0, 0) := by unfold mv_in; rw [tb_X8_readPart]; rfl
theorem r_X8_readPart_25 : mv_in k_X8_readPart 25 = some (.iload_n 1, 26, 0, 0, 0) := by unfold mv_in; rw [tb_X8_readPart]; rfl
theorem r_X8_readPart_26 : mv_in k_X8_readPart 26 = some (.invokevirtual 42, 29, k_X8_readSign, 2, 1120) := by unfold mv_in; rw [tb_X8_readPart]; rfl
theorem r_X8_readPart_29 : mv_in k_X8_readPart 29 = some (.ireturn, 30, 1, 0, 0) := by unfold mv_in; rw [tb_X8_readPart]; rfl
theorem nh_X8_readPart : mv_nh k_X8_readPart = true := rfl
theorem tb_X8_readPattern : mv_tb k_X8_readPattern = t_X8_readPattern := rfl
theorem r_X8_readPattern_0 : mv_in k_X8_readPattern 0 = some (.aload_n 0, 1, 0, 0, 0) := by unfold mv_in; rw [tb_X8_readPattern]; rfl
theorem r_X8_readPattern_1 : mv_in k_X8_readPattern 1 = some (.iconst 0, 2, 0, 0, 0) := by unfold mv_in; rw [tb_X8_readPattern]; rfl
theorem r_X8_readPattern_2 : mv_in k_X8_readPattern 2 = some (.putfield 35, 5, 5, 5, 308) := by unfold mv_in; rw [tb_X8_readPattern]; rfl
theorem r_X8_readPattern_5 : mv_in k_X8_readPattern 5 = some (.iconst 0, 6, 0, 0, 0) := by unfold mv_in; rw [tb_X8_readPattern]; rfl
theorem r_X8_readPattern_6 : mv_in k_X8_readPattern 6 = some (.istore_n 2, 7, 0, 0, 0) := by unfold mv_in; rw [tb_X8_readPattern]; rfl
theorem r_X8_readPattern_7 : mv_in k_X8_readPattern 7 = some (.iload_n 2, 8, 0, 0, 0) := by unfold mv_in; rw [tb_X8_readPattern]; rfl
theorem r_X8_readPattern_8 : mv_in k_X8_readPattern 8 = some (.aload_n 1, 9, 0, 0, 0) := by unfold mv_in; rw [tb_X8_readPattern]; rfl
theorem r_X8_readPattern_9 : mv_in k_X8_readPattern 9 = some (.invokevirtual 68, 12, 903, 1, 1174) := by unfold mv_in; rw [tb_X8_readPattern]; rfl
theorem r_X8_readPattern_12 : mv_in k_X8_readPattern 12 = some (.if_icmp .ge 23, 15, 35, 0, 0) := by unfold mv_in; rw [tb_X8_readPattern]; rfl
theorem r_X8_readPattern_15 : mv_in k_X8_readPattern 15 = some (.aload_n 0, 16, 0, 0, 0) := by unfold mv_in; rw [tb_X8_readPattern]; rfl
theorem r_X8_readPattern_16 : mv_in k_X8_readPattern 16 = some (.aload_n 1, 17, 0, 0, 0) := by unfold mv_in; rw [tb_X8_readPattern]; rfl
theorem r_X8_readPattern_17 : mv_in k_X8_readPattern 17 = some (.iload_n 2, 18, 0, 0, 0) := by unfold mv_in; rw [tb_X8_readPattern]; rfl
theorem r_X8_readPattern_18 : mv_in k_X8_readPattern 18 = some (.invokevirtual 62, 21, 904, 2, 1130) := by unfold mv_in; rw [tb_X8_readPattern]; rfl
theorem r_X8_readPattern_21 : mv_in k_X8_readPattern 21 = some (.invokevirtual 71, 24, k_X8_readPart, 2, 1182) := by unfold mv_in; rw [tb_X8_readPattern]; rfl
theorem r_X8_readPattern_24 : mv_in k_X8_readPattern 24 = some (.ifCond .ne 5, 27, 29, 0, 0) := by unfold mv_in; rw [tb_X8_readPattern]; rfl
theorem r_X8_readPattern_27 : mv_in k_X8_readPattern 27 = some (.iconst 0, 28, 0, 0, 0) := by unfold mv_in; rw [tb_X8_readPattern]; rfl
theorem r_X8_readPattern_28 : mv_in k_X8_readPattern 28 = some (.ireturn, 29, 1, 0, 0) := by unfold mv_in; rw [tb_X8_readPattern]; rfl
theorem r_X8_readPattern_29 : mv_in k_X8_readPattern 29 = some (.iinc 2 1, 32, 0, 0, 0) := by unfold mv_in; rw [tb_X8_readPattern]; rfl
theorem r_X8_readPattern_32 : mv_in k_X8_readPattern 32 = some (.goto (-25), 35, 7, 0, 0) := by unfold mv_in; rw [tb_X8_readPattern]; rfl
theorem r_X8_readPattern_35 : mv_in k_X8_readPattern 35 = some (.iconst 1, 36, 0, 0, 0) := by unfold mv_in; rw [tb_X8_readPattern]; rfl
theorem r_X8_readPattern_36 : mv_in k_X8_readPattern 36 = some (.ireturn, 37, 1, 0, 0) := by unfold mv_in; rw [tb_X8_readPattern]; rfl
theorem nh_X8_readPattern : mv_nh k_X8_readPattern = true := rfl
theorem tb_X8_commandAtPosition : mv_tb k_X8_commandAtPosition = t_X8_commandAtPosition := rfl
theorem r_X8_commandAtPosition_0 : mv_in k_X8_commandAtPosition 0 = some (.aload_n 0, 1, 0, 0, 0) := by unfold mv_in; rw [tb_X8_commandAtPosition]; rfl
theorem r_X8_commandAtPosition_1 : mv_in k_X8_commandAtPosition 1 = some (.getfield 19, 4, 5, 2, 302) := by unfold mv_in; rw [tb_X8_commandAtPosition]; rfl
theorem r_X8_commandAtPosition_4 : mv_in k_X8_commandAtPosition 4 = some (.aload_n 0, 5, 0, 0, 0) := by unfold mv_in; rw [tb_X8_commandAtPosition]; rfl
theorem r_X8_commandAtPosition_5 : mv_in k_X8_commandAtPosition 5 = some (.getfield 15, 8, 5, 1, 300) := by unfold mv_in; rw [tb_X8_commandAtPosition]; rfl
theorem r_X8_commandAtPosition_8 : mv_in k_X8_commandAtPosition 8 = some (.if_icmp .lt 5, 11, 13, 0, 0) := by unfold mv_in; rw [tb_X8_commandAtPosition]; rfl
theorem r_X8_commandAtPosition_11 : mv_in k_X8_commandAtPosition 11 = some (.aconst_null, 12, 0, 0, 0) := by unfold mv_in; rw [tb_X8_commandAtPosition]; rfl
theorem r_X8_commandAtPosition_12 : mv_in k_X8_commandAtPosition 12 = some (.areturn, 13, 0, 0, 0) := by unfold mv_in; rw [tb_X8_commandAtPosition]; rfl
theorem r_X8_commandAtPosition_13 : mv_in k_X8_commandAtPosition 13 = some (.iconst 0, 14, 0, 0, 0) := by unfold mv_in; rw [tb_X8_commandAtPosition]; rfl
theorem r_X8_commandAtPosition_14 : mv_in k_X8_commandAtPosition 14 = some (.istore_n 1, 15, 0, 0, 0) := by unfold mv_in; rw [tb_X8_commandAtPosition]; rfl
theorem r_X8_commandAtPosition_15 : mv_in k_X8_commandAtPosition 15 = some (.iload_n 1, 16, 0, 0, 0) := by unfold mv_in; rw [tb_X8_commandAtPosition]; rfl
theorem r_X8_commandAtPosition_16 : mv_in k_X8_commandAtPosition 16 = some (.getstatic 58, 19, 1020, 0, 1128) := by unfold mv_in; rw [tb_X8_commandAtPosition]; rfl
theorem r_X8_commandAtPosition_19 : mv_in k_X8_commandAtPosition 19 = some (.arraylength, 20, 0, 0, 0) := by unfold mv_in; rw [tb_X8_commandAtPosition]; rfl
theorem r_X8_commandAtPosition_20 : mv_in k_X8_commandAtPosition 20 = some (.if_icmp .ge 39, 23, 59, 0, 0) := by unfold mv_in; rw [tb_X8_commandAtPosition]; rfl
theorem r_X8_commandAtPosition_23 : mv_in k_X8_commandAtPosition 23 = some (.getstatic 58, 26, 1020, 0, 1128) := by unfold mv_in; rw [tb_X8_commandAtPosition]; rfl
theorem r_X8_commandAtPosition_26 : mv_in k_X8_commandAtPosition 26 = some (.iload_n 1, 27, 0, 0, 0) := by unfold mv_in; rw [tb_X8_commandAtPosition]; rfl
theorem r_X8_commandAtPosition_27 : mv_in k_X8_commandAtPosition 27 = some (.aaload, 28, 0, 0, 0) := by unfold mv_in; rw [tb_X8_commandAtPosition]; rfl
theorem r_X8_commandAtPosition_28 : mv_in k_X8_commandAtPosition 28 = some (.getfield 50, 31, 30, 0, 1706) := by unfold mv_in; rw [tb_X8_commandAtPosition]; rfl
theorem r_X8_commandAtPosition_31 : mv_in k_X8_commandAtPosition 31 = some (.iconst 0, 32, 0, 0, 0) := by unfold mv_in; rw [tb_X8_commandAtPosition]; rfl
theorem r_X8_commandAtPosition_32 : mv_in k_X8_commandAtPosition 32 = some (.invokevirtual 62, 35, 904, 2, 1130) := by unfold mv_in; rw [tb_X8_commandAtPosition]; rfl
theorem r_X8_commandAtPosition_35 : mv_in k_X8_commandAtPosition 35 = some (.aload_n 0, 36, 0, 0, 0) := by unfold mv_in; rw [tb_X8_commandAtPosition]; rfl
theorem r_X8_commandAtPosition_36 : mv_in k_X8_commandAtPosition 36 = some (.getfield 9, 39, 5, 0, 299) := by unfold mv_in; rw [tb_X8_commandAtPosition]; rfl
theorem r_X8_commandAtPosition_39 : mv_in k_X8_commandAtPosition 39 = some (.aload_n 0, 40, 0, 0, 0) := by unfold mv_in; rw [tb_X8_commandAtPosition]; rfl
theorem r_X8_commandAtPosition_40 : mv_in k_X8_commandAtPosition 40 = some (.getfield 19, 43, 5, 2, 302) := by unfold mv_in; rw [tb_X8_commandAtPosition]; rfl
theorem r_X8_commandAtPosition_43 : mv_in k_X8_commandAtPosition 43 = some (.caload, 44, 0, 0, 0) := by unfold mv_in; rw [tb_X8_commandAtPosition]; rfl
theorem r_X8_commandAtPosition_44 : mv_in k_X8_commandAtPosition 44 = some (.if_icmp .ne 9, 47, 53, 0, 0) := by unfold mv_in; rw [tb_X8_commandAtPosition]; rfl
theorem r_X8_commandAtPosition_47 : mv_in k_X8_commandAtPosition 47 = some (.getstatic 58, 50, 1020, 0, 1128) := by unfold mv_in; rw [tb_X8_commandAtPosition]; rfl
theorem r_X8_commandAtPosition_50 : mv_in k_X8_commandAtPosition 50 = some (.iload_n 1, 51, 0, 0, 0) := by unfold mv_in; rw [tb_X8_commandAtPosition]; rfl
theorem r_X8_commandAtPosition_51 : mv_in k_X8_commandAtPosition 51 = some (.aaload, 52, 0, 0, 0) := by unfold mv_in; rw [tb_X8_commandAtPosition]; rfl
theorem r_X8_commandAtPosition_52 : mv_in k_X8_commandAtPosition 52 = some (.areturn, 53, 0, 0, 0) := by unfold mv_in; rw [tb_X8_commandAtPosition]; rfl
theorem r_X8_commandAtPosition_53 : mv_in k_X8_commandAtPosition 53 = some (.iinc 1 1, 56, 0, 0, 0) := by unfold mv_in; rw [tb_X8_commandAtPosition]; rfl
theorem r_X8_commandAtPosition_56 : mv_in k_X8_commandAtPosition 56 = some (.goto (-41), 59, 15, 0, 0) := by unfold mv_in; rw [tb_X8_commandAtPosition]; rfl
theorem r_X8_commandAtPosition_59 : mv_in k_X8_commandAtPosition 59 = some (.aconst_null, 60, 0, 0, 0) := by unfold mv_in; rw [tb_X8_commandAtPosition]; rfl
theorem r_X8_commandAtPosition_60 : mv_in k_X8_commandAtPosition 60 = some (.areturn, 61, 0, 0, 0) := by unfold mv_in; rw [tb_X8_commandAtPosition]; rfl
theorem nh_X8_commandAtPosition : mv_nh k_X8_commandAtPosition = true := rfl
theorem tb_X8_readCommand : mv_tb k_X8_readCommand = t_X8_readCommand := rfl
theorem r_X8_readCommand_0 : mv_in k_X8_readCommand 0 = some (.aload_n 0, 1, 0, 0, 0) := by unfold mv_in; rw [tb_X8_readCommand]; rfl
theorem r_X8_readCommand_1 : mv_in k_X8_readCommand 1 = some (.getfield 19, 4, 5, 2, 302) := by unfold mv_in; rw [tb_X8_readCommand]; rfl
theorem r_X8_readCommand_4 : mv_in k_X8_readCommand 4 = some (.ifCond .le 14, 7, 18, 0, 0) := by unfold mv_in; rw [tb_X8_readCommand]; rfl
theorem r_X8_readCommand_7 : mv_in k_X8_readCommand 7 = some (.aload_n 0, 8, 0, 0, 0) := by unfold mv_in; rw [tb_X8_readCommand]; rfl
theorem r_X8_readCommand_8 : mv_in k_X8_readCommand 8 = some (.bipush 59, 10, 0, 0, 0) := by unfold mv_in; rw [tb_X8_readCommand]; rfl
theorem r_X8_readCommand_10 : mv_in k_X8_readCommand 10 = some (.invokevirtual 42, 13, k_X8_readSign, 2, 1120) := by unfold mv_in; rw [tb_X8_readCommand]; rfl
theorem r_X8_readCommand_13 : mv_in k_X8_readCommand 13 = some (.ifCond .ne 5, 16, 18, 0, 0) := by unfold mv_in; rw [tb_X8_readCommand]; rfl
theorem r_X8_readCommand_16 : mv_in k_X8_readCommand 16 = some (.iconst 0, 17, 0, 0, 0) := by unfold mv_in; rw [tb_X8_readCommand]; rfl
theorem r_X8_readCommand_17 : mv_in k_X8_readCommand 17 = some (.ireturn, 18, 1, 0, 0) := by unfold mv_in; rw [tb_X8_readCommand]; rfl
theorem r_X8_readCommand_18 : mv_in k_X8_readCommand 18 = some (.aload_n 0, 19, 0, 0, 0) := by unfold mv_in; rw [tb_X8_readCommand]; rfl
theorem r_X8_readCommand_19 : mv_in k_X8_readCommand 19 = some (.invokevirtual 46, 22, k_X8_commandAtPosition, 1, 1124) := by unfold mv_in; rw [tb_X8_readCommand]; rfl
theorem r_X8_readCommand_22 : mv_in k_X8_readCommand 22 = some (.astore_n 1, 23, 0, 0, 0) := by unfold mv_in; rw [tb_X8_readCommand]; rfl
theorem r_X8_readCommand_23 : mv_in k_X8_readCommand 23 = some (.aload_n 1, 24, 0, 0, 0) := by unfold mv_in; rw [tb_X8_readCommand]; rfl
theorem r_X8_readCommand_24 : mv_in k_X8_readCommand 24 = some (.ifnonnull 5, 27, 29, 0, 0) := by unfold mv_in; rw [tb_X8_readCommand]; rfl
theorem r_X8_readCommand_27 : mv_in k_X8_readCommand 27 = some (.iconst 0, 28, 0, 0, 0) := by unfold mv_in; rw [tb_X8_readCommand]; rfl
theorem r_X8_readCommand_28 : mv_in k_X8_readCommand 28 = some (.ireturn, 29, 1, 0, 0) := by unfold mv_in; rw [tb_X8_readCommand]; rfl
theorem r_X8_readCommand_29 : mv_in k_X8_readCommand 29 = some (.aload_n 0, 30, 0, 0, 0) := by unfold mv_in; rw [tb_X8_readCommand]; rfl
theorem r_X8_readCommand_30 : mv_in k_X8_readCommand 30 = some (.aload_n 1, 31, 0, 0, 0) := by unfold mv_in; rw [tb_X8_readCommand]; rfl
theorem r_X8_readCommand_31 : mv_in k_X8_readCommand 31 = some (.putfield 28, 34, 5, 3, 304) := by unfold mv_in; rw [tb_X8_readCommand]; rfl
theorem r_X8_readCommand_34 : mv_in k_X8_readCommand 34 = some (.aload_n 0, 35, 0, 0, 0) := by unfold mv_in; rw [tb_X8_readCommand]; rfl
theorem r_X8_readCommand_35 : mv_in k_X8_readCommand 35 = some (.aload_n 1, 36, 0, 0, 0) := by unfold mv_in; rw [tb_X8_readCommand]; rfl
theorem r_X8_readCommand_36 : mv_in k_X8_readCommand 36 = some (.getfield 50, 39, 30, 0, 1706) := by unfold mv_in; rw [tb_X8_readCommand]; rfl
theorem r_X8_readCommand_39 : mv_in k_X8_readCommand 39 = some (.invokevirtual 54, 42, k_X8_readPattern, 2, 1170) := by unfold mv_in; rw [tb_X8_readCommand]; rfl
theorem r_X8_readCommand_42 : mv_in k_X8_readCommand 42 = some (.ireturn, 43, 1, 0, 0) := by unfold mv_in; rw [tb_X8_readCommand]; rfl
theorem nh_X8_readCommand : mv_nh k_X8_readCommand = true := rfl
theorem tb_X8_countCommands : mv_tb k_X8_countCommands = t_X8_countCommands := rfl
theorem r_X8_countCommands_0 : mv_in k_X8_countCommands 0 = some (.aload_n 0, 1, 0, 0, 0) := by unfold mv_in; rw [tb_X8_countCommands]; rfl
theorem r_X8_countCommands_1 : mv_in k_X8_countCommands 1 = some (.iconst 0, 2, 0, 0, 0) := by unfold mv_in; rw [tb_X8_countCommands]; rfl
theorem r_X8_countCommands_2 : mv_in k_X8_countCommands 2 = some (.putfield 19, 5, 5, 2, 302) := by unfold mv_in; rw [tb_X8_countCommands]; rfl
theorem r_X8_countCommands_5 : mv_in k_X8_countCommands 5 = some (.iconst 1, 6, 0, 0, 0) := by unfold mv_in; rw [tb_X8_countCommands]; rfl
theorem r_X8_countCommands_6 : mv_in k_X8_countCommands 6 = some (.istore_n 1, 7, 0, 0, 0) := by unfold mv_in; rw [tb_X8_countCommands]; rfl
theorem r_X8_countCommands_7 : mv_in k_X8_countCommands 7 = some (.iload_n 1, 8, 0, 0, 0) := by unfold mv_in; rw [tb_X8_countCommands]; rfl
theorem r_X8_countCommands_8 : mv_in k_X8_countCommands 8 = some (.bipush 60, 10, 0, 0, 0) := by unfold mv_in; rw [tb_X8_countCommands]; rfl
theorem r_X8_countCommands_10 : mv_in k_X8_countCommands 10 = some (.if_icmp .gt 31, 13, 41, 0, 0) := by unfold mv_in; rw [tb_X8_countCommands]; rfl
theorem r_X8_countCommands_13 : mv_in k_X8_countCommands 13 = some (.aload_n 0, 14, 0, 0, 0) := by unfold mv_in; rw [tb_X8_countCommands]; rfl
theorem r_X8_countCommands_14 : mv_in k_X8_countCommands 14 = some (.invokevirtual 38, 17, k_X8_readCommand, 1, 1116) := by unfold mv_in; rw [tb_X8_countCommands]; rfl
theorem r_X8_countCommands_17 : mv_in k_X8_countCommands 17 = some (.ifCond .ne 5, 20, 22, 0, 0) := by unfold mv_in; rw [tb_X8_countCommands]; rfl
theorem r_X8_countCommands_20 : mv_in k_X8_countCommands 20 = some (.iconst (-1), 21, 0, 0, 0) := by unfold mv_in; rw [tb_X8_countCommands]; rfl
theorem r_X8_countCommands_21 : mv_in k_X8_countCommands 21 = some (.ireturn, 22, 0, 0, 0) := by unfold mv_in; rw [tb_X8_countCommands]; rfl
theorem r_X8_countCommands_22 : mv_in k_X8_countCommands 22 = some (.aload_n 0, 23, 0, 0, 0) := by unfold mv_in; rw [tb_X8_countCommands]; rfl
theorem r_X8_countCommands_23 : mv_in k_X8_countCommands 23 = some (.getfield 19, 26, 5, 2, 302) := by unfold mv_in; rw [tb_X8_countCommands]; rfl
theorem r_X8_countCommands_26 : mv_in k_X8_countCommands 26 = some (.aload_n 0, 27, 0, 0, 0) := by unfold mv_in; rw [tb_X8_countCommands]; rfl
theorem r_X8_countCommands_27 : mv_in k_X8_countCommands 27 = some (.getfield 15, 30, 5, 1, 300) := by unfold mv_in; rw [tb_X8_countCommands]; rfl
theorem r_X8_countCommands_30 : mv_in k_X8_countCommands 30 = some (.if_icmp .ne 5, 33, 35, 0, 0) := by unfold mv_in; rw [tb_X8_countCommands]; rfl
theorem r_X8_countCommands_33 : mv_in k_X8_countCommands 33 = some (.iload_n 1, 34, 0, 0, 0) := by unfold mv_in; rw [tb_X8_countCommands]; rfl
theorem r_X8_countCommands_34 : mv_in k_X8_countCommands 34 = some (.ireturn, 35, 0, 0, 0) := by unfold mv_in; rw [tb_X8_countCommands]; rfl
theorem r_X8_countCommands_35 : mv_in k_X8_countCommands 35 = some (.iinc 1 1, 38, 0, 0, 0) := by unfold mv_in; rw [tb_X8_countCommands]; rfl
theorem r_X8_countCommands_38 : mv_in k_X8_countCommands 38 = some (.goto (-31), 41, 7, 0, 0) := by unfold mv_in; rw [tb_X8_countCommands]; rfl
theorem r_X8_countCommands_41 : mv_in k_X8_countCommands 41 = some (.iconst (-1), 42, 0, 0, 0) := by unfold mv_in; rw [tb_X8_countCommands]; rfl
theorem r_X8_countCommands_42 : mv_in k_X8_countCommands 42 = some (.ireturn, 43, 0, 0, 0) := by unfold mv_in; rw [tb_X8_countCommands]; rfl
theorem nh_X8_countCommands : mv_nh k_X8_countCommands = true := rfl
section KV
variable {L : Nat} {xs : Nat → Int32}
theorem kv_X8_take {v0 : Int32} {q nx w : Nat} {ls : mv_V} {st : List Value} {t : Nat} {h : mv_H} : mv_stp L xs (.invokevirtual q, nx, k_X8_take, 2, w) ls (.int v0 :: .ref 137 :: st) (t, 149, h) = if mv_cs st ≤ 8 then some (.inr (.inr (k_X8_take, [.ref 137, .int v0], st))) else none := by
  exact cl_any (nx := nx) (ls := ls) (kk := 1) (as := [.ref 137, .int v0]) (by decide) rfl rfl (.inr ((by decide : mv_is 149 137 5 = true)))
theorem kv_X8_isAtDigit  {q nx w : Nat} {ls : mv_V} {st : List Value} {t : Nat} {h : mv_H} : mv_stp L xs (.invokevirtual q, nx, k_X8_isAtDigit, 1, w) ls (.ref 137 :: st) (t, 149, h) = if mv_cs st ≤ 8 then some (.inr (.inr (k_X8_isAtDigit, [.ref 137], st))) else none := by
  exact cl_any (nx := nx) (ls := ls) (kk := 1) (as := [.ref 137]) (by decide) rfl rfl (.inr ((by decide : mv_is 149 137 5 = true)))
theorem kv_X8_readSign {v0 : Int32} {q nx w : Nat} {ls : mv_V} {st : List Value} {t : Nat} {h : mv_H} : mv_stp L xs (.invokevirtual q, nx, k_X8_readSign, 2, w) ls (.int v0 :: .ref 137 :: st) (t, 149, h) = if mv_cs st ≤ 8 then some (.inr (.inr (k_X8_readSign, [.ref 137, .int v0], st))) else none := by
  exact cl_any (nx := nx) (ls := ls) (kk := 1) (as := [.ref 137, .int v0]) (by decide) rfl rfl (.inr ((by decide : mv_is 149 137 5 = true)))
theorem kv_X8_readNumber {v0 : Int32} {q nx w : Nat} {ls : mv_V} {st : List Value} {t : Nat} {h : mv_H} : mv_stp L xs (.invokevirtual q, nx, k_X8_readNumber, 2, w) ls (.int v0 :: .ref 137 :: st) (t, 149, h) = if mv_cs st ≤ 8 then some (.inr (.inr (k_X8_readNumber, [.ref 137, .int v0], st))) else none := by
  exact cl_any (nx := nx) (ls := ls) (kk := 1) (as := [.ref 137, .int v0]) (by decide) rfl rfl (.inr ((by decide : mv_is 149 137 5 = true)))
theorem kv_X8_readPart {v0 : Int32} {q nx w : Nat} {ls : mv_V} {st : List Value} {t : Nat} {h : mv_H} : mv_stp L xs (.invokevirtual q, nx, k_X8_readPart, 2, w) ls (.int v0 :: .ref 137 :: st) (t, 149, h) = if mv_cs st ≤ 8 then some (.inr (.inr (k_X8_readPart, [.ref 137, .int v0], st))) else none := by
  exact cl_any (nx := nx) (ls := ls) (kk := 1) (as := [.ref 137, .int v0]) (by decide) rfl rfl (.inr ((by decide : mv_is 149 137 5 = true)))
theorem kv_X8_readPattern {v0 : Nat} {q nx w : Nat} {ls : mv_V} {st : List Value} {t : Nat} {h : mv_H} : mv_stp L xs (.invokevirtual q, nx, k_X8_readPattern, 2, w) ls (.ref v0 :: .ref 137 :: st) (t, 149, h) = if mv_cs st ≤ 8 then some (.inr (.inr (k_X8_readPattern, [.ref 137, .ref v0], st))) else none := by
  exact cl_any (nx := nx) (ls := ls) (kk := 1) (as := [.ref 137, .ref v0]) (by decide) rfl rfl (.inr ((by decide : mv_is 149 137 5 = true)))
theorem kv_X8_commandAtPosition  {q nx w : Nat} {ls : mv_V} {st : List Value} {t : Nat} {h : mv_H} : mv_stp L xs (.invokevirtual q, nx, k_X8_commandAtPosition, 1, w) ls (.ref 137 :: st) (t, 149, h) = if mv_cs st ≤ 8 then some (.inr (.inr (k_X8_commandAtPosition, [.ref 137], st))) else none := by
  exact cl_any (nx := nx) (ls := ls) (kk := 1) (as := [.ref 137]) (by decide) rfl rfl (.inr ((by decide : mv_is 149 137 5 = true)))
theorem kv_X8_readCommand  {q nx w : Nat} {ls : mv_V} {st : List Value} {t : Nat} {h : mv_H} : mv_stp L xs (.invokevirtual q, nx, k_X8_readCommand, 1, w) ls (.ref 137 :: st) (t, 149, h) = if mv_cs st ≤ 8 then some (.inr (.inr (k_X8_readCommand, [.ref 137], st))) else none := by
  exact cl_any (nx := nx) (ls := ls) (kk := 1) (as := [.ref 137]) (by decide) rfl rfl (.inr ((by decide : mv_is 149 137 5 = true)))
theorem kv_X8_countCommands  {q nx w : Nat} {ls : mv_V} {st : List Value} {t : Nat} {h : mv_H} : mv_stp L xs (.invokevirtual q, nx, k_X8_countCommands, 1, w) ls (.ref 137 :: st) (t, 149, h) = if mv_cs st ≤ 8 then some (.inr (.inr (k_X8_countCommands, [.ref 137], st))) else none := by
  exact cl_any (nx := nx) (ls := ls) (kk := 1) (as := [.ref 137]) (by decide) rfl rfl (.inr ((by decide : mv_is 149 137 5 = true)))
end KV
/-- position and number of arguments -/
def zFk (F : Int → Int) (p k : Int) (j : Int) : Int := if j = 2 then p else if j = 5 then k else F j
theorem zFk_1 (F : Int → Int) (p k : Int) : zFk F p k 1 = F 1 := rfl
theorem zFk_2 (F : Int → Int) (p k : Int) : zFk F p k 2 = p := rfl
theorem zFk_5 (F : Int → Int) (p k : Int) : zFk F p k 5 = k := rfl
def z8 (T : zT) (c : Nat) (p k : Int) (A : Int → Int) : zT := (fun o => if o = 137 then zFk (T.1 137) p k else if o = 139 then A else T.1 o, c, T.2.2)
theorem z8_137 (T : zT) (c : Nat) (p k : Int) (A : Int → Int) : (z8 T c p k A).1 137 = zFk (T.1 137) p k := rfl
theorem z8_139 (T : zT) (c : Nat) (p k : Int) (A : Int → Int) : (z8 T c p k A).1 139 = A := rfl
theorem z8_138 (T : zT) (c : Nat) (p k : Int) (A : Int → Int) : (z8 T c p k A).1 138 = T.1 138 := rfl
theorem z8_p (T : zT) (c : Nat) (p k q : Int) (A : Int → Int) : sD (z8 T c p k A) 137 (upR (zFk (T.1 137) p k) 2 q) = z8 T c q k A := by
  unfold sD z8
  congr 1
  funext o
  by_cases e : o = 137
  · subst e
    funext j
    simp only [if_true]
    unfold upR zFk
    split <;> rfl
  · simp only [if_neg e]
theorem z8_k (T : zT) (c : Nat) (p k q : Int) (A : Int → Int) : sD (z8 T c p k A) 137 (upR (zFk (T.1 137) p k) 5 q) = z8 T c p q A := by
  unfold sD z8
  congr 1
  funext o
  by_cases e : o = 137
  · subst e
    funext j
    simp only [if_true]
    unfold upR zFk
    by_cases e1 : j = 5
    · subst e1; rfl
    · simp only [if_neg e1]
  · simp only [if_neg e]
theorem z8_A (T : zT) (c : Nat) (p k : Int) (A B : Int → Int) : sD (z8 T c p k A) 139 B = z8 T c p k B := by
  unfold sD z8
  congr 1
  funext o
  by_cases e : o = 139
  · subst e; rfl
  · simp only [if_neg e]
theorem z8_c (T : zT) (c v : Nat) (p k : Int) (A : Int → Int) : ((z8 T c p k A).1, v, (z8 T c p k A).2.2) = z8 T v p k A := rfl
theorem z8_id (T : zT) : z8 T T.2.1 (T.1 137 2) (T.1 137 5) (T.1 139) = T := by
  unfold z8
  refine Prod.ext ?_ rfl
  funext o
  show (if o = 137 then zFk (T.1 137) (T.1 137 2) (T.1 137 5) else if o = 139 then T.1 139 else T.1 o) = T.1 o
  by_cases e : o = 137
  · subst e
    funext j
    simp only [if_true]
    unfold zFk
    by_cases e1 : j = 2
    · subst e1; rfl
    · rw [if_neg e1]
      by_cases e2 : j = 5
      · subst e2; rfl
      · rw [if_neg e2]
  · rw [if_neg e]
    by_cases e2 : o = 139
    · subst e2; rfl
    · rw [if_neg e2]
/-- the arguments read so far -/
def zAa (A : Int → Int) (as : List Int) (j : Int) : Int := if 0 ≤ j ∧ j < as.length then as.getD j.toNat 0 else A j
theorem zAa_nil (A : Int → Int) : zAa A [] = A := by
  funext j
  unfold zAa
  rw [if_neg]
  simp only [List.length_nil]
  omega
theorem zAa_snoc (A : Int → Int) (as : List Int) (v : Int) : upR (zAa A as) as.length v = zAa A (as ++ [v]) := by
  funext j
  have e : (as ++ [v]).length = as.length + 1 := by simp
  by_cases h : j = as.length
  · rw [upR_is _ _ h]
    unfold zAa
    rw [if_pos (by omega), h, Int.toNat_natCast, List.getD_eq_getElem?_getD, List.getElem?_append_right (by omega)]
    simp
  · rw [upR_ne _ _ h]
    unfold zAa
    by_cases q : 0 ≤ j ∧ j < as.length
    · rw [if_pos q, if_pos (by omega), List.getD_eq_getElem?_getD, List.getD_eq_getElem?_getD, List.getElem?_append_left (by omega)]
    · rw [if_neg q, if_neg (by omega)]
def zb2 (b : Bool) : Int := if b = true then 1 else 0
theorem zb2_t : zb2 true = 1 := rfl
theorem zb2_f : zb2 false = 0 := rfl
theorem zPat_cons (X : Int → Int) (len : Int) (c : Nat) (cs : List Nat) (p : Int) (as : List Int) : zPat X len (c :: cs) p as = if (zPat X len [c] p as).1 = true then zPat X len cs (zPat X len [c] p as).2.1 (zPat X len [c] p as).2.2 else zPat X len [c] p as := by
  rw [zPat, zPat]
  by_cases h1 : c = 68
  · simp only [if_pos h1]
    by_cases h2 : zDigB X len p = true
    · simp only [if_pos h2, zPat, if_true]
    · simp only [if_neg h2, Bool.false_eq_true, if_false]
  · simp only [if_neg h1]
    by_cases h1 : c = 78
    · simp only [if_pos h1]
      by_cases h2 : zDigB X len p = true
      · simp only [if_pos h2]
        by_cases h3 : zDigB X len (p + 1) = true
        · simp only [if_pos h3, zPat, if_true]
        · simp only [if_neg h3, zPat, if_true]
      · simp only [if_neg h2, Bool.false_eq_true, if_false]
    · simp only [if_neg h1]
      by_cases h2 : p < len ∧ X p = c
      · simp only [if_pos h2, zPat, if_true]
      · simp only [if_neg h2, Bool.false_eq_true, if_false]
section PR8
variable {L : Nat} {xs : Nat → Int32} {d t : Nat} {T : zT} {A : Int → Int} {c : Nat} {p k : Int}
section
variable {q nx a b w : Nat} {ls : mv_V} {st : List Value} {σ : mv_S}
theorem gs_cln : mv_stp L xs (.arraylength, nx, a, b, w) ls (.ref 1020 :: st) σ = some (.inl (nx, ls, .int (Int32.ofInt 8) :: st, σ)) := rfl
theorem gs_cld {i : Int} (h0 : 0 ≤ i) (h8 : i < 8) : mv_stp L xs (.aaload, nx, a, b, w) ls (.int (Int32.ofInt i) :: .ref 1020 :: st) σ = some (.inl (nx, ls, .ref (1000 + i.toNat) :: st, σ)) := by
  show mv_aa L xs nx ls (.int (Int32.ofInt i) :: .ref 1020 :: st) σ = _
  have h2 : mv_ix (Int32.ofInt i) 8 = true := oz_ix h0 (by omega) (by omega)
  have h3 := oz_nc h0 (by omega : i < 2147483648)
  have n1 : ¬ (1020 : Nat) < 149 := by decide
  have n2 : ¬ (1020 : Nat) = 1021 := by decide
  simp only [mv_aa, mv_al, n1, n2, false_and, if_false, if_true, h2, h3, and_self, mv_nx]
theorem gz_pat {k : Nat} (hk : k < 8) : mv_stp L xs (.getfield q, nx, 30, b, w) ls (.ref (1000 + k) :: st) σ = some (.inl (nx, ls, .ref (1030 + k) :: st, σ)) := by
  show (if 1000 ≤ 1000 + k ∧ 1000 + k < 1008 then mv_nx nx ls (.ref (1000 + k + 30) :: st) σ else none) = _
  rw [if_pos (by omega), show 1000 + k + 30 = 1030 + k by omega]
  rfl
theorem gz_len {k : Nat} (hk : k < 8) : mv_stp L xs (.invokevirtual q, nx, 903, b, w) ls (.ref (1030 + k) :: st) σ = if mv_cs st ≤ 8 then some (.inl (nx, ls, .int (Int32.ofInt ((mv_pat k).length : Nat)) :: st, σ)) else none := by
  show mv_call 1 903 b nx ls _ σ = _
  have h1 : 1030 ≤ 1030 + k ∧ 1030 + k < 1038 := by omega
  simp only [mv_call, mv_cs_eq, mv_nx, h1.1, h1.2, true_and, Nat.add_sub_cancel_left]
  rfl
theorem gz_chr {k : Nat} {i : Int} (hk : k < 8) (h0 : 0 ≤ i) (hi : i < (mv_pat k).length) : mv_stp L xs (.invokevirtual q, nx, 904, b, w) ls (.int (Int32.ofInt i) :: .ref (1030 + k) :: st) σ = if mv_cs st ≤ 8 then some (.inl (nx, ls, .int (Int32.ofInt ((mv_pat k).getD i.toNat 0 : Nat)) :: st, σ)) else none := by
  show mv_call 1 904 b nx ls _ σ = _
  have h1 : 1030 ≤ 1030 + k ∧ 1030 + k < 1038 := by omega
  have h9 : (mv_pat k).length < 2000 := by
    have h : ∀ k, k < 8 → (mv_pat k).length < 2000 := by decide
    exact h k hk
  have h2 := oz_ix h0 hi (by omega)
  simp only [mv_call, mv_cs_eq, mv_nx, h1.1, h1.2, true_and, Nat.add_sub_cancel_left, h2, and_true, oz_nc h0 (by omega : i < 2147483648)]
  rfl
end
theorem c_X8_take (hd : 1 ≤ d) {v : Int} (v0 : 0 ≤ v) (v1 : v < 65536) (h0 : 0 ≤ T.1 137 1) (h1 : T.1 137 1 < 60) : mv_cl L xs d k_X8_take [.ref 137, .int (Int32.ofInt v)] (t, 149, mz T) = some (.inl none, (t, 149, mz (sD (sD T 138 (upR (T.1 138) (T.1 137 1) v)) 137 (upR (T.1 137) 1 (T.1 137 1 + 1))))) := by
  obtain ⟨d, rfl⟩ : ∃ e, d = e + 1 := ⟨d - 1, by omega⟩
  apply mv_cl_of
  simp only [mv_il, Value.category, Nat.zero_add, Nat.reduceAdd]
  simp (disch := omega) only [mv_Ev_row r_X8_take_0, mv_Ev_row r_X8_take_1, mv_Ev_row r_X8_take_4, mv_Ev_row r_X8_take_6, mv_Ev_row r_X8_take_9, mv_Ev_row r_X8_take_10, mv_Ev_row r_X8_take_13, mv_Ev_row r_X8_take_14, mv_Ev_row r_X8_take_17, mv_Ev_row r_X8_take_18, mv_Ev_row r_X8_take_19, mv_Ev_row r_X8_take_20, mv_Ev_row r_X8_take_21, mv_Ev_row r_X8_take_24, mv_Ev_row r_X8_take_25, mv_Ev_row r_X8_take_26, mv_Ev_row r_X8_take_29, ea_aload_n, gg_5_1, ea_bipush, ea_icmp, gg_5_0, ea_iload_n, ea_dup_i, ea_dup_r, ea_iconst, ea_iadd, pp_5_1, ea_vret, ar_stc0 ai_138, bz_60, cz_eq, cz_ne, cz_lt, cz_ge, cz_gt, cz_le, mv_ac, decide_eq_true_eq, not_true_eq_false, and_self, and_true, true_and, ea_2n, ea_2f, ea_2c, ea_if, if_pos, if_neg, mv_lk, mv_f1, mv_f2, Value.category, List.filter, ↓reduceIte, Nat.reduceEqDiff, Nat.reduceAdd, Nat.reduceLT, Nat.reduceBEq, Nat.zero_add, Nat.add_zero, Nat.zero_ne_one, Nat.one_ne_zero, Bool.not_true, Bool.not_false, Bool.and_true, Bool.true_and, Bool.and_false, Bool.false_and, BEq.rfl, beq_self_eq_true, Bool.false_eq_true, reduceCtorEq, not_false_eq_true, fv0, fv1, fv2, fv3, eb_l0, eb_l1, eb_l2, eb_l3, eb_l4, eb_l5, eb_s0, eb_s1, eb_s2, eb_s3, eb_s4, eb_s5, oz_add, oz_sub, oz_mul, oz_neg, ol_add, ol_sub, sD_eq, sD_sD, sD_ne, sD_in, sD_in2, sD_in3, upR_is, upR_ne, mk_v, mk_n, mk_x, mk_i, mv_cs, Nat.reduceLeDiff, mv_ch_z, nh_X8_take, Int.emod_eq_of_lt v0 v1]
theorem c_X8_isAtDigit (hd : 1 ≤ d) (p0 : 0 ≤ p) (l0 : 0 ≤ T.1 137 1) (l60 : T.1 137 1 ≤ 60) (p9 : p ≤ 61) (hx : ∀ j, 0 ≤ j → j < T.1 137 1 → 0 ≤ T.1 138 j ∧ T.1 138 j < 65536) : mv_cl L xs d k_X8_isAtDigit [.ref 137] (t, 149, mz (z8 T c p k A)) = some (.inl (some (.int (Int32.ofInt (zb2 (zDigB (T.1 138) (T.1 137 1) p))))), (t, 149, mz (z8 T c p k A))) := by
  obtain ⟨d, rfl⟩ : ∃ e, d = e + 1 := ⟨d - 1, by omega⟩
  apply mv_cl_of
  simp only [mv_il, Value.category, Nat.zero_add, Nat.reduceAdd]
  by_cases q1 : p < T.1 137 1
  · have h := hx p p0 q1
    by_cases q2 : 48 ≤ T.1 138 p
    · by_cases q3 : T.1 138 p ≤ 57
      · rw [show zDigB (T.1 138) (T.1 137 1) p = true from zDigB_iff.mpr ⟨q1, q2, q3⟩]
        simp (disch := omega) only [mv_Ev_row r_X8_isAtDigit_0, mv_Ev_row r_X8_isAtDigit_1, mv_Ev_row r_X8_isAtDigit_4, mv_Ev_row r_X8_isAtDigit_5, mv_Ev_row r_X8_isAtDigit_8, mv_Ev_row r_X8_isAtDigit_11, mv_Ev_row r_X8_isAtDigit_12, mv_Ev_row r_X8_isAtDigit_15, mv_Ev_row r_X8_isAtDigit_16, mv_Ev_row r_X8_isAtDigit_19, mv_Ev_row r_X8_isAtDigit_20, mv_Ev_row r_X8_isAtDigit_22, mv_Ev_row r_X8_isAtDigit_25, mv_Ev_row r_X8_isAtDigit_26, mv_Ev_row r_X8_isAtDigit_29, mv_Ev_row r_X8_isAtDigit_30, mv_Ev_row r_X8_isAtDigit_33, mv_Ev_row r_X8_isAtDigit_34, mv_Ev_row r_X8_isAtDigit_36, mv_Ev_row r_X8_isAtDigit_39, mv_Ev_row r_X8_isAtDigit_40, mv_Ev_row r_X8_isAtDigit_43, mv_Ev_row r_X8_isAtDigit_44, ea_aload_n, gg_5_2, gg_5_1, ea_icmp, gg_5_0, ea_bipush, ea_iconst, ea_goto, ea_ireturn, ez_ret, ez_retc, ar_ldc0 ai_138, bz_48, bz_57, cz_eq, cz_ne, cz_lt, cz_ge, cz_gt, cz_le, mv_ac, decide_eq_true_eq, not_true_eq_false, and_self, and_true, true_and, ea_2n, ea_2f, ea_2c, ea_if, if_pos, if_neg, mv_lk, mv_f1, mv_f2, Value.category, List.filter, ↓reduceIte, Nat.reduceEqDiff, Nat.reduceAdd, Nat.reduceLT, Nat.reduceBEq, Nat.zero_add, Nat.add_zero, Nat.zero_ne_one, Nat.one_ne_zero, Bool.not_true, Bool.not_false, Bool.and_true, Bool.true_and, Bool.and_false, Bool.false_and, BEq.rfl, beq_self_eq_true, Bool.false_eq_true, reduceCtorEq, not_false_eq_true, fv0, fv1, fv2, fv3, eb_l0, eb_l1, eb_l2, eb_l3, eb_l4, eb_l5, eb_s0, eb_s1, eb_s2, eb_s3, eb_s4, eb_s5, oz_add, oz_sub, oz_mul, oz_neg, ol_add, ol_sub, sD_eq, sD_sD, sD_ne, sD_in, sD_in2, sD_in3, upR_is, upR_ne, mk_v, mk_n, mk_x, mk_i, mv_cs, Nat.reduceLeDiff, mv_ch_z, nh_X8_isAtDigit, z8_137, z8_138, zFk_1, zFk_2, zb2_t]
      · rw [show zDigB (T.1 138) (T.1 137 1) p = false from Bool.eq_false_iff.mpr (fun h => q3 (zDigB_iff.mp h).2.2)]
        simp (disch := omega) only [mv_Ev_row r_X8_isAtDigit_0, mv_Ev_row r_X8_isAtDigit_1, mv_Ev_row r_X8_isAtDigit_4, mv_Ev_row r_X8_isAtDigit_5, mv_Ev_row r_X8_isAtDigit_8, mv_Ev_row r_X8_isAtDigit_11, mv_Ev_row r_X8_isAtDigit_12, mv_Ev_row r_X8_isAtDigit_15, mv_Ev_row r_X8_isAtDigit_16, mv_Ev_row r_X8_isAtDigit_19, mv_Ev_row r_X8_isAtDigit_20, mv_Ev_row r_X8_isAtDigit_22, mv_Ev_row r_X8_isAtDigit_25, mv_Ev_row r_X8_isAtDigit_26, mv_Ev_row r_X8_isAtDigit_29, mv_Ev_row r_X8_isAtDigit_30, mv_Ev_row r_X8_isAtDigit_33, mv_Ev_row r_X8_isAtDigit_34, mv_Ev_row r_X8_isAtDigit_36, mv_Ev_row r_X8_isAtDigit_39, mv_Ev_row r_X8_isAtDigit_40, mv_Ev_row r_X8_isAtDigit_43, mv_Ev_row r_X8_isAtDigit_44, ea_aload_n, gg_5_2, gg_5_1, ea_icmp, gg_5_0, ea_bipush, ea_iconst, ea_goto, ea_ireturn, ez_ret, ez_retc, ar_ldc0 ai_138, bz_48, bz_57, cz_eq, cz_ne, cz_lt, cz_ge, cz_gt, cz_le, mv_ac, decide_eq_true_eq, not_true_eq_false, and_self, and_true, true_and, ea_2n, ea_2f, ea_2c, ea_if, if_pos, if_neg, mv_lk, mv_f1, mv_f2, Value.category, List.filter, ↓reduceIte, Nat.reduceEqDiff, Nat.reduceAdd, Nat.reduceLT, Nat.reduceBEq, Nat.zero_add, Nat.add_zero, Nat.zero_ne_one, Nat.one_ne_zero, Bool.not_true, Bool.not_false, Bool.and_true, Bool.true_and, Bool.and_false, Bool.false_and, BEq.rfl, beq_self_eq_true, Bool.false_eq_true, reduceCtorEq, not_false_eq_true, fv0, fv1, fv2, fv3, eb_l0, eb_l1, eb_l2, eb_l3, eb_l4, eb_l5, eb_s0, eb_s1, eb_s2, eb_s3, eb_s4, eb_s5, oz_add, oz_sub, oz_mul, oz_neg, ol_add, ol_sub, sD_eq, sD_sD, sD_ne, sD_in, sD_in2, sD_in3, upR_is, upR_ne, mk_v, mk_n, mk_x, mk_i, mv_cs, Nat.reduceLeDiff, mv_ch_z, nh_X8_isAtDigit, z8_137, z8_138, zFk_1, zFk_2, zb2_f]
    · rw [show zDigB (T.1 138) (T.1 137 1) p = false from Bool.eq_false_iff.mpr (fun h => q2 (zDigB_iff.mp h).2.1)]
      simp (disch := omega) only [mv_Ev_row r_X8_isAtDigit_0, mv_Ev_row r_X8_isAtDigit_1, mv_Ev_row r_X8_isAtDigit_4, mv_Ev_row r_X8_isAtDigit_5, mv_Ev_row r_X8_isAtDigit_8, mv_Ev_row r_X8_isAtDigit_11, mv_Ev_row r_X8_isAtDigit_12, mv_Ev_row r_X8_isAtDigit_15, mv_Ev_row r_X8_isAtDigit_16, mv_Ev_row r_X8_isAtDigit_19, mv_Ev_row r_X8_isAtDigit_20, mv_Ev_row r_X8_isAtDigit_22, mv_Ev_row r_X8_isAtDigit_25, mv_Ev_row r_X8_isAtDigit_26, mv_Ev_row r_X8_isAtDigit_29, mv_Ev_row r_X8_isAtDigit_30, mv_Ev_row r_X8_isAtDigit_33, mv_Ev_row r_X8_isAtDigit_34, mv_Ev_row r_X8_isAtDigit_36, mv_Ev_row r_X8_isAtDigit_39, mv_Ev_row r_X8_isAtDigit_40, mv_Ev_row r_X8_isAtDigit_43, mv_Ev_row r_X8_isAtDigit_44, ea_aload_n, gg_5_2, gg_5_1, ea_icmp, gg_5_0, ea_bipush, ea_iconst, ea_goto, ea_ireturn, ez_ret, ez_retc, ar_ldc0 ai_138, bz_48, bz_57, cz_eq, cz_ne, cz_lt, cz_ge, cz_gt, cz_le, mv_ac, decide_eq_true_eq, not_true_eq_false, and_self, and_true, true_and, ea_2n, ea_2f, ea_2c, ea_if, if_pos, if_neg, mv_lk, mv_f1, mv_f2, Value.category, List.filter, ↓reduceIte, Nat.reduceEqDiff, Nat.reduceAdd, Nat.reduceLT, Nat.reduceBEq, Nat.zero_add, Nat.add_zero, Nat.zero_ne_one, Nat.one_ne_zero, Bool.not_true, Bool.not_false, Bool.and_true, Bool.true_and, Bool.and_false, Bool.false_and, BEq.rfl, beq_self_eq_true, Bool.false_eq_true, reduceCtorEq, not_false_eq_true, fv0, fv1, fv2, fv3, eb_l0, eb_l1, eb_l2, eb_l3, eb_l4, eb_l5, eb_s0, eb_s1, eb_s2, eb_s3, eb_s4, eb_s5, oz_add, oz_sub, oz_mul, oz_neg, ol_add, ol_sub, sD_eq, sD_sD, sD_ne, sD_in, sD_in2, sD_in3, upR_is, upR_ne, mk_v, mk_n, mk_x, mk_i, mv_cs, Nat.reduceLeDiff, mv_ch_z, nh_X8_isAtDigit, z8_137, z8_138, zFk_1, zFk_2, zb2_f]
  · rw [show zDigB (T.1 138) (T.1 137 1) p = false from Bool.eq_false_iff.mpr (fun h => q1 (zDigB_iff.mp h).1)]
    simp (disch := omega) only [mv_Ev_row r_X8_isAtDigit_0, mv_Ev_row r_X8_isAtDigit_1, mv_Ev_row r_X8_isAtDigit_4, mv_Ev_row r_X8_isAtDigit_5, mv_Ev_row r_X8_isAtDigit_8, mv_Ev_row r_X8_isAtDigit_11, mv_Ev_row r_X8_isAtDigit_12, mv_Ev_row r_X8_isAtDigit_15, mv_Ev_row r_X8_isAtDigit_16, mv_Ev_row r_X8_isAtDigit_19, mv_Ev_row r_X8_isAtDigit_20, mv_Ev_row r_X8_isAtDigit_22, mv_Ev_row r_X8_isAtDigit_25, mv_Ev_row r_X8_isAtDigit_26, mv_Ev_row r_X8_isAtDigit_29, mv_Ev_row r_X8_isAtDigit_30, mv_Ev_row r_X8_isAtDigit_33, mv_Ev_row r_X8_isAtDigit_34, mv_Ev_row r_X8_isAtDigit_36, mv_Ev_row r_X8_isAtDigit_39, mv_Ev_row r_X8_isAtDigit_40, mv_Ev_row r_X8_isAtDigit_43, mv_Ev_row r_X8_isAtDigit_44, ea_aload_n, gg_5_2, gg_5_1, ea_icmp, gg_5_0, ea_bipush, ea_iconst, ea_goto, ea_ireturn, ez_ret, ez_retc, ar_ldc0 ai_138, bz_48, bz_57, cz_eq, cz_ne, cz_lt, cz_ge, cz_gt, cz_le, mv_ac, decide_eq_true_eq, not_true_eq_false, and_self, and_true, true_and, ea_2n, ea_2f, ea_2c, ea_if, if_pos, if_neg, mv_lk, mv_f1, mv_f2, Value.category, List.filter, ↓reduceIte, Nat.reduceEqDiff, Nat.reduceAdd, Nat.reduceLT, Nat.reduceBEq, Nat.zero_add, Nat.add_zero, Nat.zero_ne_one, Nat.one_ne_zero, Bool.not_true, Bool.not_false, Bool.and_true, Bool.true_and, Bool.and_false, Bool.false_and, BEq.rfl, beq_self_eq_true, Bool.false_eq_true, reduceCtorEq, not_false_eq_true, fv0, fv1, fv2, fv3, eb_l0, eb_l1, eb_l2, eb_l3, eb_l4, eb_l5, eb_s0, eb_s1, eb_s2, eb_s3, eb_s4, eb_s5, oz_add, oz_sub, oz_mul, oz_neg, ol_add, ol_sub, sD_eq, sD_sD, sD_ne, sD_in, sD_in2, sD_in3, upR_is, upR_ne, mk_v, mk_n, mk_x, mk_i, mv_cs, Nat.reduceLeDiff, mv_ch_z, nh_X8_isAtDigit, z8_137, z8_138, zFk_1, zFk_2, zb2_f]
theorem c_X8_readSign (hd : 1 ≤ d) {v : Int} (v0 : 0 ≤ v) (v1 : v < 65536) (p0 : 0 ≤ p) (l0 : 0 ≤ T.1 137 1) (l60 : T.1 137 1 ≤ 60) (p9 : p ≤ 61) (hx : ∀ j, 0 ≤ j → j < T.1 137 1 → 0 ≤ T.1 138 j ∧ T.1 138 j < 65536) : mv_cl L xs d k_X8_readSign [.ref 137, .int (Int32.ofInt v)] (t, 149, mz (z8 T c p k A)) = some (.inl (some (.int (Int32.ofInt (if p < T.1 137 1 ∧ T.1 138 p = v then 1 else 0)))), (t, 149, mz (z8 T c (if p < T.1 137 1 ∧ T.1 138 p = v then p + 1 else p) k A))) := by
  obtain ⟨d, rfl⟩ : ∃ e, d = e + 1 := ⟨d - 1, by omega⟩
  apply mv_cl_of
  simp only [mv_il, Value.category, Nat.zero_add, Nat.reduceAdd]
  by_cases q1 : p < T.1 137 1
  · have h := hx p p0 q1
    by_cases q2 : T.1 138 p = v
    · simp (disch := omega) only [mv_Ev_row r_X8_readSign_0, mv_Ev_row r_X8_readSign_1, mv_Ev_row r_X8_readSign_4, mv_Ev_row r_X8_readSign_5, mv_Ev_row r_X8_readSign_8, mv_Ev_row r_X8_readSign_11, mv_Ev_row r_X8_readSign_12, mv_Ev_row r_X8_readSign_15, mv_Ev_row r_X8_readSign_16, mv_Ev_row r_X8_readSign_19, mv_Ev_row r_X8_readSign_20, mv_Ev_row r_X8_readSign_21, mv_Ev_row r_X8_readSign_24, mv_Ev_row r_X8_readSign_25, mv_Ev_row r_X8_readSign_26, mv_Ev_row r_X8_readSign_27, mv_Ev_row r_X8_readSign_28, mv_Ev_row r_X8_readSign_31, mv_Ev_row r_X8_readSign_32, mv_Ev_row r_X8_readSign_33, mv_Ev_row r_X8_readSign_36, mv_Ev_row r_X8_readSign_37, ea_aload_n, gg_5_2, gg_5_1, ea_icmp, gg_5_0, ea_iload_n, ea_iconst, ea_ireturn, ez_ret, ez_retc, ea_dup_i, ea_dup_r, ea_iadd, pp_5_2, ar_ldc0 ai_138, cz_eq, cz_ne, cz_lt, cz_ge, cz_gt, cz_le, mv_ac, decide_eq_true_eq, not_true_eq_false, and_self, and_true, true_and, ea_2n, ea_2f, ea_2c, ea_if, if_pos, if_neg, mv_lk, mv_f1, mv_f2, Value.category, List.filter, ↓reduceIte, Nat.reduceEqDiff, Nat.reduceAdd, Nat.reduceLT, Nat.reduceBEq, Nat.zero_add, Nat.add_zero, Nat.zero_ne_one, Nat.one_ne_zero, Bool.not_true, Bool.not_false, Bool.and_true, Bool.true_and, Bool.and_false, Bool.false_and, BEq.rfl, beq_self_eq_true, Bool.false_eq_true, reduceCtorEq, not_false_eq_true, fv0, fv1, fv2, fv3, eb_l0, eb_l1, eb_l2, eb_l3, eb_l4, eb_l5, eb_s0, eb_s1, eb_s2, eb_s3, eb_s4, eb_s5, oz_add, oz_sub, oz_mul, oz_neg, ol_add, ol_sub, sD_eq, sD_sD, sD_ne, sD_in, sD_in2, sD_in3, upR_is, upR_ne, mk_v, mk_n, mk_x, mk_i, mv_cs, Nat.reduceLeDiff, mv_ch_z, nh_X8_readSign, z8_137, z8_138, zFk_1, zFk_2, z8_p, q2]
    · simp (disch := omega) only [mv_Ev_row r_X8_readSign_0, mv_Ev_row r_X8_readSign_1, mv_Ev_row r_X8_readSign_4, mv_Ev_row r_X8_readSign_5, mv_Ev_row r_X8_readSign_8, mv_Ev_row r_X8_readSign_11, mv_Ev_row r_X8_readSign_12, mv_Ev_row r_X8_readSign_15, mv_Ev_row r_X8_readSign_16, mv_Ev_row r_X8_readSign_19, mv_Ev_row r_X8_readSign_20, mv_Ev_row r_X8_readSign_21, mv_Ev_row r_X8_readSign_24, mv_Ev_row r_X8_readSign_25, mv_Ev_row r_X8_readSign_26, mv_Ev_row r_X8_readSign_27, mv_Ev_row r_X8_readSign_28, mv_Ev_row r_X8_readSign_31, mv_Ev_row r_X8_readSign_32, mv_Ev_row r_X8_readSign_33, mv_Ev_row r_X8_readSign_36, mv_Ev_row r_X8_readSign_37, ea_aload_n, gg_5_2, gg_5_1, ea_icmp, gg_5_0, ea_iload_n, ea_iconst, ea_ireturn, ez_ret, ez_retc, ea_dup_i, ea_dup_r, ea_iadd, pp_5_2, ar_ldc0 ai_138, cz_eq, cz_ne, cz_lt, cz_ge, cz_gt, cz_le, mv_ac, decide_eq_true_eq, not_true_eq_false, and_self, and_true, true_and, ea_2n, ea_2f, ea_2c, ea_if, if_pos, if_neg, mv_lk, mv_f1, mv_f2, Value.category, List.filter, ↓reduceIte, Nat.reduceEqDiff, Nat.reduceAdd, Nat.reduceLT, Nat.reduceBEq, Nat.zero_add, Nat.add_zero, Nat.zero_ne_one, Nat.one_ne_zero, Bool.not_true, Bool.not_false, Bool.and_true, Bool.true_and, Bool.and_false, Bool.false_and, BEq.rfl, beq_self_eq_true, Bool.false_eq_true, reduceCtorEq, not_false_eq_true, fv0, fv1, fv2, fv3, eb_l0, eb_l1, eb_l2, eb_l3, eb_l4, eb_l5, eb_s0, eb_s1, eb_s2, eb_s3, eb_s4, eb_s5, oz_add, oz_sub, oz_mul, oz_neg, ol_add, ol_sub, sD_eq, sD_sD, sD_ne, sD_in, sD_in2, sD_in3, upR_is, upR_ne, mk_v, mk_n, mk_x, mk_i, mv_cs, Nat.reduceLeDiff, mv_ch_z, nh_X8_readSign, z8_137, z8_138, zFk_1, zFk_2]
  · simp (disch := omega) only [mv_Ev_row r_X8_readSign_0, mv_Ev_row r_X8_readSign_1, mv_Ev_row r_X8_readSign_4, mv_Ev_row r_X8_readSign_5, mv_Ev_row r_X8_readSign_8, mv_Ev_row r_X8_readSign_11, mv_Ev_row r_X8_readSign_12, mv_Ev_row r_X8_readSign_15, mv_Ev_row r_X8_readSign_16, mv_Ev_row r_X8_readSign_19, mv_Ev_row r_X8_readSign_20, mv_Ev_row r_X8_readSign_21, mv_Ev_row r_X8_readSign_24, mv_Ev_row r_X8_readSign_25, mv_Ev_row r_X8_readSign_26, mv_Ev_row r_X8_readSign_27, mv_Ev_row r_X8_readSign_28, mv_Ev_row r_X8_readSign_31, mv_Ev_row r_X8_readSign_32, mv_Ev_row r_X8_readSign_33, mv_Ev_row r_X8_readSign_36, mv_Ev_row r_X8_readSign_37, ea_aload_n, gg_5_2, gg_5_1, ea_icmp, gg_5_0, ea_iload_n, ea_iconst, ea_ireturn, ez_ret, ez_retc, ea_dup_i, ea_dup_r, ea_iadd, pp_5_2, ar_ldc0 ai_138, cz_eq, cz_ne, cz_lt, cz_ge, cz_gt, cz_le, mv_ac, decide_eq_true_eq, not_true_eq_false, and_self, and_true, true_and, ea_2n, ea_2f, ea_2c, ea_if, if_pos, if_neg, mv_lk, mv_f1, mv_f2, Value.category, List.filter, ↓reduceIte, Nat.reduceEqDiff, Nat.reduceAdd, Nat.reduceLT, Nat.reduceBEq, Nat.zero_add, Nat.add_zero, Nat.zero_ne_one, Nat.one_ne_zero, Bool.not_true, Bool.not_false, Bool.and_true, Bool.true_and, Bool.and_false, Bool.false_and, BEq.rfl, beq_self_eq_true, Bool.false_eq_true, reduceCtorEq, not_false_eq_true, fv0, fv1, fv2, fv3, eb_l0, eb_l1, eb_l2, eb_l3, eb_l4, eb_l5, eb_s0, eb_s1, eb_s2, eb_s3, eb_s4, eb_s5, oz_add, oz_sub, oz_mul, oz_neg, ol_add, ol_sub, sD_eq, sD_sD, sD_ne, sD_in, sD_in2, sD_in3, upR_is, upR_ne, mk_v, mk_n, mk_x, mk_i, mv_cs, Nat.reduceLeDiff, mv_ch_z, nh_X8_readSign, z8_137, z8_138, zFk_1, zFk_2]
theorem c_X8_num_no (hd : 2 ≤ d) {N : Int} (hN : N = 1 ∨ N = 2) (p0 : 0 ≤ p) (l0 : 0 ≤ T.1 137 1) (l60 : T.1 137 1 ≤ 60) (p9 : p ≤ 61) (hx : ∀ j, 0 ≤ j → j < T.1 137 1 → 0 ≤ T.1 138 j ∧ T.1 138 j < 65536) (hz : zDigB (T.1 138) (T.1 137 1) p = false) : mv_cl L xs d k_X8_readNumber [.ref 137, .int (Int32.ofInt N)] (t, 149, mz (z8 T c p k A)) = some (.inl (some (.int (Int32.ofInt 0))), (t, 149, mz (z8 T c p k A))) := by
  have q := c_X8_isAtDigit (L := L) (xs := xs) (t := t) (T := T) (A := A) (c := c) (p := p) (k := k) (d := d - 1) (by omega) p0 l0 l60 p9 hx
  rw [hz, zb2_f] at q
  obtain ⟨d, rfl⟩ : ∃ e, d = e + 1 := ⟨d - 1, by omega⟩
  apply mv_cl_of
  simp only [mv_il, Value.category, Nat.zero_add, Nat.reduceAdd]
  simp only [Nat.add_sub_cancel] at q
  simp (disch := omega) only [mv_Ev_row r_X8_readNumber_0, mv_Ev_row r_X8_readNumber_1, mv_Ev_row r_X8_readNumber_2, mv_Ev_row r_X8_readNumber_3, mv_Ev_row r_X8_readNumber_4, mv_Ev_row r_X8_readNumber_5, mv_Ev_row r_X8_readNumber_6, mv_Ev_row r_X8_readNumber_9, mv_Ev_row r_X8_readNumber_10, mv_Ev_row r_X8_readNumber_13, mv_Ev_row r_X8_readNumber_16, mv_Ev_row r_X8_readNumber_18, mv_Ev_row r_X8_readNumber_19, mv_Ev_row r_X8_readNumber_20, mv_Ev_row r_X8_readNumber_21, mv_Ev_row r_X8_readNumber_24, mv_Ev_row r_X8_readNumber_25, mv_Ev_row r_X8_readNumber_28, mv_Ev_row r_X8_readNumber_29, mv_Ev_row r_X8_readNumber_31, mv_Ev_row r_X8_readNumber_32, mv_Ev_row r_X8_readNumber_33, mv_Ev_row r_X8_readNumber_34, mv_Ev_row r_X8_readNumber_35, mv_Ev_row r_X8_readNumber_36, mv_Ev_row r_X8_readNumber_39, mv_Ev_row r_X8_readNumber_40, mv_Ev_row r_X8_readNumber_41, mv_Ev_row r_X8_readNumber_44, mv_Ev_row r_X8_readNumber_47, mv_Ev_row r_X8_readNumber_50, mv_Ev_row r_X8_readNumber_51, mv_Ev_row r_X8_readNumber_54, mv_Ev_row r_X8_readNumber_55, mv_Ev_row r_X8_readNumber_58, mv_Ev_row r_X8_readNumber_59, mv_Ev_row r_X8_readNumber_62, mv_Ev_row r_X8_readNumber_63, mv_Ev_row r_X8_readNumber_64, mv_Ev_row r_X8_readNumber_65, mv_Ev_row r_X8_readNumber_68, mv_Ev_row r_X8_readNumber_69, mv_Ev_row r_X8_readNumber_72, mv_Ev_row r_X8_readNumber_73, mv_Ev_row r_X8_readNumber_74, mv_Ev_row r_X8_readNumber_75, mv_Ev_row r_X8_readNumber_76, mv_Ev_row r_X8_readNumber_79, mv_Ev_row r_X8_readNumber_80, mv_Ev_row r_X8_readNumber_81, mv_Ev_row r_X8_readNumber_84, mv_Ev_row r_X8_readNumber_85, ea_iconst, ea_istore_n, ea_iload_n, ea_icmp, ea_aload_n, kv_X8_isAtDigit, ea_ifc, ea_bipush, ea_imul, gg_5_0, gg_5_2, ea_isub, ea_iadd, ea_dup_i, ea_dup_r, pp_5_2, ea_iinc, eb_inc, ea_goto, gg_5_5, ea_ireturn, ez_ret, ez_retc, gg_5_4, pp_5_5, ar_ldc0 ai_138, ar_st0 ai_139, bz_10, bz_48, cz_eq, cz_ne, cz_lt, cz_ge, cz_gt, cz_le, c0_eq, c0_ne, c0_lt, c0_ge, c0_gt, c0_le, mv_ac, decide_eq_true_eq, not_true_eq_false, and_self, and_true, true_and, ea_2n, ea_2f, ea_2c, ea_if, if_pos, if_neg, mv_lk, mv_f1, mv_f2, Value.category, List.filter, ↓reduceIte, Nat.reduceEqDiff, Nat.reduceAdd, Nat.reduceLT, Nat.reduceBEq, Nat.zero_add, Nat.add_zero, Nat.zero_ne_one, Nat.one_ne_zero, Bool.not_true, Bool.not_false, Bool.and_true, Bool.true_and, Bool.and_false, Bool.false_and, BEq.rfl, beq_self_eq_true, Bool.false_eq_true, reduceCtorEq, not_false_eq_true, fv0, fv1, fv2, fv3, eb_l0, eb_l1, eb_l2, eb_l3, eb_l4, eb_l5, eb_s0, eb_s1, eb_s2, eb_s3, eb_s4, eb_s5, oz_add, oz_sub, oz_mul, oz_neg, ol_add, ol_sub, sD_eq, sD_sD, sD_ne, sD_in, sD_in2, sD_in3, upR_is, upR_ne, mk_v, mk_n, mk_x, mk_i, mv_cs, Nat.reduceLeDiff, mv_ch_z, nh_X8_readNumber, q]
theorem c_X8_num_1 (hd : 2 ≤ d) {N : Int} (p0 : 0 ≤ p) (l0 : 0 ≤ T.1 137 1) (l60 : T.1 137 1 ≤ 60) (k0 : 0 ≤ k) (k3 : k < 3) (hx : ∀ j, 0 ≤ j → j < T.1 137 1 → 0 ≤ T.1 138 j ∧ T.1 138 j < 65536) (hz : zDigB (T.1 138) (T.1 137 1) p = true) (hN : N = 1 ∨ (N = 2 ∧ zDigB (T.1 138) (T.1 137 1) (p + 1) = false)) : mv_cl L xs d k_X8_readNumber [.ref 137, .int (Int32.ofInt N)] (t, 149, mz (z8 T c p k A)) = some (.inl (some (.int (Int32.ofInt 1))), (t, 149, mz (z8 T c (p + 1) (k + 1) (upR A k (T.1 138 p - 48))))) := by
  obtain ⟨z1, z2, z3⟩ := zDigB_iff.mp hz
  have q := c_X8_isAtDigit (L := L) (xs := xs) (t := t) (T := T) (A := A) (c := c) (p := p) (k := k) (d := d - 1) (by omega) p0 l0 l60 (by omega) hx
  rw [hz, zb2_t] at q
  rcases hN with rfl | ⟨rfl, hz2⟩
  · obtain ⟨d, rfl⟩ : ∃ e, d = e + 1 := ⟨d - 1, by omega⟩
    apply mv_cl_of
    simp only [mv_il, Value.category, Nat.zero_add, Nat.reduceAdd]
    simp only [Nat.add_sub_cancel] at q
    simp (disch := omega) only [mv_Ev_row r_X8_readNumber_0, mv_Ev_row r_X8_readNumber_1, mv_Ev_row r_X8_readNumber_2, mv_Ev_row r_X8_readNumber_3, mv_Ev_row r_X8_readNumber_4, mv_Ev_row r_X8_readNumber_5, mv_Ev_row r_X8_readNumber_6, mv_Ev_row r_X8_readNumber_9, mv_Ev_row r_X8_readNumber_10, mv_Ev_row r_X8_readNumber_13, mv_Ev_row r_X8_readNumber_16, mv_Ev_row r_X8_readNumber_18, mv_Ev_row r_X8_readNumber_19, mv_Ev_row r_X8_readNumber_20, mv_Ev_row r_X8_readNumber_21, mv_Ev_row r_X8_readNumber_24, mv_Ev_row r_X8_readNumber_25, mv_Ev_row r_X8_readNumber_28, mv_Ev_row r_X8_readNumber_29, mv_Ev_row r_X8_readNumber_31, mv_Ev_row r_X8_readNumber_32, mv_Ev_row r_X8_readNumber_33, mv_Ev_row r_X8_readNumber_34, mv_Ev_row r_X8_readNumber_35, mv_Ev_row r_X8_readNumber_36, mv_Ev_row r_X8_readNumber_39, mv_Ev_row r_X8_readNumber_40, mv_Ev_row r_X8_readNumber_41, mv_Ev_row r_X8_readNumber_44, mv_Ev_row r_X8_readNumber_47, mv_Ev_row r_X8_readNumber_50, mv_Ev_row r_X8_readNumber_51, mv_Ev_row r_X8_readNumber_54, mv_Ev_row r_X8_readNumber_55, mv_Ev_row r_X8_readNumber_58, mv_Ev_row r_X8_readNumber_59, mv_Ev_row r_X8_readNumber_62, mv_Ev_row r_X8_readNumber_63, mv_Ev_row r_X8_readNumber_64, mv_Ev_row r_X8_readNumber_65, mv_Ev_row r_X8_readNumber_68, mv_Ev_row r_X8_readNumber_69, mv_Ev_row r_X8_readNumber_72, mv_Ev_row r_X8_readNumber_73, mv_Ev_row r_X8_readNumber_74, mv_Ev_row r_X8_readNumber_75, mv_Ev_row r_X8_readNumber_76, mv_Ev_row r_X8_readNumber_79, mv_Ev_row r_X8_readNumber_80, mv_Ev_row r_X8_readNumber_81, mv_Ev_row r_X8_readNumber_84, mv_Ev_row r_X8_readNumber_85, ea_iconst, ea_istore_n, ea_iload_n, ea_icmp, ea_aload_n, kv_X8_isAtDigit, ea_ifc, ea_bipush, ea_imul, gg_5_0, gg_5_2, ea_isub, ea_iadd, ea_dup_i, ea_dup_r, pp_5_2, ea_iinc, eb_inc, ea_goto, gg_5_5, ea_ireturn, ez_ret, ez_retc, gg_5_4, pp_5_5, ar_ldc0 ai_138, ar_st0 ai_139, bz_10, bz_48, cz_eq, cz_ne, cz_lt, cz_ge, cz_gt, cz_le, c0_eq, c0_ne, c0_lt, c0_ge, c0_gt, c0_le, mv_ac, decide_eq_true_eq, not_true_eq_false, and_self, and_true, true_and, ea_2n, ea_2f, ea_2c, ea_if, if_pos, if_neg, mv_lk, mv_f1, mv_f2, Value.category, List.filter, ↓reduceIte, Nat.reduceEqDiff, Nat.reduceAdd, Nat.reduceLT, Nat.reduceBEq, Nat.zero_add, Nat.add_zero, Nat.zero_ne_one, Nat.one_ne_zero, Bool.not_true, Bool.not_false, Bool.and_true, Bool.true_and, Bool.and_false, Bool.false_and, BEq.rfl, beq_self_eq_true, Bool.false_eq_true, reduceCtorEq, not_false_eq_true, fv0, fv1, fv2, fv3, eb_l0, eb_l1, eb_l2, eb_l3, eb_l4, eb_l5, eb_s0, eb_s1, eb_s2, eb_s3, eb_s4, eb_s5, oz_add, oz_sub, oz_mul, oz_neg, ol_add, ol_sub, sD_eq, sD_sD, sD_ne, sD_in, sD_in2, sD_in3, upR_is, upR_ne, mk_v, mk_n, mk_x, mk_i, mv_cs, Nat.reduceLeDiff, mv_ch_z, nh_X8_readNumber, q, z8_137, z8_138, z8_139, zFk_1, zFk_2, zFk_5, z8_p, z8_k, z8_A, Int.mul_zero, Int.zero_add]
  · have q2 := c_X8_isAtDigit (L := L) (xs := xs) (t := t) (T := T) (A := A) (c := c) (p := p + 1) (k := k) (d := d - 1) (by omega) (by omega) l0 l60 (by omega) hx
    rw [hz2, zb2_f] at q2
    obtain ⟨d, rfl⟩ : ∃ e, d = e + 1 := ⟨d - 1, by omega⟩
    apply mv_cl_of
    simp only [mv_il, Value.category, Nat.zero_add, Nat.reduceAdd]
    simp only [Nat.add_sub_cancel] at q q2
    simp (disch := omega) only [mv_Ev_row r_X8_readNumber_0, mv_Ev_row r_X8_readNumber_1, mv_Ev_row r_X8_readNumber_2, mv_Ev_row r_X8_readNumber_3, mv_Ev_row r_X8_readNumber_4, mv_Ev_row r_X8_readNumber_5, mv_Ev_row r_X8_readNumber_6, mv_Ev_row r_X8_readNumber_9, mv_Ev_row r_X8_readNumber_10, mv_Ev_row r_X8_readNumber_13, mv_Ev_row r_X8_readNumber_16, mv_Ev_row r_X8_readNumber_18, mv_Ev_row r_X8_readNumber_19, mv_Ev_row r_X8_readNumber_20, mv_Ev_row r_X8_readNumber_21, mv_Ev_row r_X8_readNumber_24, mv_Ev_row r_X8_readNumber_25, mv_Ev_row r_X8_readNumber_28, mv_Ev_row r_X8_readNumber_29, mv_Ev_row r_X8_readNumber_31, mv_Ev_row r_X8_readNumber_32, mv_Ev_row r_X8_readNumber_33, mv_Ev_row r_X8_readNumber_34, mv_Ev_row r_X8_readNumber_35, mv_Ev_row r_X8_readNumber_36, mv_Ev_row r_X8_readNumber_39, mv_Ev_row r_X8_readNumber_40, mv_Ev_row r_X8_readNumber_41, mv_Ev_row r_X8_readNumber_44, mv_Ev_row r_X8_readNumber_47, mv_Ev_row r_X8_readNumber_50, mv_Ev_row r_X8_readNumber_51, mv_Ev_row r_X8_readNumber_54, mv_Ev_row r_X8_readNumber_55, mv_Ev_row r_X8_readNumber_58, mv_Ev_row r_X8_readNumber_59, mv_Ev_row r_X8_readNumber_62, mv_Ev_row r_X8_readNumber_63, mv_Ev_row r_X8_readNumber_64, mv_Ev_row r_X8_readNumber_65, mv_Ev_row r_X8_readNumber_68, mv_Ev_row r_X8_readNumber_69, mv_Ev_row r_X8_readNumber_72, mv_Ev_row r_X8_readNumber_73, mv_Ev_row r_X8_readNumber_74, mv_Ev_row r_X8_readNumber_75, mv_Ev_row r_X8_readNumber_76, mv_Ev_row r_X8_readNumber_79, mv_Ev_row r_X8_readNumber_80, mv_Ev_row r_X8_readNumber_81, mv_Ev_row r_X8_readNumber_84, mv_Ev_row r_X8_readNumber_85, ea_iconst, ea_istore_n, ea_iload_n, ea_icmp, ea_aload_n, kv_X8_isAtDigit, ea_ifc, ea_bipush, ea_imul, gg_5_0, gg_5_2, ea_isub, ea_iadd, ea_dup_i, ea_dup_r, pp_5_2, ea_iinc, eb_inc, ea_goto, gg_5_5, ea_ireturn, ez_ret, ez_retc, gg_5_4, pp_5_5, ar_ldc0 ai_138, ar_st0 ai_139, bz_10, bz_48, cz_eq, cz_ne, cz_lt, cz_ge, cz_gt, cz_le, c0_eq, c0_ne, c0_lt, c0_ge, c0_gt, c0_le, mv_ac, decide_eq_true_eq, not_true_eq_false, and_self, and_true, true_and, ea_2n, ea_2f, ea_2c, ea_if, if_pos, if_neg, mv_lk, mv_f1, mv_f2, Value.category, List.filter, ↓reduceIte, Nat.reduceEqDiff, Nat.reduceAdd, Nat.reduceLT, Nat.reduceBEq, Nat.zero_add, Nat.add_zero, Nat.zero_ne_one, Nat.one_ne_zero, Bool.not_true, Bool.not_false, Bool.and_true, Bool.true_and, Bool.and_false, Bool.false_and, BEq.rfl, beq_self_eq_true, Bool.false_eq_true, reduceCtorEq, not_false_eq_true, fv0, fv1, fv2, fv3, eb_l0, eb_l1, eb_l2, eb_l3, eb_l4, eb_l5, eb_s0, eb_s1, eb_s2, eb_s3, eb_s4, eb_s5, oz_add, oz_sub, oz_mul, oz_neg, ol_add, ol_sub, sD_eq, sD_sD, sD_ne, sD_in, sD_in2, sD_in3, upR_is, upR_ne, mk_v, mk_n, mk_x, mk_i, mv_cs, Nat.reduceLeDiff, mv_ch_z, nh_X8_readNumber, q, q2, z8_137, z8_138, z8_139, zFk_1, zFk_2, zFk_5, z8_p, z8_k, z8_A, Int.mul_zero, Int.zero_add]
theorem c_X8_num_2 (hd : 2 ≤ d) (p0 : 0 ≤ p) (l0 : 0 ≤ T.1 137 1) (l60 : T.1 137 1 ≤ 60) (k0 : 0 ≤ k) (k3 : k < 3) (hx : ∀ j, 0 ≤ j → j < T.1 137 1 → 0 ≤ T.1 138 j ∧ T.1 138 j < 65536) (hz : zDigB (T.1 138) (T.1 137 1) p = true) (hz2 : zDigB (T.1 138) (T.1 137 1) (p + 1) = true) : mv_cl L xs d k_X8_readNumber [.ref 137, .int (Int32.ofInt 2)] (t, 149, mz (z8 T c p k A)) = some (.inl (some (.int (Int32.ofInt 1))), (t, 149, mz (z8 T c (p + 2) (k + 1) (upR A k (10 * (T.1 138 p - 48) + (T.1 138 (p + 1) - 48)))))) := by
  obtain ⟨z1, z2, z3⟩ := zDigB_iff.mp hz
  obtain ⟨y1, y2, y3⟩ := zDigB_iff.mp hz2
  have q := c_X8_isAtDigit (L := L) (xs := xs) (t := t) (T := T) (A := A) (c := c) (p := p) (k := k) (d := d - 1) (by omega) p0 l0 l60 (by omega) hx
  rw [hz, zb2_t] at q
  have q2 := c_X8_isAtDigit (L := L) (xs := xs) (t := t) (T := T) (A := A) (c := c) (p := p + 1) (k := k) (d := d - 1) (by omega) (by omega) l0 l60 (by omega) hx
  rw [hz2, zb2_t] at q2
  obtain ⟨d, rfl⟩ : ∃ e, d = e + 1 := ⟨d - 1, by omega⟩
  apply mv_cl_of
  simp only [mv_il, Value.category, Nat.zero_add, Nat.reduceAdd]
  simp only [Nat.add_sub_cancel] at q q2
  rw [show p + 2 = p + 1 + 1 by omega]
  simp (disch := omega) only [mv_Ev_row r_X8_readNumber_0, mv_Ev_row r_X8_readNumber_1, mv_Ev_row r_X8_readNumber_2, mv_Ev_row r_X8_readNumber_3, mv_Ev_row r_X8_readNumber_4, mv_Ev_row r_X8_readNumber_5, mv_Ev_row r_X8_readNumber_6, mv_Ev_row r_X8_readNumber_9, mv_Ev_row r_X8_readNumber_10, mv_Ev_row r_X8_readNumber_13, mv_Ev_row r_X8_readNumber_16, mv_Ev_row r_X8_readNumber_18, mv_Ev_row r_X8_readNumber_19, mv_Ev_row r_X8_readNumber_20, mv_Ev_row r_X8_readNumber_21, mv_Ev_row r_X8_readNumber_24, mv_Ev_row r_X8_readNumber_25, mv_Ev_row r_X8_readNumber_28, mv_Ev_row r_X8_readNumber_29, mv_Ev_row r_X8_readNumber_31, mv_Ev_row r_X8_readNumber_32, mv_Ev_row r_X8_readNumber_33, mv_Ev_row r_X8_readNumber_34, mv_Ev_row r_X8_readNumber_35, mv_Ev_row r_X8_readNumber_36, mv_Ev_row r_X8_readNumber_39, mv_Ev_row r_X8_readNumber_40, mv_Ev_row r_X8_readNumber_41, mv_Ev_row r_X8_readNumber_44, mv_Ev_row r_X8_readNumber_47, mv_Ev_row r_X8_readNumber_50, mv_Ev_row r_X8_readNumber_51, mv_Ev_row r_X8_readNumber_54, mv_Ev_row r_X8_readNumber_55, mv_Ev_row r_X8_readNumber_58, mv_Ev_row r_X8_readNumber_59, mv_Ev_row r_X8_readNumber_62, mv_Ev_row r_X8_readNumber_63, mv_Ev_row r_X8_readNumber_64, mv_Ev_row r_X8_readNumber_65, mv_Ev_row r_X8_readNumber_68, mv_Ev_row r_X8_readNumber_69, mv_Ev_row r_X8_readNumber_72, mv_Ev_row r_X8_readNumber_73, mv_Ev_row r_X8_readNumber_74, mv_Ev_row r_X8_readNumber_75, mv_Ev_row r_X8_readNumber_76, mv_Ev_row r_X8_readNumber_79, mv_Ev_row r_X8_readNumber_80, mv_Ev_row r_X8_readNumber_81, mv_Ev_row r_X8_readNumber_84, mv_Ev_row r_X8_readNumber_85, ea_iconst, ea_istore_n, ea_iload_n, ea_icmp, ea_aload_n, kv_X8_isAtDigit, ea_ifc, ea_bipush, ea_imul, gg_5_0, gg_5_2, ea_isub, ea_iadd, ea_dup_i, ea_dup_r, pp_5_2, ea_iinc, eb_inc, ea_goto, gg_5_5, ea_ireturn, ez_ret, ez_retc, gg_5_4, pp_5_5, ar_ldc0 ai_138, ar_st0 ai_139, bz_10, bz_48, cz_eq, cz_ne, cz_lt, cz_ge, cz_gt, cz_le, c0_eq, c0_ne, c0_lt, c0_ge, c0_gt, c0_le, mv_ac, decide_eq_true_eq, not_true_eq_false, and_self, and_true, true_and, ea_2n, ea_2f, ea_2c, ea_if, if_pos, if_neg, mv_lk, mv_f1, mv_f2, Value.category, List.filter, ↓reduceIte, Nat.reduceEqDiff, Nat.reduceAdd, Nat.reduceLT, Nat.reduceBEq, Nat.zero_add, Nat.add_zero, Nat.zero_ne_one, Nat.one_ne_zero, Bool.not_true, Bool.not_false, Bool.and_true, Bool.true_and, Bool.and_false, Bool.false_and, BEq.rfl, beq_self_eq_true, Bool.false_eq_true, reduceCtorEq, not_false_eq_true, fv0, fv1, fv2, fv3, eb_l0, eb_l1, eb_l2, eb_l3, eb_l4, eb_l5, eb_s0, eb_s1, eb_s2, eb_s3, eb_s4, eb_s5, oz_add, oz_sub, oz_mul, oz_neg, ol_add, ol_sub, sD_eq, sD_sD, sD_ne, sD_in, sD_in2, sD_in3, upR_is, upR_ne, mk_v, mk_n, mk_x, mk_i, mv_cs, Nat.reduceLeDiff, mv_ch_z, nh_X8_readNumber, q, q2, z8_137, z8_138, z8_139, zFk_1, zFk_2, zFk_5, z8_p, z8_k, z8_A, Int.mul_zero, Int.zero_add]
theorem c_X8_readPart (hd : 3 ≤ d) {v : Nat} {as : List Int} (v1 : v < 65536) (p0 : 0 ≤ p) (l0 : 0 ≤ T.1 137 1) (l60 : T.1 137 1 ≤ 60) (p9 : p ≤ 61) (hx : ∀ j, 0 ≤ j → j < T.1 137 1 → 0 ≤ T.1 138 j ∧ T.1 138 j < 65536) (has : v = 68 ∨ v = 78 → as.length < 3) : mv_cl L xs d k_X8_readPart [.ref 137, .int (Int32.ofInt v)] (t, 149, mz (z8 T c p as.length (zAa A as))) = some (.inl (some (.int (Int32.ofInt (zb2 (zPat (T.1 138) (T.1 137 1) [v] p as).1)))), (t, 149, mz (z8 T c (zPat (T.1 138) (T.1 137 1) [v] p as).2.1 ((zPat (T.1 138) (T.1 137 1) [v] p as).2.2.length : Nat) (zAa A (zPat (T.1 138) (T.1 137 1) [v] p as).2.2)))) := by
  have el : ∀ v : Int, (((as ++ [v]).length : Nat) : Int) = (as.length : Int) + 1 := fun v => by simp
  by_cases h1 : v = 68
  · subst h1
    by_cases hz : zDigB (T.1 138) (T.1 137 1) p = true
    · have q := c_X8_num_1 (L := L) (xs := xs) (t := t) (T := T) (A := zAa A as) (c := c) (p := p) (k := as.length) (d := d - 1) (N := 1) (by omega) p0 l0 l60 (by omega) (by have := has (.inl rfl); omega) hx hz (.inl rfl)
      rw [zAa_snoc] at q
      have e : zPat (T.1 138) (T.1 137 1) [68] p as = (true, p + 1, as ++ [T.1 138 p - 48]) := by simp only [zPat, if_pos hz, if_true]
      rw [e]
      dsimp only
      rw [el]
      obtain ⟨d, rfl⟩ : ∃ e, d = e + 1 := ⟨d - 1, by omega⟩
      apply mv_cl_of
      simp only [mv_il, Value.category, Nat.zero_add, Nat.reduceAdd]
      simp only [Nat.add_sub_cancel] at q
      simp (disch := omega) only [mv_Ev_row r_X8_readPart_0, mv_Ev_row r_X8_readPart_1, mv_Ev_row r_X8_readPart_3, mv_Ev_row r_X8_readPart_6, mv_Ev_row r_X8_readPart_7, mv_Ev_row r_X8_readPart_8, mv_Ev_row r_X8_readPart_11, mv_Ev_row r_X8_readPart_12, mv_Ev_row r_X8_readPart_13, mv_Ev_row r_X8_readPart_15, mv_Ev_row r_X8_readPart_18, mv_Ev_row r_X8_readPart_19, mv_Ev_row r_X8_readPart_20, mv_Ev_row r_X8_readPart_23, mv_Ev_row r_X8_readPart_24, mv_Ev_row r_X8_readPart_25, mv_Ev_row r_X8_readPart_26, mv_Ev_row r_X8_readPart_29, ea_iload_n, ea_bipush, ea_icmp, ea_aload_n, ea_iconst, kv_X8_readNumber, ea_ireturn, ez_ret, ez_retc, kv_X8_readSign, bz_68, bz_78, cz_eq, cz_ne, cz_lt, cz_ge, cz_gt, cz_le, mv_ac, decide_eq_true_eq, not_true_eq_false, and_self, and_true, true_and, ea_2n, ea_2f, ea_2c, ea_if, if_pos, if_neg, mv_lk, mv_f1, mv_f2, Value.category, List.filter, ↓reduceIte, Nat.reduceEqDiff, Nat.reduceAdd, Nat.reduceLT, Nat.reduceBEq, Nat.zero_add, Nat.add_zero, Nat.zero_ne_one, Nat.one_ne_zero, Bool.not_true, Bool.not_false, Bool.and_true, Bool.true_and, Bool.and_false, Bool.false_and, BEq.rfl, beq_self_eq_true, Bool.false_eq_true, reduceCtorEq, not_false_eq_true, fv0, fv1, fv2, fv3, eb_l0, eb_l1, eb_l2, eb_l3, eb_l4, eb_l5, eb_s0, eb_s1, eb_s2, eb_s3, eb_s4, eb_s5, oz_add, oz_sub, oz_mul, oz_neg, ol_add, ol_sub, sD_eq, sD_sD, sD_ne, sD_in, sD_in2, sD_in3, upR_is, upR_ne, mk_v, mk_n, mk_x, mk_i, mv_cs, Nat.reduceLeDiff, mv_ch_z, nh_X8_readPart, q, zb2_t]
    · have hz : zDigB (T.1 138) (T.1 137 1) p = false := by simpa using hz
      have q := c_X8_num_no (L := L) (xs := xs) (t := t) (T := T) (A := zAa A as) (c := c) (p := p) (k := as.length) (d := d - 1) (N := 1) (by omega) (.inl rfl) p0 l0 l60 p9 hx hz
      have e : zPat (T.1 138) (T.1 137 1) [68] p as = (false, p, as) := by simp only [zPat, hz, if_true, Bool.false_eq_true, if_false]
      rw [e]
      dsimp only
      obtain ⟨d, rfl⟩ : ∃ e, d = e + 1 := ⟨d - 1, by omega⟩
      apply mv_cl_of
      simp only [mv_il, Value.category, Nat.zero_add, Nat.reduceAdd]
      simp only [Nat.add_sub_cancel] at q
      simp (disch := omega) only [mv_Ev_row r_X8_readPart_0, mv_Ev_row r_X8_readPart_1, mv_Ev_row r_X8_readPart_3, mv_Ev_row r_X8_readPart_6, mv_Ev_row r_X8_readPart_7, mv_Ev_row r_X8_readPart_8, mv_Ev_row r_X8_readPart_11, mv_Ev_row r_X8_readPart_12, mv_Ev_row r_X8_readPart_13, mv_Ev_row r_X8_readPart_15, mv_Ev_row r_X8_readPart_18, mv_Ev_row r_X8_readPart_19, mv_Ev_row r_X8_readPart_20, mv_Ev_row r_X8_readPart_23, mv_Ev_row r_X8_readPart_24, mv_Ev_row r_X8_readPart_25, mv_Ev_row r_X8_readPart_26, mv_Ev_row r_X8_readPart_29, ea_iload_n, ea_bipush, ea_icmp, ea_aload_n, ea_iconst, kv_X8_readNumber, ea_ireturn, ez_ret, ez_retc, kv_X8_readSign, bz_68, bz_78, cz_eq, cz_ne, cz_lt, cz_ge, cz_gt, cz_le, mv_ac, decide_eq_true_eq, not_true_eq_false, and_self, and_true, true_and, ea_2n, ea_2f, ea_2c, ea_if, if_pos, if_neg, mv_lk, mv_f1, mv_f2, Value.category, List.filter, ↓reduceIte, Nat.reduceEqDiff, Nat.reduceAdd, Nat.reduceLT, Nat.reduceBEq, Nat.zero_add, Nat.add_zero, Nat.zero_ne_one, Nat.one_ne_zero, Bool.not_true, Bool.not_false, Bool.and_true, Bool.true_and, Bool.and_false, Bool.false_and, BEq.rfl, beq_self_eq_true, Bool.false_eq_true, reduceCtorEq, not_false_eq_true, fv0, fv1, fv2, fv3, eb_l0, eb_l1, eb_l2, eb_l3, eb_l4, eb_l5, eb_s0, eb_s1, eb_s2, eb_s3, eb_s4, eb_s5, oz_add, oz_sub, oz_mul, oz_neg, ol_add, ol_sub, sD_eq, sD_sD, sD_ne, sD_in, sD_in2, sD_in3, upR_is, upR_ne, mk_v, mk_n, mk_x, mk_i, mv_cs, Nat.reduceLeDiff, mv_ch_z, nh_X8_readPart, q, zb2_f]
  by_cases h2 : v = 78
  · subst h2
    by_cases hz : zDigB (T.1 138) (T.1 137 1) p = true
    · by_cases hz2 : zDigB (T.1 138) (T.1 137 1) (p + 1) = true
      · have q := c_X8_num_2 (L := L) (xs := xs) (t := t) (T := T) (A := zAa A as) (c := c) (p := p) (k := as.length) (d := d - 1) (by omega) p0 l0 l60 (by omega) (by have := has (.inr rfl); omega) hx hz hz2
        rw [zAa_snoc] at q
        have e : zPat (T.1 138) (T.1 137 1) [78] p as = (true, p + 2, as ++ [10 * (T.1 138 p - 48) + (T.1 138 (p + 1) - 48)]) := by simp only [zPat, if_pos hz, if_pos hz2, if_true, if_neg h1]
        rw [e]
        dsimp only
        rw [el]
        obtain ⟨d, rfl⟩ : ∃ e, d = e + 1 := ⟨d - 1, by omega⟩
        apply mv_cl_of
        simp only [mv_il, Value.category, Nat.zero_add, Nat.reduceAdd]
        simp only [Nat.add_sub_cancel] at q
        simp (disch := omega) only [mv_Ev_row r_X8_readPart_0, mv_Ev_row r_X8_readPart_1, mv_Ev_row r_X8_readPart_3, mv_Ev_row r_X8_readPart_6, mv_Ev_row r_X8_readPart_7, mv_Ev_row r_X8_readPart_8, mv_Ev_row r_X8_readPart_11, mv_Ev_row r_X8_readPart_12, mv_Ev_row r_X8_readPart_13, mv_Ev_row r_X8_readPart_15, mv_Ev_row r_X8_readPart_18, mv_Ev_row r_X8_readPart_19, mv_Ev_row r_X8_readPart_20, mv_Ev_row r_X8_readPart_23, mv_Ev_row r_X8_readPart_24, mv_Ev_row r_X8_readPart_25, mv_Ev_row r_X8_readPart_26, mv_Ev_row r_X8_readPart_29, ea_iload_n, ea_bipush, ea_icmp, ea_aload_n, ea_iconst, kv_X8_readNumber, ea_ireturn, ez_ret, ez_retc, kv_X8_readSign, bz_68, bz_78, cz_eq, cz_ne, cz_lt, cz_ge, cz_gt, cz_le, mv_ac, decide_eq_true_eq, not_true_eq_false, and_self, and_true, true_and, ea_2n, ea_2f, ea_2c, ea_if, if_pos, if_neg, mv_lk, mv_f1, mv_f2, Value.category, List.filter, ↓reduceIte, Nat.reduceEqDiff, Nat.reduceAdd, Nat.reduceLT, Nat.reduceBEq, Nat.zero_add, Nat.add_zero, Nat.zero_ne_one, Nat.one_ne_zero, Bool.not_true, Bool.not_false, Bool.and_true, Bool.true_and, Bool.and_false, Bool.false_and, BEq.rfl, beq_self_eq_true, Bool.false_eq_true, reduceCtorEq, not_false_eq_true, fv0, fv1, fv2, fv3, eb_l0, eb_l1, eb_l2, eb_l3, eb_l4, eb_l5, eb_s0, eb_s1, eb_s2, eb_s3, eb_s4, eb_s5, oz_add, oz_sub, oz_mul, oz_neg, ol_add, ol_sub, sD_eq, sD_sD, sD_ne, sD_in, sD_in2, sD_in3, upR_is, upR_ne, mk_v, mk_n, mk_x, mk_i, mv_cs, Nat.reduceLeDiff, mv_ch_z, nh_X8_readPart, q, zb2_t]
      · have hz2 : zDigB (T.1 138) (T.1 137 1) (p + 1) = false := by simpa using hz2
        have q := c_X8_num_1 (L := L) (xs := xs) (t := t) (T := T) (A := zAa A as) (c := c) (p := p) (k := as.length) (d := d - 1) (N := 2) (by omega) p0 l0 l60 (by omega) (by have := has (.inr rfl); omega) hx hz (.inr ⟨rfl, hz2⟩)
        rw [zAa_snoc] at q
        have e : zPat (T.1 138) (T.1 137 1) [78] p as = (true, p + 1, as ++ [T.1 138 p - 48]) := by simp only [zPat, if_pos hz, hz2, Bool.false_eq_true, if_false, if_true, if_neg h1]
        rw [e]
        dsimp only
        rw [el]
        obtain ⟨d, rfl⟩ : ∃ e, d = e + 1 := ⟨d - 1, by omega⟩
        apply mv_cl_of
        simp only [mv_il, Value.category, Nat.zero_add, Nat.reduceAdd]
        simp only [Nat.add_sub_cancel] at q
        simp (disch := omega) only [mv_Ev_row r_X8_readPart_0, mv_Ev_row r_X8_readPart_1, mv_Ev_row r_X8_readPart_3, mv_Ev_row r_X8_readPart_6, mv_Ev_row r_X8_readPart_7, mv_Ev_row r_X8_readPart_8, mv_Ev_row r_X8_readPart_11, mv_Ev_row r_X8_readPart_12, mv_Ev_row r_X8_readPart_13, mv_Ev_row r_X8_readPart_15, mv_Ev_row r_X8_readPart_18, mv_Ev_row r_X8_readPart_19, mv_Ev_row r_X8_readPart_20, mv_Ev_row r_X8_readPart_23, mv_Ev_row r_X8_readPart_24, mv_Ev_row r_X8_readPart_25, mv_Ev_row r_X8_readPart_26, mv_Ev_row r_X8_readPart_29, ea_iload_n, ea_bipush, ea_icmp, ea_aload_n, ea_iconst, kv_X8_readNumber, ea_ireturn, ez_ret, ez_retc, kv_X8_readSign, bz_68, bz_78, cz_eq, cz_ne, cz_lt, cz_ge, cz_gt, cz_le, mv_ac, decide_eq_true_eq, not_true_eq_false, and_self, and_true, true_and, ea_2n, ea_2f, ea_2c, ea_if, if_pos, if_neg, mv_lk, mv_f1, mv_f2, Value.category, List.filter, ↓reduceIte, Nat.reduceEqDiff, Nat.reduceAdd, Nat.reduceLT, Nat.reduceBEq, Nat.zero_add, Nat.add_zero, Nat.zero_ne_one, Nat.one_ne_zero, Bool.not_true, Bool.not_false, Bool.and_true, Bool.true_and, Bool.and_false, Bool.false_and, BEq.rfl, beq_self_eq_true, Bool.false_eq_true, reduceCtorEq, not_false_eq_true, fv0, fv1, fv2, fv3, eb_l0, eb_l1, eb_l2, eb_l3, eb_l4, eb_l5, eb_s0, eb_s1, eb_s2, eb_s3, eb_s4, eb_s5, oz_add, oz_sub, oz_mul, oz_neg, ol_add, ol_sub, sD_eq, sD_sD, sD_ne, sD_in, sD_in2, sD_in3, upR_is, upR_ne, mk_v, mk_n, mk_x, mk_i, mv_cs, Nat.reduceLeDiff, mv_ch_z, nh_X8_readPart, q, zb2_t]
    · have hz : zDigB (T.1 138) (T.1 137 1) p = false := by simpa using hz
      have q := c_X8_num_no (L := L) (xs := xs) (t := t) (T := T) (A := zAa A as) (c := c) (p := p) (k := as.length) (d := d - 1) (N := 2) (by omega) (.inr rfl) p0 l0 l60 p9 hx hz
      have e : zPat (T.1 138) (T.1 137 1) [78] p as = (false, p, as) := by simp only [zPat, hz, if_true, Bool.false_eq_true, if_false, if_neg h1]
      rw [e]
      dsimp only
      obtain ⟨d, rfl⟩ : ∃ e, d = e + 1 := ⟨d - 1, by omega⟩
      apply mv_cl_of
      simp only [mv_il, Value.category, Nat.zero_add, Nat.reduceAdd]
      simp only [Nat.add_sub_cancel] at q
      simp (disch := omega) only [mv_Ev_row r_X8_readPart_0, mv_Ev_row r_X8_readPart_1, mv_Ev_row r_X8_readPart_3, mv_Ev_row r_X8_readPart_6, mv_Ev_row r_X8_readPart_7, mv_Ev_row r_X8_readPart_8, mv_Ev_row r_X8_readPart_11, mv_Ev_row r_X8_readPart_12, mv_Ev_row r_X8_readPart_13, mv_Ev_row r_X8_readPart_15, mv_Ev_row r_X8_readPart_18, mv_Ev_row r_X8_readPart_19, mv_Ev_row r_X8_readPart_20, mv_Ev_row r_X8_readPart_23, mv_Ev_row r_X8_readPart_24, mv_Ev_row r_X8_readPart_25, mv_Ev_row r_X8_readPart_26, mv_Ev_row r_X8_readPart_29, ea_iload_n, ea_bipush, ea_icmp, ea_aload_n, ea_iconst, kv_X8_readNumber, ea_ireturn, ez_ret, ez_retc, kv_X8_readSign, bz_68, bz_78, cz_eq, cz_ne, cz_lt, cz_ge, cz_gt, cz_le, mv_ac, decide_eq_true_eq, not_true_eq_false, and_self, and_true, true_and, ea_2n, ea_2f, ea_2c, ea_if, if_pos, if_neg, mv_lk, mv_f1, mv_f2, Value.category, List.filter, ↓reduceIte, Nat.reduceEqDiff, Nat.reduceAdd, Nat.reduceLT, Nat.reduceBEq, Nat.zero_add, Nat.add_zero, Nat.zero_ne_one, Nat.one_ne_zero, Bool.not_true, Bool.not_false, Bool.and_true, Bool.true_and, Bool.and_false, Bool.false_and, BEq.rfl, beq_self_eq_true, Bool.false_eq_true, reduceCtorEq, not_false_eq_true, fv0, fv1, fv2, fv3, eb_l0, eb_l1, eb_l2, eb_l3, eb_l4, eb_l5, eb_s0, eb_s1, eb_s2, eb_s3, eb_s4, eb_s5, oz_add, oz_sub, oz_mul, oz_neg, ol_add, ol_sub, sD_eq, sD_sD, sD_ne, sD_in, sD_in2, sD_in3, upR_is, upR_ne, mk_v, mk_n, mk_x, mk_i, mv_cs, Nat.reduceLeDiff, mv_ch_z, nh_X8_readPart, q, zb2_f]
  have q := c_X8_readSign (L := L) (xs := xs) (t := t) (T := T) (A := zAa A as) (c := c) (p := p) (k := as.length) (d := d - 1) (v := (v : Int)) (by omega) (by omega) (by omega) p0 l0 l60 p9 hx
  have h1' : ¬ (v : Int) = 68 := by omega
  have h2' : ¬ (v : Int) = 78 := by omega
  by_cases hs : p < T.1 137 1 ∧ T.1 138 p = v
  · have e : zPat (T.1 138) (T.1 137 1) [v] p as = (true, p + 1, as) := by simp only [zPat, if_neg h1, if_neg h2, if_pos hs]
    rw [e]
    dsimp only
    rw [if_pos hs, if_pos hs] at q
    obtain ⟨d, rfl⟩ : ∃ e, d = e + 1 := ⟨d - 1, by omega⟩
    apply mv_cl_of
    simp only [mv_il, Value.category, Nat.zero_add, Nat.reduceAdd]
    simp only [Nat.add_sub_cancel] at q
    simp (disch := omega) only [mv_Ev_row r_X8_readPart_0, mv_Ev_row r_X8_readPart_1, mv_Ev_row r_X8_readPart_3, mv_Ev_row r_X8_readPart_6, mv_Ev_row r_X8_readPart_7, mv_Ev_row r_X8_readPart_8, mv_Ev_row r_X8_readPart_11, mv_Ev_row r_X8_readPart_12, mv_Ev_row r_X8_readPart_13, mv_Ev_row r_X8_readPart_15, mv_Ev_row r_X8_readPart_18, mv_Ev_row r_X8_readPart_19, mv_Ev_row r_X8_readPart_20, mv_Ev_row r_X8_readPart_23, mv_Ev_row r_X8_readPart_24, mv_Ev_row r_X8_readPart_25, mv_Ev_row r_X8_readPart_26, mv_Ev_row r_X8_readPart_29, ea_iload_n, ea_bipush, ea_icmp, ea_aload_n, ea_iconst, kv_X8_readNumber, ea_ireturn, ez_ret, ez_retc, kv_X8_readSign, bz_68, bz_78, cz_eq, cz_ne, cz_lt, cz_ge, cz_gt, cz_le, mv_ac, decide_eq_true_eq, not_true_eq_false, and_self, and_true, true_and, ea_2n, ea_2f, ea_2c, ea_if, if_pos, if_neg, mv_lk, mv_f1, mv_f2, Value.category, List.filter, ↓reduceIte, Nat.reduceEqDiff, Nat.reduceAdd, Nat.reduceLT, Nat.reduceBEq, Nat.zero_add, Nat.add_zero, Nat.zero_ne_one, Nat.one_ne_zero, Bool.not_true, Bool.not_false, Bool.and_true, Bool.true_and, Bool.and_false, Bool.false_and, BEq.rfl, beq_self_eq_true, Bool.false_eq_true, reduceCtorEq, not_false_eq_true, fv0, fv1, fv2, fv3, eb_l0, eb_l1, eb_l2, eb_l3, eb_l4, eb_l5, eb_s0, eb_s1, eb_s2, eb_s3, eb_s4, eb_s5, oz_add, oz_sub, oz_mul, oz_neg, ol_add, ol_sub, sD_eq, sD_sD, sD_ne, sD_in, sD_in2, sD_in3, upR_is, upR_ne, mk_v, mk_n, mk_x, mk_i, mv_cs, Nat.reduceLeDiff, mv_ch_z, nh_X8_readPart, q, zb2_t]
  · have e : zPat (T.1 138) (T.1 137 1) [v] p as = (false, p, as) := by simp only [zPat, if_neg h1, if_neg h2, if_neg hs]
    rw [e]
    dsimp only
    rw [if_neg hs, if_neg hs] at q
    obtain ⟨d, rfl⟩ : ∃ e, d = e + 1 := ⟨d - 1, by omega⟩
    apply mv_cl_of
    simp only [mv_il, Value.category, Nat.zero_add, Nat.reduceAdd]
    simp only [Nat.add_sub_cancel] at q
    simp (disch := omega) only [mv_Ev_row r_X8_readPart_0, mv_Ev_row r_X8_readPart_1, mv_Ev_row r_X8_readPart_3, mv_Ev_row r_X8_readPart_6, mv_Ev_row r_X8_readPart_7, mv_Ev_row r_X8_readPart_8, mv_Ev_row r_X8_readPart_11, mv_Ev_row r_X8_readPart_12, mv_Ev_row r_X8_readPart_13, mv_Ev_row r_X8_readPart_15, mv_Ev_row r_X8_readPart_18, mv_Ev_row r_X8_readPart_19, mv_Ev_row r_X8_readPart_20, mv_Ev_row r_X8_readPart_23, mv_Ev_row r_X8_readPart_24, mv_Ev_row r_X8_readPart_25, mv_Ev_row r_X8_readPart_26, mv_Ev_row r_X8_readPart_29, ea_iload_n, ea_bipush, ea_icmp, ea_aload_n, ea_iconst, kv_X8_readNumber, ea_ireturn, ez_ret, ez_retc, kv_X8_readSign, bz_68, bz_78, cz_eq, cz_ne, cz_lt, cz_ge, cz_gt, cz_le, mv_ac, decide_eq_true_eq, not_true_eq_false, and_self, and_true, true_and, ea_2n, ea_2f, ea_2c, ea_if, if_pos, if_neg, mv_lk, mv_f1, mv_f2, Value.category, List.filter, ↓reduceIte, Nat.reduceEqDiff, Nat.reduceAdd, Nat.reduceLT, Nat.reduceBEq, Nat.zero_add, Nat.add_zero, Nat.zero_ne_one, Nat.one_ne_zero, Bool.not_true, Bool.not_false, Bool.and_true, Bool.true_and, Bool.and_false, Bool.false_and, BEq.rfl, beq_self_eq_true, Bool.false_eq_true, reduceCtorEq, not_false_eq_true, fv0, fv1, fv2, fv3, eb_l0, eb_l1, eb_l2, eb_l3, eb_l4, eb_l5, eb_s0, eb_s1, eb_s2, eb_s3, eb_s4, eb_s5, oz_add, oz_sub, oz_mul, oz_neg, ol_add, ol_sub, sD_eq, sD_sD, sD_ne, sD_in, sD_in2, sD_in3, upR_is, upR_ne, mk_v, mk_n, mk_x, mk_i, mv_cs, Nat.reduceLeDiff, mv_ch_z, nh_X8_readPart, q, zb2_f]
def zcn : List Nat → Nat
  | [] => 0
  | c :: cs => (if c = 68 ∨ c = 78 then 1 else 0) + zcn cs
theorem zcn_pat {k : Nat} (hk : k < 8) : zcn (mv_pat k) ≤ 3 ∧ (∀ v ∈ mv_pat k, v < 65536) ∧ (mv_pat k).length ≤ 11 := by
  have h : ∀ k, k < 8 → zcn (mv_pat k) ≤ 3 ∧ (∀ v ∈ mv_pat k, v < 65536) ∧ (mv_pat k).length ≤ 11 := by decide
  exact h k hk
theorem zPat_len1 (X : Int → Int) (len : Int) (v : Nat) (p : Int) (as : List Int) : (zPat X len [v] p as).2.2.length ≤ as.length + (if v = 68 ∨ v = 78 then 1 else 0) := by
  simp only [zPat]
  by_cases h1 : v = 68
  · rw [if_pos h1, if_pos (Or.inl h1 : v = 68 ∨ v = 78)]
    split <;> simp
  · rw [if_neg h1]
    by_cases h2 : v = 78
    · rw [if_pos h2, if_pos (Or.inr h2 : v = 68 ∨ v = 78)]
      split
      · split <;> simp
      · simp
    · rw [if_neg h2]
      split <;> simp
theorem lp_X8_readPattern (hd : 3 ≤ d) {i : Nat} (hi : i < 8) (l0 : 0 ≤ T.1 137 1) (l60 : T.1 137 1 ≤ 60) (hx : ∀ j, 0 ≤ j → j < T.1 137 1 → 0 ≤ T.1 138 j ∧ T.1 138 j < 65536) : ∀ (cs : List Nat) (j : Nat) (p : Int) (as : List Int), (mv_pat i).drop j = cs → j ≤ (mv_pat i).length → 0 ≤ p → p ≤ T.1 137 1 → as.length + zcn cs ≤ 3 → mv_Ev L xs (mv_cl L xs d) k_X8_readPattern 7 [(2, .int (Int32.ofInt j)), (0, .ref 137), (1, .ref (1030 + i))] [] (t, 149, mz (z8 T c p as.length (zAa A as))) (.inl (some (.int (Int32.ofInt (zb2 (zPat (T.1 138) (T.1 137 1) cs p as).1)))), (t, 149, mz (z8 T c (zPat (T.1 138) (T.1 137 1) cs p as).2.1 ((zPat (T.1 138) (T.1 137 1) cs p as).2.2.length : Nat) (zAa A (zPat (T.1 138) (T.1 137 1) cs p as).2.2)))) := by
  obtain ⟨n1, n2, n3⟩ := zcn_pat hi
  intro cs
  induction cs with
  | nil =>
    intro j p as hc hj p0 pl ha
    have hl := congrArg List.length hc
    rw [List.length_drop, List.length_nil] at hl
    have e : j = (mv_pat i).length := by omega
    subst e
    rw [zPat]
    dsimp only
    simp (disch := omega) only [mv_Ev_row r_X8_readPattern_0, mv_Ev_row r_X8_readPattern_1, mv_Ev_row r_X8_readPattern_2, mv_Ev_row r_X8_readPattern_5, mv_Ev_row r_X8_readPattern_6, mv_Ev_row r_X8_readPattern_7, mv_Ev_row r_X8_readPattern_8, mv_Ev_row r_X8_readPattern_9, mv_Ev_row r_X8_readPattern_12, mv_Ev_row r_X8_readPattern_15, mv_Ev_row r_X8_readPattern_16, mv_Ev_row r_X8_readPattern_17, mv_Ev_row r_X8_readPattern_18, mv_Ev_row r_X8_readPattern_21, mv_Ev_row r_X8_readPattern_24, mv_Ev_row r_X8_readPattern_27, mv_Ev_row r_X8_readPattern_28, mv_Ev_row r_X8_readPattern_29, mv_Ev_row r_X8_readPattern_32, mv_Ev_row r_X8_readPattern_35, mv_Ev_row r_X8_readPattern_36, ea_aload_n, ea_iconst, pp_5_5, ea_istore_n, ea_iload_n, ea_icmp, kv_X8_readPart, ea_ifc, ea_ireturn, ez_ret, ez_retc, ea_iinc, eb_inc, ea_goto, cz_eq, cz_ne, cz_lt, cz_ge, cz_gt, cz_le, c0_eq, c0_ne, c0_lt, c0_ge, c0_gt, c0_le, mv_ac, decide_eq_true_eq, not_true_eq_false, and_self, and_true, true_and, ea_2n, ea_2f, ea_2c, ea_if, if_pos, if_neg, mv_lk, mv_f1, mv_f2, Value.category, List.filter, ↓reduceIte, Nat.reduceEqDiff, Nat.reduceAdd, Nat.reduceLT, Nat.reduceBEq, Nat.zero_add, Nat.add_zero, Nat.zero_ne_one, Nat.one_ne_zero, Bool.not_true, Bool.not_false, Bool.and_true, Bool.true_and, Bool.and_false, Bool.false_and, BEq.rfl, beq_self_eq_true, Bool.false_eq_true, reduceCtorEq, not_false_eq_true, fv0, fv1, fv2, fv3, eb_l0, eb_l1, eb_l2, eb_l3, eb_l4, eb_l5, eb_s0, eb_s1, eb_s2, eb_s3, eb_s4, eb_s5, oz_add, oz_sub, oz_mul, oz_neg, ol_add, ol_sub, sD_eq, sD_sD, sD_ne, sD_in, sD_in2, sD_in3, upR_is, upR_ne, mk_v, mk_n, mk_x, mk_i, mv_cs, Nat.reduceLeDiff, mv_ch_z, nh_X8_readPattern, gz_len hi, zb2_t]
  | cons v cs ih =>
    intro j p as hc hj p0 pl ha
    have hl := congrArg List.length hc
    rw [List.length_drop, List.length_cons] at hl
    have e1 : (mv_pat i).getD j 0 = v := by
      rw [List.getD_eq_getElem?_getD, show j = j + 0 from rfl, ← List.getElem?_drop, hc]
      rfl
    have e2 : (mv_pat i).drop (j + 1) = cs := by
      rw [← List.tail_drop, hc]
      rfl
    have hv : v < 65536 := n2 v (List.mem_of_mem_drop (i := j) (by rw [hc]; exact List.mem_cons_self))
    rw [zcn] at ha
    have q := c_X8_readPart (L := L) (xs := xs) (t := t) (T := T) (A := A) (c := c) (p := p) (as := as) (v := v) (d := d) hd hv p0 l0 l60 (by omega) hx (fun h => by rw [if_pos h] at ha; omega)
    have hl1 := zPat_len1 (T.1 138) (T.1 137 1) v p as
    have hle := zPat_le (T.1 138) (T.1 137 1) [v] p as
    rw [zPat_cons]
    by_cases ok : (zPat (T.1 138) (T.1 137 1) [v] p as).1 = true
    · have h := ih (j + 1) (zPat (T.1 138) (T.1 137 1) [v] p as).2.1 (zPat (T.1 138) (T.1 137 1) [v] p as).2.2 e2 (by omega) (by omega) (by omega) (by omega)
      rw [show ((j + 1 : Nat) : Int) = (j : Int) + 1 by omega] at h
      rw [if_pos ok]
      rw [ok, zb2_t] at q
      rw [mv_Ev_row r_X8_readPattern_7]
      simp (disch := omega) only [mv_Ev_row r_X8_readPattern_0, mv_Ev_row r_X8_readPattern_1, mv_Ev_row r_X8_readPattern_2, mv_Ev_row r_X8_readPattern_5, mv_Ev_row r_X8_readPattern_6, mv_Ev_row r_X8_readPattern_8, mv_Ev_row r_X8_readPattern_9, mv_Ev_row r_X8_readPattern_12, mv_Ev_row r_X8_readPattern_15, mv_Ev_row r_X8_readPattern_16, mv_Ev_row r_X8_readPattern_17, mv_Ev_row r_X8_readPattern_18, mv_Ev_row r_X8_readPattern_21, mv_Ev_row r_X8_readPattern_24, mv_Ev_row r_X8_readPattern_27, mv_Ev_row r_X8_readPattern_28, mv_Ev_row r_X8_readPattern_29, mv_Ev_row r_X8_readPattern_32, mv_Ev_row r_X8_readPattern_35, mv_Ev_row r_X8_readPattern_36, ea_aload_n, ea_iconst, pp_5_5, ea_istore_n, ea_iload_n, ea_icmp, kv_X8_readPart, ea_ifc, ea_ireturn, ez_ret, ez_retc, ea_iinc, eb_inc, ea_goto, cz_eq, cz_ne, cz_lt, cz_ge, cz_gt, cz_le, c0_eq, c0_ne, c0_lt, c0_ge, c0_gt, c0_le, mv_ac, decide_eq_true_eq, not_true_eq_false, and_self, and_true, true_and, ea_2n, ea_2f, ea_2c, ea_if, if_pos, if_neg, mv_lk, mv_f1, mv_f2, Value.category, List.filter, ↓reduceIte, Nat.reduceEqDiff, Nat.reduceAdd, Nat.reduceLT, Nat.reduceBEq, Nat.zero_add, Nat.add_zero, Nat.zero_ne_one, Nat.one_ne_zero, Bool.not_true, Bool.not_false, Bool.and_true, Bool.true_and, Bool.and_false, Bool.false_and, BEq.rfl, beq_self_eq_true, Bool.false_eq_true, reduceCtorEq, not_false_eq_true, fv0, fv1, fv2, fv3, eb_l0, eb_l1, eb_l2, eb_l3, eb_l4, eb_l5, eb_s0, eb_s1, eb_s2, eb_s3, eb_s4, eb_s5, oz_add, oz_sub, oz_mul, oz_neg, ol_add, ol_sub, sD_eq, sD_sD, sD_ne, sD_in, sD_in2, sD_in3, upR_is, upR_ne, mk_v, mk_n, mk_x, mk_i, mv_cs, Nat.reduceLeDiff, mv_ch_z, nh_X8_readPattern, gz_len hi, gz_chr hi, Int.toNat_natCast, e1, q]
      exact mv_Es h
    · rw [if_neg ok]
      have ok2 : (zPat (T.1 138) (T.1 137 1) [v] p as).1 = false := by simpa using ok
      rw [ok2, zb2_f] at q
      rw [ok2, zb2_f]
      rw [mv_Ev_row r_X8_readPattern_7]
      simp (disch := omega) only [mv_Ev_row r_X8_readPattern_0, mv_Ev_row r_X8_readPattern_1, mv_Ev_row r_X8_readPattern_2, mv_Ev_row r_X8_readPattern_5, mv_Ev_row r_X8_readPattern_6, mv_Ev_row r_X8_readPattern_8, mv_Ev_row r_X8_readPattern_9, mv_Ev_row r_X8_readPattern_12, mv_Ev_row r_X8_readPattern_15, mv_Ev_row r_X8_readPattern_16, mv_Ev_row r_X8_readPattern_17, mv_Ev_row r_X8_readPattern_18, mv_Ev_row r_X8_readPattern_21, mv_Ev_row r_X8_readPattern_24, mv_Ev_row r_X8_readPattern_27, mv_Ev_row r_X8_readPattern_28, mv_Ev_row r_X8_readPattern_29, mv_Ev_row r_X8_readPattern_32, mv_Ev_row r_X8_readPattern_35, mv_Ev_row r_X8_readPattern_36, ea_aload_n, ea_iconst, pp_5_5, ea_istore_n, ea_iload_n, ea_icmp, kv_X8_readPart, ea_ifc, ea_ireturn, ez_ret, ez_retc, ea_iinc, eb_inc, ea_goto, cz_eq, cz_ne, cz_lt, cz_ge, cz_gt, cz_le, c0_eq, c0_ne, c0_lt, c0_ge, c0_gt, c0_le, mv_ac, decide_eq_true_eq, not_true_eq_false, and_self, and_true, true_and, ea_2n, ea_2f, ea_2c, ea_if, if_pos, if_neg, mv_lk, mv_f1, mv_f2, Value.category, List.filter, ↓reduceIte, Nat.reduceEqDiff, Nat.reduceAdd, Nat.reduceLT, Nat.reduceBEq, Nat.zero_add, Nat.add_zero, Nat.zero_ne_one, Nat.one_ne_zero, Bool.not_true, Bool.not_false, Bool.and_true, Bool.true_and, Bool.and_false, Bool.false_and, BEq.rfl, beq_self_eq_true, Bool.false_eq_true, reduceCtorEq, not_false_eq_true, fv0, fv1, fv2, fv3, eb_l0, eb_l1, eb_l2, eb_l3, eb_l4, eb_l5, eb_s0, eb_s1, eb_s2, eb_s3, eb_s4, eb_s5, oz_add, oz_sub, oz_mul, oz_neg, ol_add, ol_sub, sD_eq, sD_sD, sD_ne, sD_in, sD_in2, sD_in3, upR_is, upR_ne, mk_v, mk_n, mk_x, mk_i, mv_cs, Nat.reduceLeDiff, mv_ch_z, nh_X8_readPattern, gz_len hi, gz_chr hi, Int.toNat_natCast, e1, q]
theorem c_X8_readPattern (hd : 4 ≤ d) {i : Nat} (hi : i < 8) (l0 : 0 ≤ T.1 137 1) (l60 : T.1 137 1 ≤ 60) (hx : ∀ j, 0 ≤ j → j < T.1 137 1 → 0 ≤ T.1 138 j ∧ T.1 138 j < 65536) (p0 : 0 ≤ p) (pl : p ≤ T.1 137 1) : mv_cl L xs d k_X8_readPattern [.ref 137, .ref (1030 + i)] (t, 149, mz (z8 T c p k A)) = some (.inl (some (.int (Int32.ofInt (zb2 (zPat (T.1 138) (T.1 137 1) (mv_pat i) p []).1)))), (t, 149, mz (z8 T c (zPat (T.1 138) (T.1 137 1) (mv_pat i) p []).2.1 ((zPat (T.1 138) (T.1 137 1) (mv_pat i) p []).2.2.length : Nat) (zAa A (zPat (T.1 138) (T.1 137 1) (mv_pat i) p []).2.2)))) := by
  obtain ⟨n1, n2, n3⟩ := zcn_pat hi
  have q := lp_X8_readPattern (L := L) (xs := xs) (t := t) (T := T) (A := A) (c := c) (d := d - 1) (by omega) hi l0 l60 hx (mv_pat i) 0 p [] rfl (by omega) p0 pl (by simpa using n1)
  rw [zAa_nil] at q
  obtain ⟨d, rfl⟩ : ∃ e, d = e + 1 := ⟨d - 1, by omega⟩
  apply mv_cl_of
  simp only [mv_il, Value.category, Nat.zero_add, Nat.reduceAdd]
  simp only [Nat.add_sub_cancel] at q
  simp (disch := omega) only [mv_Ev_row r_X8_readPattern_0, mv_Ev_row r_X8_readPattern_1, mv_Ev_row r_X8_readPattern_2, mv_Ev_row r_X8_readPattern_5, mv_Ev_row r_X8_readPattern_6, mv_Ev_row r_X8_readPattern_8, mv_Ev_row r_X8_readPattern_9, mv_Ev_row r_X8_readPattern_12, mv_Ev_row r_X8_readPattern_15, mv_Ev_row r_X8_readPattern_16, mv_Ev_row r_X8_readPattern_17, mv_Ev_row r_X8_readPattern_18, mv_Ev_row r_X8_readPattern_21, mv_Ev_row r_X8_readPattern_24, mv_Ev_row r_X8_readPattern_27, mv_Ev_row r_X8_readPattern_28, mv_Ev_row r_X8_readPattern_29, mv_Ev_row r_X8_readPattern_32, mv_Ev_row r_X8_readPattern_35, mv_Ev_row r_X8_readPattern_36, ea_aload_n, ea_iconst, pp_5_5, ea_istore_n, ea_iload_n, ea_icmp, kv_X8_readPart, ea_ifc, ea_ireturn, ez_ret, ez_retc, ea_iinc, eb_inc, ea_goto, cz_eq, cz_ne, cz_lt, cz_ge, cz_gt, cz_le, c0_eq, c0_ne, c0_lt, c0_ge, c0_gt, c0_le, mv_ac, decide_eq_true_eq, not_true_eq_false, and_self, and_true, true_and, ea_2n, ea_2f, ea_2c, ea_if, if_pos, if_neg, mv_lk, mv_f1, mv_f2, Value.category, List.filter, ↓reduceIte, Nat.reduceEqDiff, Nat.reduceAdd, Nat.reduceLT, Nat.reduceBEq, Nat.zero_add, Nat.add_zero, Nat.zero_ne_one, Nat.one_ne_zero, Bool.not_true, Bool.not_false, Bool.and_true, Bool.true_and, Bool.and_false, Bool.false_and, BEq.rfl, beq_self_eq_true, Bool.false_eq_true, reduceCtorEq, not_false_eq_true, fv0, fv1, fv2, fv3, eb_l0, eb_l1, eb_l2, eb_l3, eb_l4, eb_l5, eb_s0, eb_s1, eb_s2, eb_s3, eb_s4, eb_s5, oz_add, oz_sub, oz_mul, oz_neg, ol_add, ol_sub, sD_eq, sD_sD, sD_ne, sD_in, sD_in2, sD_in3, upR_is, upR_ne, mk_v, mk_n, mk_x, mk_i, mv_cs, Nat.reduceLeDiff, mv_ch_z, nh_X8_readPattern, z8_137, z8_k]
  exact mv_Es q
theorem zLet8_chr {i : Nat} (hi : i < 8) : zLet8 (zChr i) = i ∧ 97 ≤ zChr i ∧ zChr i ≤ 115 := by
  have h : ∀ i, i < 8 → zLet8 (zChr i) = i ∧ 97 ≤ zChr i ∧ zChr i ≤ 115 := by decide
  exact h i hi
theorem zLet8_no {v : Int} (h : ∀ j, j < 8 → ¬ v = zChr j) : zLet8 v = 8 := by
  have h0 := h 0 (by omega)
  have h1 := h 1 (by omega)
  have h2 := h 2 (by omega)
  have h3 := h 3 (by omega)
  have h4 := h 4 (by omega)
  have h5 := h 5 (by omega)
  have h6 := h 6 (by omega)
  have h7 := h 7 (by omega)
  simp only [zChr] at h0 h1 h2 h3 h4 h5 h6 h7
  unfold zLet8
  rw [if_neg h0, if_neg h1, if_neg h2, if_neg h3, if_neg h4, if_neg h5, if_neg h6, if_neg h7]
theorem gz_ch0 {q nx b w i : Nat} {ls : mv_V} {st : List Value} {σ : mv_S} (hi : i < 8) : mv_stp L xs (.invokevirtual q, nx, 904, b, w) ls (.int (Int32.ofInt 0) :: .ref (1030 + i) :: st) σ = if mv_cs st ≤ 8 then some (.inl (nx, ls, .int (Int32.ofInt (zChr i)) :: st, σ)) else none := by
  have h : ∀ i, i < 8 → 0 < (mv_pat i).length ∧ (((mv_pat i).getD 0 0 : Nat) : Int) = zChr i := by decide
  rw [gz_chr hi (by omega) (by have := (h i hi).1; omega), show (0 : Int).toNat = 0 from rfl, (h i hi).2]
theorem lp_X8_cmdAt (l0 : 0 ≤ T.1 137 1) (l60 : T.1 137 1 ≤ 60) (hx : ∀ j, 0 ≤ j → j < T.1 137 1 → 0 ≤ T.1 138 j ∧ T.1 138 j < 65536) (p0 : 0 ≤ p) (pl : p < T.1 137 1) : ∀ (n i : Nat), i + n = 8 → (∀ j, j < i → ¬ T.1 138 p = zChr j) → mv_Ev L xs (mv_cl L xs d) k_X8_commandAtPosition 15 [(1, .int (Int32.ofInt i)), (0, .ref 137)] [] (t, 149, mz (z8 T c p k A)) (.inl (some (if zFst (T.1 138) (T.1 137 1) p = 8 then .null else .ref (1000 + zFst (T.1 138) (T.1 137 1) p))), (t, 149, mz (z8 T c p k A))) := by
  have hp := hx p p0 pl
  intro n
  induction n with
  | zero =>
    intro i hn hj
    have e : zFst (T.1 138) (T.1 137 1) p = 8 := by
      unfold zFst
      rw [if_pos pl]
      exact zLet8_no (fun j h => hj j (by omega))
    rw [e]
    simp (disch := omega) only [mv_Ev_row r_X8_commandAtPosition_0, mv_Ev_row r_X8_commandAtPosition_1, mv_Ev_row r_X8_commandAtPosition_4, mv_Ev_row r_X8_commandAtPosition_5, mv_Ev_row r_X8_commandAtPosition_8, mv_Ev_row r_X8_commandAtPosition_11, mv_Ev_row r_X8_commandAtPosition_12, mv_Ev_row r_X8_commandAtPosition_13, mv_Ev_row r_X8_commandAtPosition_14, mv_Ev_row r_X8_commandAtPosition_15, mv_Ev_row r_X8_commandAtPosition_16, mv_Ev_row r_X8_commandAtPosition_19, mv_Ev_row r_X8_commandAtPosition_20, mv_Ev_row r_X8_commandAtPosition_23, mv_Ev_row r_X8_commandAtPosition_26, mv_Ev_row r_X8_commandAtPosition_27, mv_Ev_row r_X8_commandAtPosition_28, mv_Ev_row r_X8_commandAtPosition_31, mv_Ev_row r_X8_commandAtPosition_32, mv_Ev_row r_X8_commandAtPosition_35, mv_Ev_row r_X8_commandAtPosition_36, mv_Ev_row r_X8_commandAtPosition_39, mv_Ev_row r_X8_commandAtPosition_40, mv_Ev_row r_X8_commandAtPosition_43, mv_Ev_row r_X8_commandAtPosition_44, mv_Ev_row r_X8_commandAtPosition_47, mv_Ev_row r_X8_commandAtPosition_50, mv_Ev_row r_X8_commandAtPosition_51, mv_Ev_row r_X8_commandAtPosition_52, mv_Ev_row r_X8_commandAtPosition_53, mv_Ev_row r_X8_commandAtPosition_56, mv_Ev_row r_X8_commandAtPosition_59, mv_Ev_row r_X8_commandAtPosition_60, ea_aload_n, gg_5_2, gg_5_1, ea_icmp, ea_null, ea_aret, ea_aretN, ea_iconst, ea_istore_n, ea_iload_n, ea_static, gz_pat, gg_5_0, ea_iinc, eb_inc, ea_goto, ar_ldc0 ai_138, ar_len ai_138 (by decide), ar_his, ar_try, ar_tln, cz_eq, cz_ne, cz_lt, cz_ge, cz_gt, cz_le, mv_ac, decide_eq_true_eq, not_true_eq_false, and_self, and_true, true_and, ea_2n, ea_2f, ea_2c, ea_if, if_pos, if_neg, mv_lk, mv_f1, mv_f2, Value.category, List.filter, ↓reduceIte, Nat.reduceEqDiff, Nat.reduceAdd, Nat.reduceLT, Nat.reduceBEq, Nat.zero_add, Nat.add_zero, Nat.zero_ne_one, Nat.one_ne_zero, Bool.not_true, Bool.not_false, Bool.and_true, Bool.true_and, Bool.and_false, Bool.false_and, BEq.rfl, beq_self_eq_true, Bool.false_eq_true, reduceCtorEq, not_false_eq_true, fv0, fv1, fv2, fv3, eb_l0, eb_l1, eb_l2, eb_l3, eb_l4, eb_l5, eb_s0, eb_s1, eb_s2, eb_s3, eb_s4, eb_s5, oz_add, oz_sub, oz_mul, oz_neg, ol_add, ol_sub, sD_eq, sD_sD, sD_ne, sD_in, sD_in2, sD_in3, upR_is, upR_ne, mk_v, mk_n, mk_x, mk_i, mv_cs, Nat.reduceLeDiff, mv_ch_z, nh_X8_commandAtPosition, gs_cln]
  | succ n ih =>
    intro i hn hj
    have hi : i < 8 := by omega
    obtain ⟨z1, z2, z3⟩ := zLet8_chr hi
    by_cases e : T.1 138 p = zChr i
    · have e9 : zFst (T.1 138) (T.1 137 1) p = i := by
        unfold zFst
        rw [if_pos pl, e, z1]
      rw [e9, if_neg (by omega : ¬ i = 8)]
      rw [mv_Ev_row r_X8_commandAtPosition_15]
      simp (disch := omega) only [mv_Ev_row r_X8_commandAtPosition_0, mv_Ev_row r_X8_commandAtPosition_1, mv_Ev_row r_X8_commandAtPosition_4, mv_Ev_row r_X8_commandAtPosition_5, mv_Ev_row r_X8_commandAtPosition_8, mv_Ev_row r_X8_commandAtPosition_11, mv_Ev_row r_X8_commandAtPosition_12, mv_Ev_row r_X8_commandAtPosition_13, mv_Ev_row r_X8_commandAtPosition_14, mv_Ev_row r_X8_commandAtPosition_16, mv_Ev_row r_X8_commandAtPosition_19, mv_Ev_row r_X8_commandAtPosition_20, mv_Ev_row r_X8_commandAtPosition_23, mv_Ev_row r_X8_commandAtPosition_26, mv_Ev_row r_X8_commandAtPosition_27, mv_Ev_row r_X8_commandAtPosition_28, mv_Ev_row r_X8_commandAtPosition_31, mv_Ev_row r_X8_commandAtPosition_32, mv_Ev_row r_X8_commandAtPosition_35, mv_Ev_row r_X8_commandAtPosition_36, mv_Ev_row r_X8_commandAtPosition_39, mv_Ev_row r_X8_commandAtPosition_40, mv_Ev_row r_X8_commandAtPosition_43, mv_Ev_row r_X8_commandAtPosition_44, mv_Ev_row r_X8_commandAtPosition_47, mv_Ev_row r_X8_commandAtPosition_50, mv_Ev_row r_X8_commandAtPosition_51, mv_Ev_row r_X8_commandAtPosition_52, mv_Ev_row r_X8_commandAtPosition_53, mv_Ev_row r_X8_commandAtPosition_56, mv_Ev_row r_X8_commandAtPosition_59, mv_Ev_row r_X8_commandAtPosition_60, ea_aload_n, gg_5_2, gg_5_1, ea_icmp, ea_null, ea_aret, ea_aretN, ea_iconst, ea_istore_n, ea_iload_n, ea_static, gz_pat, gg_5_0, ea_iinc, eb_inc, ea_goto, ar_ldc0 ai_138, ar_len ai_138 (by decide), ar_his, ar_try, ar_tln, cz_eq, cz_ne, cz_lt, cz_ge, cz_gt, cz_le, mv_ac, decide_eq_true_eq, not_true_eq_false, and_self, and_true, true_and, ea_2n, ea_2f, ea_2c, ea_if, if_pos, if_neg, mv_lk, mv_f1, mv_f2, Value.category, List.filter, ↓reduceIte, Nat.reduceEqDiff, Nat.reduceAdd, Nat.reduceLT, Nat.reduceBEq, Nat.zero_add, Nat.add_zero, Nat.zero_ne_one, Nat.one_ne_zero, Bool.not_true, Bool.not_false, Bool.and_true, Bool.true_and, Bool.and_false, Bool.false_and, BEq.rfl, beq_self_eq_true, Bool.false_eq_true, reduceCtorEq, not_false_eq_true, fv0, fv1, fv2, fv3, eb_l0, eb_l1, eb_l2, eb_l3, eb_l4, eb_l5, eb_s0, eb_s1, eb_s2, eb_s3, eb_s4, eb_s5, oz_add, oz_sub, oz_mul, oz_neg, ol_add, ol_sub, sD_eq, sD_sD, sD_ne, sD_in, sD_in2, sD_in3, upR_is, upR_ne, mk_v, mk_n, mk_x, mk_i, mv_cs, Nat.reduceLeDiff, mv_ch_z, nh_X8_commandAtPosition, gs_cln, gs_cld, Int.toNat_natCast, gz_pat hi, gz_ch0 hi, z8_137, z8_138, zFk_1, zFk_2]
    · have h := ih (i + 1) (by omega) (fun j hj2 => by
        by_cases e3 : j = i
        · subst e3; exact e
        · exact hj j (by omega))
      rw [show ((i + 1 : Nat) : Int) = (i : Int) + 1 by omega] at h
      rw [mv_Ev_row r_X8_commandAtPosition_15]
      simp (disch := omega) only [mv_Ev_row r_X8_commandAtPosition_0, mv_Ev_row r_X8_commandAtPosition_1, mv_Ev_row r_X8_commandAtPosition_4, mv_Ev_row r_X8_commandAtPosition_5, mv_Ev_row r_X8_commandAtPosition_8, mv_Ev_row r_X8_commandAtPosition_11, mv_Ev_row r_X8_commandAtPosition_12, mv_Ev_row r_X8_commandAtPosition_13, mv_Ev_row r_X8_commandAtPosition_14, mv_Ev_row r_X8_commandAtPosition_16, mv_Ev_row r_X8_commandAtPosition_19, mv_Ev_row r_X8_commandAtPosition_20, mv_Ev_row r_X8_commandAtPosition_23, mv_Ev_row r_X8_commandAtPosition_26, mv_Ev_row r_X8_commandAtPosition_27, mv_Ev_row r_X8_commandAtPosition_28, mv_Ev_row r_X8_commandAtPosition_31, mv_Ev_row r_X8_commandAtPosition_32, mv_Ev_row r_X8_commandAtPosition_35, mv_Ev_row r_X8_commandAtPosition_36, mv_Ev_row r_X8_commandAtPosition_39, mv_Ev_row r_X8_commandAtPosition_40, mv_Ev_row r_X8_commandAtPosition_43, mv_Ev_row r_X8_commandAtPosition_44, mv_Ev_row r_X8_commandAtPosition_47, mv_Ev_row r_X8_commandAtPosition_50, mv_Ev_row r_X8_commandAtPosition_51, mv_Ev_row r_X8_commandAtPosition_52, mv_Ev_row r_X8_commandAtPosition_53, mv_Ev_row r_X8_commandAtPosition_56, mv_Ev_row r_X8_commandAtPosition_59, mv_Ev_row r_X8_commandAtPosition_60, ea_aload_n, gg_5_2, gg_5_1, ea_icmp, ea_null, ea_aret, ea_aretN, ea_iconst, ea_istore_n, ea_iload_n, ea_static, gz_pat, gg_5_0, ea_iinc, eb_inc, ea_goto, ar_ldc0 ai_138, ar_len ai_138 (by decide), ar_his, ar_try, ar_tln, cz_eq, cz_ne, cz_lt, cz_ge, cz_gt, cz_le, mv_ac, decide_eq_true_eq, not_true_eq_false, and_self, and_true, true_and, ea_2n, ea_2f, ea_2c, ea_if, if_pos, if_neg, mv_lk, mv_f1, mv_f2, Value.category, List.filter, ↓reduceIte, Nat.reduceEqDiff, Nat.reduceAdd, Nat.reduceLT, Nat.reduceBEq, Nat.zero_add, Nat.add_zero, Nat.zero_ne_one, Nat.one_ne_zero, Bool.not_true, Bool.not_false, Bool.and_true, Bool.true_and, Bool.and_false, Bool.false_and, BEq.rfl, beq_self_eq_true, Bool.false_eq_true, reduceCtorEq, not_false_eq_true, fv0, fv1, fv2, fv3, eb_l0, eb_l1, eb_l2, eb_l3, eb_l4, eb_l5, eb_s0, eb_s1, eb_s2, eb_s3, eb_s4, eb_s5, oz_add, oz_sub, oz_mul, oz_neg, ol_add, ol_sub, sD_eq, sD_sD, sD_ne, sD_in, sD_in2, sD_in3, upR_is, upR_ne, mk_v, mk_n, mk_x, mk_i, mv_cs, Nat.reduceLeDiff, mv_ch_z, nh_X8_commandAtPosition, gs_cln, gs_cld, Int.toNat_natCast, gz_pat hi, gz_ch0 hi, z8_137, z8_138, zFk_1, zFk_2]
      exact mv_Es h
theorem c_X8_cmdAt (hd : 1 ≤ d) (l0 : 0 ≤ T.1 137 1) (l60 : T.1 137 1 ≤ 60) (hx : ∀ j, 0 ≤ j → j < T.1 137 1 → 0 ≤ T.1 138 j ∧ T.1 138 j < 65536) (p0 : 0 ≤ p) (pl : p ≤ T.1 137 1) : mv_cl L xs d k_X8_commandAtPosition [.ref 137] (t, 149, mz (z8 T c p k A)) = some (.inl (some (if zFst (T.1 138) (T.1 137 1) p = 8 then .null else .ref (1000 + zFst (T.1 138) (T.1 137 1) p))), (t, 149, mz (z8 T c p k A))) := by
  obtain ⟨d, rfl⟩ : ∃ e, d = e + 1 := ⟨d - 1, by omega⟩
  apply mv_cl_of
  simp only [mv_il, Value.category, Nat.zero_add, Nat.reduceAdd]
  by_cases q : p < T.1 137 1
  · have h := lp_X8_cmdAt (L := L) (xs := xs) (t := t) (T := T) (A := A) (c := c) (k := k) (d := d) l0 l60 hx p0 q 8 0 (by omega) (fun j hj => by omega)
    generalize (if zFst (T.1 138) (T.1 137 1) p = 8 then Value.null else Value.ref (1000 + zFst (T.1 138) (T.1 137 1) p)) = r at h ⊢
    rw [show ((0 : Nat) : Int) = 0 from rfl] at h
    simp (disch := omega) only [mv_Ev_row r_X8_commandAtPosition_0, mv_Ev_row r_X8_commandAtPosition_1, mv_Ev_row r_X8_commandAtPosition_4, mv_Ev_row r_X8_commandAtPosition_5, mv_Ev_row r_X8_commandAtPosition_8, mv_Ev_row r_X8_commandAtPosition_11, mv_Ev_row r_X8_commandAtPosition_12, mv_Ev_row r_X8_commandAtPosition_13, mv_Ev_row r_X8_commandAtPosition_14, mv_Ev_row r_X8_commandAtPosition_16, mv_Ev_row r_X8_commandAtPosition_19, mv_Ev_row r_X8_commandAtPosition_20, mv_Ev_row r_X8_commandAtPosition_23, mv_Ev_row r_X8_commandAtPosition_26, mv_Ev_row r_X8_commandAtPosition_27, mv_Ev_row r_X8_commandAtPosition_28, mv_Ev_row r_X8_commandAtPosition_31, mv_Ev_row r_X8_commandAtPosition_32, mv_Ev_row r_X8_commandAtPosition_35, mv_Ev_row r_X8_commandAtPosition_36, mv_Ev_row r_X8_commandAtPosition_39, mv_Ev_row r_X8_commandAtPosition_40, mv_Ev_row r_X8_commandAtPosition_43, mv_Ev_row r_X8_commandAtPosition_44, mv_Ev_row r_X8_commandAtPosition_47, mv_Ev_row r_X8_commandAtPosition_50, mv_Ev_row r_X8_commandAtPosition_51, mv_Ev_row r_X8_commandAtPosition_52, mv_Ev_row r_X8_commandAtPosition_53, mv_Ev_row r_X8_commandAtPosition_56, mv_Ev_row r_X8_commandAtPosition_59, mv_Ev_row r_X8_commandAtPosition_60, ea_aload_n, gg_5_2, gg_5_1, ea_icmp, ea_null, ea_aret, ea_aretN, ea_iconst, ea_istore_n, ea_iload_n, ea_static, gz_pat, gg_5_0, ea_iinc, eb_inc, ea_goto, ar_ldc0 ai_138, ar_len ai_138 (by decide), ar_his, ar_try, ar_tln, cz_eq, cz_ne, cz_lt, cz_ge, cz_gt, cz_le, mv_ac, decide_eq_true_eq, not_true_eq_false, and_self, and_true, true_and, ea_2n, ea_2f, ea_2c, ea_if, if_pos, if_neg, mv_lk, mv_f1, mv_f2, Value.category, List.filter, ↓reduceIte, Nat.reduceEqDiff, Nat.reduceAdd, Nat.reduceLT, Nat.reduceBEq, Nat.zero_add, Nat.add_zero, Nat.zero_ne_one, Nat.one_ne_zero, Bool.not_true, Bool.not_false, Bool.and_true, Bool.true_and, Bool.and_false, Bool.false_and, BEq.rfl, beq_self_eq_true, Bool.false_eq_true, reduceCtorEq, not_false_eq_true, fv0, fv1, fv2, fv3, eb_l0, eb_l1, eb_l2, eb_l3, eb_l4, eb_l5, eb_s0, eb_s1, eb_s2, eb_s3, eb_s4, eb_s5, oz_add, oz_sub, oz_mul, oz_neg, ol_add, ol_sub, sD_eq, sD_sD, sD_ne, sD_in, sD_in2, sD_in3, upR_is, upR_ne, mk_v, mk_n, mk_x, mk_i, mv_cs, Nat.reduceLeDiff, mv_ch_z, nh_X8_commandAtPosition, z8_137, zFk_1, zFk_2]
    exact mv_Es h
  · have e : zFst (T.1 138) (T.1 137 1) p = 8 := by unfold zFst; rw [if_neg q]
    rw [e]
    simp (disch := omega) only [mv_Ev_row r_X8_commandAtPosition_0, mv_Ev_row r_X8_commandAtPosition_1, mv_Ev_row r_X8_commandAtPosition_4, mv_Ev_row r_X8_commandAtPosition_5, mv_Ev_row r_X8_commandAtPosition_8, mv_Ev_row r_X8_commandAtPosition_11, mv_Ev_row r_X8_commandAtPosition_12, mv_Ev_row r_X8_commandAtPosition_13, mv_Ev_row r_X8_commandAtPosition_14, mv_Ev_row r_X8_commandAtPosition_16, mv_Ev_row r_X8_commandAtPosition_19, mv_Ev_row r_X8_commandAtPosition_20, mv_Ev_row r_X8_commandAtPosition_23, mv_Ev_row r_X8_commandAtPosition_26, mv_Ev_row r_X8_commandAtPosition_27, mv_Ev_row r_X8_commandAtPosition_28, mv_Ev_row r_X8_commandAtPosition_31, mv_Ev_row r_X8_commandAtPosition_32, mv_Ev_row r_X8_commandAtPosition_35, mv_Ev_row r_X8_commandAtPosition_36, mv_Ev_row r_X8_commandAtPosition_39, mv_Ev_row r_X8_commandAtPosition_40, mv_Ev_row r_X8_commandAtPosition_43, mv_Ev_row r_X8_commandAtPosition_44, mv_Ev_row r_X8_commandAtPosition_47, mv_Ev_row r_X8_commandAtPosition_50, mv_Ev_row r_X8_commandAtPosition_51, mv_Ev_row r_X8_commandAtPosition_52, mv_Ev_row r_X8_commandAtPosition_53, mv_Ev_row r_X8_commandAtPosition_56, mv_Ev_row r_X8_commandAtPosition_59, mv_Ev_row r_X8_commandAtPosition_60, ea_aload_n, gg_5_2, gg_5_1, ea_icmp, ea_null, ea_aret, ea_aretN, ea_iconst, ea_istore_n, ea_iload_n, ea_static, gz_pat, gg_5_0, ea_iinc, eb_inc, ea_goto, ar_ldc0 ai_138, ar_len ai_138 (by decide), ar_his, ar_try, ar_tln, cz_eq, cz_ne, cz_lt, cz_ge, cz_gt, cz_le, mv_ac, decide_eq_true_eq, not_true_eq_false, and_self, and_true, true_and, ea_2n, ea_2f, ea_2c, ea_if, if_pos, if_neg, mv_lk, mv_f1, mv_f2, Value.category, List.filter, ↓reduceIte, Nat.reduceEqDiff, Nat.reduceAdd, Nat.reduceLT, Nat.reduceBEq, Nat.zero_add, Nat.add_zero, Nat.zero_ne_one, Nat.one_ne_zero, Bool.not_true, Bool.not_false, Bool.and_true, Bool.true_and, Bool.and_false, Bool.false_and, BEq.rfl, beq_self_eq_true, Bool.false_eq_true, reduceCtorEq, not_false_eq_true, fv0, fv1, fv2, fv3, eb_l0, eb_l1, eb_l2, eb_l3, eb_l4, eb_l5, eb_s0, eb_s1, eb_s2, eb_s3, eb_s4, eb_s5, oz_add, oz_sub, oz_mul, oz_neg, ol_add, ol_sub, sD_eq, sD_sD, sD_ne, sD_in, sD_in2, sD_in3, upR_is, upR_ne, mk_v, mk_n, mk_x, mk_i, mv_cs, Nat.reduceLeDiff, mv_ch_z, nh_X8_commandAtPosition, z8_137, zFk_1, zFk_2]
/-- arguments as they can stand -/
def zAb (A : Int → Int) : Prop := ∀ j : Int, 0 ≤ j → j < 3 → 0 ≤ A j ∧ A j ≤ 99
theorem zAb_zAa {A : Int → Int} {as : List Int} (h : zArg as) (hA : zAb A) : zAb (zAa A as) := by
  intro j h0 h1
  unfold zAa
  split
  · exact h j.toNat
  · exact hA j h0 h1
theorem lp_X8_rc (hd : 4 ≤ d) (l0 : 0 ≤ T.1 137 1) (l60 : T.1 137 1 ≤ 60) (hx : ∀ j, 0 ≤ j → j < T.1 137 1 → 0 ≤ T.1 138 j ∧ T.1 138 j < 65536) (p0 : 0 ≤ p) (pl : p ≤ T.1 137 1) : ∃ c' k' A', ((zOne (T.1 138) (T.1 137 1) p).1 = true → c' = zFst (T.1 138) (T.1 137 1) p ∧ A' = zAa A (zOne (T.1 138) (T.1 137 1) p).2.2) ∧ ((c < 8 → c' < 8) ∧ (zAb A → zAb A')) ∧ mv_Ev L xs (mv_cl L xs d) k_X8_readCommand 18 [(0, .ref 137)] [] (t, 149, mz (z8 T c p k A)) (.inl (some (.int (Int32.ofInt (zb2 (zOne (T.1 138) (T.1 137 1) p).1)))), (t, 149, mz (z8 T c' (zOne (T.1 138) (T.1 137 1) p).2.1 k' A'))) := by
  have q1 := c_X8_cmdAt (L := L) (xs := xs) (t := t) (T := T) (A := A) (c := c) (k := k) (p := p) (d := d) (by omega) l0 l60 hx p0 pl
  by_cases e : zFst (T.1 138) (T.1 137 1) p = 8
  · rw [if_pos e] at q1
    have e1 : zOne (T.1 138) (T.1 137 1) p = (false, p, []) := by unfold zOne; rw [if_pos e]
    rw [e1]
    refine ⟨c, k, A, fun h => (by cases h), ⟨fun h => h, fun h => h⟩, ?_⟩
    dsimp only
    simp (disch := omega) only [mv_Ev_row r_X8_readCommand_0, mv_Ev_row r_X8_readCommand_1, mv_Ev_row r_X8_readCommand_4, mv_Ev_row r_X8_readCommand_7, mv_Ev_row r_X8_readCommand_8, mv_Ev_row r_X8_readCommand_10, mv_Ev_row r_X8_readCommand_13, mv_Ev_row r_X8_readCommand_16, mv_Ev_row r_X8_readCommand_17, mv_Ev_row r_X8_readCommand_18, mv_Ev_row r_X8_readCommand_19, mv_Ev_row r_X8_readCommand_22, mv_Ev_row r_X8_readCommand_23, mv_Ev_row r_X8_readCommand_24, mv_Ev_row r_X8_readCommand_27, mv_Ev_row r_X8_readCommand_28, mv_Ev_row r_X8_readCommand_29, mv_Ev_row r_X8_readCommand_30, mv_Ev_row r_X8_readCommand_31, mv_Ev_row r_X8_readCommand_34, mv_Ev_row r_X8_readCommand_35, mv_Ev_row r_X8_readCommand_36, mv_Ev_row r_X8_readCommand_39, mv_Ev_row r_X8_readCommand_42, ea_aload_n, gg_5_2, ea_ifc, ea_bipush, kv_X8_readSign, ea_iconst, ea_ireturn, ez_ret, ez_retc, kv_X8_commandAtPosition, ea_astore_n, ea_nnr, ea_nnn, pp_5_3, gz_pat, kv_X8_readPattern, bz_59, c0_eq, c0_ne, c0_lt, c0_ge, c0_gt, c0_le, mv_ac, decide_eq_true_eq, not_true_eq_false, and_self, and_true, true_and, ea_2n, ea_2f, ea_2c, ea_if, if_pos, if_neg, mv_lk, mv_f1, mv_f2, Value.category, List.filter, ↓reduceIte, Nat.reduceEqDiff, Nat.reduceAdd, Nat.reduceLT, Nat.reduceBEq, Nat.zero_add, Nat.add_zero, Nat.zero_ne_one, Nat.one_ne_zero, Bool.not_true, Bool.not_false, Bool.and_true, Bool.true_and, Bool.and_false, Bool.false_and, BEq.rfl, beq_self_eq_true, Bool.false_eq_true, reduceCtorEq, not_false_eq_true, fv0, fv1, fv2, fv3, eb_l0, eb_l1, eb_l2, eb_l3, eb_l4, eb_l5, eb_s0, eb_s1, eb_s2, eb_s3, eb_s4, eb_s5, oz_add, oz_sub, oz_mul, oz_neg, ol_add, ol_sub, sD_eq, sD_sD, sD_ne, sD_in, sD_in2, sD_in3, upR_is, upR_ne, mk_v, mk_n, mk_x, mk_i, mv_cs, Nat.reduceLeDiff, mv_ch_z, nh_X8_readCommand, q1, zb2_f]
  · have hlt : zFst (T.1 138) (T.1 137 1) p < 8 := by
      have : zFst (T.1 138) (T.1 137 1) p ≤ 8 := by
        unfold zFst
        split
        · exact zLet8_le _
        · omega
      omega
    rw [if_neg e] at q1
    have e1 : zOne (T.1 138) (T.1 137 1) p = zPat (T.1 138) (T.1 137 1) (mv_pat (zFst (T.1 138) (T.1 137 1) p)) p [] := by unfold zOne; rw [if_neg e]
    rw [e1]
    have q2 := c_X8_readPattern (L := L) (xs := xs) (t := t) (T := T) (A := A) (c := zFst (T.1 138) (T.1 137 1) p) (k := k) (p := p) (d := d) hd hlt l0 l60 hx p0 pl
    generalize zFst (T.1 138) (T.1 137 1) p = i at q1 q2 hlt ⊢
    refine ⟨i, ((zPat (T.1 138) (T.1 137 1) (mv_pat i) p []).2.2.length : Nat), zAa A (zPat (T.1 138) (T.1 137 1) (mv_pat i) p []).2.2, fun _ => ⟨rfl, rfl⟩, ⟨fun _ => hlt, fun h => zAb_zAa (zPat_arg _ _ _ _ _ zArg_nil) h⟩, ?_⟩
    rcases hb : (zPat (T.1 138) (T.1 137 1) (mv_pat i) p []).1 with _ | _
    · rw [hb, zb2_f] at q2
      rw [zb2_f]
      simp (disch := omega) only [mv_Ev_row r_X8_readCommand_0, mv_Ev_row r_X8_readCommand_1, mv_Ev_row r_X8_readCommand_4, mv_Ev_row r_X8_readCommand_7, mv_Ev_row r_X8_readCommand_8, mv_Ev_row r_X8_readCommand_10, mv_Ev_row r_X8_readCommand_13, mv_Ev_row r_X8_readCommand_16, mv_Ev_row r_X8_readCommand_17, mv_Ev_row r_X8_readCommand_18, mv_Ev_row r_X8_readCommand_19, mv_Ev_row r_X8_readCommand_22, mv_Ev_row r_X8_readCommand_23, mv_Ev_row r_X8_readCommand_24, mv_Ev_row r_X8_readCommand_27, mv_Ev_row r_X8_readCommand_28, mv_Ev_row r_X8_readCommand_29, mv_Ev_row r_X8_readCommand_30, mv_Ev_row r_X8_readCommand_31, mv_Ev_row r_X8_readCommand_34, mv_Ev_row r_X8_readCommand_35, mv_Ev_row r_X8_readCommand_36, mv_Ev_row r_X8_readCommand_39, mv_Ev_row r_X8_readCommand_42, ea_aload_n, gg_5_2, ea_ifc, ea_bipush, kv_X8_readSign, ea_iconst, ea_ireturn, ez_ret, ez_retc, kv_X8_commandAtPosition, ea_astore_n, ea_nnr, ea_nnn, pp_5_3, gz_pat, kv_X8_readPattern, bz_59, c0_eq, c0_ne, c0_lt, c0_ge, c0_gt, c0_le, mv_ac, decide_eq_true_eq, not_true_eq_false, and_self, and_true, true_and, ea_2n, ea_2f, ea_2c, ea_if, if_pos, if_neg, mv_lk, mv_f1, mv_f2, Value.category, List.filter, ↓reduceIte, Nat.reduceEqDiff, Nat.reduceAdd, Nat.reduceLT, Nat.reduceBEq, Nat.zero_add, Nat.add_zero, Nat.zero_ne_one, Nat.one_ne_zero, Bool.not_true, Bool.not_false, Bool.and_true, Bool.true_and, Bool.and_false, Bool.false_and, BEq.rfl, beq_self_eq_true, Bool.false_eq_true, reduceCtorEq, not_false_eq_true, fv0, fv1, fv2, fv3, eb_l0, eb_l1, eb_l2, eb_l3, eb_l4, eb_l5, eb_s0, eb_s1, eb_s2, eb_s3, eb_s4, eb_s5, oz_add, oz_sub, oz_mul, oz_neg, ol_add, ol_sub, sD_eq, sD_sD, sD_ne, sD_in, sD_in2, sD_in3, upR_is, upR_ne, mk_v, mk_n, mk_x, mk_i, mv_cs, Nat.reduceLeDiff, mv_ch_z, nh_X8_readCommand, q1, gz_pat hlt, z8_c, q2]
    · rw [hb, zb2_t] at q2
      rw [zb2_t]
      simp (disch := omega) only [mv_Ev_row r_X8_readCommand_0, mv_Ev_row r_X8_readCommand_1, mv_Ev_row r_X8_readCommand_4, mv_Ev_row r_X8_readCommand_7, mv_Ev_row r_X8_readCommand_8, mv_Ev_row r_X8_readCommand_10, mv_Ev_row r_X8_readCommand_13, mv_Ev_row r_X8_readCommand_16, mv_Ev_row r_X8_readCommand_17, mv_Ev_row r_X8_readCommand_18, mv_Ev_row r_X8_readCommand_19, mv_Ev_row r_X8_readCommand_22, mv_Ev_row r_X8_readCommand_23, mv_Ev_row r_X8_readCommand_24, mv_Ev_row r_X8_readCommand_27, mv_Ev_row r_X8_readCommand_28, mv_Ev_row r_X8_readCommand_29, mv_Ev_row r_X8_readCommand_30, mv_Ev_row r_X8_readCommand_31, mv_Ev_row r_X8_readCommand_34, mv_Ev_row r_X8_readCommand_35, mv_Ev_row r_X8_readCommand_36, mv_Ev_row r_X8_readCommand_39, mv_Ev_row r_X8_readCommand_42, ea_aload_n, gg_5_2, ea_ifc, ea_bipush, kv_X8_readSign, ea_iconst, ea_ireturn, ez_ret, ez_retc, kv_X8_commandAtPosition, ea_astore_n, ea_nnr, ea_nnn, pp_5_3, gz_pat, kv_X8_readPattern, bz_59, c0_eq, c0_ne, c0_lt, c0_ge, c0_gt, c0_le, mv_ac, decide_eq_true_eq, not_true_eq_false, and_self, and_true, true_and, ea_2n, ea_2f, ea_2c, ea_if, if_pos, if_neg, mv_lk, mv_f1, mv_f2, Value.category, List.filter, ↓reduceIte, Nat.reduceEqDiff, Nat.reduceAdd, Nat.reduceLT, Nat.reduceBEq, Nat.zero_add, Nat.add_zero, Nat.zero_ne_one, Nat.one_ne_zero, Bool.not_true, Bool.not_false, Bool.and_true, Bool.true_and, Bool.and_false, Bool.false_and, BEq.rfl, beq_self_eq_true, Bool.false_eq_true, reduceCtorEq, not_false_eq_true, fv0, fv1, fv2, fv3, eb_l0, eb_l1, eb_l2, eb_l3, eb_l4, eb_l5, eb_s0, eb_s1, eb_s2, eb_s3, eb_s4, eb_s5, oz_add, oz_sub, oz_mul, oz_neg, ol_add, ol_sub, sD_eq, sD_sD, sD_ne, sD_in, sD_in2, sD_in3, upR_is, upR_ne, mk_v, mk_n, mk_x, mk_i, mv_cs, Nat.reduceLeDiff, mv_ch_z, nh_X8_readCommand, q1, gz_pat hlt, z8_c, q2]
theorem c_X8_readCommand (hd : 5 ≤ d) (l0 : 0 ≤ T.1 137 1) (l60 : T.1 137 1 ≤ 60) (hx : ∀ j, 0 ≤ j → j < T.1 137 1 → 0 ≤ T.1 138 j ∧ T.1 138 j < 65536) (p0 : 0 ≤ p) (pl : p ≤ T.1 137 1) : ∃ c' k' A', ((zRc (T.1 138) (T.1 137 1) p).1 = true → c' = zFst (T.1 138) (T.1 137 1) (zRcp (T.1 138) (T.1 137 1) p) ∧ A' = zAa A (zRc (T.1 138) (T.1 137 1) p).2.2) ∧ ((c < 8 → c' < 8) ∧ (zAb A → zAb A')) ∧ mv_cl L xs d k_X8_readCommand [.ref 137] (t, 149, mz (z8 T c p k A)) = some (.inl (some (.int (Int32.ofInt (zb2 (zRc (T.1 138) (T.1 137 1) p).1)))), (t, 149, mz (z8 T c' (zRc (T.1 138) (T.1 137 1) p).2.1 k' A'))) := by
  have q1 := c_X8_readSign (L := L) (xs := xs) (t := t) (T := T) (A := A) (c := c) (k := k) (p := p) (d := d - 1) (v := 59) (by omega) (by omega) (by omega) p0 l0 l60 (by omega) hx
  by_cases hp : 0 < p
  · by_cases hs : p < T.1 137 1 ∧ T.1 138 p = 59
    · have e1 : zRc (T.1 138) (T.1 137 1) p = zOne (T.1 138) (T.1 137 1) (p + 1) := by unfold zRc zRcp; rw [if_neg (fun h => h.2 hs), if_pos hp]
      have e2 : zRcp (T.1 138) (T.1 137 1) p = p + 1 := by unfold zRcp; rw [if_pos hp]
      obtain ⟨c', k', A', h1, h2, h3⟩ := lp_X8_rc (L := L) (xs := xs) (t := t) (T := T) (A := A) (c := c) (k := k) (p := p + 1) (d := d - 1) (by omega) l0 l60 hx (by omega) (by omega)
      rw [e1, e2]
      refine ⟨c', k', A', h1, h2, ?_⟩
      rw [if_pos hs, if_pos hs] at q1
      obtain ⟨d, rfl⟩ : ∃ e, d = e + 1 := ⟨d - 1, by omega⟩
      apply mv_cl_of
      simp only [mv_il, Value.category, Nat.zero_add, Nat.reduceAdd]
      simp only [Nat.add_sub_cancel] at q1 h3
      simp (disch := omega) only [mv_Ev_row r_X8_readCommand_0, mv_Ev_row r_X8_readCommand_1, mv_Ev_row r_X8_readCommand_4, mv_Ev_row r_X8_readCommand_7, mv_Ev_row r_X8_readCommand_8, mv_Ev_row r_X8_readCommand_10, mv_Ev_row r_X8_readCommand_13, mv_Ev_row r_X8_readCommand_16, mv_Ev_row r_X8_readCommand_17, mv_Ev_row r_X8_readCommand_19, mv_Ev_row r_X8_readCommand_22, mv_Ev_row r_X8_readCommand_23, mv_Ev_row r_X8_readCommand_24, mv_Ev_row r_X8_readCommand_27, mv_Ev_row r_X8_readCommand_28, mv_Ev_row r_X8_readCommand_29, mv_Ev_row r_X8_readCommand_30, mv_Ev_row r_X8_readCommand_31, mv_Ev_row r_X8_readCommand_34, mv_Ev_row r_X8_readCommand_35, mv_Ev_row r_X8_readCommand_36, mv_Ev_row r_X8_readCommand_39, mv_Ev_row r_X8_readCommand_42, ea_aload_n, gg_5_2, ea_ifc, ea_bipush, kv_X8_readSign, ea_iconst, ea_ireturn, ez_ret, ez_retc, kv_X8_commandAtPosition, ea_astore_n, ea_nnr, ea_nnn, pp_5_3, gz_pat, kv_X8_readPattern, bz_59, c0_eq, c0_ne, c0_lt, c0_ge, c0_gt, c0_le, mv_ac, decide_eq_true_eq, not_true_eq_false, and_self, and_true, true_and, ea_2n, ea_2f, ea_2c, ea_if, if_pos, if_neg, mv_lk, mv_f1, mv_f2, Value.category, List.filter, ↓reduceIte, Nat.reduceEqDiff, Nat.reduceAdd, Nat.reduceLT, Nat.reduceBEq, Nat.zero_add, Nat.add_zero, Nat.zero_ne_one, Nat.one_ne_zero, Bool.not_true, Bool.not_false, Bool.and_true, Bool.true_and, Bool.and_false, Bool.false_and, BEq.rfl, beq_self_eq_true, Bool.false_eq_true, reduceCtorEq, not_false_eq_true, fv0, fv1, fv2, fv3, eb_l0, eb_l1, eb_l2, eb_l3, eb_l4, eb_l5, eb_s0, eb_s1, eb_s2, eb_s3, eb_s4, eb_s5, oz_add, oz_sub, oz_mul, oz_neg, ol_add, ol_sub, sD_eq, sD_sD, sD_ne, sD_in, sD_in2, sD_in3, upR_is, upR_ne, mk_v, mk_n, mk_x, mk_i, mv_cs, Nat.reduceLeDiff, mv_ch_z, nh_X8_readCommand, q1, z8_137, zFk_2]
      exact mv_Es h3
    · have e1 : zRc (T.1 138) (T.1 137 1) p = (false, p, []) := by unfold zRc; rw [if_pos ⟨hp, hs⟩]
      rw [e1]
      refine ⟨c, k, A, fun h => (by cases h), ⟨fun h => h, fun h => h⟩, ?_⟩
      rw [if_neg hs, if_neg hs] at q1
      dsimp only
      obtain ⟨d, rfl⟩ : ∃ e, d = e + 1 := ⟨d - 1, by omega⟩
      apply mv_cl_of
      simp only [mv_il, Value.category, Nat.zero_add, Nat.reduceAdd]
      simp only [Nat.add_sub_cancel] at q1
      simp (disch := omega) only [mv_Ev_row r_X8_readCommand_0, mv_Ev_row r_X8_readCommand_1, mv_Ev_row r_X8_readCommand_4, mv_Ev_row r_X8_readCommand_7, mv_Ev_row r_X8_readCommand_8, mv_Ev_row r_X8_readCommand_10, mv_Ev_row r_X8_readCommand_13, mv_Ev_row r_X8_readCommand_16, mv_Ev_row r_X8_readCommand_17, mv_Ev_row r_X8_readCommand_19, mv_Ev_row r_X8_readCommand_22, mv_Ev_row r_X8_readCommand_23, mv_Ev_row r_X8_readCommand_24, mv_Ev_row r_X8_readCommand_27, mv_Ev_row r_X8_readCommand_28, mv_Ev_row r_X8_readCommand_29, mv_Ev_row r_X8_readCommand_30, mv_Ev_row r_X8_readCommand_31, mv_Ev_row r_X8_readCommand_34, mv_Ev_row r_X8_readCommand_35, mv_Ev_row r_X8_readCommand_36, mv_Ev_row r_X8_readCommand_39, mv_Ev_row r_X8_readCommand_42, ea_aload_n, gg_5_2, ea_ifc, ea_bipush, kv_X8_readSign, ea_iconst, ea_ireturn, ez_ret, ez_retc, kv_X8_commandAtPosition, ea_astore_n, ea_nnr, ea_nnn, pp_5_3, gz_pat, kv_X8_readPattern, bz_59, c0_eq, c0_ne, c0_lt, c0_ge, c0_gt, c0_le, mv_ac, decide_eq_true_eq, not_true_eq_false, and_self, and_true, true_and, ea_2n, ea_2f, ea_2c, ea_if, if_pos, if_neg, mv_lk, mv_f1, mv_f2, Value.category, List.filter, ↓reduceIte, Nat.reduceEqDiff, Nat.reduceAdd, Nat.reduceLT, Nat.reduceBEq, Nat.zero_add, Nat.add_zero, Nat.zero_ne_one, Nat.one_ne_zero, Bool.not_true, Bool.not_false, Bool.and_true, Bool.true_and, Bool.and_false, Bool.false_and, BEq.rfl, beq_self_eq_true, Bool.false_eq_true, reduceCtorEq, not_false_eq_true, fv0, fv1, fv2, fv3, eb_l0, eb_l1, eb_l2, eb_l3, eb_l4, eb_l5, eb_s0, eb_s1, eb_s2, eb_s3, eb_s4, eb_s5, oz_add, oz_sub, oz_mul, oz_neg, ol_add, ol_sub, sD_eq, sD_sD, sD_ne, sD_in, sD_in2, sD_in3, upR_is, upR_ne, mk_v, mk_n, mk_x, mk_i, mv_cs, Nat.reduceLeDiff, mv_ch_z, nh_X8_readCommand, q1, z8_137, zFk_2, zb2_f]
  · have e1 : zRc (T.1 138) (T.1 137 1) p = zOne (T.1 138) (T.1 137 1) p := by unfold zRc zRcp; rw [if_neg (fun h => hp h.1), if_neg hp]
    have e2 : zRcp (T.1 138) (T.1 137 1) p = p := by unfold zRcp; rw [if_neg hp]
    obtain ⟨c', k', A', h1, h2, h3⟩ := lp_X8_rc (L := L) (xs := xs) (t := t) (T := T) (A := A) (c := c) (k := k) (p := p) (d := d - 1) (by omega) l0 l60 hx p0 pl
    rw [e1, e2]
    refine ⟨c', k', A', h1, h2, ?_⟩
    obtain ⟨d, rfl⟩ : ∃ e, d = e + 1 := ⟨d - 1, by omega⟩
    apply mv_cl_of
    simp only [mv_il, Value.category, Nat.zero_add, Nat.reduceAdd]
    simp only [Nat.add_sub_cancel] at h3
    simp (disch := omega) only [mv_Ev_row r_X8_readCommand_0, mv_Ev_row r_X8_readCommand_1, mv_Ev_row r_X8_readCommand_4, mv_Ev_row r_X8_readCommand_7, mv_Ev_row r_X8_readCommand_8, mv_Ev_row r_X8_readCommand_10, mv_Ev_row r_X8_readCommand_13, mv_Ev_row r_X8_readCommand_16, mv_Ev_row r_X8_readCommand_17, mv_Ev_row r_X8_readCommand_19, mv_Ev_row r_X8_readCommand_22, mv_Ev_row r_X8_readCommand_23, mv_Ev_row r_X8_readCommand_24, mv_Ev_row r_X8_readCommand_27, mv_Ev_row r_X8_readCommand_28, mv_Ev_row r_X8_readCommand_29, mv_Ev_row r_X8_readCommand_30, mv_Ev_row r_X8_readCommand_31, mv_Ev_row r_X8_readCommand_34, mv_Ev_row r_X8_readCommand_35, mv_Ev_row r_X8_readCommand_36, mv_Ev_row r_X8_readCommand_39, mv_Ev_row r_X8_readCommand_42, ea_aload_n, gg_5_2, ea_ifc, ea_bipush, kv_X8_readSign, ea_iconst, ea_ireturn, ez_ret, ez_retc, kv_X8_commandAtPosition, ea_astore_n, ea_nnr, ea_nnn, pp_5_3, gz_pat, kv_X8_readPattern, bz_59, c0_eq, c0_ne, c0_lt, c0_ge, c0_gt, c0_le, mv_ac, decide_eq_true_eq, not_true_eq_false, and_self, and_true, true_and, ea_2n, ea_2f, ea_2c, ea_if, if_pos, if_neg, mv_lk, mv_f1, mv_f2, Value.category, List.filter, ↓reduceIte, Nat.reduceEqDiff, Nat.reduceAdd, Nat.reduceLT, Nat.reduceBEq, Nat.zero_add, Nat.add_zero, Nat.zero_ne_one, Nat.one_ne_zero, Bool.not_true, Bool.not_false, Bool.and_true, Bool.true_and, Bool.and_false, Bool.false_and, BEq.rfl, beq_self_eq_true, Bool.false_eq_true, reduceCtorEq, not_false_eq_true, fv0, fv1, fv2, fv3, eb_l0, eb_l1, eb_l2, eb_l3, eb_l4, eb_l5, eb_s0, eb_s1, eb_s2, eb_s3, eb_s4, eb_s5, oz_add, oz_sub, oz_mul, oz_neg, ol_add, ol_sub, sD_eq, sD_sD, sD_ne, sD_in, sD_in2, sD_in3, upR_is, upR_ne, mk_v, mk_n, mk_x, mk_i, mv_cs, Nat.reduceLeDiff, mv_ch_z, nh_X8_readCommand, z8_137, zFk_2]
    exact mv_Es h3
/-- the number of commands, or -1 -/
def zPc (m : Int) (r : Bool × Int × List (Nat × List Int)) : Int := if r.1 = true then m - 1 + r.2.2.length else -1
theorem zRc_le (X : Int → Int) (len : Int) {p : Int} (h : p ≤ len) : p ≤ (zRc X len p).2.1 ∧ (zRc X len p).2.1 ≤ len := by
  unfold zRc
  split
  · exact ⟨Int.le_refl _, h⟩
  · next h1 =>
    have hr : p ≤ zRcp X len p ∧ zRcp X len p ≤ len := by
      unfold zRcp
      split
      · next h2 =>
        by_cases h3 : p < len ∧ X p = 59
        · omega
        · exact absurd ⟨h2, h3⟩ h1
      · omega
    unfold zOne
    split
    · exact hr
    · have := zPat_le X len (mv_pat (zFst X len (zRcp X len p))) (zRcp X len p) []
      omega
theorem lp_X8_count (hd : 5 ≤ d) (l0 : 0 ≤ T.1 137 1) (l60 : T.1 137 1 ≤ 60) (hx : ∀ j, 0 ≤ j → j < T.1 137 1 → 0 ≤ T.1 138 j ∧ T.1 138 j < 65536) : ∀ (n : Nat) (m p : Int) (c : Nat) (k : Int) (A : Int → Int), 1 ≤ m → m + n = 61 → 0 ≤ p → p ≤ T.1 137 1 → ∃ c' k' A', ((c < 8 → c' < 8) ∧ (zAb A → zAb A')) ∧ mv_Ev L xs (mv_cl L xs d) k_X8_countCommands 7 [(1, .int (Int32.ofInt m)), (0, .ref 137)] [] (t, 149, mz (z8 T c p k A)) (.inl (some (.int (Int32.ofInt (zPc m (zPg (T.1 138) (T.1 137 1) n p))))), (t, 149, mz (z8 T c' (zPg (T.1 138) (T.1 137 1) n p).2.1 k' A'))) := by
  intro n
  induction n with
  | zero =>
    intro m p c k A m1 hn p0 pl
    refine ⟨c, k, A, ⟨fun h => h, fun h => h⟩, ?_⟩
    rw [zPg]
    dsimp only
    simp (disch := omega) only [mv_Ev_row r_X8_countCommands_0, mv_Ev_row r_X8_countCommands_1, mv_Ev_row r_X8_countCommands_2, mv_Ev_row r_X8_countCommands_5, mv_Ev_row r_X8_countCommands_6, mv_Ev_row r_X8_countCommands_7, mv_Ev_row r_X8_countCommands_8, mv_Ev_row r_X8_countCommands_10, mv_Ev_row r_X8_countCommands_13, mv_Ev_row r_X8_countCommands_14, mv_Ev_row r_X8_countCommands_17, mv_Ev_row r_X8_countCommands_20, mv_Ev_row r_X8_countCommands_21, mv_Ev_row r_X8_countCommands_22, mv_Ev_row r_X8_countCommands_23, mv_Ev_row r_X8_countCommands_26, mv_Ev_row r_X8_countCommands_27, mv_Ev_row r_X8_countCommands_30, mv_Ev_row r_X8_countCommands_33, mv_Ev_row r_X8_countCommands_34, mv_Ev_row r_X8_countCommands_35, mv_Ev_row r_X8_countCommands_38, mv_Ev_row r_X8_countCommands_41, mv_Ev_row r_X8_countCommands_42, ea_aload_n, ea_iconst, pp_5_2, ea_istore_n, ea_iload_n, ea_bipush, ea_icmp, kv_X8_readCommand, ea_ifc, ea_ireturn, ez_ret, ez_retc, gg_5_2, gg_5_1, ea_iinc, eb_inc, ea_goto, bz_60, cz_eq, cz_ne, cz_lt, cz_ge, cz_gt, cz_le, c0_eq, c0_ne, c0_lt, c0_ge, c0_gt, c0_le, mv_ac, decide_eq_true_eq, not_true_eq_false, and_self, and_true, true_and, ea_2n, ea_2f, ea_2c, ea_if, if_pos, if_neg, mv_lk, mv_f1, mv_f2, Value.category, List.filter, ↓reduceIte, Nat.reduceEqDiff, Nat.reduceAdd, Nat.reduceLT, Nat.reduceBEq, Nat.zero_add, Nat.add_zero, Nat.zero_ne_one, Nat.one_ne_zero, Bool.not_true, Bool.not_false, Bool.and_true, Bool.true_and, Bool.and_false, Bool.false_and, BEq.rfl, beq_self_eq_true, Bool.false_eq_true, reduceCtorEq, not_false_eq_true, fv0, fv1, fv2, fv3, eb_l0, eb_l1, eb_l2, eb_l3, eb_l4, eb_l5, eb_s0, eb_s1, eb_s2, eb_s3, eb_s4, eb_s5, oz_add, oz_sub, oz_mul, oz_neg, ol_add, ol_sub, sD_eq, sD_sD, sD_ne, sD_in, sD_in2, sD_in3, upR_is, upR_ne, mk_v, mk_n, mk_x, mk_i, mv_cs, Nat.reduceLeDiff, mv_ch_z, nh_X8_countCommands, zPc, if_false]
  | succ n ih =>
    intro m p c k A m1 hn p0 pl
    obtain ⟨c1, k1, A1, h1, h2, q⟩ := c_X8_readCommand (L := L) (xs := xs) (t := t) (T := T) (A := A) (c := c) (k := k) (p := p) (d := d) hd l0 l60 hx p0 pl
    have hle := zRc_le (T.1 138) (T.1 137 1) pl
    rw [zPg]
    by_cases ok : (zRc (T.1 138) (T.1 137 1) p).1 = true
    · rw [if_pos ok]
      rw [ok, zb2_t] at q
      by_cases e : (zRc (T.1 138) (T.1 137 1) p).2.1 = T.1 137 1
      · rw [if_pos e]
        dsimp only
        refine ⟨c1, k1, A1, h2, ?_⟩
        have ez : zPc m (true, T.1 137 1, [(zFst (T.1 138) (T.1 137 1) (zRcp (T.1 138) (T.1 137 1) p), (zRc (T.1 138) (T.1 137 1) p).2.2)]) = m := by
          unfold zPc
          simp
        rw [ez]
        rw [e] at q
        rw [mv_Ev_row r_X8_countCommands_7]
        simp (disch := omega) only [mv_Ev_row r_X8_countCommands_0, mv_Ev_row r_X8_countCommands_1, mv_Ev_row r_X8_countCommands_2, mv_Ev_row r_X8_countCommands_5, mv_Ev_row r_X8_countCommands_6, mv_Ev_row r_X8_countCommands_8, mv_Ev_row r_X8_countCommands_10, mv_Ev_row r_X8_countCommands_13, mv_Ev_row r_X8_countCommands_14, mv_Ev_row r_X8_countCommands_17, mv_Ev_row r_X8_countCommands_20, mv_Ev_row r_X8_countCommands_21, mv_Ev_row r_X8_countCommands_22, mv_Ev_row r_X8_countCommands_23, mv_Ev_row r_X8_countCommands_26, mv_Ev_row r_X8_countCommands_27, mv_Ev_row r_X8_countCommands_30, mv_Ev_row r_X8_countCommands_33, mv_Ev_row r_X8_countCommands_34, mv_Ev_row r_X8_countCommands_35, mv_Ev_row r_X8_countCommands_38, mv_Ev_row r_X8_countCommands_41, mv_Ev_row r_X8_countCommands_42, ea_aload_n, ea_iconst, pp_5_2, ea_istore_n, ea_iload_n, ea_bipush, ea_icmp, kv_X8_readCommand, ea_ifc, ea_ireturn, ez_ret, ez_retc, gg_5_2, gg_5_1, ea_iinc, eb_inc, ea_goto, bz_60, cz_eq, cz_ne, cz_lt, cz_ge, cz_gt, cz_le, c0_eq, c0_ne, c0_lt, c0_ge, c0_gt, c0_le, mv_ac, decide_eq_true_eq, not_true_eq_false, and_self, and_true, true_and, ea_2n, ea_2f, ea_2c, ea_if, if_pos, if_neg, mv_lk, mv_f1, mv_f2, Value.category, List.filter, ↓reduceIte, Nat.reduceEqDiff, Nat.reduceAdd, Nat.reduceLT, Nat.reduceBEq, Nat.zero_add, Nat.add_zero, Nat.zero_ne_one, Nat.one_ne_zero, Bool.not_true, Bool.not_false, Bool.and_true, Bool.true_and, Bool.and_false, Bool.false_and, BEq.rfl, beq_self_eq_true, Bool.false_eq_true, reduceCtorEq, not_false_eq_true, fv0, fv1, fv2, fv3, eb_l0, eb_l1, eb_l2, eb_l3, eb_l4, eb_l5, eb_s0, eb_s1, eb_s2, eb_s3, eb_s4, eb_s5, oz_add, oz_sub, oz_mul, oz_neg, ol_add, ol_sub, sD_eq, sD_sD, sD_ne, sD_in, sD_in2, sD_in3, upR_is, upR_ne, mk_v, mk_n, mk_x, mk_i, mv_cs, Nat.reduceLeDiff, mv_ch_z, nh_X8_countCommands, q, z8_137, zFk_1, zFk_2]
      · rw [if_neg e]
        obtain ⟨c2, k2, A2, g2, g3⟩ := ih (m + 1) (zRc (T.1 138) (T.1 137 1) p).2.1 c1 k1 A1 (by omega) (by omega) (by omega) hle.2
        refine ⟨c2, k2, A2, ⟨fun h => g2.1 (h2.1 h), fun h => g2.2 (h2.2 h)⟩, ?_⟩
        dsimp only
        have ez : ∀ (x : Nat × List Int) (r : Bool × Int × List (Nat × List Int)), zPc m (r.1, r.2.1, x :: r.2.2) = zPc (m + 1) r := by
          intro x r
          unfold zPc
          dsimp only
          rw [List.length_cons]
          split <;> omega
        rw [ez]
        rw [mv_Ev_row r_X8_countCommands_7]
        simp (disch := omega) only [mv_Ev_row r_X8_countCommands_0, mv_Ev_row r_X8_countCommands_1, mv_Ev_row r_X8_countCommands_2, mv_Ev_row r_X8_countCommands_5, mv_Ev_row r_X8_countCommands_6, mv_Ev_row r_X8_countCommands_8, mv_Ev_row r_X8_countCommands_10, mv_Ev_row r_X8_countCommands_13, mv_Ev_row r_X8_countCommands_14, mv_Ev_row r_X8_countCommands_17, mv_Ev_row r_X8_countCommands_20, mv_Ev_row r_X8_countCommands_21, mv_Ev_row r_X8_countCommands_22, mv_Ev_row r_X8_countCommands_23, mv_Ev_row r_X8_countCommands_26, mv_Ev_row r_X8_countCommands_27, mv_Ev_row r_X8_countCommands_30, mv_Ev_row r_X8_countCommands_33, mv_Ev_row r_X8_countCommands_34, mv_Ev_row r_X8_countCommands_35, mv_Ev_row r_X8_countCommands_38, mv_Ev_row r_X8_countCommands_41, mv_Ev_row r_X8_countCommands_42, ea_aload_n, ea_iconst, pp_5_2, ea_istore_n, ea_iload_n, ea_bipush, ea_icmp, kv_X8_readCommand, ea_ifc, ea_ireturn, ez_ret, ez_retc, gg_5_2, gg_5_1, ea_iinc, eb_inc, ea_goto, bz_60, cz_eq, cz_ne, cz_lt, cz_ge, cz_gt, cz_le, c0_eq, c0_ne, c0_lt, c0_ge, c0_gt, c0_le, mv_ac, decide_eq_true_eq, not_true_eq_false, and_self, and_true, true_and, ea_2n, ea_2f, ea_2c, ea_if, if_pos, if_neg, mv_lk, mv_f1, mv_f2, Value.category, List.filter, ↓reduceIte, Nat.reduceEqDiff, Nat.reduceAdd, Nat.reduceLT, Nat.reduceBEq, Nat.zero_add, Nat.add_zero, Nat.zero_ne_one, Nat.one_ne_zero, Bool.not_true, Bool.not_false, Bool.and_true, Bool.true_and, Bool.and_false, Bool.false_and, BEq.rfl, beq_self_eq_true, Bool.false_eq_true, reduceCtorEq, not_false_eq_true, fv0, fv1, fv2, fv3, eb_l0, eb_l1, eb_l2, eb_l3, eb_l4, eb_l5, eb_s0, eb_s1, eb_s2, eb_s3, eb_s4, eb_s5, oz_add, oz_sub, oz_mul, oz_neg, ol_add, ol_sub, sD_eq, sD_sD, sD_ne, sD_in, sD_in2, sD_in3, upR_is, upR_ne, mk_v, mk_n, mk_x, mk_i, mv_cs, Nat.reduceLeDiff, mv_ch_z, nh_X8_countCommands, q, z8_137, zFk_1, zFk_2]
        exact mv_Es g3
    · rw [if_neg ok]
      have ok2 : (zRc (T.1 138) (T.1 137 1) p).1 = false := by simpa using ok
      rw [ok2, zb2_f] at q
      dsimp only
      refine ⟨c1, k1, A1, h2, ?_⟩
      have ez : zPc m (false, (zRc (T.1 138) (T.1 137 1) p).2.1, []) = -1 := by unfold zPc; simp
      rw [ez]
      rw [mv_Ev_row r_X8_countCommands_7]
      simp (disch := omega) only [mv_Ev_row r_X8_countCommands_0, mv_Ev_row r_X8_countCommands_1, mv_Ev_row r_X8_countCommands_2, mv_Ev_row r_X8_countCommands_5, mv_Ev_row r_X8_countCommands_6, mv_Ev_row r_X8_countCommands_8, mv_Ev_row r_X8_countCommands_10, mv_Ev_row r_X8_countCommands_13, mv_Ev_row r_X8_countCommands_14, mv_Ev_row r_X8_countCommands_17, mv_Ev_row r_X8_countCommands_20, mv_Ev_row r_X8_countCommands_21, mv_Ev_row r_X8_countCommands_22, mv_Ev_row r_X8_countCommands_23, mv_Ev_row r_X8_countCommands_26, mv_Ev_row r_X8_countCommands_27, mv_Ev_row r_X8_countCommands_30, mv_Ev_row r_X8_countCommands_33, mv_Ev_row r_X8_countCommands_34, mv_Ev_row r_X8_countCommands_35, mv_Ev_row r_X8_countCommands_38, mv_Ev_row r_X8_countCommands_41, mv_Ev_row r_X8_countCommands_42, ea_aload_n, ea_iconst, pp_5_2, ea_istore_n, ea_iload_n, ea_bipush, ea_icmp, kv_X8_readCommand, ea_ifc, ea_ireturn, ez_ret, ez_retc, gg_5_2, gg_5_1, ea_iinc, eb_inc, ea_goto, bz_60, cz_eq, cz_ne, cz_lt, cz_ge, cz_gt, cz_le, c0_eq, c0_ne, c0_lt, c0_ge, c0_gt, c0_le, mv_ac, decide_eq_true_eq, not_true_eq_false, and_self, and_true, true_and, ea_2n, ea_2f, ea_2c, ea_if, if_pos, if_neg, mv_lk, mv_f1, mv_f2, Value.category, List.filter, ↓reduceIte, Nat.reduceEqDiff, Nat.reduceAdd, Nat.reduceLT, Nat.reduceBEq, Nat.zero_add, Nat.add_zero, Nat.zero_ne_one, Nat.one_ne_zero, Bool.not_true, Bool.not_false, Bool.and_true, Bool.true_and, Bool.and_false, Bool.false_and, BEq.rfl, beq_self_eq_true, Bool.false_eq_true, reduceCtorEq, not_false_eq_true, fv0, fv1, fv2, fv3, eb_l0, eb_l1, eb_l2, eb_l3, eb_l4, eb_l5, eb_s0, eb_s1, eb_s2, eb_s3, eb_s4, eb_s5, oz_add, oz_sub, oz_mul, oz_neg, ol_add, ol_sub, sD_eq, sD_sD, sD_ne, sD_in, sD_in2, sD_in3, upR_is, upR_ne, mk_v, mk_n, mk_x, mk_i, mv_cs, Nat.reduceLeDiff, mv_ch_z, nh_X8_countCommands, q]
theorem c_X8_count (hd : 6 ≤ d) (l0 : 0 ≤ T.1 137 1) (l60 : T.1 137 1 ≤ 60) (hx : ∀ j, 0 ≤ j → j < T.1 137 1 → 0 ≤ T.1 138 j ∧ T.1 138 j < 65536) : ∃ c' k' A', ((T.2.1 < 8 → c' < 8) ∧ (zAb (T.1 139) → zAb A')) ∧ mv_cl L xs d k_X8_countCommands [.ref 137] (t, 149, mz T) = some (.inl (some (.int (Int32.ofInt (zPc 1 (zPg (T.1 138) (T.1 137 1) 60 0))))), (t, 149, mz (z8 T c' (zPg (T.1 138) (T.1 137 1) 60 0).2.1 k' A'))) := by
  obtain ⟨c', k', A', h1, h2⟩ := lp_X8_count (L := L) (xs := xs) (t := t) (T := T) (d := d - 1) (by omega) l0 l60 hx 60 1 0 T.2.1 (T.1 137 5) (T.1 139) (by omega) (by omega) (by omega) l0
  refine ⟨c', k', A', h1, ?_⟩
  have e : z8 T T.2.1 0 (T.1 137 5) (T.1 139) = sD T 137 (upR (T.1 137) 2 0) := by
    have h := z8_p T T.2.1 (T.1 137 2) (T.1 137 5) 0 (T.1 139)
    have h3 : zFk (T.1 137) (T.1 137 2) (T.1 137 5) = T.1 137 := by rw [← z8_137 T T.2.1 _ _ (T.1 139), z8_id]
    rw [z8_id, h3] at h
    exact h.symm
  rw [e] at h2
  obtain ⟨d, rfl⟩ : ∃ e, d = e + 1 := ⟨d - 1, by omega⟩
  apply mv_cl_of
  simp only [mv_il, Value.category, Nat.zero_add, Nat.reduceAdd]
  simp only [Nat.add_sub_cancel] at h2
  simp (disch := omega) only [mv_Ev_row r_X8_countCommands_0, mv_Ev_row r_X8_countCommands_1, mv_Ev_row r_X8_countCommands_2, mv_Ev_row r_X8_countCommands_5, mv_Ev_row r_X8_countCommands_6, mv_Ev_row r_X8_countCommands_8, mv_Ev_row r_X8_countCommands_10, mv_Ev_row r_X8_countCommands_13, mv_Ev_row r_X8_countCommands_14, mv_Ev_row r_X8_countCommands_17, mv_Ev_row r_X8_countCommands_20, mv_Ev_row r_X8_countCommands_21, mv_Ev_row r_X8_countCommands_22, mv_Ev_row r_X8_countCommands_23, mv_Ev_row r_X8_countCommands_26, mv_Ev_row r_X8_countCommands_27, mv_Ev_row r_X8_countCommands_30, mv_Ev_row r_X8_countCommands_33, mv_Ev_row r_X8_countCommands_34, mv_Ev_row r_X8_countCommands_35, mv_Ev_row r_X8_countCommands_38, mv_Ev_row r_X8_countCommands_41, mv_Ev_row r_X8_countCommands_42, ea_aload_n, ea_iconst, pp_5_2, ea_istore_n, ea_iload_n, ea_bipush, ea_icmp, kv_X8_readCommand, ea_ifc, ea_ireturn, ez_ret, ez_retc, gg_5_2, gg_5_1, ea_iinc, eb_inc, ea_goto, bz_60, cz_eq, cz_ne, cz_lt, cz_ge, cz_gt, cz_le, c0_eq, c0_ne, c0_lt, c0_ge, c0_gt, c0_le, mv_ac, decide_eq_true_eq, not_true_eq_false, and_self, and_true, true_and, ea_2n, ea_2f, ea_2c, ea_if, if_pos, if_neg, mv_lk, mv_f1, mv_f2, Value.category, List.filter, ↓reduceIte, Nat.reduceEqDiff, Nat.reduceAdd, Nat.reduceLT, Nat.reduceBEq, Nat.zero_add, Nat.add_zero, Nat.zero_ne_one, Nat.one_ne_zero, Bool.not_true, Bool.not_false, Bool.and_true, Bool.true_and, Bool.and_false, Bool.false_and, BEq.rfl, beq_self_eq_true, Bool.false_eq_true, reduceCtorEq, not_false_eq_true, fv0, fv1, fv2, fv3, eb_l0, eb_l1, eb_l2, eb_l3, eb_l4, eb_l5, eb_s0, eb_s1, eb_s2, eb_s3, eb_s4, eb_s5, oz_add, oz_sub, oz_mul, oz_neg, ol_add, ol_sub, sD_eq, sD_sD, sD_ne, sD_in, sD_in2, sD_in3, upR_is, upR_ne, mk_v, mk_n, mk_x, mk_i, mv_cs, Nat.reduceLeDiff, mv_ch_z, nh_X8_countCommands]
  exact mv_Es h2
end PR8

