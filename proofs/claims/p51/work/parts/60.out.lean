/-! OUTPUT OF THE CLASS -/
theorem tb_X10_writeBasin : mv_tb k_X10_writeBasin = t_X10_writeBasin := rfl
theorem r_X10_writeBasin_0 : mv_in k_X10_writeBasin 0 = some (.aload_n 0, 1, 0, 0, 0) := by unfold mv_in; rw [tb_X10_writeBasin]; rfl
theorem r_X10_writeBasin_1 : mv_in k_X10_writeBasin 1 = some (.getfield 56, 4, 7, 8, 293) := by unfold mv_in; rw [tb_X10_writeBasin]; rfl
theorem r_X10_writeBasin_4 : mv_in k_X10_writeBasin 4 = some (.aload_n 1, 5, 0, 0, 0) := by unfold mv_in; rw [tb_X10_writeBasin]; rfl
theorem r_X10_writeBasin_5 : mv_in k_X10_writeBasin 5 = some (.getfield 129, 8, 0, 3, 124) := by unfold mv_in; rw [tb_X10_writeBasin]; rfl
theorem r_X10_writeBasin_8 : mv_in k_X10_writeBasin 8 = some (.invokevirtual 329, 11, k_X6_putNumber, 2, 757) := by unfold mv_in; rw [tb_X10_writeBasin]; rfl
theorem r_X10_writeBasin_11 : mv_in k_X10_writeBasin 11 = some (.aload_n 0, 12, 0, 0, 0) := by unfold mv_in; rw [tb_X10_writeBasin]; rfl
theorem r_X10_writeBasin_12 : mv_in k_X10_writeBasin 12 = some (.getfield 56, 15, 7, 8, 293) := by unfold mv_in; rw [tb_X10_writeBasin]; rfl
theorem r_X10_writeBasin_15 : mv_in k_X10_writeBasin 15 = some (.bipush 47, 17, 0, 0, 0) := by unfold mv_in; rw [tb_X10_writeBasin]; rfl
theorem r_X10_writeBasin_17 : mv_in k_X10_writeBasin 17 = some (.invokevirtual 322, 20, k_X6_put, 2, 749) := by unfold mv_in; rw [tb_X10_writeBasin]; rfl
theorem r_X10_writeBasin_20 : mv_in k_X10_writeBasin 20 = some (.aload_n 0, 21, 0, 0, 0) := by unfold mv_in; rw [tb_X10_writeBasin]; rfl
theorem r_X10_writeBasin_21 : mv_in k_X10_writeBasin 21 = some (.getfield 56, 24, 7, 8, 293) := by unfold mv_in; rw [tb_X10_writeBasin]; rfl
theorem r_X10_writeBasin_24 : mv_in k_X10_writeBasin 24 = some (.aload_n 1, 25, 0, 0, 0) := by unfold mv_in; rw [tb_X10_writeBasin]; rfl
theorem r_X10_writeBasin_25 : mv_in k_X10_writeBasin 25 = some (.getfield 124, 28, 0, 0, 117) := by unfold mv_in; rw [tb_X10_writeBasin]; rfl
theorem r_X10_writeBasin_28 : mv_in k_X10_writeBasin 28 = some (.invokevirtual 329, 31, k_X6_putNumber, 2, 757) := by unfold mv_in; rw [tb_X10_writeBasin]; rfl
theorem r_X10_writeBasin_31 : mv_in k_X10_writeBasin 31 = some (.aload_n 0, 32, 0, 0, 0) := by unfold mv_in; rw [tb_X10_writeBasin]; rfl
theorem r_X10_writeBasin_32 : mv_in k_X10_writeBasin 32 = some (.getfield 56, 35, 7, 8, 293) := by unfold mv_in; rw [tb_X10_writeBasin]; rfl
theorem r_X10_writeBasin_35 : mv_in k_X10_writeBasin 35 = some (.aload_n 1, 36, 0, 0, 0) := by unfold mv_in; rw [tb_X10_writeBasin]; rfl
theorem r_X10_writeBasin_36 : mv_in k_X10_writeBasin 36 = some (.getfield 141, 39, 0, 5, 130) := by unfold mv_in; rw [tb_X10_writeBasin]; rfl
theorem r_X10_writeBasin_39 : mv_in k_X10_writeBasin 39 = some (.ifCond .eq 8, 42, 47, 0, 0) := by unfold mv_in; rw [tb_X10_writeBasin]; rfl
theorem r_X10_writeBasin_42 : mv_in k_X10_writeBasin 42 = some (.bipush 58, 44, 0, 0, 0) := by unfold mv_in; rw [tb_X10_writeBasin]; rfl
theorem r_X10_writeBasin_44 : mv_in k_X10_writeBasin 44 = some (.goto 5, 47, 49, 0, 0) := by unfold mv_in; rw [tb_X10_writeBasin]; rfl
theorem r_X10_writeBasin_47 : mv_in k_X10_writeBasin 47 = some (.bipush 124, 49, 0, 0, 0) := by unfold mv_in; rw [tb_X10_writeBasin]; rfl
theorem r_X10_writeBasin_49 : mv_in k_X10_writeBasin 49 = some (.invokevirtual 322, 52, k_X6_put, 2, 749) := by unfold mv_in; rw [tb_X10_writeBasin]; rfl
theorem r_X10_writeBasin_52 : mv_in k_X10_writeBasin 52 = some (.aload_n 0, 53, 0, 0, 0) := by unfold mv_in; rw [tb_X10_writeBasin]; rfl
theorem r_X10_writeBasin_53 : mv_in k_X10_writeBasin 53 = some (.getfield 56, 56, 7, 8, 293) := by unfold mv_in; rw [tb_X10_writeBasin]; rfl
theorem r_X10_writeBasin_56 : mv_in k_X10_writeBasin 56 = some (.aload_n 1, 57, 0, 0, 0) := by unfold mv_in; rw [tb_X10_writeBasin]; rfl
theorem r_X10_writeBasin_57 : mv_in k_X10_writeBasin 57 = some (.getfield 138, 60, 0, 4, 127) := by unfold mv_in; rw [tb_X10_writeBasin]; rfl
theorem r_X10_writeBasin_60 : mv_in k_X10_writeBasin 60 = some (.invokevirtual 329, 63, k_X6_putNumber, 2, 757) := by unfold mv_in; rw [tb_X10_writeBasin]; rfl
theorem r_X10_writeBasin_63 : mv_in k_X10_writeBasin 63 = some (.aload_n 1, 64, 0, 0, 0) := by unfold mv_in; rw [tb_X10_writeBasin]; rfl
theorem r_X10_writeBasin_64 : mv_in k_X10_writeBasin 64 = some (.getfield 141, 67, 0, 5, 130) := by unfold mv_in; rw [tb_X10_writeBasin]; rfl
theorem r_X10_writeBasin_67 : mv_in k_X10_writeBasin 67 = some (.ifCond .eq 23, 70, 90, 0, 0) := by unfold mv_in; rw [tb_X10_writeBasin]; rfl
theorem r_X10_writeBasin_70 : mv_in k_X10_writeBasin 70 = some (.aload_n 0, 71, 0, 0, 0) := by unfold mv_in; rw [tb_X10_writeBasin]; rfl
theorem r_X10_writeBasin_71 : mv_in k_X10_writeBasin 71 = some (.getfield 56, 74, 7, 8, 293) := by unfold mv_in; rw [tb_X10_writeBasin]; rfl
theorem r_X10_writeBasin_74 : mv_in k_X10_writeBasin 74 = some (.bipush 126, 76, 0, 0, 0) := by unfold mv_in; rw [tb_X10_writeBasin]; rfl
theorem r_X10_writeBasin_76 : mv_in k_X10_writeBasin 76 = some (.invokevirtual 322, 79, k_X6_put, 2, 749) := by unfold mv_in; rw [tb_X10_writeBasin]; rfl
theorem r_X10_writeBasin_79 : mv_in k_X10_writeBasin 79 = some (.aload_n 0, 80, 0, 0, 0) := by unfold mv_in; rw [tb_X10_writeBasin]; rfl
theorem r_X10_writeBasin_80 : mv_in k_X10_writeBasin 80 = some (.getfield 56, 83, 7, 8, 293) := by unfold mv_in; rw [tb_X10_writeBasin]; rfl
theorem r_X10_writeBasin_83 : mv_in k_X10_writeBasin 83 = some (.aload_n 1, 84, 0, 0, 0) := by unfold mv_in; rw [tb_X10_writeBasin]; rfl
theorem r_X10_writeBasin_84 : mv_in k_X10_writeBasin 84 = some (.getfield 151, 87, 0, 6, 133) := by unfold mv_in; rw [tb_X10_writeBasin]; rfl
theorem r_X10_writeBasin_87 : mv_in k_X10_writeBasin 87 = some (.invokevirtual 329, 90, k_X6_putNumber, 2, 757) := by unfold mv_in; rw [tb_X10_writeBasin]; rfl
theorem r_X10_writeBasin_90 : mv_in k_X10_writeBasin 90 = some (.return_, 91, 0, 0, 0) := by unfold mv_in; rw [tb_X10_writeBasin]; rfl
theorem nh_X10_writeBasin : mv_nh k_X10_writeBasin = true := rfl
theorem tb_X10_writeChain : mv_tb k_X10_writeChain = t_X10_writeChain := rfl
theorem r_X10_writeChain_0 : mv_in k_X10_writeChain 0 = some (.aload_n 0, 1, 0, 0, 0) := by unfold mv_in; rw [tb_X10_writeChain]; rfl
theorem r_X10_writeChain_1 : mv_in k_X10_writeChain 1 = some (.getfield 56, 4, 7, 8, 293) := by unfold mv_in; rw [tb_X10_writeChain]; rfl
theorem r_X10_writeChain_4 : mv_in k_X10_writeChain 4 = some (.iconst 0, 5, 0, 0, 0) := by unfold mv_in; rw [tb_X10_writeChain]; rfl
theorem r_X10_writeChain_5 : mv_in k_X10_writeChain 5 = some (.putfield 321, 8, 3, 1, 279) := by unfold mv_in; rw [tb_X10_writeChain]; rfl
theorem r_X10_writeChain_8 : mv_in k_X10_writeChain 8 = some (.iconst 0, 9, 0, 0, 0) := by unfold mv_in; rw [tb_X10_writeChain]; rfl
theorem r_X10_writeChain_9 : mv_in k_X10_writeChain 9 = some (.istore_n 1, 10, 0, 0, 0) := by unfold mv_in; rw [tb_X10_writeChain]; rfl
theorem r_X10_writeChain_10 : mv_in k_X10_writeChain 10 = some (.iload_n 1, 11, 0, 0, 0) := by unfold mv_in; rw [tb_X10_writeChain]; rfl
theorem r_X10_writeChain_11 : mv_in k_X10_writeChain 11 = some (.aload_n 0, 12, 0, 0, 0) := by unfold mv_in; rw [tb_X10_writeChain]; rfl
theorem r_X10_writeChain_12 : mv_in k_X10_writeChain 12 = some (.getfield 10, 15, 7, 0, 285) := by unfold mv_in; rw [tb_X10_writeChain]; rfl
theorem r_X10_writeChain_15 : mv_in k_X10_writeChain 15 = some (.getfield 117, 18, 1, 1, 163) := by unfold mv_in; rw [tb_X10_writeChain]; rfl
theorem r_X10_writeChain_18 : mv_in k_X10_writeChain 18 = some (.if_icmp .ge 35, 21, 53, 0, 0) := by unfold mv_in; rw [tb_X10_writeChain]; rfl
theorem r_X10_writeChain_21 : mv_in k_X10_writeChain 21 = some (.iload_n 1, 22, 0, 0, 0) := by unfold mv_in; rw [tb_X10_writeChain]; rfl
theorem r_X10_writeChain_22 : mv_in k_X10_writeChain 22 = some (.ifCond .le 12, 25, 34, 0, 0) := by unfold mv_in; rw [tb_X10_writeChain]; rfl
theorem r_X10_writeChain_25 : mv_in k_X10_writeChain 25 = some (.aload_n 0, 26, 0, 0, 0) := by unfold mv_in; rw [tb_X10_writeChain]; rfl
theorem r_X10_writeChain_26 : mv_in k_X10_writeChain 26 = some (.getfield 56, 29, 7, 8, 293) := by unfold mv_in; rw [tb_X10_writeChain]; rfl
theorem r_X10_writeChain_29 : mv_in k_X10_writeChain 29 = some (.bipush 32, 31, 0, 0, 0) := by unfold mv_in; rw [tb_X10_writeChain]; rfl
theorem r_X10_writeChain_31 : mv_in k_X10_writeChain 31 = some (.invokevirtual 322, 34, k_X6_put, 2, 749) := by unfold mv_in; rw [tb_X10_writeChain]; rfl
theorem r_X10_writeChain_34 : mv_in k_X10_writeChain 34 = some (.aload_n 0, 35, 0, 0, 0) := by unfold mv_in; rw [tb_X10_writeChain]; rfl
theorem r_X10_writeChain_35 : mv_in k_X10_writeChain 35 = some (.aload_n 0, 36, 0, 0, 0) := by unfold mv_in; rw [tb_X10_writeChain]; rfl
theorem r_X10_writeChain_36 : mv_in k_X10_writeChain 36 = some (.getfield 10, 39, 7, 0, 285) := by unfold mv_in; rw [tb_X10_writeChain]; rfl
theorem r_X10_writeChain_39 : mv_in k_X10_writeChain 39 = some (.getfield 197, 42, 1, 0, 161) := by unfold mv_in; rw [tb_X10_writeChain]; rfl
theorem r_X10_writeChain_42 : mv_in k_X10_writeChain 42 = some (.iload_n 1, 43, 0, 0, 0) := by unfold mv_in; rw [tb_X10_writeChain]; rfl
theorem r_X10_writeChain_43 : mv_in k_X10_writeChain 43 = some (.aaload, 44, 0, 0, 0) := by unfold mv_in; rw [tb_X10_writeChain]; rfl
theorem r_X10_writeChain_44 : mv_in k_X10_writeChain 44 = some (.invokevirtual 325, 47, k_X10_writeBasin, 2, 753) := by unfold mv_in; rw [tb_X10_writeChain]; rfl
theorem r_X10_writeChain_47 : mv_in k_X10_writeChain 47 = some (.iinc 1 1, 50, 0, 0, 0) := by unfold mv_in; rw [tb_X10_writeChain]; rfl
theorem r_X10_writeChain_50 : mv_in k_X10_writeChain 50 = some (.goto (-40), 53, 10, 0, 0) := by unfold mv_in; rw [tb_X10_writeChain]; rfl
theorem r_X10_writeChain_53 : mv_in k_X10_writeChain 53 = some (.aload_n 0, 54, 0, 0, 0) := by unfold mv_in; rw [tb_X10_writeChain]; rfl
theorem r_X10_writeChain_54 : mv_in k_X10_writeChain 54 = some (.getfield 56, 57, 7, 8, 293) := by unfold mv_in; rw [tb_X10_writeChain]; rfl
theorem r_X10_writeChain_57 : mv_in k_X10_writeChain 57 = some (.getfield 321, 60, 3, 1, 279) := by unfold mv_in; rw [tb_X10_writeChain]; rfl
theorem r_X10_writeChain_60 : mv_in k_X10_writeChain 60 = some (.ireturn, 61, 0, 0, 0) := by unfold mv_in; rw [tb_X10_writeChain]; rfl
theorem nh_X10_writeChain : mv_nh k_X10_writeChain = true := rfl
theorem tb_X10_writeForecast : mv_tb k_X10_writeForecast = t_X10_writeForecast := rfl
theorem r_X10_writeForecast_0 : mv_in k_X10_writeForecast 0 = some (.aload_n 0, 1, 0, 0, 0) := by unfold mv_in; rw [tb_X10_writeForecast]; rfl
theorem r_X10_writeForecast_1 : mv_in k_X10_writeForecast 1 = some (.getfield 56, 4, 7, 8, 293) := by unfold mv_in; rw [tb_X10_writeForecast]; rfl
theorem r_X10_writeForecast_4 : mv_in k_X10_writeForecast 4 = some (.iconst 0, 5, 0, 0, 0) := by unfold mv_in; rw [tb_X10_writeForecast]; rfl
theorem r_X10_writeForecast_5 : mv_in k_X10_writeForecast 5 = some (.putfield 321, 8, 3, 1, 279) := by unfold mv_in; rw [tb_X10_writeForecast]; rfl
theorem r_X10_writeForecast_8 : mv_in k_X10_writeForecast 8 = some (.iconst 0, 9, 0, 0, 0) := by unfold mv_in; rw [tb_X10_writeForecast]; rfl
theorem r_X10_writeForecast_9 : mv_in k_X10_writeForecast 9 = some (.istore_n 1, 10, 0, 0, 0) := by unfold mv_in; rw [tb_X10_writeForecast]; rfl
theorem r_X10_writeForecast_10 : mv_in k_X10_writeForecast 10 = some (.iload_n 1, 11, 0, 0, 0) := by unfold mv_in; rw [tb_X10_writeForecast]; rfl
theorem r_X10_writeForecast_11 : mv_in k_X10_writeForecast 11 = some (.aload_n 0, 12, 0, 0, 0) := by unfold mv_in; rw [tb_X10_writeForecast]; rfl
theorem r_X10_writeForecast_12 : mv_in k_X10_writeForecast 12 = some (.getfield 10, 15, 7, 0, 285) := by unfold mv_in; rw [tb_X10_writeForecast]; rfl
theorem r_X10_writeForecast_15 : mv_in k_X10_writeForecast 15 = some (.getfield 169, 18, 1, 3, 167) := by unfold mv_in; rw [tb_X10_writeForecast]; rfl
theorem r_X10_writeForecast_18 : mv_in k_X10_writeForecast 18 = some (.if_icmp .ge 38, 21, 56, 0, 0) := by unfold mv_in; rw [tb_X10_writeForecast]; rfl
theorem r_X10_writeForecast_21 : mv_in k_X10_writeForecast 21 = some (.iload_n 1, 22, 0, 0, 0) := by unfold mv_in; rw [tb_X10_writeForecast]; rfl
theorem r_X10_writeForecast_22 : mv_in k_X10_writeForecast 22 = some (.ifCond .le 12, 25, 34, 0, 0) := by unfold mv_in; rw [tb_X10_writeForecast]; rfl
theorem r_X10_writeForecast_25 : mv_in k_X10_writeForecast 25 = some (.aload_n 0, 26, 0, 0, 0) := by unfold mv_in; rw [tb_X10_writeForecast]; rfl
theorem r_X10_writeForecast_26 : mv_in k_X10_writeForecast 26 = some (.getfield 56, 29, 7, 8, 293) := by unfold mv_in; rw [tb_X10_writeForecast]; rfl
theorem r_X10_writeForecast_29 : mv_in k_X10_writeForecast 29 = some (.bipush 44, 31, 0, 0, 0) := by unfold mv_in; rw [tb_X10_writeForecast]; rfl
theorem r_X10_writeForecast_31 : mv_in k_X10_writeForecast 31 = some (.invokevirtual 322, 34, k_X6_put, 2, 749) := by unfold mv_in; rw [tb_X10_writeForecast]; rfl
theorem r_X10_writeForecast_34 : mv_in k_X10_writeForecast 34 = some (.aload_n 0, 35, 0, 0, 0) := by unfold mv_in; rw [tb_X10_writeForecast]; rfl
theorem r_X10_writeForecast_35 : mv_in k_X10_writeForecast 35 = some (.getfield 56, 38, 7, 8, 293) := by unfold mv_in; rw [tb_X10_writeForecast]; rfl
theorem r_X10_writeForecast_38 : mv_in k_X10_writeForecast 38 = some (.aload_n 0, 39, 0, 0, 0) := by unfold mv_in; rw [tb_X10_writeForecast]; rfl
theorem r_X10_writeForecast_39 : mv_in k_X10_writeForecast 39 = some (.getfield 10, 42, 7, 0, 285) := by unfold mv_in; rw [tb_X10_writeForecast]; rfl
theorem r_X10_writeForecast_42 : mv_in k_X10_writeForecast 42 = some (.getfield 177, 45, 1, 2, 165) := by unfold mv_in; rw [tb_X10_writeForecast]; rfl
theorem r_X10_writeForecast_45 : mv_in k_X10_writeForecast 45 = some (.iload_n 1, 46, 0, 0, 0) := by unfold mv_in; rw [tb_X10_writeForecast]; rfl
theorem r_X10_writeForecast_46 : mv_in k_X10_writeForecast 46 = some (.iaload, 47, 0, 0, 0) := by unfold mv_in; rw [tb_X10_writeForecast]; rfl
theorem r_X10_writeForecast_47 : mv_in k_X10_writeForecast 47 = some (.invokevirtual 329, 50, k_X6_putNumber, 2, 757) := by unfold mv_in; rw [tb_X10_writeForecast]; rfl
theorem r_X10_writeForecast_50 : mv_in k_X10_writeForecast 50 = some (.iinc 1 1, 53, 0, 0, 0) := by unfold mv_in; rw [tb_X10_writeForecast]; rfl
theorem r_X10_writeForecast_53 : mv_in k_X10_writeForecast 53 = some (.goto (-43), 56, 10, 0, 0) := by unfold mv_in; rw [tb_X10_writeForecast]; rfl
theorem r_X10_writeForecast_56 : mv_in k_X10_writeForecast 56 = some (.aload_n 0, 57, 0, 0, 0) := by unfold mv_in; rw [tb_X10_writeForecast]; rfl
theorem r_X10_writeForecast_57 : mv_in k_X10_writeForecast 57 = some (.getfield 56, 60, 7, 8, 293) := by unfold mv_in; rw [tb_X10_writeForecast]; rfl
theorem r_X10_writeForecast_60 : mv_in k_X10_writeForecast 60 = some (.getfield 321, 63, 3, 1, 279) := by unfold mv_in; rw [tb_X10_writeForecast]; rfl
theorem r_X10_writeForecast_63 : mv_in k_X10_writeForecast 63 = some (.ireturn, 64, 0, 0, 0) := by unfold mv_in; rw [tb_X10_writeForecast]; rfl
theorem nh_X10_writeForecast : mv_nh k_X10_writeForecast = true := rfl
section KV
variable {L : Nat} {xs : Nat → Int32}
theorem kv_X10_writeBasin {v0 : Nat} {q nx w : Nat} {ls : mv_V} {st : List Value} {t : Nat} {h : mv_H} : mv_stp L xs (.invokevirtual q, nx, k_X10_writeBasin, 2, w) ls (.ref v0 :: .ref 0 :: st) (t, 142, h) = if mv_cs st ≤ 8 then some (.inr (.inr (k_X10_writeBasin, [.ref 0, .ref v0], st))) else none := by
  exact cl_any (nx := nx) (ls := ls) (kk := 1) (as := [.ref 0, .ref v0]) (by decide) rfl rfl (.inr ((by decide : mv_is 142 0 7 = true)))
theorem kv_X10_writeChain  {q nx w : Nat} {ls : mv_V} {st : List Value} {t : Nat} {h : mv_H} : mv_stp L xs (.invokevirtual q, nx, k_X10_writeChain, 1, w) ls (.ref 0 :: st) (t, 142, h) = if mv_cs st ≤ 8 then some (.inr (.inr (k_X10_writeChain, [.ref 0], st))) else none := by
  exact cl_any (nx := nx) (ls := ls) (kk := 1) (as := [.ref 0]) (by decide) rfl rfl (.inr ((by decide : mv_is 142 0 7 = true)))
theorem kv_X10_writeForecast  {q nx w : Nat} {ls : mv_V} {st : List Value} {t : Nat} {h : mv_H} : mv_stp L xs (.invokevirtual q, nx, k_X10_writeForecast, 1, w) ls (.ref 0 :: st) (t, 142, h) = if mv_cs st ≤ 8 then some (.inr (.inr (k_X10_writeForecast, [.ref 0], st))) else none := by
  exact cl_any (nx := nx) (ls := ls) (kk := 1) (as := [.ref 0]) (by decide) rfl rfl (.inr ((by decide : mv_is 142 0 7 = true)))
end KV
section OUC
variable {L : Nat} {xs : Nat → Int32} {d t : Nat} {T : zT} {A B F : Int → Int} {P : zWp}
section
variable {q nx w : Nat} {ls : mv_V} {st : List Value}
theorem g7_0 : mv_stp L xs (.getfield q, nx, 7, 0, w) ls (.ref 0 :: st) (t, 142, mz T) = some (.inl (nx, ls, .ref o1 :: st, (t, 142, mz T))) := gg_7_0
theorem g7_1 : mv_stp L xs (.getfield q, nx, 7, 1, w) ls (.ref 0 :: st) (t, 142, mz T) = some (.inl (nx, ls, .ref o9 :: st, (t, 142, mz T))) := gg_7_1
theorem g7_2 : mv_stp L xs (.getfield q, nx, 7, 2, w) ls (.ref 0 :: st) (t, 142, mz T) = some (.inl (nx, ls, .ref o17 :: st, (t, 142, mz T))) := gg_7_2
theorem g7_3 : mv_stp L xs (.getfield q, nx, 7, 3, w) ls (.ref 0 :: st) (t, 142, mz T) = some (.inl (nx, ls, .ref o25 :: st, (t, 142, mz T))) := gg_7_3
end
theorem c_X6_putP (hd : 1 ≤ d) {v : Int} (v0 : 0 ≤ v) (v1 : v < 65536) (h0 : 0 ≤ P.1) (h1 : P.1 < 54) : mv_cl L xs d k_X6_put [.ref 140, .int (Int32.ofInt v)] (t, 142, mz (sD (sD T 140 (upR F 1 P.1)) 141 P.2)) = some (.inl none, (t, 142, mz (sD (sD T 140 (upR F 1 (zWr v P).1)) 141 (zWr v P).2))) := by
  have q := c_X6_put (L := L) (xs := xs) (t := t) (T := T) (F := upR F 1 P.1) (S := P.2) (v := v) hd v0 v1 (by rw [upR_eq]; exact h0) (by rw [upR_eq]; exact h1)
  rw [upR_eq, upR_up] at q
  exact q
theorem c_X6_putDigit (hd : 2 ≤ d) {v : Int} (v0 : 0 ≤ v) (v1 : v ≤ 9) (h0 : 0 ≤ P.1) (h1 : P.1 < 54) : mv_cl L xs d k_X6_putDigit [.ref 140, .int (Int32.ofInt v)] (t, 142, mz (sD (sD T 140 (upR F 1 P.1)) 141 P.2)) = some (.inl none, (t, 142, mz (sD (sD T 140 (upR F 1 (zWr (48 + v) P).1)) 141 (zWr (48 + v) P).2))) := by
  have q := c_X6_putP (L := L) (xs := xs) (t := t) (T := T) (F := F) (P := P) (d := d - 1) (v := 48 + v) (by omega) (by omega) (by omega) h0 h1
  have e : (48 + v) % 65536 = 48 + v := by omega
  obtain ⟨d, rfl⟩ : ∃ e, d = e + 1 := ⟨d - 1, by omega⟩
  apply mv_cl_of
  simp only [mv_il, Value.category, Nat.zero_add, Nat.reduceAdd]
  simp only [Nat.add_sub_cancel] at q
  simp (disch := omega) only [mv_Ev_row r_X6_putDigit_0, mv_Ev_row r_X6_putDigit_1, mv_Ev_row r_X6_putDigit_3, mv_Ev_row r_X6_putDigit_4, mv_Ev_row r_X6_putDigit_5, mv_Ev_row r_X6_putDigit_6, mv_Ev_row r_X6_putDigit_9, ea_aload_n, ea_bipush, ea_iload_n, ea_iadd, ea_i2c, kv_X6_put, ea_vret, bz_48, mv_ac, decide_eq_true_eq, not_true_eq_false, and_self, and_true, true_and, ea_2n, ea_2f, ea_2c, ea_if, if_pos, if_neg, mv_lk, mv_f1, mv_f2, Value.category, List.filter, ↓reduceIte, Nat.reduceEqDiff, Nat.reduceAdd, Nat.reduceLT, Nat.reduceBEq, Nat.zero_add, Nat.add_zero, Nat.zero_ne_one, Nat.one_ne_zero, Bool.not_true, Bool.not_false, Bool.and_true, Bool.true_and, Bool.and_false, Bool.false_and, BEq.rfl, beq_self_eq_true, Bool.false_eq_true, reduceCtorEq, not_false_eq_true, fv0, fv1, fv2, fv3, eb_l0, eb_l1, eb_l2, eb_l3, eb_l4, eb_l5, eb_s0, eb_s1, eb_s2, eb_s3, eb_s4, eb_s5, oz_add, oz_sub, oz_mul, oz_neg, ol_add, ol_sub, sD_eq, sD_sD, sD_ne, sD_in, sD_in2, sD_in3, upR_is, upR_ne, mk_v, mk_n, mk_x, mk_i, mv_cs, Nat.reduceLeDiff, mv_ch_z, nh_X6_putDigit, e, q]
theorem c_X6_putNumber (hd : 3 ≤ d) {v : Int} (v0 : 0 ≤ v) (v1 : v ≤ 99) (h0 : 0 ≤ P.1) (h1 : P.1 + 2 ≤ 54 ∨ (v ≤ 9 ∧ P.1 < 54)) : mv_cl L xs d k_X6_putNumber [.ref 140, .int (Int32.ofInt v)] (t, 142, mz (sD (sD T 140 (upR F 1 P.1)) 141 P.2)) = some (.inl none, (t, 142, mz (sD (sD T 140 (upR F 1 (zWn v P).1)) 141 (zWn v P).2))) := by
  by_cases h : 9 < v
  · have q1 := c_X6_putDigit (L := L) (xs := xs) (t := t) (T := T) (F := F) (P := P) (d := d - 1) (v := v / 10) (by omega) (by omega) (by omega) h0 (by omega)
    have q2 := c_X6_putDigit (L := L) (xs := xs) (t := t) (T := T) (F := F) (P := zWr (48 + v / 10) P) (d := d - 1) (v := v % 10) (by omega) (by omega) (by omega) (by rw [zWr_1]; omega) (by rw [zWr_1]; omega)
    have e9 : zWn v P = zWr (48 + v % 10) (zWr (48 + v / 10) P) := by unfold zWn; rw [if_pos h]
    rw [e9]
    obtain ⟨d, rfl⟩ : ∃ e, d = e + 1 := ⟨d - 1, by omega⟩
    apply mv_cl_of
    simp only [mv_il, Value.category, Nat.zero_add, Nat.reduceAdd]
    simp only [Nat.add_sub_cancel] at q1 q2
    simp (disch := omega) only [mv_Ev_row r_X6_putNumber_0, mv_Ev_row r_X6_putNumber_1, mv_Ev_row r_X6_putNumber_3, mv_Ev_row r_X6_putNumber_6, mv_Ev_row r_X6_putNumber_7, mv_Ev_row r_X6_putNumber_8, mv_Ev_row r_X6_putNumber_10, mv_Ev_row r_X6_putNumber_11, mv_Ev_row r_X6_putNumber_14, mv_Ev_row r_X6_putNumber_15, mv_Ev_row r_X6_putNumber_16, mv_Ev_row r_X6_putNumber_18, mv_Ev_row r_X6_putNumber_19, mv_Ev_row r_X6_putNumber_22, ea_iload_n, ea_bipush, ea_icmp, ea_aload_n, ez_div, kv_X6_putDigit, ez_rem, ea_vret, bz_10, cz_eq, cz_ne, cz_lt, cz_ge, cz_gt, cz_le, mv_ac, decide_eq_true_eq, not_true_eq_false, and_self, and_true, true_and, ea_2n, ea_2f, ea_2c, ea_if, if_pos, if_neg, mv_lk, mv_f1, mv_f2, Value.category, List.filter, ↓reduceIte, Nat.reduceEqDiff, Nat.reduceAdd, Nat.reduceLT, Nat.reduceBEq, Nat.zero_add, Nat.add_zero, Nat.zero_ne_one, Nat.one_ne_zero, Bool.not_true, Bool.not_false, Bool.and_true, Bool.true_and, Bool.and_false, Bool.false_and, BEq.rfl, beq_self_eq_true, Bool.false_eq_true, reduceCtorEq, not_false_eq_true, fv0, fv1, fv2, fv3, eb_l0, eb_l1, eb_l2, eb_l3, eb_l4, eb_l5, eb_s0, eb_s1, eb_s2, eb_s3, eb_s4, eb_s5, oz_add, oz_sub, oz_mul, oz_neg, ol_add, ol_sub, sD_eq, sD_sD, sD_ne, sD_in, sD_in2, sD_in3, upR_is, upR_ne, mk_v, mk_n, mk_x, mk_i, mv_cs, Nat.reduceLeDiff, mv_ch_z, nh_X6_putNumber, q1, q2]
  · have q2 := c_X6_putDigit (L := L) (xs := xs) (t := t) (T := T) (F := F) (P := P) (d := d - 1) (v := v % 10) (by omega) (by omega) (by omega) h0 (by omega)
    have e9 : zWn v P = zWr (48 + v % 10) P := by unfold zWn; rw [if_neg h]
    rw [e9]
    obtain ⟨d, rfl⟩ : ∃ e, d = e + 1 := ⟨d - 1, by omega⟩
    apply mv_cl_of
    simp only [mv_il, Value.category, Nat.zero_add, Nat.reduceAdd]
    simp only [Nat.add_sub_cancel] at q2
    simp (disch := omega) only [mv_Ev_row r_X6_putNumber_0, mv_Ev_row r_X6_putNumber_1, mv_Ev_row r_X6_putNumber_3, mv_Ev_row r_X6_putNumber_6, mv_Ev_row r_X6_putNumber_7, mv_Ev_row r_X6_putNumber_8, mv_Ev_row r_X6_putNumber_10, mv_Ev_row r_X6_putNumber_11, mv_Ev_row r_X6_putNumber_14, mv_Ev_row r_X6_putNumber_15, mv_Ev_row r_X6_putNumber_16, mv_Ev_row r_X6_putNumber_18, mv_Ev_row r_X6_putNumber_19, mv_Ev_row r_X6_putNumber_22, ea_iload_n, ea_bipush, ea_icmp, ea_aload_n, ez_div, kv_X6_putDigit, ez_rem, ea_vret, bz_10, cz_eq, cz_ne, cz_lt, cz_ge, cz_gt, cz_le, mv_ac, decide_eq_true_eq, not_true_eq_false, and_self, and_true, true_and, ea_2n, ea_2f, ea_2c, ea_if, if_pos, if_neg, mv_lk, mv_f1, mv_f2, Value.category, List.filter, ↓reduceIte, Nat.reduceEqDiff, Nat.reduceAdd, Nat.reduceLT, Nat.reduceBEq, Nat.zero_add, Nat.add_zero, Nat.zero_ne_one, Nat.one_ne_zero, Bool.not_true, Bool.not_false, Bool.and_true, Bool.true_and, Bool.and_false, Bool.false_and, BEq.rfl, beq_self_eq_true, Bool.false_eq_true, reduceCtorEq, not_false_eq_true, fv0, fv1, fv2, fv3, eb_l0, eb_l1, eb_l2, eb_l3, eb_l4, eb_l5, eb_s0, eb_s1, eb_s2, eb_s3, eb_s4, eb_s5, oz_add, oz_sub, oz_mul, oz_neg, ol_add, ol_sub, sD_eq, sD_sD, sD_ne, sD_in, sD_in2, sD_in3, upR_is, upR_ne, mk_v, mk_n, mk_x, mk_i, mv_cs, Nat.reduceLeDiff, mv_ch_z, nh_X6_putNumber, q2]
theorem c_X10_writeBasin (hd : 4 ≤ d) (hA : T.1 o1 = A) {k : Int} (k0 : 0 ≤ k) (k5 : k < 5) (hk : zOK A 99 k) (h0 : 0 ≤ P.1) (h1 : P.1 + 10 ≤ 54) : mv_cl L xs d k_X10_writeBasin [.ref 0, .ref (o1 + 3 + k.toNat)] (t, 142, mz (sD (sD T 140 (upR F 1 P.1)) 141 P.2)) = some (.inl none, (t, 142, mz (sD (sD T 140 (upR F 1 (zWb A k P).1)) 141 (zWb A k P).2))) := by
  have hA9 : ∀ X Y, (sD (sD T 140 X) 141 Y).1 o1 = A := fun X Y => by
    rw [sD_ne _ _ (by decide), sD_ne _ _ (by decide)]
    exact hA
  unfold zOK at hk
  have b1 := zWn_1 (A (6 + 9 * k + 1)) P
  have b2 := zWn_1 (A (6 + 9 * k + 0)) (zWr 47 (zWn (A (6 + 9 * k + 1)) P))
  rw [zWr_1] at b2
  have q1 := c_X6_putNumber (L := L) (xs := xs) (t := t) (T := T) (F := F) (P := P) (d := d - 1) (v := A (6 + 9 * k + 1)) (by omega) (by omega) (by omega) h0 (by omega)
  have q2 := c_X6_putP (L := L) (xs := xs) (t := t) (T := T) (F := F) (P := zWn (A (6 + 9 * k + 1)) P) (d := d - 1) (v := 47) (by omega) (by omega) (by omega) (by omega) (by omega)
  have q3 := c_X6_putNumber (L := L) (xs := xs) (t := t) (T := T) (F := F) (P := zWr 47 (zWn (A (6 + 9 * k + 1)) P)) (d := d - 1) (v := A (6 + 9 * k + 0)) (by omega) (by omega) (by omega) (by rw [zWr_1]; omega) (by rw [zWr_1]; omega)
  have q4 := fun v (v0 : 0 ≤ v) (v1 : v < 65536) => c_X6_putP (L := L) (xs := xs) (t := t) (T := T) (F := F) (P := zWn (A (6 + 9 * k + 0)) (zWr 47 (zWn (A (6 + 9 * k + 1)) P))) (d := d - 1) (v := v) (by omega) v0 v1 (by omega) (by omega)
  have q5 := fun v => c_X6_putNumber (L := L) (xs := xs) (t := t) (T := T) (F := F) (P := zWr v (zWn (A (6 + 9 * k + 0)) (zWr 47 (zWn (A (6 + 9 * k + 1)) P)))) (d := d - 1) (v := A (6 + 9 * k + 4)) (by omega) (by omega) (by omega) (by rw [zWr_1]; omega) (by rw [zWr_1]; omega)
  by_cases e : A (6 + 9 * k + 5) = 1
  · have b3 := zWbA_1 (A := A) (k := k) (by omega) P
    have q6 := c_X6_putP (L := L) (xs := xs) (t := t) (T := T) (F := F) (P := zWbA A k P) (d := d - 1) (v := 126) (by omega) (by omega) (by omega) (by omega) (by omega)
    have q7 := c_X6_putNumber (L := L) (xs := xs) (t := t) (T := T) (F := F) (P := zWr 126 (zWbA A k P)) (d := d - 1) (v := A (6 + 9 * k + 6)) (by omega) (by omega) (by omega) (by rw [zWr_1]; omega) (by rw [zWr_1]; omega)
    have ex : zWb A k P = zWn (A (6 + 9 * k + 6)) (zWr 126 (zWbA A k P)) := by unfold zWb; rw [if_pos e]
    have ea : zWbA A k P = zWn (A (6 + 9 * k + 4)) (zWr 58 (zWn (A (6 + 9 * k + 0)) (zWr 47 (zWn (A (6 + 9 * k + 1)) P)))) := by unfold zWbA zWx; rw [if_pos e]
    rw [ex]
    rw [ea] at q6 q7 ⊢
    obtain ⟨d, rfl⟩ : ∃ e, d = e + 1 := ⟨d - 1, by omega⟩
    apply mv_cl_of
    simp only [mv_il, Value.category, Nat.zero_add, Nat.reduceAdd]
    simp only [Nat.add_sub_cancel] at q1 q2 q3 q4 q5 q6 q7
    simp (disch := omega) only [mv_Ev_row r_X10_writeBasin_0, mv_Ev_row r_X10_writeBasin_1, mv_Ev_row r_X10_writeBasin_4, mv_Ev_row r_X10_writeBasin_5, mv_Ev_row r_X10_writeBasin_8, mv_Ev_row r_X10_writeBasin_11, mv_Ev_row r_X10_writeBasin_12, mv_Ev_row r_X10_writeBasin_15, mv_Ev_row r_X10_writeBasin_17, mv_Ev_row r_X10_writeBasin_20, mv_Ev_row r_X10_writeBasin_21, mv_Ev_row r_X10_writeBasin_24, mv_Ev_row r_X10_writeBasin_25, mv_Ev_row r_X10_writeBasin_28, mv_Ev_row r_X10_writeBasin_31, mv_Ev_row r_X10_writeBasin_32, mv_Ev_row r_X10_writeBasin_35, mv_Ev_row r_X10_writeBasin_36, mv_Ev_row r_X10_writeBasin_39, mv_Ev_row r_X10_writeBasin_42, mv_Ev_row r_X10_writeBasin_44, mv_Ev_row r_X10_writeBasin_47, mv_Ev_row r_X10_writeBasin_49, mv_Ev_row r_X10_writeBasin_52, mv_Ev_row r_X10_writeBasin_53, mv_Ev_row r_X10_writeBasin_56, mv_Ev_row r_X10_writeBasin_57, mv_Ev_row r_X10_writeBasin_60, mv_Ev_row r_X10_writeBasin_63, mv_Ev_row r_X10_writeBasin_64, mv_Ev_row r_X10_writeBasin_67, mv_Ev_row r_X10_writeBasin_70, mv_Ev_row r_X10_writeBasin_71, mv_Ev_row r_X10_writeBasin_74, mv_Ev_row r_X10_writeBasin_76, mv_Ev_row r_X10_writeBasin_79, mv_Ev_row r_X10_writeBasin_80, mv_Ev_row r_X10_writeBasin_83, mv_Ev_row r_X10_writeBasin_84, mv_Ev_row r_X10_writeBasin_87, mv_Ev_row r_X10_writeBasin_90, ea_aload_n, gg_7_8, gg_0_3 Ch.o1, kv_X6_putNumber, ea_bipush, kv_X6_put, gg_0_0 Ch.o1, gg_0_5 Ch.o1, ea_ifc, ea_goto, gg_0_4 Ch.o1, gg_0_6 Ch.o1, ea_vret, bz_47, bz_58, bz_124, bz_126, c0_eq, c0_ne, c0_lt, c0_ge, c0_gt, c0_le, mv_ac, decide_eq_true_eq, not_true_eq_false, and_self, and_true, true_and, ea_2n, ea_2f, ea_2c, ea_if, if_pos, if_neg, mv_lk, mv_f1, mv_f2, Value.category, List.filter, ↓reduceIte, Nat.reduceEqDiff, Nat.reduceAdd, Nat.reduceLT, Nat.reduceBEq, Nat.zero_add, Nat.add_zero, Nat.zero_ne_one, Nat.one_ne_zero, Bool.not_true, Bool.not_false, Bool.and_true, Bool.true_and, Bool.and_false, Bool.false_and, BEq.rfl, beq_self_eq_true, Bool.false_eq_true, reduceCtorEq, not_false_eq_true, fv0, fv1, fv2, fv3, eb_l0, eb_l1, eb_l2, eb_l3, eb_l4, eb_l5, eb_s0, eb_s1, eb_s2, eb_s3, eb_s4, eb_s5, oz_add, oz_sub, oz_mul, oz_neg, ol_add, ol_sub, sD_eq, sD_sD, sD_ne, sD_in, sD_in2, sD_in3, upR_is, upR_ne, mk_v, mk_n, mk_x, mk_i, mv_cs, Nat.reduceLeDiff, mv_ch_z, nh_X10_writeBasin, hA9, q1, q2, q3, q4, q5, q6, q7, e]
  · have e0 : A (6 + 9 * k + 5) = 0 := by omega
    have ex : zWb A k P = zWbA A k P := by unfold zWb; rw [if_neg e]
    have ea : zWbA A k P = zWn (A (6 + 9 * k + 4)) (zWr 124 (zWn (A (6 + 9 * k + 0)) (zWr 47 (zWn (A (6 + 9 * k + 1)) P)))) := by unfold zWbA zWx; rw [if_neg e]
    rw [ex, ea]
    obtain ⟨d, rfl⟩ : ∃ e, d = e + 1 := ⟨d - 1, by omega⟩
    apply mv_cl_of
    simp only [mv_il, Value.category, Nat.zero_add, Nat.reduceAdd]
    simp only [Nat.add_sub_cancel] at q1 q2 q3 q4 q5
    simp (disch := omega) only [mv_Ev_row r_X10_writeBasin_0, mv_Ev_row r_X10_writeBasin_1, mv_Ev_row r_X10_writeBasin_4, mv_Ev_row r_X10_writeBasin_5, mv_Ev_row r_X10_writeBasin_8, mv_Ev_row r_X10_writeBasin_11, mv_Ev_row r_X10_writeBasin_12, mv_Ev_row r_X10_writeBasin_15, mv_Ev_row r_X10_writeBasin_17, mv_Ev_row r_X10_writeBasin_20, mv_Ev_row r_X10_writeBasin_21, mv_Ev_row r_X10_writeBasin_24, mv_Ev_row r_X10_writeBasin_25, mv_Ev_row r_X10_writeBasin_28, mv_Ev_row r_X10_writeBasin_31, mv_Ev_row r_X10_writeBasin_32, mv_Ev_row r_X10_writeBasin_35, mv_Ev_row r_X10_writeBasin_36, mv_Ev_row r_X10_writeBasin_39, mv_Ev_row r_X10_writeBasin_42, mv_Ev_row r_X10_writeBasin_44, mv_Ev_row r_X10_writeBasin_47, mv_Ev_row r_X10_writeBasin_49, mv_Ev_row r_X10_writeBasin_52, mv_Ev_row r_X10_writeBasin_53, mv_Ev_row r_X10_writeBasin_56, mv_Ev_row r_X10_writeBasin_57, mv_Ev_row r_X10_writeBasin_60, mv_Ev_row r_X10_writeBasin_63, mv_Ev_row r_X10_writeBasin_64, mv_Ev_row r_X10_writeBasin_67, mv_Ev_row r_X10_writeBasin_70, mv_Ev_row r_X10_writeBasin_71, mv_Ev_row r_X10_writeBasin_74, mv_Ev_row r_X10_writeBasin_76, mv_Ev_row r_X10_writeBasin_79, mv_Ev_row r_X10_writeBasin_80, mv_Ev_row r_X10_writeBasin_83, mv_Ev_row r_X10_writeBasin_84, mv_Ev_row r_X10_writeBasin_87, mv_Ev_row r_X10_writeBasin_90, ea_aload_n, gg_7_8, gg_0_3 Ch.o1, kv_X6_putNumber, ea_bipush, kv_X6_put, gg_0_0 Ch.o1, gg_0_5 Ch.o1, ea_ifc, ea_goto, gg_0_4 Ch.o1, gg_0_6 Ch.o1, ea_vret, bz_47, bz_58, bz_124, bz_126, c0_eq, c0_ne, c0_lt, c0_ge, c0_gt, c0_le, mv_ac, decide_eq_true_eq, not_true_eq_false, and_self, and_true, true_and, ea_2n, ea_2f, ea_2c, ea_if, if_pos, if_neg, mv_lk, mv_f1, mv_f2, Value.category, List.filter, ↓reduceIte, Nat.reduceEqDiff, Nat.reduceAdd, Nat.reduceLT, Nat.reduceBEq, Nat.zero_add, Nat.add_zero, Nat.zero_ne_one, Nat.one_ne_zero, Bool.not_true, Bool.not_false, Bool.and_true, Bool.true_and, Bool.and_false, Bool.false_and, BEq.rfl, beq_self_eq_true, Bool.false_eq_true, reduceCtorEq, not_false_eq_true, fv0, fv1, fv2, fv3, eb_l0, eb_l1, eb_l2, eb_l3, eb_l4, eb_l5, eb_s0, eb_s1, eb_s2, eb_s3, eb_s4, eb_s5, oz_add, oz_sub, oz_mul, oz_neg, ol_add, ol_sub, sD_eq, sD_sD, sD_ne, sD_in, sD_in2, sD_in3, upR_is, upR_ne, mk_v, mk_n, mk_x, mk_i, mv_cs, Nat.reduceLeDiff, mv_ch_z, nh_X10_writeBasin, hA9, q1, q2, q3, q4, q5, e0]
theorem lp_X10_writeChain (hd : 4 ≤ d) (hA : T.1 o1 = A) (hW : zWF A 99) : ∀ (n : Nat) (k : Int) (P : zWp), 0 ≤ k → k + n = A 0 → 0 ≤ P.1 → P.1 ≤ 11 * k → (0 < k → P.1 ≤ 11 * k - 1) → mv_Ev L xs (mv_cl L xs d) k_X10_writeChain 10 [(1, .int (Int32.ofInt k)), (0, .ref 0)] [] (t, 142, mz (sD (sD T 140 (upR F 1 P.1)) 141 P.2)) (.inl (some (.int (Int32.ofInt (zWc A n k P).1))), (t, 142, mz (sD (sD T 140 (upR F 1 (zWc A n k P).1)) 141 (zWc A n k P).2))) := by
  have a5 := hW.2.1
  have hA9 : ∀ X Y, (sD (sD T 140 X) 141 Y).1 o1 = A := fun X Y => by
    rw [sD_ne _ _ (by decide), sD_ne _ _ (by decide)]
    exact hA
  intro n
  induction n with
  | zero =>
    intro k P h0 hn p0 p1 p2
    simp (disch := omega) only [mv_Ev_row r_X10_writeChain_0, mv_Ev_row r_X10_writeChain_1, mv_Ev_row r_X10_writeChain_4, mv_Ev_row r_X10_writeChain_5, mv_Ev_row r_X10_writeChain_8, mv_Ev_row r_X10_writeChain_9, mv_Ev_row r_X10_writeChain_10, mv_Ev_row r_X10_writeChain_11, mv_Ev_row r_X10_writeChain_12, mv_Ev_row r_X10_writeChain_15, mv_Ev_row r_X10_writeChain_18, mv_Ev_row r_X10_writeChain_21, mv_Ev_row r_X10_writeChain_22, mv_Ev_row r_X10_writeChain_25, mv_Ev_row r_X10_writeChain_26, mv_Ev_row r_X10_writeChain_29, mv_Ev_row r_X10_writeChain_31, mv_Ev_row r_X10_writeChain_34, mv_Ev_row r_X10_writeChain_35, mv_Ev_row r_X10_writeChain_36, mv_Ev_row r_X10_writeChain_39, mv_Ev_row r_X10_writeChain_42, mv_Ev_row r_X10_writeChain_43, mv_Ev_row r_X10_writeChain_44, mv_Ev_row r_X10_writeChain_47, mv_Ev_row r_X10_writeChain_50, mv_Ev_row r_X10_writeChain_53, mv_Ev_row r_X10_writeChain_54, mv_Ev_row r_X10_writeChain_57, mv_Ev_row r_X10_writeChain_60, ea_aload_n, gg_7_8, ea_iconst, pp_3_1, ea_istore_n, ea_iload_n, gg_1_1 Ch.o1, ea_icmp, ea_ifc, ea_bipush, kv_X6_put, gg_1_0 Ch.o1, kv_X10_writeBasin, ea_iinc, eb_inc, ea_goto, gg_3_1, ea_ireturn, ez_ret, ez_retc, ar_bas Ch.o1, ar_his, ar_try, bz_32, cz_eq, cz_ne, cz_lt, cz_ge, cz_gt, cz_le, c0_eq, c0_ne, c0_lt, c0_ge, c0_gt, c0_le, mv_ac, decide_eq_true_eq, not_true_eq_false, and_self, and_true, true_and, ea_2n, ea_2f, ea_2c, ea_if, if_pos, if_neg, mv_lk, mv_f1, mv_f2, Value.category, List.filter, ↓reduceIte, Nat.reduceEqDiff, Nat.reduceAdd, Nat.reduceLT, Nat.reduceBEq, Nat.zero_add, Nat.add_zero, Nat.zero_ne_one, Nat.one_ne_zero, Bool.not_true, Bool.not_false, Bool.and_true, Bool.true_and, Bool.and_false, Bool.false_and, BEq.rfl, beq_self_eq_true, Bool.false_eq_true, reduceCtorEq, not_false_eq_true, fv0, fv1, fv2, fv3, eb_l0, eb_l1, eb_l2, eb_l3, eb_l4, eb_l5, eb_s0, eb_s1, eb_s2, eb_s3, eb_s4, eb_s5, oz_add, oz_sub, oz_mul, oz_neg, ol_add, ol_sub, sD_eq, sD_sD, sD_ne, sD_in, sD_in2, sD_in3, upR_is, upR_ne, mk_v, mk_n, mk_x, mk_i, mv_cs, Nat.reduceLeDiff, mv_ch_z, nh_X10_writeChain, zWc, hA9, g7_0]
  | succ n ih =>
    intro k P h0 hn p0 p1 p2
    have hk := hW.2.2.2.2.1 k h0 (by omega)
    have h4 : A (6 + 9 * k + 4) ≤ 5 := by unfold zOK at hk; omega
    rw [zWc]
    by_cases e : 0 < k
    · rw [if_pos e]
      have hb := zWb_1 h4 (zWr 32 P)
      rw [zWr_1] at hb
      have q0 := c_X6_putP (L := L) (xs := xs) (t := t) (T := T) (F := F) (P := P) (d := d) (v := 32) (by omega) (by omega) (by omega) p0 (by omega)
      have q1 := c_X10_writeBasin (L := L) (xs := xs) (t := t) (T := T) (F := F) (P := zWr 32 P) (d := d) hd hA h0 (by omega) hk (by rw [zWr_1]; omega) (by rw [zWr_1]; omega)
      rw [mv_Ev_row r_X10_writeChain_10]
      simp (disch := omega) only [mv_Ev_row r_X10_writeChain_0, mv_Ev_row r_X10_writeChain_1, mv_Ev_row r_X10_writeChain_4, mv_Ev_row r_X10_writeChain_5, mv_Ev_row r_X10_writeChain_8, mv_Ev_row r_X10_writeChain_9, mv_Ev_row r_X10_writeChain_11, mv_Ev_row r_X10_writeChain_12, mv_Ev_row r_X10_writeChain_15, mv_Ev_row r_X10_writeChain_18, mv_Ev_row r_X10_writeChain_21, mv_Ev_row r_X10_writeChain_22, mv_Ev_row r_X10_writeChain_25, mv_Ev_row r_X10_writeChain_26, mv_Ev_row r_X10_writeChain_29, mv_Ev_row r_X10_writeChain_31, mv_Ev_row r_X10_writeChain_34, mv_Ev_row r_X10_writeChain_35, mv_Ev_row r_X10_writeChain_36, mv_Ev_row r_X10_writeChain_39, mv_Ev_row r_X10_writeChain_42, mv_Ev_row r_X10_writeChain_43, mv_Ev_row r_X10_writeChain_44, mv_Ev_row r_X10_writeChain_47, mv_Ev_row r_X10_writeChain_50, mv_Ev_row r_X10_writeChain_53, mv_Ev_row r_X10_writeChain_54, mv_Ev_row r_X10_writeChain_57, mv_Ev_row r_X10_writeChain_60, ea_aload_n, gg_7_8, ea_iconst, pp_3_1, ea_istore_n, ea_iload_n, gg_1_1 Ch.o1, ea_icmp, ea_ifc, ea_bipush, kv_X6_put, gg_1_0 Ch.o1, kv_X10_writeBasin, ea_iinc, eb_inc, ea_goto, gg_3_1, ea_ireturn, ez_ret, ez_retc, ar_bas Ch.o1, ar_his, ar_try, bz_32, cz_eq, cz_ne, cz_lt, cz_ge, cz_gt, cz_le, c0_eq, c0_ne, c0_lt, c0_ge, c0_gt, c0_le, mv_ac, decide_eq_true_eq, not_true_eq_false, and_self, and_true, true_and, ea_2n, ea_2f, ea_2c, ea_if, if_pos, if_neg, mv_lk, mv_f1, mv_f2, Value.category, List.filter, ↓reduceIte, Nat.reduceEqDiff, Nat.reduceAdd, Nat.reduceLT, Nat.reduceBEq, Nat.zero_add, Nat.add_zero, Nat.zero_ne_one, Nat.one_ne_zero, Bool.not_true, Bool.not_false, Bool.and_true, Bool.true_and, Bool.and_false, Bool.false_and, BEq.rfl, beq_self_eq_true, Bool.false_eq_true, reduceCtorEq, not_false_eq_true, fv0, fv1, fv2, fv3, eb_l0, eb_l1, eb_l2, eb_l3, eb_l4, eb_l5, eb_s0, eb_s1, eb_s2, eb_s3, eb_s4, eb_s5, oz_add, oz_sub, oz_mul, oz_neg, ol_add, ol_sub, sD_eq, sD_sD, sD_ne, sD_in, sD_in2, sD_in3, upR_is, upR_ne, mk_v, mk_n, mk_x, mk_i, mv_cs, Nat.reduceLeDiff, mv_ch_z, nh_X10_writeChain, hA9, g7_0, q0, q1]
      exact mv_Es (ih (k + 1) _ (by omega) (by omega) (by omega) (by omega) (by omega))
    · rw [if_neg e]
      have hb := zWb_1 h4 P
      have q1 := c_X10_writeBasin (L := L) (xs := xs) (t := t) (T := T) (F := F) (P := P) (d := d) hd hA h0 (by omega) hk p0 (by omega)
      rw [mv_Ev_row r_X10_writeChain_10]
      simp (disch := omega) only [mv_Ev_row r_X10_writeChain_0, mv_Ev_row r_X10_writeChain_1, mv_Ev_row r_X10_writeChain_4, mv_Ev_row r_X10_writeChain_5, mv_Ev_row r_X10_writeChain_8, mv_Ev_row r_X10_writeChain_9, mv_Ev_row r_X10_writeChain_11, mv_Ev_row r_X10_writeChain_12, mv_Ev_row r_X10_writeChain_15, mv_Ev_row r_X10_writeChain_18, mv_Ev_row r_X10_writeChain_21, mv_Ev_row r_X10_writeChain_22, mv_Ev_row r_X10_writeChain_25, mv_Ev_row r_X10_writeChain_26, mv_Ev_row r_X10_writeChain_29, mv_Ev_row r_X10_writeChain_31, mv_Ev_row r_X10_writeChain_34, mv_Ev_row r_X10_writeChain_35, mv_Ev_row r_X10_writeChain_36, mv_Ev_row r_X10_writeChain_39, mv_Ev_row r_X10_writeChain_42, mv_Ev_row r_X10_writeChain_43, mv_Ev_row r_X10_writeChain_44, mv_Ev_row r_X10_writeChain_47, mv_Ev_row r_X10_writeChain_50, mv_Ev_row r_X10_writeChain_53, mv_Ev_row r_X10_writeChain_54, mv_Ev_row r_X10_writeChain_57, mv_Ev_row r_X10_writeChain_60, ea_aload_n, gg_7_8, ea_iconst, pp_3_1, ea_istore_n, ea_iload_n, gg_1_1 Ch.o1, ea_icmp, ea_ifc, ea_bipush, kv_X6_put, gg_1_0 Ch.o1, kv_X10_writeBasin, ea_iinc, eb_inc, ea_goto, gg_3_1, ea_ireturn, ez_ret, ez_retc, ar_bas Ch.o1, ar_his, ar_try, bz_32, cz_eq, cz_ne, cz_lt, cz_ge, cz_gt, cz_le, c0_eq, c0_ne, c0_lt, c0_ge, c0_gt, c0_le, mv_ac, decide_eq_true_eq, not_true_eq_false, and_self, and_true, true_and, ea_2n, ea_2f, ea_2c, ea_if, if_pos, if_neg, mv_lk, mv_f1, mv_f2, Value.category, List.filter, ↓reduceIte, Nat.reduceEqDiff, Nat.reduceAdd, Nat.reduceLT, Nat.reduceBEq, Nat.zero_add, Nat.add_zero, Nat.zero_ne_one, Nat.one_ne_zero, Bool.not_true, Bool.not_false, Bool.and_true, Bool.true_and, Bool.and_false, Bool.false_and, BEq.rfl, beq_self_eq_true, Bool.false_eq_true, reduceCtorEq, not_false_eq_true, fv0, fv1, fv2, fv3, eb_l0, eb_l1, eb_l2, eb_l3, eb_l4, eb_l5, eb_s0, eb_s1, eb_s2, eb_s3, eb_s4, eb_s5, oz_add, oz_sub, oz_mul, oz_neg, ol_add, ol_sub, sD_eq, sD_sD, sD_ne, sD_in, sD_in2, sD_in3, upR_is, upR_ne, mk_v, mk_n, mk_x, mk_i, mv_cs, Nat.reduceLeDiff, mv_ch_z, nh_X10_writeChain, hA9, g7_0, q1]
      exact mv_Es (ih (k + 1) _ (by omega) (by omega) (by omega) (by omega) (by omega))
theorem c_X10_writeChain (hd : 5 ≤ d) (hA : T.1 o1 = A) (hW : zWF A 99) : mv_cl L xs d k_X10_writeChain [.ref 0] (t, 142, mz T) = some (.inl (some (.int (Int32.ofInt (zWc A (A 0).toNat 0 (0, T.1 141)).1))), (t, 142, mz (sD (sD T 140 (upR (T.1 140) 1 (zWc A (A 0).toNat 0 (0, T.1 141)).1)) 141 (zWc A (A 0).toNat 0 (0, T.1 141)).2))) := by
  have a0 := hW.1
  have h := lp_X10_writeChain (L := L) (xs := xs) (t := t) (T := T) (F := T.1 140) (d := d - 1) (by omega) hA hW (A 0).toNat 0 (0, T.1 141) (by omega) (by omega) (Int.le_refl 0) (by show (0 : Int) ≤ 11 * 0; omega) (fun h => by omega)
  have e : sD (sD T 140 (upR (T.1 140) 1 0)) 141 (T.1 141) = sD T 140 (upR (T.1 140) 1 0) := by
    have := sD_id (sD T 140 (upR (T.1 140) 1 0)) 141
    rw [sD_ne _ _ (by decide)] at this
    exact this
  dsimp only at h
  rw [e] at h
  obtain ⟨d, rfl⟩ : ∃ e, d = e + 1 := ⟨d - 1, by omega⟩
  apply mv_cl_of
  simp only [mv_il, Value.category, Nat.zero_add, Nat.reduceAdd]
  simp only [Nat.add_sub_cancel] at h
  simp (disch := omega) only [mv_Ev_row r_X10_writeChain_0, mv_Ev_row r_X10_writeChain_1, mv_Ev_row r_X10_writeChain_4, mv_Ev_row r_X10_writeChain_5, mv_Ev_row r_X10_writeChain_8, mv_Ev_row r_X10_writeChain_9, mv_Ev_row r_X10_writeChain_11, mv_Ev_row r_X10_writeChain_12, mv_Ev_row r_X10_writeChain_15, mv_Ev_row r_X10_writeChain_18, mv_Ev_row r_X10_writeChain_21, mv_Ev_row r_X10_writeChain_22, mv_Ev_row r_X10_writeChain_25, mv_Ev_row r_X10_writeChain_26, mv_Ev_row r_X10_writeChain_29, mv_Ev_row r_X10_writeChain_31, mv_Ev_row r_X10_writeChain_34, mv_Ev_row r_X10_writeChain_35, mv_Ev_row r_X10_writeChain_36, mv_Ev_row r_X10_writeChain_39, mv_Ev_row r_X10_writeChain_42, mv_Ev_row r_X10_writeChain_43, mv_Ev_row r_X10_writeChain_44, mv_Ev_row r_X10_writeChain_47, mv_Ev_row r_X10_writeChain_50, mv_Ev_row r_X10_writeChain_53, mv_Ev_row r_X10_writeChain_54, mv_Ev_row r_X10_writeChain_57, mv_Ev_row r_X10_writeChain_60, ea_aload_n, gg_7_8, ea_iconst, pp_3_1, ea_istore_n, ea_iload_n, gg_1_1 Ch.o1, ea_icmp, ea_ifc, ea_bipush, kv_X6_put, gg_1_0 Ch.o1, kv_X10_writeBasin, ea_iinc, eb_inc, ea_goto, gg_3_1, ea_ireturn, ez_ret, ez_retc, ar_bas Ch.o1, ar_his, ar_try, bz_32, cz_eq, cz_ne, cz_lt, cz_ge, cz_gt, cz_le, c0_eq, c0_ne, c0_lt, c0_ge, c0_gt, c0_le, mv_ac, decide_eq_true_eq, not_true_eq_false, and_self, and_true, true_and, ea_2n, ea_2f, ea_2c, ea_if, if_pos, if_neg, mv_lk, mv_f1, mv_f2, Value.category, List.filter, ↓reduceIte, Nat.reduceEqDiff, Nat.reduceAdd, Nat.reduceLT, Nat.reduceBEq, Nat.zero_add, Nat.add_zero, Nat.zero_ne_one, Nat.one_ne_zero, Bool.not_true, Bool.not_false, Bool.and_true, Bool.true_and, Bool.and_false, Bool.false_and, BEq.rfl, beq_self_eq_true, Bool.false_eq_true, reduceCtorEq, not_false_eq_true, fv0, fv1, fv2, fv3, eb_l0, eb_l1, eb_l2, eb_l3, eb_l4, eb_l5, eb_s0, eb_s1, eb_s2, eb_s3, eb_s4, eb_s5, oz_add, oz_sub, oz_mul, oz_neg, ol_add, ol_sub, sD_eq, sD_sD, sD_ne, sD_in, sD_in2, sD_in3, upR_is, upR_ne, mk_v, mk_n, mk_x, mk_i, mv_cs, Nat.reduceLeDiff, mv_ch_z, nh_X10_writeChain, g7_0]
  exact mv_Es h
theorem lp_X10_writeForecast (hd : 3 ≤ d) (hA : T.1 o1 = A) (hW : zWF A 99) : ∀ (n : Nat) (k : Int) (P : zWp), 0 ≤ k → k + n = A 2 → 0 ≤ P.1 → P.1 ≤ 3 * k → mv_Ev L xs (mv_cl L xs d) k_X10_writeForecast 10 [(1, .int (Int32.ofInt k)), (0, .ref 0)] [] (t, 142, mz (sD (sD T 140 (upR F 1 P.1)) 141 P.2)) (.inl (some (.int (Int32.ofInt (zWf A n k P).1))), (t, 142, mz (sD (sD T 140 (upR F 1 (zWf A n k P).1)) 141 (zWf A n k P).2))) := by
  have a12 := hW.2.2.2.1
  have hA9 : ∀ X Y, (sD (sD T 140 X) 141 Y).1 o1 = A := fun X Y => by
    rw [sD_ne _ _ (by decide), sD_ne _ _ (by decide)]
    exact hA
  intro n
  induction n with
  | zero =>
    intro k P h0 hn p0 p1
    simp (disch := omega) only [mv_Ev_row r_X10_writeForecast_0, mv_Ev_row r_X10_writeForecast_1, mv_Ev_row r_X10_writeForecast_4, mv_Ev_row r_X10_writeForecast_5, mv_Ev_row r_X10_writeForecast_8, mv_Ev_row r_X10_writeForecast_9, mv_Ev_row r_X10_writeForecast_10, mv_Ev_row r_X10_writeForecast_11, mv_Ev_row r_X10_writeForecast_12, mv_Ev_row r_X10_writeForecast_15, mv_Ev_row r_X10_writeForecast_18, mv_Ev_row r_X10_writeForecast_21, mv_Ev_row r_X10_writeForecast_22, mv_Ev_row r_X10_writeForecast_25, mv_Ev_row r_X10_writeForecast_26, mv_Ev_row r_X10_writeForecast_29, mv_Ev_row r_X10_writeForecast_31, mv_Ev_row r_X10_writeForecast_34, mv_Ev_row r_X10_writeForecast_35, mv_Ev_row r_X10_writeForecast_38, mv_Ev_row r_X10_writeForecast_39, mv_Ev_row r_X10_writeForecast_42, mv_Ev_row r_X10_writeForecast_45, mv_Ev_row r_X10_writeForecast_46, mv_Ev_row r_X10_writeForecast_47, mv_Ev_row r_X10_writeForecast_50, mv_Ev_row r_X10_writeForecast_53, mv_Ev_row r_X10_writeForecast_56, mv_Ev_row r_X10_writeForecast_57, mv_Ev_row r_X10_writeForecast_60, mv_Ev_row r_X10_writeForecast_63, ea_aload_n, gg_7_8, ea_iconst, pp_3_1, ea_istore_n, ea_iload_n, gg_1_3 Ch.o1, ea_icmp, ea_ifc, ea_bipush, kv_X6_put, gg_1_2 Ch.o1, kv_X6_putNumber, ea_iinc, eb_inc, ea_goto, gg_3_1, ea_ireturn, ez_ret, ez_retc, ar_ld (AI.fc Ch.o1), bz_44, cz_eq, cz_ne, cz_lt, cz_ge, cz_gt, cz_le, c0_eq, c0_ne, c0_lt, c0_ge, c0_gt, c0_le, mv_ac, decide_eq_true_eq, not_true_eq_false, and_self, and_true, true_and, ea_2n, ea_2f, ea_2c, ea_if, if_pos, if_neg, mv_lk, mv_f1, mv_f2, Value.category, List.filter, ↓reduceIte, Nat.reduceEqDiff, Nat.reduceAdd, Nat.reduceLT, Nat.reduceBEq, Nat.zero_add, Nat.add_zero, Nat.zero_ne_one, Nat.one_ne_zero, Bool.not_true, Bool.not_false, Bool.and_true, Bool.true_and, Bool.and_false, Bool.false_and, BEq.rfl, beq_self_eq_true, Bool.false_eq_true, reduceCtorEq, not_false_eq_true, fv0, fv1, fv2, fv3, eb_l0, eb_l1, eb_l2, eb_l3, eb_l4, eb_l5, eb_s0, eb_s1, eb_s2, eb_s3, eb_s4, eb_s5, oz_add, oz_sub, oz_mul, oz_neg, ol_add, ol_sub, sD_eq, sD_sD, sD_ne, sD_in, sD_in2, sD_in3, upR_is, upR_ne, mk_v, mk_n, mk_x, mk_i, mv_cs, Nat.reduceLeDiff, mv_ch_z, nh_X10_writeForecast, zWf, hA9, g7_0]
  | succ n ih =>
    intro k P h0 hn p0 p1
    have hk := hW.2.2.2.2.2 k h0 (by omega)
    rw [zWf]
    by_cases e : 0 < k
    · rw [if_pos e]
      have hb := zWn_1 (A (51 + k)) (zWr 44 P)
      rw [zWr_1] at hb
      have q0 := c_X6_putP (L := L) (xs := xs) (t := t) (T := T) (F := F) (P := P) (d := d) (v := 44) (by omega) (by omega) (by omega) p0 (by omega)
      have q1 := c_X6_putNumber (L := L) (xs := xs) (t := t) (T := T) (F := F) (P := zWr 44 P) (d := d) (v := A (51 + k)) hd (by omega) (by omega) (by rw [zWr_1]; omega) (by rw [zWr_1]; omega)
      rw [mv_Ev_row r_X10_writeForecast_10]
      simp (disch := omega) only [mv_Ev_row r_X10_writeForecast_0, mv_Ev_row r_X10_writeForecast_1, mv_Ev_row r_X10_writeForecast_4, mv_Ev_row r_X10_writeForecast_5, mv_Ev_row r_X10_writeForecast_8, mv_Ev_row r_X10_writeForecast_9, mv_Ev_row r_X10_writeForecast_11, mv_Ev_row r_X10_writeForecast_12, mv_Ev_row r_X10_writeForecast_15, mv_Ev_row r_X10_writeForecast_18, mv_Ev_row r_X10_writeForecast_21, mv_Ev_row r_X10_writeForecast_22, mv_Ev_row r_X10_writeForecast_25, mv_Ev_row r_X10_writeForecast_26, mv_Ev_row r_X10_writeForecast_29, mv_Ev_row r_X10_writeForecast_31, mv_Ev_row r_X10_writeForecast_34, mv_Ev_row r_X10_writeForecast_35, mv_Ev_row r_X10_writeForecast_38, mv_Ev_row r_X10_writeForecast_39, mv_Ev_row r_X10_writeForecast_42, mv_Ev_row r_X10_writeForecast_45, mv_Ev_row r_X10_writeForecast_46, mv_Ev_row r_X10_writeForecast_47, mv_Ev_row r_X10_writeForecast_50, mv_Ev_row r_X10_writeForecast_53, mv_Ev_row r_X10_writeForecast_56, mv_Ev_row r_X10_writeForecast_57, mv_Ev_row r_X10_writeForecast_60, mv_Ev_row r_X10_writeForecast_63, ea_aload_n, gg_7_8, ea_iconst, pp_3_1, ea_istore_n, ea_iload_n, gg_1_3 Ch.o1, ea_icmp, ea_ifc, ea_bipush, kv_X6_put, gg_1_2 Ch.o1, kv_X6_putNumber, ea_iinc, eb_inc, ea_goto, gg_3_1, ea_ireturn, ez_ret, ez_retc, ar_ld (AI.fc Ch.o1), bz_44, cz_eq, cz_ne, cz_lt, cz_ge, cz_gt, cz_le, c0_eq, c0_ne, c0_lt, c0_ge, c0_gt, c0_le, mv_ac, decide_eq_true_eq, not_true_eq_false, and_self, and_true, true_and, ea_2n, ea_2f, ea_2c, ea_if, if_pos, if_neg, mv_lk, mv_f1, mv_f2, Value.category, List.filter, ↓reduceIte, Nat.reduceEqDiff, Nat.reduceAdd, Nat.reduceLT, Nat.reduceBEq, Nat.zero_add, Nat.add_zero, Nat.zero_ne_one, Nat.one_ne_zero, Bool.not_true, Bool.not_false, Bool.and_true, Bool.true_and, Bool.and_false, Bool.false_and, BEq.rfl, beq_self_eq_true, Bool.false_eq_true, reduceCtorEq, not_false_eq_true, fv0, fv1, fv2, fv3, eb_l0, eb_l1, eb_l2, eb_l3, eb_l4, eb_l5, eb_s0, eb_s1, eb_s2, eb_s3, eb_s4, eb_s5, oz_add, oz_sub, oz_mul, oz_neg, ol_add, ol_sub, sD_eq, sD_sD, sD_ne, sD_in, sD_in2, sD_in3, upR_is, upR_ne, mk_v, mk_n, mk_x, mk_i, mv_cs, Nat.reduceLeDiff, mv_ch_z, nh_X10_writeForecast, hA9, g7_0, q0, q1]
      exact mv_Es (ih (k + 1) _ (by omega) (by omega) (by omega) (by omega))
    · rw [if_neg e]
      have hb := zWn_1 (A (51 + k)) P
      have q1 := c_X6_putNumber (L := L) (xs := xs) (t := t) (T := T) (F := F) (P := P) (d := d) (v := A (51 + k)) hd (by omega) (by omega) p0 (by omega)
      rw [mv_Ev_row r_X10_writeForecast_10]
      simp (disch := omega) only [mv_Ev_row r_X10_writeForecast_0, mv_Ev_row r_X10_writeForecast_1, mv_Ev_row r_X10_writeForecast_4, mv_Ev_row r_X10_writeForecast_5, mv_Ev_row r_X10_writeForecast_8, mv_Ev_row r_X10_writeForecast_9, mv_Ev_row r_X10_writeForecast_11, mv_Ev_row r_X10_writeForecast_12, mv_Ev_row r_X10_writeForecast_15, mv_Ev_row r_X10_writeForecast_18, mv_Ev_row r_X10_writeForecast_21, mv_Ev_row r_X10_writeForecast_22, mv_Ev_row r_X10_writeForecast_25, mv_Ev_row r_X10_writeForecast_26, mv_Ev_row r_X10_writeForecast_29, mv_Ev_row r_X10_writeForecast_31, mv_Ev_row r_X10_writeForecast_34, mv_Ev_row r_X10_writeForecast_35, mv_Ev_row r_X10_writeForecast_38, mv_Ev_row r_X10_writeForecast_39, mv_Ev_row r_X10_writeForecast_42, mv_Ev_row r_X10_writeForecast_45, mv_Ev_row r_X10_writeForecast_46, mv_Ev_row r_X10_writeForecast_47, mv_Ev_row r_X10_writeForecast_50, mv_Ev_row r_X10_writeForecast_53, mv_Ev_row r_X10_writeForecast_56, mv_Ev_row r_X10_writeForecast_57, mv_Ev_row r_X10_writeForecast_60, mv_Ev_row r_X10_writeForecast_63, ea_aload_n, gg_7_8, ea_iconst, pp_3_1, ea_istore_n, ea_iload_n, gg_1_3 Ch.o1, ea_icmp, ea_ifc, ea_bipush, kv_X6_put, gg_1_2 Ch.o1, kv_X6_putNumber, ea_iinc, eb_inc, ea_goto, gg_3_1, ea_ireturn, ez_ret, ez_retc, ar_ld (AI.fc Ch.o1), bz_44, cz_eq, cz_ne, cz_lt, cz_ge, cz_gt, cz_le, c0_eq, c0_ne, c0_lt, c0_ge, c0_gt, c0_le, mv_ac, decide_eq_true_eq, not_true_eq_false, and_self, and_true, true_and, ea_2n, ea_2f, ea_2c, ea_if, if_pos, if_neg, mv_lk, mv_f1, mv_f2, Value.category, List.filter, ↓reduceIte, Nat.reduceEqDiff, Nat.reduceAdd, Nat.reduceLT, Nat.reduceBEq, Nat.zero_add, Nat.add_zero, Nat.zero_ne_one, Nat.one_ne_zero, Bool.not_true, Bool.not_false, Bool.and_true, Bool.true_and, Bool.and_false, Bool.false_and, BEq.rfl, beq_self_eq_true, Bool.false_eq_true, reduceCtorEq, not_false_eq_true, fv0, fv1, fv2, fv3, eb_l0, eb_l1, eb_l2, eb_l3, eb_l4, eb_l5, eb_s0, eb_s1, eb_s2, eb_s3, eb_s4, eb_s5, oz_add, oz_sub, oz_mul, oz_neg, ol_add, ol_sub, sD_eq, sD_sD, sD_ne, sD_in, sD_in2, sD_in3, upR_is, upR_ne, mk_v, mk_n, mk_x, mk_i, mv_cs, Nat.reduceLeDiff, mv_ch_z, nh_X10_writeForecast, hA9, g7_0, q1]
      exact mv_Es (ih (k + 1) _ (by omega) (by omega) (by omega) (by omega))
theorem c_X10_writeForecast (hd : 4 ≤ d) (hA : T.1 o1 = A) (hW : zWF A 99) : mv_cl L xs d k_X10_writeForecast [.ref 0] (t, 142, mz T) = some (.inl (some (.int (Int32.ofInt (zWf A (A 2).toNat 0 (0, T.1 141)).1))), (t, 142, mz (sD (sD T 140 (upR (T.1 140) 1 (zWf A (A 2).toNat 0 (0, T.1 141)).1)) 141 (zWf A (A 2).toNat 0 (0, T.1 141)).2))) := by
  have a2 := hW.2.2.1
  have h := lp_X10_writeForecast (L := L) (xs := xs) (t := t) (T := T) (F := T.1 140) (d := d - 1) (by omega) hA hW (A 2).toNat 0 (0, T.1 141) (by omega) (by omega) (Int.le_refl 0) (by show (0 : Int) ≤ 3 * 0; omega)
  have e : sD (sD T 140 (upR (T.1 140) 1 0)) 141 (T.1 141) = sD T 140 (upR (T.1 140) 1 0) := by
    have := sD_id (sD T 140 (upR (T.1 140) 1 0)) 141
    rw [sD_ne _ _ (by decide)] at this
    exact this
  dsimp only at h
  rw [e] at h
  obtain ⟨d, rfl⟩ : ∃ e, d = e + 1 := ⟨d - 1, by omega⟩
  apply mv_cl_of
  simp only [mv_il, Value.category, Nat.zero_add, Nat.reduceAdd]
  simp only [Nat.add_sub_cancel] at h
  simp (disch := omega) only [mv_Ev_row r_X10_writeForecast_0, mv_Ev_row r_X10_writeForecast_1, mv_Ev_row r_X10_writeForecast_4, mv_Ev_row r_X10_writeForecast_5, mv_Ev_row r_X10_writeForecast_8, mv_Ev_row r_X10_writeForecast_9, mv_Ev_row r_X10_writeForecast_11, mv_Ev_row r_X10_writeForecast_12, mv_Ev_row r_X10_writeForecast_15, mv_Ev_row r_X10_writeForecast_18, mv_Ev_row r_X10_writeForecast_21, mv_Ev_row r_X10_writeForecast_22, mv_Ev_row r_X10_writeForecast_25, mv_Ev_row r_X10_writeForecast_26, mv_Ev_row r_X10_writeForecast_29, mv_Ev_row r_X10_writeForecast_31, mv_Ev_row r_X10_writeForecast_34, mv_Ev_row r_X10_writeForecast_35, mv_Ev_row r_X10_writeForecast_38, mv_Ev_row r_X10_writeForecast_39, mv_Ev_row r_X10_writeForecast_42, mv_Ev_row r_X10_writeForecast_45, mv_Ev_row r_X10_writeForecast_46, mv_Ev_row r_X10_writeForecast_47, mv_Ev_row r_X10_writeForecast_50, mv_Ev_row r_X10_writeForecast_53, mv_Ev_row r_X10_writeForecast_56, mv_Ev_row r_X10_writeForecast_57, mv_Ev_row r_X10_writeForecast_60, mv_Ev_row r_X10_writeForecast_63, ea_aload_n, gg_7_8, ea_iconst, pp_3_1, ea_istore_n, ea_iload_n, gg_1_3 Ch.o1, ea_icmp, ea_ifc, ea_bipush, kv_X6_put, gg_1_2 Ch.o1, kv_X6_putNumber, ea_iinc, eb_inc, ea_goto, gg_3_1, ea_ireturn, ez_ret, ez_retc, ar_ld (AI.fc Ch.o1), bz_44, cz_eq, cz_ne, cz_lt, cz_ge, cz_gt, cz_le, c0_eq, c0_ne, c0_lt, c0_ge, c0_gt, c0_le, mv_ac, decide_eq_true_eq, not_true_eq_false, and_self, and_true, true_and, ea_2n, ea_2f, ea_2c, ea_if, if_pos, if_neg, mv_lk, mv_f1, mv_f2, Value.category, List.filter, ↓reduceIte, Nat.reduceEqDiff, Nat.reduceAdd, Nat.reduceLT, Nat.reduceBEq, Nat.zero_add, Nat.add_zero, Nat.zero_ne_one, Nat.one_ne_zero, Bool.not_true, Bool.not_false, Bool.and_true, Bool.true_and, Bool.and_false, Bool.false_and, BEq.rfl, beq_self_eq_true, Bool.false_eq_true, reduceCtorEq, not_false_eq_true, fv0, fv1, fv2, fv3, eb_l0, eb_l1, eb_l2, eb_l3, eb_l4, eb_l5, eb_s0, eb_s1, eb_s2, eb_s3, eb_s4, eb_s5, oz_add, oz_sub, oz_mul, oz_neg, ol_add, ol_sub, sD_eq, sD_sD, sD_ne, sD_in, sD_in2, sD_in3, upR_is, upR_ne, mk_v, mk_n, mk_x, mk_i, mv_cs, Nat.reduceLeDiff, mv_ch_z, nh_X10_writeForecast, g7_0]
  exact mv_Es h
end OUC
