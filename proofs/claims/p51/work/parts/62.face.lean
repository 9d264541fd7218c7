/-! THE FACE OF THE CLASS: sums, text, undo, predictions -/
theorem tb_X10_levelAfter : mv_tb k_X10_levelAfter = t_X10_levelAfter := rfl
theorem r_X10_levelAfter_0 : mv_in k_X10_levelAfter 0 = some (.aload_n 0, 1, 0, 0, 0) := by unfold mv_in; rw [tb_X10_levelAfter]; rfl
theorem r_X10_levelAfter_1 : mv_in k_X10_levelAfter 1 = some (.getfield 10, 4, 7, 0, 285) := by unfold mv_in; rw [tb_X10_levelAfter]; rfl
theorem r_X10_levelAfter_4 : mv_in k_X10_levelAfter 4 = some (.iload_n 1, 5, 0, 0, 0) := by unfold mv_in; rw [tb_X10_levelAfter]; rfl
theorem r_X10_levelAfter_5 : mv_in k_X10_levelAfter 5 = some (.iload_n 2, 6, 0, 0, 0) := by unfold mv_in; rw [tb_X10_levelAfter]; rfl
theorem r_X10_levelAfter_6 : mv_in k_X10_levelAfter 6 = some (.invokevirtual 206, 9, k_X2_faultOfPrediction, 3, 527) := by unfold mv_in; rw [tb_X10_levelAfter]; rfl
theorem r_X10_levelAfter_9 : mv_in k_X10_levelAfter 9 = some (.invokestatic 106, 12, k_X10_throwFor, 1, 545) := by unfold mv_in; rw [tb_X10_levelAfter]; rfl
theorem r_X10_levelAfter_12 : mv_in k_X10_levelAfter 12 = some (.aload_n 0, 13, 0, 0, 0) := by unfold mv_in; rw [tb_X10_levelAfter]; rfl
theorem r_X10_levelAfter_13 : mv_in k_X10_levelAfter 13 = some (.iload_n 2, 14, 0, 0, 0) := by unfold mv_in; rw [tb_X10_levelAfter]; rfl
theorem r_X10_levelAfter_14 : mv_in k_X10_levelAfter 14 = some (.invokevirtual 210, 17, k_X10_lookAhead, 2, 583) := by unfold mv_in; rw [tb_X10_levelAfter]; rfl
theorem r_X10_levelAfter_17 : mv_in k_X10_levelAfter 17 = some (.aload_n 0, 18, 0, 0, 0) := by unfold mv_in; rw [tb_X10_levelAfter]; rfl
theorem r_X10_levelAfter_18 : mv_in k_X10_levelAfter 18 = some (.getfield 22, 21, 7, 3, 288) := by unfold mv_in; rw [tb_X10_levelAfter]; rfl
theorem r_X10_levelAfter_21 : mv_in k_X10_levelAfter 21 = some (.getfield 197, 24, 1, 0, 161) := by unfold mv_in; rw [tb_X10_levelAfter]; rfl
theorem r_X10_levelAfter_24 : mv_in k_X10_levelAfter 24 = some (.iload_n 1, 25, 0, 0, 0) := by unfold mv_in; rw [tb_X10_levelAfter]; rfl
theorem r_X10_levelAfter_25 : mv_in k_X10_levelAfter 25 = some (.aaload, 26, 0, 0, 0) := by unfold mv_in; rw [tb_X10_levelAfter]; rfl
theorem r_X10_levelAfter_26 : mv_in k_X10_levelAfter 26 = some (.getfield 129, 29, 0, 3, 124) := by unfold mv_in; rw [tb_X10_levelAfter]; rfl
theorem r_X10_levelAfter_29 : mv_in k_X10_levelAfter 29 = some (.ireturn, 30, 0, 0, 0) := by unfold mv_in; rw [tb_X10_levelAfter]; rfl
theorem nh_X10_levelAfter : mv_nh k_X10_levelAfter = true := rfl
theorem tb_X10_spillOf : mv_tb k_X10_spillOf = t_X10_spillOf := rfl
theorem r_X10_spillOf_0 : mv_in k_X10_spillOf 0 = some (.aload_n 0, 1, 0, 0, 0) := by unfold mv_in; rw [tb_X10_spillOf]; rfl
theorem r_X10_spillOf_1 : mv_in k_X10_spillOf 1 = some (.getfield 10, 4, 7, 0, 285) := by unfold mv_in; rw [tb_X10_spillOf]; rfl
theorem r_X10_spillOf_4 : mv_in k_X10_spillOf 4 = some (.iload_n 1, 5, 0, 0, 0) := by unfold mv_in; rw [tb_X10_spillOf]; rfl
theorem r_X10_spillOf_5 : mv_in k_X10_spillOf 5 = some (.iload_n 2, 6, 0, 0, 0) := by unfold mv_in; rw [tb_X10_spillOf]; rfl
theorem r_X10_spillOf_6 : mv_in k_X10_spillOf 6 = some (.invokevirtual 206, 9, k_X2_faultOfPrediction, 3, 527) := by unfold mv_in; rw [tb_X10_spillOf]; rfl
theorem r_X10_spillOf_9 : mv_in k_X10_spillOf 9 = some (.invokestatic 106, 12, k_X10_throwFor, 1, 545) := by unfold mv_in; rw [tb_X10_spillOf]; rfl
theorem r_X10_spillOf_12 : mv_in k_X10_spillOf 12 = some (.aload_n 0, 13, 0, 0, 0) := by unfold mv_in; rw [tb_X10_spillOf]; rfl
theorem r_X10_spillOf_13 : mv_in k_X10_spillOf 13 = some (.iload_n 2, 14, 0, 0, 0) := by unfold mv_in; rw [tb_X10_spillOf]; rfl
theorem r_X10_spillOf_14 : mv_in k_X10_spillOf 14 = some (.invokevirtual 210, 17, k_X10_lookAhead, 2, 583) := by unfold mv_in; rw [tb_X10_spillOf]; rfl
theorem r_X10_spillOf_17 : mv_in k_X10_spillOf 17 = some (.aload_n 0, 18, 0, 0, 0) := by unfold mv_in; rw [tb_X10_spillOf]; rfl
theorem r_X10_spillOf_18 : mv_in k_X10_spillOf 18 = some (.iload_n 1, 19, 0, 0, 0) := by unfold mv_in; rw [tb_X10_spillOf]; rfl
theorem r_X10_spillOf_19 : mv_in k_X10_spillOf 19 = some (.invokevirtual 214, 22, k_X10_expectedSpill, 2, 627) := by unfold mv_in; rw [tb_X10_spillOf]; rfl
theorem r_X10_spillOf_22 : mv_in k_X10_spillOf 22 = some (.ireturn, 23, 0, 0, 0) := by unfold mv_in; rw [tb_X10_spillOf]; rfl
theorem nh_X10_spillOf : mv_nh k_X10_spillOf = true := rfl
theorem tb_X10_stepsUntilFlood : mv_tb k_X10_stepsUntilFlood = t_X10_stepsUntilFlood := rfl
theorem r_X10_stepsUntilFlood_0 : mv_in k_X10_stepsUntilFlood 0 = some (.aload_n 0, 1, 0, 0, 0) := by unfold mv_in; rw [tb_X10_stepsUntilFlood]; rfl
theorem r_X10_stepsUntilFlood_1 : mv_in k_X10_stepsUntilFlood 1 = some (.getfield 22, 4, 7, 3, 288) := by unfold mv_in; rw [tb_X10_stepsUntilFlood]; rfl
theorem r_X10_stepsUntilFlood_4 : mv_in k_X10_stepsUntilFlood 4 = some (.aload_n 0, 5, 0, 0, 0) := by unfold mv_in; rw [tb_X10_stepsUntilFlood]; rfl
theorem r_X10_stepsUntilFlood_5 : mv_in k_X10_stepsUntilFlood 5 = some (.getfield 10, 8, 7, 0, 285) := by unfold mv_in; rw [tb_X10_stepsUntilFlood]; rfl
theorem r_X10_stepsUntilFlood_8 : mv_in k_X10_stepsUntilFlood 8 = some (.invokevirtual 217, 11, k_X2_copyFrom, 2, 587) := by unfold mv_in; rw [tb_X10_stepsUntilFlood]; rfl
theorem r_X10_stepsUntilFlood_11 : mv_in k_X10_stepsUntilFlood 11 = some (.iconst 1, 12, 0, 0, 0) := by unfold mv_in; rw [tb_X10_stepsUntilFlood]; rfl
theorem r_X10_stepsUntilFlood_12 : mv_in k_X10_stepsUntilFlood 12 = some (.istore_n 1, 13, 0, 0, 0) := by unfold mv_in; rw [tb_X10_stepsUntilFlood]; rfl
theorem r_X10_stepsUntilFlood_13 : mv_in k_X10_stepsUntilFlood 13 = some (.iload_n 1, 14, 0, 0, 0) := by unfold mv_in; rw [tb_X10_stepsUntilFlood]; rfl
theorem r_X10_stepsUntilFlood_14 : mv_in k_X10_stepsUntilFlood 14 = some (.bipush 30, 16, 0, 0, 0) := by unfold mv_in; rw [tb_X10_stepsUntilFlood]; rfl
theorem r_X10_stepsUntilFlood_16 : mv_in k_X10_stepsUntilFlood 16 = some (.if_icmp .gt 21, 19, 37, 0, 0) := by unfold mv_in; rw [tb_X10_stepsUntilFlood]; rfl
theorem r_X10_stepsUntilFlood_19 : mv_in k_X10_stepsUntilFlood 19 = some (.aload_n 0, 20, 0, 0, 0) := by unfold mv_in; rw [tb_X10_stepsUntilFlood]; rfl
theorem r_X10_stepsUntilFlood_20 : mv_in k_X10_stepsUntilFlood 20 = some (.getfield 22, 23, 7, 3, 288) := by unfold mv_in; rw [tb_X10_stepsUntilFlood]; rfl
theorem r_X10_stepsUntilFlood_23 : mv_in k_X10_stepsUntilFlood 23 = some (.invokevirtual 220, 26, k_X2_passStep, 1, 595) := by unfold mv_in; rw [tb_X10_stepsUntilFlood]; rfl
theorem r_X10_stepsUntilFlood_26 : mv_in k_X10_stepsUntilFlood 26 = some (.ifCond .le 5, 29, 31, 0, 0) := by unfold mv_in; rw [tb_X10_stepsUntilFlood]; rfl
theorem r_X10_stepsUntilFlood_29 : mv_in k_X10_stepsUntilFlood 29 = some (.iload_n 1, 30, 0, 0, 0) := by unfold mv_in; rw [tb_X10_stepsUntilFlood]; rfl
theorem r_X10_stepsUntilFlood_30 : mv_in k_X10_stepsUntilFlood 30 = some (.ireturn, 31, 0, 0, 0) := by unfold mv_in; rw [tb_X10_stepsUntilFlood]; rfl
theorem r_X10_stepsUntilFlood_31 : mv_in k_X10_stepsUntilFlood 31 = some (.iinc 1 1, 34, 0, 0, 0) := by unfold mv_in; rw [tb_X10_stepsUntilFlood]; rfl
theorem r_X10_stepsUntilFlood_34 : mv_in k_X10_stepsUntilFlood 34 = some (.goto (-21), 37, 13, 0, 0) := by unfold mv_in; rw [tb_X10_stepsUntilFlood]; rfl
theorem r_X10_stepsUntilFlood_37 : mv_in k_X10_stepsUntilFlood 37 = some (.new 144, 40, 99, 5, 445) := by unfold mv_in; rw [tb_X10_stepsUntilFlood]; rfl
theorem r_X10_stepsUntilFlood_40 : mv_in k_X10_stepsUntilFlood 40 = some (.dup, 41, 0, 0, 0) := by unfold mv_in; rw [tb_X10_stepsUntilFlood]; rfl
theorem r_X10_stepsUntilFlood_41 : mv_in k_X10_stepsUntilFlood 41 = some (.ldc 223, 43, 0, 0, 819) := by unfold mv_in; rw [tb_X10_stepsUntilFlood]; rfl
theorem r_X10_stepsUntilFlood_43 : mv_in k_X10_stepsUntilFlood 43 = some (.invokespecial 148, 46, 999, 2, 455) := by unfold mv_in; rw [tb_X10_stepsUntilFlood]; rfl
theorem r_X10_stepsUntilFlood_46 : mv_in k_X10_stepsUntilFlood 46 = some (.athrow, 47, 0, 0, 0) := by unfold mv_in; rw [tb_X10_stepsUntilFlood]; rfl
theorem nh_X10_stepsUntilFlood : mv_nh k_X10_stepsUntilFlood = true := rfl
theorem tb_X10_lookAhead : mv_tb k_X10_lookAhead = t_X10_lookAhead := rfl
theorem r_X10_lookAhead_0 : mv_in k_X10_lookAhead 0 = some (.aload_n 0, 1, 0, 0, 0) := by unfold mv_in; rw [tb_X10_lookAhead]; rfl
theorem r_X10_lookAhead_1 : mv_in k_X10_lookAhead 1 = some (.getfield 22, 4, 7, 3, 288) := by unfold mv_in; rw [tb_X10_lookAhead]; rfl
theorem r_X10_lookAhead_4 : mv_in k_X10_lookAhead 4 = some (.aload_n 0, 5, 0, 0, 0) := by unfold mv_in; rw [tb_X10_lookAhead]; rfl
theorem r_X10_lookAhead_5 : mv_in k_X10_lookAhead 5 = some (.getfield 10, 8, 7, 0, 285) := by unfold mv_in; rw [tb_X10_lookAhead]; rfl
theorem r_X10_lookAhead_8 : mv_in k_X10_lookAhead 8 = some (.invokevirtual 217, 11, k_X2_copyFrom, 2, 587) := by unfold mv_in; rw [tb_X10_lookAhead]; rfl
theorem r_X10_lookAhead_11 : mv_in k_X10_lookAhead 11 = some (.iconst 0, 12, 0, 0, 0) := by unfold mv_in; rw [tb_X10_lookAhead]; rfl
theorem r_X10_lookAhead_12 : mv_in k_X10_lookAhead 12 = some (.istore_n 2, 13, 0, 0, 0) := by unfold mv_in; rw [tb_X10_lookAhead]; rfl
theorem r_X10_lookAhead_13 : mv_in k_X10_lookAhead 13 = some (.iload_n 2, 14, 0, 0, 0) := by unfold mv_in; rw [tb_X10_lookAhead]; rfl
theorem r_X10_lookAhead_14 : mv_in k_X10_lookAhead 14 = some (.iload_n 1, 15, 0, 0, 0) := by unfold mv_in; rw [tb_X10_lookAhead]; rfl
theorem r_X10_lookAhead_15 : mv_in k_X10_lookAhead 15 = some (.if_icmp .ge 17, 18, 32, 0, 0) := by unfold mv_in; rw [tb_X10_lookAhead]; rfl
theorem r_X10_lookAhead_18 : mv_in k_X10_lookAhead 18 = some (.aload_n 0, 19, 0, 0, 0) := by unfold mv_in; rw [tb_X10_lookAhead]; rfl
theorem r_X10_lookAhead_19 : mv_in k_X10_lookAhead 19 = some (.getfield 22, 22, 7, 3, 288) := by unfold mv_in; rw [tb_X10_lookAhead]; rfl
theorem r_X10_lookAhead_22 : mv_in k_X10_lookAhead 22 = some (.invokevirtual 220, 25, k_X2_passStep, 1, 595) := by unfold mv_in; rw [tb_X10_lookAhead]; rfl
theorem r_X10_lookAhead_25 : mv_in k_X10_lookAhead 25 = some (.pop, 26, 0, 0, 0) := by unfold mv_in; rw [tb_X10_lookAhead]; rfl
theorem r_X10_lookAhead_26 : mv_in k_X10_lookAhead 26 = some (.iinc 2 1, 29, 0, 0, 0) := by unfold mv_in; rw [tb_X10_lookAhead]; rfl
theorem r_X10_lookAhead_29 : mv_in k_X10_lookAhead 29 = some (.goto (-16), 32, 13, 0, 0) := by unfold mv_in; rw [tb_X10_lookAhead]; rfl
theorem r_X10_lookAhead_32 : mv_in k_X10_lookAhead 32 = some (.return_, 33, 0, 0, 0) := by unfold mv_in; rw [tb_X10_lookAhead]; rfl
theorem nh_X10_lookAhead : mv_nh k_X10_lookAhead = true := rfl
theorem tb_X10_expectedSpill : mv_tb k_X10_expectedSpill = t_X10_expectedSpill := rfl
theorem r_X10_expectedSpill_0 : mv_in k_X10_expectedSpill 0 = some (.aload_n 0, 1, 0, 0, 0) := by unfold mv_in; rw [tb_X10_expectedSpill]; rfl
theorem r_X10_expectedSpill_1 : mv_in k_X10_expectedSpill 1 = some (.getfield 22, 4, 7, 3, 288) := by unfold mv_in; rw [tb_X10_expectedSpill]; rfl
theorem r_X10_expectedSpill_4 : mv_in k_X10_expectedSpill 4 = some (.getfield 197, 7, 1, 0, 161) := by unfold mv_in; rw [tb_X10_expectedSpill]; rfl
theorem r_X10_expectedSpill_7 : mv_in k_X10_expectedSpill 7 = some (.iload_n 1, 8, 0, 0, 0) := by unfold mv_in; rw [tb_X10_expectedSpill]; rfl
theorem r_X10_expectedSpill_8 : mv_in k_X10_expectedSpill 8 = some (.aaload, 9, 0, 0, 0) := by unfold mv_in; rw [tb_X10_expectedSpill]; rfl
theorem r_X10_expectedSpill_9 : mv_in k_X10_expectedSpill 9 = some (.getfield 154, 12, 0, 7, 135) := by unfold mv_in; rw [tb_X10_expectedSpill]; rfl
theorem r_X10_expectedSpill_12 : mv_in k_X10_expectedSpill 12 = some (.aload_n 0, 13, 0, 0, 0) := by unfold mv_in; rw [tb_X10_expectedSpill]; rfl
theorem r_X10_expectedSpill_13 : mv_in k_X10_expectedSpill 13 = some (.getfield 10, 16, 7, 0, 285) := by unfold mv_in; rw [tb_X10_expectedSpill]; rfl
theorem r_X10_expectedSpill_16 : mv_in k_X10_expectedSpill 16 = some (.getfield 197, 19, 1, 0, 161) := by unfold mv_in; rw [tb_X10_expectedSpill]; rfl
theorem r_X10_expectedSpill_19 : mv_in k_X10_expectedSpill 19 = some (.iload_n 1, 20, 0, 0, 0) := by unfold mv_in; rw [tb_X10_expectedSpill]; rfl
theorem r_X10_expectedSpill_20 : mv_in k_X10_expectedSpill 20 = some (.aaload, 21, 0, 0, 0) := by unfold mv_in; rw [tb_X10_expectedSpill]; rfl
theorem r_X10_expectedSpill_21 : mv_in k_X10_expectedSpill 21 = some (.getfield 154, 24, 0, 7, 135) := by unfold mv_in; rw [tb_X10_expectedSpill]; rfl
theorem r_X10_expectedSpill_24 : mv_in k_X10_expectedSpill 24 = some (.isub, 25, 0, 0, 0) := by unfold mv_in; rw [tb_X10_expectedSpill]; rfl
theorem r_X10_expectedSpill_25 : mv_in k_X10_expectedSpill 25 = some (.ireturn, 26, 0, 0, 0) := by unfold mv_in; rw [tb_X10_expectedSpill]; rfl
theorem nh_X10_expectedSpill : mv_nh k_X10_expectedSpill = true := rfl
section KV
variable {L : Nat} {xs : Nat → Int32}
theorem kv_X10_levelAfter {v0 : Int32} {v1 : Int32} {q nx w : Nat} {ls : mv_V} {st : List Value} {t : Nat} {h : mv_H} : mv_stp L xs (.invokevirtual q, nx, k_X10_levelAfter, 3, w) ls (.int v1 :: .int v0 :: .ref 0 :: st) (t, 142, h) = if mv_cs st ≤ 8 then some (.inr (.inr (k_X10_levelAfter, [.ref 0, .int v0, .int v1], st))) else none := by
  exact cl_any (nx := nx) (ls := ls) (kk := 1) (as := [.ref 0, .int v0, .int v1]) (by decide) rfl rfl (.inr ((by decide : mv_is 142 0 7 = true)))
theorem kv_X10_spillOf {v0 : Int32} {v1 : Int32} {q nx w : Nat} {ls : mv_V} {st : List Value} {t : Nat} {h : mv_H} : mv_stp L xs (.invokevirtual q, nx, k_X10_spillOf, 3, w) ls (.int v1 :: .int v0 :: .ref 0 :: st) (t, 142, h) = if mv_cs st ≤ 8 then some (.inr (.inr (k_X10_spillOf, [.ref 0, .int v0, .int v1], st))) else none := by
  exact cl_any (nx := nx) (ls := ls) (kk := 1) (as := [.ref 0, .int v0, .int v1]) (by decide) rfl rfl (.inr ((by decide : mv_is 142 0 7 = true)))
theorem kv_X10_stepsUntilFlood  {q nx w : Nat} {ls : mv_V} {st : List Value} {t : Nat} {h : mv_H} : mv_stp L xs (.invokevirtual q, nx, k_X10_stepsUntilFlood, 1, w) ls (.ref 0 :: st) (t, 142, h) = if mv_cs st ≤ 8 then some (.inr (.inr (k_X10_stepsUntilFlood, [.ref 0], st))) else none := by
  exact cl_any (nx := nx) (ls := ls) (kk := 1) (as := [.ref 0]) (by decide) rfl rfl (.inr ((by decide : mv_is 142 0 7 = true)))
theorem kv_X10_lookAhead {v0 : Int32} {q nx w : Nat} {ls : mv_V} {st : List Value} {t : Nat} {h : mv_H} : mv_stp L xs (.invokevirtual q, nx, k_X10_lookAhead, 2, w) ls (.int v0 :: .ref 0 :: st) (t, 142, h) = if mv_cs st ≤ 8 then some (.inr (.inr (k_X10_lookAhead, [.ref 0, .int v0], st))) else none := by
  exact cl_any (nx := nx) (ls := ls) (kk := 1) (as := [.ref 0, .int v0]) (by decide) rfl rfl (.inr ((by decide : mv_is 142 0 7 = true)))
theorem kv_X10_expectedSpill {v0 : Int32} {q nx w : Nat} {ls : mv_V} {st : List Value} {t : Nat} {h : mv_H} : mv_stp L xs (.invokevirtual q, nx, k_X10_expectedSpill, 2, w) ls (.int v0 :: .ref 0 :: st) (t, 142, h) = if mv_cs st ≤ 8 then some (.inr (.inr (k_X10_expectedSpill, [.ref 0, .int v0], st))) else none := by
  exact cl_any (nx := nx) (ls := ls) (kk := 1) (as := [.ref 0, .int v0]) (by decide) rfl rfl (.inr ((by decide : mv_is 142 0 7 = true)))
end KV
section FC2
variable {L : Nat} {xs : Nat → Int32} {d t c e : Nat} {T : zT}
theorem o1_25 : ¬ o1 = o25 := by decide
theorem o25_1 : ¬ o25 = o1 := by decide
theorem ct_passStep (hc : Ch c) (hd : 3 ≤ d) {A : Int → Int} (eA : T.1 c = A) (hA : zWF A 99) : mv_cl L xs d k_X2_passStep [.ref c] (t, 142, mz T) = some (.inl (some (.int (Int32.ofInt (zStv A)))), (t, 142, mz (sD T c (zSt A)))) := by
  subst eA
  have h := c_X2_passStep (L := L) (xs := xs) (t := t) (T := T) (A := T.1 c) (d := d) hc hd hA
  rw [sD_id] at h
  exact h
theorem c_X10_stored (hd : 2 ≤ d) (hW : zWF (T.1 o1) 99) : mv_cl L xs d k_X10_stored [.ref 0] (t, 142, mz T) = some (.inl (some (.int (Int32.ofInt (zSm 1 (T.1 o1 0).toNat 0 0 (T.1 o1))))), (t, 142, mz T)) := by
  have q := c_X2_sumOfLevels (L := L) (xs := xs) (t := t) (T := T) (A := T.1 o1) (d := d - 1) Ch.o1 (by omega) hW.1 hW.2.1
  rw [sD_id] at q
  obtain ⟨d, rfl⟩ : ∃ e, d = e + 1 := ⟨d - 1, by omega⟩
  apply mv_cl_of
  simp only [mv_il, Value.category, Nat.zero_add, Nat.reduceAdd]
  simp only [Nat.add_sub_cancel] at q
  simp (disch := omega) only [mv_Ev_row r_X10_stored_0, mv_Ev_row r_X10_stored_1, mv_Ev_row r_X10_stored_4, mv_Ev_row r_X10_stored_7, ea_aload_n, kv_X2_sumOfLevels Ch.o1, ea_ireturn, ez_ret, ez_retc, mv_ac, decide_eq_true_eq, not_true_eq_false, and_self, and_true, true_and, ea_2n, ea_2f, ea_2c, ea_if, if_pos, if_neg, mv_lk, mv_f1, mv_f2, Value.category, List.filter, ↓reduceIte, Nat.reduceEqDiff, Nat.reduceAdd, Nat.reduceLT, Nat.reduceBEq, Nat.zero_add, Nat.add_zero, Nat.zero_ne_one, Nat.one_ne_zero, Bool.not_true, Bool.not_false, Bool.and_true, Bool.true_and, Bool.and_false, Bool.false_and, BEq.rfl, beq_self_eq_true, Bool.false_eq_true, reduceCtorEq, not_false_eq_true, fv0, fv1, fv2, fv3, eb_l0, eb_l1, eb_l2, eb_l3, eb_l4, eb_l5, eb_s0, eb_s1, eb_s2, eb_s3, eb_s4, eb_s5, oz_add, oz_sub, oz_mul, oz_neg, ol_add, ol_sub, sD_eq, sD_sD, sD_ne, sD_in, sD_in2, sD_in3, upR_is, upR_ne, mk_v, mk_n, mk_x, mk_i, mv_cs, Nat.reduceLeDiff, mv_ch_z, nh_X10_stored, g7_0, q]
theorem c_X10_storedByAccounts (hd : 2 ≤ d) (hW : zWF (T.1 o1) 99) (hb : ∀ k, 0 ≤ k → k < T.1 o1 0 → 0 ≤ T.1 o1 (6 + 9 * k + 7) ∧ T.1 o1 (6 + 9 * k + 7) < 2147483648) : mv_cl L xs d k_X10_storedByAccounts [.ref 0] (t, 142, mz T) = some (.inl (some (.int (Int32.ofInt (zBl (T.1 o1 0).toNat 0 (T.1 o1 4 + T.1 o1 5 - T.1 o1 3) (T.1 o1))))), (t, 142, mz T)) := by
  have q := c_X2_balance (L := L) (xs := xs) (t := t) (T := T) (A := T.1 o1) (d := d - 1) Ch.o1 (by omega) hW.1 hW.2.1 hb
  rw [sD_id] at q
  obtain ⟨d, rfl⟩ : ∃ e, d = e + 1 := ⟨d - 1, by omega⟩
  apply mv_cl_of
  simp only [mv_il, Value.category, Nat.zero_add, Nat.reduceAdd]
  simp only [Nat.add_sub_cancel] at q
  simp (disch := omega) only [mv_Ev_row r_X10_storedByAccounts_0, mv_Ev_row r_X10_storedByAccounts_1, mv_Ev_row r_X10_storedByAccounts_4, mv_Ev_row r_X10_storedByAccounts_7, ea_aload_n, kv_X2_balanceOfAccounts Ch.o1, ea_ireturn, ez_ret, ez_retc, mv_ac, decide_eq_true_eq, not_true_eq_false, and_self, and_true, true_and, ea_2n, ea_2f, ea_2c, ea_if, if_pos, if_neg, mv_lk, mv_f1, mv_f2, Value.category, List.filter, ↓reduceIte, Nat.reduceEqDiff, Nat.reduceAdd, Nat.reduceLT, Nat.reduceBEq, Nat.zero_add, Nat.add_zero, Nat.zero_ne_one, Nat.one_ne_zero, Bool.not_true, Bool.not_false, Bool.and_true, Bool.true_and, Bool.and_false, Bool.false_and, BEq.rfl, beq_self_eq_true, Bool.false_eq_true, reduceCtorEq, not_false_eq_true, fv0, fv1, fv2, fv3, eb_l0, eb_l1, eb_l2, eb_l3, eb_l4, eb_l5, eb_s0, eb_s1, eb_s2, eb_s3, eb_s4, eb_s5, oz_add, oz_sub, oz_mul, oz_neg, ol_add, ol_sub, sD_eq, sD_sD, sD_ne, sD_in, sD_in2, sD_in3, upR_is, upR_ne, mk_v, mk_n, mk_x, mk_i, mv_cs, Nat.reduceLeDiff, mv_ch_z, nh_X10_storedByAccounts, g7_0, q]
theorem c_X10_riverTotal (hd : 1 ≤ d) : mv_cl L xs d k_X10_riverTotal [.ref 0] (t, 142, mz T) = some (.inl (some (.long (Int64.ofInt (T.1 o1 3)))), (t, 142, mz T)) := by
  obtain ⟨d, rfl⟩ : ∃ e, d = e + 1 := ⟨d - 1, by omega⟩
  apply mv_cl_of
  simp only [mv_il, Value.category, Nat.zero_add, Nat.reduceAdd]
  simp (disch := omega) only [mv_Ev_row r_X10_riverTotal_0, mv_Ev_row r_X10_riverTotal_1, mv_Ev_row r_X10_riverTotal_4, mv_Ev_row r_X10_riverTotal_7, ea_aload_n, gg_1_7 Ch.o1, ea_lret, mv_ac, decide_eq_true_eq, not_true_eq_false, and_self, and_true, true_and, ea_2n, ea_2f, ea_2c, ea_if, if_pos, if_neg, mv_lk, mv_f1, mv_f2, Value.category, List.filter, ↓reduceIte, Nat.reduceEqDiff, Nat.reduceAdd, Nat.reduceLT, Nat.reduceBEq, Nat.zero_add, Nat.add_zero, Nat.zero_ne_one, Nat.one_ne_zero, Bool.not_true, Bool.not_false, Bool.and_true, Bool.true_and, Bool.and_false, Bool.false_and, BEq.rfl, beq_self_eq_true, Bool.false_eq_true, reduceCtorEq, not_false_eq_true, fv0, fv1, fv2, fv3, eb_l0, eb_l1, eb_l2, eb_l3, eb_l4, eb_l5, eb_s0, eb_s1, eb_s2, eb_s3, eb_s4, eb_s5, oz_add, oz_sub, oz_mul, oz_neg, ol_add, ol_sub, sD_eq, sD_sD, sD_ne, sD_in, sD_in2, sD_in3, upR_is, upR_ne, mk_v, mk_n, mk_x, mk_i, mv_cs, Nat.reduceLeDiff, mv_ch_z, nh_X10_riverTotal, g7_0]
theorem ct_rankOf (hc : Ch c) (hd : 2 ≤ d) {b : Int} (hW : zWF (T.1 c) 99) (hb0 : 0 ≤ b) (hb5 : b < T.1 c 0) : mv_cl L xs d k_X2_rankOf [.ref c, .int (Int32.ofInt b)] (t, 142, mz T) = some (.inl (some (.int (Int32.ofInt (zRk b (T.1 c 0).toNat 0 0 (T.1 c))))), (t, 142, mz T)) := by
  have q := c_X2_rankOf (L := L) (xs := xs) (t := t) (T := T) (A := T.1 c) (d := d) (b := b) hc hd hW.1 hW.2.1 hb0 hb5 hW.2.2.2.2.1
  rw [sD_id] at q
  exact q
theorem zRk_rng (b : Int) (A : Int → Int) : ∀ (n : Nat) (i r : Int), r ≤ zRk b n i r A ∧ zRk b n i r A ≤ r + n
  | 0, i, r => by rw [zRk]; omega
  | n + 1, i, r => by
    rw [zRk]
    have h := zRk_rng b A n (i + 1) (r + zBf A i b)
    have h2 : 0 ≤ zBf A i b ∧ zBf A i b ≤ 1 := by
      unfold zBf
      repeat' split
      all_goals omega
    omega
theorem lp_X10_rank (hd : 2 ≤ d) {r : Int} (hW : zWF (T.1 o1) 99) (r1 : -2147483648 ≤ r) (r2 : r < 2147483648) : ∀ (n : Nat) (k : Int), 0 ≤ k → k + n = T.1 o1 0 → mv_Ev L xs (mv_cl L xs d) k_X10_basinAtRank 2 [(2, .int (Int32.ofInt k)), (0, .ref 0), (1, .int (Int32.ofInt r))] [] (t, 142, mz T) (if rBr r (T.1 o1 0) (T.1 o1) n k < 0 then (.inr 5, (t + 1, 142, mz T)) else (.inl (some (.int (Int32.ofInt (rBr r (T.1 o1 0) (T.1 o1) n k)))), (t, 142, mz T))) := by
  have a5 := hW.2.1
  intro n
  induction n with
  | zero =>
    intro k h0 hn
    rw [rBr, if_pos (by omega)]
    simp (disch := omega) only [mv_Ev_row r_X10_basinAtRank_0, mv_Ev_row r_X10_basinAtRank_1, mv_Ev_row r_X10_basinAtRank_2, mv_Ev_row r_X10_basinAtRank_3, mv_Ev_row r_X10_basinAtRank_4, mv_Ev_row r_X10_basinAtRank_7, mv_Ev_row r_X10_basinAtRank_10, mv_Ev_row r_X10_basinAtRank_13, mv_Ev_row r_X10_basinAtRank_14, mv_Ev_row r_X10_basinAtRank_17, mv_Ev_row r_X10_basinAtRank_18, mv_Ev_row r_X10_basinAtRank_21, mv_Ev_row r_X10_basinAtRank_22, mv_Ev_row r_X10_basinAtRank_25, mv_Ev_row r_X10_basinAtRank_26, mv_Ev_row r_X10_basinAtRank_27, mv_Ev_row r_X10_basinAtRank_30, mv_Ev_row r_X10_basinAtRank_33, mv_Ev_row r_X10_basinAtRank_36, mv_Ev_row r_X10_basinAtRank_37, mv_Ev_row r_X10_basinAtRank_39, mv_Ev_row r_X10_basinAtRank_42, ea_iconst, ea_istore_n, ea_iload_n, ea_aload_n, gg_1_1 Ch.o1, ea_icmp, kv_X2_rankOf Ch.o1, ea_ireturn, ez_ret, ez_retc, ea_iinc, eb_inc, ea_goto, ez_thr, ea_dup_i, ea_dup_r, ea_ldc, cz_eq, cz_ne, cz_lt, cz_ge, cz_gt, cz_le, mv_ac, decide_eq_true_eq, not_true_eq_false, and_self, and_true, true_and, ea_2n, ea_2f, ea_2c, ea_if, if_pos, if_neg, mv_lk, mv_f1, mv_f2, Value.category, List.filter, ↓reduceIte, Nat.reduceEqDiff, Nat.reduceAdd, Nat.reduceLT, Nat.reduceBEq, Nat.zero_add, Nat.add_zero, Nat.zero_ne_one, Nat.one_ne_zero, Bool.not_true, Bool.not_false, Bool.and_true, Bool.true_and, Bool.and_false, Bool.false_and, BEq.rfl, beq_self_eq_true, Bool.false_eq_true, reduceCtorEq, not_false_eq_true, fv0, fv1, fv2, fv3, eb_l0, eb_l1, eb_l2, eb_l3, eb_l4, eb_l5, eb_s0, eb_s1, eb_s2, eb_s3, eb_s4, eb_s5, oz_add, oz_sub, oz_mul, oz_neg, ol_add, ol_sub, sD_eq, sD_sD, sD_ne, sD_in, sD_in2, sD_in3, upR_is, upR_ne, mk_v, mk_n, mk_x, mk_i, mv_cs, Nat.reduceLeDiff, mv_ch_z, nh_X10_basinAtRank, g7_0]
  | succ n ih =>
    intro k h0 hn
    have q := ct_rankOf (L := L) (xs := xs) (t := t) (T := T) (d := d) (b := k) Ch.o1 hd hW h0 (by omega)
    have hr := zRk_rng k (T.1 o1) (T.1 o1 0).toNat 0 0
    rw [rBr]
    by_cases e : zRk k (T.1 o1 0).toNat 0 0 (T.1 o1) = r
    · rw [if_pos e, if_neg (by omega)]
      rw [e] at q
      rw [mv_Ev_row r_X10_basinAtRank_2]
      simp (disch := omega) only [mv_Ev_row r_X10_basinAtRank_0, mv_Ev_row r_X10_basinAtRank_1, mv_Ev_row r_X10_basinAtRank_3, mv_Ev_row r_X10_basinAtRank_4, mv_Ev_row r_X10_basinAtRank_7, mv_Ev_row r_X10_basinAtRank_10, mv_Ev_row r_X10_basinAtRank_13, mv_Ev_row r_X10_basinAtRank_14, mv_Ev_row r_X10_basinAtRank_17, mv_Ev_row r_X10_basinAtRank_18, mv_Ev_row r_X10_basinAtRank_21, mv_Ev_row r_X10_basinAtRank_22, mv_Ev_row r_X10_basinAtRank_25, mv_Ev_row r_X10_basinAtRank_26, mv_Ev_row r_X10_basinAtRank_27, mv_Ev_row r_X10_basinAtRank_30, mv_Ev_row r_X10_basinAtRank_33, mv_Ev_row r_X10_basinAtRank_36, mv_Ev_row r_X10_basinAtRank_37, mv_Ev_row r_X10_basinAtRank_39, mv_Ev_row r_X10_basinAtRank_42, ea_iconst, ea_istore_n, ea_iload_n, ea_aload_n, gg_1_1 Ch.o1, ea_icmp, kv_X2_rankOf Ch.o1, ea_ireturn, ez_ret, ez_retc, ea_iinc, eb_inc, ea_goto, ez_thr, ea_dup_i, ea_dup_r, ea_ldc, cz_eq, cz_ne, cz_lt, cz_ge, cz_gt, cz_le, mv_ac, decide_eq_true_eq, not_true_eq_false, and_self, and_true, true_and, ea_2n, ea_2f, ea_2c, ea_if, if_pos, if_neg, mv_lk, mv_f1, mv_f2, Value.category, List.filter, ↓reduceIte, Nat.reduceEqDiff, Nat.reduceAdd, Nat.reduceLT, Nat.reduceBEq, Nat.zero_add, Nat.add_zero, Nat.zero_ne_one, Nat.one_ne_zero, Bool.not_true, Bool.not_false, Bool.and_true, Bool.true_and, Bool.and_false, Bool.false_and, BEq.rfl, beq_self_eq_true, Bool.false_eq_true, reduceCtorEq, not_false_eq_true, fv0, fv1, fv2, fv3, eb_l0, eb_l1, eb_l2, eb_l3, eb_l4, eb_l5, eb_s0, eb_s1, eb_s2, eb_s3, eb_s4, eb_s5, oz_add, oz_sub, oz_mul, oz_neg, ol_add, ol_sub, sD_eq, sD_sD, sD_ne, sD_in, sD_in2, sD_in3, upR_is, upR_ne, mk_v, mk_n, mk_x, mk_i, mv_cs, Nat.reduceLeDiff, mv_ch_z, nh_X10_basinAtRank, g7_0, q]
    · rw [if_neg e]
      have h := ih (k + 1) (by omega) (by omega)
      generalize (if rBr r (T.1 o1 0) (T.1 o1) n (k + 1) < 0 then ((.inr 5, (t + 1, 142, mz T)) : mv_R) else (.inl (some (.int (Int32.ofInt (rBr r (T.1 o1 0) (T.1 o1) n (k + 1))))), (t, 142, mz T))) = res at h ⊢
      rw [mv_Ev_row r_X10_basinAtRank_2]
      simp (disch := omega) only [mv_Ev_row r_X10_basinAtRank_0, mv_Ev_row r_X10_basinAtRank_1, mv_Ev_row r_X10_basinAtRank_3, mv_Ev_row r_X10_basinAtRank_4, mv_Ev_row r_X10_basinAtRank_7, mv_Ev_row r_X10_basinAtRank_10, mv_Ev_row r_X10_basinAtRank_13, mv_Ev_row r_X10_basinAtRank_14, mv_Ev_row r_X10_basinAtRank_17, mv_Ev_row r_X10_basinAtRank_18, mv_Ev_row r_X10_basinAtRank_21, mv_Ev_row r_X10_basinAtRank_22, mv_Ev_row r_X10_basinAtRank_25, mv_Ev_row r_X10_basinAtRank_26, mv_Ev_row r_X10_basinAtRank_27, mv_Ev_row r_X10_basinAtRank_30, mv_Ev_row r_X10_basinAtRank_33, mv_Ev_row r_X10_basinAtRank_36, mv_Ev_row r_X10_basinAtRank_37, mv_Ev_row r_X10_basinAtRank_39, mv_Ev_row r_X10_basinAtRank_42, ea_iconst, ea_istore_n, ea_iload_n, ea_aload_n, gg_1_1 Ch.o1, ea_icmp, kv_X2_rankOf Ch.o1, ea_ireturn, ez_ret, ez_retc, ea_iinc, eb_inc, ea_goto, ez_thr, ea_dup_i, ea_dup_r, ea_ldc, cz_eq, cz_ne, cz_lt, cz_ge, cz_gt, cz_le, mv_ac, decide_eq_true_eq, not_true_eq_false, and_self, and_true, true_and, ea_2n, ea_2f, ea_2c, ea_if, if_pos, if_neg, mv_lk, mv_f1, mv_f2, Value.category, List.filter, ↓reduceIte, Nat.reduceEqDiff, Nat.reduceAdd, Nat.reduceLT, Nat.reduceBEq, Nat.zero_add, Nat.add_zero, Nat.zero_ne_one, Nat.one_ne_zero, Bool.not_true, Bool.not_false, Bool.and_true, Bool.true_and, Bool.and_false, Bool.false_and, BEq.rfl, beq_self_eq_true, Bool.false_eq_true, reduceCtorEq, not_false_eq_true, fv0, fv1, fv2, fv3, eb_l0, eb_l1, eb_l2, eb_l3, eb_l4, eb_l5, eb_s0, eb_s1, eb_s2, eb_s3, eb_s4, eb_s5, oz_add, oz_sub, oz_mul, oz_neg, ol_add, ol_sub, sD_eq, sD_sD, sD_ne, sD_in, sD_in2, sD_in3, upR_is, upR_ne, mk_v, mk_n, mk_x, mk_i, mv_cs, Nat.reduceLeDiff, mv_ch_z, nh_X10_basinAtRank, g7_0, q]
      exact mv_Es h
theorem c_X10_basinAtRank (hd : 3 ≤ d) {r : Int} (hW : zWF (T.1 o1) 99) (r1 : -2147483648 ≤ r) (r2 : r < 2147483648) : mv_cl L xs d k_X10_basinAtRank [.ref 0, .int (Int32.ofInt r)] (t, 142, mz T) = some (if rBr r (T.1 o1 0) (T.1 o1) (T.1 o1 0).toNat 0 < 0 then (.inr 5, (t + 1, 142, mz T)) else (.inl (some (.int (Int32.ofInt (rBr r (T.1 o1 0) (T.1 o1) (T.1 o1 0).toNat 0)))), (t, 142, mz T))) := by
  have a0 := hW.1
  have h := lp_X10_rank (L := L) (xs := xs) (t := t) (T := T) (d := d - 1) (by omega) hW r1 r2 (T.1 o1 0).toNat 0 (by omega) (by omega)
  generalize (if rBr r (T.1 o1 0) (T.1 o1) (T.1 o1 0).toNat 0 < 0 then ((.inr 5, (t + 1, 142, mz T)) : mv_R) else (.inl (some (.int (Int32.ofInt (rBr r (T.1 o1 0) (T.1 o1) (T.1 o1 0).toNat 0)))), (t, 142, mz T))) = res at h ⊢
  obtain ⟨d, rfl⟩ : ∃ e, d = e + 1 := ⟨d - 1, by omega⟩
  apply mv_cl_of
  simp only [mv_il, Value.category, Nat.zero_add, Nat.reduceAdd]
  simp only [Nat.add_sub_cancel] at h
  simp (disch := omega) only [mv_Ev_row r_X10_basinAtRank_0, mv_Ev_row r_X10_basinAtRank_1, mv_Ev_row r_X10_basinAtRank_3, mv_Ev_row r_X10_basinAtRank_4, mv_Ev_row r_X10_basinAtRank_7, mv_Ev_row r_X10_basinAtRank_10, mv_Ev_row r_X10_basinAtRank_13, mv_Ev_row r_X10_basinAtRank_14, mv_Ev_row r_X10_basinAtRank_17, mv_Ev_row r_X10_basinAtRank_18, mv_Ev_row r_X10_basinAtRank_21, mv_Ev_row r_X10_basinAtRank_22, mv_Ev_row r_X10_basinAtRank_25, mv_Ev_row r_X10_basinAtRank_26, mv_Ev_row r_X10_basinAtRank_27, mv_Ev_row r_X10_basinAtRank_30, mv_Ev_row r_X10_basinAtRank_33, mv_Ev_row r_X10_basinAtRank_36, mv_Ev_row r_X10_basinAtRank_37, mv_Ev_row r_X10_basinAtRank_39, mv_Ev_row r_X10_basinAtRank_42, ea_iconst, ea_istore_n, ea_iload_n, ea_aload_n, gg_7_0, ea_icmp, ea_ireturn, ez_ret, ez_retc, ea_iinc, eb_inc, ea_goto, ez_thr, ea_dup_i, ea_dup_r, ea_ldc, cz_eq, cz_ne, cz_lt, cz_ge, cz_gt, cz_le, mv_ac, decide_eq_true_eq, not_true_eq_false, and_self, and_true, true_and, ea_2n, ea_2f, ea_2c, ea_if, if_pos, if_neg, mv_lk, mv_f1, mv_f2, Value.category, List.filter, ↓reduceIte, Nat.reduceEqDiff, Nat.reduceAdd, Nat.reduceLT, Nat.reduceBEq, Nat.zero_add, Nat.add_zero, Nat.zero_ne_one, Nat.one_ne_zero, Bool.not_true, Bool.not_false, Bool.and_true, Bool.true_and, Bool.and_false, Bool.false_and, BEq.rfl, beq_self_eq_true, Bool.false_eq_true, reduceCtorEq, not_false_eq_true, fv0, fv1, fv2, fv3, eb_l0, eb_l1, eb_l2, eb_l3, eb_l4, eb_l5, eb_s0, eb_s1, eb_s2, eb_s3, eb_s4, eb_s5, oz_add, oz_sub, oz_mul, oz_neg, ol_add, ol_sub, sD_eq, sD_sD, sD_ne, sD_in, sD_in2, sD_in3, upR_is, upR_ne, mk_v, mk_n, mk_x, mk_i, mv_cs, Nat.reduceLeDiff, mv_ch_z, nh_X10_basinAtRank]
  exact mv_Es h
theorem c_X10_outputAt (hd : 1 ≤ d) {i : Int} (l0 : 0 ≤ T.1 140 1) (l54 : T.1 140 1 ≤ 54) (hs : ∀ j, 0 ≤ j → j < T.1 140 1 → 0 ≤ T.1 141 j ∧ T.1 141 j < 65536) (i1 : -2147483648 ≤ i) (i2 : i < 2147483648) : mv_cl L xs d k_X10_outputAt [.ref 0, .int (Int32.ofInt i)] (t, 142, mz T) = some (if 0 ≤ i ∧ i < T.1 140 1 then (.inl (some (.int (Int32.ofInt (T.1 141 i)))), (t, 142, mz T)) else (.inr 2, (t + 1, 142, mz T))) := by
  by_cases h0 : 0 ≤ i
  · by_cases h : i < T.1 140 1
    · have hi := hs i h0 h
      rw [if_pos ⟨h0, h⟩]
      obtain ⟨d, rfl⟩ : ∃ e, d = e + 1 := ⟨d - 1, by omega⟩
      apply mv_cl_of
      simp only [mv_il, Value.category, Nat.zero_add, Nat.reduceAdd]
      simp (disch := omega) only [mv_Ev_row r_X10_outputAt_0, mv_Ev_row r_X10_outputAt_1, mv_Ev_row r_X10_outputAt_4, mv_Ev_row r_X10_outputAt_5, mv_Ev_row r_X10_outputAt_6, mv_Ev_row r_X10_outputAt_9, mv_Ev_row r_X10_outputAt_12, mv_Ev_row r_X10_outputAt_15, mv_Ev_row r_X10_outputAt_18, mv_Ev_row r_X10_outputAt_19, mv_Ev_row r_X10_outputAt_22, mv_Ev_row r_X10_outputAt_25, mv_Ev_row r_X10_outputAt_26, mv_Ev_row r_X10_outputAt_27, mv_Ev_row r_X10_outputAt_30, mv_Ev_row r_X10_outputAt_33, mv_Ev_row r_X10_outputAt_34, mv_Ev_row r_X10_outputAt_35, ea_iload_n, ea_ifc, ea_aload_n, gg_7_8, gg_3_1, ea_icmp, ez_thr, ea_dup_i, ea_dup_r, gg_3_0, ea_ireturn, ez_ret, ez_retc, ar_ldc0 ai_141, cz_eq, cz_ne, cz_lt, cz_ge, cz_gt, cz_le, c0_eq, c0_ne, c0_lt, c0_ge, c0_gt, c0_le, mv_ac, decide_eq_true_eq, not_true_eq_false, and_self, and_true, true_and, ea_2n, ea_2f, ea_2c, ea_if, if_pos, if_neg, mv_lk, mv_f1, mv_f2, Value.category, List.filter, ↓reduceIte, Nat.reduceEqDiff, Nat.reduceAdd, Nat.reduceLT, Nat.reduceBEq, Nat.zero_add, Nat.add_zero, Nat.zero_ne_one, Nat.one_ne_zero, Bool.not_true, Bool.not_false, Bool.and_true, Bool.true_and, Bool.and_false, Bool.false_and, BEq.rfl, beq_self_eq_true, Bool.false_eq_true, reduceCtorEq, not_false_eq_true, fv0, fv1, fv2, fv3, eb_l0, eb_l1, eb_l2, eb_l3, eb_l4, eb_l5, eb_s0, eb_s1, eb_s2, eb_s3, eb_s4, eb_s5, oz_add, oz_sub, oz_mul, oz_neg, ol_add, ol_sub, sD_eq, sD_sD, sD_ne, sD_in, sD_in2, sD_in3, upR_is, upR_ne, mk_v, mk_n, mk_x, mk_i, mv_cs, Nat.reduceLeDiff, mv_ch_z, nh_X10_outputAt]
    · rw [if_neg (fun q => h q.2)]
      obtain ⟨d, rfl⟩ : ∃ e, d = e + 1 := ⟨d - 1, by omega⟩
      apply mv_cl_of
      simp only [mv_il, Value.category, Nat.zero_add, Nat.reduceAdd]
      simp (disch := omega) only [mv_Ev_row r_X10_outputAt_0, mv_Ev_row r_X10_outputAt_1, mv_Ev_row r_X10_outputAt_4, mv_Ev_row r_X10_outputAt_5, mv_Ev_row r_X10_outputAt_6, mv_Ev_row r_X10_outputAt_9, mv_Ev_row r_X10_outputAt_12, mv_Ev_row r_X10_outputAt_15, mv_Ev_row r_X10_outputAt_18, mv_Ev_row r_X10_outputAt_19, mv_Ev_row r_X10_outputAt_22, mv_Ev_row r_X10_outputAt_25, mv_Ev_row r_X10_outputAt_26, mv_Ev_row r_X10_outputAt_27, mv_Ev_row r_X10_outputAt_30, mv_Ev_row r_X10_outputAt_33, mv_Ev_row r_X10_outputAt_34, mv_Ev_row r_X10_outputAt_35, ea_iload_n, ea_ifc, ea_aload_n, gg_7_8, gg_3_1, ea_icmp, ez_thr, ea_dup_i, ea_dup_r, gg_3_0, ea_ireturn, ez_ret, ez_retc, ar_ldc0 ai_141, cz_eq, cz_ne, cz_lt, cz_ge, cz_gt, cz_le, c0_eq, c0_ne, c0_lt, c0_ge, c0_gt, c0_le, mv_ac, decide_eq_true_eq, not_true_eq_false, and_self, and_true, true_and, ea_2n, ea_2f, ea_2c, ea_if, if_pos, if_neg, mv_lk, mv_f1, mv_f2, Value.category, List.filter, ↓reduceIte, Nat.reduceEqDiff, Nat.reduceAdd, Nat.reduceLT, Nat.reduceBEq, Nat.zero_add, Nat.add_zero, Nat.zero_ne_one, Nat.one_ne_zero, Bool.not_true, Bool.not_false, Bool.and_true, Bool.true_and, Bool.and_false, Bool.false_and, BEq.rfl, beq_self_eq_true, Bool.false_eq_true, reduceCtorEq, not_false_eq_true, fv0, fv1, fv2, fv3, eb_l0, eb_l1, eb_l2, eb_l3, eb_l4, eb_l5, eb_s0, eb_s1, eb_s2, eb_s3, eb_s4, eb_s5, oz_add, oz_sub, oz_mul, oz_neg, ol_add, ol_sub, sD_eq, sD_sD, sD_ne, sD_in, sD_in2, sD_in3, upR_is, upR_ne, mk_v, mk_n, mk_x, mk_i, mv_cs, Nat.reduceLeDiff, mv_ch_z, nh_X10_outputAt]
  · rw [if_neg (fun q => h0 q.1)]
    obtain ⟨d, rfl⟩ : ∃ e, d = e + 1 := ⟨d - 1, by omega⟩
    apply mv_cl_of
    simp only [mv_il, Value.category, Nat.zero_add, Nat.reduceAdd]
    simp (disch := omega) only [mv_Ev_row r_X10_outputAt_0, mv_Ev_row r_X10_outputAt_1, mv_Ev_row r_X10_outputAt_4, mv_Ev_row r_X10_outputAt_5, mv_Ev_row r_X10_outputAt_6, mv_Ev_row r_X10_outputAt_9, mv_Ev_row r_X10_outputAt_12, mv_Ev_row r_X10_outputAt_15, mv_Ev_row r_X10_outputAt_18, mv_Ev_row r_X10_outputAt_19, mv_Ev_row r_X10_outputAt_22, mv_Ev_row r_X10_outputAt_25, mv_Ev_row r_X10_outputAt_26, mv_Ev_row r_X10_outputAt_27, mv_Ev_row r_X10_outputAt_30, mv_Ev_row r_X10_outputAt_33, mv_Ev_row r_X10_outputAt_34, mv_Ev_row r_X10_outputAt_35, ea_iload_n, ea_ifc, ea_aload_n, gg_7_8, gg_3_1, ea_icmp, ez_thr, ea_dup_i, ea_dup_r, gg_3_0, ea_ireturn, ez_ret, ez_retc, ar_ldc0 ai_141, cz_eq, cz_ne, cz_lt, cz_ge, cz_gt, cz_le, c0_eq, c0_ne, c0_lt, c0_ge, c0_gt, c0_le, mv_ac, decide_eq_true_eq, not_true_eq_false, and_self, and_true, true_and, ea_2n, ea_2f, ea_2c, ea_if, if_pos, if_neg, mv_lk, mv_f1, mv_f2, Value.category, List.filter, ↓reduceIte, Nat.reduceEqDiff, Nat.reduceAdd, Nat.reduceLT, Nat.reduceBEq, Nat.zero_add, Nat.add_zero, Nat.zero_ne_one, Nat.one_ne_zero, Bool.not_true, Bool.not_false, Bool.and_true, Bool.true_and, Bool.and_false, Bool.false_and, BEq.rfl, beq_self_eq_true, Bool.false_eq_true, reduceCtorEq, not_false_eq_true, fv0, fv1, fv2, fv3, eb_l0, eb_l1, eb_l2, eb_l3, eb_l4, eb_l5, eb_s0, eb_s1, eb_s2, eb_s3, eb_s4, eb_s5, oz_add, oz_sub, oz_mul, oz_neg, ol_add, ol_sub, sD_eq, sD_sD, sD_ne, sD_in, sD_in2, sD_in3, upR_is, upR_ne, mk_v, mk_n, mk_x, mk_i, mv_cs, Nat.reduceLeDiff, mv_ch_z, nh_X10_outputAt]
-- looking ahead
theorem lp_X10_look (hd : 3 ≤ d) {m : Int} (m30 : m ≤ 30) : ∀ (n : Nat) (k : Int) (A : Int → Int), 0 ≤ k → k + n = m → zWF A 99 → mv_Ev L xs (mv_cl L xs d) k_X10_lookAhead 13 [(2, .int (Int32.ofInt k)), (0, .ref 0), (1, .int (Int32.ofInt m))] [] (t, 142, mz (sD T o25 A)) (.inl none, (t, 142, mz (sD T o25 (zPs n A)))) := by
  intro n
  induction n with
  | zero =>
    intro k A h0 hn hA
    rw [zPs]
    simp (disch := omega) only [mv_Ev_row r_X10_lookAhead_0, mv_Ev_row r_X10_lookAhead_1, mv_Ev_row r_X10_lookAhead_4, mv_Ev_row r_X10_lookAhead_5, mv_Ev_row r_X10_lookAhead_8, mv_Ev_row r_X10_lookAhead_11, mv_Ev_row r_X10_lookAhead_12, mv_Ev_row r_X10_lookAhead_13, mv_Ev_row r_X10_lookAhead_14, mv_Ev_row r_X10_lookAhead_15, mv_Ev_row r_X10_lookAhead_18, mv_Ev_row r_X10_lookAhead_19, mv_Ev_row r_X10_lookAhead_22, mv_Ev_row r_X10_lookAhead_25, mv_Ev_row r_X10_lookAhead_26, mv_Ev_row r_X10_lookAhead_29, mv_Ev_row r_X10_lookAhead_32, ea_aload_n, gg_7_0, kv_X2_copyFrom Ch.o25, ea_iconst, ea_istore_n, ea_iload_n, ea_icmp, kv_X2_passStep Ch.o25, ea_pop_i, ea_iinc, eb_inc, ea_goto, ea_vret, cz_eq, cz_ne, cz_lt, cz_ge, cz_gt, cz_le, mv_ac, decide_eq_true_eq, not_true_eq_false, and_self, and_true, true_and, ea_2n, ea_2f, ea_2c, ea_if, if_pos, if_neg, mv_lk, mv_f1, mv_f2, Value.category, List.filter, ↓reduceIte, Nat.reduceEqDiff, Nat.reduceAdd, Nat.reduceLT, Nat.reduceBEq, Nat.zero_add, Nat.add_zero, Nat.zero_ne_one, Nat.one_ne_zero, Bool.not_true, Bool.not_false, Bool.and_true, Bool.true_and, Bool.and_false, Bool.false_and, BEq.rfl, beq_self_eq_true, Bool.false_eq_true, reduceCtorEq, not_false_eq_true, fv0, fv1, fv2, fv3, eb_l0, eb_l1, eb_l2, eb_l3, eb_l4, eb_l5, eb_s0, eb_s1, eb_s2, eb_s3, eb_s4, eb_s5, oz_add, oz_sub, oz_mul, oz_neg, ol_add, ol_sub, sD_eq, sD_sD, sD_ne, sD_in, sD_in2, sD_in3, upR_is, upR_ne, mk_v, mk_n, mk_x, mk_i, mv_cs, Nat.reduceLeDiff, mv_ch_z, nh_X10_lookAhead, g7_3]
  | succ n ih =>
    intro k A h0 hn hA
    have q := c_X2_passStep (L := L) (xs := xs) (t := t) (T := T) (d := d) Ch.o25 hd hA
    rw [zPs]
    rw [mv_Ev_row r_X10_lookAhead_13]
    simp (disch := omega) only [mv_Ev_row r_X10_lookAhead_0, mv_Ev_row r_X10_lookAhead_1, mv_Ev_row r_X10_lookAhead_4, mv_Ev_row r_X10_lookAhead_5, mv_Ev_row r_X10_lookAhead_8, mv_Ev_row r_X10_lookAhead_11, mv_Ev_row r_X10_lookAhead_12, mv_Ev_row r_X10_lookAhead_14, mv_Ev_row r_X10_lookAhead_15, mv_Ev_row r_X10_lookAhead_18, mv_Ev_row r_X10_lookAhead_19, mv_Ev_row r_X10_lookAhead_22, mv_Ev_row r_X10_lookAhead_25, mv_Ev_row r_X10_lookAhead_26, mv_Ev_row r_X10_lookAhead_29, mv_Ev_row r_X10_lookAhead_32, ea_aload_n, gg_7_0, kv_X2_copyFrom Ch.o25, ea_iconst, ea_istore_n, ea_iload_n, ea_icmp, kv_X2_passStep Ch.o25, ea_pop_i, ea_iinc, eb_inc, ea_goto, ea_vret, cz_eq, cz_ne, cz_lt, cz_ge, cz_gt, cz_le, mv_ac, decide_eq_true_eq, not_true_eq_false, and_self, and_true, true_and, ea_2n, ea_2f, ea_2c, ea_if, if_pos, if_neg, mv_lk, mv_f1, mv_f2, Value.category, List.filter, ↓reduceIte, Nat.reduceEqDiff, Nat.reduceAdd, Nat.reduceLT, Nat.reduceBEq, Nat.zero_add, Nat.add_zero, Nat.zero_ne_one, Nat.one_ne_zero, Bool.not_true, Bool.not_false, Bool.and_true, Bool.true_and, Bool.and_false, Bool.false_and, BEq.rfl, beq_self_eq_true, Bool.false_eq_true, reduceCtorEq, not_false_eq_true, fv0, fv1, fv2, fv3, eb_l0, eb_l1, eb_l2, eb_l3, eb_l4, eb_l5, eb_s0, eb_s1, eb_s2, eb_s3, eb_s4, eb_s5, oz_add, oz_sub, oz_mul, oz_neg, ol_add, ol_sub, sD_eq, sD_sD, sD_ne, sD_in, sD_in2, sD_in3, upR_is, upR_ne, mk_v, mk_n, mk_x, mk_i, mv_cs, Nat.reduceLeDiff, mv_ch_z, nh_X10_lookAhead, g7_3, q]
    exact mv_Es (ih (k + 1) _ (by omega) (by omega) (zSt_wf hA))
theorem c_X10_look (hd : 4 ≤ d) {m : Int} (m0 : 0 ≤ m) (m30 : m ≤ 30) (hW : zWF (T.1 o1) 99) : mv_cl L xs d k_X10_lookAhead [.ref 0, .int (Int32.ofInt m)] (t, 142, mz T) = some (.inl none, (t, 142, mz (sD T o25 (zPs m.toNat (zCpy (T.1 o1) (T.1 o25)))))) := by
  have q := ct_copyFrom (L := L) (xs := xs) (t := t) (T := T) (d := d - 1) (c := o25) (e := o1) Ch.o25 Ch.o1 (by decide) (by omega) rfl hW
  have h := lp_X10_look (L := L) (xs := xs) (t := t) (T := T) (d := d - 1) (by omega) m30 m.toNat 0 (zCpy (T.1 o1) (T.1 o25)) (by omega) (by omega) (zWF_cpy hW _)
  obtain ⟨d, rfl⟩ : ∃ e, d = e + 1 := ⟨d - 1, by omega⟩
  apply mv_cl_of
  simp only [mv_il, Value.category, Nat.zero_add, Nat.reduceAdd]
  simp only [Nat.add_sub_cancel] at q h
  simp (disch := omega) only [mv_Ev_row r_X10_lookAhead_0, mv_Ev_row r_X10_lookAhead_1, mv_Ev_row r_X10_lookAhead_4, mv_Ev_row r_X10_lookAhead_5, mv_Ev_row r_X10_lookAhead_8, mv_Ev_row r_X10_lookAhead_11, mv_Ev_row r_X10_lookAhead_12, mv_Ev_row r_X10_lookAhead_14, mv_Ev_row r_X10_lookAhead_15, mv_Ev_row r_X10_lookAhead_18, mv_Ev_row r_X10_lookAhead_19, mv_Ev_row r_X10_lookAhead_22, mv_Ev_row r_X10_lookAhead_25, mv_Ev_row r_X10_lookAhead_26, mv_Ev_row r_X10_lookAhead_29, mv_Ev_row r_X10_lookAhead_32, ea_aload_n, kv_X2_copyFrom Ch.o1, kv_X2_copyFrom Ch.o25, ea_iconst, ea_istore_n, ea_iload_n, ea_icmp, kv_X2_passStep Ch.o1, kv_X2_passStep Ch.o25, ea_pop_i, ea_iinc, eb_inc, ea_goto, ea_vret, cz_eq, cz_ne, cz_lt, cz_ge, cz_gt, cz_le, mv_ac, decide_eq_true_eq, not_true_eq_false, and_self, and_true, true_and, ea_2n, ea_2f, ea_2c, ea_if, if_pos, if_neg, mv_lk, mv_f1, mv_f2, Value.category, List.filter, ↓reduceIte, Nat.reduceEqDiff, Nat.reduceAdd, Nat.reduceLT, Nat.reduceBEq, Nat.zero_add, Nat.add_zero, Nat.zero_ne_one, Nat.one_ne_zero, Bool.not_true, Bool.not_false, Bool.and_true, Bool.true_and, Bool.and_false, Bool.false_and, BEq.rfl, beq_self_eq_true, Bool.false_eq_true, reduceCtorEq, not_false_eq_true, fv0, fv1, fv2, fv3, eb_l0, eb_l1, eb_l2, eb_l3, eb_l4, eb_l5, eb_s0, eb_s1, eb_s2, eb_s3, eb_s4, eb_s5, oz_add, oz_sub, oz_mul, oz_neg, ol_add, ol_sub, sD_eq, sD_sD, sD_ne, sD_in, sD_in2, sD_in3, upR_is, upR_ne, mk_v, mk_n, mk_x, mk_i, mv_cs, Nat.reduceLeDiff, mv_ch_z, nh_X10_lookAhead, g7_0, g7_3, q]
  exact mv_Es h
def zSp (T : zT) (m : Nat) (b : Int) : Int := zPs m (zCpy (T.1 o1) (T.1 o25)) (6 + 9 * b + 7) - T.1 o1 (6 + 9 * b + 7)
theorem c_X10_expected (hd : 1 ≤ d) {b : Int} (b0 : 0 ≤ b) (b5 : b < 5) : mv_cl L xs d k_X10_expectedSpill [.ref 0, .int (Int32.ofInt b)] (t, 142, mz T) = some (.inl (some (.int (Int32.ofInt (T.1 o25 (6 + 9 * b + 7) - T.1 o1 (6 + 9 * b + 7))))), (t, 142, mz T)) := by
  obtain ⟨d, rfl⟩ : ∃ e, d = e + 1 := ⟨d - 1, by omega⟩
  apply mv_cl_of
  simp only [mv_il, Value.category, Nat.zero_add, Nat.reduceAdd]
  simp (disch := omega) only [mv_Ev_row r_X10_expectedSpill_0, mv_Ev_row r_X10_expectedSpill_1, mv_Ev_row r_X10_expectedSpill_4, mv_Ev_row r_X10_expectedSpill_7, mv_Ev_row r_X10_expectedSpill_8, mv_Ev_row r_X10_expectedSpill_9, mv_Ev_row r_X10_expectedSpill_12, mv_Ev_row r_X10_expectedSpill_13, mv_Ev_row r_X10_expectedSpill_16, mv_Ev_row r_X10_expectedSpill_19, mv_Ev_row r_X10_expectedSpill_20, mv_Ev_row r_X10_expectedSpill_21, mv_Ev_row r_X10_expectedSpill_24, mv_Ev_row r_X10_expectedSpill_25, ea_aload_n, gg_1_0 Ch.o1, gg_1_0 Ch.o25, ea_iload_n, gg_0_7 Ch.o1, gg_0_7 Ch.o25, ea_isub, ea_ireturn, ez_ret, ez_retc, ar_bas Ch.o1, ar_bas Ch.o25, ar_his, ar_try, mv_ac, decide_eq_true_eq, not_true_eq_false, and_self, and_true, true_and, ea_2n, ea_2f, ea_2c, ea_if, if_pos, if_neg, mv_lk, mv_f1, mv_f2, Value.category, List.filter, ↓reduceIte, Nat.reduceEqDiff, Nat.reduceAdd, Nat.reduceLT, Nat.reduceBEq, Nat.zero_add, Nat.add_zero, Nat.zero_ne_one, Nat.one_ne_zero, Bool.not_true, Bool.not_false, Bool.and_true, Bool.true_and, Bool.and_false, Bool.false_and, BEq.rfl, beq_self_eq_true, Bool.false_eq_true, reduceCtorEq, not_false_eq_true, fv0, fv1, fv2, fv3, eb_l0, eb_l1, eb_l2, eb_l3, eb_l4, eb_l5, eb_s0, eb_s1, eb_s2, eb_s3, eb_s4, eb_s5, oz_add, oz_sub, oz_mul, oz_neg, ol_add, ol_sub, sD_eq, sD_sD, sD_ne, sD_in, sD_in2, sD_in3, upR_is, upR_ne, mk_v, mk_n, mk_x, mk_i, mv_cs, Nat.reduceLeDiff, mv_ch_z, nh_X10_expectedSpill, g7_0, g7_3]
theorem ct_faultOfPrediction (hc : Ch c) (hd : 3 ≤ d) {b n : Int} (hW : zWF (T.1 c) 99) (hi1 : -2147483648 ≤ b) (hi2 : b < 2147483648) (h1 : -2147483648 ≤ n) (h2 : n < 2147483648) : mv_cl L xs d k_X2_faultOfPrediction [.ref c, .int (Int32.ofInt b), .int (Int32.ofInt n)] (t, 142, mz T) = some (.inl (some (.ref (zfAt (T.1 c) b n 0 30))), (t, 142, mz T)) := by
  have q := c_X2_faultOfPrediction (L := L) (xs := xs) (t := t) (T := T) (A := T.1 c) (d := d) hc hd hW.1 hW.2.1 hi1 hi2 h1 h2
  rw [sD_id] at q
  exact q
theorem zfAt_is {A : Int → Int} {b n lo hi : Int} : (zfAt A b n lo hi = 1010 ↔ (0 ≤ b ∧ b < A 0) ∧ lo ≤ n ∧ n ≤ hi) ∧ 1010 ≤ zfAt A b n lo hi ∧ zfAt A b n lo hi ≤ 1013 := by
  unfold zfAt zfR
  by_cases h : 0 ≤ b ∧ b < A 0
  · rw [if_pos h]
    split <;> omega
  · rw [if_neg h]
    omega
theorem c_X10_levelAfter (hd : 5 ≤ d) {b m : Int} (hW : zWF (T.1 o1) 99) (b1 : -2147483648 ≤ b) (b2 : b < 2147483648) (m1 : -2147483648 ≤ m) (m2 : m < 2147483648) : mv_cl L xs d k_X10_levelAfter [.ref 0, .int (Int32.ofInt b), .int (Int32.ofInt m)] (t, 142, mz T) = some (if zfAt (T.1 o1) b m 0 30 = 1010 then (.inl (some (.int (Int32.ofInt (zPs m.toNat (zCpy (T.1 o1) (T.1 o25)) (6 + 9 * b + 1))))), (t, 142, mz (sD T o25 (zPs m.toNat (zCpy (T.1 o1) (T.1 o25)))))) else (.inr (zE (zfAt (T.1 o1) b m 0 30)), (t + 1, 142, mz T))) := by
  have a5 := hW.2.1
  obtain ⟨z1, z2, z3⟩ := zfAt_is (A := T.1 o1) (b := b) (n := m) (lo := 0) (hi := 30)
  have e1 := ct_faultOfPrediction (L := L) (xs := xs) (t := t) (T := T) (d := d - 1) Ch.o1 (by omega) hW b1 b2 m1 m2
  have e2 := c_X10_throwFor_0 (L := L) (xs := xs) (t := t) (T := T) (d := d - 1) (by omega)
  have e4 := c_X10_throwFor (L := L) (xs := xs) (t := t) (T := T) (d := d - 1) (f := zfAt (T.1 o1) b m 0 30) (by omega)
  by_cases h : zfAt (T.1 o1) b m 0 30 = 1010
  · rw [if_pos h]
    obtain ⟨⟨y1, y2⟩, y3, y4⟩ := z1.mp h
    have e5 := c_X10_look (L := L) (xs := xs) (t := t) (T := T) (d := d - 1) (by omega) y3 y4 hW
    rw [h] at e1
    obtain ⟨d, rfl⟩ : ∃ e, d = e + 1 := ⟨d - 1, by omega⟩
    apply mv_cl_of
    simp only [mv_il, Value.category, Nat.zero_add, Nat.reduceAdd]
    simp only [Nat.add_sub_cancel] at e1 e2 e5
    simp (disch := omega) only [mv_Ev_row r_X10_levelAfter_0, mv_Ev_row r_X10_levelAfter_1, mv_Ev_row r_X10_levelAfter_4, mv_Ev_row r_X10_levelAfter_5, mv_Ev_row r_X10_levelAfter_6, mv_Ev_row r_X10_levelAfter_9, mv_Ev_row r_X10_levelAfter_12, mv_Ev_row r_X10_levelAfter_13, mv_Ev_row r_X10_levelAfter_14, mv_Ev_row r_X10_levelAfter_17, mv_Ev_row r_X10_levelAfter_18, mv_Ev_row r_X10_levelAfter_21, mv_Ev_row r_X10_levelAfter_24, mv_Ev_row r_X10_levelAfter_25, mv_Ev_row r_X10_levelAfter_26, mv_Ev_row r_X10_levelAfter_29, ea_aload_n, ea_iload_n, kv_X2_faultOfPrediction Ch.o1, kv_X2_faultOfPrediction Ch.o25, kv_X10_throwFor, kv_X10_lookAhead, gg_1_0 Ch.o1, gg_1_0 Ch.o25, gg_0_3 Ch.o1, gg_0_3 Ch.o25, ea_ireturn, ez_ret, ez_retc, ar_bas Ch.o1, ar_bas Ch.o25, ar_his, ar_try, mv_ac, decide_eq_true_eq, not_true_eq_false, and_self, and_true, true_and, ea_2n, ea_2f, ea_2c, ea_if, if_pos, if_neg, mv_lk, mv_f1, mv_f2, Value.category, List.filter, ↓reduceIte, Nat.reduceEqDiff, Nat.reduceAdd, Nat.reduceLT, Nat.reduceBEq, Nat.zero_add, Nat.add_zero, Nat.zero_ne_one, Nat.one_ne_zero, Bool.not_true, Bool.not_false, Bool.and_true, Bool.true_and, Bool.and_false, Bool.false_and, BEq.rfl, beq_self_eq_true, Bool.false_eq_true, reduceCtorEq, not_false_eq_true, fv0, fv1, fv2, fv3, eb_l0, eb_l1, eb_l2, eb_l3, eb_l4, eb_l5, eb_s0, eb_s1, eb_s2, eb_s3, eb_s4, eb_s5, oz_add, oz_sub, oz_mul, oz_neg, ol_add, ol_sub, sD_eq, sD_sD, sD_ne, sD_in, sD_in2, sD_in3, upR_is, upR_ne, mk_v, mk_n, mk_x, mk_i, mv_cs, Nat.reduceLeDiff, mv_ch_z, nh_X10_levelAfter, g7_0, g7_3, e1, e2, e5]
  · rw [if_neg h]
    have e4 := e4 (by omega) (by omega)
    obtain ⟨d, rfl⟩ : ∃ e, d = e + 1 := ⟨d - 1, by omega⟩
    apply mv_cl_of
    simp only [mv_il, Value.category, Nat.zero_add, Nat.reduceAdd]
    simp only [Nat.add_sub_cancel] at e1 e4
    simp (disch := omega) only [mv_Ev_row r_X10_levelAfter_0, mv_Ev_row r_X10_levelAfter_1, mv_Ev_row r_X10_levelAfter_4, mv_Ev_row r_X10_levelAfter_5, mv_Ev_row r_X10_levelAfter_6, mv_Ev_row r_X10_levelAfter_9, mv_Ev_row r_X10_levelAfter_12, mv_Ev_row r_X10_levelAfter_13, mv_Ev_row r_X10_levelAfter_14, mv_Ev_row r_X10_levelAfter_17, mv_Ev_row r_X10_levelAfter_18, mv_Ev_row r_X10_levelAfter_21, mv_Ev_row r_X10_levelAfter_24, mv_Ev_row r_X10_levelAfter_25, mv_Ev_row r_X10_levelAfter_26, mv_Ev_row r_X10_levelAfter_29, ea_aload_n, ea_iload_n, kv_X2_faultOfPrediction Ch.o1, kv_X2_faultOfPrediction Ch.o25, kv_X10_throwFor, kv_X10_lookAhead, gg_1_0 Ch.o1, gg_1_0 Ch.o25, gg_0_3 Ch.o1, gg_0_3 Ch.o25, ea_ireturn, ez_ret, ez_retc, ar_bas Ch.o1, ar_bas Ch.o25, ar_his, ar_try, mv_ac, decide_eq_true_eq, not_true_eq_false, and_self, and_true, true_and, ea_2n, ea_2f, ea_2c, ea_if, if_pos, if_neg, mv_lk, mv_f1, mv_f2, Value.category, List.filter, ↓reduceIte, Nat.reduceEqDiff, Nat.reduceAdd, Nat.reduceLT, Nat.reduceBEq, Nat.zero_add, Nat.add_zero, Nat.zero_ne_one, Nat.one_ne_zero, Bool.not_true, Bool.not_false, Bool.and_true, Bool.true_and, Bool.and_false, Bool.false_and, BEq.rfl, beq_self_eq_true, Bool.false_eq_true, reduceCtorEq, not_false_eq_true, fv0, fv1, fv2, fv3, eb_l0, eb_l1, eb_l2, eb_l3, eb_l4, eb_l5, eb_s0, eb_s1, eb_s2, eb_s3, eb_s4, eb_s5, oz_add, oz_sub, oz_mul, oz_neg, ol_add, ol_sub, sD_eq, sD_sD, sD_ne, sD_in, sD_in2, sD_in3, upR_is, upR_ne, mk_v, mk_n, mk_x, mk_i, mv_cs, Nat.reduceLeDiff, mv_ch_z, nh_X10_levelAfter, g7_0, g7_3, e1, e4]
theorem c_X10_spillOf (hd : 5 ≤ d) {b m : Int} (hW : zWF (T.1 o1) 99) (b1 : -2147483648 ≤ b) (b2 : b < 2147483648) (m1 : -2147483648 ≤ m) (m2 : m < 2147483648) : mv_cl L xs d k_X10_spillOf [.ref 0, .int (Int32.ofInt b), .int (Int32.ofInt m)] (t, 142, mz T) = some (if zfAt (T.1 o1) b m 0 30 = 1010 then (.inl (some (.int (Int32.ofInt (zSp T m.toNat b)))), (t, 142, mz (sD T o25 (zPs m.toNat (zCpy (T.1 o1) (T.1 o25)))))) else (.inr (zE (zfAt (T.1 o1) b m 0 30)), (t + 1, 142, mz T))) := by
  have a5 := hW.2.1
  obtain ⟨z1, z2, z3⟩ := zfAt_is (A := T.1 o1) (b := b) (n := m) (lo := 0) (hi := 30)
  have e1 := ct_faultOfPrediction (L := L) (xs := xs) (t := t) (T := T) (d := d - 1) Ch.o1 (by omega) hW b1 b2 m1 m2
  have e2 := c_X10_throwFor_0 (L := L) (xs := xs) (t := t) (T := T) (d := d - 1) (by omega)
  have e4 := c_X10_throwFor (L := L) (xs := xs) (t := t) (T := T) (d := d - 1) (f := zfAt (T.1 o1) b m 0 30) (by omega)
  by_cases h : zfAt (T.1 o1) b m 0 30 = 1010
  · rw [if_pos h]
    obtain ⟨⟨y1, y2⟩, y3, y4⟩ := z1.mp h
    have e5 := c_X10_look (L := L) (xs := xs) (t := t) (T := T) (d := d - 1) (by omega) y3 y4 hW
    have e6 := c_X10_expected (L := L) (xs := xs) (t := t) (T := sD T o25 (zPs m.toNat (zCpy (T.1 o1) (T.1 o25)))) (d := d - 1) (b := b) (by omega) y1 (by omega)
    rw [sD_eq, sD_ne _ _ o1_25] at e6
    rw [h] at e1
    unfold zSp
    obtain ⟨d, rfl⟩ : ∃ e, d = e + 1 := ⟨d - 1, by omega⟩
    apply mv_cl_of
    simp only [mv_il, Value.category, Nat.zero_add, Nat.reduceAdd]
    simp only [Nat.add_sub_cancel] at e1 e2 e5 e6
    simp (disch := omega) only [mv_Ev_row r_X10_spillOf_0, mv_Ev_row r_X10_spillOf_1, mv_Ev_row r_X10_spillOf_4, mv_Ev_row r_X10_spillOf_5, mv_Ev_row r_X10_spillOf_6, mv_Ev_row r_X10_spillOf_9, mv_Ev_row r_X10_spillOf_12, mv_Ev_row r_X10_spillOf_13, mv_Ev_row r_X10_spillOf_14, mv_Ev_row r_X10_spillOf_17, mv_Ev_row r_X10_spillOf_18, mv_Ev_row r_X10_spillOf_19, mv_Ev_row r_X10_spillOf_22, ea_aload_n, ea_iload_n, kv_X2_faultOfPrediction Ch.o1, kv_X2_faultOfPrediction Ch.o25, kv_X10_throwFor, kv_X10_lookAhead, kv_X10_expectedSpill, ea_ireturn, ez_ret, ez_retc, mv_ac, decide_eq_true_eq, not_true_eq_false, and_self, and_true, true_and, ea_2n, ea_2f, ea_2c, ea_if, if_pos, if_neg, mv_lk, mv_f1, mv_f2, Value.category, List.filter, ↓reduceIte, Nat.reduceEqDiff, Nat.reduceAdd, Nat.reduceLT, Nat.reduceBEq, Nat.zero_add, Nat.add_zero, Nat.zero_ne_one, Nat.one_ne_zero, Bool.not_true, Bool.not_false, Bool.and_true, Bool.true_and, Bool.and_false, Bool.false_and, BEq.rfl, beq_self_eq_true, Bool.false_eq_true, reduceCtorEq, not_false_eq_true, fv0, fv1, fv2, fv3, eb_l0, eb_l1, eb_l2, eb_l3, eb_l4, eb_l5, eb_s0, eb_s1, eb_s2, eb_s3, eb_s4, eb_s5, oz_add, oz_sub, oz_mul, oz_neg, ol_add, ol_sub, sD_eq, sD_sD, sD_ne, sD_in, sD_in2, sD_in3, upR_is, upR_ne, mk_v, mk_n, mk_x, mk_i, mv_cs, Nat.reduceLeDiff, mv_ch_z, nh_X10_spillOf, g7_0, g7_3, e1, e2, e5, e6]
  · rw [if_neg h]
    have e4 := e4 (by omega) (by omega)
    obtain ⟨d, rfl⟩ : ∃ e, d = e + 1 := ⟨d - 1, by omega⟩
    apply mv_cl_of
    simp only [mv_il, Value.category, Nat.zero_add, Nat.reduceAdd]
    simp only [Nat.add_sub_cancel] at e1 e4
    simp (disch := omega) only [mv_Ev_row r_X10_spillOf_0, mv_Ev_row r_X10_spillOf_1, mv_Ev_row r_X10_spillOf_4, mv_Ev_row r_X10_spillOf_5, mv_Ev_row r_X10_spillOf_6, mv_Ev_row r_X10_spillOf_9, mv_Ev_row r_X10_spillOf_12, mv_Ev_row r_X10_spillOf_13, mv_Ev_row r_X10_spillOf_14, mv_Ev_row r_X10_spillOf_17, mv_Ev_row r_X10_spillOf_18, mv_Ev_row r_X10_spillOf_19, mv_Ev_row r_X10_spillOf_22, ea_aload_n, ea_iload_n, kv_X2_faultOfPrediction Ch.o1, kv_X2_faultOfPrediction Ch.o25, kv_X10_throwFor, kv_X10_lookAhead, kv_X10_expectedSpill, ea_ireturn, ez_ret, ez_retc, mv_ac, decide_eq_true_eq, not_true_eq_false, and_self, and_true, true_and, ea_2n, ea_2f, ea_2c, ea_if, if_pos, if_neg, mv_lk, mv_f1, mv_f2, Value.category, List.filter, ↓reduceIte, Nat.reduceEqDiff, Nat.reduceAdd, Nat.reduceLT, Nat.reduceBEq, Nat.zero_add, Nat.add_zero, Nat.zero_ne_one, Nat.one_ne_zero, Bool.not_true, Bool.not_false, Bool.and_true, Bool.true_and, Bool.and_false, Bool.false_and, BEq.rfl, beq_self_eq_true, Bool.false_eq_true, reduceCtorEq, not_false_eq_true, fv0, fv1, fv2, fv3, eb_l0, eb_l1, eb_l2, eb_l3, eb_l4, eb_l5, eb_s0, eb_s1, eb_s2, eb_s3, eb_s4, eb_s5, oz_add, oz_sub, oz_mul, oz_neg, ol_add, ol_sub, sD_eq, sD_sD, sD_ne, sD_in, sD_in2, sD_in3, upR_is, upR_ne, mk_v, mk_n, mk_x, mk_i, mv_cs, Nat.reduceLeDiff, mv_ch_z, nh_X10_spillOf, g7_0, g7_3, e1, e4]
end FC2
