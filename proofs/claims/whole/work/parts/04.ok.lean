/-! the rows of 03.code are those of the bytecode, and each link has its word -/
abbrev mv_cls : List vw_C := [(RX1, TX1, 9), (RX2, TX2, 8), (RX5, TX5, 3), (RX6, TX6, 2), (RX7, TX7, 1), (RX8, TX8, 6), (RX9, TX9, 4), (RX10, TX10, 12), (RX11, TX11, 16)]
def mv_ft (a b : Nat) : String × String × String :=
  if a = 30 then ("SluiceChain$Command", "pattern", "Ljava/lang/String;") else match mv_cls[a]? with
  | some (C, T, N) => if b < N then (C, (T b).2.1, (T b).2.2.1) else ("", "", "")
  | none => ("", "", "")
noncomputable def mv_fw (own : String) (i a b w : Nat) : Bool := match lw_tbl[w]? with
  | some (.fieldLink o j r n d) => decide (o = own) && decide (j = i) && decide ((r, n, d) = mv_ft a b)
  | some (.fieldLinkNest o j r n d _) => decide (o = own) && decide (j = i) && decide ((r, n, d) = mv_ft a b)
  | _ => false
def mv_sn (a : Nat) : String × String × String := match a with
  | 1000 => ("SluiceChain$Command", "BASIN", "LSluiceChain$Command;") | 1001 => ("SluiceChain$Command", "GATE", "LSluiceChain$Command;")
  | 1002 => ("SluiceChain$Command", "AUTO", "LSluiceChain$Command;") | 1003 => ("SluiceChain$Command", "HAND", "LSluiceChain$Command;")
  | 1004 => ("SluiceChain$Command", "RAIN", "LSluiceChain$Command;") | 1005 => ("SluiceChain$Command", "CLEAR", "LSluiceChain$Command;")
  | 1006 => ("SluiceChain$Command", "POUR", "LSluiceChain$Command;") | 1007 => ("SluiceChain$Command", "STEP", "LSluiceChain$Command;")
  | 1010 => ("SluiceChain$Fault", "NONE", "LSluiceChain$Fault;") | 1011 => ("SluiceChain$Fault", "NO_BASIN", "LSluiceChain$Fault;")
  | 1012 => ("SluiceChain$Fault", "OUT_OF_RANGE", "LSluiceChain$Fault;") | 1013 => ("SluiceChain$Fault", "WRONG_STATE", "LSluiceChain$Fault;")
  | 1020 => ("SluiceChain$Program", "COMMANDS", "[LSluiceChain$Command;") | 1021 => ("SluiceChain$1", "$SwitchMap$SluiceChain$Command", "[I")
  | _ => ("", "", "")
noncomputable def mv_sw (own : String) (i a w : Nat) : Bool := match lw_tbl[w]? with
  | some (.fieldLink o j r n d) => decide (o = own) && decide (j = i) && decide ((r, n, d) = mv_sn a)
  | _ => false
noncomputable def mv_mi (M : Nat) : mv_J := mv_ms.getD M (code, ⟨"", "", ""⟩, 0, none, 0, 0, 0, 0, 0)
def mv_nat (a : Nat) : MethodName := match a with
  | 900 => Lib.Math.min.name | 901 => Lib.Math.max.name | 902 => ⟨"SluiceChain$Command", "ordinal", "()I"⟩
  | 903 => ⟨"java/lang/String", "length", "()I"⟩ | 904 => ⟨"java/lang/String", "charAt", "(I)C"⟩ | _ => objectInit
noncomputable def mv_mw (own : String) (i a w : Nat) : Bool := match lw_tbl[w]? with
  | some (.methodLink o j y) => decide (o = own) && decide (j = i) && decide (y = if a < 900 then (mv_mi a).2.1 else mv_nat a)
  | some (.methodLinkNest o j y _) => decide (o = own) && decide (j = i) && decide (a < 900) && decide (y = (mv_mi a).2.1)
  | _ => false
noncomputable def mv_cw (own : String) (i w : Nat) (C : String) : Bool := decide (lw_tbl[w]? = some (.classLink own i C))
def mv_ky (a : Nat) : ArrayType := if a = 20 then .int else if a = 21 then .char else if a = 22 then .long else .double
noncomputable def mv_ok (bs : ByteArray) (own : String) (q : Nat × mv_I) : Bool := match q with
  | (pc, (i, nx, a, b, w)) => decide (decode bs pc = .ok (i, nx - pc)) && decide (pc ≤ nx) && match i with
    | .goto off => decide ((pc : Int) + off = (a : Int))
    | .if_icmp _ off => decide ((pc : Int) + off = (a : Int))
    | .ifCond _ off => decide ((pc : Int) + off = (a : Int))
    | .if_acmp _ off => decide ((pc : Int) + off = (a : Int))
    | .ifnonnull off => decide ((pc : Int) + off = (a : Int))
    | .tableswitch _ _ _ _ => decide (a = pc)
    | .getfield k => mv_fw own k a b w
    | .putfield k => mv_fw own k a b w
    | .getstatic k => mv_sw own k a w
    | .invokevirtual k => mv_mw own k a w
    | .invokestatic k => mv_mw own k a w
    | .invokespecial k => decide (a = 999) || mv_mw own k a w
    | .new k => decide (a = 99) || (match mv_cls[a]? with | some (C, _, _) => mv_cw own k w C | none => false)
    | .newarray t => decide (t = mv_ky a)
    | .anewarray k => mv_cw own k w (if a = 24 then "SluiceChain$Basin" else "SluiceChain$Chain")
    | .ldc k => decide (a = 0) || decide (lw_tbl[w]? = some (.constant own k (Int32.ofNat b)))
    | _ => true
noncomputable def mv_okM (M : Nat) : Bool := (mv_tb M).all (mv_ok (mv_mi M).1 (mv_mi M).2.1.cls)
theorem ok_X1_init : t_X1_init.all (mv_ok (prog_3_method_1_code) "SluiceChain$Basin") = true := by decide +kernel
theorem ok_X1_begin : t_X1_begin.all (mv_ok (prog_3_method_2_code) "SluiceChain$Basin") = true := by decide +kernel
theorem ok_X1_copyFrom : t_X1_copyFrom.all (mv_ok (prog_3_method_3_code) "SluiceChain$Basin") = true := by decide +kernel
theorem ok_X1_moveAutomaticGate : t_X1_moveAutomaticGate.all (mv_ok (prog_3_method_4_code) "SluiceChain$Basin") = true := by decide +kernel
theorem ok_X1_letOut : t_X1_letOut.all (mv_ok (prog_3_method_5_code) "SluiceChain$Basin") = true := by decide +kernel
theorem ok_X1_spillOver : t_X1_spillOver.all (mv_ok (prog_3_method_6_code) "SluiceChain$Basin") = true := by decide +kernel
theorem ok_X2_init : t_X2_init.all (mv_ok (prog_4_method_1_code) "SluiceChain$Chain") = true := by decide +kernel
theorem ok_X2_copyFrom : t_X2_copyFrom.all (mv_ok (prog_4_method_2_code) "SluiceChain$Chain") = true := by decide +kernel
theorem ok_X2_copyWithOpening : t_X2_copyWithOpening.all (mv_ok (prog_4_method_3_code) "SluiceChain$Chain") = true := by decide +kernel
theorem ok_X2_hasBasin : t_X2_hasBasin.all (mv_ok (prog_4_method_4_code) "SluiceChain$Chain") = true := by decide +kernel
theorem ok_X2_faultOf : t_X2_faultOf.all (mv_ok (prog_4_method_5_code) "SluiceChain$Chain") = true := by decide +kernel
theorem ok_X2_faultOfNewBasin : t_X2_faultOfNewBasin.all (mv_ok (prog_4_method_6_code) "SluiceChain$Chain") = true := by decide +kernel
theorem ok_X2_faultAtBasin : t_X2_faultAtBasin.all (mv_ok (prog_4_method_7_code) "SluiceChain$Chain") = true := by decide +kernel
theorem ok_X2_faultOfGate : t_X2_faultOfGate.all (mv_ok (prog_4_method_8_code) "SluiceChain$Chain") = true := by decide +kernel
theorem ok_X2_faultOfHand : t_X2_faultOfHand.all (mv_ok (prog_4_method_9_code) "SluiceChain$Chain") = true := by decide +kernel
theorem ok_X2_faultOfRain : t_X2_faultOfRain.all (mv_ok (prog_4_method_10_code) "SluiceChain$Chain") = true := by decide +kernel
theorem ok_X2_faultOfPour : t_X2_faultOfPour.all (mv_ok (prog_4_method_11_code) "SluiceChain$Chain") = true := by decide +kernel
theorem ok_X2_faultOfPrediction : t_X2_faultOfPrediction.all (mv_ok (prog_4_method_12_code) "SluiceChain$Chain") = true := by decide +kernel
theorem ok_X2_faultOfPlan : t_X2_faultOfPlan.all (mv_ok (prog_4_method_13_code) "SluiceChain$Chain") = true := by decide +kernel
theorem ok_X2_carryOut : t_X2_carryOut.all (mv_ok (prog_4_method_14_code) "SluiceChain$Chain") = true := by decide +kernel
theorem ok_X2_useNextBasin : t_X2_useNextBasin.all (mv_ok (prog_4_method_15_code) "SluiceChain$Chain") = true := by decide +kernel
theorem ok_X2_turnGate : t_X2_turnGate.all (mv_ok (prog_4_method_16_code) "SluiceChain$Chain") = true := by decide +kernel
theorem ok_X2_makeAutomatic : t_X2_makeAutomatic.all (mv_ok (prog_4_method_17_code) "SluiceChain$Chain") = true := by decide +kernel
theorem ok_X2_makeManual : t_X2_makeManual.all (mv_ok (prog_4_method_18_code) "SluiceChain$Chain") = true := by decide +kernel
theorem ok_X2_countAutomatic : t_X2_countAutomatic.all (mv_ok (prog_4_method_19_code) "SluiceChain$Chain") = true := by decide +kernel
theorem ok_X2_expectRain : t_X2_expectRain.all (mv_ok (prog_4_method_20_code) "SluiceChain$Chain") = true := by decide +kernel
theorem ok_X2_dropForecast : t_X2_dropForecast.all (mv_ok (prog_4_method_21_code) "SluiceChain$Chain") = true := by decide +kernel
theorem ok_X2_pourInto : t_X2_pourInto.all (mv_ok (prog_4_method_22_code) "SluiceChain$Chain") = true := by decide +kernel
theorem ok_X2_passSteps : t_X2_passSteps.all (mv_ok (prog_4_method_23_code) "SluiceChain$Chain") = true := by decide +kernel
theorem ok_X2_passStep : t_X2_passStep.all (mv_ok (prog_4_method_24_code) "SluiceChain$Chain") = true := by decide +kernel
theorem ok_X2_takeRain : t_X2_takeRain.all (mv_ok (prog_4_method_25_code) "SluiceChain$Chain") = true := by decide +kernel
theorem ok_X2_rainDown : t_X2_rainDown.all (mv_ok (prog_4_method_26_code) "SluiceChain$Chain") = true := by decide +kernel
theorem ok_X2_flowDown : t_X2_flowDown.all (mv_ok (prog_4_method_27_code) "SluiceChain$Chain") = true := by decide +kernel
theorem ok_X2_rankOf : t_X2_rankOf.all (mv_ok (prog_4_method_28_code) "SluiceChain$Chain") = true := by decide +kernel
theorem ok_X2_isRankedBefore : t_X2_isRankedBefore.all (mv_ok (prog_4_method_29_code) "SluiceChain$Chain") = true := by decide +kernel
theorem ok_X2_levelsFit : t_X2_levelsFit.all (mv_ok (prog_4_method_30_code) "SluiceChain$Chain") = true := by decide +kernel
theorem ok_X2_sumOfLevels : t_X2_sumOfLevels.all (mv_ok (prog_4_method_31_code) "SluiceChain$Chain") = true := by decide +kernel
theorem ok_X2_balanceOfAccounts : t_X2_balanceOfAccounts.all (mv_ok (prog_4_method_32_code) "SluiceChain$Chain") = true := by decide +kernel
theorem ok_X2_sumOfFloodedSteps : t_X2_sumOfFloodedSteps.all (mv_ok (prog_4_method_33_code) "SluiceChain$Chain") = true := by decide +kernel
theorem ok_X5_init : t_X5_init.all (mv_ok (prog_7_method_1_code) "SluiceChain$History") = true := by decide +kernel
theorem ok_X5_remember : t_X5_remember.all (mv_ok (prog_7_method_2_code) "SluiceChain$History") = true := by decide +kernel
theorem ok_X5_takeLatest : t_X5_takeLatest.all (mv_ok (prog_7_method_3_code) "SluiceChain$History") = true := by decide +kernel
theorem ok_X6_init : t_X6_init.all (mv_ok (prog_8_method_1_code) "SluiceChain$Line") = true := by decide +kernel
theorem ok_X6_put : t_X6_put.all (mv_ok (prog_8_method_2_code) "SluiceChain$Line") = true := by decide +kernel
theorem ok_X6_putNumber : t_X6_putNumber.all (mv_ok (prog_8_method_3_code) "SluiceChain$Line") = true := by decide +kernel
theorem ok_X6_putDigit : t_X6_putDigit.all (mv_ok (prog_8_method_4_code) "SluiceChain$Line") = true := by decide +kernel
theorem ok_X7_init : t_X7_init.all (mv_ok (prog_9_method_1_code) "SluiceChain$PlanSearch") = true := by decide +kernel
theorem ok_X7_leastOfAll : t_X7_leastOfAll.all (mv_ok (prog_9_method_2_code) "SluiceChain$PlanSearch") = true := by decide +kernel
theorem ok_X7_leastByCutting : t_X7_leastByCutting.all (mv_ok (prog_9_method_3_code) "SluiceChain$PlanSearch") = true := by decide +kernel
theorem ok_X7_lowestFirstOpening : t_X7_lowestFirstOpening.all (mv_ok (prog_9_method_4_code) "SluiceChain$PlanSearch") = true := by decide +kernel
theorem ok_X7_leastFrom : t_X7_leastFrom.all (mv_ok (prog_9_method_5_code) "SluiceChain$PlanSearch") = true := by decide +kernel
theorem ok_X7_leastBelow : t_X7_leastBelow.all (mv_ok (prog_9_method_6_code) "SluiceChain$PlanSearch") = true := by decide +kernel
theorem ok_X8_init : t_X8_init.all (mv_ok (prog_10_method_1_code) "SluiceChain$Program") = true := by decide +kernel
theorem ok_X8_take : t_X8_take.all (mv_ok (prog_10_method_2_code) "SluiceChain$Program") = true := by decide +kernel
theorem ok_X8_countCommands : t_X8_countCommands.all (mv_ok (prog_10_method_3_code) "SluiceChain$Program") = true := by decide +kernel
theorem ok_X8_readCommand : t_X8_readCommand.all (mv_ok (prog_10_method_4_code) "SluiceChain$Program") = true := by decide +kernel
theorem ok_X8_commandAtPosition : t_X8_commandAtPosition.all (mv_ok (prog_10_method_5_code) "SluiceChain$Program") = true := by decide +kernel
theorem ok_X8_readPattern : t_X8_readPattern.all (mv_ok (prog_10_method_6_code) "SluiceChain$Program") = true := by decide +kernel
theorem ok_X8_readPart : t_X8_readPart.all (mv_ok (prog_10_method_7_code) "SluiceChain$Program") = true := by decide +kernel
theorem ok_X8_readSign : t_X8_readSign.all (mv_ok (prog_10_method_8_code) "SluiceChain$Program") = true := by decide +kernel
theorem ok_X8_readNumber : t_X8_readNumber.all (mv_ok (prog_10_method_9_code) "SluiceChain$Program") = true := by decide +kernel
theorem ok_X8_isAtDigit : t_X8_isAtDigit.all (mv_ok (prog_10_method_10_code) "SluiceChain$Program") = true := by decide +kernel
theorem ok_X9_init : t_X9_init.all (mv_ok (prog_11_method_1_code) "SluiceChain$Protection") = true := by decide +kernel
theorem ok_X9_include : t_X9_include.all (mv_ok (prog_11_method_2_code) "SluiceChain$Protection") = true := by decide +kernel
theorem ok_X9_sumOfBags : t_X9_sumOfBags.all (mv_ok (prog_11_method_3_code) "SluiceChain$Protection") = true := by decide +kernel
theorem ok_X9_bestByTable : t_X9_bestByTable.all (mv_ok (prog_11_method_4_code) "SluiceChain$Protection") = true := by decide +kernel
theorem ok_X9_improveTable : t_X9_improveTable.all (mv_ok (prog_11_method_5_code) "SluiceChain$Protection") = true := by decide +kernel
theorem ok_X9_bestBySets : t_X9_bestBySets.all (mv_ok (prog_11_method_6_code) "SluiceChain$Protection") = true := by decide +kernel
theorem ok_X9_bagsOfSet : t_X9_bagsOfSet.all (mv_ok (prog_11_method_7_code) "SluiceChain$Protection") = true := by decide +kernel
theorem ok_X9_valueOfSet : t_X9_valueOfSet.all (mv_ok (prog_11_method_8_code) "SluiceChain$Protection") = true := by decide +kernel
theorem ok_X10_init : t_X10_init.all (mv_ok (prog_1_method_1_code) "SluiceChain") = true := by decide +kernel
theorem ok_X10_addBasin : t_X10_addBasin.all (mv_ok (prog_1_method_2_code) "SluiceChain") = true := by decide +kernel
theorem ok_X10_setGate : t_X10_setGate.all (mv_ok (prog_1_method_3_code) "SluiceChain") = true := by decide +kernel
theorem ok_X10_setAutomatic : t_X10_setAutomatic.all (mv_ok (prog_1_method_4_code) "SluiceChain") = true := by decide +kernel
theorem ok_X10_setManual : t_X10_setManual.all (mv_ok (prog_1_method_5_code) "SluiceChain") = true := by decide +kernel
theorem ok_X10_addRain : t_X10_addRain.all (mv_ok (prog_1_method_6_code) "SluiceChain") = true := by decide +kernel
theorem ok_X10_clearForecast : t_X10_clearForecast.all (mv_ok (prog_1_method_7_code) "SluiceChain") = true := by decide +kernel
theorem ok_X10_pour : t_X10_pour.all (mv_ok (prog_1_method_8_code) "SluiceChain") = true := by decide +kernel
theorem ok_X10_advance : t_X10_advance.all (mv_ok (prog_1_method_9_code) "SluiceChain") = true := by decide +kernel
theorem ok_X10_change : t_X10_change.all (mv_ok (prog_1_method_10_code) "SluiceChain") = true := by decide +kernel
theorem ok_X10_basinCount : t_X10_basinCount.all (mv_ok (prog_1_method_11_code) "SluiceChain") = true := by decide +kernel
theorem ok_X10_capacity : t_X10_capacity.all (mv_ok (prog_1_method_12_code) "SluiceChain") = true := by decide +kernel
theorem ok_X10_level : t_X10_level.all (mv_ok (prog_1_method_13_code) "SluiceChain") = true := by decide +kernel
theorem ok_X10_catchment : t_X10_catchment.all (mv_ok (prog_1_method_14_code) "SluiceChain") = true := by decide +kernel
theorem ok_X10_fieldValue : t_X10_fieldValue.all (mv_ok (prog_1_method_15_code) "SluiceChain") = true := by decide +kernel
theorem ok_X10_opening : t_X10_opening.all (mv_ok (prog_1_method_16_code) "SluiceChain") = true := by decide +kernel
theorem ok_X10_isAutomatic : t_X10_isAutomatic.all (mv_ok (prog_1_method_17_code) "SluiceChain") = true := by decide +kernel
theorem ok_X10_threshold : t_X10_threshold.all (mv_ok (prog_1_method_18_code) "SluiceChain") = true := by decide +kernel
theorem ok_X10_spilled : t_X10_spilled.all (mv_ok (prog_1_method_19_code) "SluiceChain") = true := by decide +kernel
theorem ok_X10_floodedSteps : t_X10_floodedSteps.all (mv_ok (prog_1_method_20_code) "SluiceChain") = true := by decide +kernel
theorem ok_X10_basinAtRank : t_X10_basinAtRank.all (mv_ok (prog_1_method_21_code) "SluiceChain") = true := by decide +kernel
theorem ok_X10_time : t_X10_time.all (mv_ok (prog_1_method_22_code) "SluiceChain") = true := by decide +kernel
theorem ok_X10_forecastLength : t_X10_forecastLength.all (mv_ok (prog_1_method_23_code) "SluiceChain") = true := by decide +kernel
theorem ok_X10_rainAt : t_X10_rainAt.all (mv_ok (prog_1_method_24_code) "SluiceChain") = true := by decide +kernel
theorem ok_X10_stored : t_X10_stored.all (mv_ok (prog_1_method_25_code) "SluiceChain") = true := by decide +kernel
theorem ok_X10_storedByAccounts : t_X10_storedByAccounts.all (mv_ok (prog_1_method_26_code) "SluiceChain") = true := by decide +kernel
theorem ok_X10_riverTotal : t_X10_riverTotal.all (mv_ok (prog_1_method_27_code) "SluiceChain") = true := by decide +kernel
theorem ok_X10_meanFill : t_X10_meanFill.all (mv_ok (prog_1_method_28_code) "SluiceChain") = true := by decide +kernel
theorem ok_X10_floodShare : t_X10_floodShare.all (mv_ok (prog_1_method_29_code) "SluiceChain") = true := by decide +kernel
theorem ok_X10_levelAfter : t_X10_levelAfter.all (mv_ok (prog_1_method_30_code) "SluiceChain") = true := by decide +kernel
theorem ok_X10_spillOf : t_X10_spillOf.all (mv_ok (prog_1_method_31_code) "SluiceChain") = true := by decide +kernel
theorem ok_X10_stepsUntilFlood : t_X10_stepsUntilFlood.all (mv_ok (prog_1_method_32_code) "SluiceChain") = true := by decide +kernel
theorem ok_X10_lookAhead : t_X10_lookAhead.all (mv_ok (prog_1_method_33_code) "SluiceChain") = true := by decide +kernel
theorem ok_X10_expectedSpill : t_X10_expectedSpill.all (mv_ok (prog_1_method_34_code) "SluiceChain") = true := by decide +kernel
theorem ok_X10_leastSpill : t_X10_leastSpill.all (mv_ok (prog_1_method_35_code) "SluiceChain") = true := by decide +kernel
theorem ok_X10_leastSpillByPruning : t_X10_leastSpillByPruning.all (mv_ok (prog_1_method_36_code) "SluiceChain") = true := by decide +kernel
theorem ok_X10_bestOpening : t_X10_bestOpening.all (mv_ok (prog_1_method_37_code) "SluiceChain") = true := by decide +kernel
theorem ok_X10_endangered : t_X10_endangered.all (mv_ok (prog_1_method_38_code) "SluiceChain") = true := by decide +kernel
theorem ok_X10_bestProtection : t_X10_bestProtection.all (mv_ok (prog_1_method_39_code) "SluiceChain") = true := by decide +kernel
theorem ok_X10_bestProtectionBySets : t_X10_bestProtectionBySets.all (mv_ok (prog_1_method_40_code) "SluiceChain") = true := by decide +kernel
theorem ok_X10_bagsForAll : t_X10_bagsForAll.all (mv_ok (prog_1_method_41_code) "SluiceChain") = true := by decide +kernel
theorem ok_X10_isConsistent : t_X10_isConsistent.all (mv_ok (prog_1_method_42_code) "SluiceChain") = true := by decide +kernel
theorem ok_X10_gatherEndangered : t_X10_gatherEndangered.all (mv_ok (prog_1_method_43_code) "SluiceChain") = true := by decide +kernel
theorem ok_X10_leastSpillsAgree : t_X10_leastSpillsAgree.all (mv_ok (prog_1_method_44_code) "SluiceChain") = true := by decide +kernel
theorem ok_X10_protectionsAgree : t_X10_protectionsAgree.all (mv_ok (prog_1_method_45_code) "SluiceChain") = true := by decide +kernel
theorem ok_X10_append : t_X10_append.all (mv_ok (prog_1_method_46_code) "SluiceChain") = true := by decide +kernel
theorem ok_X10_run : t_X10_run.all (mv_ok (prog_1_method_47_code) "SluiceChain") = true := by decide +kernel
theorem ok_X10_errorPosition : t_X10_errorPosition.all (mv_ok (prog_1_method_48_code) "SluiceChain") = true := by decide +kernel
theorem ok_X10_failedCommand : t_X10_failedCommand.all (mv_ok (prog_1_method_49_code) "SluiceChain") = true := by decide +kernel
theorem ok_X10_carryOutProgram : t_X10_carryOutProgram.all (mv_ok (prog_1_method_50_code) "SluiceChain") = true := by decide +kernel
theorem ok_X10_writeChain : t_X10_writeChain.all (mv_ok (prog_1_method_51_code) "SluiceChain") = true := by decide +kernel
theorem ok_X10_writeForecast : t_X10_writeForecast.all (mv_ok (prog_1_method_52_code) "SluiceChain") = true := by decide +kernel
theorem ok_X10_outputAt : t_X10_outputAt.all (mv_ok (prog_1_method_53_code) "SluiceChain") = true := by decide +kernel
theorem ok_X10_writeBasin : t_X10_writeBasin.all (mv_ok (prog_1_method_54_code) "SluiceChain") = true := by decide +kernel
theorem ok_X10_undo : t_X10_undo.all (mv_ok (prog_1_method_55_code) "SluiceChain") = true := by decide +kernel
theorem ok_X10_save : t_X10_save.all (mv_ok (prog_1_method_56_code) "SluiceChain") = true := by decide +kernel
theorem ok_X10_restore : t_X10_restore.all (mv_ok (prog_1_method_57_code) "SluiceChain") = true := by decide +kernel
theorem ok_X10_existingBasin : t_X10_existingBasin.all (mv_ok (prog_1_method_58_code) "SluiceChain") = true := by decide +kernel
theorem ok_X10_faultOfRange : t_X10_faultOfRange.all (mv_ok (prog_1_method_59_code) "SluiceChain") = true := by decide +kernel
theorem ok_X10_throwFor : t_X10_throwFor.all (mv_ok (prog_1_method_60_code) "SluiceChain") = true := by decide +kernel
theorem ok_X11_init : t_X11_init.all (mv_ok (prog_13_method_1_code) "SluiceChainModel") = true := by decide +kernel
theorem ok_X11_thrown : t_X11_thrown.all (mv_ok (prog_13_method_2_code) "SluiceChainModel") = true := by decide +kernel
theorem ok_X11_in : t_X11_in.all (mv_ok (prog_13_method_3_code) "SluiceChainModel") = true := by decide +kernel
theorem ok_X11_copies : t_X11_copies.all (mv_ok (prog_13_method_4_code) "SluiceChainModel") = true := by decide +kernel
theorem ok_X11_begins : t_X11_begins.all (mv_ok (prog_13_method_5_code) "SluiceChainModel") = true := by decide +kernel
theorem ok_X11_ends : t_X11_ends.all (mv_ok (prog_13_method_6_code) "SluiceChainModel") = true := by decide +kernel
theorem ok_X11_isFine : t_X11_isFine.all (mv_ok (prog_13_method_7_code) "SluiceChainModel") = true := by decide +kernel
theorem ok_X11_b : t_X11_b.all (mv_ok (prog_13_method_8_code) "SluiceChainModel") = true := by decide +kernel
theorem ok_X11_set : t_X11_set.all (mv_ok (prog_13_method_9_code) "SluiceChainModel") = true := by decide +kernel
theorem ok_X11_adds : t_X11_adds.all (mv_ok (prog_13_method_10_code) "SluiceChainModel") = true := by decide +kernel
theorem ok_X11_isBasin : t_X11_isBasin.all (mv_ok (prog_13_method_11_code) "SluiceChainModel") = true := by decide +kernel
theorem ok_X11_autos : t_X11_autos.all (mv_ok (prog_13_method_12_code) "SluiceChainModel") = true := by decide +kernel
theorem ok_X11_falls : t_X11_falls.all (mv_ok (prog_13_method_13_code) "SluiceChainModel") = true := by decide +kernel
theorem ok_X11_flows : t_X11_flows.all (mv_ok (prog_13_method_14_code) "SluiceChainModel") = true := by decide +kernel
theorem ok_X11_steps : t_X11_steps.all (mv_ok (prog_13_method_15_code) "SluiceChainModel") = true := by decide +kernel
theorem ok_X11_builds : t_X11_builds.all (mv_ok (prog_13_method_16_code) "SluiceChainModel") = true := by decide +kernel
theorem ok_X11_addBasin : t_X11_addBasin.all (mv_ok (prog_13_method_17_code) "SluiceChainModel") = true := by decide +kernel
theorem ok_X11_opens : t_X11_opens.all (mv_ok (prog_13_method_18_code) "SluiceChainModel") = true := by decide +kernel
theorem ok_X11_setGate : t_X11_setGate.all (mv_ok (prog_13_method_19_code) "SluiceChainModel") = true := by decide +kernel
theorem ok_X11_guards : t_X11_guards.all (mv_ok (prog_13_method_20_code) "SluiceChainModel") = true := by decide +kernel
theorem ok_X11_setAutomatic : t_X11_setAutomatic.all (mv_ok (prog_13_method_21_code) "SluiceChainModel") = true := by decide +kernel
theorem ok_X11_frees : t_X11_frees.all (mv_ok (prog_13_method_22_code) "SluiceChainModel") = true := by decide +kernel
theorem ok_X11_setManual : t_X11_setManual.all (mv_ok (prog_13_method_23_code) "SluiceChainModel") = true := by decide +kernel
theorem ok_X11_expects : t_X11_expects.all (mv_ok (prog_13_method_24_code) "SluiceChainModel") = true := by decide +kernel
theorem ok_X11_addRain : t_X11_addRain.all (mv_ok (prog_13_method_25_code) "SluiceChainModel") = true := by decide +kernel
theorem ok_X11_clears : t_X11_clears.all (mv_ok (prog_13_method_26_code) "SluiceChainModel") = true := by decide +kernel
theorem ok_X11_clearForecast : t_X11_clearForecast.all (mv_ok (prog_13_method_27_code) "SluiceChainModel") = true := by decide +kernel
theorem ok_X11_pours : t_X11_pours.all (mv_ok (prog_13_method_28_code) "SluiceChainModel") = true := by decide +kernel
theorem ok_X11_pour : t_X11_pour.all (mv_ok (prog_13_method_29_code) "SluiceChainModel") = true := by decide +kernel
theorem ok_X11_goesOn : t_X11_goesOn.all (mv_ok (prog_13_method_30_code) "SluiceChainModel") = true := by decide +kernel
theorem ok_X11_advance : t_X11_advance.all (mv_ok (prog_13_method_31_code) "SluiceChainModel") = true := by decide +kernel
theorem ok_X11_told : t_X11_told.all (mv_ok (prog_13_method_32_code) "SluiceChainModel") = true := by decide +kernel
theorem ok_X11_basinCount : t_X11_basinCount.all (mv_ok (prog_13_method_33_code) "SluiceChainModel") = true := by decide +kernel
theorem ok_X11_ofBasin : t_X11_ofBasin.all (mv_ok (prog_13_method_34_code) "SluiceChainModel") = true := by decide +kernel
theorem ok_X11_capacity : t_X11_capacity.all (mv_ok (prog_13_method_35_code) "SluiceChainModel") = true := by decide +kernel
theorem ok_X11_level : t_X11_level.all (mv_ok (prog_13_method_36_code) "SluiceChainModel") = true := by decide +kernel
theorem ok_X11_catchment : t_X11_catchment.all (mv_ok (prog_13_method_37_code) "SluiceChainModel") = true := by decide +kernel
theorem ok_X11_fieldValue : t_X11_fieldValue.all (mv_ok (prog_13_method_38_code) "SluiceChainModel") = true := by decide +kernel
theorem ok_X11_opening : t_X11_opening.all (mv_ok (prog_13_method_39_code) "SluiceChainModel") = true := by decide +kernel
theorem ok_X11_isAutomatic : t_X11_isAutomatic.all (mv_ok (prog_13_method_40_code) "SluiceChainModel") = true := by decide +kernel
theorem ok_X11_threshold : t_X11_threshold.all (mv_ok (prog_13_method_41_code) "SluiceChainModel") = true := by decide +kernel
theorem ok_X11_spilled : t_X11_spilled.all (mv_ok (prog_13_method_42_code) "SluiceChainModel") = true := by decide +kernel
theorem ok_X11_floodedSteps : t_X11_floodedSteps.all (mv_ok (prog_13_method_43_code) "SluiceChainModel") = true := by decide +kernel
theorem ok_X11_isAhead : t_X11_isAhead.all (mv_ok (prog_13_method_44_code) "SluiceChainModel") = true := by decide +kernel
theorem ok_X11_basinAtRank : t_X11_basinAtRank.all (mv_ok (prog_13_method_45_code) "SluiceChainModel") = true := by decide +kernel
theorem ok_X11_time : t_X11_time.all (mv_ok (prog_13_method_46_code) "SluiceChainModel") = true := by decide +kernel
theorem ok_X11_forecastLength : t_X11_forecastLength.all (mv_ok (prog_13_method_47_code) "SluiceChainModel") = true := by decide +kernel
theorem ok_X11_rainAt : t_X11_rainAt.all (mv_ok (prog_13_method_48_code) "SluiceChainModel") = true := by decide +kernel
theorem ok_X11_sum : t_X11_sum.all (mv_ok (prog_13_method_49_code) "SluiceChainModel") = true := by decide +kernel
theorem ok_X11_stored : t_X11_stored.all (mv_ok (prog_13_method_50_code) "SluiceChainModel") = true := by decide +kernel
theorem ok_X11_storedByAccounts : t_X11_storedByAccounts.all (mv_ok (prog_13_method_51_code) "SluiceChainModel") = true := by decide +kernel
theorem ok_X11_riverTotal : t_X11_riverTotal.all (mv_ok (prog_13_method_52_code) "SluiceChainModel") = true := by decide +kernel
theorem ok_X11_meanFill : t_X11_meanFill.all (mv_ok (prog_13_method_53_code) "SluiceChainModel") = true := by decide +kernel
theorem ok_X11_floodShare : t_X11_floodShare.all (mv_ok (prog_13_method_54_code) "SluiceChainModel") = true := by decide +kernel
theorem ok_X11_later : t_X11_later.all (mv_ok (prog_13_method_55_code) "SluiceChainModel") = true := by decide +kernel
theorem ok_X11_spills : t_X11_spills.all (mv_ok (prog_13_method_56_code) "SluiceChainModel") = true := by decide +kernel
theorem ok_X11_isAsked : t_X11_isAsked.all (mv_ok (prog_13_method_57_code) "SluiceChainModel") = true := by decide +kernel
theorem ok_X11_levelAfter : t_X11_levelAfter.all (mv_ok (prog_13_method_58_code) "SluiceChainModel") = true := by decide +kernel
theorem ok_X11_spillOf : t_X11_spillOf.all (mv_ok (prog_13_method_59_code) "SluiceChainModel") = true := by decide +kernel
theorem ok_X11_stepsUntilFlood : t_X11_stepsUntilFlood.all (mv_ok (prog_13_method_60_code) "SluiceChainModel") = true := by decide +kernel
theorem ok_X11_plans : t_X11_plans.all (mv_ok (prog_13_method_61_code) "SluiceChainModel") = true := by decide +kernel
theorem ok_X11_isPlanned : t_X11_isPlanned.all (mv_ok (prog_13_method_62_code) "SluiceChainModel") = true := by decide +kernel
theorem ok_X11_leastSpill : t_X11_leastSpill.all (mv_ok (prog_13_method_63_code) "SluiceChainModel") = true := by decide +kernel
theorem ok_X11_leastSpillByPruning : t_X11_leastSpillByPruning.all (mv_ok (prog_13_method_64_code) "SluiceChainModel") = true := by decide +kernel
theorem ok_X11_bestOpening : t_X11_bestOpening.all (mv_ok (prog_13_method_65_code) "SluiceChainModel") = true := by decide +kernel
theorem ok_X11_isTime : t_X11_isTime.all (mv_ok (prog_13_method_66_code) "SluiceChainModel") = true := by decide +kernel
theorem ok_X11_endangered : t_X11_endangered.all (mv_ok (prog_13_method_67_code) "SluiceChainModel") = true := by decide +kernel
theorem ok_X11_bestProtection : t_X11_bestProtection.all (mv_ok (prog_13_method_68_code) "SluiceChainModel") = true := by decide +kernel
theorem ok_X11_bestProtectionBySets : t_X11_bestProtectionBySets.all (mv_ok (prog_13_method_69_code) "SluiceChainModel") = true := by decide +kernel
theorem ok_X11_bagsForAll : t_X11_bagsForAll.all (mv_ok (prog_13_method_70_code) "SluiceChainModel") = true := by decide +kernel
theorem ok_X11_isConsistent : t_X11_isConsistent.all (mv_ok (prog_13_method_71_code) "SluiceChainModel") = true := by decide +kernel
theorem ok_X11_append : t_X11_append.all (mv_ok (prog_13_method_72_code) "SluiceChainModel") = true := by decide +kernel
theorem ok_X11_sign : t_X11_sign.all (mv_ok (prog_13_method_73_code) "SluiceChainModel") = true := by decide +kernel
theorem ok_X11_needs : t_X11_needs.all (mv_ok (prog_13_method_74_code) "SluiceChainModel") = true := by decide +kernel
theorem ok_X11_letters : t_X11_letters.all (mv_ok (prog_13_method_75_code) "SluiceChainModel") = true := by decide +kernel
theorem ok_X11_number : t_X11_number.all (mv_ok (prog_13_method_76_code) "SluiceChainModel") = true := by decide +kernel
theorem ok_X11_isWord : t_X11_isWord.all (mv_ok (prog_13_method_77_code) "SluiceChainModel") = true := by decide +kernel
theorem ok_X11_command : t_X11_command.all (mv_ok (prog_13_method_78_code) "SluiceChainModel") = true := by decide +kernel
theorem ok_X11_parse : t_X11_parse.all (mv_ok (prog_13_method_79_code) "SluiceChainModel") = true := by decide +kernel
theorem ok_X11_does : t_X11_does.all (mv_ok (prog_13_method_80_code) "SluiceChainModel") = true := by decide +kernel
theorem ok_X11_run : t_X11_run.all (mv_ok (prog_13_method_81_code) "SluiceChainModel") = true := by decide +kernel
theorem ok_X11_errorPosition : t_X11_errorPosition.all (mv_ok (prog_13_method_82_code) "SluiceChainModel") = true := by decide +kernel
theorem ok_X11_failedCommand : t_X11_failedCommand.all (mv_ok (prog_13_method_83_code) "SluiceChainModel") = true := by decide +kernel
theorem ok_X11_writes : t_X11_writes.all (mv_ok (prog_13_method_84_code) "SluiceChainModel") = true := by decide +kernel
theorem ok_X11_writesNumber : t_X11_writesNumber.all (mv_ok (prog_13_method_85_code) "SluiceChainModel") = true := by decide +kernel
theorem ok_X11_writesBehind : t_X11_writesBehind.all (mv_ok (prog_13_method_86_code) "SluiceChainModel") = true := by decide +kernel
theorem ok_X11_writeChain : t_X11_writeChain.all (mv_ok (prog_13_method_87_code) "SluiceChainModel") = true := by decide +kernel
theorem ok_X11_writeForecast : t_X11_writeForecast.all (mv_ok (prog_13_method_88_code) "SluiceChainModel") = true := by decide +kernel
theorem ok_X11_outputAt : t_X11_outputAt.all (mv_ok (prog_13_method_89_code) "SluiceChainModel") = true := by decide +kernel
theorem ok_X11_undo : t_X11_undo.all (mv_ok (prog_13_method_90_code) "SluiceChainModel") = true := by decide +kernel
theorem ok_X11_save : t_X11_save.all (mv_ok (prog_13_method_91_code) "SluiceChainModel") = true := by decide +kernel
theorem ok_X11_restore : t_X11_restore.all (mv_ok (prog_13_method_92_code) "SluiceChainModel") = true := by decide +kernel
theorem ok_L_addBasin : t_L_addBasin.all (mv_ok (method_3_code) "SluiceChainLaw") = true := by decide +kernel
theorem ok_L_setGate : t_L_setGate.all (mv_ok (method_4_code) "SluiceChainLaw") = true := by decide +kernel
theorem ok_L_setAutomatic : t_L_setAutomatic.all (mv_ok (method_5_code) "SluiceChainLaw") = true := by decide +kernel
theorem ok_L_setManual : t_L_setManual.all (mv_ok (method_6_code) "SluiceChainLaw") = true := by decide +kernel
theorem ok_L_addRain : t_L_addRain.all (mv_ok (method_7_code) "SluiceChainLaw") = true := by decide +kernel
theorem ok_L_pour : t_L_pour.all (mv_ok (method_8_code) "SluiceChainLaw") = true := by decide +kernel
theorem ok_L_advance : t_L_advance.all (mv_ok (method_9_code) "SluiceChainLaw") = true := by decide +kernel
theorem ok_L_capacity : t_L_capacity.all (mv_ok (method_10_code) "SluiceChainLaw") = true := by decide +kernel
theorem ok_L_level : t_L_level.all (mv_ok (method_11_code) "SluiceChainLaw") = true := by decide +kernel
theorem ok_L_catchment : t_L_catchment.all (mv_ok (method_12_code) "SluiceChainLaw") = true := by decide +kernel
theorem ok_L_fieldValue : t_L_fieldValue.all (mv_ok (method_13_code) "SluiceChainLaw") = true := by decide +kernel
theorem ok_L_opening : t_L_opening.all (mv_ok (method_14_code) "SluiceChainLaw") = true := by decide +kernel
theorem ok_L_isAutomatic : t_L_isAutomatic.all (mv_ok (method_15_code) "SluiceChainLaw") = true := by decide +kernel
theorem ok_L_threshold : t_L_threshold.all (mv_ok (method_16_code) "SluiceChainLaw") = true := by decide +kernel
theorem ok_L_spilled : t_L_spilled.all (mv_ok (method_17_code) "SluiceChainLaw") = true := by decide +kernel
theorem ok_L_floodedSteps : t_L_floodedSteps.all (mv_ok (method_18_code) "SluiceChainLaw") = true := by decide +kernel
theorem ok_L_basinAtRank : t_L_basinAtRank.all (mv_ok (method_19_code) "SluiceChainLaw") = true := by decide +kernel
theorem ok_L_rainAt : t_L_rainAt.all (mv_ok (method_20_code) "SluiceChainLaw") = true := by decide +kernel
theorem ok_L_meanFill : t_L_meanFill.all (mv_ok (method_21_code) "SluiceChainLaw") = true := by decide +kernel
theorem ok_L_floodShare : t_L_floodShare.all (mv_ok (method_22_code) "SluiceChainLaw") = true := by decide +kernel
theorem ok_L_levelAfter : t_L_levelAfter.all (mv_ok (method_23_code) "SluiceChainLaw") = true := by decide +kernel
theorem ok_L_spillOf : t_L_spillOf.all (mv_ok (method_24_code) "SluiceChainLaw") = true := by decide +kernel
theorem ok_L_stepsUntilFlood : t_L_stepsUntilFlood.all (mv_ok (method_25_code) "SluiceChainLaw") = true := by decide +kernel
theorem ok_L_leastSpill : t_L_leastSpill.all (mv_ok (method_26_code) "SluiceChainLaw") = true := by decide +kernel
theorem ok_L_leastSpillByPruning : t_L_leastSpillByPruning.all (mv_ok (method_27_code) "SluiceChainLaw") = true := by decide +kernel
theorem ok_L_bestOpening : t_L_bestOpening.all (mv_ok (method_28_code) "SluiceChainLaw") = true := by decide +kernel
theorem ok_L_endangered : t_L_endangered.all (mv_ok (method_29_code) "SluiceChainLaw") = true := by decide +kernel
theorem ok_L_bestProtection : t_L_bestProtection.all (mv_ok (method_30_code) "SluiceChainLaw") = true := by decide +kernel
theorem ok_L_bestProtectionBySets : t_L_bestProtectionBySets.all (mv_ok (method_31_code) "SluiceChainLaw") = true := by decide +kernel
theorem ok_L_bagsForAll : t_L_bagsForAll.all (mv_ok (method_32_code) "SluiceChainLaw") = true := by decide +kernel
theorem ok_L_append : t_L_append.all (mv_ok (method_33_code) "SluiceChainLaw") = true := by decide +kernel
theorem ok_L_run : t_L_run.all (mv_ok (method_34_code) "SluiceChainLaw") = true := by decide +kernel
theorem ok_L_errorPosition : t_L_errorPosition.all (mv_ok (method_35_code) "SluiceChainLaw") = true := by decide +kernel
theorem ok_L_failedCommand : t_L_failedCommand.all (mv_ok (method_36_code) "SluiceChainLaw") = true := by decide +kernel
theorem ok_L_outputAt : t_L_outputAt.all (mv_ok (method_37_code) "SluiceChainLaw") = true := by decide +kernel
theorem ok_L_undo : t_L_undo.all (mv_ok (method_38_code) "SluiceChainLaw") = true := by decide +kernel
theorem ok_L_restore : t_L_restore.all (mv_ok (method_39_code) "SluiceChainLaw") = true := by decide +kernel
theorem ok_L_law_0 : t_L_law_0.all (mv_ok code "SluiceChainLaw") = true := by decide +kernel
theorem ok_L_law_1 : t_L_law_1.all (mv_ok code "SluiceChainLaw") = true := by decide +kernel
theorem ok_L_law_2 : t_L_law_2.all (mv_ok code "SluiceChainLaw") = true := by decide +kernel
theorem ok_L_law_3 : t_L_law_3.all (mv_ok code "SluiceChainLaw") = true := by decide +kernel
theorem ok_L_law_4 : t_L_law_4.all (mv_ok code "SluiceChainLaw") = true := by decide +kernel
theorem ok_L_law_5 : t_L_law_5.all (mv_ok code "SluiceChainLaw") = true := by decide +kernel
theorem ok_L_law_6 : t_L_law_6.all (mv_ok code "SluiceChainLaw") = true := by decide +kernel
theorem ok_L_law_7 : t_L_law_7.all (mv_ok code "SluiceChainLaw") = true := by decide +kernel
theorem ok_L_law_8 : t_L_law_8.all (mv_ok code "SluiceChainLaw") = true := by decide +kernel
theorem ok_L_law_9 : t_L_law_9.all (mv_ok code "SluiceChainLaw") = true := by decide +kernel
theorem ok_L_law_10 : t_L_law_10.all (mv_ok code "SluiceChainLaw") = true := by decide +kernel
theorem ok_L_law_11 : t_L_law_11.all (mv_ok code "SluiceChainLaw") = true := by decide +kernel
theorem ok_L_law_12 : t_L_law_12.all (mv_ok code "SluiceChainLaw") = true := by decide +kernel
theorem ok_L_law_13 : t_L_law_13.all (mv_ok code "SluiceChainLaw") = true := by decide +kernel
theorem ok_L_law_14 : t_L_law_14.all (mv_ok code "SluiceChainLaw") = true := by decide +kernel
theorem ok_L_law_15 : t_L_law_15.all (mv_ok code "SluiceChainLaw") = true := by decide +kernel
theorem ok_L_law_16 : t_L_law_16.all (mv_ok code "SluiceChainLaw") = true := by decide +kernel
theorem ok_L_law_17 : t_L_law_17.all (mv_ok code "SluiceChainLaw") = true := by decide +kernel
theorem ok_L_law_18 : t_L_law_18.all (mv_ok code "SluiceChainLaw") = true := by decide +kernel
theorem ok_L_law_19 : t_L_law_19.all (mv_ok code "SluiceChainLaw") = true := by decide +kernel
theorem ok_L_law_20 : t_L_law_20.all (mv_ok code "SluiceChainLaw") = true := by decide +kernel
theorem ok_L_law_21 : t_L_law_21.all (mv_ok code "SluiceChainLaw") = true := by decide +kernel
theorem ok_L_law_22 : t_L_law_22.all (mv_ok code "SluiceChainLaw") = true := by decide +kernel
theorem ok_L_law_23 : t_L_law_23.all (mv_ok code "SluiceChainLaw") = true := by decide +kernel
theorem ok_L_law_24 : t_L_law_24.all (mv_ok code "SluiceChainLaw") = true := by decide +kernel
