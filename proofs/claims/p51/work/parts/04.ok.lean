/-! the rows of 03.code are those of the bytecode, and each link has its word -/
abbrev mv_cls : List vw_C := [(RX1, TX1, 9), (RX2, TX2, 8), (RX5, TX5, 3), (RX6, TX6, 2), (RX7, TX7, 1), (RX8, TX8, 6), (RX9, TX9, 4), (RX10, TX10, 12)]
def mv_ft (a b : Nat) : String × String × String :=
  match mv_cls[a]? with
  | some (C, T, N) => if b < N then (C, (T b).2.1, (T b).2.2.1) else ("", "", "")
  | none => ("", "", "")
noncomputable def mv_fw (own : String) (i a b w : Nat) : Bool := match lw_tbl[w]? with
  | some (.fieldLink o j r n d) => decide (o = own) && decide (j = i) && decide ((r, n, d) = mv_ft a b)
  | some (.fieldLinkNest o j r n d _) => decide (o = own) && decide (j = i) && decide ((r, n, d) = mv_ft a b)
  | _ => false
def mv_sn (a : Nat) : String × String × String := match a with
  | 1000 => ("SluiceChain$Command", "BASIN", "LSluiceChain$Command;") | 1001 => ("SluiceChain$Command", "GATE", "LSluiceChain$Command;")
  | 1002 => ("SluiceChain$Command", "AUTO", "LSluiceChain$Command;") | 1003 => ("SluiceChain$Command", "HAND", "LSluiceChain$Command;")
  | 1004 => ("SluiceChain$Command", "RAIN", "LSluiceChain$Command;") | 1005 => ("SluiceChain$Command", "CLEAR", "LSluiceChain$Command;")
  | 1006 => ("SluiceChain$Command", "POUR", "LSluiceChain$Command;") | 1007 => ("SluiceChain$Command", "STEP", "LSluiceChain$Command;")
  | 1010 => ("SluiceChain$Fault", "NONE", "LSluiceChain$Fault;") | 1011 => ("SluiceChain$Fault", "NO_BASIN", "LSluiceChain$Fault;")
  | 1012 => ("SluiceChain$Fault", "OUT_OF_RANGE", "LSluiceChain$Fault;") | 1013 => ("SluiceChain$Fault", "WRONG_STATE", "LSluiceChain$Fault;")
  | 1021 => ("SluiceChain$1", "$SwitchMap$SluiceChain$Command", "[I")
  | _ => ("", "", "")
noncomputable def mv_sw (own : String) (i a w : Nat) : Bool := match lw_tbl[w]? with
  | some (.fieldLink o j r n d) => decide (o = own) && decide (j = i) && decide ((r, n, d) = mv_sn a)
  | _ => false
noncomputable def mv_mi (M : Nat) : mv_J := mv_ms.getD M (code, ⟨"", "", ""⟩, 0, none, 0, 0, 0, 0, 0)
def mv_nat (a : Nat) : MethodName := match a with
  | 900 => Lib.Math.min.name | 901 => Lib.Math.max.name | 902 => ⟨"SluiceChain$Command", "ordinal", "()I"⟩
  | _ => objectInit
noncomputable def mv_mw (own : String) (i a w : Nat) : Bool := match lw_tbl[w]? with
  | some (.methodLink o j y) => decide (o = own) && decide (j = i) && decide (y = if a < 900 then (mv_mi a).2.1 else mv_nat a)
  | some (.methodLinkNest o j y _) => decide (o = own) && decide (j = i) && decide (a < 900) && decide (y = (mv_mi a).2.1)
  | _ => false
noncomputable def mv_cw (own : String) (i w : Nat) (C : String) : Bool := decide (lw_tbl[w]? = some (.classLink own i C))
def mv_ky (a : Nat) : ArrayType := if a = 20 then .int else if a = 21 then .char else if a = 22 then .long else .double
noncomputable def mv_ok (bs : ByteArray) (own : String) (q : Nat × mv_I) : Bool := match q with
  | (pc, (i, nx, a, b, w)) => decide (decode bs pc = .ok (i, nx - pc)) && decide (pc ≤ nx) && match i with
    | .goto off => decide ((pc : Int) + off = (a : Int))
    | .if_icmp _ off => decide ((pc : Int) + off = (a : Int))
    | .ifCond _ off => decide ((pc : Int) + off = (a : Int))
    | .if_acmp _ off => decide ((pc : Int) + off = (a : Int))
    | .ifnonnull off => decide ((pc : Int) + off = (a : Int))
    | .tableswitch _ _ _ _ => decide (a = pc)
    | .getfield k => mv_fw own k a b w
    | .putfield k => mv_fw own k a b w
    | .getstatic k => mv_sw own k a w
    | .invokevirtual k => decide (a = 998) || mv_mw own k a w
    | .invokestatic k => mv_mw own k a w
    | .invokespecial k => decide (a = 999) || mv_mw own k a w
    | .new k => decide (a = 99) || decide (a = 98) || (match mv_cls[a]? with | some (C, _, _) => mv_cw own k w C | none => false)
    | .newarray t => decide (t = mv_ky a)
    | .anewarray k => mv_cw own k w (if a = 24 then "SluiceChain$Basin" else "SluiceChain$Chain")
    | .ldc k => decide (a = 0) || decide (lw_tbl[w]? = some (.constant own k (Int32.ofNat b)))
    | _ => true
noncomputable def mv_okM (M : Nat) : Bool := (mv_tb M).all (mv_ok (mv_mi M).1 (mv_mi M).2.1.cls)
theorem ok_X1_init : t_X1_init.all (mv_ok (prog_3_method_1_code) "SluiceChain$Basin") = true := by decide +kernel
theorem ok_X1_begin : t_X1_begin.all (mv_ok (prog_3_method_2_code) "SluiceChain$Basin") = true := by decide +kernel
theorem ok_X1_copyFrom : t_X1_copyFrom.all (mv_ok (prog_3_method_3_code) "SluiceChain$Basin") = true := by decide +kernel
theorem ok_X1_moveAutomaticGate : t_X1_moveAutomaticGate.all (mv_ok (prog_3_method_4_code) "SluiceChain$Basin") = true := by decide +kernel
theorem ok_X1_letOut : t_X1_letOut.all (mv_ok (prog_3_method_5_code) "SluiceChain$Basin") = true := by decide +kernel
theorem ok_X1_spillOver : t_X1_spillOver.all (mv_ok (prog_3_method_6_code) "SluiceChain$Basin") = true := by decide +kernel
theorem ok_X2_init : t_X2_init.all (mv_ok (prog_4_method_1_code) "SluiceChain$Chain") = true := by decide +kernel
theorem ok_X2_copyFrom : t_X2_copyFrom.all (mv_ok (prog_4_method_2_code) "SluiceChain$Chain") = true := by decide +kernel
theorem ok_X2_copyWithOpening : t_X2_copyWithOpening.all (mv_ok (prog_4_method_3_code) "SluiceChain$Chain") = true := by decide +kernel
theorem ok_X2_hasBasin : t_X2_hasBasin.all (mv_ok (prog_4_method_4_code) "SluiceChain$Chain") = true := by decide +kernel
theorem ok_X2_faultOf : t_X2_faultOf.all (mv_ok (prog_4_method_5_code) "SluiceChain$Chain") = true := by decide +kernel
theorem ok_X2_faultOfNewBasin : t_X2_faultOfNewBasin.all (mv_ok (prog_4_method_6_code) "SluiceChain$Chain") = true := by decide +kernel
theorem ok_X2_faultAtBasin : t_X2_faultAtBasin.all (mv_ok (prog_4_method_7_code) "SluiceChain$Chain") = true := by decide +kernel
theorem ok_X2_faultOfGate : t_X2_faultOfGate.all (mv_ok (prog_4_method_8_code) "SluiceChain$Chain") = true := by decide +kernel
theorem ok_X2_faultOfHand : t_X2_faultOfHand.all (mv_ok (prog_4_method_9_code) "SluiceChain$Chain") = true := by decide +kernel
theorem ok_X2_faultOfRain : t_X2_faultOfRain.all (mv_ok (prog_4_method_10_code) "SluiceChain$Chain") = true := by decide +kernel
theorem ok_X2_faultOfPour : t_X2_faultOfPour.all (mv_ok (prog_4_method_11_code) "SluiceChain$Chain") = true := by decide +kernel
theorem ok_X2_faultOfPrediction : t_X2_faultOfPrediction.all (mv_ok (prog_4_method_12_code) "SluiceChain$Chain") = true := by decide +kernel
theorem ok_X2_faultOfPlan : t_X2_faultOfPlan.all (mv_ok (prog_4_method_13_code) "SluiceChain$Chain") = true := by decide +kernel
theorem ok_X2_carryOut : t_X2_carryOut.all (mv_ok (prog_4_method_14_code) "SluiceChain$Chain") = true := by decide +kernel
theorem ok_X2_useNextBasin : t_X2_useNextBasin.all (mv_ok (prog_4_method_15_code) "SluiceChain$Chain") = true := by decide +kernel
theorem ok_X2_turnGate : t_X2_turnGate.all (mv_ok (prog_4_method_16_code) "SluiceChain$Chain") = true := by decide +kernel
theorem ok_X2_makeAutomatic : t_X2_makeAutomatic.all (mv_ok (prog_4_method_17_code) "SluiceChain$Chain") = true := by decide +kernel
theorem ok_X2_makeManual : t_X2_makeManual.all (mv_ok (prog_4_method_18_code) "SluiceChain$Chain") = true := by decide +kernel
theorem ok_X2_countAutomatic : t_X2_countAutomatic.all (mv_ok (prog_4_method_19_code) "SluiceChain$Chain") = true := by decide +kernel
theorem ok_X2_expectRain : t_X2_expectRain.all (mv_ok (prog_4_method_20_code) "SluiceChain$Chain") = true := by decide +kernel
theorem ok_X2_dropForecast : t_X2_dropForecast.all (mv_ok (prog_4_method_21_code) "SluiceChain$Chain") = true := by decide +kernel
theorem ok_X2_pourInto : t_X2_pourInto.all (mv_ok (prog_4_method_22_code) "SluiceChain$Chain") = true := by decide +kernel
theorem ok_X2_passSteps : t_X2_passSteps.all (mv_ok (prog_4_method_23_code) "SluiceChain$Chain") = true := by decide +kernel
theorem ok_X2_passStep : t_X2_passStep.all (mv_ok (prog_4_method_24_code) "SluiceChain$Chain") = true := by decide +kernel
theorem ok_X2_takeRain : t_X2_takeRain.all (mv_ok (prog_4_method_25_code) "SluiceChain$Chain") = true := by decide +kernel
theorem ok_X2_rainDown : t_X2_rainDown.all (mv_ok (prog_4_method_26_code) "SluiceChain$Chain") = true := by decide +kernel
theorem ok_X2_flowDown : t_X2_flowDown.all (mv_ok (prog_4_method_27_code) "SluiceChain$Chain") = true := by decide +kernel
theorem ok_X2_rankOf : t_X2_rankOf.all (mv_ok (prog_4_method_28_code) "SluiceChain$Chain") = true := by decide +kernel
theorem ok_X2_isRankedBefore : t_X2_isRankedBefore.all (mv_ok (prog_4_method_29_code) "SluiceChain$Chain") = true := by decide +kernel
theorem ok_X2_levelsFit : t_X2_levelsFit.all (mv_ok (prog_4_method_30_code) "SluiceChain$Chain") = true := by decide +kernel
theorem ok_X2_sumOfLevels : t_X2_sumOfLevels.all (mv_ok (prog_4_method_31_code) "SluiceChain$Chain") = true := by decide +kernel
theorem ok_X2_balanceOfAccounts : t_X2_balanceOfAccounts.all (mv_ok (prog_4_method_32_code) "SluiceChain$Chain") = true := by decide +kernel
theorem ok_X2_sumOfFloodedSteps : t_X2_sumOfFloodedSteps.all (mv_ok (prog_4_method_33_code) "SluiceChain$Chain") = true := by decide +kernel
theorem ok_X5_init : t_X5_init.all (mv_ok (prog_7_method_1_code) "SluiceChain$History") = true := by decide +kernel
theorem ok_X5_remember : t_X5_remember.all (mv_ok (prog_7_method_2_code) "SluiceChain$History") = true := by decide +kernel
theorem ok_X6_init : t_X6_init.all (mv_ok (prog_8_method_1_code) "SluiceChain$Line") = true := by decide +kernel
theorem ok_X6_put : t_X6_put.all (mv_ok (prog_8_method_2_code) "SluiceChain$Line") = true := by decide +kernel
theorem ok_X6_putNumber : t_X6_putNumber.all (mv_ok (prog_8_method_3_code) "SluiceChain$Line") = true := by decide +kernel
theorem ok_X6_putDigit : t_X6_putDigit.all (mv_ok (prog_8_method_4_code) "SluiceChain$Line") = true := by decide +kernel
theorem ok_X7_init : t_X7_init.all (mv_ok (prog_9_method_1_code) "SluiceChain$PlanSearch") = true := by decide +kernel
theorem ok_X7_leastOfAll : t_X7_leastOfAll.all (mv_ok (prog_9_method_2_code) "SluiceChain$PlanSearch") = true := by decide +kernel
theorem ok_X7_leastByCutting : t_X7_leastByCutting.all (mv_ok (prog_9_method_3_code) "SluiceChain$PlanSearch") = true := by decide +kernel
theorem ok_X7_lowestFirstOpening : t_X7_lowestFirstOpening.all (mv_ok (prog_9_method_4_code) "SluiceChain$PlanSearch") = true := by decide +kernel
theorem ok_X7_leastFrom : t_X7_leastFrom.all (mv_ok (prog_9_method_5_code) "SluiceChain$PlanSearch") = true := by decide +kernel
theorem ok_X7_leastBelow : t_X7_leastBelow.all (mv_ok (prog_9_method_6_code) "SluiceChain$PlanSearch") = true := by decide +kernel
theorem ok_X8_init : t_X8_init.all (mv_ok (prog_10_method_1_code) "SluiceChain$Program") = true := by decide +kernel
theorem ok_X9_init : t_X9_init.all (mv_ok (prog_11_method_1_code) "SluiceChain$Protection") = true := by decide +kernel
theorem ok_X9_include : t_X9_include.all (mv_ok (prog_11_method_2_code) "SluiceChain$Protection") = true := by decide +kernel
theorem ok_X9_sumOfBags : t_X9_sumOfBags.all (mv_ok (prog_11_method_3_code) "SluiceChain$Protection") = true := by decide +kernel
theorem ok_X9_bestByTable : t_X9_bestByTable.all (mv_ok (prog_11_method_4_code) "SluiceChain$Protection") = true := by decide +kernel
theorem ok_X9_improveTable : t_X9_improveTable.all (mv_ok (prog_11_method_5_code) "SluiceChain$Protection") = true := by decide +kernel
theorem ok_X9_bestBySets : t_X9_bestBySets.all (mv_ok (prog_11_method_6_code) "SluiceChain$Protection") = true := by decide +kernel
theorem ok_X9_bagsOfSet : t_X9_bagsOfSet.all (mv_ok (prog_11_method_7_code) "SluiceChain$Protection") = true := by decide +kernel
theorem ok_X9_valueOfSet : t_X9_valueOfSet.all (mv_ok (prog_11_method_8_code) "SluiceChain$Protection") = true := by decide +kernel
theorem ok_X10_init : t_X10_init.all (mv_ok (prog_1_method_1_code) "SluiceChain") = true := by decide +kernel
theorem ok_X10_addBasin : t_X10_addBasin.all (mv_ok (prog_1_method_2_code) "SluiceChain") = true := by decide +kernel
theorem ok_X10_setGate : t_X10_setGate.all (mv_ok (prog_1_method_3_code) "SluiceChain") = true := by decide +kernel
theorem ok_X10_setAutomatic : t_X10_setAutomatic.all (mv_ok (prog_1_method_4_code) "SluiceChain") = true := by decide +kernel
theorem ok_X10_setManual : t_X10_setManual.all (mv_ok (prog_1_method_5_code) "SluiceChain") = true := by decide +kernel
theorem ok_X10_addRain : t_X10_addRain.all (mv_ok (prog_1_method_6_code) "SluiceChain") = true := by decide +kernel
theorem ok_X10_clearForecast : t_X10_clearForecast.all (mv_ok (prog_1_method_7_code) "SluiceChain") = true := by decide +kernel
theorem ok_X10_pour : t_X10_pour.all (mv_ok (prog_1_method_8_code) "SluiceChain") = true := by decide +kernel
theorem ok_X10_advance : t_X10_advance.all (mv_ok (prog_1_method_9_code) "SluiceChain") = true := by decide +kernel
theorem ok_X10_change : t_X10_change.all (mv_ok (prog_1_method_10_code) "SluiceChain") = true := by decide +kernel
theorem ok_X10_basinCount : t_X10_basinCount.all (mv_ok (prog_1_method_11_code) "SluiceChain") = true := by decide +kernel
theorem ok_X10_capacity : t_X10_capacity.all (mv_ok (prog_1_method_12_code) "SluiceChain") = true := by decide +kernel
theorem ok_X10_level : t_X10_level.all (mv_ok (prog_1_method_13_code) "SluiceChain") = true := by decide +kernel
theorem ok_X10_fieldValue : t_X10_fieldValue.all (mv_ok (prog_1_method_15_code) "SluiceChain") = true := by decide +kernel
theorem ok_X10_opening : t_X10_opening.all (mv_ok (prog_1_method_16_code) "SluiceChain") = true := by decide +kernel
theorem ok_X10_isAutomatic : t_X10_isAutomatic.all (mv_ok (prog_1_method_17_code) "SluiceChain") = true := by decide +kernel
theorem ok_X10_threshold : t_X10_threshold.all (mv_ok (prog_1_method_18_code) "SluiceChain") = true := by decide +kernel
theorem ok_X10_spilled : t_X10_spilled.all (mv_ok (prog_1_method_19_code) "SluiceChain") = true := by decide +kernel
theorem ok_X10_floodedSteps : t_X10_floodedSteps.all (mv_ok (prog_1_method_20_code) "SluiceChain") = true := by decide +kernel
theorem ok_X10_basinAtRank : t_X10_basinAtRank.all (mv_ok (prog_1_method_21_code) "SluiceChain") = true := by decide +kernel
theorem ok_X10_time : t_X10_time.all (mv_ok (prog_1_method_22_code) "SluiceChain") = true := by decide +kernel
theorem ok_X10_forecastLength : t_X10_forecastLength.all (mv_ok (prog_1_method_23_code) "SluiceChain") = true := by decide +kernel
theorem ok_X10_rainAt : t_X10_rainAt.all (mv_ok (prog_1_method_24_code) "SluiceChain") = true := by decide +kernel
theorem ok_X10_stored : t_X10_stored.all (mv_ok (prog_1_method_25_code) "SluiceChain") = true := by decide +kernel
theorem ok_X10_storedByAccounts : t_X10_storedByAccounts.all (mv_ok (prog_1_method_26_code) "SluiceChain") = true := by decide +kernel
theorem ok_X10_riverTotal : t_X10_riverTotal.all (mv_ok (prog_1_method_27_code) "SluiceChain") = true := by decide +kernel
theorem ok_X10_meanFill : t_X10_meanFill.all (mv_ok (prog_1_method_28_code) "SluiceChain") = true := by decide +kernel
theorem ok_X10_floodShare : t_X10_floodShare.all (mv_ok (prog_1_method_29_code) "SluiceChain") = true := by decide +kernel
theorem ok_X10_levelAfter : t_X10_levelAfter.all (mv_ok (prog_1_method_30_code) "SluiceChain") = true := by decide +kernel
theorem ok_X10_spillOf : t_X10_spillOf.all (mv_ok (prog_1_method_31_code) "SluiceChain") = true := by decide +kernel
theorem ok_X10_stepsUntilFlood : t_X10_stepsUntilFlood.all (mv_ok (prog_1_method_32_code) "SluiceChain") = true := by decide +kernel
theorem ok_X10_lookAhead : t_X10_lookAhead.all (mv_ok (prog_1_method_33_code) "SluiceChain") = true := by decide +kernel
theorem ok_X10_expectedSpill : t_X10_expectedSpill.all (mv_ok (prog_1_method_34_code) "SluiceChain") = true := by decide +kernel
theorem ok_X10_leastSpill : t_X10_leastSpill.all (mv_ok (prog_1_method_35_code) "SluiceChain") = true := by decide +kernel
theorem ok_X10_leastSpillByPruning : t_X10_leastSpillByPruning.all (mv_ok (prog_1_method_36_code) "SluiceChain") = true := by decide +kernel
theorem ok_X10_bestOpening : t_X10_bestOpening.all (mv_ok (prog_1_method_37_code) "SluiceChain") = true := by decide +kernel
theorem ok_X10_endangered : t_X10_endangered.all (mv_ok (prog_1_method_38_code) "SluiceChain") = true := by decide +kernel
theorem ok_X10_bestProtection : t_X10_bestProtection.all (mv_ok (prog_1_method_39_code) "SluiceChain") = true := by decide +kernel
theorem ok_X10_bestProtectionBySets : t_X10_bestProtectionBySets.all (mv_ok (prog_1_method_40_code) "SluiceChain") = true := by decide +kernel
theorem ok_X10_bagsForAll : t_X10_bagsForAll.all (mv_ok (prog_1_method_41_code) "SluiceChain") = true := by decide +kernel
theorem ok_X10_isConsistent : t_X10_isConsistent.all (mv_ok (prog_1_method_42_code) "SluiceChain") = true := by decide +kernel
theorem ok_X10_gatherEndangered : t_X10_gatherEndangered.all (mv_ok (prog_1_method_43_code) "SluiceChain") = true := by decide +kernel
theorem ok_X10_leastSpillsAgree : t_X10_leastSpillsAgree.all (mv_ok (prog_1_method_44_code) "SluiceChain") = true := by decide +kernel
theorem ok_X10_protectionsAgree : t_X10_protectionsAgree.all (mv_ok (prog_1_method_45_code) "SluiceChain") = true := by decide +kernel
theorem ok_X10_writeChain : t_X10_writeChain.all (mv_ok (prog_1_method_51_code) "SluiceChain") = true := by decide +kernel
theorem ok_X10_writeForecast : t_X10_writeForecast.all (mv_ok (prog_1_method_52_code) "SluiceChain") = true := by decide +kernel
theorem ok_X10_outputAt : t_X10_outputAt.all (mv_ok (prog_1_method_53_code) "SluiceChain") = true := by decide +kernel
theorem ok_X10_writeBasin : t_X10_writeBasin.all (mv_ok (prog_1_method_54_code) "SluiceChain") = true := by decide +kernel
theorem ok_X10_existingBasin : t_X10_existingBasin.all (mv_ok (prog_1_method_58_code) "SluiceChain") = true := by decide +kernel
theorem ok_X10_faultOfRange : t_X10_faultOfRange.all (mv_ok (prog_1_method_59_code) "SluiceChain") = true := by decide +kernel
theorem ok_X10_throwFor : t_X10_throwFor.all (mv_ok (prog_1_method_60_code) "SluiceChain") = true := by decide +kernel
theorem ok_L_cell : t_L_cell.all (mv_ok (method_2_code) "SluiceChainLaw") = true := by decide +kernel
theorem ok_L_some : t_L_some.all (mv_ok (method_3_code) "SluiceChainLaw") = true := by decide +kernel
theorem ok_L_addBasin : t_L_addBasin.all (mv_ok (method_4_code) "SluiceChainLaw") = true := by decide +kernel
theorem ok_L_setGate : t_L_setGate.all (mv_ok (method_5_code) "SluiceChainLaw") = true := by decide +kernel
theorem ok_L_setAutomatic : t_L_setAutomatic.all (mv_ok (method_6_code) "SluiceChainLaw") = true := by decide +kernel
theorem ok_L_setManual : t_L_setManual.all (mv_ok (method_7_code) "SluiceChainLaw") = true := by decide +kernel
theorem ok_L_addRain : t_L_addRain.all (mv_ok (method_8_code) "SluiceChainLaw") = true := by decide +kernel
theorem ok_L_pour : t_L_pour.all (mv_ok (method_9_code) "SluiceChainLaw") = true := by decide +kernel
theorem ok_L_advance : t_L_advance.all (mv_ok (method_10_code) "SluiceChainLaw") = true := by decide +kernel
theorem ok_L_threshold : t_L_threshold.all (mv_ok (method_11_code) "SluiceChainLaw") = true := by decide +kernel
theorem ok_L_basinAtRank : t_L_basinAtRank.all (mv_ok (method_12_code) "SluiceChainLaw") = true := by decide +kernel
theorem ok_L_rainAt : t_L_rainAt.all (mv_ok (method_13_code) "SluiceChainLaw") = true := by decide +kernel
theorem ok_L_stepsUntilFlood : t_L_stepsUntilFlood.all (mv_ok (method_14_code) "SluiceChainLaw") = true := by decide +kernel
theorem ok_L_build : t_L_build.all (mv_ok (method_15_code) "SluiceChainLaw") = true := by decide +kernel
theorem ok_L_acts : t_L_acts.all (mv_ok (method_16_code) "SluiceChainLaw") = true := by decide +kernel
theorem ok_L_isLine : t_L_isLine.all (mv_ok (method_17_code) "SluiceChainLaw") = true := by decide +kernel
theorem ok_L_law_0 : t_L_law_0.all (mv_ok code "SluiceChainLaw") = true := by decide +kernel
theorem ok_L_law_1 : t_L_law_1.all (mv_ok code "SluiceChainLaw") = true := by decide +kernel
theorem ok_L_law_2 : t_L_law_2.all (mv_ok code "SluiceChainLaw") = true := by decide +kernel
theorem ok_L_law_3 : t_L_law_3.all (mv_ok code "SluiceChainLaw") = true := by decide +kernel
theorem ok_L_law_4 : t_L_law_4.all (mv_ok code "SluiceChainLaw") = true := by decide +kernel
theorem ok_L_law_5 : t_L_law_5.all (mv_ok code "SluiceChainLaw") = true := by decide +kernel
theorem ok_L_law_6 : t_L_law_6.all (mv_ok code "SluiceChainLaw") = true := by decide +kernel
theorem ok_L_law_7 : t_L_law_7.all (mv_ok code "SluiceChainLaw") = true := by decide +kernel
theorem ok_L_law_8 : t_L_law_8.all (mv_ok code "SluiceChainLaw") = true := by decide +kernel
