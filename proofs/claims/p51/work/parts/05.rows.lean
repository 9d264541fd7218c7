/-! each row of each method: decoded so, of that length, its links by their words; the classes of the methods -/
def mv_w : Instr → Nat
  | .bipush _ => 2 | .sipush _ => 3 | .ldc _ => 2 | .ldc_w _ => 3 | .iload _ => 2 | .fload _ => 2 | .dload _ => 2 | .aload _ => 2 | .istore _ => 2 | .fstore _ => 2 | .dstore _ => 2 | .astore _ => 2
  | .iinc _ _ => 3 | .goto _ => 3 | .if_icmp _ _ => 3 | .ifCond _ _ => 3 | .if_acmp _ _ => 3 | .ifnonnull _ => 3 | .getfield _ => 3 | .putfield _ => 3 | .getstatic _ => 3
  | .invokevirtual _ => 3 | .invokestatic _ => 3 | .invokespecial _ => 3 | .new _ => 3 | .newarray _ => 2 | .anewarray _ => 3 | .tableswitch _ _ _ _ => 0 | _ => 1
def mv_lok (q : Nat × mv_I) : Bool := decide (mv_w q.2.1 = 0) || decide (q.2.2.1 = q.1 + mv_w q.2.1)
noncomputable def mv_all : List (List (Nat × mv_I)) → List mv_J → Prop
  | t :: ts, j :: js => (t.all (mv_ok j.1 j.2.1.cls) = true ∧ t.all mv_lok = true) ∧ mv_all ts js
  | [], [] => True
  | _, _ => False
theorem mv_all_app : ∀ {a : List (List (Nat × mv_I))} {b : List mv_J} {c : List (List (Nat × mv_I))} {d : List mv_J}, mv_all a b → mv_all c d → mv_all (a ++ c) (b ++ d)
  | [], [], _, _, _, h => h
  | [], _ :: _, _, _, h, _ => h.elim
  | _ :: _, [], _, _, h, _ => h.elim
  | _ :: _, _ :: _, _, _, h, h' => ⟨h.1, mv_all_app h.2 h'⟩
theorem ol_X1_init : t_X1_init.all mv_lok = true := by decide +kernel
theorem ol_X1_begin : t_X1_begin.all mv_lok = true := by decide +kernel
theorem ol_X1_copyFrom : t_X1_copyFrom.all mv_lok = true := by decide +kernel
theorem ol_X1_moveAutomaticGate : t_X1_moveAutomaticGate.all mv_lok = true := by decide +kernel
theorem ol_X1_letOut : t_X1_letOut.all mv_lok = true := by decide +kernel
theorem ol_X1_spillOver : t_X1_spillOver.all mv_lok = true := by decide +kernel
theorem ol_X2_init : t_X2_init.all mv_lok = true := by decide +kernel
theorem ol_X2_copyFrom : t_X2_copyFrom.all mv_lok = true := by decide +kernel
theorem ol_X2_copyWithOpening : t_X2_copyWithOpening.all mv_lok = true := by decide +kernel
theorem ol_X2_hasBasin : t_X2_hasBasin.all mv_lok = true := by decide +kernel
theorem ol_X2_faultOf : t_X2_faultOf.all mv_lok = true := by decide +kernel
theorem ol_X2_faultOfNewBasin : t_X2_faultOfNewBasin.all mv_lok = true := by decide +kernel
theorem ol_X2_faultAtBasin : t_X2_faultAtBasin.all mv_lok = true := by decide +kernel
theorem ol_X2_faultOfGate : t_X2_faultOfGate.all mv_lok = true := by decide +kernel
theorem ol_X2_faultOfHand : t_X2_faultOfHand.all mv_lok = true := by decide +kernel
theorem ol_X2_faultOfRain : t_X2_faultOfRain.all mv_lok = true := by decide +kernel
theorem ol_X2_faultOfPour : t_X2_faultOfPour.all mv_lok = true := by decide +kernel
theorem ol_X2_faultOfPrediction : t_X2_faultOfPrediction.all mv_lok = true := by decide +kernel
theorem ol_X2_faultOfPlan : t_X2_faultOfPlan.all mv_lok = true := by decide +kernel
theorem ol_X2_carryOut : t_X2_carryOut.all mv_lok = true := by decide +kernel
theorem ol_X2_useNextBasin : t_X2_useNextBasin.all mv_lok = true := by decide +kernel
theorem ol_X2_turnGate : t_X2_turnGate.all mv_lok = true := by decide +kernel
theorem ol_X2_makeAutomatic : t_X2_makeAutomatic.all mv_lok = true := by decide +kernel
theorem ol_X2_makeManual : t_X2_makeManual.all mv_lok = true := by decide +kernel
theorem ol_X2_countAutomatic : t_X2_countAutomatic.all mv_lok = true := by decide +kernel
theorem ol_X2_expectRain : t_X2_expectRain.all mv_lok = true := by decide +kernel
theorem ol_X2_dropForecast : t_X2_dropForecast.all mv_lok = true := by decide +kernel
theorem ol_X2_pourInto : t_X2_pourInto.all mv_lok = true := by decide +kernel
theorem ol_X2_passSteps : t_X2_passSteps.all mv_lok = true := by decide +kernel
theorem ol_X2_passStep : t_X2_passStep.all mv_lok = true := by decide +kernel
theorem ol_X2_takeRain : t_X2_takeRain.all mv_lok = true := by decide +kernel
theorem ol_X2_rainDown : t_X2_rainDown.all mv_lok = true := by decide +kernel
theorem ol_X2_flowDown : t_X2_flowDown.all mv_lok = true := by decide +kernel
theorem ol_X2_rankOf : t_X2_rankOf.all mv_lok = true := by decide +kernel
theorem ol_X2_isRankedBefore : t_X2_isRankedBefore.all mv_lok = true := by decide +kernel
theorem ol_X2_levelsFit : t_X2_levelsFit.all mv_lok = true := by decide +kernel
theorem ol_X2_sumOfLevels : t_X2_sumOfLevels.all mv_lok = true := by decide +kernel
theorem ol_X2_balanceOfAccounts : t_X2_balanceOfAccounts.all mv_lok = true := by decide +kernel
theorem ol_X2_sumOfFloodedSteps : t_X2_sumOfFloodedSteps.all mv_lok = true := by decide +kernel
theorem ol_X5_init : t_X5_init.all mv_lok = true := by decide +kernel
theorem ol_X5_remember : t_X5_remember.all mv_lok = true := by decide +kernel
theorem ol_X6_init : t_X6_init.all mv_lok = true := by decide +kernel
theorem ol_X6_put : t_X6_put.all mv_lok = true := by decide +kernel
theorem ol_X6_putNumber : t_X6_putNumber.all mv_lok = true := by decide +kernel
theorem ol_X6_putDigit : t_X6_putDigit.all mv_lok = true := by decide +kernel
theorem ol_X7_init : t_X7_init.all mv_lok = true := by decide +kernel
theorem ol_X7_leastOfAll : t_X7_leastOfAll.all mv_lok = true := by decide +kernel
theorem ol_X7_leastByCutting : t_X7_leastByCutting.all mv_lok = true := by decide +kernel
theorem ol_X7_lowestFirstOpening : t_X7_lowestFirstOpening.all mv_lok = true := by decide +kernel
theorem ol_X7_leastFrom : t_X7_leastFrom.all mv_lok = true := by decide +kernel
theorem ol_X7_leastBelow : t_X7_leastBelow.all mv_lok = true := by decide +kernel
theorem ol_X8_init : t_X8_init.all mv_lok = true := by decide +kernel
theorem ol_X9_init : t_X9_init.all mv_lok = true := by decide +kernel
theorem ol_X9_include : t_X9_include.all mv_lok = true := by decide +kernel
theorem ol_X9_sumOfBags : t_X9_sumOfBags.all mv_lok = true := by decide +kernel
theorem ol_X9_bestByTable : t_X9_bestByTable.all mv_lok = true := by decide +kernel
theorem ol_X9_improveTable : t_X9_improveTable.all mv_lok = true := by decide +kernel
theorem ol_X9_bestBySets : t_X9_bestBySets.all mv_lok = true := by decide +kernel
theorem ol_X9_bagsOfSet : t_X9_bagsOfSet.all mv_lok = true := by decide +kernel
theorem ol_X9_valueOfSet : t_X9_valueOfSet.all mv_lok = true := by decide +kernel
theorem ol_X10_init : t_X10_init.all mv_lok = true := by decide +kernel
theorem ol_X10_addBasin : t_X10_addBasin.all mv_lok = true := by decide +kernel
theorem ol_X10_setGate : t_X10_setGate.all mv_lok = true := by decide +kernel
theorem ol_X10_setAutomatic : t_X10_setAutomatic.all mv_lok = true := by decide +kernel
theorem ol_X10_setManual : t_X10_setManual.all mv_lok = true := by decide +kernel
theorem ol_X10_addRain : t_X10_addRain.all mv_lok = true := by decide +kernel
theorem ol_X10_clearForecast : t_X10_clearForecast.all mv_lok = true := by decide +kernel
theorem ol_X10_pour : t_X10_pour.all mv_lok = true := by decide +kernel
theorem ol_X10_advance : t_X10_advance.all mv_lok = true := by decide +kernel
theorem ol_X10_change : t_X10_change.all mv_lok = true := by decide +kernel
theorem ol_X10_basinCount : t_X10_basinCount.all mv_lok = true := by decide +kernel
theorem ol_X10_capacity : t_X10_capacity.all mv_lok = true := by decide +kernel
theorem ol_X10_level : t_X10_level.all mv_lok = true := by decide +kernel
theorem ol_X10_fieldValue : t_X10_fieldValue.all mv_lok = true := by decide +kernel
theorem ol_X10_opening : t_X10_opening.all mv_lok = true := by decide +kernel
theorem ol_X10_isAutomatic : t_X10_isAutomatic.all mv_lok = true := by decide +kernel
theorem ol_X10_threshold : t_X10_threshold.all mv_lok = true := by decide +kernel
theorem ol_X10_spilled : t_X10_spilled.all mv_lok = true := by decide +kernel
theorem ol_X10_floodedSteps : t_X10_floodedSteps.all mv_lok = true := by decide +kernel
theorem ol_X10_basinAtRank : t_X10_basinAtRank.all mv_lok = true := by decide +kernel
theorem ol_X10_time : t_X10_time.all mv_lok = true := by decide +kernel
theorem ol_X10_forecastLength : t_X10_forecastLength.all mv_lok = true := by decide +kernel
theorem ol_X10_rainAt : t_X10_rainAt.all mv_lok = true := by decide +kernel
theorem ol_X10_stored : t_X10_stored.all mv_lok = true := by decide +kernel
theorem ol_X10_storedByAccounts : t_X10_storedByAccounts.all mv_lok = true := by decide +kernel
theorem ol_X10_riverTotal : t_X10_riverTotal.all mv_lok = true := by decide +kernel
theorem ol_X10_meanFill : t_X10_meanFill.all mv_lok = true := by decide +kernel
theorem ol_X10_floodShare : t_X10_floodShare.all mv_lok = true := by decide +kernel
theorem ol_X10_levelAfter : t_X10_levelAfter.all mv_lok = true := by decide +kernel
theorem ol_X10_spillOf : t_X10_spillOf.all mv_lok = true := by decide +kernel
theorem ol_X10_stepsUntilFlood : t_X10_stepsUntilFlood.all mv_lok = true := by decide +kernel
theorem ol_X10_lookAhead : t_X10_lookAhead.all mv_lok = true := by decide +kernel
theorem ol_X10_expectedSpill : t_X10_expectedSpill.all mv_lok = true := by decide +kernel
theorem ol_X10_leastSpill : t_X10_leastSpill.all mv_lok = true := by decide +kernel
theorem ol_X10_leastSpillByPruning : t_X10_leastSpillByPruning.all mv_lok = true := by decide +kernel
theorem ol_X10_bestOpening : t_X10_bestOpening.all mv_lok = true := by decide +kernel
theorem ol_X10_endangered : t_X10_endangered.all mv_lok = true := by decide +kernel
theorem ol_X10_bestProtection : t_X10_bestProtection.all mv_lok = true := by decide +kernel
theorem ol_X10_bestProtectionBySets : t_X10_bestProtectionBySets.all mv_lok = true := by decide +kernel
theorem ol_X10_bagsForAll : t_X10_bagsForAll.all mv_lok = true := by decide +kernel
theorem ol_X10_isConsistent : t_X10_isConsistent.all mv_lok = true := by decide +kernel
theorem ol_X10_gatherEndangered : t_X10_gatherEndangered.all mv_lok = true := by decide +kernel
theorem ol_X10_leastSpillsAgree : t_X10_leastSpillsAgree.all mv_lok = true := by decide +kernel
theorem ol_X10_protectionsAgree : t_X10_protectionsAgree.all mv_lok = true := by decide +kernel
theorem ol_X10_writeChain : t_X10_writeChain.all mv_lok = true := by decide +kernel
theorem ol_X10_writeForecast : t_X10_writeForecast.all mv_lok = true := by decide +kernel
theorem ol_X10_outputAt : t_X10_outputAt.all mv_lok = true := by decide +kernel
theorem ol_X10_writeBasin : t_X10_writeBasin.all mv_lok = true := by decide +kernel
theorem ol_X10_existingBasin : t_X10_existingBasin.all mv_lok = true := by decide +kernel
theorem ol_X10_faultOfRange : t_X10_faultOfRange.all mv_lok = true := by decide +kernel
theorem ol_X10_throwFor : t_X10_throwFor.all mv_lok = true := by decide +kernel
theorem ol_L_cell : t_L_cell.all mv_lok = true := by decide +kernel
theorem ol_L_some : t_L_some.all mv_lok = true := by decide +kernel
theorem ol_L_addBasin : t_L_addBasin.all mv_lok = true := by decide +kernel
theorem ol_L_setGate : t_L_setGate.all mv_lok = true := by decide +kernel
theorem ol_L_setAutomatic : t_L_setAutomatic.all mv_lok = true := by decide +kernel
theorem ol_L_setManual : t_L_setManual.all mv_lok = true := by decide +kernel
theorem ol_L_addRain : t_L_addRain.all mv_lok = true := by decide +kernel
theorem ol_L_pour : t_L_pour.all mv_lok = true := by decide +kernel
theorem ol_L_advance : t_L_advance.all mv_lok = true := by decide +kernel
theorem ol_L_threshold : t_L_threshold.all mv_lok = true := by decide +kernel
theorem ol_L_basinAtRank : t_L_basinAtRank.all mv_lok = true := by decide +kernel
theorem ol_L_rainAt : t_L_rainAt.all mv_lok = true := by decide +kernel
theorem ol_L_stepsUntilFlood : t_L_stepsUntilFlood.all mv_lok = true := by decide +kernel
theorem ol_L_build : t_L_build.all mv_lok = true := by decide +kernel
theorem ol_L_acts : t_L_acts.all mv_lok = true := by decide +kernel
theorem ol_L_isLine : t_L_isLine.all mv_lok = true := by decide +kernel
theorem ol_L_law_0 : t_L_law_0.all mv_lok = true := by decide +kernel
theorem ol_L_law_1 : t_L_law_1.all mv_lok = true := by decide +kernel
theorem ol_L_law_2 : t_L_law_2.all mv_lok = true := by decide +kernel
theorem ol_L_law_3 : t_L_law_3.all mv_lok = true := by decide +kernel
theorem ol_L_law_4 : t_L_law_4.all mv_lok = true := by decide +kernel
theorem ol_L_law_5 : t_L_law_5.all mv_lok = true := by decide +kernel
theorem ol_L_law_6 : t_L_law_6.all mv_lok = true := by decide +kernel
theorem ol_L_law_7 : t_L_law_7.all mv_lok = true := by decide +kernel
theorem ol_L_law_8 : t_L_law_8.all mv_lok = true := by decide +kernel
theorem mv_alla {α : Type} {p : α → Bool} {a b : List α} (h : a.all p = true) (h2 : b.all p = true) : (a ++ b).all p = true := by rw [List.all_append, h, h2]; rfl
theorem ok_L_law : t_L_law.all (mv_ok code "SluiceChainLaw") = true := (mv_alla ok_L_law_0 (mv_alla ok_L_law_1 (mv_alla ok_L_law_2 (mv_alla ok_L_law_3 (mv_alla ok_L_law_4 (mv_alla ok_L_law_5 (mv_alla ok_L_law_6 (mv_alla ok_L_law_7 ok_L_law_8))))))))
theorem ol_L_law : t_L_law.all mv_lok = true := (mv_alla ol_L_law_0 (mv_alla ol_L_law_1 (mv_alla ol_L_law_2 (mv_alla ol_L_law_3 (mv_alla ol_L_law_4 (mv_alla ol_L_law_5 (mv_alla ol_L_law_6 (mv_alla ol_L_law_7 ol_L_law_8))))))))
theorem mv_all0 : mv_all mv_tb0 mv_ms0 := ⟨⟨ok_X1_init, ol_X1_init⟩, ⟨⟨ok_X1_begin, ol_X1_begin⟩, ⟨⟨ok_X1_copyFrom, ol_X1_copyFrom⟩, ⟨⟨ok_X1_moveAutomaticGate, ol_X1_moveAutomaticGate⟩, ⟨⟨ok_X1_letOut, ol_X1_letOut⟩, ⟨⟨ok_X1_spillOver, ol_X1_spillOver⟩, ⟨⟨ok_X2_init, ol_X2_init⟩, ⟨⟨ok_X2_copyFrom, ol_X2_copyFrom⟩, ⟨⟨ok_X2_copyWithOpening, ol_X2_copyWithOpening⟩, ⟨⟨ok_X2_hasBasin, ol_X2_hasBasin⟩, ⟨⟨ok_X2_faultOf, ol_X2_faultOf⟩, ⟨⟨ok_X2_faultOfNewBasin, ol_X2_faultOfNewBasin⟩, ⟨⟨ok_X2_faultAtBasin, ol_X2_faultAtBasin⟩, ⟨⟨ok_X2_faultOfGate, ol_X2_faultOfGate⟩, ⟨⟨ok_X2_faultOfHand, ol_X2_faultOfHand⟩, ⟨⟨ok_X2_faultOfRain, ol_X2_faultOfRain⟩, ⟨⟨ok_X2_faultOfPour, ol_X2_faultOfPour⟩, ⟨⟨ok_X2_faultOfPrediction, ol_X2_faultOfPrediction⟩, ⟨⟨ok_X2_faultOfPlan, ol_X2_faultOfPlan⟩, ⟨⟨ok_X2_carryOut, ol_X2_carryOut⟩, ⟨⟨ok_X2_useNextBasin, ol_X2_useNextBasin⟩, ⟨⟨ok_X2_turnGate, ol_X2_turnGate⟩, ⟨⟨ok_X2_makeAutomatic, ol_X2_makeAutomatic⟩, ⟨⟨ok_X2_makeManual, ol_X2_makeManual⟩, ⟨⟨ok_X2_countAutomatic, ol_X2_countAutomatic⟩, ⟨⟨ok_X2_expectRain, ol_X2_expectRain⟩, ⟨⟨ok_X2_dropForecast, ol_X2_dropForecast⟩, ⟨⟨ok_X2_pourInto, ol_X2_pourInto⟩, ⟨⟨ok_X2_passSteps, ol_X2_passSteps⟩, ⟨⟨ok_X2_passStep, ol_X2_passStep⟩, ⟨⟨ok_X2_takeRain, ol_X2_takeRain⟩, ⟨⟨ok_X2_rainDown, ol_X2_rainDown⟩, ⟨⟨ok_X2_flowDown, ol_X2_flowDown⟩, ⟨⟨ok_X2_rankOf, ol_X2_rankOf⟩, ⟨⟨ok_X2_isRankedBefore, ol_X2_isRankedBefore⟩, ⟨⟨ok_X2_levelsFit, ol_X2_levelsFit⟩, ⟨⟨ok_X2_sumOfLevels, ol_X2_sumOfLevels⟩, ⟨⟨ok_X2_balanceOfAccounts, ol_X2_balanceOfAccounts⟩, ⟨⟨ok_X2_sumOfFloodedSteps, ol_X2_sumOfFloodedSteps⟩, ⟨⟨ok_X5_init, ol_X5_init⟩, trivial⟩⟩⟩⟩⟩⟩⟩⟩⟩⟩⟩⟩⟩⟩⟩⟩⟩⟩⟩⟩⟩⟩⟩⟩⟩⟩⟩⟩⟩⟩⟩⟩⟩⟩⟩⟩⟩⟩⟩⟩
theorem mv_all1 : mv_all mv_tb1 mv_ms1 := ⟨⟨ok_X5_remember, ol_X5_remember⟩, ⟨⟨ok_X6_init, ol_X6_init⟩, ⟨⟨ok_X6_put, ol_X6_put⟩, ⟨⟨ok_X6_putNumber, ol_X6_putNumber⟩, ⟨⟨ok_X6_putDigit, ol_X6_putDigit⟩, ⟨⟨ok_X7_init, ol_X7_init⟩, ⟨⟨ok_X7_leastOfAll, ol_X7_leastOfAll⟩, ⟨⟨ok_X7_leastByCutting, ol_X7_leastByCutting⟩, ⟨⟨ok_X7_lowestFirstOpening, ol_X7_lowestFirstOpening⟩, ⟨⟨ok_X7_leastFrom, ol_X7_leastFrom⟩, ⟨⟨ok_X7_leastBelow, ol_X7_leastBelow⟩, ⟨⟨ok_X8_init, ol_X8_init⟩, ⟨⟨ok_X9_init, ol_X9_init⟩, ⟨⟨ok_X9_include, ol_X9_include⟩, ⟨⟨ok_X9_sumOfBags, ol_X9_sumOfBags⟩, ⟨⟨ok_X9_bestByTable, ol_X9_bestByTable⟩, ⟨⟨ok_X9_improveTable, ol_X9_improveTable⟩, ⟨⟨ok_X9_bestBySets, ol_X9_bestBySets⟩, ⟨⟨ok_X9_bagsOfSet, ol_X9_bagsOfSet⟩, ⟨⟨ok_X9_valueOfSet, ol_X9_valueOfSet⟩, ⟨⟨ok_X10_init, ol_X10_init⟩, ⟨⟨ok_X10_addBasin, ol_X10_addBasin⟩, ⟨⟨ok_X10_setGate, ol_X10_setGate⟩, ⟨⟨ok_X10_setAutomatic, ol_X10_setAutomatic⟩, ⟨⟨ok_X10_setManual, ol_X10_setManual⟩, ⟨⟨ok_X10_addRain, ol_X10_addRain⟩, ⟨⟨ok_X10_clearForecast, ol_X10_clearForecast⟩, ⟨⟨ok_X10_pour, ol_X10_pour⟩, ⟨⟨ok_X10_advance, ol_X10_advance⟩, ⟨⟨ok_X10_change, ol_X10_change⟩, ⟨⟨ok_X10_basinCount, ol_X10_basinCount⟩, ⟨⟨ok_X10_capacity, ol_X10_capacity⟩, ⟨⟨ok_X10_level, ol_X10_level⟩, ⟨⟨ok_X10_fieldValue, ol_X10_fieldValue⟩, ⟨⟨ok_X10_opening, ol_X10_opening⟩, ⟨⟨ok_X10_isAutomatic, ol_X10_isAutomatic⟩, ⟨⟨ok_X10_threshold, ol_X10_threshold⟩, ⟨⟨ok_X10_spilled, ol_X10_spilled⟩, ⟨⟨ok_X10_floodedSteps, ol_X10_floodedSteps⟩, ⟨⟨ok_X10_basinAtRank, ol_X10_basinAtRank⟩, trivial⟩⟩⟩⟩⟩⟩⟩⟩⟩⟩⟩⟩⟩⟩⟩⟩⟩⟩⟩⟩⟩⟩⟩⟩⟩⟩⟩⟩⟩⟩⟩⟩⟩⟩⟩⟩⟩⟩⟩⟩
theorem mv_all2 : mv_all mv_tb2 mv_ms2 := ⟨⟨ok_X10_time, ol_X10_time⟩, ⟨⟨ok_X10_forecastLength, ol_X10_forecastLength⟩, ⟨⟨ok_X10_rainAt, ol_X10_rainAt⟩, ⟨⟨ok_X10_stored, ol_X10_stored⟩, ⟨⟨ok_X10_storedByAccounts, ol_X10_storedByAccounts⟩, ⟨⟨ok_X10_riverTotal, ol_X10_riverTotal⟩, ⟨⟨ok_X10_meanFill, ol_X10_meanFill⟩, ⟨⟨ok_X10_floodShare, ol_X10_floodShare⟩, ⟨⟨ok_X10_levelAfter, ol_X10_levelAfter⟩, ⟨⟨ok_X10_spillOf, ol_X10_spillOf⟩, ⟨⟨ok_X10_stepsUntilFlood, ol_X10_stepsUntilFlood⟩, ⟨⟨ok_X10_lookAhead, ol_X10_lookAhead⟩, ⟨⟨ok_X10_expectedSpill, ol_X10_expectedSpill⟩, ⟨⟨ok_X10_leastSpill, ol_X10_leastSpill⟩, ⟨⟨ok_X10_leastSpillByPruning, ol_X10_leastSpillByPruning⟩, ⟨⟨ok_X10_bestOpening, ol_X10_bestOpening⟩, ⟨⟨ok_X10_endangered, ol_X10_endangered⟩, ⟨⟨ok_X10_bestProtection, ol_X10_bestProtection⟩, ⟨⟨ok_X10_bestProtectionBySets, ol_X10_bestProtectionBySets⟩, ⟨⟨ok_X10_bagsForAll, ol_X10_bagsForAll⟩, ⟨⟨ok_X10_isConsistent, ol_X10_isConsistent⟩, ⟨⟨ok_X10_gatherEndangered, ol_X10_gatherEndangered⟩, ⟨⟨ok_X10_leastSpillsAgree, ol_X10_leastSpillsAgree⟩, ⟨⟨ok_X10_protectionsAgree, ol_X10_protectionsAgree⟩, ⟨⟨ok_X10_writeChain, ol_X10_writeChain⟩, ⟨⟨ok_X10_writeForecast, ol_X10_writeForecast⟩, ⟨⟨ok_X10_outputAt, ol_X10_outputAt⟩, ⟨⟨ok_X10_writeBasin, ol_X10_writeBasin⟩, ⟨⟨ok_X10_existingBasin, ol_X10_existingBasin⟩, ⟨⟨ok_X10_faultOfRange, ol_X10_faultOfRange⟩, ⟨⟨ok_X10_throwFor, ol_X10_throwFor⟩, ⟨⟨ok_L_cell, ol_L_cell⟩, ⟨⟨ok_L_some, ol_L_some⟩, ⟨⟨ok_L_addBasin, ol_L_addBasin⟩, ⟨⟨ok_L_setGate, ol_L_setGate⟩, ⟨⟨ok_L_setAutomatic, ol_L_setAutomatic⟩, ⟨⟨ok_L_setManual, ol_L_setManual⟩, ⟨⟨ok_L_addRain, ol_L_addRain⟩, ⟨⟨ok_L_pour, ol_L_pour⟩, ⟨⟨ok_L_advance, ol_L_advance⟩, trivial⟩⟩⟩⟩⟩⟩⟩⟩⟩⟩⟩⟩⟩⟩⟩⟩⟩⟩⟩⟩⟩⟩⟩⟩⟩⟩⟩⟩⟩⟩⟩⟩⟩⟩⟩⟩⟩⟩⟩⟩
theorem mv_all3 : mv_all mv_tb3 mv_ms3 := ⟨⟨ok_L_threshold, ol_L_threshold⟩, ⟨⟨ok_L_basinAtRank, ol_L_basinAtRank⟩, ⟨⟨ok_L_rainAt, ol_L_rainAt⟩, ⟨⟨ok_L_stepsUntilFlood, ol_L_stepsUntilFlood⟩, ⟨⟨ok_L_build, ol_L_build⟩, ⟨⟨ok_L_acts, ol_L_acts⟩, ⟨⟨ok_L_isLine, ol_L_isLine⟩, ⟨⟨ok_L_law, ol_L_law⟩, trivial⟩⟩⟩⟩⟩⟩⟩⟩
theorem mv_alls : mv_all mv_tbs mv_ms := mv_all_app mv_all0 (mv_all_app mv_all1 (mv_all_app mv_all2 (mv_all3)))
theorem mv_all_at : ∀ {a : List (List (Nat × mv_I))} {b : List mv_J} {M : Nat} {t : List (Nat × mv_I)}, mv_all a b → a[M]? = some t → ∃ j, b[M]? = some j ∧ t.all (mv_ok j.1 j.2.1.cls) = true ∧ t.all mv_lok = true
  | [], [], _, _, _, h => by simp at h
  | [], _ :: _, _, _, h, _ => h.elim
  | _ :: _, [], _, _, h, _ => h.elim
  | _ :: _, j :: _, 0, _, h, h2 => by
    simp only [List.getElem?_cons_zero, Option.some.injEq] at h2
    subst h2
    exact ⟨j, rfl, h.1.1, h.1.2⟩
  | _ :: _, _ :: _, M + 1, _, h, h2 => by
    simp only [List.getElem?_cons_succ] at h2 ⊢
    exact mv_all_at h.2 h2
def mv_find (pc : Nat) : List (Nat × mv_I) → Option mv_I
  | [] => none
  | (j, r) :: l => if j = pc then some r else mv_find pc l
/-- the row at pc of method M -/
noncomputable def mv_in (M pc : Nat) : Option mv_I := mv_find pc (mv_tb M)
theorem mv_find_mem : ∀ {l : List (Nat × mv_I)} {pc : Nat} {r : mv_I}, mv_find pc l = some r → (pc, r) ∈ l
  | [], _, _, h => by simp [mv_find] at h
  | (j, r') :: l, pc, r, h => by
    unfold mv_find at h
    split at h
    · next e => cases h; subst e; exact List.mem_cons_self
    · exact List.mem_cons_of_mem _ (mv_find_mem h)
/-- a row that the small machine reads: what its bytecode is -/
theorem mv_row {M pc : Nat} {r : mv_I} (h : mv_in M pc = some r) : mv_ok (mv_mi M).1 (mv_mi M).2.1.cls (pc, r) = true ∧ mv_lok (pc, r) = true := by
  unfold mv_in mv_tb at h
  have hm := mv_find_mem h
  cases ht : mv_tbs[M]? with
  | none => rw [List.getD_eq_getElem?_getD, ht] at hm; simp at hm
  | some t =>
    obtain ⟨j, hj, h1, h2⟩ := mv_all_at mv_alls ht
    rw [List.getD_eq_getElem?_getD, ht] at hm
    have e : mv_mi M = j := by unfold mv_mi; rw [List.getD_eq_getElem?_getD, hj]; rfl
    rw [e]
    exact ⟨List.all_eq_true.mp h1 _ hm, List.all_eq_true.mp h2 _ hm⟩
/-- the words of a method: its code, that it is static or not, its selection, its class -/
noncomputable def mv_mok (j : mv_J) : Bool := match j with
  | (bs, y, ml, rt, c, i, sl, n, fl) => (if fl < 2 then decide (lw_tbl[c]? = some (.code y bs ml rt)) else (match lw_tbl[c]? with | some (.codeWith y' bs' ml' rt' _) => decide (y' = y) && decide (bs' = bs) && decide (ml' = ml) && decide (rt' = rt) | _ => false))
    && (if fl % 2 = 1 then decide (lw_tbl[i]? = some (.static y)) else decide (lw_tbl[i]? = some (.instanceMethod y)))
    && (decide (sl = 0) || decide (lw_tbl[sl]? = some (.selects y.cls y y))) && decide (lw_tbl[n]? = some (.initialized y.cls)) && plainName y.cls && decide (y.cls ≠ "java/lang/invoke/MethodHandle") && decide (y.cls ≠ "java/lang/invoke/VarHandle")
