/-! what is called and how: number of parameters; 0: by the receiver, 1: static, 2: constructor, 3: static with a table -/
noncomputable def mv_ci : List (Nat × Nat) := [(0, 2), (3, 0), (1, 0), (0, 0), (0, 0), (0, 0), (0, 2), (1, 0), (3, 0), (1, 0), (4, 0), (3, 0), (4, 0), (2, 0), (1, 0), (1, 0), (2, 0), (2, 0), (2, 0), (4, 0), (3, 0), (2, 0), (2, 0), (1, 0), (0, 0), (1, 0), (0, 0), (2, 0), (1, 0), (0, 0), (0, 0), (1, 0), (0, 0), (1, 0), (2, 0), (0, 0), (0, 0), (0, 0), (0, 0), (0, 2), (1, 0), (0, 0), (0, 2), (1, 0), (1, 0), (1, 0), (0, 2), (3, 0), (3, 0), (3, 0), (4, 1), (6, 1), (0, 2), (1, 0), (0, 0), (0, 0), (0, 0), (1, 0), (1, 0), (1, 0), (1, 0), (0, 0), (0, 2), (2, 0), (0, 0), (1, 0), (2, 0), (1, 0), (1, 0), (1, 0), (0, 2), (3, 0), (2, 0), (2, 0), (1, 0), (1, 0), (0, 0), (2, 0), (1, 0), (4, 0), (0, 0), (1, 0), (1, 0), (1, 0), (1, 0), (1, 0), (1, 0), (1, 0), (1, 0), (1, 0), (1, 0), (0, 0), (0, 0), (1, 0), (0, 0), (0, 0), (0, 0), (0, 0), (0, 0), (2, 0), (2, 0), (0, 0), (1, 0), (1, 0), (2, 0), (2, 0), (2, 0), (1, 0), (2, 0), (2, 0), (1, 0), (0, 0), (1, 0), (0, 0), (0, 0), (1, 0), (0, 0), (0, 0), (0, 0), (1, 0), (0, 0), (0, 0), (1, 0), (1, 0), (0, 0), (0, 0), (0, 0), (1, 0), (3, 1), (1, 1), (0, 2), (0, 0), (3, 1), (2, 0), (0, 0), (5, 0), (1, 0), (2, 0), (3, 0), (3, 0), (1, 0), (0, 0), (0, 0), (1, 0), (0, 0), (3, 0), (3, 0), (2, 0), (2, 0), (2, 0), (2, 0), (1, 0), (1, 0), (1, 0), (1, 0), (0, 0), (0, 0), (2, 0), (2, 0), (1, 0), (1, 0), (1, 0), (0, 0), (2, 0), (1, 0), (1, 0), (1, 0), (1, 0), (1, 0), (1, 0), (1, 0), (1, 0), (1, 0), (2, 0), (1, 0), (0, 0), (0, 0), (1, 0), (1, 0), (0, 0), (0, 0), (0, 0), (0, 0), (0, 0), (3, 0), (2, 0), (2, 0), (2, 0), (2, 0), (0, 0), (3, 0), (2, 0), (2, 0), (2, 0), (2, 0), (1, 0), (1, 0), (2, 0), (2, 0), (1, 0), (0, 0), (1, 0), (0, 0), (1, 0), (3, 0), (1, 0), (1, 0), (0, 0), (0, 0), (1, 0), (0, 0), (0, 0), (0, 0), (1, 0), (1, 0), (2, 0), (0, 0), (0, 0), (1, 0), (0, 0), (0, 0), (0, 0), (5, 3), (4, 3), (4, 3), (3, 3), (3, 3), (4, 3), (3, 3), (3, 3), (3, 3), (3, 3), (3, 3), (3, 3), (3, 3), (3, 3), (3, 3), (3, 3), (3, 3), (3, 3), (2, 3), (2, 3), (4, 3), (4, 3), (2, 3), (4, 3), (4, 3), (4, 3), (3, 3), (4, 3), (4, 3), (3, 3), (3, 3), (2, 3), (2, 3), (2, 3), (3, 3), (2, 3), (1, 3), (1, 4)]
noncomputable def mv_cif (M : Nat) : Nat × Nat := mv_ci.getD M (0, 9)
noncomputable def mv_cok (M : Nat) : Bool := mv_mok (mv_mi M) && decide ((parseMethodDescriptor (mv_mi M).2.1.desc).map (fun d => d.parameters.length) = some (mv_cif M).1) &&
  (match (mv_cif M).2 with
    | 0 => decide ((mv_mi M).2.2.2.2.2.2.2.2 = 0) && decide (lw_tbl[(mv_mi M).2.2.2.2.2.2.1]? = some (.selects (mv_mi M).2.1.cls (mv_mi M).2.1 (mv_mi M).2.1))
    | 1 => decide ((mv_mi M).2.2.2.2.2.2.2.2 = 1)
    | 2 => decide ((mv_mi M).2.2.2.2.2.2.2.2 = 0) && decide ((mv_mi M).2.1.name = "<init>") && decide ((mv_mi M).2.2.2.1 = none)
    | 3 => decide ((mv_mi M).2.2.2.2.2.2.2.2 = 3) && decide (lw_tbl[(mv_mi M).2.2.2.2.1]? = some (mv_w1 M))
    | _ => false) && decide ((mv_mi M).2.2.1 ≤ 20) && (mv_nh M == decide (¬ (mv_cif M).2 = 3))
theorem mv_cok0 : ((List.range 20).all (fun j => mv_cok (0 + j))) = true := by decide +kernel
theorem mv_cok1 : ((List.range 20).all (fun j => mv_cok (20 + j))) = true := by decide +kernel
theorem mv_cok2 : ((List.range 20).all (fun j => mv_cok (40 + j))) = true := by decide +kernel
theorem mv_cok3 : ((List.range 20).all (fun j => mv_cok (60 + j))) = true := by decide +kernel
theorem mv_cok4 : ((List.range 20).all (fun j => mv_cok (80 + j))) = true := by decide +kernel
theorem mv_cok5 : ((List.range 20).all (fun j => mv_cok (100 + j))) = true := by decide +kernel
theorem mv_cok6 : ((List.range 20).all (fun j => mv_cok (120 + j))) = true := by decide +kernel
theorem mv_cok7 : ((List.range 20).all (fun j => mv_cok (140 + j))) = true := by decide +kernel
theorem mv_cok8 : ((List.range 20).all (fun j => mv_cok (160 + j))) = true := by decide +kernel
theorem mv_cok9 : ((List.range 20).all (fun j => mv_cok (180 + j))) = true := by decide +kernel
theorem mv_cok10 : ((List.range 20).all (fun j => mv_cok (200 + j))) = true := by decide +kernel
theorem mv_cok11 : ((List.range 20).all (fun j => mv_cok (220 + j))) = true := by decide +kernel
theorem mv_cok12 : ((List.range 19).all (fun j => mv_cok (240 + j))) = true := by decide +kernel
theorem mv_cok_at {M : Nat} (h : M < 259) : mv_cok M = true := by
  have key : ∀ (b n : Nat), ((List.range n).all (fun j => mv_cok (b + j))) = true → b ≤ M → M < b + n → mv_cok M = true := by
    intro b n h1 h2 h3
    have := List.all_eq_true.mp h1 (M - b) (List.mem_range.mpr (by omega))
    rwa [show b + (M - b) = M by omega] at this
  rcases Nat.lt_or_ge M 20 with q | q
  · exact key 0 20 mv_cok0 (by omega) (by omega)
  rcases Nat.lt_or_ge M 40 with q1 | q1
  · exact key 20 20 mv_cok1 (by omega) (by omega)
  rcases Nat.lt_or_ge M 60 with q2 | q2
  · exact key 40 20 mv_cok2 (by omega) (by omega)
  rcases Nat.lt_or_ge M 80 with q3 | q3
  · exact key 60 20 mv_cok3 (by omega) (by omega)
  rcases Nat.lt_or_ge M 100 with q4 | q4
  · exact key 80 20 mv_cok4 (by omega) (by omega)
  rcases Nat.lt_or_ge M 120 with q5 | q5
  · exact key 100 20 mv_cok5 (by omega) (by omega)
  rcases Nat.lt_or_ge M 140 with q6 | q6
  · exact key 120 20 mv_cok6 (by omega) (by omega)
  rcases Nat.lt_or_ge M 160 with q7 | q7
  · exact key 140 20 mv_cok7 (by omega) (by omega)
  rcases Nat.lt_or_ge M 180 with q8 | q8
  · exact key 160 20 mv_cok8 (by omega) (by omega)
  rcases Nat.lt_or_ge M 200 with q9 | q9
  · exact key 180 20 mv_cok9 (by omega) (by omega)
  rcases Nat.lt_or_ge M 220 with q10 | q10
  · exact key 200 20 mv_cok10 (by omega) (by omega)
  rcases Nat.lt_or_ge M 240 with q11 | q11
  · exact key 220 20 mv_cok11 (by omega) (by omega)
  exact key 240 19 mv_cok12 (by omega) (by omega)
/-- a row that calls agrees with what is called -/
noncomputable def mv_crow (q : Nat × mv_I) : Bool := match q.2 with
  | (.invokevirtual _, _, a, b, _) => !decide (a < 900) || (decide (a < 259) && decide (mv_cif a = (b - 1, 0)) && decide (0 < b) && decide (mv_cn a < 9))
  | (.invokestatic _, _, a, b, w) => !decide (a < 900) || (decide (a < 259) && (decide (mv_cif a = (b, 1)) || (decide (mv_cif a = (b, 3)) && (match lw_tbl[w]? with | some (.methodLink _ _ _) => true | _ => false))))
  | (.invokespecial _, _, a, b, _) => !decide (a < 900) || (decide (a < 259) && decide (mv_cif a = (b - 1, 2)) && decide (0 < b))
  | (.new _, _, a, b, _) => !decide (a = 99) || decide (b < 6)
  | _ => true
theorem cr_X1_init : t_X1_init.all mv_crow = true := by decide +kernel
theorem cr_X1_begin : t_X1_begin.all mv_crow = true := by decide +kernel
theorem cr_X1_copyFrom : t_X1_copyFrom.all mv_crow = true := by decide +kernel
theorem cr_X1_moveAutomaticGate : t_X1_moveAutomaticGate.all mv_crow = true := by decide +kernel
theorem cr_X1_letOut : t_X1_letOut.all mv_crow = true := by decide +kernel
theorem cr_X1_spillOver : t_X1_spillOver.all mv_crow = true := by decide +kernel
theorem cr_X2_init : t_X2_init.all mv_crow = true := by decide +kernel
theorem cr_X2_copyFrom : t_X2_copyFrom.all mv_crow = true := by decide +kernel
theorem cr_X2_copyWithOpening : t_X2_copyWithOpening.all mv_crow = true := by decide +kernel
theorem cr_X2_hasBasin : t_X2_hasBasin.all mv_crow = true := by decide +kernel
theorem cr_X2_faultOf : t_X2_faultOf.all mv_crow = true := by decide +kernel
theorem cr_X2_faultOfNewBasin : t_X2_faultOfNewBasin.all mv_crow = true := by decide +kernel
theorem cr_X2_faultAtBasin : t_X2_faultAtBasin.all mv_crow = true := by decide +kernel
theorem cr_X2_faultOfGate : t_X2_faultOfGate.all mv_crow = true := by decide +kernel
theorem cr_X2_faultOfHand : t_X2_faultOfHand.all mv_crow = true := by decide +kernel
theorem cr_X2_faultOfRain : t_X2_faultOfRain.all mv_crow = true := by decide +kernel
theorem cr_X2_faultOfPour : t_X2_faultOfPour.all mv_crow = true := by decide +kernel
theorem cr_X2_faultOfPrediction : t_X2_faultOfPrediction.all mv_crow = true := by decide +kernel
theorem cr_X2_faultOfPlan : t_X2_faultOfPlan.all mv_crow = true := by decide +kernel
theorem cr_X2_carryOut : t_X2_carryOut.all mv_crow = true := by decide +kernel
theorem cr_X2_useNextBasin : t_X2_useNextBasin.all mv_crow = true := by decide +kernel
theorem cr_X2_turnGate : t_X2_turnGate.all mv_crow = true := by decide +kernel
theorem cr_X2_makeAutomatic : t_X2_makeAutomatic.all mv_crow = true := by decide +kernel
theorem cr_X2_makeManual : t_X2_makeManual.all mv_crow = true := by decide +kernel
theorem cr_X2_countAutomatic : t_X2_countAutomatic.all mv_crow = true := by decide +kernel
theorem cr_X2_expectRain : t_X2_expectRain.all mv_crow = true := by decide +kernel
theorem cr_X2_dropForecast : t_X2_dropForecast.all mv_crow = true := by decide +kernel
theorem cr_X2_pourInto : t_X2_pourInto.all mv_crow = true := by decide +kernel
theorem cr_X2_passSteps : t_X2_passSteps.all mv_crow = true := by decide +kernel
theorem cr_X2_passStep : t_X2_passStep.all mv_crow = true := by decide +kernel
theorem cr_X2_takeRain : t_X2_takeRain.all mv_crow = true := by decide +kernel
theorem cr_X2_rainDown : t_X2_rainDown.all mv_crow = true := by decide +kernel
theorem cr_X2_flowDown : t_X2_flowDown.all mv_crow = true := by decide +kernel
theorem cr_X2_rankOf : t_X2_rankOf.all mv_crow = true := by decide +kernel
theorem cr_X2_isRankedBefore : t_X2_isRankedBefore.all mv_crow = true := by decide +kernel
theorem cr_X2_levelsFit : t_X2_levelsFit.all mv_crow = true := by decide +kernel
theorem cr_X2_sumOfLevels : t_X2_sumOfLevels.all mv_crow = true := by decide +kernel
theorem cr_X2_balanceOfAccounts : t_X2_balanceOfAccounts.all mv_crow = true := by decide +kernel
theorem cr_X2_sumOfFloodedSteps : t_X2_sumOfFloodedSteps.all mv_crow = true := by decide +kernel
theorem cr_X5_init : t_X5_init.all mv_crow = true := by decide +kernel
theorem cr_X5_remember : t_X5_remember.all mv_crow = true := by decide +kernel
theorem cr_X5_takeLatest : t_X5_takeLatest.all mv_crow = true := by decide +kernel
theorem cr_X6_init : t_X6_init.all mv_crow = true := by decide +kernel
theorem cr_X6_put : t_X6_put.all mv_crow = true := by decide +kernel
theorem cr_X6_putNumber : t_X6_putNumber.all mv_crow = true := by decide +kernel
theorem cr_X6_putDigit : t_X6_putDigit.all mv_crow = true := by decide +kernel
theorem cr_X7_init : t_X7_init.all mv_crow = true := by decide +kernel
theorem cr_X7_leastOfAll : t_X7_leastOfAll.all mv_crow = true := by decide +kernel
theorem cr_X7_leastByCutting : t_X7_leastByCutting.all mv_crow = true := by decide +kernel
theorem cr_X7_lowestFirstOpening : t_X7_lowestFirstOpening.all mv_crow = true := by decide +kernel
theorem cr_X7_leastFrom : t_X7_leastFrom.all mv_crow = true := by decide +kernel
theorem cr_X7_leastBelow : t_X7_leastBelow.all mv_crow = true := by decide +kernel
theorem cr_X8_init : t_X8_init.all mv_crow = true := by decide +kernel
theorem cr_X8_take : t_X8_take.all mv_crow = true := by decide +kernel
theorem cr_X8_countCommands : t_X8_countCommands.all mv_crow = true := by decide +kernel
theorem cr_X8_readCommand : t_X8_readCommand.all mv_crow = true := by decide +kernel
theorem cr_X8_commandAtPosition : t_X8_commandAtPosition.all mv_crow = true := by decide +kernel
theorem cr_X8_readPattern : t_X8_readPattern.all mv_crow = true := by decide +kernel
theorem cr_X8_readPart : t_X8_readPart.all mv_crow = true := by decide +kernel
theorem cr_X8_readSign : t_X8_readSign.all mv_crow = true := by decide +kernel
theorem cr_X8_readNumber : t_X8_readNumber.all mv_crow = true := by decide +kernel
theorem cr_X8_isAtDigit : t_X8_isAtDigit.all mv_crow = true := by decide +kernel
theorem cr_X9_init : t_X9_init.all mv_crow = true := by decide +kernel
theorem cr_X9_include : t_X9_include.all mv_crow = true := by decide +kernel
theorem cr_X9_sumOfBags : t_X9_sumOfBags.all mv_crow = true := by decide +kernel
theorem cr_X9_bestByTable : t_X9_bestByTable.all mv_crow = true := by decide +kernel
theorem cr_X9_improveTable : t_X9_improveTable.all mv_crow = true := by decide +kernel
theorem cr_X9_bestBySets : t_X9_bestBySets.all mv_crow = true := by decide +kernel
theorem cr_X9_bagsOfSet : t_X9_bagsOfSet.all mv_crow = true := by decide +kernel
theorem cr_X9_valueOfSet : t_X9_valueOfSet.all mv_crow = true := by decide +kernel
theorem cr_X10_init : t_X10_init.all mv_crow = true := by decide +kernel
theorem cr_X10_addBasin : t_X10_addBasin.all mv_crow = true := by decide +kernel
theorem cr_X10_setGate : t_X10_setGate.all mv_crow = true := by decide +kernel
theorem cr_X10_setAutomatic : t_X10_setAutomatic.all mv_crow = true := by decide +kernel
theorem cr_X10_setManual : t_X10_setManual.all mv_crow = true := by decide +kernel
theorem cr_X10_addRain : t_X10_addRain.all mv_crow = true := by decide +kernel
theorem cr_X10_clearForecast : t_X10_clearForecast.all mv_crow = true := by decide +kernel
theorem cr_X10_pour : t_X10_pour.all mv_crow = true := by decide +kernel
theorem cr_X10_advance : t_X10_advance.all mv_crow = true := by decide +kernel
theorem cr_X10_change : t_X10_change.all mv_crow = true := by decide +kernel
theorem cr_X10_basinCount : t_X10_basinCount.all mv_crow = true := by decide +kernel
theorem cr_X10_capacity : t_X10_capacity.all mv_crow = true := by decide +kernel
theorem cr_X10_level : t_X10_level.all mv_crow = true := by decide +kernel
theorem cr_X10_catchment : t_X10_catchment.all mv_crow = true := by decide +kernel
theorem cr_X10_fieldValue : t_X10_fieldValue.all mv_crow = true := by decide +kernel
theorem cr_X10_opening : t_X10_opening.all mv_crow = true := by decide +kernel
theorem cr_X10_isAutomatic : t_X10_isAutomatic.all mv_crow = true := by decide +kernel
theorem cr_X10_threshold : t_X10_threshold.all mv_crow = true := by decide +kernel
theorem cr_X10_spilled : t_X10_spilled.all mv_crow = true := by decide +kernel
theorem cr_X10_floodedSteps : t_X10_floodedSteps.all mv_crow = true := by decide +kernel
theorem cr_X10_basinAtRank : t_X10_basinAtRank.all mv_crow = true := by decide +kernel
theorem cr_X10_time : t_X10_time.all mv_crow = true := by decide +kernel
theorem cr_X10_forecastLength : t_X10_forecastLength.all mv_crow = true := by decide +kernel
theorem cr_X10_rainAt : t_X10_rainAt.all mv_crow = true := by decide +kernel
theorem cr_X10_stored : t_X10_stored.all mv_crow = true := by decide +kernel
theorem cr_X10_storedByAccounts : t_X10_storedByAccounts.all mv_crow = true := by decide +kernel
theorem cr_X10_riverTotal : t_X10_riverTotal.all mv_crow = true := by decide +kernel
theorem cr_X10_meanFill : t_X10_meanFill.all mv_crow = true := by decide +kernel
theorem cr_X10_floodShare : t_X10_floodShare.all mv_crow = true := by decide +kernel
theorem cr_X10_levelAfter : t_X10_levelAfter.all mv_crow = true := by decide +kernel
theorem cr_X10_spillOf : t_X10_spillOf.all mv_crow = true := by decide +kernel
theorem cr_X10_stepsUntilFlood : t_X10_stepsUntilFlood.all mv_crow = true := by decide +kernel
theorem cr_X10_lookAhead : t_X10_lookAhead.all mv_crow = true := by decide +kernel
theorem cr_X10_expectedSpill : t_X10_expectedSpill.all mv_crow = true := by decide +kernel
theorem cr_X10_leastSpill : t_X10_leastSpill.all mv_crow = true := by decide +kernel
theorem cr_X10_leastSpillByPruning : t_X10_leastSpillByPruning.all mv_crow = true := by decide +kernel
theorem cr_X10_bestOpening : t_X10_bestOpening.all mv_crow = true := by decide +kernel
theorem cr_X10_endangered : t_X10_endangered.all mv_crow = true := by decide +kernel
theorem cr_X10_bestProtection : t_X10_bestProtection.all mv_crow = true := by decide +kernel
theorem cr_X10_bestProtectionBySets : t_X10_bestProtectionBySets.all mv_crow = true := by decide +kernel
theorem cr_X10_bagsForAll : t_X10_bagsForAll.all mv_crow = true := by decide +kernel
theorem cr_X10_isConsistent : t_X10_isConsistent.all mv_crow = true := by decide +kernel
theorem cr_X10_gatherEndangered : t_X10_gatherEndangered.all mv_crow = true := by decide +kernel
theorem cr_X10_leastSpillsAgree : t_X10_leastSpillsAgree.all mv_crow = true := by decide +kernel
theorem cr_X10_protectionsAgree : t_X10_protectionsAgree.all mv_crow = true := by decide +kernel
theorem cr_X10_append : t_X10_append.all mv_crow = true := by decide +kernel
theorem cr_X10_run : t_X10_run.all mv_crow = true := by decide +kernel
theorem cr_X10_errorPosition : t_X10_errorPosition.all mv_crow = true := by decide +kernel
theorem cr_X10_failedCommand : t_X10_failedCommand.all mv_crow = true := by decide +kernel
theorem cr_X10_carryOutProgram : t_X10_carryOutProgram.all mv_crow = true := by decide +kernel
theorem cr_X10_writeChain : t_X10_writeChain.all mv_crow = true := by decide +kernel
theorem cr_X10_writeForecast : t_X10_writeForecast.all mv_crow = true := by decide +kernel
theorem cr_X10_outputAt : t_X10_outputAt.all mv_crow = true := by decide +kernel
theorem cr_X10_writeBasin : t_X10_writeBasin.all mv_crow = true := by decide +kernel
theorem cr_X10_undo : t_X10_undo.all mv_crow = true := by decide +kernel
theorem cr_X10_save : t_X10_save.all mv_crow = true := by decide +kernel
theorem cr_X10_restore : t_X10_restore.all mv_crow = true := by decide +kernel
theorem cr_X10_existingBasin : t_X10_existingBasin.all mv_crow = true := by decide +kernel
theorem cr_X10_faultOfRange : t_X10_faultOfRange.all mv_crow = true := by decide +kernel
theorem cr_X10_throwFor : t_X10_throwFor.all mv_crow = true := by decide +kernel
theorem cr_X11_init : t_X11_init.all mv_crow = true := by decide +kernel
theorem cr_X11_thrown : t_X11_thrown.all mv_crow = true := by decide +kernel
theorem cr_X11_in : t_X11_in.all mv_crow = true := by decide +kernel
theorem cr_X11_copies : t_X11_copies.all mv_crow = true := by decide +kernel
theorem cr_X11_begins : t_X11_begins.all mv_crow = true := by decide +kernel
theorem cr_X11_ends : t_X11_ends.all mv_crow = true := by decide +kernel
theorem cr_X11_isFine : t_X11_isFine.all mv_crow = true := by decide +kernel
theorem cr_X11_b : t_X11_b.all mv_crow = true := by decide +kernel
theorem cr_X11_set : t_X11_set.all mv_crow = true := by decide +kernel
theorem cr_X11_adds : t_X11_adds.all mv_crow = true := by decide +kernel
theorem cr_X11_isBasin : t_X11_isBasin.all mv_crow = true := by decide +kernel
theorem cr_X11_autos : t_X11_autos.all mv_crow = true := by decide +kernel
theorem cr_X11_falls : t_X11_falls.all mv_crow = true := by decide +kernel
theorem cr_X11_flows : t_X11_flows.all mv_crow = true := by decide +kernel
theorem cr_X11_steps : t_X11_steps.all mv_crow = true := by decide +kernel
theorem cr_X11_builds : t_X11_builds.all mv_crow = true := by decide +kernel
theorem cr_X11_addBasin : t_X11_addBasin.all mv_crow = true := by decide +kernel
theorem cr_X11_opens : t_X11_opens.all mv_crow = true := by decide +kernel
theorem cr_X11_setGate : t_X11_setGate.all mv_crow = true := by decide +kernel
theorem cr_X11_guards : t_X11_guards.all mv_crow = true := by decide +kernel
theorem cr_X11_setAutomatic : t_X11_setAutomatic.all mv_crow = true := by decide +kernel
theorem cr_X11_frees : t_X11_frees.all mv_crow = true := by decide +kernel
theorem cr_X11_setManual : t_X11_setManual.all mv_crow = true := by decide +kernel
theorem cr_X11_expects : t_X11_expects.all mv_crow = true := by decide +kernel
theorem cr_X11_addRain : t_X11_addRain.all mv_crow = true := by decide +kernel
theorem cr_X11_clears : t_X11_clears.all mv_crow = true := by decide +kernel
theorem cr_X11_clearForecast : t_X11_clearForecast.all mv_crow = true := by decide +kernel
theorem cr_X11_pours : t_X11_pours.all mv_crow = true := by decide +kernel
theorem cr_X11_pour : t_X11_pour.all mv_crow = true := by decide +kernel
theorem cr_X11_goesOn : t_X11_goesOn.all mv_crow = true := by decide +kernel
theorem cr_X11_advance : t_X11_advance.all mv_crow = true := by decide +kernel
theorem cr_X11_told : t_X11_told.all mv_crow = true := by decide +kernel
theorem cr_X11_basinCount : t_X11_basinCount.all mv_crow = true := by decide +kernel
theorem cr_X11_ofBasin : t_X11_ofBasin.all mv_crow = true := by decide +kernel
theorem cr_X11_capacity : t_X11_capacity.all mv_crow = true := by decide +kernel
theorem cr_X11_level : t_X11_level.all mv_crow = true := by decide +kernel
theorem cr_X11_catchment : t_X11_catchment.all mv_crow = true := by decide +kernel
theorem cr_X11_fieldValue : t_X11_fieldValue.all mv_crow = true := by decide +kernel
theorem cr_X11_opening : t_X11_opening.all mv_crow = true := by decide +kernel
theorem cr_X11_isAutomatic : t_X11_isAutomatic.all mv_crow = true := by decide +kernel
theorem cr_X11_threshold : t_X11_threshold.all mv_crow = true := by decide +kernel
theorem cr_X11_spilled : t_X11_spilled.all mv_crow = true := by decide +kernel
theorem cr_X11_floodedSteps : t_X11_floodedSteps.all mv_crow = true := by decide +kernel
theorem cr_X11_isAhead : t_X11_isAhead.all mv_crow = true := by decide +kernel
theorem cr_X11_basinAtRank : t_X11_basinAtRank.all mv_crow = true := by decide +kernel
theorem cr_X11_time : t_X11_time.all mv_crow = true := by decide +kernel
theorem cr_X11_forecastLength : t_X11_forecastLength.all mv_crow = true := by decide +kernel
theorem cr_X11_rainAt : t_X11_rainAt.all mv_crow = true := by decide +kernel
theorem cr_X11_sum : t_X11_sum.all mv_crow = true := by decide +kernel
theorem cr_X11_stored : t_X11_stored.all mv_crow = true := by decide +kernel
theorem cr_X11_storedByAccounts : t_X11_storedByAccounts.all mv_crow = true := by decide +kernel
theorem cr_X11_riverTotal : t_X11_riverTotal.all mv_crow = true := by decide +kernel
theorem cr_X11_meanFill : t_X11_meanFill.all mv_crow = true := by decide +kernel
theorem cr_X11_floodShare : t_X11_floodShare.all mv_crow = true := by decide +kernel
theorem cr_X11_later : t_X11_later.all mv_crow = true := by decide +kernel
theorem cr_X11_spills : t_X11_spills.all mv_crow = true := by decide +kernel
theorem cr_X11_isAsked : t_X11_isAsked.all mv_crow = true := by decide +kernel
theorem cr_X11_levelAfter : t_X11_levelAfter.all mv_crow = true := by decide +kernel
theorem cr_X11_spillOf : t_X11_spillOf.all mv_crow = true := by decide +kernel
theorem cr_X11_stepsUntilFlood : t_X11_stepsUntilFlood.all mv_crow = true := by decide +kernel
theorem cr_X11_plans : t_X11_plans.all mv_crow = true := by decide +kernel
theorem cr_X11_isPlanned : t_X11_isPlanned.all mv_crow = true := by decide +kernel
theorem cr_X11_leastSpill : t_X11_leastSpill.all mv_crow = true := by decide +kernel
theorem cr_X11_leastSpillByPruning : t_X11_leastSpillByPruning.all mv_crow = true := by decide +kernel
theorem cr_X11_bestOpening : t_X11_bestOpening.all mv_crow = true := by decide +kernel
theorem cr_X11_isTime : t_X11_isTime.all mv_crow = true := by decide +kernel
theorem cr_X11_endangered : t_X11_endangered.all mv_crow = true := by decide +kernel
theorem cr_X11_bestProtection : t_X11_bestProtection.all mv_crow = true := by decide +kernel
theorem cr_X11_bestProtectionBySets : t_X11_bestProtectionBySets.all mv_crow = true := by decide +kernel
theorem cr_X11_bagsForAll : t_X11_bagsForAll.all mv_crow = true := by decide +kernel
theorem cr_X11_isConsistent : t_X11_isConsistent.all mv_crow = true := by decide +kernel
theorem cr_X11_append : t_X11_append.all mv_crow = true := by decide +kernel
theorem cr_X11_sign : t_X11_sign.all mv_crow = true := by decide +kernel
theorem cr_X11_needs : t_X11_needs.all mv_crow = true := by decide +kernel
theorem cr_X11_letters : t_X11_letters.all mv_crow = true := by decide +kernel
theorem cr_X11_number : t_X11_number.all mv_crow = true := by decide +kernel
theorem cr_X11_isWord : t_X11_isWord.all mv_crow = true := by decide +kernel
theorem cr_X11_command : t_X11_command.all mv_crow = true := by decide +kernel
theorem cr_X11_parse : t_X11_parse.all mv_crow = true := by decide +kernel
theorem cr_X11_does : t_X11_does.all mv_crow = true := by decide +kernel
theorem cr_X11_run : t_X11_run.all mv_crow = true := by decide +kernel
theorem cr_X11_errorPosition : t_X11_errorPosition.all mv_crow = true := by decide +kernel
theorem cr_X11_failedCommand : t_X11_failedCommand.all mv_crow = true := by decide +kernel
theorem cr_X11_writes : t_X11_writes.all mv_crow = true := by decide +kernel
theorem cr_X11_writesNumber : t_X11_writesNumber.all mv_crow = true := by decide +kernel
theorem cr_X11_writesBehind : t_X11_writesBehind.all mv_crow = true := by decide +kernel
theorem cr_X11_writeChain : t_X11_writeChain.all mv_crow = true := by decide +kernel
theorem cr_X11_writeForecast : t_X11_writeForecast.all mv_crow = true := by decide +kernel
theorem cr_X11_outputAt : t_X11_outputAt.all mv_crow = true := by decide +kernel
theorem cr_X11_undo : t_X11_undo.all mv_crow = true := by decide +kernel
theorem cr_X11_save : t_X11_save.all mv_crow = true := by decide +kernel
theorem cr_X11_restore : t_X11_restore.all mv_crow = true := by decide +kernel
theorem cr_L_addBasin : t_L_addBasin.all mv_crow = true := by decide +kernel
theorem cr_L_setGate : t_L_setGate.all mv_crow = true := by decide +kernel
theorem cr_L_setAutomatic : t_L_setAutomatic.all mv_crow = true := by decide +kernel
theorem cr_L_setManual : t_L_setManual.all mv_crow = true := by decide +kernel
theorem cr_L_addRain : t_L_addRain.all mv_crow = true := by decide +kernel
theorem cr_L_pour : t_L_pour.all mv_crow = true := by decide +kernel
theorem cr_L_advance : t_L_advance.all mv_crow = true := by decide +kernel
theorem cr_L_capacity : t_L_capacity.all mv_crow = true := by decide +kernel
theorem cr_L_level : t_L_level.all mv_crow = true := by decide +kernel
theorem cr_L_catchment : t_L_catchment.all mv_crow = true := by decide +kernel
theorem cr_L_fieldValue : t_L_fieldValue.all mv_crow = true := by decide +kernel
theorem cr_L_opening : t_L_opening.all mv_crow = true := by decide +kernel
theorem cr_L_isAutomatic : t_L_isAutomatic.all mv_crow = true := by decide +kernel
theorem cr_L_threshold : t_L_threshold.all mv_crow = true := by decide +kernel
theorem cr_L_spilled : t_L_spilled.all mv_crow = true := by decide +kernel
theorem cr_L_floodedSteps : t_L_floodedSteps.all mv_crow = true := by decide +kernel
theorem cr_L_basinAtRank : t_L_basinAtRank.all mv_crow = true := by decide +kernel
theorem cr_L_rainAt : t_L_rainAt.all mv_crow = true := by decide +kernel
theorem cr_L_meanFill : t_L_meanFill.all mv_crow = true := by decide +kernel
theorem cr_L_floodShare : t_L_floodShare.all mv_crow = true := by decide +kernel
theorem cr_L_levelAfter : t_L_levelAfter.all mv_crow = true := by decide +kernel
theorem cr_L_spillOf : t_L_spillOf.all mv_crow = true := by decide +kernel
theorem cr_L_stepsUntilFlood : t_L_stepsUntilFlood.all mv_crow = true := by decide +kernel
theorem cr_L_leastSpill : t_L_leastSpill.all mv_crow = true := by decide +kernel
theorem cr_L_leastSpillByPruning : t_L_leastSpillByPruning.all mv_crow = true := by decide +kernel
theorem cr_L_bestOpening : t_L_bestOpening.all mv_crow = true := by decide +kernel
theorem cr_L_endangered : t_L_endangered.all mv_crow = true := by decide +kernel
theorem cr_L_bestProtection : t_L_bestProtection.all mv_crow = true := by decide +kernel
theorem cr_L_bestProtectionBySets : t_L_bestProtectionBySets.all mv_crow = true := by decide +kernel
theorem cr_L_bagsForAll : t_L_bagsForAll.all mv_crow = true := by decide +kernel
theorem cr_L_append : t_L_append.all mv_crow = true := by decide +kernel
theorem cr_L_run : t_L_run.all mv_crow = true := by decide +kernel
theorem cr_L_errorPosition : t_L_errorPosition.all mv_crow = true := by decide +kernel
theorem cr_L_failedCommand : t_L_failedCommand.all mv_crow = true := by decide +kernel
theorem cr_L_outputAt : t_L_outputAt.all mv_crow = true := by decide +kernel
theorem cr_L_undo : t_L_undo.all mv_crow = true := by decide +kernel
theorem cr_L_restore : t_L_restore.all mv_crow = true := by decide +kernel
theorem cr_L_law_0 : t_L_law_0.all mv_crow = true := by decide +kernel
theorem cr_L_law_1 : t_L_law_1.all mv_crow = true := by decide +kernel
theorem cr_L_law_2 : t_L_law_2.all mv_crow = true := by decide +kernel
theorem cr_L_law_3 : t_L_law_3.all mv_crow = true := by decide +kernel
theorem cr_L_law_4 : t_L_law_4.all mv_crow = true := by decide +kernel
theorem cr_L_law_5 : t_L_law_5.all mv_crow = true := by decide +kernel
theorem cr_L_law_6 : t_L_law_6.all mv_crow = true := by decide +kernel
theorem cr_L_law_7 : t_L_law_7.all mv_crow = true := by decide +kernel
theorem cr_L_law_8 : t_L_law_8.all mv_crow = true := by decide +kernel
theorem cr_L_law_9 : t_L_law_9.all mv_crow = true := by decide +kernel
theorem cr_L_law_10 : t_L_law_10.all mv_crow = true := by decide +kernel
theorem cr_L_law_11 : t_L_law_11.all mv_crow = true := by decide +kernel
theorem cr_L_law_12 : t_L_law_12.all mv_crow = true := by decide +kernel
theorem cr_L_law_13 : t_L_law_13.all mv_crow = true := by decide +kernel
theorem cr_L_law_14 : t_L_law_14.all mv_crow = true := by decide +kernel
theorem cr_L_law_15 : t_L_law_15.all mv_crow = true := by decide +kernel
theorem cr_L_law_16 : t_L_law_16.all mv_crow = true := by decide +kernel
theorem cr_L_law_17 : t_L_law_17.all mv_crow = true := by decide +kernel
theorem cr_L_law_18 : t_L_law_18.all mv_crow = true := by decide +kernel
theorem cr_L_law_19 : t_L_law_19.all mv_crow = true := by decide +kernel
theorem cr_L_law_20 : t_L_law_20.all mv_crow = true := by decide +kernel
theorem cr_L_law_21 : t_L_law_21.all mv_crow = true := by decide +kernel
theorem cr_L_law_22 : t_L_law_22.all mv_crow = true := by decide +kernel
theorem cr_L_law_23 : t_L_law_23.all mv_crow = true := by decide +kernel
theorem cr_L_law_24 : t_L_law_24.all mv_crow = true := by decide +kernel
theorem cr_L_law : t_L_law.all mv_crow = true := (mv_alla cr_L_law_0 (mv_alla cr_L_law_1 (mv_alla cr_L_law_2 (mv_alla cr_L_law_3 (mv_alla cr_L_law_4 (mv_alla cr_L_law_5 (mv_alla cr_L_law_6 (mv_alla cr_L_law_7 (mv_alla cr_L_law_8 (mv_alla cr_L_law_9 (mv_alla cr_L_law_10 (mv_alla cr_L_law_11 (mv_alla cr_L_law_12 (mv_alla cr_L_law_13 (mv_alla cr_L_law_14 (mv_alla cr_L_law_15 (mv_alla cr_L_law_16 (mv_alla cr_L_law_17 (mv_alla cr_L_law_18 (mv_alla cr_L_law_19 (mv_alla cr_L_law_20 (mv_alla cr_L_law_21 (mv_alla cr_L_law_22 (mv_alla cr_L_law_23 cr_L_law_24))))))))))))))))))))))))
def mv_allc : List (List (Nat × mv_I)) → Prop
  | [] => True
  | t :: ts => t.all mv_crow = true ∧ mv_allc ts
theorem mv_allc_app : ∀ {a c : List (List (Nat × mv_I))}, mv_allc a → mv_allc c → mv_allc (a ++ c)
  | [], _, _, h => h
  | _ :: _, _, h, h' => ⟨h.1, mv_allc_app h.2 h'⟩
theorem mv_allc_0 : mv_allc mv_tb0 := ⟨cr_X1_init, ⟨cr_X1_begin, ⟨cr_X1_copyFrom, ⟨cr_X1_moveAutomaticGate, ⟨cr_X1_letOut, ⟨cr_X1_spillOver, ⟨cr_X2_init, ⟨cr_X2_copyFrom, ⟨cr_X2_copyWithOpening, ⟨cr_X2_hasBasin, ⟨cr_X2_faultOf, ⟨cr_X2_faultOfNewBasin, ⟨cr_X2_faultAtBasin, ⟨cr_X2_faultOfGate, ⟨cr_X2_faultOfHand, ⟨cr_X2_faultOfRain, ⟨cr_X2_faultOfPour, ⟨cr_X2_faultOfPrediction, ⟨cr_X2_faultOfPlan, ⟨cr_X2_carryOut, ⟨cr_X2_useNextBasin, ⟨cr_X2_turnGate, ⟨cr_X2_makeAutomatic, ⟨cr_X2_makeManual, ⟨cr_X2_countAutomatic, ⟨cr_X2_expectRain, ⟨cr_X2_dropForecast, ⟨cr_X2_pourInto, ⟨cr_X2_passSteps, ⟨cr_X2_passStep, ⟨cr_X2_takeRain, ⟨cr_X2_rainDown, ⟨cr_X2_flowDown, ⟨cr_X2_rankOf, ⟨cr_X2_isRankedBefore, ⟨cr_X2_levelsFit, ⟨cr_X2_sumOfLevels, ⟨cr_X2_balanceOfAccounts, ⟨cr_X2_sumOfFloodedSteps, ⟨cr_X5_init, trivial⟩⟩⟩⟩⟩⟩⟩⟩⟩⟩⟩⟩⟩⟩⟩⟩⟩⟩⟩⟩⟩⟩⟩⟩⟩⟩⟩⟩⟩⟩⟩⟩⟩⟩⟩⟩⟩⟩⟩⟩
theorem mv_allc_1 : mv_allc mv_tb1 := ⟨cr_X5_remember, ⟨cr_X5_takeLatest, ⟨cr_X6_init, ⟨cr_X6_put, ⟨cr_X6_putNumber, ⟨cr_X6_putDigit, ⟨cr_X7_init, ⟨cr_X7_leastOfAll, ⟨cr_X7_leastByCutting, ⟨cr_X7_lowestFirstOpening, ⟨cr_X7_leastFrom, ⟨cr_X7_leastBelow, ⟨cr_X8_init, ⟨cr_X8_take, ⟨cr_X8_countCommands, ⟨cr_X8_readCommand, ⟨cr_X8_commandAtPosition, ⟨cr_X8_readPattern, ⟨cr_X8_readPart, ⟨cr_X8_readSign, ⟨cr_X8_readNumber, ⟨cr_X8_isAtDigit, ⟨cr_X9_init, ⟨cr_X9_include, ⟨cr_X9_sumOfBags, ⟨cr_X9_bestByTable, ⟨cr_X9_improveTable, ⟨cr_X9_bestBySets, ⟨cr_X9_bagsOfSet, ⟨cr_X9_valueOfSet, ⟨cr_X10_init, ⟨cr_X10_addBasin, ⟨cr_X10_setGate, ⟨cr_X10_setAutomatic, ⟨cr_X10_setManual, ⟨cr_X10_addRain, ⟨cr_X10_clearForecast, ⟨cr_X10_pour, ⟨cr_X10_advance, ⟨cr_X10_change, trivial⟩⟩⟩⟩⟩⟩⟩⟩⟩⟩⟩⟩⟩⟩⟩⟩⟩⟩⟩⟩⟩⟩⟩⟩⟩⟩⟩⟩⟩⟩⟩⟩⟩⟩⟩⟩⟩⟩⟩⟩
theorem mv_allc_2 : mv_allc mv_tb2 := ⟨cr_X10_basinCount, ⟨cr_X10_capacity, ⟨cr_X10_level, ⟨cr_X10_catchment, ⟨cr_X10_fieldValue, ⟨cr_X10_opening, ⟨cr_X10_isAutomatic, ⟨cr_X10_threshold, ⟨cr_X10_spilled, ⟨cr_X10_floodedSteps, ⟨cr_X10_basinAtRank, ⟨cr_X10_time, ⟨cr_X10_forecastLength, ⟨cr_X10_rainAt, ⟨cr_X10_stored, ⟨cr_X10_storedByAccounts, ⟨cr_X10_riverTotal, ⟨cr_X10_meanFill, ⟨cr_X10_floodShare, ⟨cr_X10_levelAfter, ⟨cr_X10_spillOf, ⟨cr_X10_stepsUntilFlood, ⟨cr_X10_lookAhead, ⟨cr_X10_expectedSpill, ⟨cr_X10_leastSpill, ⟨cr_X10_leastSpillByPruning, ⟨cr_X10_bestOpening, ⟨cr_X10_endangered, ⟨cr_X10_bestProtection, ⟨cr_X10_bestProtectionBySets, ⟨cr_X10_bagsForAll, ⟨cr_X10_isConsistent, ⟨cr_X10_gatherEndangered, ⟨cr_X10_leastSpillsAgree, ⟨cr_X10_protectionsAgree, ⟨cr_X10_append, ⟨cr_X10_run, ⟨cr_X10_errorPosition, ⟨cr_X10_failedCommand, ⟨cr_X10_carryOutProgram, trivial⟩⟩⟩⟩⟩⟩⟩⟩⟩⟩⟩⟩⟩⟩⟩⟩⟩⟩⟩⟩⟩⟩⟩⟩⟩⟩⟩⟩⟩⟩⟩⟩⟩⟩⟩⟩⟩⟩⟩⟩
theorem mv_allc_3 : mv_allc mv_tb3 := ⟨cr_X10_writeChain, ⟨cr_X10_writeForecast, ⟨cr_X10_outputAt, ⟨cr_X10_writeBasin, ⟨cr_X10_undo, ⟨cr_X10_save, ⟨cr_X10_restore, ⟨cr_X10_existingBasin, ⟨cr_X10_faultOfRange, ⟨cr_X10_throwFor, ⟨cr_X11_init, ⟨cr_X11_thrown, ⟨cr_X11_in, ⟨cr_X11_copies, ⟨cr_X11_begins, ⟨cr_X11_ends, ⟨cr_X11_isFine, ⟨cr_X11_b, ⟨cr_X11_set, ⟨cr_X11_adds, ⟨cr_X11_isBasin, ⟨cr_X11_autos, ⟨cr_X11_falls, ⟨cr_X11_flows, ⟨cr_X11_steps, ⟨cr_X11_builds, ⟨cr_X11_addBasin, ⟨cr_X11_opens, ⟨cr_X11_setGate, ⟨cr_X11_guards, ⟨cr_X11_setAutomatic, ⟨cr_X11_frees, ⟨cr_X11_setManual, ⟨cr_X11_expects, ⟨cr_X11_addRain, ⟨cr_X11_clears, ⟨cr_X11_clearForecast, ⟨cr_X11_pours, ⟨cr_X11_pour, ⟨cr_X11_goesOn, trivial⟩⟩⟩⟩⟩⟩⟩⟩⟩⟩⟩⟩⟩⟩⟩⟩⟩⟩⟩⟩⟩⟩⟩⟩⟩⟩⟩⟩⟩⟩⟩⟩⟩⟩⟩⟩⟩⟩⟩⟩
theorem mv_allc_4 : mv_allc mv_tb4 := ⟨cr_X11_advance, ⟨cr_X11_told, ⟨cr_X11_basinCount, ⟨cr_X11_ofBasin, ⟨cr_X11_capacity, ⟨cr_X11_level, ⟨cr_X11_catchment, ⟨cr_X11_fieldValue, ⟨cr_X11_opening, ⟨cr_X11_isAutomatic, ⟨cr_X11_threshold, ⟨cr_X11_spilled, ⟨cr_X11_floodedSteps, ⟨cr_X11_isAhead, ⟨cr_X11_basinAtRank, ⟨cr_X11_time, ⟨cr_X11_forecastLength, ⟨cr_X11_rainAt, ⟨cr_X11_sum, ⟨cr_X11_stored, ⟨cr_X11_storedByAccounts, ⟨cr_X11_riverTotal, ⟨cr_X11_meanFill, ⟨cr_X11_floodShare, ⟨cr_X11_later, ⟨cr_X11_spills, ⟨cr_X11_isAsked, ⟨cr_X11_levelAfter, ⟨cr_X11_spillOf, ⟨cr_X11_stepsUntilFlood, ⟨cr_X11_plans, ⟨cr_X11_isPlanned, ⟨cr_X11_leastSpill, ⟨cr_X11_leastSpillByPruning, ⟨cr_X11_bestOpening, ⟨cr_X11_isTime, ⟨cr_X11_endangered, ⟨cr_X11_bestProtection, ⟨cr_X11_bestProtectionBySets, ⟨cr_X11_bagsForAll, trivial⟩⟩⟩⟩⟩⟩⟩⟩⟩⟩⟩⟩⟩⟩⟩⟩⟩⟩⟩⟩⟩⟩⟩⟩⟩⟩⟩⟩⟩⟩⟩⟩⟩⟩⟩⟩⟩⟩⟩⟩
theorem mv_allc_5 : mv_allc mv_tb5 := ⟨cr_X11_isConsistent, ⟨cr_X11_append, ⟨cr_X11_sign, ⟨cr_X11_needs, ⟨cr_X11_letters, ⟨cr_X11_number, ⟨cr_X11_isWord, ⟨cr_X11_command, ⟨cr_X11_parse, ⟨cr_X11_does, ⟨cr_X11_run, ⟨cr_X11_errorPosition, ⟨cr_X11_failedCommand, ⟨cr_X11_writes, ⟨cr_X11_writesNumber, ⟨cr_X11_writesBehind, ⟨cr_X11_writeChain, ⟨cr_X11_writeForecast, ⟨cr_X11_outputAt, ⟨cr_X11_undo, ⟨cr_X11_save, ⟨cr_X11_restore, ⟨cr_L_addBasin, ⟨cr_L_setGate, ⟨cr_L_setAutomatic, ⟨cr_L_setManual, ⟨cr_L_addRain, ⟨cr_L_pour, ⟨cr_L_advance, ⟨cr_L_capacity, ⟨cr_L_level, ⟨cr_L_catchment, ⟨cr_L_fieldValue, ⟨cr_L_opening, ⟨cr_L_isAutomatic, ⟨cr_L_threshold, ⟨cr_L_spilled, ⟨cr_L_floodedSteps, ⟨cr_L_basinAtRank, ⟨cr_L_rainAt, trivial⟩⟩⟩⟩⟩⟩⟩⟩⟩⟩⟩⟩⟩⟩⟩⟩⟩⟩⟩⟩⟩⟩⟩⟩⟩⟩⟩⟩⟩⟩⟩⟩⟩⟩⟩⟩⟩⟩⟩⟩
theorem mv_allc_6 : mv_allc mv_tb6 := ⟨cr_L_meanFill, ⟨cr_L_floodShare, ⟨cr_L_levelAfter, ⟨cr_L_spillOf, ⟨cr_L_stepsUntilFlood, ⟨cr_L_leastSpill, ⟨cr_L_leastSpillByPruning, ⟨cr_L_bestOpening, ⟨cr_L_endangered, ⟨cr_L_bestProtection, ⟨cr_L_bestProtectionBySets, ⟨cr_L_bagsForAll, ⟨cr_L_append, ⟨cr_L_run, ⟨cr_L_errorPosition, ⟨cr_L_failedCommand, ⟨cr_L_outputAt, ⟨cr_L_undo, ⟨cr_L_restore, ⟨cr_L_law, trivial⟩⟩⟩⟩⟩⟩⟩⟩⟩⟩⟩⟩⟩⟩⟩⟩⟩⟩⟩⟩
theorem mv_allcs : mv_allc mv_tbs := mv_allc_app mv_allc_0 (mv_allc_app mv_allc_1 (mv_allc_app mv_allc_2 (mv_allc_app mv_allc_3 (mv_allc_app mv_allc_4 (mv_allc_app mv_allc_5 (mv_allc_6))))))
theorem mv_allc_at : ∀ {a : List (List (Nat × mv_I))} {M : Nat} {t : List (Nat × mv_I)}, mv_allc a → a[M]? = some t → t.all mv_crow = true
  | [], _, _, _, h => by simp at h
  | _ :: _, 0, _, h, h2 => by
    simp only [List.getElem?_cons_zero, Option.some.injEq] at h2
    subst h2
    exact h.1
  | _ :: _, M + 1, _, h, h2 => by
    simp only [List.getElem?_cons_succ] at h2
    exact mv_allc_at h.2 h2
theorem mv_row3 {M pc : Nat} {r : mv_I} (h : mv_in M pc = some r) : mv_crow (pc, r) = true := by
  unfold mv_in mv_tb at h
  have hm := mv_find_mem h
  cases ht : mv_tbs[M]? with
  | none => rw [List.getD_eq_getElem?_getD, ht] at hm; simp at hm
  | some t =>
    have h1 := mv_allc_at mv_allcs ht
    rw [List.getD_eq_getElem?_getD, ht] at hm
    exact List.all_eq_true.mp h1 _ hm
