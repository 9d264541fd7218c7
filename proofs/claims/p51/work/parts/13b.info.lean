/-! what is called and how: number of parameters; 0: by the receiver, 1: static, 2: constructor, 3: static with a table -/
noncomputable def mv_ci : List (Nat × Nat) := [(0, 2), (3, 0), (1, 0), (0, 0), (0, 0), (0, 0), (0, 2), (1, 0), (3, 0), (1, 0), (4, 0), (3, 0), (4, 0), (2, 0), (1, 0), (1, 0), (2, 0), (2, 0), (2, 0), (4, 0), (3, 0), (2, 0), (2, 0), (1, 0), (0, 0), (1, 0), (0, 0), (2, 0), (1, 0), (0, 0), (0, 0), (1, 0), (0, 0), (1, 0), (2, 0), (0, 0), (0, 0), (0, 0), (0, 0), (0, 2), (1, 0), (0, 2), (1, 0), (1, 0), (1, 0), (0, 2), (3, 0), (3, 0), (3, 0), (4, 1), (6, 1), (0, 2), (0, 2), (2, 0), (0, 0), (1, 0), (2, 0), (1, 0), (1, 0), (1, 0), (0, 2), (3, 0), (2, 0), (2, 0), (1, 0), (1, 0), (0, 0), (2, 0), (1, 0), (4, 0), (0, 0), (1, 0), (1, 0), (1, 0), (1, 0), (1, 0), (1, 0), (1, 0), (1, 0), (1, 0), (0, 0), (0, 0), (1, 0), (0, 0), (0, 0), (0, 0), (0, 0), (0, 0), (2, 0), (2, 0), (0, 0), (1, 0), (1, 0), (2, 0), (2, 0), (2, 0), (1, 0), (2, 0), (2, 0), (1, 0), (0, 0), (1, 0), (0, 0), (0, 0), (0, 0), (0, 0), (1, 0), (1, 0), (1, 0), (3, 1), (1, 1), (2, 1), (3, 1), (4, 3), (3, 3), (3, 3), (2, 3), (2, 3), (3, 3), (2, 3), (2, 3), (2, 3), (2, 3), (1, 3), (2, 1), (3, 1), (3, 1), (1, 4)]
noncomputable def mv_cif (M : Nat) : Nat × Nat := mv_ci.getD M (0, 9)
noncomputable def mv_cok (M : Nat) : Bool := mv_mok (mv_mi M) && decide ((parseMethodDescriptor (mv_mi M).2.1.desc).map (fun d => d.parameters.length) = some (mv_cif M).1) &&
  (match (mv_cif M).2 with
    | 0 => decide ((mv_mi M).2.2.2.2.2.2.2.2 = 0) && decide (lw_tbl[(mv_mi M).2.2.2.2.2.2.1]? = some (.selects (mv_mi M).2.1.cls (mv_mi M).2.1 (mv_mi M).2.1))
    | 1 => decide ((mv_mi M).2.2.2.2.2.2.2.2 = 1)
    | 2 => decide ((mv_mi M).2.2.2.2.2.2.2.2 = 0) && decide ((mv_mi M).2.1.name = "<init>") && decide ((mv_mi M).2.2.2.1 = none)
    | 3 => decide ((mv_mi M).2.2.2.2.2.2.2.2 = 3) && decide (lw_tbl[(mv_mi M).2.2.2.2.1]? = some (mv_w1 M))
    | _ => false) && decide ((mv_mi M).2.2.1 ≤ 20) && (mv_nh M == decide (¬ (mv_cif M).2 = 3))
theorem mv_cok0 : ((List.range 20).all (fun j => mv_cok (0 + j))) = true := by decide +kernel
theorem mv_cok1 : ((List.range 20).all (fun j => mv_cok (20 + j))) = true := by decide +kernel
theorem mv_cok2 : ((List.range 20).all (fun j => mv_cok (40 + j))) = true := by decide +kernel
theorem mv_cok3 : ((List.range 20).all (fun j => mv_cok (60 + j))) = true := by decide +kernel
theorem mv_cok4 : ((List.range 20).all (fun j => mv_cok (80 + j))) = true := by decide +kernel
theorem mv_cok5 : ((List.range 20).all (fun j => mv_cok (100 + j))) = true := by decide +kernel
theorem mv_cok6 : ((List.range 7).all (fun j => mv_cok (120 + j))) = true := by decide +kernel
theorem mv_cok_at {M : Nat} (h : M < 127) : mv_cok M = true := by
  have key : ∀ (b n : Nat), ((List.range n).all (fun j => mv_cok (b + j))) = true → b ≤ M → M < b + n → mv_cok M = true := by
    intro b n h1 h2 h3
    have := List.all_eq_true.mp h1 (M - b) (List.mem_range.mpr (by omega))
    rwa [show b + (M - b) = M by omega] at this
  rcases Nat.lt_or_ge M 20 with q | q
  · exact key 0 20 mv_cok0 (by omega) (by omega)
  rcases Nat.lt_or_ge M 40 with q1 | q1
  · exact key 20 20 mv_cok1 (by omega) (by omega)
  rcases Nat.lt_or_ge M 60 with q2 | q2
  · exact key 40 20 mv_cok2 (by omega) (by omega)
  rcases Nat.lt_or_ge M 80 with q3 | q3
  · exact key 60 20 mv_cok3 (by omega) (by omega)
  rcases Nat.lt_or_ge M 100 with q4 | q4
  · exact key 80 20 mv_cok4 (by omega) (by omega)
  rcases Nat.lt_or_ge M 120 with q5 | q5
  · exact key 100 20 mv_cok5 (by omega) (by omega)
  exact key 120 7 mv_cok6 (by omega) (by omega)
/-- a row that calls agrees with what is called -/
noncomputable def mv_crow (q : Nat × mv_I) : Bool := match q.2 with
  | (.invokevirtual _, _, a, b, _) => !decide (a < 900) || (decide (a < 127) && decide (mv_cif a = (b - 1, 0)) && decide (0 < b) && decide (mv_cn a < 8))
  | (.invokestatic _, _, a, b, w) => !decide (a < 900) || (decide (a < 127) && (decide (mv_cif a = (b, 1)) || (decide (mv_cif a = (b, 3)) && (match lw_tbl[w]? with | some (.methodLink _ _ _) => true | _ => false))))
  | (.invokespecial _, _, a, b, _) => !decide (a < 900) || (decide (a < 127) && decide (mv_cif a = (b - 1, 2)) && decide (0 < b))
  | (.new _, _, a, b, _) => !decide (a = 99) || decide (mv_e6 b = true)
  | _ => true
theorem cr_X1_init : t_X1_init.all mv_crow = true := by decide +kernel
theorem cr_X1_begin : t_X1_begin.all mv_crow = true := by decide +kernel
theorem cr_X1_copyFrom : t_X1_copyFrom.all mv_crow = true := by decide +kernel
theorem cr_X1_moveAutomaticGate : t_X1_moveAutomaticGate.all mv_crow = true := by decide +kernel
theorem cr_X1_letOut : t_X1_letOut.all mv_crow = true := by decide +kernel
theorem cr_X1_spillOver : t_X1_spillOver.all mv_crow = true := by decide +kernel
theorem cr_X2_init : t_X2_init.all mv_crow = true := by decide +kernel
theorem cr_X2_copyFrom : t_X2_copyFrom.all mv_crow = true := by decide +kernel
theorem cr_X2_copyWithOpening : t_X2_copyWithOpening.all mv_crow = true := by decide +kernel
theorem cr_X2_hasBasin : t_X2_hasBasin.all mv_crow = true := by decide +kernel
theorem cr_X2_faultOf : t_X2_faultOf.all mv_crow = true := by decide +kernel
theorem cr_X2_faultOfNewBasin : t_X2_faultOfNewBasin.all mv_crow = true := by decide +kernel
theorem cr_X2_faultAtBasin : t_X2_faultAtBasin.all mv_crow = true := by decide +kernel
theorem cr_X2_faultOfGate : t_X2_faultOfGate.all mv_crow = true := by decide +kernel
theorem cr_X2_faultOfHand : t_X2_faultOfHand.all mv_crow = true := by decide +kernel
theorem cr_X2_faultOfRain : t_X2_faultOfRain.all mv_crow = true := by decide +kernel
theorem cr_X2_faultOfPour : t_X2_faultOfPour.all mv_crow = true := by decide +kernel
theorem cr_X2_faultOfPrediction : t_X2_faultOfPrediction.all mv_crow = true := by decide +kernel
theorem cr_X2_faultOfPlan : t_X2_faultOfPlan.all mv_crow = true := by decide +kernel
theorem cr_X2_carryOut : t_X2_carryOut.all mv_crow = true := by decide +kernel
theorem cr_X2_useNextBasin : t_X2_useNextBasin.all mv_crow = true := by decide +kernel
theorem cr_X2_turnGate : t_X2_turnGate.all mv_crow = true := by decide +kernel
theorem cr_X2_makeAutomatic : t_X2_makeAutomatic.all mv_crow = true := by decide +kernel
theorem cr_X2_makeManual : t_X2_makeManual.all mv_crow = true := by decide +kernel
theorem cr_X2_countAutomatic : t_X2_countAutomatic.all mv_crow = true := by decide +kernel
theorem cr_X2_expectRain : t_X2_expectRain.all mv_crow = true := by decide +kernel
theorem cr_X2_dropForecast : t_X2_dropForecast.all mv_crow = true := by decide +kernel
theorem cr_X2_pourInto : t_X2_pourInto.all mv_crow = true := by decide +kernel
theorem cr_X2_passSteps : t_X2_passSteps.all mv_crow = true := by decide +kernel
theorem cr_X2_passStep : t_X2_passStep.all mv_crow = true := by decide +kernel
theorem cr_X2_takeRain : t_X2_takeRain.all mv_crow = true := by decide +kernel
theorem cr_X2_rainDown : t_X2_rainDown.all mv_crow = true := by decide +kernel
theorem cr_X2_flowDown : t_X2_flowDown.all mv_crow = true := by decide +kernel
theorem cr_X2_rankOf : t_X2_rankOf.all mv_crow = true := by decide +kernel
theorem cr_X2_isRankedBefore : t_X2_isRankedBefore.all mv_crow = true := by decide +kernel
theorem cr_X2_levelsFit : t_X2_levelsFit.all mv_crow = true := by decide +kernel
theorem cr_X2_sumOfLevels : t_X2_sumOfLevels.all mv_crow = true := by decide +kernel
theorem cr_X2_balanceOfAccounts : t_X2_balanceOfAccounts.all mv_crow = true := by decide +kernel
theorem cr_X2_sumOfFloodedSteps : t_X2_sumOfFloodedSteps.all mv_crow = true := by decide +kernel
theorem cr_X5_init : t_X5_init.all mv_crow = true := by decide +kernel
theorem cr_X5_remember : t_X5_remember.all mv_crow = true := by decide +kernel
theorem cr_X6_init : t_X6_init.all mv_crow = true := by decide +kernel
theorem cr_X6_put : t_X6_put.all mv_crow = true := by decide +kernel
theorem cr_X6_putNumber : t_X6_putNumber.all mv_crow = true := by decide +kernel
theorem cr_X6_putDigit : t_X6_putDigit.all mv_crow = true := by decide +kernel
theorem cr_X7_init : t_X7_init.all mv_crow = true := by decide +kernel
theorem cr_X7_leastOfAll : t_X7_leastOfAll.all mv_crow = true := by decide +kernel
theorem cr_X7_leastByCutting : t_X7_leastByCutting.all mv_crow = true := by decide +kernel
theorem cr_X7_lowestFirstOpening : t_X7_lowestFirstOpening.all mv_crow = true := by decide +kernel
theorem cr_X7_leastFrom : t_X7_leastFrom.all mv_crow = true := by decide +kernel
theorem cr_X7_leastBelow : t_X7_leastBelow.all mv_crow = true := by decide +kernel
theorem cr_X8_init : t_X8_init.all mv_crow = true := by decide +kernel
theorem cr_X9_init : t_X9_init.all mv_crow = true := by decide +kernel
theorem cr_X9_include : t_X9_include.all mv_crow = true := by decide +kernel
theorem cr_X9_sumOfBags : t_X9_sumOfBags.all mv_crow = true := by decide +kernel
theorem cr_X9_bestByTable : t_X9_bestByTable.all mv_crow = true := by decide +kernel
theorem cr_X9_improveTable : t_X9_improveTable.all mv_crow = true := by decide +kernel
theorem cr_X9_bestBySets : t_X9_bestBySets.all mv_crow = true := by decide +kernel
theorem cr_X9_bagsOfSet : t_X9_bagsOfSet.all mv_crow = true := by decide +kernel
theorem cr_X9_valueOfSet : t_X9_valueOfSet.all mv_crow = true := by decide +kernel
theorem cr_X10_init : t_X10_init.all mv_crow = true := by decide +kernel
theorem cr_X10_addBasin : t_X10_addBasin.all mv_crow = true := by decide +kernel
theorem cr_X10_setGate : t_X10_setGate.all mv_crow = true := by decide +kernel
theorem cr_X10_setAutomatic : t_X10_setAutomatic.all mv_crow = true := by decide +kernel
theorem cr_X10_setManual : t_X10_setManual.all mv_crow = true := by decide +kernel
theorem cr_X10_addRain : t_X10_addRain.all mv_crow = true := by decide +kernel
theorem cr_X10_clearForecast : t_X10_clearForecast.all mv_crow = true := by decide +kernel
theorem cr_X10_pour : t_X10_pour.all mv_crow = true := by decide +kernel
theorem cr_X10_advance : t_X10_advance.all mv_crow = true := by decide +kernel
theorem cr_X10_change : t_X10_change.all mv_crow = true := by decide +kernel
theorem cr_X10_basinCount : t_X10_basinCount.all mv_crow = true := by decide +kernel
theorem cr_X10_capacity : t_X10_capacity.all mv_crow = true := by decide +kernel
theorem cr_X10_level : t_X10_level.all mv_crow = true := by decide +kernel
theorem cr_X10_fieldValue : t_X10_fieldValue.all mv_crow = true := by decide +kernel
theorem cr_X10_opening : t_X10_opening.all mv_crow = true := by decide +kernel
theorem cr_X10_isAutomatic : t_X10_isAutomatic.all mv_crow = true := by decide +kernel
theorem cr_X10_threshold : t_X10_threshold.all mv_crow = true := by decide +kernel
theorem cr_X10_spilled : t_X10_spilled.all mv_crow = true := by decide +kernel
theorem cr_X10_floodedSteps : t_X10_floodedSteps.all mv_crow = true := by decide +kernel
theorem cr_X10_basinAtRank : t_X10_basinAtRank.all mv_crow = true := by decide +kernel
theorem cr_X10_time : t_X10_time.all mv_crow = true := by decide +kernel
theorem cr_X10_forecastLength : t_X10_forecastLength.all mv_crow = true := by decide +kernel
theorem cr_X10_rainAt : t_X10_rainAt.all mv_crow = true := by decide +kernel
theorem cr_X10_stored : t_X10_stored.all mv_crow = true := by decide +kernel
theorem cr_X10_storedByAccounts : t_X10_storedByAccounts.all mv_crow = true := by decide +kernel
theorem cr_X10_riverTotal : t_X10_riverTotal.all mv_crow = true := by decide +kernel
theorem cr_X10_meanFill : t_X10_meanFill.all mv_crow = true := by decide +kernel
theorem cr_X10_floodShare : t_X10_floodShare.all mv_crow = true := by decide +kernel
theorem cr_X10_levelAfter : t_X10_levelAfter.all mv_crow = true := by decide +kernel
theorem cr_X10_spillOf : t_X10_spillOf.all mv_crow = true := by decide +kernel
theorem cr_X10_stepsUntilFlood : t_X10_stepsUntilFlood.all mv_crow = true := by decide +kernel
theorem cr_X10_lookAhead : t_X10_lookAhead.all mv_crow = true := by decide +kernel
theorem cr_X10_expectedSpill : t_X10_expectedSpill.all mv_crow = true := by decide +kernel
theorem cr_X10_leastSpill : t_X10_leastSpill.all mv_crow = true := by decide +kernel
theorem cr_X10_leastSpillByPruning : t_X10_leastSpillByPruning.all mv_crow = true := by decide +kernel
theorem cr_X10_bestOpening : t_X10_bestOpening.all mv_crow = true := by decide +kernel
theorem cr_X10_endangered : t_X10_endangered.all mv_crow = true := by decide +kernel
theorem cr_X10_bestProtection : t_X10_bestProtection.all mv_crow = true := by decide +kernel
theorem cr_X10_bestProtectionBySets : t_X10_bestProtectionBySets.all mv_crow = true := by decide +kernel
theorem cr_X10_bagsForAll : t_X10_bagsForAll.all mv_crow = true := by decide +kernel
theorem cr_X10_isConsistent : t_X10_isConsistent.all mv_crow = true := by decide +kernel
theorem cr_X10_gatherEndangered : t_X10_gatherEndangered.all mv_crow = true := by decide +kernel
theorem cr_X10_leastSpillsAgree : t_X10_leastSpillsAgree.all mv_crow = true := by decide +kernel
theorem cr_X10_protectionsAgree : t_X10_protectionsAgree.all mv_crow = true := by decide +kernel
theorem cr_X10_writeChain : t_X10_writeChain.all mv_crow = true := by decide +kernel
theorem cr_X10_writeForecast : t_X10_writeForecast.all mv_crow = true := by decide +kernel
theorem cr_X10_outputAt : t_X10_outputAt.all mv_crow = true := by decide +kernel
theorem cr_X10_writeBasin : t_X10_writeBasin.all mv_crow = true := by decide +kernel
theorem cr_X10_existingBasin : t_X10_existingBasin.all mv_crow = true := by decide +kernel
theorem cr_X10_faultOfRange : t_X10_faultOfRange.all mv_crow = true := by decide +kernel
theorem cr_X10_throwFor : t_X10_throwFor.all mv_crow = true := by decide +kernel
theorem cr_L_cell : t_L_cell.all mv_crow = true := by decide +kernel
theorem cr_L_some : t_L_some.all mv_crow = true := by decide +kernel
theorem cr_L_addBasin : t_L_addBasin.all mv_crow = true := by decide +kernel
theorem cr_L_setGate : t_L_setGate.all mv_crow = true := by decide +kernel
theorem cr_L_setAutomatic : t_L_setAutomatic.all mv_crow = true := by decide +kernel
theorem cr_L_setManual : t_L_setManual.all mv_crow = true := by decide +kernel
theorem cr_L_addRain : t_L_addRain.all mv_crow = true := by decide +kernel
theorem cr_L_pour : t_L_pour.all mv_crow = true := by decide +kernel
theorem cr_L_advance : t_L_advance.all mv_crow = true := by decide +kernel
theorem cr_L_threshold : t_L_threshold.all mv_crow = true := by decide +kernel
theorem cr_L_basinAtRank : t_L_basinAtRank.all mv_crow = true := by decide +kernel
theorem cr_L_rainAt : t_L_rainAt.all mv_crow = true := by decide +kernel
theorem cr_L_stepsUntilFlood : t_L_stepsUntilFlood.all mv_crow = true := by decide +kernel
theorem cr_L_build : t_L_build.all mv_crow = true := by decide +kernel
theorem cr_L_acts : t_L_acts.all mv_crow = true := by decide +kernel
theorem cr_L_isLine : t_L_isLine.all mv_crow = true := by decide +kernel
theorem cr_L_law_0 : t_L_law_0.all mv_crow = true := by decide +kernel
theorem cr_L_law_1 : t_L_law_1.all mv_crow = true := by decide +kernel
theorem cr_L_law_2 : t_L_law_2.all mv_crow = true := by decide +kernel
theorem cr_L_law_3 : t_L_law_3.all mv_crow = true := by decide +kernel
theorem cr_L_law_4 : t_L_law_4.all mv_crow = true := by decide +kernel
theorem cr_L_law_5 : t_L_law_5.all mv_crow = true := by decide +kernel
theorem cr_L_law_6 : t_L_law_6.all mv_crow = true := by decide +kernel
theorem cr_L_law_7 : t_L_law_7.all mv_crow = true := by decide +kernel
theorem cr_L_law_8 : t_L_law_8.all mv_crow = true := by decide +kernel
theorem cr_L_law : t_L_law.all mv_crow = true := (mv_alla cr_L_law_0 (mv_alla cr_L_law_1 (mv_alla cr_L_law_2 (mv_alla cr_L_law_3 (mv_alla cr_L_law_4 (mv_alla cr_L_law_5 (mv_alla cr_L_law_6 (mv_alla cr_L_law_7 cr_L_law_8))))))))
def mv_allc : List (List (Nat × mv_I)) → Prop
  | [] => True
  | t :: ts => t.all mv_crow = true ∧ mv_allc ts
theorem mv_allc_app : ∀ {a c : List (List (Nat × mv_I))}, mv_allc a → mv_allc c → mv_allc (a ++ c)
  | [], _, _, h => h
  | _ :: _, _, h, h' => ⟨h.1, mv_allc_app h.2 h'⟩
theorem mv_allc_0 : mv_allc mv_tb0 := ⟨cr_X1_init, ⟨cr_X1_begin, ⟨cr_X1_copyFrom, ⟨cr_X1_moveAutomaticGate, ⟨cr_X1_letOut, ⟨cr_X1_spillOver, ⟨cr_X2_init, ⟨cr_X2_copyFrom, ⟨cr_X2_copyWithOpening, ⟨cr_X2_hasBasin, ⟨cr_X2_faultOf, ⟨cr_X2_faultOfNewBasin, ⟨cr_X2_faultAtBasin, ⟨cr_X2_faultOfGate, ⟨cr_X2_faultOfHand, ⟨cr_X2_faultOfRain, ⟨cr_X2_faultOfPour, ⟨cr_X2_faultOfPrediction, ⟨cr_X2_faultOfPlan, ⟨cr_X2_carryOut, ⟨cr_X2_useNextBasin, ⟨cr_X2_turnGate, ⟨cr_X2_makeAutomatic, ⟨cr_X2_makeManual, ⟨cr_X2_countAutomatic, ⟨cr_X2_expectRain, ⟨cr_X2_dropForecast, ⟨cr_X2_pourInto, ⟨cr_X2_passSteps, ⟨cr_X2_passStep, ⟨cr_X2_takeRain, ⟨cr_X2_rainDown, ⟨cr_X2_flowDown, ⟨cr_X2_rankOf, ⟨cr_X2_isRankedBefore, ⟨cr_X2_levelsFit, ⟨cr_X2_sumOfLevels, ⟨cr_X2_balanceOfAccounts, ⟨cr_X2_sumOfFloodedSteps, ⟨cr_X5_init, trivial⟩⟩⟩⟩⟩⟩⟩⟩⟩⟩⟩⟩⟩⟩⟩⟩⟩⟩⟩⟩⟩⟩⟩⟩⟩⟩⟩⟩⟩⟩⟩⟩⟩⟩⟩⟩⟩⟩⟩⟩
theorem mv_allc_1 : mv_allc mv_tb1 := ⟨cr_X5_remember, ⟨cr_X6_init, ⟨cr_X6_put, ⟨cr_X6_putNumber, ⟨cr_X6_putDigit, ⟨cr_X7_init, ⟨cr_X7_leastOfAll, ⟨cr_X7_leastByCutting, ⟨cr_X7_lowestFirstOpening, ⟨cr_X7_leastFrom, ⟨cr_X7_leastBelow, ⟨cr_X8_init, ⟨cr_X9_init, ⟨cr_X9_include, ⟨cr_X9_sumOfBags, ⟨cr_X9_bestByTable, ⟨cr_X9_improveTable, ⟨cr_X9_bestBySets, ⟨cr_X9_bagsOfSet, ⟨cr_X9_valueOfSet, ⟨cr_X10_init, ⟨cr_X10_addBasin, ⟨cr_X10_setGate, ⟨cr_X10_setAutomatic, ⟨cr_X10_setManual, ⟨cr_X10_addRain, ⟨cr_X10_clearForecast, ⟨cr_X10_pour, ⟨cr_X10_advance, ⟨cr_X10_change, ⟨cr_X10_basinCount, ⟨cr_X10_capacity, ⟨cr_X10_level, ⟨cr_X10_fieldValue, ⟨cr_X10_opening, ⟨cr_X10_isAutomatic, ⟨cr_X10_threshold, ⟨cr_X10_spilled, ⟨cr_X10_floodedSteps, ⟨cr_X10_basinAtRank, trivial⟩⟩⟩⟩⟩⟩⟩⟩⟩⟩⟩⟩⟩⟩⟩⟩⟩⟩⟩⟩⟩⟩⟩⟩⟩⟩⟩⟩⟩⟩⟩⟩⟩⟩⟩⟩⟩⟩⟩⟩
theorem mv_allc_2 : mv_allc mv_tb2 := ⟨cr_X10_time, ⟨cr_X10_forecastLength, ⟨cr_X10_rainAt, ⟨cr_X10_stored, ⟨cr_X10_storedByAccounts, ⟨cr_X10_riverTotal, ⟨cr_X10_meanFill, ⟨cr_X10_floodShare, ⟨cr_X10_levelAfter, ⟨cr_X10_spillOf, ⟨cr_X10_stepsUntilFlood, ⟨cr_X10_lookAhead, ⟨cr_X10_expectedSpill, ⟨cr_X10_leastSpill, ⟨cr_X10_leastSpillByPruning, ⟨cr_X10_bestOpening, ⟨cr_X10_endangered, ⟨cr_X10_bestProtection, ⟨cr_X10_bestProtectionBySets, ⟨cr_X10_bagsForAll, ⟨cr_X10_isConsistent, ⟨cr_X10_gatherEndangered, ⟨cr_X10_leastSpillsAgree, ⟨cr_X10_protectionsAgree, ⟨cr_X10_writeChain, ⟨cr_X10_writeForecast, ⟨cr_X10_outputAt, ⟨cr_X10_writeBasin, ⟨cr_X10_existingBasin, ⟨cr_X10_faultOfRange, ⟨cr_X10_throwFor, ⟨cr_L_cell, ⟨cr_L_some, ⟨cr_L_addBasin, ⟨cr_L_setGate, ⟨cr_L_setAutomatic, ⟨cr_L_setManual, ⟨cr_L_addRain, ⟨cr_L_pour, ⟨cr_L_advance, trivial⟩⟩⟩⟩⟩⟩⟩⟩⟩⟩⟩⟩⟩⟩⟩⟩⟩⟩⟩⟩⟩⟩⟩⟩⟩⟩⟩⟩⟩⟩⟩⟩⟩⟩⟩⟩⟩⟩⟩⟩
theorem mv_allc_3 : mv_allc mv_tb3 := ⟨cr_L_threshold, ⟨cr_L_basinAtRank, ⟨cr_L_rainAt, ⟨cr_L_stepsUntilFlood, ⟨cr_L_build, ⟨cr_L_acts, ⟨cr_L_isLine, ⟨cr_L_law, trivial⟩⟩⟩⟩⟩⟩⟩⟩
theorem mv_allcs : mv_allc mv_tbs := mv_allc_app mv_allc_0 (mv_allc_app mv_allc_1 (mv_allc_app mv_allc_2 (mv_allc_3)))
theorem mv_allc_at : ∀ {a : List (List (Nat × mv_I))} {M : Nat} {t : List (Nat × mv_I)}, mv_allc a → a[M]? = some t → t.all mv_crow = true
  | [], _, _, _, h => by simp at h
  | _ :: _, 0, _, h, h2 => by
    simp only [List.getElem?_cons_zero, Option.some.injEq] at h2
    subst h2
    exact h.1
  | _ :: _, M + 1, _, h, h2 => by
    simp only [List.getElem?_cons_succ] at h2
    exact mv_allc_at h.2 h2
theorem mv_row3 {M pc : Nat} {r : mv_I} (h : mv_in M pc = some r) : mv_crow (pc, r) = true := by
  unfold mv_in mv_tb at h
  have hm := mv_find_mem h
  cases ht : mv_tbs[M]? with
  | none => rw [List.getD_eq_getElem?_getD, ht] at hm; simp at hm
  | some t =>
    have h1 := mv_allc_at mv_allcs ht
    rw [List.getD_eq_getElem?_getD, ht] at hm
    exact List.all_eq_true.mp h1 _ hm
