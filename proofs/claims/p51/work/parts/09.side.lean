/-! what a row says of its method's locals; final fields are written in constructors alone -/
def mv_si : Instr → Nat
  | .istore_n k => (k : Nat) + 1 | .istore k => k + 1 | .fstore k => k + 1 | .astore_n k => (k : Nat) + 1 | .astore k => k + 1 | .iinc k _ => k + 1
  | .lstore_n k => (k : Nat) + 2 | .dstore_n k => (k : Nat) + 2 | .dstore k => k + 2 | _ => 0
noncomputable def mv_sd (ml : Nat) (ini : Bool) (own : String) (q : Nat × mv_I) : Bool := decide (mv_si q.2.1 ≤ ml) && (match q.2 with
  | (.putfield _, _, a, b, w) => (!(mv_fin a b) || (ini && decide ((mv_ft a b).1 = own) && (match lw_tbl[w]? with | some (.fieldLink _ _ _ _ _) => true | _ => false))) && decide (a < 8) && (match mv_cls[a]? with | some (_, _, N) => decide (b < N) | none => false)
  | (.getfield _, _, a, b, _) => (decide (a < 8) && (match mv_cls[a]? with | some (_, _, N) => decide (b < N) | none => false))
  | (.getstatic _, _, a, _, _) => decide (a ∈ [1000, 1001, 1002, 1003, 1004, 1005, 1006, 1007, 1010, 1011, 1012, 1013, 1021])
  | (.anewarray _, _, a, _, _) => decide (a = 24) || decide (a = 25)
  | (.newarray _, _, a, _, _) => decide (20 ≤ a) && decide (a < 24)
  | _ => true)
def mv_alls2P : List (List (Nat × mv_I)) → List mv_J → Prop
  | t :: ts, j :: js => t.all (mv_sd j.2.2.1 (decide (j.2.1.name = "<init>")) j.2.1.cls) = true ∧ mv_alls2P ts js
  | [], [] => True
  | _, _ => False
theorem mv_all2_app : ∀ {a : List (List (Nat × mv_I))} {b : List mv_J} {c : List (List (Nat × mv_I))} {d : List mv_J}, mv_alls2P a b → mv_alls2P c d → mv_alls2P (a ++ c) (b ++ d)
  | [], [], _, _, _, h => h
  | [], _ :: _, _, _, h, _ => h.elim
  | _ :: _, [], _, _, h, _ => h.elim
  | _ :: _, _ :: _, _, _, h, h' => ⟨h.1, mv_all2_app h.2 h'⟩
theorem sd_X1_init : t_X1_init.all (mv_sd 1 true "SluiceChain$Basin") = true := by decide +kernel
theorem sd_X1_begin : t_X1_begin.all (mv_sd 4 false "SluiceChain$Basin") = true := by decide +kernel
theorem sd_X1_copyFrom : t_X1_copyFrom.all (mv_sd 2 false "SluiceChain$Basin") = true := by decide +kernel
theorem sd_X1_moveAutomaticGate : t_X1_moveAutomaticGate.all (mv_sd 2 false "SluiceChain$Basin") = true := by decide +kernel
theorem sd_X1_letOut : t_X1_letOut.all (mv_sd 3 false "SluiceChain$Basin") = true := by decide +kernel
theorem sd_X1_spillOver : t_X1_spillOver.all (mv_sd 2 false "SluiceChain$Basin") = true := by decide +kernel
theorem sd_X2_init : t_X2_init.all (mv_sd 2 true "SluiceChain$Chain") = true := by decide +kernel
theorem sd_X2_copyFrom : t_X2_copyFrom.all (mv_sd 3 false "SluiceChain$Chain") = true := by decide +kernel
theorem sd_X2_copyWithOpening : t_X2_copyWithOpening.all (mv_sd 4 false "SluiceChain$Chain") = true := by decide +kernel
theorem sd_X2_hasBasin : t_X2_hasBasin.all (mv_sd 2 false "SluiceChain$Chain") = true := by decide +kernel
theorem sd_X2_faultOf : t_X2_faultOf.all (mv_sd 5 false "SluiceChain$Chain") = true := by decide +kernel
theorem sd_X2_faultOfNewBasin : t_X2_faultOfNewBasin.all (mv_sd 4 false "SluiceChain$Chain") = true := by decide +kernel
theorem sd_X2_faultAtBasin : t_X2_faultAtBasin.all (mv_sd 5 false "SluiceChain$Chain") = true := by decide +kernel
theorem sd_X2_faultOfGate : t_X2_faultOfGate.all (mv_sd 4 false "SluiceChain$Chain") = true := by decide +kernel
theorem sd_X2_faultOfHand : t_X2_faultOfHand.all (mv_sd 2 false "SluiceChain$Chain") = true := by decide +kernel
theorem sd_X2_faultOfRain : t_X2_faultOfRain.all (mv_sd 2 false "SluiceChain$Chain") = true := by decide +kernel
theorem sd_X2_faultOfPour : t_X2_faultOfPour.all (mv_sd 5 false "SluiceChain$Chain") = true := by decide +kernel
theorem sd_X2_faultOfPrediction : t_X2_faultOfPrediction.all (mv_sd 3 false "SluiceChain$Chain") = true := by decide +kernel
theorem sd_X2_faultOfPlan : t_X2_faultOfPlan.all (mv_sd 4 false "SluiceChain$Chain") = true := by decide +kernel
theorem sd_X2_carryOut : t_X2_carryOut.all (mv_sd 5 false "SluiceChain$Chain") = true := by decide +kernel
theorem sd_X2_useNextBasin : t_X2_useNextBasin.all (mv_sd 5 false "SluiceChain$Chain") = true := by decide +kernel
theorem sd_X2_turnGate : t_X2_turnGate.all (mv_sd 4 false "SluiceChain$Chain") = true := by decide +kernel
theorem sd_X2_makeAutomatic : t_X2_makeAutomatic.all (mv_sd 3 false "SluiceChain$Chain") = true := by decide +kernel
theorem sd_X2_makeManual : t_X2_makeManual.all (mv_sd 2 false "SluiceChain$Chain") = true := by decide +kernel
theorem sd_X2_countAutomatic : t_X2_countAutomatic.all (mv_sd 3 false "SluiceChain$Chain") = true := by decide +kernel
theorem sd_X2_expectRain : t_X2_expectRain.all (mv_sd 2 false "SluiceChain$Chain") = true := by decide +kernel
theorem sd_X2_dropForecast : t_X2_dropForecast.all (mv_sd 3 false "SluiceChain$Chain") = true := by decide +kernel
theorem sd_X2_pourInto : t_X2_pourInto.all (mv_sd 3 false "SluiceChain$Chain") = true := by decide +kernel
theorem sd_X2_passSteps : t_X2_passSteps.all (mv_sd 4 false "SluiceChain$Chain") = true := by decide +kernel
theorem sd_X2_passStep : t_X2_passStep.all (mv_sd 3 false "SluiceChain$Chain") = true := by decide +kernel
theorem sd_X2_takeRain : t_X2_takeRain.all (mv_sd 3 false "SluiceChain$Chain") = true := by decide +kernel
theorem sd_X2_rainDown : t_X2_rainDown.all (mv_sd 4 false "SluiceChain$Chain") = true := by decide +kernel
theorem sd_X2_flowDown : t_X2_flowDown.all (mv_sd 4 false "SluiceChain$Chain") = true := by decide +kernel
theorem sd_X2_rankOf : t_X2_rankOf.all (mv_sd 4 false "SluiceChain$Chain") = true := by decide +kernel
theorem sd_X2_isRankedBefore : t_X2_isRankedBefore.all (mv_sd 5 false "SluiceChain$Chain") = true := by decide +kernel
theorem sd_X2_levelsFit : t_X2_levelsFit.all (mv_sd 2 false "SluiceChain$Chain") = true := by decide +kernel
theorem sd_X2_sumOfLevels : t_X2_sumOfLevels.all (mv_sd 3 false "SluiceChain$Chain") = true := by decide +kernel
theorem sd_X2_balanceOfAccounts : t_X2_balanceOfAccounts.all (mv_sd 4 false "SluiceChain$Chain") = true := by decide +kernel
theorem sd_X2_sumOfFloodedSteps : t_X2_sumOfFloodedSteps.all (mv_sd 3 false "SluiceChain$Chain") = true := by decide +kernel
theorem sd_X5_init : t_X5_init.all (mv_sd 2 true "SluiceChain$History") = true := by decide +kernel
theorem sd_X5_remember : t_X5_remember.all (mv_sd 2 false "SluiceChain$History") = true := by decide +kernel
theorem sd_X6_init : t_X6_init.all (mv_sd 1 true "SluiceChain$Line") = true := by decide +kernel
theorem sd_X6_put : t_X6_put.all (mv_sd 2 false "SluiceChain$Line") = true := by decide +kernel
theorem sd_X6_putNumber : t_X6_putNumber.all (mv_sd 2 false "SluiceChain$Line") = true := by decide +kernel
theorem sd_X6_putDigit : t_X6_putDigit.all (mv_sd 2 false "SluiceChain$Line") = true := by decide +kernel
theorem sd_X7_init : t_X7_init.all (mv_sd 2 true "SluiceChain$PlanSearch") = true := by decide +kernel
theorem sd_X7_leastOfAll : t_X7_leastOfAll.all (mv_sd 4 false "SluiceChain$PlanSearch") = true := by decide +kernel
theorem sd_X7_leastByCutting : t_X7_leastByCutting.all (mv_sd 4 false "SluiceChain$PlanSearch") = true := by decide +kernel
theorem sd_X7_lowestFirstOpening : t_X7_lowestFirstOpening.all (mv_sd 9 false "SluiceChain$PlanSearch") = true := by decide +kernel
theorem sd_X7_leastFrom : t_X7_leastFrom.all (mv_sd 8 false "SluiceChain$PlanSearch") = true := by decide +kernel
theorem sd_X7_leastBelow : t_X7_leastBelow.all (mv_sd 10 false "SluiceChain$PlanSearch") = true := by decide +kernel
theorem sd_X8_init : t_X8_init.all (mv_sd 1 true "SluiceChain$Program") = true := by decide +kernel
theorem sd_X9_init : t_X9_init.all (mv_sd 1 true "SluiceChain$Protection") = true := by decide +kernel
theorem sd_X9_include : t_X9_include.all (mv_sd 3 false "SluiceChain$Protection") = true := by decide +kernel
theorem sd_X9_sumOfBags : t_X9_sumOfBags.all (mv_sd 3 false "SluiceChain$Protection") = true := by decide +kernel
theorem sd_X9_bestByTable : t_X9_bestByTable.all (mv_sd 3 false "SluiceChain$Protection") = true := by decide +kernel
theorem sd_X9_improveTable : t_X9_improveTable.all (mv_sd 4 false "SluiceChain$Protection") = true := by decide +kernel
theorem sd_X9_bestBySets : t_X9_bestBySets.all (mv_sd 4 false "SluiceChain$Protection") = true := by decide +kernel
theorem sd_X9_bagsOfSet : t_X9_bagsOfSet.all (mv_sd 4 false "SluiceChain$Protection") = true := by decide +kernel
theorem sd_X9_valueOfSet : t_X9_valueOfSet.all (mv_sd 4 false "SluiceChain$Protection") = true := by decide +kernel
theorem sd_X10_init : t_X10_init.all (mv_sd 1 true "SluiceChain") = true := by decide +kernel
theorem sd_X10_addBasin : t_X10_addBasin.all (mv_sd 4 false "SluiceChain") = true := by decide +kernel
theorem sd_X10_setGate : t_X10_setGate.all (mv_sd 3 false "SluiceChain") = true := by decide +kernel
theorem sd_X10_setAutomatic : t_X10_setAutomatic.all (mv_sd 3 false "SluiceChain") = true := by decide +kernel
theorem sd_X10_setManual : t_X10_setManual.all (mv_sd 2 false "SluiceChain") = true := by decide +kernel
theorem sd_X10_addRain : t_X10_addRain.all (mv_sd 2 false "SluiceChain") = true := by decide +kernel
theorem sd_X10_clearForecast : t_X10_clearForecast.all (mv_sd 1 false "SluiceChain") = true := by decide +kernel
theorem sd_X10_pour : t_X10_pour.all (mv_sd 3 false "SluiceChain") = true := by decide +kernel
theorem sd_X10_advance : t_X10_advance.all (mv_sd 2 false "SluiceChain") = true := by decide +kernel
theorem sd_X10_change : t_X10_change.all (mv_sd 5 false "SluiceChain") = true := by decide +kernel
theorem sd_X10_basinCount : t_X10_basinCount.all (mv_sd 1 false "SluiceChain") = true := by decide +kernel
theorem sd_X10_capacity : t_X10_capacity.all (mv_sd 2 false "SluiceChain") = true := by decide +kernel
theorem sd_X10_level : t_X10_level.all (mv_sd 2 false "SluiceChain") = true := by decide +kernel
theorem sd_X10_fieldValue : t_X10_fieldValue.all (mv_sd 2 false "SluiceChain") = true := by decide +kernel
theorem sd_X10_opening : t_X10_opening.all (mv_sd 2 false "SluiceChain") = true := by decide +kernel
theorem sd_X10_isAutomatic : t_X10_isAutomatic.all (mv_sd 2 false "SluiceChain") = true := by decide +kernel
theorem sd_X10_threshold : t_X10_threshold.all (mv_sd 3 false "SluiceChain") = true := by decide +kernel
theorem sd_X10_spilled : t_X10_spilled.all (mv_sd 2 false "SluiceChain") = true := by decide +kernel
theorem sd_X10_floodedSteps : t_X10_floodedSteps.all (mv_sd 2 false "SluiceChain") = true := by decide +kernel
theorem sd_X10_basinAtRank : t_X10_basinAtRank.all (mv_sd 3 false "SluiceChain") = true := by decide +kernel
theorem sd_X10_time : t_X10_time.all (mv_sd 1 false "SluiceChain") = true := by decide +kernel
theorem sd_X10_forecastLength : t_X10_forecastLength.all (mv_sd 1 false "SluiceChain") = true := by decide +kernel
theorem sd_X10_rainAt : t_X10_rainAt.all (mv_sd 2 false "SluiceChain") = true := by decide +kernel
theorem sd_X10_stored : t_X10_stored.all (mv_sd 1 false "SluiceChain") = true := by decide +kernel
theorem sd_X10_storedByAccounts : t_X10_storedByAccounts.all (mv_sd 1 false "SluiceChain") = true := by decide +kernel
theorem sd_X10_riverTotal : t_X10_riverTotal.all (mv_sd 1 false "SluiceChain") = true := by decide +kernel
theorem sd_X10_meanFill : t_X10_meanFill.all (mv_sd 5 false "SluiceChain") = true := by decide +kernel
theorem sd_X10_floodShare : t_X10_floodShare.all (mv_sd 1 false "SluiceChain") = true := by decide +kernel
theorem sd_X10_levelAfter : t_X10_levelAfter.all (mv_sd 3 false "SluiceChain") = true := by decide +kernel
theorem sd_X10_spillOf : t_X10_spillOf.all (mv_sd 3 false "SluiceChain") = true := by decide +kernel
theorem sd_X10_stepsUntilFlood : t_X10_stepsUntilFlood.all (mv_sd 2 false "SluiceChain") = true := by decide +kernel
theorem sd_X10_lookAhead : t_X10_lookAhead.all (mv_sd 3 false "SluiceChain") = true := by decide +kernel
theorem sd_X10_expectedSpill : t_X10_expectedSpill.all (mv_sd 2 false "SluiceChain") = true := by decide +kernel
theorem sd_X10_leastSpill : t_X10_leastSpill.all (mv_sd 3 false "SluiceChain") = true := by decide +kernel
theorem sd_X10_leastSpillByPruning : t_X10_leastSpillByPruning.all (mv_sd 3 false "SluiceChain") = true := by decide +kernel
theorem sd_X10_bestOpening : t_X10_bestOpening.all (mv_sd 3 false "SluiceChain") = true := by decide +kernel
theorem sd_X10_endangered : t_X10_endangered.all (mv_sd 2 false "SluiceChain") = true := by decide +kernel
theorem sd_X10_bestProtection : t_X10_bestProtection.all (mv_sd 3 false "SluiceChain") = true := by decide +kernel
theorem sd_X10_bestProtectionBySets : t_X10_bestProtectionBySets.all (mv_sd 3 false "SluiceChain") = true := by decide +kernel
theorem sd_X10_bagsForAll : t_X10_bagsForAll.all (mv_sd 2 false "SluiceChain") = true := by decide +kernel
theorem sd_X10_isConsistent : t_X10_isConsistent.all (mv_sd 1 false "SluiceChain") = true := by decide +kernel
theorem sd_X10_gatherEndangered : t_X10_gatherEndangered.all (mv_sd 4 false "SluiceChain") = true := by decide +kernel
theorem sd_X10_leastSpillsAgree : t_X10_leastSpillsAgree.all (mv_sd 2 false "SluiceChain") = true := by decide +kernel
theorem sd_X10_protectionsAgree : t_X10_protectionsAgree.all (mv_sd 1 false "SluiceChain") = true := by decide +kernel
theorem sd_X10_writeChain : t_X10_writeChain.all (mv_sd 2 false "SluiceChain") = true := by decide +kernel
theorem sd_X10_writeForecast : t_X10_writeForecast.all (mv_sd 2 false "SluiceChain") = true := by decide +kernel
theorem sd_X10_outputAt : t_X10_outputAt.all (mv_sd 2 false "SluiceChain") = true := by decide +kernel
theorem sd_X10_writeBasin : t_X10_writeBasin.all (mv_sd 2 false "SluiceChain") = true := by decide +kernel
theorem sd_X10_existingBasin : t_X10_existingBasin.all (mv_sd 2 false "SluiceChain") = true := by decide +kernel
theorem sd_X10_faultOfRange : t_X10_faultOfRange.all (mv_sd 3 false "SluiceChain") = true := by decide +kernel
theorem sd_X10_throwFor : t_X10_throwFor.all (mv_sd 1 false "SluiceChain") = true := by decide +kernel
theorem sd_L_cell : t_L_cell.all (mv_sd 2 false "SluiceChainLaw") = true := by decide +kernel
theorem sd_L_some : t_L_some.all (mv_sd 3 false "SluiceChainLaw") = true := by decide +kernel
theorem sd_L_addBasin : t_L_addBasin.all (mv_sd 5 false "SluiceChainLaw") = true := by decide +kernel
theorem sd_L_setGate : t_L_setGate.all (mv_sd 4 false "SluiceChainLaw") = true := by decide +kernel
theorem sd_L_setAutomatic : t_L_setAutomatic.all (mv_sd 4 false "SluiceChainLaw") = true := by decide +kernel
theorem sd_L_setManual : t_L_setManual.all (mv_sd 3 false "SluiceChainLaw") = true := by decide +kernel
theorem sd_L_addRain : t_L_addRain.all (mv_sd 3 false "SluiceChainLaw") = true := by decide +kernel
theorem sd_L_pour : t_L_pour.all (mv_sd 4 false "SluiceChainLaw") = true := by decide +kernel
theorem sd_L_advance : t_L_advance.all (mv_sd 3 false "SluiceChainLaw") = true := by decide +kernel
theorem sd_L_threshold : t_L_threshold.all (mv_sd 3 false "SluiceChainLaw") = true := by decide +kernel
theorem sd_L_basinAtRank : t_L_basinAtRank.all (mv_sd 3 false "SluiceChainLaw") = true := by decide +kernel
theorem sd_L_rainAt : t_L_rainAt.all (mv_sd 3 false "SluiceChainLaw") = true := by decide +kernel
theorem sd_L_stepsUntilFlood : t_L_stepsUntilFlood.all (mv_sd 2 false "SluiceChainLaw") = true := by decide +kernel
theorem sd_L_build : t_L_build.all (mv_sd 4 false "SluiceChainLaw") = true := by decide +kernel
theorem sd_L_acts : t_L_acts.all (mv_sd 6 false "SluiceChainLaw") = true := by decide +kernel
theorem sd_L_isLine : t_L_isLine.all (mv_sd 4 false "SluiceChainLaw") = true := by decide +kernel
theorem sd_L_law_0 : t_L_law_0.all (mv_sd 23 false "SluiceChainLaw") = true := by decide +kernel
theorem sd_L_law_1 : t_L_law_1.all (mv_sd 23 false "SluiceChainLaw") = true := by decide +kernel
theorem sd_L_law_2 : t_L_law_2.all (mv_sd 23 false "SluiceChainLaw") = true := by decide +kernel
theorem sd_L_law_3 : t_L_law_3.all (mv_sd 23 false "SluiceChainLaw") = true := by decide +kernel
theorem sd_L_law_4 : t_L_law_4.all (mv_sd 23 false "SluiceChainLaw") = true := by decide +kernel
theorem sd_L_law_5 : t_L_law_5.all (mv_sd 23 false "SluiceChainLaw") = true := by decide +kernel
theorem sd_L_law_6 : t_L_law_6.all (mv_sd 23 false "SluiceChainLaw") = true := by decide +kernel
theorem sd_L_law_7 : t_L_law_7.all (mv_sd 23 false "SluiceChainLaw") = true := by decide +kernel
theorem sd_L_law_8 : t_L_law_8.all (mv_sd 23 false "SluiceChainLaw") = true := by decide +kernel
theorem sd_L_law : t_L_law.all (mv_sd 23 false "SluiceChainLaw") = true := (mv_alla sd_L_law_0 (mv_alla sd_L_law_1 (mv_alla sd_L_law_2 (mv_alla sd_L_law_3 (mv_alla sd_L_law_4 (mv_alla sd_L_law_5 (mv_alla sd_L_law_6 (mv_alla sd_L_law_7 sd_L_law_8))))))))
theorem mv_all2_0 : mv_alls2P mv_tb0 mv_ms0 := ⟨sd_X1_init, ⟨sd_X1_begin, ⟨sd_X1_copyFrom, ⟨sd_X1_moveAutomaticGate, ⟨sd_X1_letOut, ⟨sd_X1_spillOver, ⟨sd_X2_init, ⟨sd_X2_copyFrom, ⟨sd_X2_copyWithOpening, ⟨sd_X2_hasBasin, ⟨sd_X2_faultOf, ⟨sd_X2_faultOfNewBasin, ⟨sd_X2_faultAtBasin, ⟨sd_X2_faultOfGate, ⟨sd_X2_faultOfHand, ⟨sd_X2_faultOfRain, ⟨sd_X2_faultOfPour, ⟨sd_X2_faultOfPrediction, ⟨sd_X2_faultOfPlan, ⟨sd_X2_carryOut, ⟨sd_X2_useNextBasin, ⟨sd_X2_turnGate, ⟨sd_X2_makeAutomatic, ⟨sd_X2_makeManual, ⟨sd_X2_countAutomatic, ⟨sd_X2_expectRain, ⟨sd_X2_dropForecast, ⟨sd_X2_pourInto, ⟨sd_X2_passSteps, ⟨sd_X2_passStep, ⟨sd_X2_takeRain, ⟨sd_X2_rainDown, ⟨sd_X2_flowDown, ⟨sd_X2_rankOf, ⟨sd_X2_isRankedBefore, ⟨sd_X2_levelsFit, ⟨sd_X2_sumOfLevels, ⟨sd_X2_balanceOfAccounts, ⟨sd_X2_sumOfFloodedSteps, ⟨sd_X5_init, trivial⟩⟩⟩⟩⟩⟩⟩⟩⟩⟩⟩⟩⟩⟩⟩⟩⟩⟩⟩⟩⟩⟩⟩⟩⟩⟩⟩⟩⟩⟩⟩⟩⟩⟩⟩⟩⟩⟩⟩⟩
theorem mv_all2_1 : mv_alls2P mv_tb1 mv_ms1 := ⟨sd_X5_remember, ⟨sd_X6_init, ⟨sd_X6_put, ⟨sd_X6_putNumber, ⟨sd_X6_putDigit, ⟨sd_X7_init, ⟨sd_X7_leastOfAll, ⟨sd_X7_leastByCutting, ⟨sd_X7_lowestFirstOpening, ⟨sd_X7_leastFrom, ⟨sd_X7_leastBelow, ⟨sd_X8_init, ⟨sd_X9_init, ⟨sd_X9_include, ⟨sd_X9_sumOfBags, ⟨sd_X9_bestByTable, ⟨sd_X9_improveTable, ⟨sd_X9_bestBySets, ⟨sd_X9_bagsOfSet, ⟨sd_X9_valueOfSet, ⟨sd_X10_init, ⟨sd_X10_addBasin, ⟨sd_X10_setGate, ⟨sd_X10_setAutomatic, ⟨sd_X10_setManual, ⟨sd_X10_addRain, ⟨sd_X10_clearForecast, ⟨sd_X10_pour, ⟨sd_X10_advance, ⟨sd_X10_change, ⟨sd_X10_basinCount, ⟨sd_X10_capacity, ⟨sd_X10_level, ⟨sd_X10_fieldValue, ⟨sd_X10_opening, ⟨sd_X10_isAutomatic, ⟨sd_X10_threshold, ⟨sd_X10_spilled, ⟨sd_X10_floodedSteps, ⟨sd_X10_basinAtRank, trivial⟩⟩⟩⟩⟩⟩⟩⟩⟩⟩⟩⟩⟩⟩⟩⟩⟩⟩⟩⟩⟩⟩⟩⟩⟩⟩⟩⟩⟩⟩⟩⟩⟩⟩⟩⟩⟩⟩⟩⟩
theorem mv_all2_2 : mv_alls2P mv_tb2 mv_ms2 := ⟨sd_X10_time, ⟨sd_X10_forecastLength, ⟨sd_X10_rainAt, ⟨sd_X10_stored, ⟨sd_X10_storedByAccounts, ⟨sd_X10_riverTotal, ⟨sd_X10_meanFill, ⟨sd_X10_floodShare, ⟨sd_X10_levelAfter, ⟨sd_X10_spillOf, ⟨sd_X10_stepsUntilFlood, ⟨sd_X10_lookAhead, ⟨sd_X10_expectedSpill, ⟨sd_X10_leastSpill, ⟨sd_X10_leastSpillByPruning, ⟨sd_X10_bestOpening, ⟨sd_X10_endangered, ⟨sd_X10_bestProtection, ⟨sd_X10_bestProtectionBySets, ⟨sd_X10_bagsForAll, ⟨sd_X10_isConsistent, ⟨sd_X10_gatherEndangered, ⟨sd_X10_leastSpillsAgree, ⟨sd_X10_protectionsAgree, ⟨sd_X10_writeChain, ⟨sd_X10_writeForecast, ⟨sd_X10_outputAt, ⟨sd_X10_writeBasin, ⟨sd_X10_existingBasin, ⟨sd_X10_faultOfRange, ⟨sd_X10_throwFor, ⟨sd_L_cell, ⟨sd_L_some, ⟨sd_L_addBasin, ⟨sd_L_setGate, ⟨sd_L_setAutomatic, ⟨sd_L_setManual, ⟨sd_L_addRain, ⟨sd_L_pour, ⟨sd_L_advance, trivial⟩⟩⟩⟩⟩⟩⟩⟩⟩⟩⟩⟩⟩⟩⟩⟩⟩⟩⟩⟩⟩⟩⟩⟩⟩⟩⟩⟩⟩⟩⟩⟩⟩⟩⟩⟩⟩⟩⟩⟩
theorem mv_all2_3 : mv_alls2P mv_tb3 mv_ms3 := ⟨sd_L_threshold, ⟨sd_L_basinAtRank, ⟨sd_L_rainAt, ⟨sd_L_stepsUntilFlood, ⟨sd_L_build, ⟨sd_L_acts, ⟨sd_L_isLine, ⟨sd_L_law, trivial⟩⟩⟩⟩⟩⟩⟩⟩
theorem mv_alls2 : mv_alls2P mv_tbs mv_ms := mv_all2_app mv_all2_0 (mv_all2_app mv_all2_1 (mv_all2_app mv_all2_2 (mv_all2_3)))
theorem mv_all2_at : ∀ {a : List (List (Nat × mv_I))} {b : List mv_J} {M : Nat} {t : List (Nat × mv_I)}, mv_alls2P a b → a[M]? = some t → ∃ j, b[M]? = some j ∧ t.all (mv_sd j.2.2.1 (decide (j.2.1.name = "<init>")) j.2.1.cls) = true
  | [], [], _, _, _, h => by simp at h
  | [], _ :: _, _, _, h, _ => h.elim
  | _ :: _, [], _, _, h, _ => h.elim
  | _ :: _, j :: _, 0, _, h, h2 => by
    simp only [List.getElem?_cons_zero, Option.some.injEq] at h2
    subst h2
    exact ⟨j, rfl, h.1⟩
  | _ :: _, _ :: _, M + 1, _, h, h2 => by
    simp only [List.getElem?_cons_succ] at h2 ⊢
    exact mv_all2_at h.2 h2
theorem mv_row2 {M pc : Nat} {r : mv_I} (h : mv_in M pc = some r) : mv_sd (mv_mi M).2.2.1 (decide ((mv_mi M).2.1.name = "<init>")) (mv_mi M).2.1.cls (pc, r) = true := by
  unfold mv_in mv_tb at h
  have hm := mv_find_mem h
  cases ht : mv_tbs[M]? with
  | none => rw [List.getD_eq_getElem?_getD, ht] at hm; simp at hm
  | some t =>
    obtain ⟨j, hj, h1⟩ := mv_all2_at mv_alls2 ht
    rw [List.getD_eq_getElem?_getD, ht] at hm
    have e : mv_mi M = j := by unfold mv_mi; rw [List.getD_eq_getElem?_getD, hj]; rfl
    rw [e]
    exact List.all_eq_true.mp h1 _ hm
theorem mv_side {M pc : Nat} {i : Instr} {q : Nat × Nat × Nat × Nat} {n : Nat} (h : mv_in M pc = some (i, q)) (hn : n = (mv_mi M).2.2.1) : mv_si i ≤ n := by
  have h1 := mv_row2 h
  simp only [mv_sd, Bool.and_eq_true, decide_eq_true_eq] at h1
  rw [hn]; exact h1.1
theorem mv_cn_ok : ((List.range 128).all (fun M => decide (mv_cn M = 99) || decide ((mv_cls[mv_cn M]?.map (·.1)) = some (mv_mi M).2.1.cls))) = true := by decide +kernel
theorem mv_inX1 : ∀ w ∈ u_ws RX1 TX1 9, w ∈ mv_TS := fun w h => List.mem_filter.mpr ⟨(goodIn_r (big := lw_tbl) _ [140, 142, 144, 146, 148, 150, 152, 154, 156] (by decide +kernel) (by decide +kernel) w h).1, List.all_eq_true.mp (show (u_ws RX1 TX1 9).all goodWord = true by decide +kernel) w h⟩
theorem mv_inX2 : ∀ w ∈ u_ws RX2 TX2 8, w ∈ mv_TS := fun w h => List.mem_filter.mpr ⟨(goodIn_r (big := lw_tbl) _ [174, 176, 178, 180, 182, 184, 186, 188] (by decide +kernel) (by decide +kernel) w h).1, List.all_eq_true.mp (show (u_ws RX2 TX2 8).all goodWord = true by decide +kernel) w h⟩
theorem mv_inX5 : ∀ w ∈ u_ws RX5 TX5 3, w ∈ mv_TS := fun w h => List.mem_filter.mpr ⟨(goodIn_r (big := lw_tbl) _ [203, 205, 207] (by decide +kernel) (by decide +kernel) w h).1, List.all_eq_true.mp (show (u_ws RX5 TX5 3).all goodWord = true by decide +kernel) w h⟩
theorem mv_inX6 : ∀ w ∈ u_ws RX6 TX6 2, w ∈ mv_TS := fun w h => List.mem_filter.mpr ⟨(goodIn_r (big := lw_tbl) _ [280, 282] (by decide +kernel) (by decide +kernel) w h).1, List.all_eq_true.mp (show (u_ws RX6 TX6 2).all goodWord = true by decide +kernel) w h⟩
theorem mv_inX7 : ∀ w ∈ u_ws RX7 TX7 1, w ∈ mv_TS := fun w h => List.mem_filter.mpr ⟨(goodIn_r (big := lw_tbl) _ [219] (by decide +kernel) (by decide +kernel) w h).1, List.all_eq_true.mp (show (u_ws RX7 TX7 1).all goodWord = true by decide +kernel) w h⟩
theorem mv_inX8 : ∀ w ∈ u_ws RX8 TX8 6, w ∈ mv_TS := fun w h => List.mem_filter.mpr ⟨(goodIn_r (big := lw_tbl) _ [256, 258, 260, 262, 264, 266] (by decide +kernel) (by decide +kernel) w h).1, List.all_eq_true.mp (show (u_ws RX8 TX8 6).all goodWord = true by decide +kernel) w h⟩
theorem mv_inX9 : ∀ w ∈ u_ws RX9 TX9 4, w ∈ mv_TS := fun w h => List.mem_filter.mpr ⟨(goodIn_r (big := lw_tbl) _ [233, 235, 237, 239] (by decide +kernel) (by decide +kernel) w h).1, List.all_eq_true.mp (show (u_ws RX9 TX9 4).all goodWord = true by decide +kernel) w h⟩
theorem mv_inX10 : ∀ w ∈ u_ws RX10 TX10 12, w ∈ mv_TS := fun w h => List.mem_filter.mpr ⟨(goodIn_r (big := lw_tbl) _ [297, 299, 301, 303, 305, 307, 309, 311, 313, 315, 317, 319] (by decide +kernel) (by decide +kernel) w h).1, List.all_eq_true.mp (show (u_ws RX10 TX10 12).all goodWord = true by decide +kernel) w h⟩
/-- what is known of each class -/
theorem mv_ck1 {a : Nat} {C : String} {T : u_T} {N : Nat} (ha : a < 8) (h : mv_cls[a]? = some (C, T, N)) : (∀ w ∈ u_ws C T N, w ∈ mv_TS) ∧ (∀ k, k < N → parseFieldDescriptor (T k).2.2.1 = some (mv_ty a k)) ∧ (∀ i, i < N → ∀ j, j < N → i ≠ j → (T i).2.1 ≠ (T j).2.1) ∧ (∀ k, (T k).2.2.2 = mv_fin a k) ∧ (∀ k, k < N → mv_ft a k = (C, (T k).2.1, (T k).2.2.1) ∧ (T k).1 = C) := by
  match a, ha, h with
  | 0, _, h => cases h; exact ⟨mv_inX1, tyX1_ok, nmX1, fun _ => rfl, by decide +kernel⟩
  | 1, _, h => cases h; exact ⟨mv_inX2, tyX2_ok, nmX2, fun _ => rfl, by decide +kernel⟩
  | 2, _, h => cases h; exact ⟨mv_inX5, tyX5_ok, nmX5, fun _ => rfl, by decide +kernel⟩
  | 3, _, h => cases h; exact ⟨mv_inX6, tyX6_ok, nmX6, fun _ => rfl, by decide +kernel⟩
  | 4, _, h => cases h; exact ⟨mv_inX7, tyX7_ok, nmX7, fun _ => rfl, by decide +kernel⟩
  | 5, _, h => cases h; exact ⟨mv_inX8, tyX8_ok, nmX8, fun _ => rfl, by decide +kernel⟩
  | 6, _, h => cases h; exact ⟨mv_inX9, tyX9_ok, nmX9, fun _ => rfl, by decide +kernel⟩
  | 7, _, h => cases h; exact ⟨mv_inX10, tyX10_ok, nmX10, fun _ => rfl, by decide +kernel⟩
  | a + 8, ha, _ => exact absurd ha (by omega)
