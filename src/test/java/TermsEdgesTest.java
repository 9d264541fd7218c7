/** The boundary cases of the section "Terms", but for programs. */
public final class TermsEdgesTest {
    private TermsEdgesTest() {
    }

    public static void main(String[] args) {
        Edges.runTerms(TermsEdgesTest.class);
    }

    // ---- basins and gates

    static void termsFiveBasinsHaveTheIndices0To4() {
        for (int count = 0; count <= 5; count++) {
            SluiceChain chain = States.basins(count);
            Check.same("number", count, chain.basinCount());
            for (int i = 0; i < count; i++) {
                Check.same("index below the number", 50, chain.capacity(i));
            }
            Check.fails("the number itself", Edges.INDEX, () -> chain.capacity(chain.basinCount()));
            Check.fails("below 0", Edges.INDEX, () -> chain.capacity(-1));
        }
    }

    static void termsIndicesStandInTheOrderOfTheWater() {
        SluiceChain chain = States.basins(3);
        chain.pour(0, 4);
        chain.setGate(0, 1);
        chain.advance(1);
        Check.sameText("from 0 to 1, not to 2", "0/50|1 4/50|0 0/50|0", Chains.chainLine(chain));
    }

    static void termsCapacityOf10And99() {
        Check.sameText("10", "0/10|0", Chains.chainLine(States.oneBasin(10, 0)));
        Check.sameText("99", "0/99|0", Chains.chainLine(States.oneBasin(99, 0)));
        Edges.refusedEverywhere("9", Edges.ARGUMENT, chain -> chain.addBasin(9, 0, 0));
        Edges.refusedEverywhere("100", Edges.ARGUMENT, chain -> chain.addBasin(100, 0, 0));
    }

    static void termsLevelIsInitially0() {
        Check.same("level", 0, States.oneBasin(10, 3).level(0));
    }

    static void termsCatchmentOf0TakesNoRain() {
        SluiceChain chain = States.oneBasin(99, 0);
        chain.addRain(20);
        chain.advance(1);
        Check.same("level", 0, chain.level(0));
    }

    static void termsCatchmentOf3TakesRainThreefold() {
        SluiceChain chain = States.oneBasin(99, 3);
        chain.addRain(20);
        chain.advance(1);
        Check.same("level", 60, chain.level(0));
    }

    static void termsFieldsWithValuesOf0And99() {
        SluiceChain chain = new SluiceChain();
        chain.addBasin(10, 0, 0);
        chain.addBasin(10, 0, 99);
        Check.same("the least", 0, chain.fieldValue(0));
        Check.same("the greatest", 99, chain.fieldValue(1));
    }

    static void termsOpeningIsInitially0() {
        SluiceChain chain = States.holding(30);
        Check.same("opening", 0, chain.opening(0));
        chain.advance(30);
        Check.same("nothing flows", 30, chain.level(0));
    }

    static void termsGateIsInitiallyManual() {
        SluiceChain chain = States.oneBasin(10, 0);
        Check.no("automatic", chain.isAutomatic(0));
        Check.fails("threshold", Edges.NONE, () -> chain.threshold(0));
    }

    // ---- the forecast

    static void termsForecastHoldsTwelveAmounts() {
        SluiceChain chain = new SluiceChain();
        States.rain(chain, 12, 1);
        Check.same("twelve", 12, chain.forecastLength());
        Check.fails("a thirteenth", Edges.STATE, () -> chain.addRain(1));
        Check.same("still twelve", 12, chain.forecastLength());
    }

    static void termsForecastIsAQueueThatGoesRound() {
        SluiceChain chain = States.oneBasin(99, 0);
        int in = 0;
        int out = 0;
        for (int round = 0; round < 12; round++) {
            for (; in - out < 12; in++) {
                chain.addRain(in % 21);
            }
            for (int i = 0; i < 12; i++) {
                Check.same("amount " + i, (out + i) % 21, chain.rainAt(i));
            }
            chain.advance(7);
            out += 7;
        }
        Check.same("five are left", 5, chain.forecastLength());
    }

    // ---- one step

    static void termsTimeIsInitially0() {
        Check.same("time", 0, new SluiceChain().time());
    }

    static void termsTimeIncreasesBy1() {
        SluiceChain chain = new SluiceChain();
        chain.advance(1);
        Check.same("without basins and forecast", 1, chain.time());
        chain.advance(1);
        Check.same("again", 2, chain.time());
    }

    static void termsFirstAmountIsTheRainOfTheStep() {
        SluiceChain chain = States.oneBasin(99, 1);
        chain.addRain(3);
        chain.addRain(5);
        chain.advance(1);
        Check.same("level", 3, chain.level(0));
        Check.same("it is removed", 1, chain.forecastLength());
        Check.same("the next one stays", 5, chain.rainAt(0));
    }

    static void termsOnlyAmountLeavesNoForecast() {
        SluiceChain chain = States.oneBasin(99, 1);
        chain.addRain(20);
        chain.advance(1);
        Check.same("level", 20, chain.level(0));
        Check.same("length", 0, chain.forecastLength());
    }

    static void termsRainIs0WithoutAForecast() {
        SluiceChain chain = States.oneBasin(99, 3);
        chain.addRain(20);
        chain.advance(1);
        chain.advance(1);
        Check.same("the last rain does not fall again", 60, chain.level(0));
        chain.advance(30);
        Check.same("nor does any other", 60, chain.level(0));
        Check.same("length", 0, chain.forecastLength());
    }

    static void termsForecastThatEndsWithinTheSteps() {
        SluiceChain chain = States.oneBasin(99, 1);
        States.rain(chain, 2, 7);
        chain.advance(3);
        Check.same("level", 14, chain.level(0));
    }

    static void termsAmountOf0IsTakenFromTheForecast() {
        SluiceChain chain = States.oneBasin(99, 1);
        chain.addRain(0);
        chain.addRain(9);
        chain.advance(1);
        Check.same("no rain", 0, chain.level(0));
        Check.same("it is removed", 1, chain.forecastLength());
    }

    static void termsRainFallsOnEachBasin() {
        SluiceChain chain = new SluiceChain();
        for (int i = 0; i < 5; i++) {
            chain.addBasin(99, i % 4, 0);
        }
        chain.addRain(7);
        chain.advance(1);
        Check.sameText("levels", "0/99|0 7/99|0 14/99|0 21/99|0 0/99|0", Chains.chainLine(chain));
    }

    static void termsQuarterIsRoundedDown() {
        int[] due = {0, 0, 0, 0, 1, 1, 1, 1, 2, 2, 2, 2, 3, 3, 3, 3, 4, 4, 4, 4, 5};
        for (int excess = 0; excess < due.length; excess++) {
            checkAutomatic(40 + excess, 40, due[excess]);
            checkAutomatic(excess, 0, due[excess]);
        }
    }

    static void termsAutomaticOpeningIsNotLessThan0() {
        checkAutomatic(39, 40, 0);
        checkAutomatic(36, 40, 0);
        checkAutomatic(35, 40, 0);
        checkAutomatic(1, 99, 0);
        checkAutomatic(0, 99, 0);
        checkAutomatic(0, 1, 0);
    }

    static void termsAutomaticOpeningIsNotGreaterThan5() {
        checkAutomatic(63, 40, 5);
        checkAutomatic(64, 40, 5);
        checkAutomatic(99, 75, 5);
        checkAutomatic(99, 0, 5);
    }

    static void termsAutomaticGateSeesMoreThanTheCapacity() {
        SluiceChain chain = States.oneBasin(10, 3);
        chain.pour(0, 10);
        chain.setAutomatic(0, 51);
        chain.addRain(20);
        Check.same("70 - 16 - 10 are spilled", 44, chain.advance(1));
        Check.same("a quarter of 19", 4, chain.opening(0));
        chain.setAutomatic(0, 0);
        chain.addRain(20);
        Check.same("70 - 20 - 10 are spilled", 40, chain.advance(1));
        Check.same("not 17", 5, chain.opening(0));
    }

    private static void checkAutomatic(int level, int threshold, int due) {
        SluiceChain chain = States.holding(level);
        chain.setGate(0, 3);
        chain.setAutomatic(0, threshold);
        chain.advance(1);
        String what = level + " units above " + threshold;
        Check.same(what + ", opening", due, chain.opening(0));
        Check.same(what + ", level", level - 4 * due, chain.level(0));
        Check.same(what + ", river", 4 * due, chain.riverTotal());
    }

    static void termsAutomaticGateSeesTheRainOfTheStep() {
        SluiceChain chain = States.oneBasin(50, 1);
        chain.setAutomatic(0, 6);
        chain.addRain(10);
        chain.advance(1);
        Check.same("opening", 1, chain.opening(0));
        Check.same("level", 6, chain.level(0));
    }

    static void termsAutomaticGateSeesTheInflowOfTheStep() {
        SluiceChain chain = States.basins(2);
        chain.pour(0, 8);
        chain.setGate(0, 2);
        chain.setAutomatic(1, 4);
        chain.advance(1);
        Check.sameText("8 come in, 4 go out", "0/50|2 4/50:1~4", Chains.chainLine(chain));
    }

    static void termsAutomaticGateDoesNotSeeWhatFlowsOutBelow() {
        SluiceChain chain = States.basins(2);
        chain.pour(0, 8);
        chain.pour(1, 8);
        chain.setAutomatic(0, 4);
        chain.setGate(1, 5);
        chain.advance(1);
        Check.sameText("4 flow on, and all of it goes", "4/50:1~4 0/50|5", Chains.chainLine(chain));
    }

    static void termsManualOpeningStaysInAStep() {
        SluiceChain chain = States.holding(99);
        chain.setGate(0, 1);
        chain.advance(2);
        Check.same("opening", 1, chain.opening(0));
        Check.same("level", 91, chain.level(0));
    }

    static void termsNotMoreThanTheLevelFlowsOut() {
        int[][] levelsAndFlows = {
            {0, 1, 0}, {1, 1, 1}, {3, 1, 3}, {4, 1, 4}, {5, 1, 4}, {7, 2, 7}, {8, 2, 8}, {9, 2, 8},
            {0, 5, 0}, {19, 5, 19}, {20, 5, 20}, {21, 5, 20}, {99, 5, 20}, {1, 0, 0}, {99, 0, 0},
        };
        for (int[] row : levelsAndFlows) {
            SluiceChain chain = States.holding(row[0]);
            chain.setGate(0, row[1]);
            chain.advance(1);
            String what = row[0] + " units, opening " + row[1];
            Check.same(what + ", river", row[2], chain.riverTotal());
            Check.same(what + ", level", row[0] - row[2], chain.level(0));
        }
    }

    static void termsWaterOfTheOnlyBasinFlowsIntoTheRiver() {
        SluiceChain chain = States.holding(4);
        chain.setGate(0, 1);
        chain.advance(1);
        Check.same("river", 4, chain.riverTotal());
    }

    static void termsWaterOfAnUpperBasinFlowsIntoTheNextOne() {
        SluiceChain chain = States.basins(2);
        chain.pour(0, 4);
        chain.setGate(0, 1);
        chain.advance(1);
        Check.same("river", 0, chain.riverTotal());
        Check.same("the next one", 4, chain.level(1));
    }

    static void termsWaterFlowsThroughFiveBasinsInOneStep() {
        SluiceChain chain = States.basins(5);
        chain.pour(0, 20);
        for (int i = 0; i < 5; i++) {
            chain.setGate(i, 5);
        }
        chain.advance(1);
        Check.same("river", 20, chain.riverTotal());
        Check.same("nothing stays", 0, chain.stored());
    }

    static void termsWaterOfALowerBasinDoesNotFlowBack() {
        SluiceChain chain = States.basins(2);
        chain.pour(1, 50);
        chain.setGate(0, 5);
        chain.advance(1);
        Check.sameText("levels", "0/50|5 50/50|0", Chains.chainLine(chain));
    }

    static void termsLevelAtTheCapacityDoesNotSpill() {
        SluiceChain chain = States.oneBasin(10, 1);
        chain.addRain(10);
        Check.same("spill", 0, chain.advance(1));
        Check.same("level", 10, chain.level(0));
        Check.same("spilled", 0, chain.spilled(0));
        Check.same("flooded", 0, chain.floodedSteps(0));
    }

    static void termsLevelAboveTheCapacityByOneSpillsOne() {
        SluiceChain chain = States.oneBasin(10, 1);
        chain.addRain(11);
        Check.same("spill", 1, chain.advance(1));
        Check.same("level", 10, chain.level(0));
        Check.same("spilled", 1, chain.spilled(0));
        Check.same("flooded", 1, chain.floodedSteps(0));
    }

    static void termsMostWaterThatCanSpillInAStep() {
        SluiceChain chain = States.oneBasin(10, 3);
        chain.pour(0, 10);
        chain.addRain(20);
        Check.same("spill", 60, chain.advance(1));
        Check.same("level", 10, chain.level(0));
        Check.same("one step", 1, chain.floodedSteps(0));
    }

    static void termsBasinSpillsAfterItHasLetWaterOut() {
        SluiceChain chain = States.oneBasin(10, 1);
        chain.pour(0, 10);
        chain.setGate(0, 5);
        chain.addRain(20);
        Check.same("30 - 20 are not too much", 0, chain.advance(1));
        Check.same("level", 10, chain.level(0));
        chain.setGate(0, 4);
        chain.addRain(17);
        Check.same("27 - 16 are too much by 1", 1, chain.advance(1));
    }

    static void termsInflowCanPassThroughAFullBasin() {
        SluiceChain chain = new SluiceChain();
        chain.addBasin(50, 0, 0);
        chain.addBasin(10, 0, 0);
        chain.pour(0, 20);
        chain.pour(1, 10);
        chain.setGate(0, 5);
        chain.setGate(1, 5);
        Check.same("spill", 0, chain.advance(1));
        Check.same("river", 20, chain.riverTotal());
        Check.same("it is still full", 10, chain.level(1));
    }

    static void termsSpilledWaterIsLost() {
        SluiceChain chain = new SluiceChain();
        chain.addBasin(10, 2, 0);
        chain.addBasin(10, 0, 0);
        chain.addRain(20);
        Check.same("spill", 30, chain.advance(1));
        Check.same("the next basin", 0, chain.level(1));
        Check.same("the river", 0, chain.riverTotal());
    }

    // ---- predictions, searches, protection

    static void termsPredictionsDoNotChangeTheState() {
        checkLeavesAlone("levelAfter", chain -> chain.levelAfter(0, 30));
        checkLeavesAlone("spillOf", chain -> chain.spillOf(1, 30));
        checkLeavesAlone("stepsUntilFlood", SluiceChain::stepsUntilFlood);
    }

    static void termsSearchesDoNotChangeTheState() {
        checkLeavesAlone("leastSpill", chain -> chain.leastSpill(0, 4));
        checkLeavesAlone("leastSpillByPruning", chain -> chain.leastSpillByPruning(0, 4));
        checkLeavesAlone("bestOpening", chain -> chain.bestOpening(0, 4));
        checkLeavesAlone("endangered", chain -> chain.endangered(30));
        checkLeavesAlone("bestProtection", chain -> chain.bestProtection(99, 30));
        checkLeavesAlone("bestProtectionBySets", chain -> chain.bestProtectionBySets(99, 30));
        checkLeavesAlone("bagsForAll", chain -> chain.bagsForAll(30));
        checkLeavesAlone("isConsistent", SluiceChain::isConsistent);
    }

    private static void checkLeavesAlone(String what, Edges.Call call) {
        Check.sameText(what, Traces.of(States::busy), Traces.of(() -> {
            SluiceChain chain = States.busy();
            call.on(chain);
            return chain;
        }));
    }

    static void termsPredictionAgreesWithTheSteps() {
        for (int steps = 1; steps <= 30; steps++) {
            SluiceChain chain = States.busy();
            int level = chain.levelAfter(1, steps);
            int spill = chain.spillOf(1, steps);
            int before = chain.spilled(1);
            chain.advance(steps);
            Check.same("level after " + steps, chain.level(1), level);
            Check.same("spill of " + steps, chain.spilled(1) - before, spill);
        }
    }

    static void termsPlanChoosesOpeningsFrom0To5() {
        SluiceChain closed = States.basins(2);
        closed.pour(0, 50);
        closed.pour(1, 50);
        Check.same("0 spills nothing", 0, closed.bestOpening(0, 1));
        Check.same("the spill with 0", 0, closed.leastSpill(0, 1));
        SluiceChain open = States.oneBasin(10, 2);
        open.pour(0, 10);
        open.addRain(20);
        Check.same("5 spills least", 5, open.bestOpening(0, 1));
        Check.same("50 - 20 - 10", 20, open.leastSpill(0, 1));
    }

    /** An opening below 0 would take water out of the basin that is too full. */
    static void termsPlanChoosesNoOpeningBelow0() {
        SluiceChain chain = States.basins(2);
        chain.pour(1, 50);
        chain.addRain(3);
        Check.same("trying all plans", 3, chain.leastSpill(0, 1));
        Check.same("leaving plans out", 3, chain.leastSpillByPruning(0, 1));
        Check.same("opening", 0, chain.bestOpening(0, 1));
    }

    /** 24 units are too much; an opening of 6 would let all of them out. */
    static void termsPlanChoosesNoOpeningAbove5() {
        SluiceChain chain = States.oneBasin(10, 3);
        chain.pour(0, 10);
        chain.addRain(8);
        Check.same("trying all plans", 4, chain.leastSpill(0, 1));
        Check.same("leaving plans out", 4, chain.leastSpillByPruning(0, 1));
        Check.same("opening", 5, chain.bestOpening(0, 1));
    }

    /** With 5 and then 0 nothing is spilled; with one opening for both steps at least 12 units. */
    static void termsPlanChoosesAnewBeforeEachStep() {
        SluiceChain chain = new SluiceChain();
        chain.addBasin(20, 1, 0);
        chain.addBasin(20, 0, 0);
        chain.pour(0, 20);
        chain.addRain(20);
        Check.same("spill", 0, chain.leastSpill(0, 2));
        Check.same("first opening", 5, chain.bestOpening(0, 2));
    }

    static void termsSpillOfAPlanIsThatOfAllBasins() {
        SluiceChain chain = States.basins(5);
        for (int i = 0; i < 5; i++) {
            chain.pour(i, 50);
        }
        chain.addRain(4);
        Check.same("five times 4, but for what the last lets out", 16, chain.leastSpill(4, 1));
        Check.same("the last opens by 1", 1, chain.bestOpening(4, 1));
    }

    static void termsBasinThatSpillsNothingIsNotEndangered() {
        SluiceChain chain = States.oneBasin(10, 1);
        chain.addRain(10);
        Check.same("full", 0, chain.endangered(1));
        chain.advance(1);
        Check.same("full already", 0, chain.endangered(30));
    }

    static void termsBasinThatSpillsOneUnitIsEndangered() {
        SluiceChain chain = States.oneBasin(10, 1);
        chain.addRain(11);
        Check.same("endangered", 1, chain.endangered(1));
        Check.same("one sandbag", 1, chain.bagsForAll(1));
        Check.same("is enough", 1, chain.bestProtection(1, 1));
    }

    static void termsBasinThatSpilledBeforeIsNotEndangered() {
        SluiceChain chain = States.oneBasin(10, 1);
        chain.addRain(20);
        chain.advance(1);
        Check.same("endangered", 0, chain.endangered(30));
        chain.addRain(2);
        Check.same("only the units of these steps", 2, chain.bagsForAll(30));
    }

    static void termsChoiceIsPossibleWithExactlyEnoughSandbags() {
        SluiceChain chain = new SluiceChain();
        chain.addBasin(10, 1, 30);
        chain.addBasin(12, 1, 50);
        chain.addRain(20);
        Check.same("10 + 8", 80, chain.bestProtection(18, 1));
        Check.same("one too few for both", 50, chain.bestProtection(17, 1));
        Check.same("8", 50, chain.bestProtection(8, 1));
        Check.same("one too few for any", 0, chain.bestProtection(7, 1));
    }

    // ---- undo

    static void termsEachChangingMethodCanBeUndone() {
        String[] names = {
            "addBasin", "setGate", "setAutomatic", "setManual", "addRain", "clearForecast", "pour",
            "advance", "run",
        };
        Edges.Call[] calls = {
            chain -> chain.addBasin(10, 0, 0), chain -> chain.setGate(0, 1),
            chain -> chain.setAutomatic(1, 7), chain -> chain.setManual(1),
            chain -> chain.addRain(1), SluiceChain::clearForecast, chain -> chain.pour(1, 1),
            chain -> chain.advance(1), SluiceChain::run,
        };
        for (int i = 0; i < calls.length; i++) {
            SluiceChain chain = States.busy();
            String before = Chains.stateOf(chain);
            calls[i].on(chain);
            Check.no(names[i] + " changes", before.equals(Chains.stateOf(chain)));
            Check.same(names[i] + ", what is left", 7, chain.undo());
            Check.sameText(names[i] + " undone", before, Chains.stateOf(chain));
        }
    }

    static void termsCallAfterWhichNothingIsDifferentCanBeUndone() {
        SluiceChain chain = States.basins(1);
        chain.setAutomatic(0, 9);
        chain.save();
        chain.restore();
        String before = Chains.stateOf(chain);
        chain.setAutomatic(0, 9);
        chain.clearForecast();
        Chains.run(chain, "clear");
        Check.sameText("nothing is different", before, Chains.stateOf(chain));
        Check.same("three calls", 3, Chains.undoAll(chain));
        chain.setManual(0);
        chain.save();
        chain.restore();
        chain.setGate(0, 0);
        Check.same("the same opening", 1, Chains.undoAll(chain));
    }

    static void termsCallsThatAreNotChangingCannotBeUndone() {
        SluiceChain chain = States.empty();
        chain.append('x');
        Check.fails("no program", Edges.ARGUMENT, chain::run);
        chain.writeChain();
        chain.writeForecast();
        chain.save();
        chain.restore();
        chain.isConsistent();
        Check.fails("nothing to undo", Edges.STATE, chain::undo);
    }

    static void termsEightCallsCanBeUndone() {
        SluiceChain chain = States.empty();
        for (int i = 0; i < 8; i++) {
            chain.addRain(i);
        }
        for (int left = 7; left >= 0; left--) {
            Check.same("what is left", left, chain.undo());
            Check.same("the most recent first", left, chain.forecastLength());
        }
        Check.fails("a ninth", Edges.STATE, chain::undo);
    }

    static void termsNinthMostRecentCallCannotBeUndone() {
        SluiceChain chain = States.empty();
        for (int i = 0; i < 9; i++) {
            chain.addRain(i);
        }
        Check.same("eight", 8, Chains.undoAll(chain));
        Check.same("the first stays", 1, chain.forecastLength());
        Check.same("it is the first", 0, chain.rainAt(0));
    }

    static void termsUndoLeavesTextErrorsAndLineAlone() {
        checkStays("undo", SluiceChain::undo);
    }

    static void termsSaveLeavesTextErrorsAndLineAlone() {
        checkStays("save", SluiceChain::save);
    }

    static void termsRestoreLeavesTextErrorsAndLineAlone() {
        checkStays("restore", SluiceChain::restore);
    }

    /** Saving is done while the line is empty, no text is typed and no error is stored. */
    private static SluiceChain savedEarly(boolean withTextAndLine) {
        SluiceChain chain = new SluiceChain();
        chain.addRain(3);
        chain.save();
        chain.addRain(4);
        if (withTextAndLine) {
            Chains.type(chain, "step");
            Check.fails("no program", Edges.ARGUMENT, chain::run);
            Chains.type(chain, "hand 0");
            Check.fails("it fails", Edges.FAILED, chain::run);
            chain.writeForecast();
            Chains.type(chain, "clear;clear");
        }
        return chain;
    }

    static void termsChangingCallsLeaveTextErrorsAndLineAlone() {
        checkStays("addBasin", chain -> chain.addBasin(10, 0, 0));
        checkStays("addRain", chain -> chain.addRain(0));
        checkStays("clearForecast", SluiceChain::clearForecast);
        checkStays("advance", chain -> chain.advance(1));
        checkStays("gates and water", chain -> {
            chain.addBasin(10, 0, 0);
            chain.pour(0, 1);
            chain.setGate(0, 1);
            chain.setAutomatic(0, 1);
            chain.setManual(0);
        });
    }

    static void termsProgramLeavesErrorsAndLineAlone() {
        SluiceChain chain = savedEarly(true);
        Check.same("commands", 2, chain.run());
        Check.sameText("line", "3,4", Traces.lineOf(chain));
        Check.same("error position", 4, chain.errorPosition());
        Check.same("failed command", 0, chain.failedCommand());
    }

    private static void checkStays(String what, Edges.Call call) {
        SluiceChain none = savedEarly(false);
        call.on(none);
        Check.sameText(what + ", no line", "", Traces.lineOf(none));
        Check.fails(what + ", no error position", Edges.NONE, none::errorPosition);
        Check.fails(what + ", no failed command", Edges.NONE, none::failedCommand);
        Check.same(what + ", no text", 1, none.append('c'));
        SluiceChain some = savedEarly(true);
        call.on(some);
        Check.sameText(what + ", line", "3,4", Traces.lineOf(some));
        Check.same(what + ", error position", 4, some.errorPosition());
        Check.same(what + ", failed command", 0, some.failedCommand());
        Check.same(what + ", text", 2, some.run());
    }

    // ---- an object's use

    static void termsObjectAnswersAllOf512Calls() {
        SluiceChain chain = new SluiceChain();
        int calls = 0;
        for (; calls < 5; calls++) {
            chain.addBasin(10, 3, 99);
        }
        int spill = 0;
        for (; calls < 500; calls += 5) {
            States.rain(chain, 4, 20);
            spill += chain.advance(4);
        }
        Check.same("4 * 5 * 60 in each round, but for the five levels", 99 * 1200 - 50, spill);
        for (; calls < 508; calls++) {
            chain.advance(30);
        }
        Check.same("time", 99 * 4 + 8 * 30, chain.time());
        Check.same("stored", 50, chain.storedByAccounts());
        Check.same("flooded", 99 * 4, chain.floodedSteps(4));
        Check.yes("the last call", chain.isConsistent());
    }

    static void termsLongestTimeOf511CallsIsKept() {
        SluiceChain chain = States.oneBasin(10, 0);
        for (int i = 0; i < 510; i++) {
            chain.advance(30);
        }
        Check.same("time", 15300, chain.time());
    }

    /** Each step of 30 lets 4 units of what was poured into the river. */
    static void termsRiverOf512CallsIsKept() {
        SluiceChain chain = States.oneBasin(99, 0);
        chain.setGate(0, 5);
        for (int i = 0; i < 254; i++) {
            chain.pour(0, 50);
            chain.advance(30);
        }
        Check.same("river", 254 * 50, chain.riverTotal());
        Check.same("accounts", 0, chain.storedByAccounts());
    }
}
