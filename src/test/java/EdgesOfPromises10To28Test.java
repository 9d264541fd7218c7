/** The boundary cases of the promises 10 to 28: the queries. */
public final class EdgesOfPromises10To28Test {
    private EdgesOfPromises10To28Test() {
    }

    public static void main(String[] args) {
        Edges.runPromises(EdgesOfPromises10To28Test.class, 10, 28);
    }

    private interface Query {
        Object of(SluiceChain chain, int basin);
    }

    /** The query is refused for all that is no basin, and answered for all that is one. */
    private static void checkBasins(Query query) {
        for (int basin : Edges.outside(0, 4)) {
            Edges.refusedEverywhere("basin " + basin, Edges.INDEX,
                    chain -> query.of(chain, basin));
        }
        for (int count = 0; count < 5; count++) {
            int none = count;
            Edges.refused("basin " + none + " of as many", Edges.INDEX, () -> States.basins(none),
                    chain -> query.of(chain, none));
        }
        Edges.refused("a basin that was undone", Edges.INDEX, () -> {
            SluiceChain chain = States.basins(3);
            chain.undo();
            return chain;
        }, chain -> query.of(chain, 2));
    }

    // ---- 10: basinCount

    static void promise10EmptyChainHas0Basins() {
        Check.same("number", 0, new SluiceChain().basinCount());
    }

    static void promise10FullChainHas5Basins() {
        SluiceChain chain = States.full();
        Check.same("number", 5, chain.basinCount());
        Check.fails("sixth", Edges.STATE, () -> chain.addBasin(10, 0, 0));
        Check.same("number after it", 5, chain.basinCount());
    }

    // ---- 11 to 19: the queries about one basin

    static void promise11CapacityOfTheFirstAndTheLastBasin() {
        SluiceChain chain = new SluiceChain();
        for (int i = 0; i < 5; i++) {
            chain.addBasin(i == 4 ? 99 : 10 + i, 0, 0);
        }
        Check.same("first", 10, chain.capacity(0));
        Check.same("last", 99, chain.capacity(4));
    }

    static void promise11RefusesWhatIsNoBasin() {
        checkBasins(SluiceChain::capacity);
    }

    static void promise12LevelOfAnEmptyAndAFullBasin() {
        SluiceChain chain = States.full();
        Check.same("full", 99, chain.level(4));
        chain.advance(30);
        Check.same("empty, because its gate is open", 0, chain.level(0));
    }

    static void promise12LevelIsNeverAboveTheCapacityAfterAStep() {
        SluiceChain chain = States.oneBasin(99, 3);
        States.rain(chain, 2, 20);
        chain.advance(2);
        Check.same("level", 99, chain.level(0));
    }

    static void promise12RefusesWhatIsNoBasin() {
        checkBasins(SluiceChain::level);
    }

    static void promise13CatchmentOf0To3() {
        SluiceChain chain = new SluiceChain();
        for (int i = 0; i < 4; i++) {
            chain.addBasin(10, i, 0);
            Check.same("catchment", i, chain.catchment(i));
        }
    }

    static void promise13RefusesWhatIsNoBasin() {
        checkBasins(SluiceChain::catchment);
    }

    static void promise14ValueOfTheFirstAndTheLastBasin() {
        SluiceChain chain = States.full();
        Check.same("first", 0, chain.fieldValue(0));
        Check.same("last", 40, chain.fieldValue(4));
    }

    static void promise14RefusesWhatIsNoBasin() {
        checkBasins(SluiceChain::fieldValue);
    }

    static void promise15OpeningOf0To5() {
        SluiceChain chain = States.basins(1);
        Check.same("at first", 0, chain.opening(0));
        for (int opening = 5; opening >= 0; opening--) {
            chain.setGate(0, opening);
            Check.same("set", opening, chain.opening(0));
        }
    }

    static void promise15OpeningOfAnAutomaticGateIsTheLastOneItHad() {
        SluiceChain chain = States.holding(99);
        chain.setAutomatic(0, 99);
        chain.advance(1);
        Check.same("at its threshold", 0, chain.opening(0));
        chain.setAutomatic(0, 0);
        int[] due = {5, 5, 5, 5, 4, 0, 0};
        for (int i = 0; i < due.length; i++) {
            chain.advance(1);
            Check.same("with the threshold 0, step " + i, due[i], chain.opening(0));
        }
        Check.same("99 - 4 * 20 - 16", 3, chain.level(0));
    }

    static void promise15RefusesWhatIsNoBasin() {
        checkBasins(SluiceChain::opening);
    }

    static void promise16ManualAtFirst() {
        Check.no("automatic", States.basins(5).isAutomatic(4));
    }

    static void promise16AutomaticUntilItIsManualAgain() {
        SluiceChain chain = States.basins(5);
        chain.setAutomatic(4, 0);
        Check.yes("automatic", chain.isAutomatic(4));
        Check.no("the one before it", chain.isAutomatic(3));
        chain.setManual(4);
        Check.no("manual again", chain.isAutomatic(4));
    }

    static void promise16RefusesWhatIsNoBasin() {
        checkBasins(SluiceChain::isAutomatic);
    }

    static void promise17ThresholdOf0And99() {
        SluiceChain chain = States.basins(5);
        chain.setAutomatic(0, 0);
        chain.setAutomatic(4, 99);
        Check.same("the least", 0, chain.threshold(0));
        Check.same("the greatest", 99, chain.threshold(4));
    }

    static void promise17RefusesAManualGate() {
        Edges.refused("manual", Edges.NONE, States::busy, chain -> chain.threshold(0));
        Edges.refused("manual", Edges.NONE, States::full, chain -> chain.threshold(3));
    }

    static void promise17RefusesAGateThatIsManualAgain() {
        Edges.refused("manual again", Edges.NONE, () -> {
            SluiceChain chain = States.busy();
            chain.setManual(1);
            return chain;
        }, chain -> chain.threshold(1));
    }

    static void promise17RefusesWhatIsNoBasin() {
        checkBasins(SluiceChain::threshold);
    }

    static void promise18NothingSpilledAtFirst() {
        Check.same("spilled", 0, States.full().spilled(4));
    }

    static void promise18SpilledIsNothingAtTheCapacityAndOneAboveIt() {
        SluiceChain chain = States.oneBasin(10, 1);
        chain.addRain(10);
        chain.advance(1);
        Check.same("at the capacity", 0, chain.spilled(0));
        chain.addRain(1);
        chain.advance(1);
        Check.same("above it", 1, chain.spilled(0));
    }

    static void promise18SpilledSoFarIsASum() {
        SluiceChain chain = States.oneBasin(10, 3);
        for (int i = 0; i < 40; i++) {
            chain.addRain(20);
            chain.advance(1);
        }
        Check.same("spilled", 40 * 60 - 10, chain.spilled(0));
    }

    static void promise18RefusesWhatIsNoBasin() {
        checkBasins(SluiceChain::spilled);
    }

    static void promise19NoFloodedStepsAtFirst() {
        Check.same("flooded", 0, States.full().floodedSteps(4));
    }

    static void promise19FloodedStepIsOneThatSpills() {
        SluiceChain chain = States.oneBasin(10, 1);
        chain.addRain(10);
        chain.addRain(0);
        chain.addRain(1);
        chain.advance(2);
        Check.same("full, but not flooded", 0, chain.floodedSteps(0));
        chain.advance(1);
        Check.same("flooded", 1, chain.floodedSteps(0));
        chain.advance(1);
        Check.same("no rain", 1, chain.floodedSteps(0));
    }

    static void promise19StepCountsOnceHoweverMuchItSpills() {
        SluiceChain chain = States.oneBasin(10, 3);
        States.rain(chain, 12, 20);
        chain.advance(12);
        Check.same("flooded", 12, chain.floodedSteps(0));
    }

    static void promise19RefusesWhatIsNoBasin() {
        checkBasins(SluiceChain::floodedSteps);
    }

    // ---- 20: basinAtRank

    static void promise20RanksOf0To4InAFullChain() {
        SluiceChain chain = States.basins(5);
        for (int i = 1; i < 5; i++) {
            chain.pour(i, 10 * i);
        }
        for (int rank = 0; rank < 5; rank++) {
            Check.same("rank " + rank, 4 - rank, chain.basinAtRank(rank));
        }
    }

    static void promise20OnlyBasinHasRank0() {
        Check.same("rank 0", 0, States.basins(1).basinAtRank(0));
    }

    static void promise20RefusesNegativeRanks() {
        for (int rank : new int[] {-1, -2, -5, Integer.MIN_VALUE}) {
            Edges.refusedEverywhere("rank " + rank, Edges.NONE, chain -> chain.basinAtRank(rank));
        }
    }

    static void promise20RefusesTheNumberOfBasins() {
        for (int count = 0; count <= 5; count++) {
            int none = count;
            Edges.refused("rank " + none + " of as many", Edges.NONE, () -> States.basins(none),
                    chain -> chain.basinAtRank(none));
        }
        for (int rank : Edges.outside(0, 4)) {
            Edges.refusedEverywhere("rank " + rank, Edges.NONE, chain -> chain.basinAtRank(rank));
        }
    }

    static void promise20EmptyBasinsAreRankedByIndex() {
        SluiceChain chain = new SluiceChain();
        for (int i = 0; i < 5; i++) {
            chain.addBasin(50 - 10 * i, 0, 0);
        }
        for (int rank = 0; rank < 5; rank++) {
            Check.same("rank " + rank, rank, chain.basinAtRank(rank));
        }
    }

    static void promise20FullBasinsAreRankedByIndex() {
        SluiceChain chain = new SluiceChain();
        for (int i = 0; i < 5; i++) {
            chain.addBasin(10 + 8 * i, 0, 0);
            chain.pour(i, 10 + 8 * i);
        }
        for (int rank = 0; rank < 5; rank++) {
            Check.same("rank " + rank, rank, chain.basinAtRank(rank));
        }
    }

    static void promise20EqualQuotientsOfOtherNumbersAreRankedByIndex() {
        checkRanks(99, 33, 30, 10, 0);
        checkRanks(30, 10, 99, 33, 0);
        checkRanks(98, 49, 10, 5, 0);
    }

    /** 50/99 and 49/97 differ by 1/9603, and are equal in hundredths and in thousandths. */
    static void promise20QuotientsAreComparedExactly() {
        checkRanks(97, 49, 99, 50, 0);
        checkRanks(99, 50, 97, 49, 1);
        checkRanks(98, 97, 99, 98, 1);
        checkRanks(99, 98, 98, 97, 0);
        checkRanks(98, 1, 99, 1, 0);
        checkRanks(99, 1, 98, 1, 1);
    }

    static void promise20MoreWaterCanBeALowerRank() {
        checkRanks(99, 48, 10, 5, 1);
        checkRanks(10, 5, 99, 48, 0);
    }

    private static void checkRanks(int capacity, int level, int other, int otherLevel, int first) {
        SluiceChain chain = new SluiceChain();
        chain.addBasin(capacity, 0, 0);
        chain.addBasin(other, 0, 0);
        States.pour(chain, 0, level);
        States.pour(chain, 1, otherLevel);
        String what = level + "/" + capacity + " and " + otherLevel + "/" + other;
        Check.same(what + ", rank 0", first, chain.basinAtRank(0));
        Check.same(what + ", rank 1", 1 - first, chain.basinAtRank(1));
    }

    // ---- 21 to 23: time and forecast

    static void promise21TimeIs0BeforeTheFirstStep() {
        SluiceChain chain = States.basins(2);
        chain.addRain(3);
        Check.same("time", 0, chain.time());
    }

    static void promise21TimeIsTheNumberOfSteps() {
        SluiceChain chain = new SluiceChain();
        chain.advance(1);
        Check.same("one", 1, chain.time());
        chain.advance(30);
        Check.same("and thirty", 31, chain.time());
    }

    static void promise21RefusedStepsDoNotCount() {
        SluiceChain chain = new SluiceChain();
        Check.fails("31", Edges.ARGUMENT, () -> chain.advance(31));
        Check.fails("0", Edges.ARGUMENT, () -> chain.advance(0));
        Check.same("time", 0, chain.time());
    }

    static void promise22LengthOfAnEmptyForecast() {
        Check.same("length", 0, new SluiceChain().forecastLength());
    }

    static void promise22LengthOfAFullForecast() {
        SluiceChain chain = States.full();
        Check.same("length", 12, chain.forecastLength());
        Check.fails("one more", Edges.STATE, () -> chain.addRain(1));
        Check.same("length after it", 12, chain.forecastLength());
    }

    static void promise22LengthDoesNotGoBelow0() {
        SluiceChain chain = new SluiceChain();
        chain.addRain(1);
        chain.advance(1);
        Check.same("used up", 0, chain.forecastLength());
        chain.advance(1);
        Check.same("one step later", 0, chain.forecastLength());
    }

    static void promise23FirstAndLastPositionOfAFullForecast() {
        SluiceChain chain = States.full();
        Check.same("the next step", 20, chain.rainAt(0));
        Check.same("the last", 9, chain.rainAt(11));
    }

    static void promise23OnlyPosition() {
        SluiceChain chain = new SluiceChain();
        chain.addRain(20);
        Check.same("position 0", 20, chain.rainAt(0));
        Check.fails("position 1", Edges.INDEX, () -> chain.rainAt(1));
    }

    static void promise23RefusesNegativePositions() {
        for (int position : new int[] {-1, -2, -12, -256, -65536, Integer.MIN_VALUE}) {
            Edges.refusedEverywhere("position " + position, Edges.INDEX,
                    chain -> chain.rainAt(position));
        }
    }

    static void promise23RefusesTheNumberOfAmounts() {
        Edges.refused("0 of none", Edges.INDEX, States::empty, chain -> chain.rainAt(0));
        Edges.refused("3 of three", Edges.INDEX, States::busy, chain -> chain.rainAt(3));
        Edges.refused("12 of twelve", Edges.INDEX, States::full, chain -> chain.rainAt(12));
        for (int position : Edges.outside(0, 11)) {
            Edges.refusedEverywhere("position " + position, Edges.INDEX,
                    chain -> chain.rainAt(position));
        }
    }

    static void promise23RefusesWhatHasFallen() {
        SluiceChain chain = States.full();
        chain.advance(1);
        Check.same("the last", 9, chain.rainAt(10));
        Check.fails("no more", Edges.INDEX, () -> chain.rainAt(11));
        Check.same("the next step", 19, chain.rainAt(0));
    }

    static void promise23RefusesWhatWasCleared() {
        SluiceChain chain = States.full();
        chain.clearForecast();
        Check.fails("position 0", Edges.INDEX, () -> chain.rainAt(0));
    }

    // ---- 24 to 26: the water

    static void promise24NothingStoredWithoutBasins() {
        Check.same("stored", 0, new SluiceChain().stored());
    }

    static void promise24MostThatCanBeStored() {
        Check.same("stored", 495, States.full().stored());
    }

    static void promise24LevelsOfAllBasinsAreAdded() {
        SluiceChain chain = States.basins(5);
        for (int i = 0; i < 5; i++) {
            chain.pour(i, 1 << i);
        }
        Check.same("stored", 31, chain.stored());
    }

    static void promise25NothingStoredWithoutBasins() {
        SluiceChain chain = new SluiceChain();
        chain.addRain(20);
        Check.same("at first", 0, chain.storedByAccounts());
        chain.advance(1);
        Check.same("rain that came into no basin", 0, chain.storedByAccounts());
    }

    static void promise25MostThatCanBeStored() {
        Check.same("stored", 495, States.full().storedByAccounts());
    }

    static void promise25CatchmentOf0BringsNoRainIn() {
        SluiceChain chain = States.oneBasin(10, 0);
        chain.addRain(20);
        chain.advance(1);
        Check.same("stored", 0, chain.storedByAccounts());
    }

    static void promise25RainThatSpillsAtOnceIsTakenOff() {
        SluiceChain chain = States.oneBasin(10, 3);
        States.rain(chain, 12, 20);
        chain.advance(12);
        Check.same("stored", 10, chain.storedByAccounts());
    }

    static void promise25RiverIsTakenOff() {
        SluiceChain chain = States.holding(20);
        chain.setGate(0, 5);
        chain.advance(1);
        Check.same("stored", 0, chain.storedByAccounts());
    }

    static void promise25RefusedPourIsNotInTheAccounts() {
        SluiceChain chain = States.holding(99);
        Check.fails("too much", Edges.STATE, () -> chain.pour(0, 1));
        Check.fails("nothing", Edges.ARGUMENT, () -> chain.pour(0, 0));
        Check.same("stored", 99, chain.storedByAccounts());
    }

    static void promise25AccountsAgreeInAllSteps() {
        SluiceChain chain = States.busy();
        for (int i = 0; i < 20; i++) {
            chain.advance(1);
            Check.same("after " + i, chain.stored(), chain.storedByAccounts());
        }
        while (Traces.canUndo(chain)) {
            Check.same("undone", chain.stored(), chain.storedByAccounts());
        }
        chain.restore();
        Check.same("restored", chain.stored(), chain.storedByAccounts());
    }

    static void promise26NothingHasFlownAtFirst() {
        Check.same("river", 0, new SluiceChain().riverTotal());
        SluiceChain chain = new SluiceChain();
        chain.addRain(20);
        chain.advance(30);
        Check.same("without basins", 0, chain.riverTotal());
    }

    static void promise26ClosedGateLetsNothingFlow() {
        SluiceChain chain = States.full();
        chain.advance(1);
        Check.same("river", 0, chain.riverTotal());
    }

    static void promise26OneUnit() {
        SluiceChain chain = States.holding(1);
        chain.setGate(0, 1);
        chain.advance(1);
        Check.same("river", 1, chain.riverTotal());
    }

    static void promise26MostThatFlowsInAStep() {
        SluiceChain chain = States.holding(99);
        chain.setGate(0, 5);
        chain.advance(1);
        Check.same("one step", 20, chain.riverTotal());
        chain.advance(4);
        Check.same("all of it", 99, chain.riverTotal());
    }

    static void promise26SpilledWaterIsNotInTheRiver() {
        SluiceChain chain = States.oneBasin(10, 3);
        chain.addRain(20);
        chain.advance(1);
        Check.same("river", 0, chain.riverTotal());
    }

    // ---- 27 and 28: quotients

    static void promise27RefusesAChainWithoutBasins() {
        Edges.refused("new", Edges.ARITHMETIC, States::empty, SluiceChain::meanFill);
        Edges.refused("undone", Edges.ARITHMETIC, () -> {
            SluiceChain chain = States.basins(1);
            chain.undo();
            return chain;
        }, SluiceChain::meanFill);
        Edges.refused("with time and rain", Edges.ARITHMETIC, () -> {
            SluiceChain chain = new SluiceChain();
            chain.addRain(20);
            chain.advance(1);
            return chain;
        }, SluiceChain::meanFill);
    }

    static void promise27EmptyBasins() {
        Check.sameDouble("one", 0.0, States.basins(1).meanFill());
        Check.sameDouble("five", 0.0, States.basins(5).meanFill());
    }

    static void promise27FullBasins() {
        Check.sameDouble("one", 1.0, States.holding(99).meanFill());
        Check.sameDouble("five", 1.0, States.full().meanFill());
    }

    static void promise27QuotientsAreNotRounded() {
        SluiceChain chain = States.oneBasin(30, 0);
        chain.pour(0, 29);
        Check.sameDouble("29/30", 29.0 / 30.0, chain.meanFill());
    }

    /** With these numbers another order of the sum or an earlier division answers otherwise. */
    static void promise27SumIsInTheOrderOfTheIndices() {
        int[] capacities = {35, 97, 65, 80, 25};
        int[] levels = {34, 11, 39, 29, 6};
        SluiceChain chain = new SluiceChain();
        for (int i = 0; i < 5; i++) {
            chain.addBasin(capacities[i], 0, 0);
            chain.pour(i, levels[i]);
        }
        double sum = 34.0 / 35.0;
        sum += 11.0 / 97.0;
        sum += 39.0 / 65.0;
        sum += 29.0 / 80.0;
        sum += 6.0 / 25.0;
        Check.sameDouble("mean", sum / 5.0, chain.meanFill());
        Check.sameDouble("mean as a number", 0.45746612665684816, chain.meanFill());
    }

    static void promise28RefusesTime0() {
        Edges.refused("new", Edges.ARITHMETIC, States::empty, SluiceChain::floodShare);
        Edges.refused("with basins", Edges.ARITHMETIC, States::full, SluiceChain::floodShare);
        Edges.refused("undone", Edges.ARITHMETIC, () -> {
            SluiceChain chain = States.oneBasin(10, 3);
            chain.addRain(20);
            chain.advance(1);
            chain.undo();
            return chain;
        }, SluiceChain::floodShare);
    }

    static void promise28NoBasinsAtTime1() {
        SluiceChain chain = new SluiceChain();
        chain.advance(1);
        Check.sameDouble("share", 0.0f, chain.floodShare());
    }

    static void promise28NoFlood() {
        Check.sameDouble("share", 0.0f, States.steps(States.holding(99), 30).floodShare());
    }

    static void promise28AllFieldsInEachStep() {
        SluiceChain chain = States.basins(5);
        for (int i = 0; i < 5; i++) {
            chain.pour(i, 50);
        }
        States.rain(chain, 12, 1);
        Check.sameDouble("share", 5.0f, States.steps(chain, 12).floodShare());
    }

    static void promise28QuotientIsAFloat() {
        SluiceChain chain = States.oneBasin(10, 1);
        chain.addRain(11);
        Check.sameDouble("1 / 30", 1.0f / 30.0f, States.steps(chain, 30).floodShare());
        chain.addRain(1);
        Check.sameDouble("2 / 60", 2.0f / 60.0f, States.steps(chain, 30).floodShare());
    }
}
