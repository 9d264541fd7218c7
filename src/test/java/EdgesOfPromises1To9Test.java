/** The boundary cases of the promises 1 to 9: a new object, and what changes it. */
public final class EdgesOfPromises1To9Test {
    private EdgesOfPromises1To9Test() {
    }

    public static void main(String[] args) {
        Edges.runPromises(EdgesOfPromises1To9Test.class, 1, 9);
    }

    // ---- 1: a new object

    static void promise1NewObjectHasNoBasins() {
        SluiceChain chain = new SluiceChain();
        Check.same("number", 0, chain.basinCount());
        Check.fails("basin 0", Edges.INDEX, () -> chain.level(0));
        Check.fails("rank 0", Edges.NONE, () -> chain.basinAtRank(0));
        Check.same("line", 0, chain.writeChain());
        Check.same("stored", 0, chain.stored());
    }

    static void promise1NewObjectHasNoForecast() {
        SluiceChain chain = new SluiceChain();
        Check.same("length", 0, chain.forecastLength());
        Check.fails("position 0", Edges.INDEX, () -> chain.rainAt(0));
        Check.same("line", 0, chain.writeForecast());
        Check.same("sum", 0, chain.clearForecast());
    }

    static void promise1NewObjectIsAtTime0() {
        SluiceChain chain = new SluiceChain();
        Check.same("time", 0, chain.time());
        Check.fails("share", Edges.ARITHMETIC, chain::floodShare);
    }

    static void promise1NewObjectHasNothingElse() {
        SluiceChain chain = new SluiceChain();
        Check.same("river", 0, chain.riverTotal());
        Check.fails("undo", Edges.STATE, chain::undo);
        Check.fails("restore", Edges.STATE, chain::restore);
        Check.fails("line", Edges.INDEX, () -> chain.outputAt(0));
        Check.fails("error position", Edges.NONE, chain::errorPosition);
        Check.fails("failed command", Edges.NONE, chain::failedCommand);
        Check.same("text", 1, chain.append('a'));
    }

    static void promise1ObjectsHaveNothingInCommon() {
        String before = Traces.of(States::empty);
        Traces.of(States::full);
        Check.sameText("a new object after a full one", before, Traces.of(States::empty));
        SluiceChain one = States.busy();
        String told = Chains.stateOf(one);
        SluiceChain other = States.full();
        other.advance(30);
        other.restore();
        Check.sameText("the one after the other", told, Chains.stateOf(one));
        Check.sameText("its line", "20/20|2 9/30:2~6", Traces.lineOf(one));
        Check.same("its text", 2, one.run());
        SluiceChain empty = new SluiceChain();
        empty.save();
        one.save();
        empty.addRain(1);
        empty.restore();
        Check.same("what the other one has saved is not restored", 0, empty.basinCount());
    }

    // ---- 2: addBasin

    static void promise2TakesCapacityOf10() {
        SluiceChain chain = new SluiceChain();
        Check.same("index", 0, chain.addBasin(10, 1, 1));
        Check.same("capacity", 10, chain.capacity(0));
    }

    static void promise2TakesCapacityOf99() {
        SluiceChain chain = new SluiceChain();
        Check.same("index", 0, chain.addBasin(99, 1, 1));
        Check.same("capacity", 99, chain.capacity(0));
    }

    static void promise2RefusesCapacityOf9And100() {
        for (int capacity : Edges.outside(10, 99)) {
            Edges.refusedEverywhere("capacity " + capacity, Edges.ARGUMENT,
                    chain -> chain.addBasin(capacity, 1, 1));
        }
        Edges.refusedEverywhere("0", Edges.ARGUMENT, chain -> chain.addBasin(0, 1, 1));
    }

    static void promise2TakesCatchmentOf0() {
        SluiceChain chain = new SluiceChain();
        Check.same("index", 0, chain.addBasin(50, 0, 1));
        Check.same("catchment", 0, chain.catchment(0));
    }

    static void promise2TakesCatchmentOf3() {
        SluiceChain chain = new SluiceChain();
        Check.same("index", 0, chain.addBasin(50, 3, 1));
        Check.same("catchment", 3, chain.catchment(0));
    }

    static void promise2RefusesCatchmentOfMinus1And4() {
        for (int catchment : Edges.outside(0, 3)) {
            Edges.refusedEverywhere("catchment " + catchment, Edges.ARGUMENT,
                    chain -> chain.addBasin(50, catchment, 1));
        }
    }

    static void promise2TakesValueOf0() {
        SluiceChain chain = new SluiceChain();
        Check.same("index", 0, chain.addBasin(50, 1, 0));
        Check.same("value", 0, chain.fieldValue(0));
    }

    static void promise2TakesValueOf99() {
        SluiceChain chain = new SluiceChain();
        Check.same("index", 0, chain.addBasin(50, 1, 99));
        Check.same("value", 99, chain.fieldValue(0));
    }

    static void promise2RefusesValueOfMinus1And100() {
        for (int value : Edges.outside(0, 99)) {
            Edges.refusedEverywhere("value " + value, Edges.ARGUMENT,
                    chain -> chain.addBasin(50, 1, value));
        }
    }

    static void promise2AddsAnEmptyBasin() {
        SluiceChain chain = States.busy();
        Check.same("index", 2, chain.addBasin(50, 1, 1));
        Check.same("level", 0, chain.level(2));
        Check.same("opening", 0, chain.opening(2));
        Check.no("automatic", chain.isAutomatic(2));
        Check.same("spilled", 0, chain.spilled(2));
        Check.same("flooded", 0, chain.floodedSteps(2));
    }

    /** The basin that stood there before had water, an automatic gate, and a flood. */
    static void promise2BasinInThePlaceOfAnUndoneOneIsEmpty() {
        SluiceChain chain = new SluiceChain();
        Chains.run(chain, "basin 10 3 9;gate 0 4;rain 20;step 1;auto 0 50");
        chain.undo();
        chain.addBasin(30, 0, 0);
        checkFresh("after undo", chain);
        SluiceChain restored = new SluiceChain();
        restored.save();
        Chains.run(restored, "basin 10 3 9;gate 0 4;rain 20;step 1;auto 0 50");
        restored.restore();
        restored.addBasin(30, 0, 0);
        checkFresh("after restore", restored);
        SluiceChain failed = new SluiceChain();
        Chains.type(failed, "basin 10 3 9;gate 0 4;rain 20;step 1;auto 0 50;hand 1");
        Check.fails("it fails", Edges.FAILED, failed::run);
        failed.addBasin(30, 0, 0);
        checkFresh("after a program that failed", failed);
    }

    private static void checkFresh(String what, SluiceChain chain) {
        Check.sameText(what, "time 0 stored 0 accounts 0 river 0 forecast [0 30 0 0 0 -1 0 0]",
                Chains.stateOf(chain));
    }

    static void promise2AddsTheBasinAtTheEnd() {
        SluiceChain chain = States.holding(40);
        chain.setGate(0, 5);
        chain.advance(1);
        Check.same("into the river", 20, chain.riverTotal());
        chain.addBasin(30, 0, 0);
        chain.advance(1);
        Check.same("no more into the river", 20, chain.riverTotal());
        Check.same("but into the new basin", 20, chain.level(1));
    }

    static void promise2AnswersTheIndices0To4() {
        SluiceChain chain = new SluiceChain();
        for (int i = 0; i < 5; i++) {
            Check.same("index", i, chain.addBasin(10 + i, 0, 0));
        }
        for (int i = 0; i < 5; i++) {
            Check.same("capacity", 10 + i, chain.capacity(i));
        }
    }

    static void promise2TakesAFifthBasin() {
        SluiceChain chain = States.basins(4);
        Check.same("index", 4, chain.addBasin(50, 1, 1));
        Check.same("number", 5, chain.basinCount());
    }

    static void promise2RefusesASixthBasin() {
        Edges.refused("sixth", Edges.STATE, States::full, chain -> chain.addBasin(50, 1, 1));
        Edges.refused("sixth", Edges.STATE, () -> States.basins(5),
                chain -> chain.addBasin(10, 0, 0));
    }

    static void promise2TakesAFifthBasinAfterTheFifthIsUndone() {
        SluiceChain chain = States.basins(5);
        chain.undo();
        Check.same("index", 4, chain.addBasin(60, 1, 1));
        Check.same("capacity", 60, chain.capacity(4));
        Check.fails("sixth", Edges.STATE, () -> chain.addBasin(60, 1, 1));
    }

    static void promise2RangesComeBeforeTheNumberOfBasins() {
        int[][] wrong = {
            {9, 0, 0}, {100, 3, 99}, {10, -1, 0}, {99, 4, 99}, {10, 0, -1}, {99, 3, 100},
            {9, 4, 100},
        };
        for (int[] row : wrong) {
            Edges.refused("sixth, and out of range", Edges.ARGUMENT, States::full,
                    chain -> chain.addBasin(row[0], row[1], row[2]));
        }
    }

    // ---- 3: setGate

    static void promise3TakesTheFirstAndTheLastBasin() {
        SluiceChain chain = States.basins(5);
        Check.same("first", 0, chain.setGate(0, 2));
        Check.same("last", 0, chain.setGate(4, 3));
        Check.same("opening of the first", 2, chain.opening(0));
        Check.same("opening of the last", 3, chain.opening(4));
        Check.same("another", 0, chain.opening(2));
    }

    static void promise3RefusesWhatIsNoBasin() {
        checkNoBasin((chain, basin) -> chain.setGate(basin, 1));
    }

    static void promise3TakesOpeningOf0() {
        SluiceChain chain = States.holding(10);
        chain.setGate(0, 3);
        Check.same("previous", 3, chain.setGate(0, 0));
        Check.same("opening", 0, chain.opening(0));
    }

    static void promise3TakesOpeningOf5() {
        SluiceChain chain = States.holding(10);
        Check.same("previous", 0, chain.setGate(0, 5));
        Check.same("opening", 5, chain.opening(0));
    }

    static void promise3RefusesOpeningOfMinus1And6() {
        for (int opening : Edges.outside(0, 5)) {
            Edges.refused("opening " + opening, Edges.ARGUMENT, States::busy,
                    chain -> chain.setGate(0, opening));
        }
    }

    static void promise3AnswersThePreviousOpeningIfItIsTheSame() {
        SluiceChain chain = States.holding(10);
        chain.setGate(0, 5);
        Check.same("previous", 5, chain.setGate(0, 5));
        Check.same("opening", 5, chain.opening(0));
    }

    static void promise3RefusesAnAutomaticGate() {
        Edges.refused("automatic", Edges.STATE, States::busy, chain -> chain.setGate(1, 0));
        Edges.refused("automatic", Edges.STATE, States::full, chain -> chain.setGate(4, 5));
    }

    static void promise3TakesAGateThatIsManualAgain() {
        SluiceChain chain = States.busy();
        chain.setManual(1);
        Check.same("previous", 2, chain.setGate(1, 4));
        Check.same("opening", 4, chain.opening(1));
    }

    static void promise3NoBasinComesBeforeTheOpening() {
        Edges.refusedEverywhere("below", Edges.INDEX, chain -> chain.setGate(-1, 6));
        Edges.refusedEverywhere("above", Edges.INDEX, chain -> chain.setGate(5, -1));
        Edges.refused("at the number", Edges.INDEX, States::busy, chain -> chain.setGate(2, 6));
    }

    static void promise3OpeningComesBeforeTheAutomaticGate() {
        for (int opening : Edges.outside(0, 5)) {
            Edges.refused("automatic, " + opening, Edges.ARGUMENT, States::busy,
                    chain -> chain.setGate(1, opening));
        }
    }

    // ---- 4: setAutomatic

    static void promise4TakesTheFirstAndTheLastBasin() {
        SluiceChain chain = States.basins(5);
        Check.same("one", 1, chain.setAutomatic(0, 7));
        Check.same("two", 2, chain.setAutomatic(4, 8));
        Check.same("threshold of the first", 7, chain.threshold(0));
        Check.same("threshold of the last", 8, chain.threshold(4));
        Check.no("another", chain.isAutomatic(2));
    }

    static void promise4RefusesWhatIsNoBasin() {
        checkNoBasin((chain, basin) -> chain.setAutomatic(basin, 1));
    }

    static void promise4TakesThresholdOf0() {
        SluiceChain chain = States.basins(1);
        Check.same("automatic gates", 1, chain.setAutomatic(0, 0));
        Check.same("threshold", 0, chain.threshold(0));
    }

    static void promise4TakesThresholdOf99() {
        SluiceChain chain = States.basins(1);
        Check.same("automatic gates", 1, chain.setAutomatic(0, 99));
        Check.same("threshold", 99, chain.threshold(0));
    }

    static void promise4RefusesThresholdOfMinus1And100() {
        for (int threshold : Edges.outside(0, 99)) {
            Edges.refused("of a manual gate, " + threshold, Edges.ARGUMENT, States::busy,
                    chain -> chain.setAutomatic(0, threshold));
            Edges.refused("of an automatic gate, " + threshold, Edges.ARGUMENT, States::busy,
                    chain -> chain.setAutomatic(1, threshold));
        }
    }

    static void promise4AnswersTheNumberOfAutomaticGates() {
        SluiceChain chain = States.basins(5);
        for (int i = 0; i < 5; i++) {
            Check.same("after another", i + 1, chain.setAutomatic(4 - i, 1));
        }
    }

    static void promise4AnotherThresholdDoesNotCountTwice() {
        SluiceChain chain = States.basins(2);
        chain.setAutomatic(0, 3);
        Check.same("automatic gates", 1, chain.setAutomatic(0, 4));
        Check.same("threshold", 4, chain.threshold(0));
    }

    static void promise4OpeningStaysUntilTheNextStep() {
        SluiceChain chain = States.holding(50);
        chain.setGate(0, 5);
        chain.setAutomatic(0, 46);
        Check.same("before it", 5, chain.opening(0));
        chain.setAutomatic(0, 42);
        Check.same("with another threshold", 5, chain.opening(0));
        chain.advance(1);
        Check.same("after it", 2, chain.opening(0));
        Check.same("the step flows by the new one", 42, chain.level(0));
    }

    static void promise4NoBasinComesBeforeTheThreshold() {
        Edges.refusedEverywhere("below", Edges.INDEX, chain -> chain.setAutomatic(-1, 100));
        Edges.refusedEverywhere("above", Edges.INDEX, chain -> chain.setAutomatic(5, -1));
        Edges.refused("at the number", Edges.INDEX, States::busy,
                chain -> chain.setAutomatic(2, 100));
    }

    // ---- 5: setManual

    static void promise5TakesTheFirstAndTheLastBasin() {
        SluiceChain chain = States.basins(5);
        for (int i = 0; i < 5; i++) {
            chain.setAutomatic(i, 9);
        }
        Check.same("four are left", 4, chain.setManual(0));
        Check.same("three are left", 3, chain.setManual(4));
        Check.no("first", chain.isAutomatic(0));
        Check.no("last", chain.isAutomatic(4));
        Check.yes("another", chain.isAutomatic(2));
    }

    static void promise5RefusesWhatIsNoBasin() {
        checkNoBasin((chain, basin) -> chain.setManual(basin));
    }

    static void promise5RefusesAManualGate() {
        Edges.refused("manual", Edges.STATE, States::busy, chain -> chain.setManual(0));
        Edges.refused("manual", Edges.STATE, States::full, chain -> chain.setManual(3));
    }

    static void promise5RefusesASecondCall() {
        Edges.refused("second", Edges.STATE, () -> {
            SluiceChain chain = States.basins(1);
            chain.setAutomatic(0, 5);
            chain.setManual(0);
            return chain;
        }, chain -> chain.setManual(0));
    }

    static void promise5LastAutomaticGateAnswers0() {
        SluiceChain chain = States.busy();
        Check.same("automatic gates", 0, chain.setManual(1));
        Check.fails("threshold", Edges.NONE, () -> chain.threshold(1));
    }

    static void promise5OpeningStays() {
        SluiceChain chain = States.holding(99);
        chain.setAutomatic(0, 79);
        chain.advance(1);
        Check.same("opened by itself", 5, chain.opening(0));
        chain.setManual(0);
        Check.same("at once", 5, chain.opening(0));
        chain.advance(3);
        Check.same("after steps", 5, chain.opening(0));
        Check.same("79 - 60", 19, chain.level(0));
    }

    // ---- 6: addRain

    static void promise6TakesAmountOf0() {
        SluiceChain chain = new SluiceChain();
        Check.same("amounts", 1, chain.addRain(0));
        Check.same("amount", 0, chain.rainAt(0));
    }

    static void promise6TakesAmountOf20() {
        SluiceChain chain = new SluiceChain();
        Check.same("amounts", 1, chain.addRain(20));
        Check.same("amount", 20, chain.rainAt(0));
    }

    static void promise6RefusesAmountOfMinus1And21() {
        for (int amount : Edges.outside(0, 20)) {
            Edges.refusedEverywhere("amount " + amount, Edges.ARGUMENT,
                    chain -> chain.addRain(amount));
        }
    }

    static void promise6AppendsAtTheEnd() {
        SluiceChain chain = new SluiceChain();
        for (int i = 0; i < 12; i++) {
            Check.same("amounts", i + 1, chain.addRain(20 - i));
            Check.same("the last", 20 - i, chain.rainAt(i));
            Check.same("the first", 20, chain.rainAt(0));
        }
    }

    static void promise6TakesTheTwelfthAmount() {
        SluiceChain chain = new SluiceChain();
        States.rain(chain, 11, 1);
        Check.same("amounts", 12, chain.addRain(2));
        Check.same("the last", 2, chain.rainAt(11));
    }

    static void promise6RefusesTheThirteenthAmount() {
        Edges.refused("thirteenth", Edges.STATE, States::full, chain -> chain.addRain(0));
        Edges.refused("thirteenth", Edges.STATE, States::full, chain -> chain.addRain(20));
    }

    static void promise6TakesAnAmountAgainAfterAStep() {
        SluiceChain chain = States.full();
        chain.advance(1);
        Check.same("amounts", 12, chain.addRain(2));
        Check.same("the last", 2, chain.rainAt(11));
        Check.fails("one more", Edges.STATE, () -> chain.addRain(2));
    }

    static void promise6AmountComesBeforeTheFullForecast() {
        for (int amount : Edges.outside(0, 20)) {
            Edges.refused("full, " + amount, Edges.ARGUMENT, States::full,
                    chain -> chain.addRain(amount));
        }
    }

    // ---- 7: clearForecast

    static void promise7EmptyForecastAnswers0() {
        SluiceChain chain = new SluiceChain();
        Check.same("sum", 0, chain.clearForecast());
        Check.same("length", 0, chain.forecastLength());
    }

    static void promise7OneAmountIsItsSum() {
        SluiceChain chain = new SluiceChain();
        chain.addRain(17);
        Check.same("sum", 17, chain.clearForecast());
        Check.same("length", 0, chain.forecastLength());
    }

    static void promise7FullForecastOfMostRain() {
        SluiceChain chain = new SluiceChain();
        States.rain(chain, 12, 20);
        Check.same("sum", 240, chain.clearForecast());
        Check.same("length", 0, chain.forecastLength());
        Check.fails("position 0", Edges.INDEX, () -> chain.rainAt(0));
    }

    static void promise7FullForecastOfNoRain() {
        SluiceChain chain = new SluiceChain();
        States.rain(chain, 12, 0);
        Check.same("sum", 0, chain.clearForecast());
        Check.same("length", 0, chain.forecastLength());
    }

    static void promise7SecondCallAnswers0() {
        SluiceChain chain = States.full();
        Check.same("20 to 9", 174, chain.clearForecast());
        Check.same("sum", 0, chain.clearForecast());
    }

    static void promise7RainThatHasFallenIsNotInTheSum() {
        SluiceChain chain = States.full();
        chain.advance(11);
        Check.same("the last of 12", 9, chain.clearForecast());
    }

    static void promise7TwelveAmountsCanComeAfterwards() {
        SluiceChain chain = States.full();
        chain.clearForecast();
        States.rain(chain, 12, 3);
        Check.same("length", 12, chain.forecastLength());
        Check.same("the first is new", 3, chain.rainAt(0));
    }

    // ---- 8: pour

    static void promise8TakesTheFirstAndTheLastBasin() {
        SluiceChain chain = States.basins(5);
        Check.same("first", 3, chain.pour(0, 3));
        Check.same("last", 4, chain.pour(4, 4));
        Check.sameText("levels", "3/50|0 0/50|0 0/50|0 0/50|0 4/50|0", Chains.chainLine(chain));
    }

    static void promise8RefusesWhatIsNoBasin() {
        checkNoBasin((chain, basin) -> chain.pour(basin, 1));
    }

    static void promise8Takes1Unit() {
        SluiceChain chain = States.basins(1);
        Check.same("level", 1, chain.pour(0, 1));
        Check.same("level", 1, chain.level(0));
    }

    static void promise8Takes50Units() {
        SluiceChain chain = States.holding(3);
        Check.same("level", 53, chain.pour(0, 50));
        Check.same("level", 53, chain.level(0));
    }

    static void promise8Refuses0And51Units() {
        for (int units : Edges.outside(1, 50)) {
            Edges.refused("units " + units, Edges.ARGUMENT, () -> States.holding(9),
                    chain -> chain.pour(0, units));
        }
    }

    static void promise8TakesUpToTheCapacity() {
        SluiceChain chain = States.holding(60);
        Check.same("level", 99, chain.pour(0, 39));
        Check.same("spilled", 0, chain.spilled(0));
        SluiceChain small = States.oneBasin(10, 0);
        Check.same("at once", 10, small.pour(0, 10));
    }

    static void promise8RefusesOneUnitMoreThanTheCapacity() {
        Edges.refused("40 to 60 of 99", Edges.STATE, () -> States.holding(60),
                chain -> chain.pour(0, 40));
        Edges.refused("11 of 10", Edges.STATE, () -> States.oneBasin(10, 0),
                chain -> chain.pour(0, 11));
    }

    static void promise8RefusesAFullBasin() {
        Edges.refused("1", Edges.STATE, States::full, chain -> chain.pour(2, 1));
        Edges.refused("50", Edges.STATE, States::full, chain -> chain.pour(4, 50));
    }

    static void promise8NoBasinComesBeforeTheUnits() {
        Edges.refusedEverywhere("below", Edges.INDEX, chain -> chain.pour(-1, 0));
        Edges.refusedEverywhere("above", Edges.INDEX, chain -> chain.pour(5, 51));
        Edges.refused("at the number", Edges.INDEX, States::busy, chain -> chain.pour(2, 0));
    }

    static void promise8UnitsComeBeforeTheCapacity() {
        for (int units : Edges.outside(1, 50)) {
            Edges.refused("full, " + units, Edges.ARGUMENT, States::full,
                    chain -> chain.pour(0, units));
        }
    }

    // ---- 9: advance

    static void promise9Takes1Step() {
        SluiceChain chain = States.oneBasin(10, 1);
        States.rain(chain, 2, 20);
        Check.same("spill", 10, chain.advance(1));
        Check.same("time", 1, chain.time());
    }

    static void promise9Takes30Steps() {
        SluiceChain chain = States.oneBasin(10, 1);
        States.rain(chain, 12, 20);
        Check.same("spill", 230, chain.advance(30));
        Check.same("time", 30, chain.time());
    }

    static void promise9Refuses0And31Steps() {
        for (int steps : Edges.outside(1, 30)) {
            Edges.refusedEverywhere("steps " + steps, Edges.ARGUMENT,
                    chain -> chain.advance(steps));
        }
    }

    static void promise9EmptyChainSpillsNothing() {
        SluiceChain chain = new SluiceChain();
        States.rain(chain, 12, 20);
        Check.same("spill", 0, chain.advance(5));
        Check.same("time", 5, chain.time());
        Check.same("forecast", 7, chain.forecastLength());
    }

    static void promise9FullChainSpillsInAllBasins() {
        SluiceChain chain = States.basins(5);
        for (int i = 0; i < 5; i++) {
            chain.pour(i, 50);
        }
        chain.addRain(1);
        chain.addRain(2);
        Check.same("spill", 15, chain.advance(2));
    }

    static void promise9AnswersOnlyTheSpillOfTheseSteps() {
        SluiceChain chain = States.oneBasin(10, 1);
        chain.addRain(20);
        chain.addRain(1);
        chain.advance(1);
        Check.same("spill", 1, chain.advance(1));
        Check.same("nothing", 0, chain.advance(1));
        Check.same("so far", 11, chain.spilled(0));
    }

    // ---- what the promises have in common

    private interface BasinCall {
        void on(SluiceChain chain, int basin);
    }

    private static void checkNoBasin(BasinCall call) {
        for (int basin : Edges.outside(0, 4)) {
            Edges.refusedEverywhere("basin " + basin, Edges.INDEX, chain -> call.on(chain, basin));
        }
        Edges.refused("basin 0 of none", Edges.INDEX, States::empty, chain -> call.on(chain, 0));
        Edges.refused("basin 2 of two", Edges.INDEX, States::busy, chain -> call.on(chain, 2));
        Edges.refused("basin 4 of two", Edges.INDEX, States::busy, chain -> call.on(chain, 4));
        Edges.refused("a basin that was undone", Edges.INDEX, () -> {
            SluiceChain chain = States.basins(3);
            chain.setAutomatic(2, 5);
            chain.undo();
            chain.undo();
            return chain;
        }, chain -> call.on(chain, 2));
    }
}
