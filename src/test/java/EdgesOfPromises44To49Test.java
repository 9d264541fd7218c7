/** The boundary cases of the promises 44 to 49: the output line, undo and the saved state. */
public final class EdgesOfPromises44To49Test {
    private static final String LONGEST_LINE =
            "99/99:5~99 99/99:5~99 99/99:5~99 99/99:5~99 99/99:5~99";

    private EdgesOfPromises44To49Test() {
    }

    public static void main(String[] args) {
        Edges.runPromises(EdgesOfPromises44To49Test.class, 44, 49);
    }

    // ---- 44: writeChain

    private static void checkChain(String due, SluiceChain chain) {
        Check.same("length", due.length(), chain.writeChain());
        Check.sameText("line", due, Traces.lineOf(chain));
    }

    static void promise44EmptyChain() {
        checkChain("", new SluiceChain());
    }

    static void promise44EmptyChainReplacesALine() {
        SluiceChain chain = States.basins(1);
        checkChain("0/50|0", chain);
        chain.undo();
        checkChain("", chain);
        Check.fails("nothing is left", Edges.INDEX, () -> chain.outputAt(0));
    }

    static void promise44OneBasinWithoutABlank() {
        checkChain("0/10|0", States.oneBasin(10, 0));
    }

    static void promise44TwoBasinsWithABlankBetweenThem() {
        checkChain("0/50|0 0/50|0", States.basins(2));
    }

    static void promise44FiveBasins() {
        checkChain("0/50|0 0/50|0 0/50|0 0/50|0 0/50|0", States.basins(5));
    }

    static void promise44LevelsOfOneAndTwoDigits() {
        checkChain("0/99|0", States.holding(0));
        checkChain("9/99|0", States.holding(9));
        checkChain("10/99|0", States.holding(10));
        checkChain("99/99|0", States.holding(99));
    }

    static void promise44ThresholdsOfOneAndTwoDigits() {
        int[] thresholds = {0, 9, 10, 99};
        for (int threshold : thresholds) {
            SluiceChain chain = States.oneBasin(10, 0);
            chain.setAutomatic(0, threshold);
            checkChain("0/10:0~" + threshold, chain);
        }
    }

    static void promise44OpeningsOf0And5() {
        SluiceChain chain = States.oneBasin(10, 0);
        chain.setGate(0, 5);
        checkChain("0/10|5", chain);
        chain.setAutomatic(0, 3);
        checkChain("0/10:5~3", chain);
        chain.advance(1);
        checkChain("0/10:0~3", chain);
        chain.setManual(0);
        checkChain("0/10|0", chain);
    }

    static void promise44ExampleOfTheDocument() {
        SluiceChain chain = new SluiceChain();
        Chains.run(chain, "basin 40 0 0;basin 40 0 0;basin 10 0 0;pour 0 12;pour 1 40");
        Chains.run(chain, "gate 0 3;gate 1 2;auto 1 30");
        checkChain("12/40|3 40/40:2~30 0/10|0", chain);
    }

    private static SluiceChain withTheLongestLine() {
        SluiceChain chain = new SluiceChain();
        for (int i = 0; i < 5; i++) {
            chain.addBasin(99, 0, 0);
            States.pour(chain, i, 99);
            chain.setGate(i, 5);
            chain.setAutomatic(i, 99);
        }
        return chain;
    }

    static void promise44LongestLine() {
        Check.same("length", 54, withTheLongestLine().writeChain());
        checkChain(LONGEST_LINE, withTheLongestLine());
    }

    static void promise44ShorterLineReplacesALongerOne() {
        SluiceChain chain = withTheLongestLine();
        chain.writeChain();
        for (int i = 0; i < 5; i++) {
            chain.undo();
        }
        checkChain("99/99:5~99 99/99:5~99 99/99:5~99 99/99:5~99", chain);
    }

    static void promise44LineIsThatOfTheCall() {
        SluiceChain chain = States.oneBasin(10, 0);
        chain.writeChain();
        chain.pour(0, 10);
        chain.addBasin(10, 0, 0);
        Check.sameText("the state of later is not in it", "0/10|0", Traces.lineOf(chain));
    }

    // ---- 45: writeForecast

    private static void checkForecast(String due, SluiceChain chain) {
        Check.same("length", due.length(), chain.writeForecast());
        Check.sameText("line", due, Traces.lineOf(chain));
    }

    static void promise45NoForecastAnswers0() {
        SluiceChain chain = States.basins(3);
        Check.same("length", 0, chain.writeForecast());
        Check.fails("no character", Edges.INDEX, () -> chain.outputAt(0));
    }

    static void promise45NoForecastReplacesALine() {
        SluiceChain chain = States.full();
        chain.clearForecast();
        Check.same("length", 0, chain.writeForecast());
        Check.sameText("line", "", Traces.lineOf(chain));
    }

    static void promise45OneAmountWithoutAComma() {
        SluiceChain chain = new SluiceChain();
        chain.addRain(0);
        checkForecast("0", chain);
    }

    static void promise45AmountsOfOneAndTwoDigits() {
        SluiceChain chain = new SluiceChain();
        chain.addRain(0);
        chain.addRain(9);
        chain.addRain(10);
        chain.addRain(20);
        checkForecast("0,9,10,20", chain);
    }

    static void promise45ExampleOfTheDocument() {
        SluiceChain chain = new SluiceChain();
        Chains.run(chain, "rain 5;rain 0;rain 12");
        checkForecast("5,0,12", chain);
    }

    static void promise45FullForecast() {
        SluiceChain chain = new SluiceChain();
        States.rain(chain, 12, 20);
        Check.same("length", 35, chain.writeForecast());
        checkForecast("20,20,20,20,20,20,20,20,20,20,20,20", chain);
    }

    static void promise45ForecastAfterSteps() {
        SluiceChain chain = States.full();
        chain.advance(11);
        checkForecast("9", chain);
        chain.advance(1);
        checkForecast("", chain);
    }

    static void promise45LineIsThatOfTheCall() {
        SluiceChain chain = new SluiceChain();
        chain.addRain(5);
        chain.writeForecast();
        chain.addRain(6);
        chain.clearForecast();
        Check.sameText("the state of later is not in it", "5", Traces.lineOf(chain));
    }

    static void promise45LinesReplaceEachOther() {
        SluiceChain chain = States.busy();
        Check.same("the chain", 16, chain.writeChain());
        checkForecast("4,0,13", chain);
        checkChain("20/20|2 9/30:2~6", chain);
    }

    // ---- 46: outputAt

    static void promise46LineIsInitiallyEmpty() {
        for (int index : new int[] {0, 1, 53, 54, -1}) {
            Edges.refused("index " + index, Edges.INDEX, States::empty,
                    chain -> chain.outputAt(index));
        }
    }

    static void promise46FirstAndLastIndex() {
        SluiceChain chain = withTheLongestLine();
        chain.writeChain();
        for (int i = 0; i < 54; i++) {
            Check.same("index " + i, LONGEST_LINE.charAt(i), chain.outputAt(i));
        }
    }

    static void promise46RefusesNegativeIndices() {
        for (int index : new int[] {-1, -2, -54, -256, -65536, Integer.MIN_VALUE}) {
            Edges.refusedEverywhere("index " + index, Edges.INDEX,
                    chain -> chain.outputAt(index));
        }
    }

    static void promise46RefusesTheLengthOfTheLine() {
        for (int count = 0; count <= 5; count++) {
            SluiceChain chain = States.basins(count);
            int length = chain.writeChain();
            Check.fails("the length", Edges.INDEX, () -> chain.outputAt(length));
            Check.fails("one more", Edges.INDEX, () -> chain.outputAt(length + 1));
            if (length > 0) {
                Check.same("one less", '0', chain.outputAt(length - 1));
            }
        }
        for (int index : Edges.outside(0, 59)) {
            Edges.refusedEverywhere("index " + index, Edges.INDEX,
                    chain -> chain.outputAt(index));
        }
    }

    static void promise46RefusesTheLengthOfTheLongestLine() {
        Edges.refused("54", Edges.INDEX, () -> {
            SluiceChain chain = withTheLongestLine();
            chain.writeChain();
            return chain;
        }, chain -> chain.outputAt(54));
    }

    static void promise46RefusesWhatWasPartOfALongerLine() {
        SluiceChain chain = States.full();
        chain.clearForecast();
        chain.addRain(7);
        chain.writeForecast();
        Check.same("the only one", '7', chain.outputAt(0));
        Check.fails("the next", Edges.INDEX, () -> chain.outputAt(1));
    }

    // ---- 47: undo

    static void promise47RefusedOnANewObject() {
        Edges.refused("new", Edges.STATE, States::empty, SluiceChain::undo);
    }

    static void promise47RefusedWhenAllIsUndone() {
        Edges.refused("one", Edges.STATE, () -> {
            SluiceChain chain = States.basins(1);
            chain.undo();
            return chain;
        }, SluiceChain::undo);
        Edges.refused("eight", Edges.STATE, () -> {
            SluiceChain chain = States.full();
            Check.same("calls", 8, Chains.undoAll(chain));
            return chain;
        }, SluiceChain::undo);
    }

    static void promise47OnlyCallAnswers0() {
        SluiceChain chain = States.basins(1);
        Check.same("what is left", 0, chain.undo());
        Check.same("basins", 0, chain.basinCount());
    }

    static void promise47EightCallsAnswer7To0() {
        SluiceChain chain = new SluiceChain();
        for (int i = 0; i < 8; i++) {
            chain.advance(1);
        }
        for (int left = 7; left >= 0; left--) {
            Check.same("what is left", left, chain.undo());
            Check.same("time", left, chain.time());
        }
    }

    static void promise47NineCallsAnswer7To0() {
        SluiceChain chain = new SluiceChain();
        for (int i = 0; i < 9; i++) {
            chain.advance(1);
        }
        for (int left = 7; left >= 0; left--) {
            Check.same("what is left", left, chain.undo());
            Check.same("time", left + 1, chain.time());
        }
        Check.fails("the first call of all", Edges.STATE, chain::undo);
    }

    /** However often the eight places are used again, the right states come back. */
    static void promise47HistoryGoesRound() {
        SluiceChain chain = new SluiceChain();
        int time = 0;
        for (int round = 1; round <= 30; round++) {
            for (int i = 0; i < 5; i++) {
                chain.advance(1);
                time++;
            }
            int undone = round % 5;
            for (int i = 0; i < undone; i++) {
                chain.undo();
                time--;
                Check.same("time in round " + round, time, chain.time());
            }
        }
        chain.advance(1);
        for (int i = 0; i < 40; i++) {
            chain.advance(1);
        }
        Check.same("eight", 8, Chains.undoAll(chain));
        Check.same("time", time + 41 - 8, chain.time());
    }

    static void promise47UndoneCallIsNotUndoneAgain() {
        SluiceChain chain = new SluiceChain();
        chain.addRain(1);
        chain.addRain(2);
        chain.undo();
        chain.addRain(3);
        Check.same("one is left", 1, chain.undo());
        Check.sameText("the second is gone for good", "1", Chains.forecastLine(chain));
        Check.same("none is left", 0, chain.undo());
        Check.same("forecast", 0, chain.forecastLength());
    }

    /** The basins before and after the call differ in all that a basin has. */
    static void promise47ProgramOfAllCommandsIsUndone() {
        SluiceChain chain = new SluiceChain();
        Chains.run(chain, "basin 10 3 9;pour 0 9;rain 20;gate 0 1;step 1;auto 0 5");
        String before = Chains.stateOf(chain);
        chain.undo();
        Chains.run(chain, "basin 77 1 44;pour 0 33;rain 3;rain 4;step 1");
        String other = Chains.stateOf(chain);
        chain.undo();
        Chains.run(chain, "basin 10 3 9;pour 0 9;rain 20;gate 0 1;step 1;auto 0 5");
        Check.sameText("carried out again", before, Chains.stateOf(chain));
        Check.no("the other one", other.equals(before));
        chain.undo();
        Check.sameText("undone", Chains.stateOf(new SluiceChain()), Chains.stateOf(chain));
    }

    static void promise47RefusedCallsCannotBeUndone() {
        SluiceChain chain = new SluiceChain();
        chain.addRain(1);
        Check.fails("basin", Edges.ARGUMENT, () -> chain.addBasin(9, 0, 0));
        Check.fails("gate", Edges.INDEX, () -> chain.setGate(0, 0));
        Check.fails("auto", Edges.INDEX, () -> chain.setAutomatic(0, 0));
        Check.fails("hand", Edges.INDEX, () -> chain.setManual(0));
        Check.fails("rain", Edges.ARGUMENT, () -> chain.addRain(21));
        Check.fails("pour", Edges.INDEX, () -> chain.pour(0, 1));
        Check.fails("step", Edges.ARGUMENT, () -> chain.advance(0));
        Check.fails("run", Edges.ARGUMENT, chain::run);
        Check.same("none is left", 0, chain.undo());
        Check.same("forecast", 0, chain.forecastLength());
    }

    static void promise47RefusedUndoChangesNothingOfLater() {
        SluiceChain chain = new SluiceChain();
        Check.fails("new", Edges.STATE, chain::undo);
        Check.fails("again", Edges.STATE, chain::undo);
        chain.addRain(1);
        chain.addRain(2);
        Check.same("one is left", 1, chain.undo());
        Check.same("amounts", 1, chain.forecastLength());
    }

    // ---- 48: save

    static void promise48SavesAnEmptyChain() {
        SluiceChain chain = new SluiceChain();
        chain.save();
        String before = Chains.stateOf(chain);
        Chains.run(chain, "basin 10 3 1;rain 20;rain 20;step 1");
        chain.restore();
        Check.sameText("restored", before, Chains.stateOf(chain));
    }

    static void promise48SavesAFullChain() {
        SluiceChain chain = States.full();
        chain.save();
        String before = Chains.stateOf(chain);
        chain.advance(30);
        chain.setManual(4);
        chain.restore();
        Check.sameText("restored", before, Chains.stateOf(chain));
    }

    static void promise48ReplacesTheStateSavedBefore() {
        SluiceChain chain = States.full();
        chain.save();
        chain.clearForecast();
        String before = Chains.stateOf(chain);
        chain.save();
        chain.advance(1);
        chain.restore();
        Check.sameText("the last", before, Chains.stateOf(chain));
    }

    static void promise48SmallerStateReplacesAGreaterOne() {
        SluiceChain chain = States.basins(3);
        States.rain(chain, 3, 4);
        chain.save();
        Chains.undoAll(chain);
        String before = Chains.stateOf(chain);
        chain.save();
        chain.addBasin(10, 0, 0);
        chain.restore();
        Check.sameText("the last", before, Chains.stateOf(chain));
        Check.same("basins", 0, chain.basinCount());
    }

    static void promise48IsNotAChangingCall() {
        SluiceChain chain = new SluiceChain();
        chain.save();
        Check.fails("nothing to undo", Edges.STATE, chain::undo);
        for (int i = 0; i < 8; i++) {
            chain.advance(1);
            chain.save();
        }
        Check.same("eight", 8, Chains.undoAll(chain));
        Check.same("time", 0, chain.time());
    }

    static void promise48SavedStateIsNotTouchedByLaterCalls() {
        SluiceChain chain = States.busy();
        chain.save();
        String before = Chains.stateOf(chain);
        chain.setGate(0, 5);
        chain.pour(1, 3);
        chain.undo();
        chain.undo();
        chain.undo();
        chain.advance(20);
        chain.addBasin(10, 1, 1);
        chain.restore();
        Check.sameText("restored", before, Chains.stateOf(chain));
    }

    // ---- 49: restore

    static void promise49RefusedIfNothingWasSaved() {
        Edges.refused("new", Edges.STATE, States::empty, SluiceChain::restore);
        Edges.refused("with calls to undo", Edges.STATE, () -> States.basins(5),
                SluiceChain::restore);
    }

    static void promise49RefusedRestoreLeavesTheCallsToUndo() {
        SluiceChain chain = States.basins(5);
        Check.fails("nothing saved", Edges.STATE, chain::restore);
        Check.same("five", 5, Chains.undoAll(chain));
    }

    static void promise49SavedStateStaysSaved() {
        SluiceChain chain = States.busy();
        chain.restore();
        String before = Chains.stateOf(chain);
        for (int i = 0; i < 3; i++) {
            chain.advance(7);
            chain.pour(1, 1);
            chain.restore();
            Check.sameText("restored", before, Chains.stateOf(chain));
        }
        chain.restore();
        Check.sameText("restored at once", before, Chains.stateOf(chain));
    }

    /** The basins before and after the call differ in all that a basin has. */
    static void promise49RestoresAllOfTheChain() {
        SluiceChain chain = new SluiceChain();
        Chains.run(chain, "basin 10 3 9;pour 0 9;rain 20;gate 0 1;step 1;auto 0 5");
        String before = Chains.stateOf(chain);
        chain.save();
        chain.undo();
        Chains.run(chain, "basin 77 1 44;pour 0 33;rain 3;rain 4;step 2;gate 0 4");
        chain.restore();
        Check.sameText("restored", before, Chains.stateOf(chain));
    }

    static void promise49AfterwardsNoCallCanBeUndone() {
        SluiceChain chain = States.full();
        chain.restore();
        Check.fails("none", Edges.STATE, chain::undo);
        Edges.refused("none", Edges.STATE, () -> {
            SluiceChain busy = States.busy();
            busy.restore();
            return busy;
        }, SluiceChain::undo);
    }

    static void promise49EightCallsCanBeUndoneAgainLater() {
        SluiceChain chain = States.busy();
        chain.restore();
        String before = Chains.stateOf(chain);
        for (int i = 1; i <= 8; i++) {
            chain.advance(1);
        }
        for (int left = 7; left >= 0; left--) {
            Check.same("what is left", left, chain.undo());
        }
        Check.sameText("undone", before, Chains.stateOf(chain));
        Check.fails("restore itself", Edges.STATE, chain::undo);
    }
}
