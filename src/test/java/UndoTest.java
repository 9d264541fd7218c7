/** Promises 47 to 49: undo, save and restore. */
public final class UndoTest {
    private static final Class<IllegalStateException> STATE = IllegalStateException.class;
    private static final Class<IllegalArgumentException> ARGUMENT = IllegalArgumentException.class;
    private static final int CHANGING_METHODS = 9;

    private UndoTest() {
    }

    public static void main(String[] args) {
        everyChangingMethod();
        undoAnswersWhatIsLeft();
        atMostEight();
        callsThatChangeNothing();
        otherCallsAreNoChangingCalls();
        undoneBasinsLeaveNoTrace();
        basinsThatWentAtOnceLeaveNoTrace();
        restoreOfADifferentChain();
        undoOfAForecast();
        saveAndRestore();
        theLastSaveCounts();
        theSavedStateIsACopy();
        nothingToUndoAfterRestore();
        undoDoesNotTouchTheSavedState();
        textsAndLinesAreLeftAlone();
        Check.finish("UndoTest");
    }

    private static SluiceChain prepared() {
        SluiceChain chain = new SluiceChain();
        Chains.run(chain, "basin 20 1 5;basin 30 2 6;auto 1 7;gate 0 2;pour 0 9");
        Chains.run(chain, "rain 20;rain 4;rain 11;rain 9;step 1");
        return chain;
    }

    private static void change(SluiceChain chain, int method) {
        switch (method) {
            case 0 -> chain.addBasin(44, 3, 7);
            case 1 -> chain.setGate(0, 5);
            case 2 -> chain.setAutomatic(0, 33);
            case 3 -> chain.setManual(1);
            case 4 -> chain.addRain(13);
            case 5 -> chain.clearForecast();
            case 6 -> chain.pour(1, 1);
            case 7 -> chain.advance(3);
            default -> Chains.run(chain, "step 1;clear;rain 3");
        }
    }

    private static void everyChangingMethod() {
        for (int method = 0; method < CHANGING_METHODS; method++) {
            SluiceChain chain = prepared();
            String before = Chains.stateOf(chain);
            change(chain, method);
            Check.no("method " + method + " changes", before.equals(Chains.stateOf(chain)));
            Check.same("what is left", 2, chain.undo());
            Check.sameText("method " + method + " undone", before, Chains.stateOf(chain));
            change(chain, method);
            chain.undo();
            Check.sameText("method " + method + " undone again", before, Chains.stateOf(chain));
            Check.yes("consistent", chain.isConsistent());
        }
    }

    private static void undoAnswersWhatIsLeft() {
        SluiceChain chain = new SluiceChain();
        chain.addRain(1);
        chain.addRain(2);
        chain.addRain(3);
        Check.same("two are left", 2, chain.undo());
        Check.sameText("the most recent first", "1,2", Chains.forecastLine(chain));
        Check.same("one is left", 1, chain.undo());
        chain.addRain(9);
        Check.sameText("a new call after undo", "1,9", Chains.forecastLine(chain));
        Check.same("one is left again", 1, chain.undo());
        Check.same("none is left", 0, chain.undo());
        Check.same("no forecast", 0, chain.forecastLength());
        Check.failsUnchanged("nothing to undo", STATE, chain, chain::undo);
    }

    private static void atMostEight() {
        SluiceChain chain = new SluiceChain();
        for (int i = 1; i <= 11; i++) {
            chain.addRain(i);
        }
        for (int left = 7; left >= 0; left--) {
            Check.same("what is left", left, chain.undo());
        }
        Check.sameText("the oldest stay", "1,2,3", Chains.forecastLine(chain));
        Check.failsUnchanged("nothing to undo", STATE, chain, chain::undo);
        for (int i = 0; i < 20; i++) {
            chain.advance(1);
        }
        Check.same("eight again", 8, Chains.undoAll(chain));
        Check.same("time", 12, chain.time());
    }

    private static void callsThatChangeNothing() {
        SluiceChain chain = prepared();
        Chains.undoAll(chain);
        chain.addBasin(10, 0, 0);
        chain.setGate(0, 0);
        chain.clearForecast();
        chain.setAutomatic(0, 3);
        chain.setAutomatic(0, 3);
        Check.same("each successful call counts", 5, Chains.undoAll(chain));
    }

    private static void otherCallsAreNoChangingCalls() {
        SluiceChain chain = prepared();
        chain.leastSpill(0, 2);
        chain.leastSpillByPruning(0, 2);
        chain.bestOpening(0, 2);
        chain.levelAfter(0, 2);
        chain.spillOf(0, 2);
        chain.endangered(2);
        chain.bestProtection(20, 2);
        chain.bestProtectionBySets(20, 2);
        chain.bagsForAll(2);
        chain.isConsistent();
        chain.append('x');
        chain.writeChain();
        chain.writeForecast();
        chain.save();
        Check.same("two programs", 2, Chains.undoAll(chain));
    }

    private static void undoneBasinsLeaveNoTrace() {
        SluiceChain chain = new SluiceChain();
        chain.addBasin(10, 3, 9);
        chain.setGate(0, 1);
        chain.setAutomatic(0, 50);
        chain.addRain(20);
        chain.advance(1);
        Check.same("60 - 8 - 10 are spilled", 42, chain.spilled(0));
        Chains.undoAll(chain);
        Check.same("no basins", 0, chain.basinCount());
        chain.addBasin(30, 1, 2);
        Check.sameText("a fresh basin", "time 0 stored 0 accounts 0 river 0 forecast"
                + " [0 30 1 2 0 -1 0 0]", Chains.stateOf(chain));
    }

    /** One call takes away the basin together with all that happened to it. */
    private static void basinsThatWentAtOnceLeaveNoTrace() {
        String program = "basin 10 3 9;pour 0 9;rain 20;gate 0 1;step 1;auto 0 5";
        SluiceChain undone = new SluiceChain();
        Chains.run(undone, program);
        undone.undo();
        checkFreshBasin("after undo", undone);
        SluiceChain refused = new SluiceChain();
        Chains.type(refused, program.replace("pour 0 9", "pour 0 8").replace("auto 0 5", "hand 0"));
        Check.fails("failing", UnsupportedOperationException.class, refused::run);
        checkFreshBasin("after a program that failed", refused);
        SluiceChain restored = new SluiceChain();
        restored.save();
        Chains.run(restored, program);
        restored.restore();
        checkFreshBasin("after restore", restored);
    }

    private static void checkFreshBasin(String what, SluiceChain chain) {
        Check.same(what, 0, chain.addBasin(30, 1, 2));
        Check.sameText(what, "time 0 stored 0 accounts 0 river 0 forecast [0 30 1 2 0 -1 0 0]",
                Chains.stateOf(chain));
    }

    /** The basins of the two chains differ in all that a basin has. */
    private static void restoreOfADifferentChain() {
        SluiceChain chain = new SluiceChain();
        Chains.run(chain, "basin 10 3 9;pour 0 9;rain 20;gate 0 1;step 1;auto 0 5");
        String before = Chains.stateOf(chain);
        chain.save();
        chain.undo();
        Chains.run(chain, "basin 77 1 44;gate 0 4;pour 0 33");
        chain.restore();
        Check.sameText("the saved chain", before, Chains.stateOf(chain));
    }

    private static void undoOfAForecast() {
        SluiceChain chain = new SluiceChain();
        for (int i = 1; i <= 12; i++) {
            chain.addRain(i);
        }
        chain.advance(5);
        chain.addRain(20);
        chain.clearForecast();
        chain.addRain(17);
        chain.undo();
        chain.undo();
        Check.sameText("the cleared forecast", "6,7,8,9,10,11,12,20", Chains.forecastLine(chain));
        chain.undo();
        chain.undo();
        Check.sameText("the rain that fell", "1,2,3,4,5,6,7,8,9,10,11,12",
                Chains.forecastLine(chain));
    }

    private static void saveAndRestore() {
        SluiceChain chain = prepared();
        String before = Chains.stateOf(chain);
        chain.save();
        Check.sameText("saving changes nothing", before, Chains.stateOf(chain));
        for (int method = 0; method < CHANGING_METHODS; method++) {
            change(chain, method);
            chain.restore();
            Check.sameText("restored", before, Chains.stateOf(chain));
        }
        change(chain, 7);
        change(chain, 0);
        chain.restore();
        chain.restore();
        Check.sameText("the saved state stays saved", before, Chains.stateOf(chain));
        SluiceChain other = prepared();
        Check.failsUnchanged("nothing was saved", STATE, other, other::restore);
        Check.same("a restore that fails leaves the calls", 2, Chains.undoAll(other));
    }

    private static void theLastSaveCounts() {
        SluiceChain chain = prepared();
        chain.save();
        chain.addRain(2);
        String later = Chains.stateOf(chain);
        chain.save();
        chain.advance(30);
        chain.restore();
        Check.sameText("the state saved last", later, Chains.stateOf(chain));
    }

    private static void theSavedStateIsACopy() {
        SluiceChain chain = prepared();
        String before = Chains.stateOf(chain);
        chain.save();
        chain.restore();
        for (int method = 0; method < CHANGING_METHODS; method++) {
            if (method != 3) {
                change(chain, method == 1 ? 8 : method);
            }
        }
        chain.restore();
        Check.sameText("what comes later does not touch it", before, Chains.stateOf(chain));
    }

    private static void nothingToUndoAfterRestore() {
        SluiceChain chain = prepared();
        chain.save();
        Check.same("saving leaves the calls", 1, chain.undo());
        chain.restore();
        Check.fails("nothing to undo", STATE, chain::undo);
        String before = Chains.stateOf(chain);
        chain.addRain(1);
        Check.same("a call after restoring", 0, chain.undo());
        Check.sameText("is undone", before, Chains.stateOf(chain));
        Check.fails("nothing to undo", STATE, chain::undo);
    }

    private static void undoDoesNotTouchTheSavedState() {
        SluiceChain chain = new SluiceChain();
        chain.addRain(1);
        chain.addRain(2);
        chain.save();
        chain.undo();
        chain.undo();
        chain.restore();
        Check.sameText("saved before the calls were undone", "1,2", Chains.forecastLine(chain));
        SluiceChain empty = new SluiceChain();
        empty.save();
        empty.addRain(5);
        empty.restore();
        Check.same("an empty chain can be saved", 0, empty.forecastLength());
    }

    private static void textsAndLinesAreLeftAlone() {
        SluiceChain chain = new SluiceChain();
        chain.addRain(4);
        chain.save();
        Chains.type(chain, "rain");
        chain.writeForecast();
        chain.undo();
        Check.sameText("the line after undo", "4", Chains.line(chain, 1));
        Chains.type(chain, " 7");
        chain.restore();
        chain.append(';');
        Check.sameText("the line after restore", "4", Chains.line(chain, 1));
        Chains.type(chain, "clear;q");
        Check.fails("the whole text is run", ARGUMENT, chain::run);
        Check.same("its error position", 13, chain.errorPosition());
        chain.restore();
        Check.same("the error position stays", 13, chain.errorPosition());
    }
}
