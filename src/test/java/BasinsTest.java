import java.util.NoSuchElementException;

/** Promises 1 to 5 and 10 to 20: basins, gates and the queries about them. */
public final class BasinsTest {
    private static final Class<IndexOutOfBoundsException> INDEX = IndexOutOfBoundsException.class;
    private static final Class<IllegalArgumentException> ARGUMENT = IllegalArgumentException.class;
    private static final Class<IllegalStateException> STATE = IllegalStateException.class;
    private static final Class<NoSuchElementException> NONE = NoSuchElementException.class;

    private BasinsTest() {
    }

    public static void main(String[] args) {
        newObject();
        addBasin();
        addBasinWrongly();
        setGate();
        setGateWrongly();
        setAutomatic();
        setAutomaticWrongly();
        setManual();
        setManualWrongly();
        queriesOfAFreshBasin();
        queriesAfterFloods();
        queriesOfNoBasin();
        ranks();
        ranksWrongly();
        automaticGateMoves();
        Check.finish("BasinsTest");
    }

    private static void newObject() {
        SluiceChain chain = new SluiceChain();
        Check.same("basins of a new chain", 0, chain.basinCount());
        Check.same("time of a new chain", 0, chain.time());
        Check.same("forecast of a new chain", 0, chain.forecastLength());
        Check.same("river of a new chain", 0, chain.riverTotal());
        Check.same("stored in a new chain", 0, chain.stored());
        Check.same("accounts of a new chain", 0, chain.storedByAccounts());
        Check.yes("a new chain is consistent", chain.isConsistent());
        Check.fails("nothing to undo", STATE, chain::undo);
        Check.fails("nothing saved", STATE, chain::restore);
        Check.fails("no output", INDEX, () -> chain.outputAt(0));
        Check.fails("no error position", NONE, chain::errorPosition);
        Check.fails("no failed command", NONE, chain::failedCommand);
    }

    private static void addBasin() {
        SluiceChain chain = new SluiceChain();
        Check.same("first basin", 0, chain.addBasin(10, 0, 0));
        Check.same("second basin", 1, chain.addBasin(99, 3, 99));
        for (int i = 2; i < 5; i++) {
            Check.same("basin " + i, i, chain.addBasin(50 + i, 1, 2 * i));
            Check.same("number of basins", i + 1, chain.basinCount());
        }
        Check.same("capacity at the low edge", 10, chain.capacity(0));
        Check.same("capacity at the high edge", 99, chain.capacity(1));
        Check.same("capacity of the last", 54, chain.capacity(4));
        Check.same("catchment at the high edge", 3, chain.catchment(1));
        Check.same("value at the high edge", 99, chain.fieldValue(1));
        Check.same("value of the last", 8, chain.fieldValue(4));
    }

    private static void addBasinWrongly() {
        int[][] wrong = {
            {9, 0, 0}, {100, 0, 0}, {10, -1, 0}, {10, 4, 0}, {10, 0, -1}, {10, 0, 100},
            {Integer.MIN_VALUE, 0, 0}, {10, Integer.MAX_VALUE, 0}, {10, 0, Integer.MIN_VALUE},
        };
        SluiceChain chain = new SluiceChain();
        chain.addBasin(20, 1, 1);
        for (int[] row : wrong) {
            Check.failsUnchanged("a basin out of range", ARGUMENT, chain,
                    () -> chain.addBasin(row[0], row[1], row[2]));
        }
        for (int i = 1; i < 5; i++) {
            chain.addBasin(20, 1, 1);
        }
        Check.failsUnchanged("a sixth basin", STATE, chain, () -> chain.addBasin(20, 1, 1));
        for (int[] row : wrong) {
            Check.failsUnchanged("a sixth basin out of range", ARGUMENT, chain,
                    () -> chain.addBasin(row[0], row[1], row[2]));
        }
        Check.same("calls that failed can't be undone", 5, Chains.undoAll(chain));
    }

    private static void setGate() {
        SluiceChain chain = twoBasins();
        Check.same("opening of before", 0, chain.setGate(0, 5));
        Check.same("opening of before", 5, chain.setGate(0, 2));
        Check.same("the same opening", 2, chain.setGate(0, 2));
        Check.same("the other gate", 0, chain.setGate(1, 0));
        Check.same("opening", 2, chain.opening(0));
        Check.same("opening of the other gate", 0, chain.opening(1));
        Check.no("a set gate is manual", chain.isAutomatic(0));
    }

    private static void setGateWrongly() {
        SluiceChain chain = twoBasins();
        chain.setGate(1, 3);
        chain.setAutomatic(0, 7);
        for (int basin : new int[] {-1, 2, 5, Integer.MIN_VALUE, Integer.MAX_VALUE}) {
            Check.failsUnchanged("no such basin", INDEX, chain, () -> chain.setGate(basin, 1));
            Check.failsUnchanged("no such basin first", INDEX, chain,
                    () -> chain.setGate(basin, 6));
        }
        for (int opening : new int[] {-1, 6, Integer.MIN_VALUE, Integer.MAX_VALUE}) {
            Check.failsUnchanged("opening", ARGUMENT, chain, () -> chain.setGate(1, opening));
            Check.failsUnchanged("opening first", ARGUMENT, chain, () -> chain.setGate(0, opening));
        }
        Check.failsUnchanged("an automatic gate", STATE, chain, () -> chain.setGate(0, 0));
        Check.same("calls that failed can't be undone", 4, Chains.undoAll(chain));
    }

    private static void setAutomatic() {
        SluiceChain chain = twoBasins();
        chain.setGate(1, 4);
        Check.same("one automatic gate", 1, chain.setAutomatic(1, 0));
        Check.same("the opening stays", 4, chain.opening(1));
        Check.yes("automatic", chain.isAutomatic(1));
        Check.no("the other is manual", chain.isAutomatic(0));
        Check.same("threshold", 0, chain.threshold(1));
        Check.same("still one", 1, chain.setAutomatic(1, 99));
        Check.same("the new threshold", 99, chain.threshold(1));
        Check.same("two", 2, chain.setAutomatic(0, 30));
        Check.same("the other's threshold", 30, chain.threshold(0));
        Check.same("the first's threshold", 99, chain.threshold(1));
        chain.advance(1);
        Check.same("the opening moved in the step", 0, chain.opening(1));
    }

    private static void setAutomaticWrongly() {
        SluiceChain chain = twoBasins();
        chain.setAutomatic(0, 7);
        for (int basin : new int[] {-1, 2, Integer.MIN_VALUE, Integer.MAX_VALUE}) {
            Check.failsUnchanged("no such basin", INDEX, chain, () -> chain.setAutomatic(basin, 5));
            Check.failsUnchanged("no such basin first", INDEX, chain,
                    () -> chain.setAutomatic(basin, 100));
        }
        for (int threshold : new int[] {-1, 100, Integer.MIN_VALUE, Integer.MAX_VALUE}) {
            Check.failsUnchanged("threshold", ARGUMENT, chain,
                    () -> chain.setAutomatic(0, threshold));
            Check.failsUnchanged("threshold", ARGUMENT, chain,
                    () -> chain.setAutomatic(1, threshold));
        }
        Check.same("calls that failed can't be undone", 3, Chains.undoAll(chain));
    }

    private static void setManual() {
        SluiceChain chain = twoBasins();
        chain.setAutomatic(0, 8);
        chain.setAutomatic(1, 0);
        chain.pour(0, 20);
        chain.advance(1);
        Check.same("moved by the step", 3, chain.opening(0));
        Check.same("one automatic gate is left", 1, chain.setManual(0));
        Check.no("manual", chain.isAutomatic(0));
        Check.same("the opening stays", 3, chain.opening(0));
        chain.pour(0, 30);
        chain.advance(1);
        Check.same("a manual gate does not move", 3, chain.opening(0));
        Check.same("none is left", 0, chain.setManual(1));
        Check.same("a gate can be set again", 3, chain.setGate(0, 1));
    }

    private static void setManualWrongly() {
        SluiceChain chain = twoBasins();
        chain.setAutomatic(0, 8);
        for (int basin : new int[] {-1, 2, Integer.MIN_VALUE, Integer.MAX_VALUE}) {
            Check.failsUnchanged("no such basin", INDEX, chain, () -> chain.setManual(basin));
        }
        Check.failsUnchanged("a manual gate", STATE, chain, () -> chain.setManual(1));
        Check.same("calls that failed can't be undone", 3, Chains.undoAll(chain));
    }

    private static void queriesOfAFreshBasin() {
        SluiceChain chain = new SluiceChain();
        chain.addBasin(37, 2, 41);
        Check.same("capacity", 37, chain.capacity(0));
        Check.same("level", 0, chain.level(0));
        Check.same("catchment", 2, chain.catchment(0));
        Check.same("value", 41, chain.fieldValue(0));
        Check.same("opening", 0, chain.opening(0));
        Check.no("automatic", chain.isAutomatic(0));
        Check.same("spilled", 0, chain.spilled(0));
        Check.same("flooded steps", 0, chain.floodedSteps(0));
        Check.fails("threshold of a manual gate", NONE, () -> chain.threshold(0));
        chain.setAutomatic(0, 5);
        chain.setManual(0);
        Check.fails("threshold of a gate that is manual again", NONE, () -> chain.threshold(0));
    }

    private static void queriesAfterFloods() {
        SluiceChain chain = new SluiceChain();
        chain.addBasin(10, 3, 1);
        chain.addBasin(50, 1, 2);
        chain.addRain(20);
        chain.addRain(0);
        chain.addRain(3);
        Check.same("first step", 50, chain.advance(1));
        Check.same("level at the capacity", 10, chain.level(0));
        Check.same("spilled", 50, chain.spilled(0));
        Check.same("flooded steps", 1, chain.floodedSteps(0));
        Check.same("a full basin without rain", 0, chain.advance(1));
        Check.same("flooded steps without spilling", 1, chain.floodedSteps(0));
        Check.same("third step", 9, chain.advance(1));
        Check.same("spilled so far", 59, chain.spilled(0));
        Check.same("flooded steps so far", 2, chain.floodedSteps(0));
        Check.same("the other basin is not flooded", 0, chain.floodedSteps(1));
        Check.same("level of the other", 23, chain.level(1));
    }

    private static void queriesOfNoBasin() {
        SluiceChain chain = twoBasins();
        chain.setAutomatic(0, 1);
        for (int basin : new int[] {-1, 2, 4, 5, 6, Integer.MIN_VALUE, Integer.MAX_VALUE}) {
            Check.fails("capacity of none", INDEX, () -> chain.capacity(basin));
            Check.fails("level of none", INDEX, () -> chain.level(basin));
            Check.fails("catchment of none", INDEX, () -> chain.catchment(basin));
            Check.fails("value of none", INDEX, () -> chain.fieldValue(basin));
            Check.fails("opening of none", INDEX, () -> chain.opening(basin));
            Check.fails("automatic of none", INDEX, () -> chain.isAutomatic(basin));
            Check.fails("threshold of none", INDEX, () -> chain.threshold(basin));
            Check.fails("spilled of none", INDEX, () -> chain.spilled(basin));
            Check.fails("flooded steps of none", INDEX, () -> chain.floodedSteps(basin));
        }
        SluiceChain none = new SluiceChain();
        Check.fails("level in an empty chain", INDEX, () -> none.level(0));
    }

    private static void ranks() {
        SluiceChain chain = new SluiceChain();
        chain.addBasin(30, 0, 0);
        chain.addBasin(10, 0, 0);
        chain.addBasin(99, 0, 0);
        chain.addBasin(98, 0, 0);
        chain.addBasin(60, 0, 0);
        checkRanks("all empty", chain, 0, 1, 2, 3, 4);
        chain.pour(0, 10);
        chain.pour(4, 20);
        checkRanks("equal quotients", chain, 0, 4, 1, 2, 3);
        chain.pour(2, 33);
        chain.pour(3, 33);
        checkRanks("33/98 is above 33/99 and 10/30", chain, 3, 0, 2, 4, 1);
        chain.pour(1, 1);
        checkRanks("1/10 is last", chain, 3, 0, 2, 4, 1);
        chain.pour(1, 3);
        checkRanks("4/10 is first though 4 units are least", chain, 1, 3, 0, 2, 4);
    }

    private static void checkRanks(String what, SluiceChain chain, int... due) {
        for (int rank = 0; rank < due.length; rank++) {
            Check.same(what + ", rank " + rank, due[rank], chain.basinAtRank(rank));
        }
    }

    private static void ranksWrongly() {
        SluiceChain chain = twoBasins();
        for (int rank : new int[] {-1, 2, 5, Integer.MIN_VALUE, Integer.MAX_VALUE}) {
            Check.fails("no such rank", NONE, () -> chain.basinAtRank(rank));
        }
        Check.fails("no rank without basins", NONE, () -> new SluiceChain().basinAtRank(0));
    }

    /** The threshold is 10; a quarter of the excess, at most 5, and 0 below the threshold. */
    private static void automaticGateMoves() {
        int[][] levelsAndOpenings = {
            {0, 0}, {5, 0}, {6, 0}, {10, 0}, {13, 0}, {14, 1}, {17, 1}, {18, 2}, {29, 4}, {30, 5},
            {34, 5}, {50, 5},
        };
        for (int[] row : levelsAndOpenings) {
            SluiceChain chain = new SluiceChain();
            chain.addBasin(99, 0, 0);
            if (row[0] > 0) {
                chain.pour(0, row[0]);
            }
            chain.setGate(0, 3);
            chain.setAutomatic(0, 10);
            chain.advance(1);
            Check.same("opening at level " + row[0], row[1], chain.opening(0));
            Check.same("level after it", row[0] - 4 * row[1], chain.level(0));
            Check.same("river after it", 4 * row[1], chain.riverTotal());
        }
    }

    private static SluiceChain twoBasins() {
        SluiceChain chain = new SluiceChain();
        chain.addBasin(50, 1, 10);
        chain.addBasin(40, 2, 20);
        return chain;
    }
}
