/** Promises 32 to 39: plans, protection and the invariants. */
public final class SearchesTest {
    private static final Class<IndexOutOfBoundsException> INDEX = IndexOutOfBoundsException.class;
    private static final Class<IllegalArgumentException> ARGUMENT = IllegalArgumentException.class;
    private static final Class<IllegalStateException> STATE = IllegalStateException.class;
    private static final int[] NO_BASINS = {-1, 2, 5, Integer.MIN_VALUE, Integer.MAX_VALUE};
    private static final int[] NO_PLANS = {0, -1, 5, Integer.MIN_VALUE, Integer.MAX_VALUE};
    private static final int[] NO_PREDICTIONS = {-1, 31, Integer.MIN_VALUE, Integer.MAX_VALUE};
    private static final int[] NO_BAGS = {-1, 100, Integer.MIN_VALUE, Integer.MAX_VALUE};

    private SearchesTest() {
    }

    public static void main(String[] args) {
        widestOpening();
        closedGate();
        planLooksAhead();
        otherGatesBehaveAsUsual();
        spillOfAllBasinsCounts();
        planOfFourSteps();
        plansWrongly();
        endangered();
        freshSearches();
        protection();
        protectionOfBigFloods();
        protectionWithoutSteps();
        protectionWrongly();
        consistent();
        Check.finish("SearchesTest");
    }

    private static void checkPlan(
            String what, SluiceChain chain, int basin, int steps, int least, int best) {
        String before = Chains.stateOf(chain);
        Check.same(what + ", leastSpill", least, chain.leastSpill(basin, steps));
        Check.same(what + ", pruning", least, chain.leastSpillByPruning(basin, steps));
        Check.same(what + ", bestOpening", best, chain.bestOpening(basin, steps));
        Check.sameText(what + ", a search changes nothing", before, Chains.stateOf(chain));
    }

    private static void widestOpening() {
        SluiceChain chain = new SluiceChain();
        chain.addBasin(10, 1, 0);
        chain.pour(0, 10);
        chain.addRain(20);
        chain.addRain(20);
        checkPlan("one step", chain, 0, 1, 0, 5);
        checkPlan("two steps", chain, 0, 2, 0, 5);
        chain.setGate(0, 2);
        checkPlan("from another opening", chain, 0, 1, 0, 5);
        chain.clearForecast();
        checkPlan("without rain", chain, 0, 3, 0, 0);
    }

    /** The gate stands open, and the basin below it is full and closed. */
    private static void closedGate() {
        SluiceChain chain = new SluiceChain();
        chain.addBasin(30, 0, 0);
        chain.addBasin(10, 0, 0);
        chain.pour(0, 25);
        chain.pour(1, 10);
        chain.setGate(0, 5);
        Check.same("the gate as it is", 20, chain.spillOf(1, 1));
        for (int steps = 1; steps <= 4; steps++) {
            checkPlan("closed for " + steps, chain, 0, steps, 0, 0);
        }
        chain.addRain(0);
        checkPlan("the last gate has nothing to do", chain, 1, 2, 0, 5);
    }

    /**
     * 40 units of rain come in the second step into a full basin of 20; the basin below it holds
     * 20 and loses 8 in each step. To let 9 times 4 units pass spills 4 units here, to let 10
     * times 4 pass spills 4 units there; the first opening can be 4.
     */
    private static void planLooksAhead() {
        SluiceChain chain = new SluiceChain();
        chain.addBasin(20, 2, 0);
        chain.addBasin(20, 0, 0);
        chain.pour(0, 20);
        chain.setGate(1, 2);
        chain.addRain(0);
        chain.addRain(20);
        checkPlan("nothing to do yet", chain, 0, 1, 0, 0);
        checkPlan("room is made before the rain", chain, 0, 2, 4, 4);
        checkPlan("nothing comes after it", chain, 0, 3, 4, 4);
    }

    /** The automatic gate above opens by itself, so the gate below must too. */
    private static void otherGatesBehaveAsUsual() {
        SluiceChain chain = new SluiceChain();
        chain.addBasin(40, 0, 0);
        chain.addBasin(10, 0, 0);
        chain.addBasin(60, 0, 0);
        chain.pour(0, 30);
        chain.pour(1, 6);
        chain.setAutomatic(0, 18);
        checkPlan("12 + 6 - 10 are too much by 8", chain, 1, 1, 0, 2);
        checkPlan("0 is left to flow", chain, 1, 4, 0, 2);
        chain.setAutomatic(0, 0);
        checkPlan("20 and then 8 units come", chain, 1, 2, 0, 4);
        chain.setManual(0);
        chain.setGate(0, 5);
        checkPlan("20 and then 10 units come", chain, 1, 2, 0, 4);
    }

    /** Whatever this gate does, 50 units are spilled elsewhere. */
    private static void spillOfAllBasinsCounts() {
        SluiceChain chain = new SluiceChain();
        chain.addBasin(10, 3, 0);
        chain.addBasin(99, 0, 0);
        chain.addRain(20);
        checkPlan("the other basin", chain, 1, 1, 50, 0);
        checkPlan("the basin itself", chain, 0, 1, 30, 5);
        chain.advance(1);
        checkPlan("what was spilled does not count", chain, 1, 1, 0, 0);
    }

    /** Rain of 20 in each step; one gate lets 20 pass, so the first 10 units are free. */
    private static void planOfFourSteps() {
        SluiceChain chain = new SluiceChain();
        chain.addBasin(10, 2, 0);
        for (int i = 0; i < 5; i++) {
            chain.addRain(20);
        }
        checkPlan("one step", chain, 0, 1, 10, 5);
        checkPlan("two steps", chain, 0, 2, 30, 5);
        checkPlan("three steps", chain, 0, 3, 50, 5);
        checkPlan("four steps", chain, 0, 4, 70, 5);
    }

    private static void plansWrongly() {
        SluiceChain chain = new SluiceChain();
        chain.addBasin(20, 1, 0);
        chain.addBasin(20, 1, 0);
        chain.setAutomatic(1, 3);
        chain.pour(1, 9);
        for (int basin : NO_BASINS) {
            plansFail("no such basin", INDEX, chain, basin, 1);
            plansFail("no such basin first", INDEX, chain, basin, 0);
        }
        for (int steps : NO_PLANS) {
            plansFail("steps", ARGUMENT, chain, 0, steps);
            plansFail("steps first", ARGUMENT, chain, 1, steps);
        }
        plansFail("an automatic gate", STATE, chain, 1, 1);
        plansFail("an automatic gate", STATE, chain, 1, 4);
    }

    private static void plansFail(
            String what, Class<? extends Exception> due, SluiceChain chain, int basin, int steps) {
        Check.failsUnchanged(what, due, chain, () -> chain.leastSpill(basin, steps));
        Check.failsUnchanged(what, due, chain, () -> chain.leastSpillByPruning(basin, steps));
        Check.failsUnchanged(what, due, chain, () -> chain.bestOpening(basin, steps));
    }

    /** In the first step the basins spill 5, 4, 3, 0 and 1 units. */
    private static SluiceChain beforeTheFlood() {
        SluiceChain chain = new SluiceChain();
        chain.addBasin(10, 1, 10);
        chain.addBasin(11, 1, 8);
        chain.addBasin(12, 1, 5);
        chain.addBasin(99, 1, 99);
        chain.addBasin(14, 1, 0);
        chain.addRain(15);
        return chain;
    }

    private static void endangered() {
        SluiceChain chain = beforeTheFlood();
        Check.same("no steps", 0, chain.endangered(0));
        Check.same("one step", 4, chain.endangered(1));
        Check.same("the most steps", 4, chain.endangered(30));
        chain.advance(1);
        Check.same("the flood is over", 0, chain.endangered(30));
        chain.addRain(0);
        chain.addRain(1);
        Check.same("not yet", 0, chain.endangered(1));
        Check.same("full basins", 4, chain.endangered(2));
        Check.same("none without basins", 0, new SluiceChain().endangered(30));
    }

    /** Each search is asked first, so that none can lean on another. */
    private static void freshSearches() {
        SluiceChain chain = new SluiceChain();
        for (int i = 0; i < 5; i++) {
            chain.addBasin(10 + i, 1, 10 + i);
        }
        chain.addRain(20);
        Check.same("bags for five", 10 + 9 + 8 + 7 + 6, chain.bagsForAll(1));
        Check.same("five endangered", 5, chain.endangered(1));
        checkProtection("all five", chain, 40, 1, 60);
        checkProtection("all but the one of least value", chain, 39, 1, 50);
        Check.same("by table at once", 5, beforeTheFlood().bestProtection(3, 1));
        Check.same("by sets at once", 5, beforeTheFlood().bestProtectionBySets(3, 1));
    }

    private static void protection() {
        SluiceChain chain = beforeTheFlood();
        String before = Chains.stateOf(chain);
        int[][] bagsAndValues = {
            {0, 0}, {1, 0}, {2, 0}, {3, 5}, {4, 8}, {5, 10}, {6, 10}, {7, 13}, {8, 15}, {9, 18},
            {11, 18}, {12, 23}, {13, 23}, {98, 23}, {99, 23},
        };
        for (int[] row : bagsAndValues) {
            checkProtection("with " + row[0] + " bags", chain, row[0], 1, row[1]);
            checkProtection("with " + row[0] + " bags, later", chain, row[0], 30, row[1]);
        }
        Check.same("bags for all", 13, beforeTheFlood().bagsForAll(1));
        Check.same("bags for all, later", 13, beforeTheFlood().bagsForAll(30));
        Check.sameText("a search changes nothing", before, Chains.stateOf(chain));
        chain.addRain(1);
        Check.same("bags for all of two steps", 17, chain.bagsForAll(2));
        checkProtection("6 and 4 bags", chain, 10, 2, 15);
    }

    private static void checkProtection(
            String what, SluiceChain chain, int bags, int steps, int due) {
        Check.same(what + ", by table", due, chain.bestProtection(bags, steps));
        Check.same(what + ", by sets", due, chain.bestProtectionBySets(bags, steps));
    }

    /** 10 + 4 * 20 + 9 units are 99; the second basin spills more than there can be bags. */
    private static void protectionOfBigFloods() {
        SluiceChain chain = new SluiceChain();
        chain.addBasin(10, 1, 7);
        chain.addBasin(10, 3, 99);
        for (int i = 0; i < 5; i++) {
            chain.addRain(20);
        }
        chain.addRain(9);
        Check.same("both are endangered", 2, chain.endangered(6));
        Check.same("bags for both", 99 + 317, chain.bagsForAll(6));
        checkProtection("one bag too few", chain, 98, 6, 0);
        checkProtection("all bags", chain, 99, 6, 7);
        checkProtection("a smaller flood", chain, 60, 1, 106);
        checkProtection("the more valuable", chain, 59, 1, 99);
    }

    private static void protectionWithoutSteps() {
        SluiceChain chain = beforeTheFlood();
        checkProtection("no steps", chain, 99, 0, 0);
        Check.same("bags for no steps", 0, chain.bagsForAll(0));
        SluiceChain none = new SluiceChain();
        checkProtection("no basins", none, 99, 30, 0);
        Check.same("bags for no basins", 0, none.bagsForAll(30));
    }

    private static void protectionWrongly() {
        SluiceChain chain = beforeTheFlood();
        for (int steps : NO_PREDICTIONS) {
            Check.failsUnchanged("steps", ARGUMENT, chain, () -> chain.endangered(steps));
            Check.failsUnchanged("steps", ARGUMENT, chain, () -> chain.bagsForAll(steps));
            Check.failsUnchanged("steps", ARGUMENT, chain, () -> chain.bestProtection(5, steps));
            Check.failsUnchanged("steps", ARGUMENT, chain,
                    () -> chain.bestProtectionBySets(5, steps));
        }
        for (int bags : NO_BAGS) {
            Check.failsUnchanged("bags", ARGUMENT, chain, () -> chain.bestProtection(bags, 1));
            Check.failsUnchanged("bags", ARGUMENT, chain,
                    () -> chain.bestProtectionBySets(bags, 1));
        }
    }

    private static void consistent() {
        SluiceChain chain = new SluiceChain();
        for (int i = 0; i < 5; i++) {
            chain.addBasin(10 + 7 * i, i % 4, 90 - 9 * i);
            chain.setGate(i, i);
        }
        chain.setAutomatic(2, 12);
        for (int i = 0; i < 12; i++) {
            chain.addRain(i * 7 % 21);
        }
        for (int i = 0; i < 20; i++) {
            String before = Chains.stateOf(chain);
            Check.yes("consistent at " + i, chain.isConsistent());
            Check.sameText("the check changes nothing", before, Chains.stateOf(chain));
            chain.advance(1);
        }
        for (int i = 0; i < 8; i++) {
            chain.undo();
            Check.yes("consistent after undoing", chain.isConsistent());
        }
        for (int i = 0; i < 5; i++) {
            chain.setAutomatic(i, 5 * i);
        }
        Check.yes("consistent with automatic gates alone", chain.isConsistent());
    }
}
