import java.util.NoSuchElementException;

/** Promises 6 to 9 and 21 to 31: water, time, the queries about them and the predictions. */
public final class WaterTest {
    private static final Class<IndexOutOfBoundsException> INDEX = IndexOutOfBoundsException.class;
    private static final Class<IllegalArgumentException> ARGUMENT = IllegalArgumentException.class;
    private static final Class<IllegalStateException> STATE = IllegalStateException.class;
    private static final Class<NoSuchElementException> NONE = NoSuchElementException.class;
    private static final Class<ArithmeticException> ARITHMETIC = ArithmeticException.class;
    private static final int[] NO_BASINS = {-1, 2, 5, Integer.MIN_VALUE, Integer.MAX_VALUE};
    private static final int[] NO_PREDICTIONS = {-1, 31, Integer.MIN_VALUE, Integer.MAX_VALUE};

    private WaterTest() {
    }

    public static void main(String[] args) {
        addRain();
        addRainWrongly();
        clearForecast();
        forecastIsAQueue();
        pour();
        pourWrongly();
        waterPassesThroughTheChain();
        automaticGateSeesTheInflow();
        spillingIsLast();
        advanceSumsUp();
        advanceWithoutBasins();
        advanceWrongly();
        storedAndAccounts();
        meanFill();
        floodShare();
        floodShareOfFiveBasins();
        levelAfter();
        spillOf();
        stepsUntilFlood();
        floodAtTheHorizon();
        predictionsWrongly();
        Check.finish("WaterTest");
    }

    private static void addRain() {
        SluiceChain chain = new SluiceChain();
        for (int i = 0; i < 12; i++) {
            Check.same("amounts", i + 1, chain.addRain(i == 11 ? 20 : i));
            Check.same("length of the forecast", i + 1, chain.forecastLength());
        }
        Check.same("the first amount", 0, chain.rainAt(0));
        Check.same("an amount", 7, chain.rainAt(7));
        Check.same("the last amount", 20, chain.rainAt(11));
        Check.same("there is room after a step", 0, chain.advance(1));
        Check.same("amounts", 12, chain.addRain(13));
        Check.same("the first amount", 1, chain.rainAt(0));
        Check.same("the last amount", 13, chain.rainAt(11));
    }

    private static void addRainWrongly() {
        SluiceChain chain = new SluiceChain();
        int[] wrong = {-1, 21, Integer.MIN_VALUE, Integer.MAX_VALUE};
        for (int amount : wrong) {
            Check.failsUnchanged("rain", ARGUMENT, chain, () -> chain.addRain(amount));
        }
        for (int position : new int[] {-1, 0, 1, Integer.MIN_VALUE, Integer.MAX_VALUE}) {
            Check.fails("no forecast", INDEX, () -> chain.rainAt(position));
        }
        for (int i = 0; i < 12; i++) {
            chain.addRain(20);
        }
        for (int amount : wrong) {
            Check.failsUnchanged("rain first", ARGUMENT, chain, () -> chain.addRain(amount));
        }
        Check.failsUnchanged("a full forecast", STATE, chain, () -> chain.addRain(0));
        for (int position : new int[] {-1, 12, 13, Integer.MIN_VALUE, Integer.MAX_VALUE}) {
            Check.fails("no such position", INDEX, () -> chain.rainAt(position));
        }
        Check.same("calls that failed can't be undone", 8, Chains.undoAll(chain));
        Check.same("the rest of the forecast", 4, chain.forecastLength());
    }

    private static void clearForecast() {
        SluiceChain chain = new SluiceChain();
        Check.same("no forecast", 0, chain.clearForecast());
        for (int i = 0; i < 12; i++) {
            chain.addRain(20);
        }
        Check.same("the sum", 240, chain.clearForecast());
        Check.same("nothing is left", 0, chain.forecastLength());
        Check.fails("nothing is left", INDEX, () -> chain.rainAt(0));
        Check.same("a sum of nothing", 0, chain.clearForecast());
        Check.same("room again", 1, chain.addRain(3));
        chain.addRain(4);
        chain.advance(1);
        Check.same("the amount that fell is not in the sum", 4, chain.clearForecast());
    }

    private static void forecastIsAQueue() {
        SluiceChain chain = new SluiceChain();
        chain.addBasin(99, 1, 0);
        chain.addRain(3);
        chain.addRain(5);
        chain.addRain(7);
        chain.advance(1);
        Check.same("the first rain", 3, chain.level(0));
        Check.same("the next rain", 5, chain.rainAt(0));
        Check.same("the rain after it", 7, chain.rainAt(1));
        chain.advance(2);
        Check.same("all rain", 15, chain.level(0));
        Check.same("the forecast is used up", 0, chain.forecastLength());
        chain.advance(30);
        Check.same("no rain without a forecast", 15, chain.level(0));
        Check.same("time goes on", 33, chain.time());
    }

    private static void pour() {
        SluiceChain chain = new SluiceChain();
        chain.addBasin(60, 0, 0);
        chain.addBasin(10, 0, 0);
        Check.same("the least", 1, chain.pour(0, 1));
        Check.same("the most", 51, chain.pour(0, 50));
        Check.same("up to the capacity", 60, chain.pour(0, 9));
        Check.same("level", 60, chain.level(0));
        Check.same("the other basin", 0, chain.level(1));
        Check.same("the other basin at once", 10, chain.pour(1, 10));
        Check.same("nothing is spilled", 0, chain.spilled(0));
    }

    private static void pourWrongly() {
        SluiceChain chain = new SluiceChain();
        chain.addBasin(60, 0, 0);
        chain.addBasin(10, 0, 0);
        chain.pour(0, 50);
        for (int basin : NO_BASINS) {
            Check.failsUnchanged("no such basin", INDEX, chain, () -> chain.pour(basin, 1));
            Check.failsUnchanged("no such basin first", INDEX, chain, () -> chain.pour(basin, 0));
        }
        for (int units : new int[] {0, -1, 51, Integer.MIN_VALUE, Integer.MAX_VALUE}) {
            Check.failsUnchanged("units", ARGUMENT, chain, () -> chain.pour(0, units));
            Check.failsUnchanged("units first", ARGUMENT, chain, () -> chain.pour(1, units));
        }
        Check.failsUnchanged("one too much", STATE, chain, () -> chain.pour(0, 11));
        Check.failsUnchanged("one too much", STATE, chain, () -> chain.pour(1, 11));
        Check.same("one less is fine", 60, chain.pour(0, 10));
        Check.same("calls that failed can't be undone", 4, Chains.undoAll(chain));
    }

    /** A flow of 12 units from the first basin runs through all gates in one step. */
    private static void waterPassesThroughTheChain() {
        SluiceChain chain = new SluiceChain();
        for (int i = 0; i < 3; i++) {
            chain.addBasin(50, 0, 0);
        }
        chain.pour(0, 12);
        chain.setGate(0, 5);
        chain.setGate(1, 3);
        chain.setGate(2, 2);
        Check.same("nothing is spilled", 0, chain.advance(1));
        Check.same("not more than the level flows", 0, chain.level(0));
        Check.same("the middle passes all on", 0, chain.level(1));
        Check.same("the last keeps the rest", 4, chain.level(2));
        Check.same("into the river", 8, chain.riverTotal());
        chain.advance(1);
        Check.same("the rest goes into the river", 12, chain.riverTotal());
        chain.advance(30);
        Check.same("no more than there was", 12, chain.riverTotal());
    }

    private static void automaticGateSeesTheInflow() {
        SluiceChain chain = new SluiceChain();
        chain.addBasin(50, 1, 0);
        chain.addBasin(50, 2, 0);
        chain.setGate(0, 2);
        chain.setAutomatic(1, 10);
        chain.pour(1, 1);
        chain.addRain(9);
        chain.advance(1);
        Check.same("the first keeps 9 - 8", 1, chain.level(0));
        Check.same("1 + 18 + 8 exceeds 10 by 17", 4, chain.opening(1));
        Check.same("27 - 16", 11, chain.level(1));
        Check.same("river", 16, chain.riverTotal());
    }

    /** Basins are above their capacities for a while before the gates open. */
    private static void spillingIsLast() {
        SluiceChain chain = new SluiceChain();
        chain.addBasin(10, 3, 0);
        chain.addBasin(20, 0, 0);
        chain.setGate(0, 4);
        chain.addRain(9);
        Check.same("27 - 16 - 10", 1, chain.advance(1));
        Check.same("the first spills", 1, chain.spilled(0));
        Check.same("the second holds", 16, chain.level(1));
        chain.addRain(2);
        Check.same("10 + 6 all flow; 32 - 20 are spilled", 12, chain.advance(1));
        Check.same("the first is empty", 0, chain.level(0));
        Check.same("the second spills", 12, chain.spilled(1));
        Check.same("and is full", 20, chain.level(1));
    }

    private static void advanceSumsUp() {
        SluiceChain chain = new SluiceChain();
        chain.addBasin(10, 3, 0);
        chain.addBasin(10, 1, 0);
        chain.addRain(20);
        chain.addRain(0);
        chain.addRain(10);
        chain.addRain(10);
        Check.same("50 + 10, 0, 30 + 10", 100, chain.advance(3));
        Check.same("time", 3, chain.time());
        Check.same("one amount is left", 1, chain.forecastLength());
        Check.same("30 + 10", 40, chain.advance(1));
        Check.same("the first's share", 110, chain.spilled(0));
        Check.same("the second's share", 30, chain.spilled(1));
        Check.same("the most steps", 0, chain.advance(30));
        Check.same("time", 34, chain.time());
    }

    private static void advanceWithoutBasins() {
        SluiceChain chain = new SluiceChain();
        chain.addRain(20);
        chain.addRain(19);
        Check.same("nothing is spilled", 0, chain.advance(1));
        Check.same("the rain is over", 1, chain.forecastLength());
        Check.same("the next rain", 19, chain.rainAt(0));
        Check.same("no river", 0, chain.riverTotal());
        Check.same("no water", 0, chain.storedByAccounts());
        Check.same("time", 1, chain.time());
    }

    private static void advanceWrongly() {
        SluiceChain chain = new SluiceChain();
        chain.addBasin(10, 3, 0);
        chain.addRain(5);
        for (int steps : new int[] {0, -1, 31, Integer.MIN_VALUE, Integer.MAX_VALUE}) {
            Check.failsUnchanged("steps", ARGUMENT, chain, () -> chain.advance(steps));
        }
        Check.same("calls that failed can't be undone", 2, Chains.undoAll(chain));
    }

    private static void storedAndAccounts() {
        SluiceChain chain = new SluiceChain();
        chain.addBasin(20, 1, 0);
        chain.addBasin(30, 2, 0);
        chain.setGate(1, 1);
        chain.pour(0, 15);
        chain.pour(1, 25);
        Check.same("poured", 40, chain.stored());
        Check.same("poured by the accounts", 40, chain.storedByAccounts());
        chain.addRain(6);
        Check.same("21 - 20, 37 - 4 - 30", 4, chain.advance(1));
        Check.same("full", 50, chain.stored());
        Check.same("40 + 18 - 4 - 4", 50, chain.storedByAccounts());
        Check.same("river", 4, chain.riverTotal());
        chain.addBasin(99, 0, 0);
        Check.same("an empty basin adds nothing", 50, chain.storedByAccounts());
        chain.advance(3);
        Check.same("the river gets nothing before the new gate opens", 4, chain.riverTotal());
        chain.undo();
        Check.same("undone", 50, chain.storedByAccounts());
    }

    private static void meanFill() {
        Check.fails("no basins", ARITHMETIC, () -> new SluiceChain().meanFill());
        SluiceChain chain = new SluiceChain();
        chain.addBasin(30, 0, 0);
        Check.sameDouble("empty", 0.0, chain.meanFill());
        chain.pour(0, 10);
        Check.sameDouble("a third", 10.0 / 30.0, chain.meanFill());
        chain.addBasin(10, 0, 0);
        chain.addBasin(77, 0, 0);
        chain.pour(1, 7);
        chain.pour(2, 50);
        double sum = 10.0 / 30.0 + 7.0 / 10.0;
        sum += 50.0 / 77.0;
        Check.sameDouble("the mean of three", sum / 3.0, chain.meanFill());
    }

    private static void floodShareOfFiveBasins() {
        SluiceChain chain = new SluiceChain();
        for (int i = 0; i < 5; i++) {
            chain.addBasin(10, i == 2 ? 0 : 3, 0);
        }
        chain.addRain(20);
        chain.addRain(1);
        chain.advance(7);
        Check.sameDouble("eight in seven steps", 8.0f / 7.0f, chain.floodShare());
    }

    private static void floodShare() {
        SluiceChain chain = new SluiceChain();
        Check.fails("time 0", ARITHMETIC, chain::floodShare);
        chain.addBasin(10, 3, 0);
        chain.addBasin(10, 3, 0);
        chain.pour(0, 10);
        Check.fails("time 0", ARITHMETIC, chain::floodShare);
        chain.advance(1);
        Check.sameDouble("no flood", 0.0, chain.floodShare());
        chain.addRain(1);
        chain.addRain(20);
        chain.advance(2);
        Check.sameDouble("three in three steps", 1.0f, chain.floodShare());
        chain.advance(4);
        Check.sameDouble("three in seven steps", 3.0f / 7.0f, chain.floodShare());
        SluiceChain none = new SluiceChain();
        none.advance(1);
        Check.sameDouble("no basins", 0.0, none.floodShare());
    }

    private static void levelAfter() {
        SluiceChain chain = draining();
        String before = Chains.stateOf(chain);
        int[] first = {15, 11, 17, 17, 13, 9, 5, 1, 0, 0};
        int[] second = {0, 4, 8, 12, 16, 20, 24, 26, 26, 26};
        for (int steps = 0; steps < first.length; steps++) {
            Check.same("level 0 after " + steps, first[steps], chain.levelAfter(0, steps));
            Check.same("level 1 after " + steps, second[steps], chain.levelAfter(1, steps));
        }
        Check.same("level after the most steps", 26, chain.levelAfter(1, 30));
        Check.sameText("a prediction changes nothing", before, Chains.stateOf(chain));
    }

    /** Of 29 units the last basin holds 26; the seventh and eighth flow are too much for it. */
    private static void spillOf() {
        SluiceChain chain = draining();
        chain.advance(1);
        String before = Chains.stateOf(chain);
        int[] second = {0, 0, 0, 0, 0, 0, 2, 3, 3};
        for (int steps = 0; steps < second.length; steps++) {
            Check.same("spill 0 after " + steps, 0, chain.spillOf(0, steps));
            Check.same("spill 1 after " + steps, second[steps], chain.spillOf(1, steps));
        }
        Check.same("spill after the most steps", 3, chain.spillOf(1, 30));
        Check.sameText("a prediction changes nothing", before, Chains.stateOf(chain));
        chain.advance(7);
        Check.same("what was spilled", 3, chain.spilled(1));
        Check.same("is not predicted again", 0, chain.spillOf(1, 30));
        chain.pour(0, 20);
        Check.same("only what comes", 4, chain.spillOf(1, 1));
    }

    private static void stepsUntilFlood() {
        SluiceChain chain = draining();
        String before = Chains.stateOf(chain);
        Check.same("the second basin", 7, chain.stepsUntilFlood());
        Check.sameText("a prediction changes nothing", before, Chains.stateOf(chain));
        chain.advance(6);
        Check.same("in the next step", 1, chain.stepsUntilFlood());
        chain.advance(30);
        Check.fails("nothing more comes", NONE, chain::stepsUntilFlood);
        Check.fails("no basins", NONE, () -> new SluiceChain().stepsUntilFlood());
    }

    /** 4 units a step; the second basin keeps 24 of them first, the third can hold 99. */
    private static void floodAtTheHorizon() {
        SluiceChain chain = new SluiceChain();
        chain.addBasin(99, 1, 0);
        chain.addBasin(50, 0, 0);
        chain.addBasin(99, 0, 0);
        chain.setGate(0, 1);
        chain.setAutomatic(1, 24);
        chain.pour(0, 50);
        chain.pour(0, 49);
        for (int i = 0; i < 12; i++) {
            chain.addRain(4);
        }
        Check.fails("in 31 steps", NONE, chain::stepsUntilFlood);
        chain.advance(1);
        Check.same("in 30 steps", 30, chain.stepsUntilFlood());
        Check.same("as advance finds it", 0, chain.advance(29));
        Check.same("as advance finds it", 1, chain.advance(1));
    }

    /** 15 units; 10 in the second and 4 in the third step; 4 flow on in each step. */
    private static SluiceChain draining() {
        SluiceChain chain = new SluiceChain();
        chain.addBasin(40, 1, 0);
        chain.addBasin(26, 0, 0);
        chain.setGate(0, 1);
        chain.pour(0, 15);
        chain.addRain(0);
        chain.addRain(10);
        chain.addRain(4);
        return chain;
    }

    private static void predictionsWrongly() {
        SluiceChain chain = draining();
        for (int basin : NO_BASINS) {
            Check.fails("no such basin", INDEX, () -> chain.levelAfter(basin, 1));
            Check.fails("no such basin first", INDEX, () -> chain.levelAfter(basin, 31));
            Check.fails("no such basin", INDEX, () -> chain.spillOf(basin, 1));
            Check.fails("no such basin first", INDEX, () -> chain.spillOf(basin, -1));
        }
        for (int steps : NO_PREDICTIONS) {
            Check.failsUnchanged("steps", ARGUMENT, chain, () -> chain.levelAfter(0, steps));
            Check.failsUnchanged("steps", ARGUMENT, chain, () -> chain.spillOf(1, steps));
        }
    }
}
