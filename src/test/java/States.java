/** Objects on which refused calls are tried. */
final class States {
    /** As many commands as a text can hold, in 60 characters. */
    static final String FULL_TEXT = "clear;clear;clear;clear;clear;clear;clear;clear;clear;step 9";

    private States() {
    }

    static SluiceChain empty() {
        return new SluiceChain();
    }

    /**
     * Two basins, the second with an automatic gate; three amounts of rain; seven calls to undo; a
     * saved state, a failed command, an error position, an output line and a text.
     */
    static SluiceChain busy() {
        SluiceChain chain = new SluiceChain();
        chain.addBasin(20, 3, 40);
        chain.addBasin(30, 1, 50);
        chain.setAutomatic(1, 6);
        chain.setGate(0, 2);
        chain.pour(0, 17);
        chain.addRain(9);
        storeErrors(chain);
        chain.addRain(4);
        chain.save();
        chain.addRain(20);
        chain.advance(1);
        chain.addRain(11);
        chain.addRain(12);
        chain.undo();
        chain.undo();
        chain.undo();
        chain.undo();
        chain.advance(1);
        chain.addRain(0);
        chain.addRain(13);
        chain.writeChain();
        Chains.type(chain, "rain 7;step 2");
        return chain;
    }

    /**
     * Five basins with much water, the last with an automatic gate; twelve amounts of rain; eight
     * calls to undo; a saved state, a failed command, an error position, an output line and a text
     * of 60 characters.
     */
    static SluiceChain full() {
        SluiceChain chain = fiveBasins();
        storeErrors(chain);
        chain.save();
        for (int i = 0; i < 12; i++) {
            chain.addRain(20 - i);
        }
        for (int i = 0; i < 5; i++) {
            chain.pour(i, 50);
            chain.pour(i, 49);
        }
        chain.writeChain();
        Chains.type(chain, FULL_TEXT);
        return chain;
    }

    /** Stores the error position 7 and the failed command 1. */
    static void storeErrors(SluiceChain chain) {
        Chains.type(chain, "clear;step 0");
        Check.fails("a program that fails", Edges.FAILED, chain::run);
        Chains.type(chain, "step 1;");
        Check.fails("a text that is no program", Edges.ARGUMENT, chain::run);
    }

    /** The basins of capacity 99 take no rain but for the first. */
    static SluiceChain fiveBasins() {
        SluiceChain chain = new SluiceChain();
        for (int i = 0; i < 5; i++) {
            chain.addBasin(99, i == 0 ? 1 : 0, 10 * i);
        }
        chain.setGate(0, 5);
        chain.setAutomatic(4, 99);
        return chain;
    }

    /** Chains of this many basins of capacity 50 that differ in nothing. */
    static SluiceChain basins(int count) {
        SluiceChain chain = new SluiceChain();
        for (int i = 0; i < count; i++) {
            chain.addBasin(50, 1, 1);
        }
        return chain;
    }

    /** One basin of this capacity and catchment. */
    static SluiceChain oneBasin(int capacity, int catchment) {
        SluiceChain chain = new SluiceChain();
        chain.addBasin(capacity, catchment, 1);
        return chain;
    }

    /** One basin of capacity 99 that holds this much. */
    static SluiceChain holding(int level) {
        SluiceChain chain = oneBasin(99, 0);
        pour(chain, 0, level);
        return chain;
    }

    /** Pours more than one call may. */
    static void pour(SluiceChain chain, int basin, int units) {
        for (int left = units; left > 0; left -= 50) {
            chain.pour(basin, Math.min(left, 50));
        }
    }

    /** Appends this many amounts. */
    static void rain(SluiceChain chain, int count, int amount) {
        for (int i = 0; i < count; i++) {
            chain.addRain(amount);
        }
    }

    /** The same object after these steps. */
    static SluiceChain steps(SluiceChain chain, int steps) {
        chain.advance(steps);
        return chain;
    }
}
