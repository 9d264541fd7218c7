import java.util.NoSuchElementException;

/**
 * A model of a chain of basins with gates: rain fills the basins, gates pass the water on, basins
 * that are too full spill over the fields beside them, and the class searches for openings that
 * spill least and for fields that sandbags can save.
 *
 * <p>All rows are made with the object and used again, because nothing that a run of calls makes is
 * ever given back.
 */
public final class SluiceChain {
    private static final int MAX_BASINS = 5;
    private static final int MIN_CAPACITY = 10;
    private static final int MAX_CAPACITY = 99;
    private static final int MAX_CATCHMENT = 3;
    private static final int MAX_VALUE = 99;
    private static final int MAX_OPENING = 5;
    /** How much water flows out in a step for each opening. */
    private static final int UNITS_PER_OPENING = 4;
    /** How much above the threshold an automatic gate opens further by one. */
    private static final int EXCESS_PER_OPENING = 4;
    private static final int MAX_THRESHOLD = 99;
    private static final int MAX_FORECAST = 12;
    private static final int MAX_RAIN = 20;
    private static final int MAX_POUR = 50;
    private static final int MAX_STEPS = 30;
    private static final int MAX_PLAN_STEPS = 4;
    private static final int MAX_BAGS = 99;
    private static final int MAX_UNDO = 8;
    private static final int MAX_TEXT = 60;
    private static final int MAX_ARGUMENTS = 3;
    /** Five basins like "99/99:5~99" with blanks between them; no forecast is as long. */
    private static final int MAX_LINE = 54;
    private static final int CHECKED_PLAN_STEPS = 2;
    private static final int CHECKED_BAGS = 20;
    private static final int CHECKED_STEPS = 6;
    /** No plan spills more than the stored water and the rain of 4 steps, which is far less. */
    private static final int MORE_THAN_ANY_SPILL = 1_000_000;
    /** Stands for what was not found or not stored; every real answer is at least 0. */
    private static final int NONE = -1;

    private final Chain chain = new Chain();
    private final Chain saved = new Chain();
    private final Chain before = new Chain();
    private final Chain ahead = new Chain();
    private final History history = new History();
    private final PlanSearch plans = new PlanSearch();
    private final Protection protection = new Protection();
    private final Program program = new Program();
    private final Line line = new Line();
    private boolean hasSaved = false;
    private int storedErrorPosition = NONE;
    private int storedFailedCommand = NONE;

    public SluiceChain() {
    }

    // ---- basins and gates

    public int addBasin(int capacity, int catchment, int value)
            throws IllegalArgumentException, IllegalStateException {
        return change(Command.BASIN, capacity, catchment, value);
    }

    public int setGate(int basin, int opening)
            throws IndexOutOfBoundsException, IllegalArgumentException, IllegalStateException {
        return change(Command.GATE, basin, opening, 0);
    }

    public int setAutomatic(int basin, int threshold)
            throws IndexOutOfBoundsException, IllegalArgumentException {
        return change(Command.AUTO, basin, threshold, 0);
    }

    public int setManual(int basin) throws IndexOutOfBoundsException, IllegalStateException {
        return change(Command.HAND, basin, 0, 0);
    }

    // ---- water and time

    public int addRain(int amount) throws IllegalArgumentException, IllegalStateException {
        return change(Command.RAIN, amount, 0, 0);
    }

    public int clearForecast() {
        return change(Command.CLEAR, 0, 0, 0);
    }

    public int pour(int basin, int units)
            throws IndexOutOfBoundsException, IllegalArgumentException, IllegalStateException {
        return change(Command.POUR, basin, units, 0);
    }

    public int advance(int steps) throws IllegalArgumentException {
        return change(Command.STEP, steps, 0, 0);
    }

    private int change(Command command, int first, int second, int third) {
        throwFor(chain.faultOf(command, first, second, third));
        history.remember(chain);
        return chain.carryOut(command, first, second, third);
    }

    // ---- queries about basins

    public int basinCount() {
        return chain.basinsInUse;
    }

    public int capacity(int basin) throws IndexOutOfBoundsException {
        return existingBasin(basin).capacity;
    }

    public int level(int basin) throws IndexOutOfBoundsException {
        return existingBasin(basin).level;
    }

    public int catchment(int basin) throws IndexOutOfBoundsException {
        return existingBasin(basin).catchment;
    }

    public int fieldValue(int basin) throws IndexOutOfBoundsException {
        return existingBasin(basin).value;
    }

    public int opening(int basin) throws IndexOutOfBoundsException {
        return existingBasin(basin).opening;
    }

    public boolean isAutomatic(int basin) throws IndexOutOfBoundsException {
        return existingBasin(basin).automatic;
    }

    public int threshold(int basin) throws IndexOutOfBoundsException, NoSuchElementException {
        Basin found = existingBasin(basin);
        if (!found.automatic) {
            throw new NoSuchElementException("a manual gate has no threshold");
        }
        return found.threshold;
    }

    public int spilled(int basin) throws IndexOutOfBoundsException {
        return existingBasin(basin).spilled;
    }

    public int floodedSteps(int basin) throws IndexOutOfBoundsException {
        return existingBasin(basin).floodedSteps;
    }

    public int basinAtRank(int rank) throws NoSuchElementException {
        for (int i = 0; i < chain.basinsInUse; i++) {
            if (chain.rankOf(i) == rank) {
                return i;
            }
        }
        throw new NoSuchElementException("there is no such rank");
    }

    // ---- queries about water and time

    public int time() {
        return chain.time;
    }

    public int forecastLength() {
        return chain.amountsInForecast;
    }

    public int rainAt(int position) throws IndexOutOfBoundsException {
        if (position < 0 || position >= chain.amountsInForecast) {
            throw new IndexOutOfBoundsException("there is no such position in the forecast");
        }
        return chain.forecast[position];
    }

    public int stored() {
        return chain.sumOfLevels();
    }

    public int storedByAccounts() {
        return chain.balanceOfAccounts();
    }

    public long riverTotal() {
        return chain.river;
    }

    public double meanFill() throws ArithmeticException {
        if (chain.basinsInUse == 0) {
            throw new ArithmeticException("there are no basins");
        }
        double sum = 0.0;
        for (int i = 0; i < chain.basinsInUse; i++) {
            Basin basin = chain.basins[i];
            sum += (double) basin.level / (double) basin.capacity;
        }
        return sum / (double) chain.basinsInUse;
    }

    public float floodShare() throws ArithmeticException {
        if (chain.time == 0) {
            throw new ArithmeticException("the time is 0");
        }
        return (float) chain.sumOfFloodedSteps() / (float) chain.time;
    }

    // ---- predictions

    public int levelAfter(int basin, int steps)
            throws IndexOutOfBoundsException, IllegalArgumentException {
        throwFor(chain.faultOfPrediction(basin, steps));
        lookAhead(steps);
        return ahead.basins[basin].level;
    }

    public int spillOf(int basin, int steps)
            throws IndexOutOfBoundsException, IllegalArgumentException {
        throwFor(chain.faultOfPrediction(basin, steps));
        lookAhead(steps);
        return expectedSpill(basin);
    }

    public int stepsUntilFlood() throws NoSuchElementException {
        ahead.copyFrom(chain);
        for (int steps = 1; steps <= MAX_STEPS; steps++) {
            if (ahead.passStep() > 0) {
                return steps;
            }
        }
        throw new NoSuchElementException("no field is flooded soon");
    }

    private void lookAhead(int steps) {
        ahead.copyFrom(chain);
        for (int i = 0; i < steps; i++) {
            ahead.passStep();
        }
    }

    private int expectedSpill(int basin) {
        return ahead.basins[basin].spilled - chain.basins[basin].spilled;
    }

    // ---- searches

    public int leastSpill(int basin, int steps)
            throws IndexOutOfBoundsException, IllegalArgumentException, IllegalStateException {
        throwFor(chain.faultOfPlan(basin, steps));
        return plans.leastOfAll(chain, basin, steps);
    }

    public int leastSpillByPruning(int basin, int steps)
            throws IndexOutOfBoundsException, IllegalArgumentException, IllegalStateException {
        throwFor(chain.faultOfPlan(basin, steps));
        return plans.leastByCutting(chain, basin, steps);
    }

    public int bestOpening(int basin, int steps)
            throws IndexOutOfBoundsException, IllegalArgumentException, IllegalStateException {
        throwFor(chain.faultOfPlan(basin, steps));
        return plans.lowestFirstOpening(chain, basin, steps);
    }

    public int endangered(int steps) throws IllegalArgumentException {
        throwFor(faultOfRange(steps, 0, MAX_STEPS));
        gatherEndangered(steps);
        return protection.count;
    }

    public int bestProtection(int bags, int steps) throws IllegalArgumentException {
        throwFor(faultOfRange(bags, 0, MAX_BAGS));
        throwFor(faultOfRange(steps, 0, MAX_STEPS));
        gatherEndangered(steps);
        return protection.bestByTable(bags);
    }

    public int bestProtectionBySets(int bags, int steps) throws IllegalArgumentException {
        throwFor(faultOfRange(bags, 0, MAX_BAGS));
        throwFor(faultOfRange(steps, 0, MAX_STEPS));
        gatherEndangered(steps);
        return protection.bestBySets(bags);
    }

    public int bagsForAll(int steps) throws IllegalArgumentException {
        throwFor(faultOfRange(steps, 0, MAX_STEPS));
        gatherEndangered(steps);
        return protection.sumOfBags();
    }

    public boolean isConsistent() {
        return chain.levelsFit()
                && chain.sumOfLevels() == chain.balanceOfAccounts()
                && leastSpillsAgree()
                && protectionsAgree();
    }

    private void gatherEndangered(int steps) {
        lookAhead(steps);
        protection.count = 0;
        for (int i = 0; i < chain.basinsInUse; i++) {
            int bags = expectedSpill(i);
            if (bags > 0) {
                protection.include(bags, chain.basins[i].value);
            }
        }
    }

    private boolean leastSpillsAgree() {
        for (int i = 0; i < chain.basinsInUse; i++) {
            if (!chain.basins[i].automatic
                    && plans.leastOfAll(chain, i, CHECKED_PLAN_STEPS)
                            != plans.leastByCutting(chain, i, CHECKED_PLAN_STEPS)) {
                return false;
            }
        }
        return true;
    }

    private boolean protectionsAgree() {
        gatherEndangered(CHECKED_STEPS);
        return protection.bestByTable(CHECKED_BAGS) == protection.bestBySets(CHECKED_BAGS);
    }

    // ---- programs

    public int append(char character) throws IllegalStateException {
        if (program.length >= MAX_TEXT) {
            throw new IllegalStateException("the text buffer is full");
        }
        program.take(character);
        return program.length;
    }

    public int run() throws IllegalArgumentException, UnsupportedOperationException {
        int commands = program.countCommands();
        if (commands == NONE) {
            storedErrorPosition = program.position;
            program.length = 0;
            throw new IllegalArgumentException("the text is not a program");
        }
        before.copyFrom(chain);
        int succeeded = carryOutProgram(commands);
        program.length = 0;
        if (succeeded < commands) {
            chain.copyFrom(before);
            storedFailedCommand = succeeded;
            throw new UnsupportedOperationException("a command of the program fails");
        }
        history.remember(before);
        return commands;
    }

    public int errorPosition() throws NoSuchElementException {
        if (storedErrorPosition == NONE) {
            throw new NoSuchElementException("no error position was stored");
        }
        return storedErrorPosition;
    }

    public int failedCommand() throws NoSuchElementException {
        if (storedFailedCommand == NONE) {
            throw new NoSuchElementException("no failed command was stored");
        }
        return storedFailedCommand;
    }

    /** Stops at the first command that fails; answers how many came before it. */
    private int carryOutProgram(int commands) {
        program.position = 0;
        for (int done = 0; done < commands; done++) {
            program.readCommand();
            int first = program.arguments[0];
            int second = program.arguments[1];
            int third = program.arguments[2];
            if (chain.faultOf(program.command, first, second, third) != Fault.NONE) {
                return done;
            }
            chain.carryOut(program.command, first, second, third);
        }
        return commands;
    }

    // ---- output

    public int writeChain() {
        line.length = 0;
        for (int i = 0; i < chain.basinsInUse; i++) {
            if (i > 0) {
                line.put(' ');
            }
            writeBasin(chain.basins[i]);
        }
        return line.length;
    }

    public int writeForecast() {
        line.length = 0;
        for (int i = 0; i < chain.amountsInForecast; i++) {
            if (i > 0) {
                line.put(',');
            }
            line.putNumber(chain.forecast[i]);
        }
        return line.length;
    }

    public char outputAt(int index) throws IndexOutOfBoundsException {
        if (index < 0 || index >= line.length) {
            throw new IndexOutOfBoundsException("the output line has no such character");
        }
        return line.signs[index];
    }

    private void writeBasin(Basin basin) {
        line.putNumber(basin.level);
        line.put('/');
        line.putNumber(basin.capacity);
        line.put(basin.automatic ? ':' : '|');
        line.putNumber(basin.opening);
        if (basin.automatic) {
            line.put('~');
            line.putNumber(basin.threshold);
        }
    }

    // ---- undo and snapshot

    public int undo() throws IllegalStateException {
        if (history.count == 0) {
            throw new IllegalStateException("no call can be undone");
        }
        chain.copyFrom(history.takeLatest());
        return history.count;
    }

    public void save() {
        saved.copyFrom(chain);
        hasSaved = true;
    }

    public void restore() throws IllegalStateException {
        if (!hasSaved) {
            throw new IllegalStateException("no state was saved");
        }
        chain.copyFrom(saved);
        history.count = 0;
    }

    // ---- what the calls have in common

    private Basin existingBasin(int index) {
        if (!chain.hasBasin(index)) {
            throw new IndexOutOfBoundsException("there is no such basin");
        }
        return chain.basins[index];
    }

    private static Fault faultOfRange(int number, int least, int greatest) {
        return number < least || number > greatest ? Fault.OUT_OF_RANGE : Fault.NONE;
    }

    private static void throwFor(Fault fault) {
        if (fault == Fault.NO_BASIN) {
            throw new IndexOutOfBoundsException("there is no such basin");
        }
        if (fault == Fault.OUT_OF_RANGE) {
            throw new IllegalArgumentException("a number is out of range");
        }
        if (fault == Fault.WRONG_STATE) {
            throw new IllegalStateException("the state of the chain rules the call out");
        }
    }

    /** Why a call can't be carried out; a program fails by it, a single call throws by it. */
    private enum Fault {
        NONE,
        NO_BASIN,
        OUT_OF_RANGE,
        WRONG_STATE
    }

    /** The changing calls that a program can name. In a pattern D is a digit and N a number. */
    private enum Command {
        BASIN("basin N D N"),
        GATE("gate D D"),
        AUTO("auto D N"),
        HAND("hand D"),
        RAIN("rain N"),
        CLEAR("clear"),
        POUR("pour D N"),
        STEP("step N");

        private final String pattern;

        Command(String pattern) {
            this.pattern = pattern;
        }
    }

    /** A basin with its gate and its field. */
    private static final class Basin {
        private int capacity = 0;
        private int catchment = 0;
        private int value = 0;
        private int level = 0;
        private int opening = 0;
        private boolean automatic = false;
        private int threshold = 0;
        private int spilled = 0;
        private int floodedSteps = 0;

        /** Forgets all of before, because a row that undo gave back is used again. */
        private void begin(int newCapacity, int newCatchment, int newValue) {
            capacity = newCapacity;
            catchment = newCatchment;
            value = newValue;
            level = 0;
            opening = 0;
            automatic = false;
            threshold = 0;
            spilled = 0;
            floodedSteps = 0;
        }

        private void copyFrom(Basin other) {
            capacity = other.capacity;
            catchment = other.catchment;
            value = other.value;
            level = other.level;
            opening = other.opening;
            automatic = other.automatic;
            threshold = other.threshold;
            spilled = other.spilled;
            floodedSteps = other.floodedSteps;
        }

        private void moveAutomaticGate() {
            if (automatic) {
                int wanted = level > threshold ? (level - threshold) / EXCESS_PER_OPENING : 0;
                opening = wanted < MAX_OPENING ? wanted : MAX_OPENING;
            }
        }

        private int letOut() {
            int most = UNITS_PER_OPENING * opening;
            int flow = most < level ? most : level;
            level -= flow;
            return flow;
        }

        private int spillOver() {
            if (level <= capacity) {
                return 0;
            }
            int excess = level - capacity;
            level = capacity;
            spilled += excess;
            floodedSteps++;
            return excess;
        }
    }

    /** The whole state that undo, save and restore concern. */
    private static final class Chain {
        private final Basin[] basins = new Basin[MAX_BASINS];
        private int basinsInUse = 0;
        private final int[] forecast = new int[MAX_FORECAST];
        private int amountsInForecast = 0;
        private int time = 0;
        private long rained = 0;
        private long poured = 0;
        private long river = 0;

        private Chain() {
            for (int i = 0; i < basins.length; i++) {
                basins[i] = new Basin();
            }
        }

        private void copyFrom(Chain other) {
            basinsInUse = other.basinsInUse;
            for (int i = 0; i < basinsInUse; i++) {
                basins[i].copyFrom(other.basins[i]);
            }
            amountsInForecast = other.amountsInForecast;
            for (int i = 0; i < amountsInForecast; i++) {
                forecast[i] = other.forecast[i];
            }
            time = other.time;
            rained = other.rained;
            poured = other.poured;
            river = other.river;
        }

        private void copyWithOpening(Chain other, int basin, int opening) {
            copyFrom(other);
            if (hasBasin(basin)) {
                basins[basin].opening = opening;
            }
        }

        private boolean hasBasin(int index) {
            return index >= 0 && index < basinsInUse;
        }

        private Fault faultOf(Command command, int first, int second, int third) {
            switch (command) {
                case BASIN:
                    return faultOfNewBasin(first, second, third);
                case GATE:
                    return faultOfGate(first, second);
                case AUTO:
                    return faultAtBasin(first, second, 0, MAX_THRESHOLD);
                case HAND:
                    return faultOfHand(first);
                case RAIN:
                    return faultOfRain(first);
                case POUR:
                    return faultOfPour(first, second);
                case STEP:
                    return faultOfRange(first, 1, MAX_STEPS);
                default:
                    return Fault.NONE;
            }
        }

        private Fault faultOfNewBasin(int capacity, int catchment, int value) {
            if (capacity < MIN_CAPACITY || capacity > MAX_CAPACITY
                    || catchment < 0 || catchment > MAX_CATCHMENT
                    || value < 0 || value > MAX_VALUE) {
                return Fault.OUT_OF_RANGE;
            }
            return basinsInUse >= MAX_BASINS ? Fault.WRONG_STATE : Fault.NONE;
        }

        private Fault faultAtBasin(int basin, int number, int least, int greatest) {
            return hasBasin(basin) ? faultOfRange(number, least, greatest) : Fault.NO_BASIN;
        }

        private Fault faultOfGate(int basin, int opening) {
            Fault fault = faultAtBasin(basin, opening, 0, MAX_OPENING);
            if (fault != Fault.NONE) {
                return fault;
            }
            return basins[basin].automatic ? Fault.WRONG_STATE : Fault.NONE;
        }

        private Fault faultOfHand(int basin) {
            if (!hasBasin(basin)) {
                return Fault.NO_BASIN;
            }
            return basins[basin].automatic ? Fault.NONE : Fault.WRONG_STATE;
        }

        private Fault faultOfRain(int amount) {
            if (amount < 0 || amount > MAX_RAIN) {
                return Fault.OUT_OF_RANGE;
            }
            return amountsInForecast >= MAX_FORECAST ? Fault.WRONG_STATE : Fault.NONE;
        }

        private Fault faultOfPour(int basin, int units) {
            Fault fault = faultAtBasin(basin, units, 1, MAX_POUR);
            if (fault != Fault.NONE) {
                return fault;
            }
            Basin found = basins[basin];
            return found.level + units > found.capacity ? Fault.WRONG_STATE : Fault.NONE;
        }

        private Fault faultOfPrediction(int basin, int steps) {
            return faultAtBasin(basin, steps, 0, MAX_STEPS);
        }

        private Fault faultOfPlan(int basin, int steps) {
            Fault fault = faultAtBasin(basin, steps, 1, MAX_PLAN_STEPS);
            if (fault != Fault.NONE) {
                return fault;
            }
            return basins[basin].automatic ? Fault.WRONG_STATE : Fault.NONE;
        }

        /** Only for what faultOf finds no fault with. */
        private int carryOut(Command command, int first, int second, int third) {
            switch (command) {
                case BASIN:
                    return useNextBasin(first, second, third);
                case GATE:
                    return turnGate(first, second);
                case AUTO:
                    return makeAutomatic(first, second);
                case HAND:
                    return makeManual(first);
                case RAIN:
                    return expectRain(first);
                case POUR:
                    return pourInto(first, second);
                case STEP:
                    return passSteps(first);
                default:
                    return dropForecast();
            }
        }

        private int useNextBasin(int capacity, int catchment, int value) {
            int index = basinsInUse;
            basins[index].begin(capacity, catchment, value);
            basinsInUse++;
            return index;
        }

        private int turnGate(int basin, int opening) {
            int previous = basins[basin].opening;
            basins[basin].opening = opening;
            return previous;
        }

        private int makeAutomatic(int basin, int threshold) {
            basins[basin].automatic = true;
            basins[basin].threshold = threshold;
            return countAutomatic();
        }

        private int makeManual(int basin) {
            basins[basin].automatic = false;
            return countAutomatic();
        }

        private int countAutomatic() {
            int count = 0;
            for (int i = 0; i < basinsInUse; i++) {
                if (basins[i].automatic) {
                    count++;
                }
            }
            return count;
        }

        private int expectRain(int amount) {
            forecast[amountsInForecast] = amount;
            amountsInForecast++;
            return amountsInForecast;
        }

        private int dropForecast() {
            int sum = 0;
            for (int i = 0; i < amountsInForecast; i++) {
                sum += forecast[i];
            }
            amountsInForecast = 0;
            return sum;
        }

        private int pourInto(int basin, int units) {
            basins[basin].level += units;
            poured += units;
            return basins[basin].level;
        }

        private int passSteps(int steps) {
            int spill = 0;
            for (int i = 0; i < steps; i++) {
                spill += passStep();
            }
            return spill;
        }

        private int passStep() {
            time++;
            rainDown(takeRain());
            river += flowDown();
            int spill = 0;
            for (int i = 0; i < basinsInUse; i++) {
                spill += basins[i].spillOver();
            }
            return spill;
        }

        private int takeRain() {
            if (amountsInForecast == 0) {
                return 0;
            }
            int rain = forecast[0];
            amountsInForecast--;
            for (int i = 0; i < amountsInForecast; i++) {
                forecast[i] = forecast[i + 1];
            }
            return rain;
        }

        private void rainDown(int rain) {
            for (int i = 0; i < basinsInUse; i++) {
                int caught = rain * basins[i].catchment;
                basins[i].level += caught;
                rained += caught;
            }
        }

        /** A gate sees what the gate above it let out in the same step. */
        private int flowDown() {
            int flow = 0;
            for (int i = 0; i < basinsInUse; i++) {
                Basin basin = basins[i];
                basin.level += flow;
                basin.moveAutomaticGate();
                flow = basin.letOut();
            }
            return flow;
        }

        private int rankOf(int basin) {
            int rank = 0;
            for (int i = 0; i < basinsInUse; i++) {
                if (isRankedBefore(i, basin)) {
                    rank++;
                }
            }
            return rank;
        }

        /** Products instead of quotients, because these would have to be rounded. */
        private boolean isRankedBefore(int one, int other) {
            int fillOfOne = basins[one].level * basins[other].capacity;
            int fillOfOther = basins[other].level * basins[one].capacity;
            return fillOfOne > fillOfOther || fillOfOne == fillOfOther && one < other;
        }

        private boolean levelsFit() {
            for (int i = 0; i < basinsInUse; i++) {
                if (basins[i].level > basins[i].capacity) {
                    return false;
                }
            }
            return true;
        }

        private int sumOfLevels() {
            int sum = 0;
            for (int i = 0; i < basinsInUse; i++) {
                sum += basins[i].level;
            }
            return sum;
        }

        private int balanceOfAccounts() {
            long balance = rained + poured - river;
            for (int i = 0; i < basinsInUse; i++) {
                balance -= basins[i].spilled;
            }
            return (int) balance;
        }

        private int sumOfFloodedSteps() {
            int sum = 0;
            for (int i = 0; i < basinsInUse; i++) {
                sum += basins[i].floodedSteps;
            }
            return sum;
        }
    }

    /** The states before the most recent changing calls, in a ring. */
    private static final class History {
        private final Chain[] states = new Chain[MAX_UNDO];
        private int next = 0;
        private int count = 0;

        private History() {
            for (int i = 0; i < states.length; i++) {
                states[i] = new Chain();
            }
        }

        private void remember(Chain state) {
            states[next].copyFrom(state);
            next = (next + 1) % MAX_UNDO;
            count = Math.min(count + 1, MAX_UNDO);
        }

        /** Only while something is remembered. */
        private Chain takeLatest() {
            next = (next + MAX_UNDO - 1) % MAX_UNDO;
            count--;
            return states[next];
        }
    }

    /** The searches for plans; each number of steps that are left has a chain of its own. */
    private static final class PlanSearch {
        private final Chain[] tries = new Chain[MAX_PLAN_STEPS];

        private PlanSearch() {
            for (int i = 0; i < tries.length; i++) {
                tries[i] = new Chain();
            }
        }

        private int leastOfAll(Chain start, int basin, int steps) {
            return leastFrom(tries, start, basin, steps);
        }

        private int leastByCutting(Chain start, int basin, int steps) {
            return leastBelow(tries, start, basin, steps, 0, MORE_THAN_ANY_SPILL);
        }

        private int lowestFirstOpening(Chain start, int basin, int steps) {
            if (steps < 1 || steps > tries.length) {
                return 0;
            }
            Chain next = tries[steps - 1];
            int lowest = 0;
            int least = MORE_THAN_ANY_SPILL;
            for (int opening = 0; opening <= MAX_OPENING; opening++) {
                next.copyWithOpening(start, basin, opening);
                int spill = next.passStep() + leastFrom(tries, next, basin, steps - 1);
                if (spill < least) {
                    least = spill;
                    lowest = opening;
                }
            }
            return lowest;
        }

        private static int leastFrom(Chain[] tries, Chain from, int basin, int left) {
            if (left < 1 || left > tries.length) {
                return 0;
            }
            Chain next = tries[left - 1];
            int least = MORE_THAN_ANY_SPILL;
            for (int opening = 0; opening <= MAX_OPENING; opening++) {
                next.copyWithOpening(from, basin, opening);
                int spill = next.passStep() + leastFrom(tries, next, basin, left - 1);
                least = Math.min(least, spill);
            }
            return least;
        }

        /** Answers the bound if no plan that goes on from here stays below it. */
        private static int leastBelow(
                Chain[] tries, Chain from, int basin, int left, int spilledBefore, int bound) {
            if (left < 1 || left > tries.length) {
                return Math.min(spilledBefore, bound);
            }
            Chain next = tries[left - 1];
            int least = bound;
            for (int opening = 0; opening <= MAX_OPENING; opening++) {
                next.copyWithOpening(from, basin, opening);
                int spill = spilledBefore + next.passStep();
                if (spill < least) {
                    least = leastBelow(tries, next, basin, left - 1, spill, least);
                }
            }
            return least;
        }
    }

    /** The endangered basins, and what can be saved of them. */
    private static final class Protection {
        private final int[] bagsOf = new int[MAX_BASINS];
        private final int[] valueOf = new int[MAX_BASINS];
        private int count = 0;
        private final int[] bestWith = new int[MAX_BAGS + 1];

        private void include(int bags, int value) {
            if (count < MAX_BASINS) {
                bagsOf[count] = bags;
                valueOf[count] = value;
                count++;
            }
        }

        private int sumOfBags() {
            int sum = 0;
            for (int i = 0; i < count; i++) {
                sum += bagsOf[i];
            }
            return sum;
        }

        private int bestByTable(int bags) {
            for (int i = 0; i < bestWith.length; i++) {
                bestWith[i] = 0;
            }
            for (int i = 0; i < count; i++) {
                improveTable(bagsOf[i], valueOf[i]);
            }
            return bags >= 0 && bags < bestWith.length ? bestWith[bags] : 0;
        }

        /** Goes downward, so that the basin is counted once. */
        private void improveTable(int bags, int value) {
            for (int i = bestWith.length - 1; i >= bags; i--) {
                bestWith[i] = Math.max(bestWith[i], bestWith[i - bags] + value);
            }
        }

        private int bestBySets(int bags) {
            int best = 0;
            for (int set = 0; set < 1 << count; set++) {
                if (bagsOfSet(set) <= bags) {
                    best = Math.max(best, valueOfSet(set));
                }
            }
            return best;
        }

        private int bagsOfSet(int set) {
            int sum = 0;
            for (int i = 0; i < count; i++) {
                if ((set >> i & 1) == 1) {
                    sum += bagsOf[i];
                }
            }
            return sum;
        }

        private int valueOfSet(int set) {
            int sum = 0;
            for (int i = 0; i < count; i++) {
                if ((set >> i & 1) == 1) {
                    sum += valueOf[i];
                }
            }
            return sum;
        }
    }

    /**
     * The text buffer, read command by command. The commands begin with different letters and a
     * number is never followed by a digit, so reading needs no second look, and it stops at the
     * first character that cannot continue any program.
     */
    private static final class Program {
        private static final Command[] COMMANDS = Command.values();

        /** Not a StringBuilder, because any character can come in. */
        private final char[] text = new char[MAX_TEXT];
        private int length = 0;
        private int position = 0;
        private Command command = Command.CLEAR;
        private final int[] arguments = new int[MAX_ARGUMENTS];
        private int argumentCount = 0;

        private void take(char sign) {
            if (length < MAX_TEXT) {
                text[length] = sign;
                length++;
            }
        }

        /** Answers NONE if the text is not a program; then the position is where it errs. */
        private int countCommands() {
            position = 0;
            for (int count = 1; count <= MAX_TEXT; count++) {
                if (!readCommand()) {
                    return NONE;
                }
                if (position == length) {
                    return count;
                }
            }
            return NONE;
        }

        private boolean readCommand() {
            if (position > 0 && !readSign(';')) {
                return false;
            }
            Command next = commandAtPosition();
            if (next == null) {
                return false;
            }
            command = next;
            return readPattern(next.pattern);
        }

        private Command commandAtPosition() {
            if (position >= length) {
                return null;
            }
            for (int i = 0; i < COMMANDS.length; i++) {
                if (COMMANDS[i].pattern.charAt(0) == text[position]) {
                    return COMMANDS[i];
                }
            }
            return null;
        }

        private boolean readPattern(String pattern) {
            argumentCount = 0;
            for (int i = 0; i < pattern.length(); i++) {
                if (!readPart(pattern.charAt(i))) {
                    return false;
                }
            }
            return true;
        }

        private boolean readPart(char part) {
            if (part == 'D') {
                return readNumber(1);
            }
            if (part == 'N') {
                return readNumber(2);
            }
            return readSign(part);
        }

        private boolean readSign(char sign) {
            if (position >= length || text[position] != sign) {
                return false;
            }
            position++;
            return true;
        }

        private boolean readNumber(int mostDigits) {
            int number = 0;
            int digits = 0;
            while (digits < mostDigits && isAtDigit()) {
                number = 10 * number + (text[position] - '0');
                position++;
                digits++;
            }
            if (digits == 0 || argumentCount >= MAX_ARGUMENTS) {
                return false;
            }
            arguments[argumentCount] = number;
            argumentCount++;
            return true;
        }

        private boolean isAtDigit() {
            return position < length && text[position] >= '0' && text[position] <= '9';
        }
    }

    /** The output line. */
    private static final class Line {
        private final char[] signs = new char[MAX_LINE];
        private int length = 0;

        private void put(char sign) {
            if (length < MAX_LINE) {
                signs[length] = sign;
                length++;
            }
        }

        /** Two digits are enough for all that a line tells. */
        private void putNumber(int number) {
            if (number >= 10) {
                putDigit(number / 10);
            }
            putDigit(number % 10);
        }

        private void putDigit(int digit) {
            put((char) ('0' + digit));
        }
    }
}
