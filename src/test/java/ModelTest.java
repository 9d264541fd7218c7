import java.util.ArrayDeque;
import java.util.ArrayList;
import java.util.Deque;
import java.util.List;
import java.util.NoSuchElementException;

/**
 * Long runs of calls, compared with a second model that is written another way: its states are
 * never changed but replaced, its searches count through all plans, and its programs are told
 * from other texts by a search through the grammar. The runs come from a fixed row of numbers.
 */
public final class ModelTest {
    private static final int RUNS = 400;
    private static final int CALLS_OF_A_RUN = 512;
    private static final String SIGNS = "basin gate auto hand rain clear pour step 0123456789; ";

    private long numbers;
    private SluiceChain chain;
    private Model model;

    private ModelTest(int run) {
        numbers = 7919L * run + 13;
        chain = new SluiceChain();
        model = new Model();
    }

    public static void main(String[] args) {
        for (int run = 0; run < RUNS; run++) {
            new ModelTest(run).makeCalls(run);
        }
        Check.finish("ModelTest");
    }

    private int next(int bound) {
        numbers = numbers * 6364136223846793005L + 1442695040888963407L;
        return (int) ((numbers >>> 33) % bound);
    }

    /** Mostly within the range, now and then a little outside. */
    private int near(int least, int greatest) {
        return next(25) == 0 ? least - 1 + next(greatest - least + 3)
                : least + next(greatest - least + 1);
    }

    private int someBasin() {
        return near(0, Math.max(0, model.state.basins.size() - 1));
    }

    private void makeCalls(int run) {
        int calls = 0;
        while (calls < CALLS_OF_A_RUN - 62) {
            calls += next(3) == 0 ? ask(run) : next(6) == 0 ? runProgram(run) : change(run);
        }
    }

    private int change(int run) {
        int kind = next(14);
        String text;
        switch (kind) {
            case 0, 1 -> text = "basin " + near(10, 99) + " " + near(0, 3) + " " + near(0, 99);
            case 2, 3 -> text = "gate " + someBasin() + " " + near(0, 5);
            case 4 -> text = "auto " + someBasin() + " " + near(0, 99);
            case 5 -> text = "hand " + someBasin();
            case 6, 7 -> text = "rain " + near(0, 20);
            case 8 -> text = next(4) == 0 ? "clear" : "rain 20";
            case 9, 10 -> text = "pour " + someBasin() + " " + near(1, 50);
            case 11 -> text = next(8) == 0 ? "save" : "step 1";
            case 12 -> text = next(9) == 0 ? "restore" : "undo";
            default -> text = "step " + (next(5) == 0 ? near(1, 30) : near(1, 4));
        }
        compare(run, text, model.answer(text), answerOf(text));
        return 1;
    }

    private int ask(int run) {
        String basin = " " + someBasin();
        String plan = basin + " " + near(1, 3);
        String steps = " " + near(0, 30);
        String[] texts = {
            "basinCount", "capacity" + basin, "level" + basin, "catchment" + basin,
            "fieldValue" + basin, "opening" + basin, "isAutomatic" + basin, "threshold" + basin,
            "spilled" + basin, "floodedSteps" + basin, "basinAtRank" + basin, "time",
            "forecastLength", "rainAt " + near(0, 11), "stored", "storedByAccounts", "riverTotal",
            "meanFill", "floodShare", "levelAfter" + basin + steps, "spillOf" + basin + steps,
            "stepsUntilFlood", "leastSpill" + plan, "leastSpillByPruning" + plan,
            "bestOpening" + plan, "endangered" + steps,
            "bestProtection " + near(0, 99) + steps, "bestProtectionBySets " + near(0, 99) + steps,
            "bagsForAll" + steps, "isConsistent", "writeChain", "writeForecast",
            "outputAt " + near(0, 20), "errorPosition", "failedCommand",
        };
        String text = texts[next(texts.length)];
        compare(run, text, model.answer(text), answerOf(text));
        return 1;
    }

    private int runProgram(int run) {
        String text = next(3) == 0 ? wrongText() : program();
        for (int i = 0; i < text.length(); i++) {
            model.text.append(text.charAt(i));
            chain.append(text.charAt(i));
        }
        compare(run, "run of <" + text + ">", model.answer("run"), answerOf("run"));
        return text.length() + 1;
    }

    private String program() {
        StringBuilder text = new StringBuilder(command());
        for (int more = next(5); more > 0; more--) {
            String command = command();
            if (text.length() + command.length() < 60) {
                text.append(';').append(command);
            }
        }
        return text.toString();
    }

    private String command() {
        int basins = Math.max(1, model.state.basins.size());
        String basin = "" + next(next(10) == 0 ? 10 : basins);
        return switch (next(8)) {
            case 0 -> "basin " + (10 + next(90)) + " " + next(4) + " " + next(100);
            case 1 -> "gate " + basin + " " + next(6);
            case 2 -> "auto " + basin + " " + next(100);
            case 3 -> "hand " + basin;
            case 4 -> "rain " + next(21);
            case 5 -> "clear";
            case 6 -> "pour " + basin + " " + (1 + next(20));
            default -> "step " + (1 + next(5));
        };
    }

    private String wrongText() {
        StringBuilder text = new StringBuilder(program());
        int index = next(text.length());
        char sign = SIGNS.charAt(next(SIGNS.length()));
        switch (next(4)) {
            case 0 -> text.setLength(index);
            case 1 -> text.setCharAt(index, sign);
            case 2 -> text.deleteCharAt(index);
            default -> text.insert(index, sign);
        }
        return text.length() > 60 ? text.substring(0, 60) : text.toString();
    }

    private void compare(int run, String text, String due, String answered) {
        Check.sameText("run " + run + ", " + text, due, answered);
        Check.sameText("run " + run + ", state after " + text, model.state.tell(),
                Chains.stateOf(chain));
    }

    /** What the class answers to a call told as a text. */
    private String answerOf(String text) {
        String[] parts = text.split(" ");
        int a = parts.length > 1 ? Integer.parseInt(parts[1]) : 0;
        int b = parts.length > 2 ? Integer.parseInt(parts[2]) : 0;
        int c = parts.length > 3 ? Integer.parseInt(parts[3]) : 0;
        try {
            return "" + call(parts[0], a, b, c);
        } catch (RuntimeException e) {
            return e.getClass().getSimpleName();
        }
    }

    private Object call(String name, int a, int b, int c) {
        return switch (name) {
            case "basin" -> chain.addBasin(a, b, c);
            case "gate" -> chain.setGate(a, b);
            case "auto" -> chain.setAutomatic(a, b);
            case "hand" -> chain.setManual(a);
            case "rain" -> chain.addRain(a);
            case "clear" -> chain.clearForecast();
            case "pour" -> chain.pour(a, b);
            case "step" -> chain.advance(a);
            case "undo" -> chain.undo();
            case "run" -> chain.run();
            case "save" -> {
                chain.save();
                yield "";
            }
            case "restore" -> {
                chain.restore();
                yield "";
            }
            case "basinCount" -> chain.basinCount();
            case "capacity" -> chain.capacity(a);
            case "level" -> chain.level(a);
            case "catchment" -> chain.catchment(a);
            case "fieldValue" -> chain.fieldValue(a);
            case "opening" -> chain.opening(a);
            case "isAutomatic" -> chain.isAutomatic(a);
            case "threshold" -> chain.threshold(a);
            case "spilled" -> chain.spilled(a);
            case "floodedSteps" -> chain.floodedSteps(a);
            case "basinAtRank" -> chain.basinAtRank(a);
            default -> callMore(name, a, b);
        };
    }

    private Object callMore(String name, int a, int b) {
        return switch (name) {
            case "time" -> chain.time();
            case "forecastLength" -> chain.forecastLength();
            case "rainAt" -> chain.rainAt(a);
            case "stored" -> chain.stored();
            case "storedByAccounts" -> chain.storedByAccounts();
            case "riverTotal" -> chain.riverTotal();
            case "meanFill" -> chain.meanFill();
            case "floodShare" -> chain.floodShare();
            case "levelAfter" -> chain.levelAfter(a, b);
            case "spillOf" -> chain.spillOf(a, b);
            case "stepsUntilFlood" -> chain.stepsUntilFlood();
            case "leastSpill" -> chain.leastSpill(a, b);
            case "leastSpillByPruning" -> chain.leastSpillByPruning(a, b);
            case "bestOpening" -> chain.bestOpening(a, b);
            case "endangered" -> chain.endangered(a);
            case "bestProtection" -> chain.bestProtection(a, b);
            case "bestProtectionBySets" -> chain.bestProtectionBySets(a, b);
            case "bagsForAll" -> chain.bagsForAll(a);
            case "isConsistent" -> chain.isConsistent();
            case "writeChain" -> chain.writeChain();
            case "writeForecast" -> chain.writeForecast();
            case "outputAt" -> chain.outputAt(a);
            case "errorPosition" -> chain.errorPosition();
            case "failedCommand" -> chain.failedCommand();
            default -> "unknown call " + name;
        };
    }

    /** One basin as it is at one time; threshold -1 stands for a manual gate. */
    private record Pool(int capacity, int catchment, int value, int level, int opening,
            int threshold, int spilled, int floods) {
        Pool with(int newLevel, int newOpening, int newThreshold) {
            return new Pool(capacity, catchment, value, newLevel, newOpening, newThreshold,
                    spilled, floods);
        }

        Pool after(int newLevel, int newOpening) {
            int excess = Math.max(0, newLevel - capacity);
            return new Pool(capacity, catchment, value, newLevel - excess, newOpening, threshold,
                    spilled + excess, floods + (excess > 0 ? 1 : 0));
        }
    }

    /** A state that never changes. */
    private record State(List<Pool> basins, List<Integer> forecast, int time, long river) {
        State step(int chosenBasin, int chosenOpening) {
            int rain = forecast.isEmpty() ? 0 : forecast.get(0);
            List<Pool> later = new ArrayList<>();
            int flow = 0;
            for (int i = 0; i < basins.size(); i++) {
                Pool pool = basins.get(i);
                int level = pool.level() + rain * pool.catchment() + flow;
                int opening = i == chosenBasin ? chosenOpening : pool.opening();
                if (pool.threshold() >= 0) {
                    opening = 0;
                    while (opening < 5 && level - pool.threshold() >= 4 * (opening + 1)) {
                        opening++;
                    }
                }
                flow = 4 * opening > level ? level : 4 * opening;
                later.add(pool.after(level - flow, opening));
            }
            List<Integer> rest = forecast.subList(forecast.isEmpty() ? 0 : 1, forecast.size());
            return new State(later, List.copyOf(rest), time + 1, river + flow);
        }

        State steps(int count) {
            State state = this;
            for (int i = 0; i < count; i++) {
                state = state.step(-1, 0);
            }
            return state;
        }

        int spill() {
            return basins.stream().mapToInt(Pool::spilled).sum();
        }

        int stored() {
            return basins.stream().mapToInt(Pool::level).sum();
        }

        State withBasin(int index, Pool pool) {
            List<Pool> changed = new ArrayList<>(basins);
            changed.set(index, pool);
            return new State(changed, forecast, time, river);
        }

        State withForecast(List<Integer> changed) {
            return new State(basins, changed, time, river);
        }

        String tell() {
            StringBuilder text = new StringBuilder();
            text.append("time ").append(time).append(" stored ").append(stored());
            text.append(" accounts ").append(stored()).append(" river ").append(river);
            text.append(" forecast");
            forecast.forEach(amount -> text.append(' ').append(amount));
            for (Pool p : basins) {
                text.append(" [" + p.level() + " " + p.capacity() + " " + p.catchment() + " "
                        + p.value() + " " + p.opening() + " " + p.threshold() + " "
                        + p.spilled() + " " + p.floods() + "]");
            }
            return text.toString();
        }
    }

    /** Answers calls told as texts; an exception is told by its name. */
    private static final class Model {
        private static final String INDEX = IndexOutOfBoundsException.class.getSimpleName();
        private static final String ARGUMENT = IllegalArgumentException.class.getSimpleName();
        private static final String WRONG = IllegalStateException.class.getSimpleName();
        private static final String NONE = NoSuchElementException.class.getSimpleName();
        private static final String ARITHMETIC = ArithmeticException.class.getSimpleName();
        private static final String FAILED = UnsupportedOperationException.class.getSimpleName();
        private static final List<String> CHANGING =
                List.of("basin", "gate", "auto", "hand", "rain", "clear", "pour", "step");
        private static final String COMMAND = "basin \\d\\d? \\d \\d\\d?|gate \\d \\d"
                + "|auto \\d \\d\\d?|hand \\d|rain \\d\\d?|clear|pour \\d \\d\\d?|step \\d\\d?";
        private static final String PROGRAM = "(" + COMMAND + ")(;(" + COMMAND + "))*";

        private State state = new State(List.of(), List.of(), 0, 0);
        private State saved = null;
        private final Deque<State> undoable = new ArrayDeque<>();
        private final StringBuilder text = new StringBuilder();
        private String line = "";
        private String errorPosition = NONE;
        private String failedCommand = NONE;

        private String answer(String call) {
            String[] parts = call.split(" ");
            int[] n = new int[3];
            for (int i = 1; i < parts.length; i++) {
                n[i - 1] = Integer.parseInt(parts[i]);
            }
            if (CHANGING.contains(parts[0])) {
                State before = state;
                String answer = change(parts[0], n[0], n[1], n[2]);
                if (Character.isDigit(answer.charAt(0))) {
                    remember(before);
                }
                return answer;
            }
            return switch (parts[0]) {
                case "run" -> run();
                case "undo" -> undo();
                case "save" -> {
                    saved = state;
                    yield "";
                }
                case "restore" -> restore();
                case "writeChain" -> write(chainLine());
                case "writeForecast" -> write(forecastLine());
                case "outputAt" -> within(n[0], 0, line.length() - 1)
                        ? "" + line.charAt(n[0]) : INDEX;
                case "errorPosition" -> errorPosition;
                case "failedCommand" -> failedCommand;
                default -> ask(parts[0], n[0], n[1]);
            };
        }

        private void remember(State before) {
            undoable.addLast(before);
            if (undoable.size() > 8) {
                undoable.removeFirst();
            }
        }

        private String undo() {
            if (undoable.isEmpty()) {
                return WRONG;
            }
            state = undoable.removeLast();
            return "" + undoable.size();
        }

        private String restore() {
            if (saved == null) {
                return WRONG;
            }
            state = saved;
            undoable.clear();
            return "";
        }

        private String write(String newLine) {
            line = newLine;
            return "" + line.length();
        }

        private String chainLine() {
            List<String> parts = new ArrayList<>();
            for (Pool p : state.basins()) {
                String gate = p.threshold() < 0 ? "|" + p.opening()
                        : ":" + p.opening() + "~" + p.threshold();
                parts.add(p.level() + "/" + p.capacity() + gate);
            }
            return String.join(" ", parts);
        }

        private String forecastLine() {
            return state.forecast().toString().replaceAll("[\\[\\] ]", "");
        }

        private String run() {
            String program = text.toString();
            text.setLength(0);
            if (!program.matches(PROGRAM)) {
                errorPosition = "" + errorPositionOf(program);
                return ARGUMENT;
            }
            State before = state;
            String[] commands = program.split(";");
            for (int i = 0; i < commands.length; i++) {
                String[] parts = (commands[i] + " 0 0 0").split(" ");
                String answer =
                        change(parts[0], number(parts[1]), number(parts[2]), number(parts[3]));
                if (!Character.isDigit(answer.charAt(0))) {
                    state = before;
                    failedCommand = "" + i;
                    return FAILED;
                }
            }
            remember(before);
            return "" + commands.length;
        }

        private static int number(String digits) {
            return Integer.parseInt(digits);
        }

        /** The longest prefix that some end makes a program. */
        private static int errorPositionOf(String program) {
            int length = program.length();
            while (length > 0 && !canBecomeProgram(program.substring(0, length))) {
                length--;
            }
            return length;
        }

        private static boolean canBecomeProgram(String prefix) {
            if (prefix.endsWith(";")) {
                return prefix.substring(0, prefix.length() - 1).matches(PROGRAM);
            }
            int semicolon = prefix.lastIndexOf(';');
            if (semicolon >= 0 && !prefix.substring(0, semicolon).matches(PROGRAM)) {
                return false;
            }
            String last = prefix.substring(semicolon + 1);
            String[] ends = {
                "basin 1 1 1", "basin 11 1 1", "gate 1 1", "auto 1 1", "hand 1", "rain 1", "clear",
                "pour 1 1", "step 1",
            };
            for (String end : ends) {
                for (int from = 0; from <= end.length(); from++) {
                    if ((last + end.substring(from)).matches(COMMAND)) {
                        return true;
                    }
                }
            }
            return false;
        }

        private boolean isBasin(int index) {
            return index >= 0 && index < state.basins().size();
        }

        private static boolean within(int number, int least, int greatest) {
            return least <= number && number <= greatest;
        }

        private long automaticGates() {
            return state.basins().stream().filter(p -> p.threshold() >= 0).count();
        }

        private String change(String name, int a, int b, int c) {
            Pool pool = isBasin(a) ? state.basins().get(a) : null;
            switch (name) {
                case "basin":
                    return addBasin(a, b, c);
                case "gate":
                    if (pool == null) {
                        return INDEX;
                    }
                    if (!within(b, 0, 5)) {
                        return ARGUMENT;
                    }
                    if (pool.threshold() >= 0) {
                        return WRONG;
                    }
                    state = state.withBasin(a, pool.with(pool.level(), b, -1));
                    return "" + pool.opening();
                case "auto":
                    if (pool == null) {
                        return INDEX;
                    }
                    if (!within(b, 0, 99)) {
                        return ARGUMENT;
                    }
                    state = state.withBasin(a, pool.with(pool.level(), pool.opening(), b));
                    return "" + automaticGates();
                case "hand":
                    if (pool == null) {
                        return INDEX;
                    }
                    if (pool.threshold() < 0) {
                        return WRONG;
                    }
                    state = state.withBasin(a, pool.with(pool.level(), pool.opening(), -1));
                    return "" + automaticGates();
                case "pour":
                    if (pool == null) {
                        return INDEX;
                    }
                    if (!within(b, 1, 50)) {
                        return ARGUMENT;
                    }
                    if (pool.level() + b > pool.capacity()) {
                        return WRONG;
                    }
                    state = state.withBasin(a,
                            pool.with(pool.level() + b, pool.opening(), pool.threshold()));
                    return "" + (pool.level() + b);
                default:
                    return changeWater(name, a);
            }
        }

        private String addBasin(int capacity, int catchment, int value) {
            if (!within(capacity, 10, 99) || !within(catchment, 0, 3) || !within(value, 0, 99)) {
                return ARGUMENT;
            }
            if (state.basins().size() == 5) {
                return WRONG;
            }
            List<Pool> more = new ArrayList<>(state.basins());
            more.add(new Pool(capacity, catchment, value, 0, 0, -1, 0, 0));
            state = new State(more, state.forecast(), state.time(), state.river());
            return "" + (more.size() - 1);
        }

        private String changeWater(String name, int a) {
            List<Integer> forecast = new ArrayList<>(state.forecast());
            switch (name) {
                case "rain":
                    if (!within(a, 0, 20)) {
                        return ARGUMENT;
                    }
                    if (forecast.size() == 12) {
                        return WRONG;
                    }
                    forecast.add(a);
                    state = state.withForecast(forecast);
                    return "" + forecast.size();
                case "clear":
                    state = state.withForecast(List.of());
                    return "" + forecast.stream().mapToInt(Integer::intValue).sum();
                default:
                    if (!within(a, 1, 30)) {
                        return ARGUMENT;
                    }
                    int before = state.spill();
                    state = state.steps(a);
                    return "" + (state.spill() - before);
            }
        }

        private String ask(String name, int a, int b) {
            List<String> withBasin = List.of("capacity", "level", "catchment", "fieldValue",
                    "opening", "isAutomatic", "threshold", "spilled", "floodedSteps", "levelAfter",
                    "spillOf", "leastSpill", "leastSpillByPruning", "bestOpening");
            if (withBasin.contains(name)) {
                return isBasin(a) ? askBasin(name, state.basins().get(a), a, b) : INDEX;
            }
            return switch (name) {
                case "basinCount" -> "" + state.basins().size();
                case "basinAtRank" -> isBasin(a) ? "" + ranking().get(a) : NONE;
                case "time" -> "" + state.time();
                case "forecastLength" -> "" + state.forecast().size();
                case "rainAt" -> within(a, 0, state.forecast().size() - 1)
                        ? "" + state.forecast().get(a) : INDEX;
                case "stored", "storedByAccounts" -> "" + state.stored();
                case "riverTotal" -> "" + state.river();
                case "meanFill" -> meanFill();
                case "floodShare" -> floodShare();
                case "stepsUntilFlood" -> stepsUntilFlood();
                case "isConsistent" -> "true";
                default -> askProtection(name, a, b);
            };
        }

        private String askBasin(String name, Pool pool, int basin, int steps) {
            return switch (name) {
                case "capacity" -> "" + pool.capacity();
                case "level" -> "" + pool.level();
                case "catchment" -> "" + pool.catchment();
                case "fieldValue" -> "" + pool.value();
                case "opening" -> "" + pool.opening();
                case "isAutomatic" -> "" + (pool.threshold() >= 0);
                case "threshold" -> pool.threshold() >= 0 ? "" + pool.threshold() : NONE;
                case "spilled" -> "" + pool.spilled();
                case "floodedSteps" -> "" + pool.floods();
                case "levelAfter" -> !within(steps, 0, 30) ? ARGUMENT
                        : "" + state.steps(steps).basins().get(basin).level();
                case "spillOf" -> !within(steps, 0, 30) ? ARGUMENT
                        : "" + (state.steps(steps).basins().get(basin).spilled() - pool.spilled());
                default -> !within(steps, 1, 4) ? ARGUMENT : pool.threshold() >= 0 ? WRONG
                        : plan(basin, steps, name.equals("bestOpening"));
            };
        }

        /** Counts through all plans; the first opening is the highest digit of the count. */
        private String plan(int basin, int steps, boolean opening) {
            int plans = 1;
            for (int i = 0; i < steps; i++) {
                plans *= 6;
            }
            int least = Integer.MAX_VALUE;
            int best = -1;
            for (int plan = 0; plan < plans; plan++) {
                State later = state;
                for (int divisor = plans / 6; divisor > 0; divisor /= 6) {
                    later = later.step(basin, plan / divisor % 6);
                }
                if (later.spill() - state.spill() < least) {
                    least = later.spill() - state.spill();
                    best = plan / (plans / 6);
                }
            }
            return "" + (opening ? best : least);
        }

        private List<Integer> ranking() {
            List<Integer> ranks = new ArrayList<>();
            for (int i = 0; i < state.basins().size(); i++) {
                ranks.add(i);
            }
            // Different quotients differ by at least 1 / (99 * 98), far more than the limit below.
            ranks.sort((i, j) -> {
                Pool p = state.basins().get(i);
                Pool q = state.basins().get(j);
                double difference =
                        (double) q.level() / q.capacity() - (double) p.level() / p.capacity();
                return Math.abs(difference) < 1e-6 ? i - j : difference < 0 ? -1 : 1;
            });
            return ranks;
        }

        private String meanFill() {
            double sum = 0;
            for (Pool pool : state.basins()) {
                sum += (double) pool.level() / (double) pool.capacity();
            }
            int count = state.basins().size();
            return count == 0 ? ARITHMETIC : "" + sum / (double) count;
        }

        private String floodShare() {
            int floods = state.basins().stream().mapToInt(Pool::floods).sum();
            return state.time() == 0 ? ARITHMETIC : "" + (float) floods / (float) state.time();
        }

        private String stepsUntilFlood() {
            for (int steps = 1; steps <= 30; steps++) {
                if (state.steps(steps).spill() > state.spill()) {
                    return "" + steps;
                }
            }
            return NONE;
        }

        private String askProtection(String name, int a, int b) {
            boolean withBags = name.startsWith("bestProtection");
            int steps = withBags ? b : a;
            if (withBags && !within(a, 0, 99) || !within(steps, 0, 30)) {
                return ARGUMENT;
            }
            State later = state.steps(steps);
            int count = 0;
            int sum = 0;
            for (int i = 0; i < state.basins().size(); i++) {
                int bags = later.basins().get(i).spilled() - state.basins().get(i).spilled();
                count += bags > 0 ? 1 : 0;
                sum += bags;
            }
            return switch (name) {
                case "endangered" -> "" + count;
                case "bagsForAll" -> "" + sum;
                default -> "" + bestFrom(0, a, later);
            };
        }

        private int bestFrom(int basin, int bags, State later) {
            if (basin == state.basins().size()) {
                return 0;
            }
            Pool pool = state.basins().get(basin);
            int needed = later.basins().get(basin).spilled() - pool.spilled();
            int without = bestFrom(basin + 1, bags, later);
            if (needed == 0 || needed > bags) {
                return without;
            }
            return Math.max(without, pool.value() + bestFrom(basin + 1, bags - needed, later));
        }
    }
}
