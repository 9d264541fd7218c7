import java.util.NoSuchElementException;

/** Promises 40 to 46: programs and the output line. */
public final class ProgramsTest {
    private static final Class<IndexOutOfBoundsException> INDEX = IndexOutOfBoundsException.class;
    private static final Class<IllegalArgumentException> ARGUMENT = IllegalArgumentException.class;
    private static final Class<IllegalStateException> STATE = IllegalStateException.class;
    private static final Class<NoSuchElementException> NONE = NoSuchElementException.class;
    private static final Class<UnsupportedOperationException> FAILED =
            UnsupportedOperationException.class;

    private ProgramsTest() {
    }

    public static void main(String[] args) {
        append();
        everyCommand();
        numbersOfOneAndTwoDigits();
        manyCommands();
        errorPositions();
        shorterTexts();
        aWrongProgramChangesNothing();
        failingCommands();
        aFailingProgramChangesNothing();
        whatIsStoredStays();
        writeChain();
        writeForecast();
        outputAt();
        Check.finish("ProgramsTest");
    }

    private static void append() {
        SluiceChain chain = new SluiceChain();
        for (int i = 1; i <= 60; i++) {
            Check.same("characters", i, chain.append(i % 2 == 0 ? 'b' : (char) (1000 * i)));
        }
        Check.failsUnchanged("a full buffer", STATE, chain, () -> chain.append('b'));
        Check.fails("not a program", ARGUMENT, chain::run);
        Check.same("empty afterwards", 1, chain.append('\0'));
        Check.same("appending can't be undone", 0, Chains.undoAll(chain));
    }

    private static void everyCommand() {
        SluiceChain chain = new SluiceChain();
        Check.same("two basins", 2, Chains.run(chain, "basin 40 1 7;basin 25 3 99"));
        Check.same("capacity", 40, chain.capacity(0));
        Check.same("catchment", 3, chain.catchment(1));
        Check.same("value", 99, chain.fieldValue(1));
        Check.same("gates", 3, Chains.run(chain, "gate 0 5;auto 1 12;auto 0 3"));
        Check.same("opening", 5, chain.opening(0));
        Check.same("threshold", 12, chain.threshold(1));
        Check.same("by hand", 1, Chains.run(chain, "hand 0"));
        Check.no("manual", chain.isAutomatic(0));
        Check.yes("automatic", chain.isAutomatic(1));
        Check.same("rain", 3, Chains.run(chain, "rain 3;rain 0;rain 20"));
        Check.sameText("forecast", "3,0,20", Chains.forecastLine(chain));
        Check.same("water and time", 2, Chains.run(chain, "pour 0 11;step 2"));
        Check.same("time", 2, chain.time());
        Check.same("one amount is left", 1, chain.forecastLength());
        Check.sameText("14 flow on to 9, 8 flow out at once", "0/40|5 15/25:0~12",
                Chains.chainLine(chain));
        Check.same("clear", 1, Chains.run(chain, "clear"));
        Check.same("no forecast", 0, chain.forecastLength());
        Check.same("empty afterwards", 1, chain.append('c'));
    }

    private static void numbersOfOneAndTwoDigits() {
        SluiceChain chain = new SluiceChain();
        Check.same("leading zeros", 4, Chains.run(chain, "basin 99 0 05;rain 07;rain 00;step 01"));
        Check.same("value", 5, chain.fieldValue(0));
        Check.same("time", 1, chain.time());
        Check.same("rain", 0, chain.rainAt(0));
        Check.same("two digits", 2, Chains.run(chain, "step 30;pour 0 50"));
        Check.same("time", 31, chain.time());
        Check.same("level", 50, chain.level(0));
    }

    private static void manyCommands() {
        SluiceChain chain = new SluiceChain();
        String text = "clear;clear;clear;clear;clear;clear;clear;clear;clear;step 9";
        Check.same("length of the text", 60, text.length());
        Check.same("as many commands as fit", 10, Chains.run(chain, text));
        Check.same("time", 9, chain.time());
        Check.same("one call to undo", 1, Chains.undoAll(chain));
    }

    private static void errorPositions() {
        String[] texts = {
            "", "x", " step 5", ";step 5", "Step 5", "b", "ba", "bx", "basin", "basin ", "basin  1",
            "basin 1", "basin 10 ", "basin 100", "basin 10 x", "basin 10 1", "basin 10 12",
            "basin 10 1 ", "basin 10 1 123", "basin 10;", "basin x", "basin10",
            "gate 0", "gate 0 ", "gate 0 12", "gate 01 2", "gate ;", "auto 0 100", "auto 0", "autp",
            "hand", "hand ", "hand x", "hand 10", "rain -1", "rain 5;", "rain 5;;",
            "rain 5; rain 5",
            "rain 5 ", "rain", "clear ", "clearx", "clear;", "clear5", "cleax", "pour 0 5,",
            "pour 0  5", "step 5;step", "step 5;step ", "step 5;stop 5", "step 5;step 5;q",
            "step 555", "rain 5\n", "rain \u0663", "rain \uff15", "\uffff", "\0", "step 5\0",
            "s\u0174ep 5", "clear:clear", "rain /", "rain :", "rain 5/", "rain 5:",
        };
        int[] due = {
            0, 0, 0, 0, 0, 1, 2, 1, 5, 6, 6,
            7, 9, 8, 9, 10, 10,
            11, 13, 8, 6, 5,
            6, 7, 8, 6, 5, 9, 6, 3,
            4, 5, 5, 6, 5, 7, 7, 7,
            6, 4, 5, 5, 6, 5, 4, 8,
            7, 11, 12, 9, 14,
            7, 6, 5, 5, 0, 0, 6,
            1, 5, 5, 5, 6, 6,
        };
        Check.same("as many positions as texts", texts.length, due.length);
        for (int i = 0; i < texts.length; i++) {
            checkErrorPosition(texts[i], due[i]);
        }
        String full = "clear;clear;clear;clear;clear;clear;clear;clear;clear;clear;";
        checkErrorPosition(full, 60);
        checkErrorPosition(full.substring(0, 54) + "step ", 59);
    }

    private static void checkErrorPosition(String text, int due) {
        SluiceChain chain = new SluiceChain();
        Chains.type(chain, text);
        Check.failsUnchanged("text <" + text + ">", ARGUMENT, chain, chain::run);
        Check.same("error position of <" + text + ">", due, chain.errorPosition());
        Check.fails("a wrong text is not a failed command", NONE, chain::failedCommand);
        Check.same("the buffer after <" + text + ">", 1, chain.append('s'));
    }

    /** What an earlier text left behind is no part of the next one. */
    private static void shorterTexts() {
        SluiceChain chain = new SluiceChain();
        Chains.run(chain, "rain 19;step 12;clear");
        String[] texts = {"r", "rain", "rain ", "rain 1;", "rain 19;step", "rain 19;step 12;clea"};
        for (String text : texts) {
            Chains.type(chain, text);
            Check.fails("a part of an earlier text", ARGUMENT, chain::run);
            Check.same("position of <" + text + ">", text.length(), chain.errorPosition());
        }
        Check.same("a shorter number", 1, Chains.run(chain, "rain 1"));
        Check.same("is not the earlier one", 1, chain.rainAt(0));
    }

    private static void aWrongProgramChangesNothing() {
        SluiceChain chain = new SluiceChain();
        chain.addBasin(20, 1, 1);
        chain.addRain(3);
        Chains.type(chain, "pour 0 5;step 1;clear;basin 20 1 1;gat 0 1");
        Check.failsUnchanged("wrong at the end", ARGUMENT, chain, chain::run);
        Check.same("its position", 38, chain.errorPosition());
        Chains.type(chain, "step 0;ster");
        Check.failsUnchanged("a text that would fail too", ARGUMENT, chain, chain::run);
        Check.same("its position", 10, chain.errorPosition());
        Check.fails("nothing was carried out", NONE, chain::failedCommand);
        Check.same("calls that failed can't be undone", 2, Chains.undoAll(chain));
    }

    private static void failingCommands() {
        checkFailure("basin 9 0 0", 0);
        checkFailure("clear;basin 10 4 0", 1);
        checkFailure("gate 3 0", 0);
        checkFailure("gate 0 6", 0);
        checkFailure("clear;auto 0 0;gate 0 0", 2);
        checkFailure("auto 3 0", 0);
        checkFailure("clear;hand 0", 1);
        checkFailure("hand 9", 0);
        checkFailure("auto 1 1;hand 1;clear;hand 1", 3);
        checkFailure("rain 20;rain 21", 1);
        checkFailure("pour 3 1", 0);
        checkFailure("pour 0 0", 0);
        checkFailure("pour 2 51", 0);
        checkFailure("pour 0 5;pour 0 6", 1);
        checkFailure("step 0", 0);
        checkFailure("step 30;step 31", 1);
        checkFailure("rain 1;rain 1;rain 1;rain 1;rain 1;rain 1;rain 1;rain 1", 7);
        checkFailure("basin 10 0 0;basin 10 0 0;basin 10 0 0", 2);
    }

    /** The chain has three basins, the first with 10 units, and five amounts of rain. */
    private static SluiceChain prepared() {
        SluiceChain chain = new SluiceChain();
        chain.addBasin(10, 1, 1);
        chain.addBasin(20, 2, 1);
        chain.addBasin(99, 0, 1);
        for (int i = 0; i < 5; i++) {
            chain.addRain(i);
        }
        return chain;
    }

    private static void checkFailure(String text, int due) {
        SluiceChain chain = prepared();
        Chains.type(chain, text);
        Check.failsUnchanged("program <" + text + ">", FAILED, chain, chain::run);
        Check.same("failed command of <" + text + ">", due, chain.failedCommand());
        Check.fails("a failed command is not an error position", NONE, chain::errorPosition);
        Check.same("the buffer after <" + text + ">", 1, chain.append('s'));
        Check.same("what can be undone after <" + text + ">", 8, Chains.undoAll(chain));
    }

    private static void aFailingProgramChangesNothing() {
        SluiceChain chain = prepared();
        chain.setAutomatic(1, 5);
        Chains.type(chain, "step 3;clear;basin 20 1 1;auto 3 1;pour 3 9;gate 0 3;hand 0");
        Check.failsUnchanged("the last fails", FAILED, chain, chain::run);
        Check.same("the last", 6, chain.failedCommand());
        chain.undo();
        Check.no("the call before the program was undone", chain.isAutomatic(1));
        Check.same("a basin starts anew", 3, chain.addBasin(30, 0, 0));
        Check.same("the gate of a new basin", 0, chain.opening(3));
    }

    private static void whatIsStoredStays() {
        SluiceChain chain = new SluiceChain();
        Chains.type(chain, "step 1;x");
        Check.fails("wrong", ARGUMENT, chain::run);
        Chains.type(chain, "step 1;step 0");
        Check.fails("failing", FAILED, chain::run);
        chain.save();
        Check.same("a good one", 1, Chains.run(chain, "step 1"));
        Check.same("error position", 7, chain.errorPosition());
        Check.same("failed command", 1, chain.failedCommand());
        chain.undo();
        chain.restore();
        Check.same("error position after undo and restore", 7, chain.errorPosition());
        Check.same("failed command after undo and restore", 1, chain.failedCommand());
        Chains.type(chain, "y");
        Check.fails("wrong", ARGUMENT, chain::run);
        Check.same("the last error position", 0, chain.errorPosition());
        Check.same("failed command", 1, chain.failedCommand());
        Chains.type(chain, "hand 0");
        Check.fails("failing", FAILED, chain::run);
        Check.same("the last failed command", 0, chain.failedCommand());
        Check.same("error position", 0, chain.errorPosition());
    }

    private static void writeChain() {
        SluiceChain chain = new SluiceChain();
        Check.same("no basins", 0, chain.writeChain());
        chain.addBasin(40, 0, 0);
        Check.sameText("one basin", "0/40|0", Chains.chainLine(chain));
        chain.addBasin(40, 0, 0);
        chain.addBasin(10, 0, 0);
        chain.pour(0, 12);
        chain.setGate(0, 3);
        chain.pour(1, 40);
        chain.setGate(1, 2);
        chain.setAutomatic(1, 30);
        Check.sameText("the example", "12/40|3 40/40:2~30 0/10|0", Chains.chainLine(chain));
        chain.setAutomatic(1, 5);
        Check.sameText("a threshold of one digit", "12/40|3 40/40:2~5 0/10|0",
                Chains.chainLine(chain));
        Check.same("a line does not change the chain", 52, chain.stored());
        Check.sameText("the longest line",
                "99/99:5~99 99/99:5~99 99/99:5~99 99/99:5~99 99/99:5~99", longestLine());
    }

    private static String longestLine() {
        SluiceChain chain = new SluiceChain();
        for (int i = 0; i < 5; i++) {
            chain.addBasin(99, 0, 0);
            chain.pour(i, 50);
            chain.pour(i, 49);
            chain.setGate(i, 5);
            chain.setAutomatic(i, 99);
        }
        return Chains.chainLine(chain);
    }

    private static void writeForecast() {
        SluiceChain chain = new SluiceChain();
        Check.same("no forecast", 0, chain.writeForecast());
        chain.addRain(5);
        Check.sameText("one amount", "5", Chains.forecastLine(chain));
        chain.addRain(0);
        chain.addRain(12);
        Check.sameText("the example", "5,0,12", Chains.forecastLine(chain));
        chain.advance(1);
        Check.sameText("after a step", "0,12", Chains.forecastLine(chain));
        for (int i = 0; i < 10; i++) {
            chain.addRain(20);
        }
        Check.sameText("the longest", "0,12,20,20,20,20,20,20,20,20,20,20",
                Chains.forecastLine(chain));
        chain.clearForecast();
        Check.same("cleared", 0, chain.writeForecast());
    }

    private static void outputAt() {
        SluiceChain chain = new SluiceChain();
        for (int index : new int[] {0, -1, 1, Integer.MIN_VALUE, Integer.MAX_VALUE}) {
            Check.fails("an empty line", INDEX, () -> chain.outputAt(index));
        }
        chain.addRain(10);
        chain.addBasin(25, 0, 0);
        chain.writeChain();
        for (int index : new int[] {-1, 6, 7, 60, Integer.MIN_VALUE, Integer.MAX_VALUE}) {
            Check.fails("no such character", INDEX, () -> chain.outputAt(index));
        }
        Check.same("the last character", '0', chain.outputAt(5));
        chain.save();
        chain.setGate(0, 4);
        chain.undo();
        Chains.run(chain, "step 1");
        chain.restore();
        Check.sameText("the line stays", "0/25|0", Chains.line(chain, 6));
        chain.writeForecast();
        Check.sameText("the line is replaced", "10", Chains.line(chain, 2));
        Check.fails("nothing of the old line is left", INDEX, () -> chain.outputAt(2));
    }
}
