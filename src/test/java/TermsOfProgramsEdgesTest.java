import java.util.regex.Matcher;
import java.util.regex.Pattern;

/** The boundary cases of what the section "Terms" says of programs. */
public final class TermsOfProgramsEdgesTest {
    private static final String COMMAND = "(?:basin [0-9][0-9]? [0-9] [0-9][0-9]?|gate [0-9] [0-9]"
            + "|auto [0-9] [0-9][0-9]?|hand [0-9]|rain [0-9][0-9]?|clear|pour [0-9] [0-9][0-9]?"
            + "|step [0-9][0-9]?)";
    private static final Pattern PROGRAM = Pattern.compile(COMMAND + "(?:;" + COMMAND + ")*");
    private static final String[] SAMPLES = {
        "basin 10 3 99", "basin 9 0 5", "gate 0 5", "auto 4 99", "auto 0 7", "hand 3", "rain 20",
        "rain 0", "clear", "pour 1 50", "pour 0 9", "step 30", "step 1", "clear;rain 4;clear",
        "step 12;basin 77 1 0;hand 9",
    };

    private TermsOfProgramsEdgesTest() {
    }

    public static void main(String[] args) {
        Edges.runTerms(TermsOfProgramsEdgesTest.class);
    }

    // ---- the text buffer

    static void termsTextHolds60Characters() {
        SluiceChain chain = new SluiceChain();
        Chains.type(chain, States.FULL_TEXT.substring(0, 59));
        Check.same("the 60th", 60, chain.append('9'));
        Check.fails("the 61st", Edges.STATE, () -> chain.append(';'));
        Check.same("all 60 are run", 10, chain.run());
        Check.same("the last is not lost", 9, chain.time());
    }

    // ---- the commands, each with its shortest and its longest text

    static void termsBasinTakesCapacityCatchmentAndValue() {
        SluiceChain chain = new SluiceChain();
        Check.same("short", 1, Chains.run(chain, "basin 12 3 4"));
        Check.same("long", 1, Chains.run(chain, "basin 99 0 98"));
        Check.same("capacity", 12, chain.capacity(0));
        Check.same("catchment", 3, chain.catchment(0));
        Check.same("value", 4, chain.fieldValue(0));
        Check.same("capacity", 99, chain.capacity(1));
        Check.same("catchment", 0, chain.catchment(1));
        Check.same("value", 98, chain.fieldValue(1));
    }

    static void termsBasinWithACapacityOfOneDigitIsAProgramThatFails() {
        checkFails("basin 9 0 0");
        checkFails("basin 0 0 0");
        checkFails("basin 09 0 0");
    }

    static void termsGateTakesBasinAndOpening() {
        SluiceChain chain = States.basins(5);
        Check.same("commands", 2, Chains.run(chain, "gate 4 5;gate 0 1"));
        Check.same("last", 5, chain.opening(4));
        Check.same("first", 1, chain.opening(0));
    }

    static void termsAutoTakesBasinAndThreshold() {
        SluiceChain chain = States.basins(5);
        Check.same("commands", 2, Chains.run(chain, "auto 4 99;auto 0 0"));
        Check.same("last", 99, chain.threshold(4));
        Check.same("first", 0, chain.threshold(0));
    }

    static void termsHandTakesBasin() {
        SluiceChain chain = States.basins(5);
        chain.setAutomatic(4, 1);
        chain.setAutomatic(0, 1);
        Check.same("commands", 2, Chains.run(chain, "hand 4;hand 0"));
        Check.no("last", chain.isAutomatic(4));
        Check.no("first", chain.isAutomatic(0));
    }

    static void termsRainTakesAmount() {
        SluiceChain chain = new SluiceChain();
        Check.same("commands", 4, Chains.run(chain, "rain 0;rain 20;rain 9;rain 10"));
        Check.sameText("forecast", "0,20,9,10", Chains.forecastLine(chain));
    }

    static void termsClearTakesNothing() {
        SluiceChain chain = States.full();
        Check.fails("the text of before", Edges.STATE, () -> chain.append('c'));
        chain.run();
        Check.same("commands", 1, Chains.run(chain, "clear"));
        Check.same("forecast", 0, chain.forecastLength());
    }

    static void termsPourTakesBasinAndUnits() {
        SluiceChain chain = States.basins(5);
        Check.same("commands", 3, Chains.run(chain, "pour 4 50;pour 0 1;pour 0 10"));
        Check.same("last", 50, chain.level(4));
        Check.same("first", 11, chain.level(0));
    }

    static void termsStepTakesSteps() {
        SluiceChain chain = new SluiceChain();
        Check.same("commands", 3, Chains.run(chain, "step 1;step 30;step 10"));
        Check.same("time", 41, chain.time());
    }

    static void termsNumberCanBeginWith0() {
        SluiceChain chain = new SluiceChain();
        Check.same("commands", 4, Chains.run(chain, "basin 10 0 00;pour 0 09;rain 01;step 01"));
        Check.same("value", 0, chain.fieldValue(0));
        Check.same("level", 9, chain.level(0));
        Check.same("time", 1, chain.time());
    }

    static void termsDigitsFrom0To9() {
        SluiceChain chain = new SluiceChain();
        int sum = 0;
        for (int digit = 1; digit <= 9; digit++) {
            Check.same("one digit", 1, Chains.run(chain, "step " + digit));
            Check.same("two digits", 1, Chains.run(chain, "step 1" + digit));
            sum += digit + 10 + digit;
            Check.same("time", sum, chain.time());
        }
        for (int basin = 0; basin <= 9; basin++) {
            checkFails("hand " + basin);
        }
    }

    private static void checkFails(String text) {
        SluiceChain chain = new SluiceChain();
        Chains.type(chain, text);
        Check.fails(text, Edges.FAILED, chain::run);
        Check.same(text, 0, chain.failedCommand());
    }

    // ---- the error position

    static void termsErrorPositionOfTheEmptyText() {
        checkPosition("", 0);
    }

    static void termsErrorPositionOfAFirstCharacter() {
        checkPosition("x", 0);
        checkPosition(" ", 0);
        checkPosition(";", 0);
        checkPosition("0", 0);
        checkPosition("S", 0);
    }

    static void termsErrorPositionOfAProperPrefixIsItsLength() {
        for (String sample : SAMPLES) {
            for (int length = 0; length < sample.length(); length++) {
                String text = sample.substring(0, length);
                if (!isProgram(text)) {
                    checkPosition(text, length);
                }
            }
            checkPosition(sample + ";", sample.length() + 1);
        }
    }

    static void termsErrorPositionOfAPrefixOf60CharactersIs60() {
        String text = "clear;clear;clear;clear;clear;clear;clear;clear;clear;clear;";
        checkPosition(text, 60);
        checkPosition(text.substring(0, 54) + "hand ;", 59);
        checkPosition(text.substring(0, 54) + "gate 1", 60);
    }

    static void termsErrorPositionOfAThirdDigit() {
        checkPosition("basin 100 1 1", 8);
        checkPosition("basin 10 1 100", 13);
        checkPosition("auto 0 100", 9);
        checkPosition("rain 100", 7);
        checkPosition("pour 0 100", 9);
        checkPosition("step 100", 7);
    }

    static void termsErrorPositionOfASecondDigitWhereOneIsDue() {
        checkPosition("basin 10 10 1", 10);
        checkPosition("gate 00 1", 6);
        checkPosition("gate 0 01", 8);
        checkPosition("auto 00 1", 6);
        checkPosition("hand 00", 6);
        checkPosition("pour 00 1", 6);
    }

    static void termsErrorPositionWhereANumberIsMissing() {
        checkPosition("basin  1 1", 6);
        checkPosition("basin 10 1 ;", 11);
        checkPosition("gate 1 ;", 7);
        checkPosition("rain ;", 5);
        checkPosition("step -1", 5);
        checkPosition("rain +1", 5);
    }

    static void termsErrorPositionOfMoreThanACommand() {
        checkPosition("clear ", 5);
        checkPosition("clear0", 5);
        checkPosition("clearclear", 5);
        checkPosition("hand 1 ", 6);
        checkPosition("rain 1 2", 6);
        checkPosition("gate 1 2 3", 8);
    }

    static void termsErrorPositionOfSemicolons() {
        checkPosition(";clear", 0);
        checkPosition("clear;;clear", 6);
        checkPosition("clear;", 6);
        checkPosition("clear; clear", 6);
        checkPosition("clear ;clear", 5);
        checkPosition("clear:clear", 5);
    }

    static void termsErrorPositionIsThatOfTheFirstError() {
        checkPosition("step 1;stop 1;x", 9);
        checkPosition("stex 1;stop 1;x", 3);
        checkPosition("step 1;step 1;x", 14);
    }

    /** Numbers that no method takes are a program all the same. */
    static void termsErrorPositionIsNoneForNumbersThatFail() {
        for (String text : new String[] {"gate 9 9", "rain 99", "step 99", "pour 9 99"}) {
            SluiceChain chain = new SluiceChain();
            Chains.type(chain, text);
            Check.fails(text, Edges.FAILED, chain::run);
            Check.fails(text + ", error position", Edges.NONE, chain::errorPosition);
        }
    }

    /** The characters beside the digits and the letters, and those that only look like them. */
    static void termsErrorPositionOfForeignCharacters() {
        checkPosition("step /", 5);
        checkPosition("step :", 5);
        checkPosition("step 1/", 6);
        checkPosition("step 1:", 6);
        checkPosition("step \u0661", 5);
        checkPosition("step \uff11", 5);
        checkPosition("step \u0131", 5);
        checkPosition("step 1\u0131", 6);
        checkPosition("\u0173tep 1", 0);
        checkPosition("s\u0174ep 1", 1);
        checkPosition("step\u00a01", 4);
        checkPosition("step\t1", 4);
        checkPosition("step 1\u013bclear", 6);
        checkPosition("\0", 0);
        checkPosition("\uffff", 0);
        checkPosition("step 1\0", 6);
        checkPosition("step 1\n", 6);
    }

    /** Each character from 0 to 400 in the place of each character of a program, and after it. */
    static void termsErrorPositionOfEachCharacterAtEachPosition() {
        for (String sample : SAMPLES) {
            for (int index = 0; index <= sample.length(); index++) {
                for (char sign = 0; sign <= 400; sign++) {
                    String rest = index < sample.length() ? sample.substring(index + 1) : "";
                    checkByPattern(sample.substring(0, index) + sign + rest);
                }
            }
        }
    }

    static void termsErrorPositionWhereACharacterIsMissingOrTwice() {
        for (String sample : SAMPLES) {
            for (int index = 0; index < sample.length(); index++) {
                checkByPattern(sample.substring(0, index) + sample.substring(index + 1));
                checkByPattern(sample.substring(0, index + 1) + sample.substring(index));
            }
        }
    }

    private static boolean isProgram(String text) {
        return PROGRAM.matcher(text).matches();
    }

    /** Whether characters can follow so that the text becomes a program, or it is one already. */
    private static boolean canContinue(String text) {
        Matcher matcher = PROGRAM.matcher(text);
        return matcher.matches() || matcher.hitEnd();
    }

    private static void checkByPattern(String text) {
        int due = 0;
        while (due < text.length() && canContinue(text.substring(0, due + 1))) {
            due++;
        }
        if (!isProgram(text)) {
            checkPosition(text, due);
            return;
        }
        SluiceChain chain = new SluiceChain();
        Chains.type(chain, text);
        try {
            chain.run();
        } catch (UnsupportedOperationException e) {
            Check.yes(text + ", failed command", chain.failedCommand() >= 0);
        }
        Check.fails(text + ", error position", Edges.NONE, chain::errorPosition);
    }

    private static void checkPosition(String text, int due) {
        SluiceChain chain = new SluiceChain();
        Chains.type(chain, text);
        Check.fails("<" + text + ">", Edges.ARGUMENT, chain::run);
        Check.same("error position of <" + text + ">", due, chain.errorPosition());
        Check.fails("failed command of <" + text + ">", Edges.NONE, chain::failedCommand);
    }
}
