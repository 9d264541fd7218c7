/** The boundary cases of the promises 40 to 43: programs. */
public final class EdgesOfPromises40To43Test {
    private EdgesOfPromises40To43Test() {
    }

    public static void main(String[] args) {
        Edges.runPromises(EdgesOfPromises40To43Test.class, 40, 43);
    }

    // ---- 40: append

    static void promise40FirstCharacterAnswers1() {
        Check.same("characters", 1, new SluiceChain().append('c'));
    }

    static void promise40TakesTheSixtiethCharacter() {
        SluiceChain chain = new SluiceChain();
        for (int i = 1; i <= 60; i++) {
            Check.same("characters", i, chain.append('x'));
        }
    }

    static void promise40RefusesTheSixtyFirstCharacter() {
        Edges.refused("a character", Edges.STATE, States::full, chain -> chain.append('9'));
        Edges.refused("a semicolon", Edges.STATE, States::full, chain -> chain.append(';'));
        Edges.refused("the last", Edges.STATE, States::full, chain -> chain.append('\uffff'));
    }

    static void promise40RefusedCharacterLeavesTheProgramAsItIs() {
        SluiceChain chain = States.full();
        Check.fails("61st", Edges.STATE, () -> chain.append('9'));
        Check.fails("61st again", Edges.STATE, () -> chain.append('9'));
        Check.same("commands", 10, chain.run());
        Check.same("time", 9, chain.time());
    }

    static void promise40TakesAnyCharacter() {
        char[] signs = {0, 1, 10, 32, 127, 128, 255, 256, 0x7fff, 0x8000, 0xd800, 0xffff};
        SluiceChain chain = new SluiceChain();
        for (int i = 0; i < signs.length; i++) {
            Check.same("characters", i + 1, chain.append(signs[i]));
        }
    }

    static void promise40CharacterOfAboveTheLettersIsNotALetter() {
        SluiceChain chain = new SluiceChain();
        Chains.type(chain, "step 1");
        chain.append((char) (';' + 256));
        Check.fails("no program", Edges.ARGUMENT, chain::run);
        Check.same("position", 6, chain.errorPosition());
    }

    static void promise40Takes60CharactersAgainAfterARun() {
        SluiceChain chain = States.full();
        chain.run();
        for (int i = 1; i <= 60; i++) {
            Check.same("characters", i, chain.append(';'));
        }
        Check.fails("61st", Edges.STATE, () -> chain.append(';'));
    }

    // ---- 41: run

    static void promise41EmptyTextIsNotAProgram() {
        SluiceChain chain = new SluiceChain();
        Check.fails("empty", Edges.ARGUMENT, chain::run);
        Check.same("position", 0, chain.errorPosition());
        Check.fails("again", Edges.ARGUMENT, chain::run);
    }

    static void promise41OneCommandAnswers1() {
        Check.same("commands", 1, Chains.run(new SluiceChain(), "clear"));
    }

    static void promise41TenCommandsIn60CharactersAnswer10() {
        SluiceChain chain = new SluiceChain();
        Check.same("commands", 10, Chains.run(chain, States.FULL_TEXT));
        Check.same("the last is carried out", 9, chain.time());
    }

    static void promise41CommandsAreCarriedOutInOrder() {
        SluiceChain chain = new SluiceChain();
        Check.same("commands", 6,
                Chains.run(chain, "basin 10 1 0;pour 0 9;rain 5;step 1;gate 0 1;step 1"));
        Check.same("9 + 5 - 10", 4, chain.spilled(0));
        Check.same("10 - 4", 6, chain.level(0));
    }

    static void promise41CommandsDependOnThoseBefore() {
        SluiceChain chain = new SluiceChain();
        Check.same("commands", 5,
                Chains.run(chain, "basin 10 0 0;auto 0 0;hand 0;gate 0 5;pour 0 10"));
        Chains.type(chain, "gate 0 1;auto 0 5;gate 0 1");
        Check.fails("the gate is automatic by then", Edges.FAILED, chain::run);
        Check.same("failed command", 2, chain.failedCommand());
        Check.same("nothing has an effect", 5, chain.opening(0));
    }

    static void promise41BufferIsEmptyAfterAProgram() {
        SluiceChain chain = new SluiceChain();
        Chains.run(chain, "step 1");
        Check.same("characters", 1, chain.append('s'));
    }

    static void promise41BufferIsEmptyAfterATextThatIsNoProgram() {
        SluiceChain chain = new SluiceChain();
        Chains.type(chain, "step 1;");
        Check.fails("no program", Edges.ARGUMENT, chain::run);
        Check.same("characters", 1, chain.append('s'));
    }

    static void promise41BufferIsEmptyAfterACommandThatFails() {
        SluiceChain chain = new SluiceChain();
        Chains.type(chain, "step 1;step 0");
        Check.fails("it fails", Edges.FAILED, chain::run);
        Check.same("characters", 1, chain.append('s'));
    }

    static void promise41EmptyBufferHoldsNothingOfTheLastText() {
        SluiceChain chain = new SluiceChain();
        Chains.run(chain, "step 19;step 2");
        Chains.type(chain, "step ");
        Check.fails("a part of it", Edges.ARGUMENT, chain::run);
        Check.same("position", 5, chain.errorPosition());
        Check.same("a shorter number", 1, Chains.run(chain, "step 1"));
        Check.same("time", 22, chain.time());
    }

    /** All but the text, the error position and the failed command is as it was. */
    private static void checkRefused(Class<? extends Exception> due, Edges.Maker maker) {
        SluiceChain chain = maker.make();
        Check.fails("run", due, chain::run);
        Check.sameText("what stays", Traces.kept(maker), Traces.kept(() -> {
            SluiceChain refused = maker.make();
            Check.fails("run", due, refused::run);
            return refused;
        }));
    }

    private static SluiceChain busyWith(String text) {
        SluiceChain chain = States.busy();
        Chains.type(chain, text);
        return chain;
    }

    static void promise41TextThatIsNoProgramChangesNothing() {
        checkRefused(Edges.ARGUMENT, States::empty);
        checkRefused(Edges.ARGUMENT, () -> busyWith(";"));
        checkRefused(Edges.ARGUMENT, () -> busyWith(";clear;pour 1 1;basin 10 1 1;step 1;ster"));
    }

    static void promise41FirstCommandFails() {
        SluiceChain chain = new SluiceChain();
        Chains.type(chain, "hand 0;clear");
        Check.fails("it fails", Edges.FAILED, chain::run);
        Check.same("failed command", 0, chain.failedCommand());
    }

    static void promise41LastCommandFails() {
        SluiceChain chain = new SluiceChain();
        Chains.type(chain, "clear;clear;clear;clear;clear;clear;clear;clear;clear;step 0");
        Check.fails("it fails", Edges.FAILED, chain::run);
        Check.same("failed command", 9, chain.failedCommand());
    }

    static void promise41FirstOfTwoCommandsThatFailIsStored() {
        SluiceChain chain = new SluiceChain();
        Chains.type(chain, "clear;hand 0;step 0");
        Check.fails("it fails", Edges.FAILED, chain::run);
        Check.same("failed command", 1, chain.failedCommand());
    }

    /** What the commands before it have done is taken back. */
    static void promise41CommandThatFailsChangesNothing() {
        checkRefused(Edges.FAILED, () -> busyWith(";hand 1;gate 1 5;gate 0 0;auto 0 1;step 0"));
        checkRefused(Edges.FAILED, () -> busyWith(";basin 10 3 1;clear;pour 2 10;step 4;hand 0"));
        checkRefused(Edges.FAILED, () -> busyWith(";rain 20;step 9;hand 1;hand 1"));
        checkRefused(Edges.FAILED, () -> {
            SluiceChain chain = new SluiceChain();
            Chains.type(chain, "basin 10 3 1;rain 20;step 1;hand 0");
            return chain;
        });
    }

    /** No place is free among the calls to undo, and none of them is lost. */
    static void promise41RefusedRunLeavesEightCallsToUndo() {
        checkRefused(Edges.ARGUMENT, () -> fullWith("basin 10 0 0;hand 4;step 5;stop"));
        checkRefused(Edges.FAILED, () -> fullWith("hand 4;step 5;clear;basin 10 0 0"));
        SluiceChain chain = fullWith("hand 0");
        Check.fails("it fails", Edges.FAILED, chain::run);
        Check.same("eight", 8, Chains.undoAll(chain));
    }

    private static SluiceChain fullWith(String text) {
        SluiceChain chain = States.full();
        chain.run();
        Chains.type(chain, text);
        return chain;
    }

    static void promise41GrammarComesBeforeCommandsThatFail() {
        SluiceChain chain = new SluiceChain();
        Chains.type(chain, "hand 0;step 0;x");
        Check.fails("no program", Edges.ARGUMENT, chain::run);
        Check.same("position", 14, chain.errorPosition());
        Check.fails("no command has failed", Edges.NONE, chain::failedCommand);
    }

    /** The last numbers that the methods take, and the first that they refuse, by programs. */
    static void promise41CommandsFailWhereTheirMethodsThrow() {
        checkCommand("basin 10 0 0", true);
        checkCommand("basin 9 0 0", false);
        checkCommand("basin 99 3 99", true);
        checkCommand("basin 99 4 99", false);
        checkCommand("gate 0 5", true);
        checkCommand("gate 0 6", false);
        checkCommand("gate 2 4", true);
        checkCommand("gate 3 4", false);
        checkCommand("gate 1 0", false);
        checkCommand("auto 2 99", true);
        checkCommand("auto 3 99", false);
        checkCommand("hand 1", true);
        checkCommand("hand 0", false);
        checkCommand("hand 3", false);
        checkCommand("rain 20", true);
        checkCommand("rain 21", false);
        checkCommand("pour 2 1", true);
        checkCommand("pour 3 1", false);
        checkCommand("pour 0 0", false);
        checkCommand("pour 0 50", true);
        checkCommand("pour 0 51", false);
        checkCommand("pour 1 10", true);
        checkCommand("pour 1 11", false);
        checkCommand("step 1", true);
        checkCommand("step 0", false);
        checkCommand("step 30", true);
        checkCommand("step 31", false);
    }

    private static void checkCommand(String text, boolean isTaken) {
        SluiceChain chain = new SluiceChain();
        chain.addBasin(99, 1, 1);
        chain.addBasin(10, 1, 1);
        chain.addBasin(50, 1, 1);
        chain.setAutomatic(1, 4);
        String before = Chains.stateOf(chain);
        Chains.type(chain, text);
        if (isTaken) {
            Check.same(text, 1, chain.run());
            Check.no(text + " has no effect", before.equals(Chains.stateOf(chain)));
        } else {
            Check.fails(text, Edges.FAILED, chain::run);
            Check.sameText(text + " is refused", before, Chains.stateOf(chain));
        }
    }

    static void promise41SixthBasinAndThirteenthAmountFail() {
        SluiceChain chain = States.full();
        chain.run();
        States.rain(chain, 12, 1);
        Chains.type(chain, "clear;rain 1");
        Check.same("there is room again", 2, chain.run());
        States.rain(chain, 11, 1);
        Chains.type(chain, "rain 1");
        Check.fails("a thirteenth", Edges.FAILED, chain::run);
        Chains.type(chain, "basin 10 0 0");
        Check.fails("a sixth", Edges.FAILED, chain::run);
    }

    static void promise41ProgramIsUndoneAtOnce() {
        SluiceChain chain = States.busy();
        String before = Chains.stateOf(chain);
        Chains.type(chain, ";hand 1;pour 1 1;step 1;clear");
        Check.same("commands", 6, chain.run());
        Check.same("what is left", 7, chain.undo());
        Check.sameText("undone", before, Chains.stateOf(chain));
    }

    // ---- 42: errorPosition

    static void promise42RefusedIfNoneWasStored() {
        Edges.refused("new", Edges.NONE, States::empty, SluiceChain::errorPosition);
        Edges.refused("after a program", Edges.NONE, () -> {
            SluiceChain chain = new SluiceChain();
            Chains.run(chain, "clear");
            return chain;
        }, SluiceChain::errorPosition);
        Edges.refused("after a command that failed", Edges.NONE, () -> {
            SluiceChain chain = new SluiceChain();
            Chains.type(chain, "step 0");
            Check.fails("it fails", Edges.FAILED, chain::run);
            return chain;
        }, SluiceChain::errorPosition);
        Edges.refused("after a text that is not run", Edges.NONE, () -> {
            SluiceChain chain = new SluiceChain();
            Chains.type(chain, "x");
            return chain;
        }, SluiceChain::errorPosition);
    }

    static void promise42PositionOf0IsStored() {
        SluiceChain chain = new SluiceChain();
        Chains.type(chain, "x");
        Check.fails("no program", Edges.ARGUMENT, chain::run);
        Check.same("position", 0, chain.errorPosition());
        Check.same("again", 0, chain.errorPosition());
    }

    static void promise42PositionOf60IsStored() {
        SluiceChain chain = new SluiceChain();
        Chains.type(chain, "clear;clear;clear;clear;clear;clear;clear;clear;clear;clear;");
        Check.fails("no program", Edges.ARGUMENT, chain::run);
        Check.same("position", 60, chain.errorPosition());
    }

    static void promise42LastPositionCounts() {
        SluiceChain chain = new SluiceChain();
        Chains.type(chain, "clear;x");
        Check.fails("no program", Edges.ARGUMENT, chain::run);
        Check.same("position", 6, chain.errorPosition());
        Check.fails("the empty text", Edges.ARGUMENT, chain::run);
        Check.same("position", 0, chain.errorPosition());
    }

    static void promise42PositionStaysAfterOtherRuns() {
        SluiceChain chain = new SluiceChain();
        Chains.type(chain, "clear;x");
        Check.fails("no program", Edges.ARGUMENT, chain::run);
        Chains.run(chain, "clear");
        Check.same("after a program", 6, chain.errorPosition());
        Chains.type(chain, "step 0");
        Check.fails("it fails", Edges.FAILED, chain::run);
        Check.same("after a command that failed", 6, chain.errorPosition());
    }

    // ---- 43: failedCommand

    static void promise43RefusedIfNoneWasStored() {
        Edges.refused("new", Edges.NONE, States::empty, SluiceChain::failedCommand);
        Edges.refused("after a program", Edges.NONE, () -> {
            SluiceChain chain = new SluiceChain();
            Chains.run(chain, "clear");
            return chain;
        }, SluiceChain::failedCommand);
        Edges.refused("after a text that is no program", Edges.NONE, () -> {
            SluiceChain chain = new SluiceChain();
            Chains.type(chain, "step 0;");
            Check.fails("no program", Edges.ARGUMENT, chain::run);
            return chain;
        }, SluiceChain::failedCommand);
        Edges.refused("after a call that was refused", Edges.NONE, () -> {
            SluiceChain chain = new SluiceChain();
            Check.fails("steps", Edges.ARGUMENT, () -> chain.advance(0));
            return chain;
        }, SluiceChain::failedCommand);
    }

    static void promise43CommandOf0IsStored() {
        SluiceChain chain = new SluiceChain();
        Chains.type(chain, "step 0");
        Check.fails("it fails", Edges.FAILED, chain::run);
        Check.same("command", 0, chain.failedCommand());
        Check.same("again", 0, chain.failedCommand());
    }

    static void promise43CommandOf9IsStored() {
        SluiceChain chain = new SluiceChain();
        Chains.type(chain, "clear;clear;clear;clear;clear;clear;clear;clear;clear;hand 0");
        Check.fails("it fails", Edges.FAILED, chain::run);
        Check.same("command", 9, chain.failedCommand());
    }

    static void promise43LastCommandCounts() {
        SluiceChain chain = new SluiceChain();
        Chains.type(chain, "clear;clear;step 0");
        Check.fails("it fails", Edges.FAILED, chain::run);
        Check.same("command", 2, chain.failedCommand());
        Chains.type(chain, "step 0");
        Check.fails("it fails", Edges.FAILED, chain::run);
        Check.same("command", 0, chain.failedCommand());
    }

    static void promise43CommandStaysAfterOtherRuns() {
        SluiceChain chain = new SluiceChain();
        Chains.type(chain, "clear;step 0");
        Check.fails("it fails", Edges.FAILED, chain::run);
        Chains.run(chain, "clear");
        Check.same("after a program", 1, chain.failedCommand());
        Check.fails("the empty text", Edges.ARGUMENT, chain::run);
        Check.same("after a text that is no program", 1, chain.failedCommand());
    }
}
