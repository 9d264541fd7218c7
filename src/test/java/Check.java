/** Compares answers with those that are due, and counts what is wrong. */
final class Check {
    /** A call that may throw. */
    interface Call {
        void make() throws Exception;
    }

    /** Far more than any test needs. */
    private static final long MOST_MILLISECONDS = 120_000;

    private static int checks = 0;
    private static int wrong = 0;
    private static String test = "";

    private Check() {
    }

    static {
        Thread watch = new Thread(Check::stopWhatDoesNotEnd);
        watch.setDaemon(true);
        watch.start();
    }

    /** A broken class can make a call go on for hours, and a test should fail by that too. */
    private static void stopWhatDoesNotEnd() {
        try {
            Thread.sleep(MOST_MILLISECONDS);
            System.out.println("WRONG " + test + "it does not end");
            Runtime.getRuntime().halt(1);
        } catch (InterruptedException e) {
            // Nothing interrupts this thread.
        }
    }

    /** From here on complaints name this test. */
    static void begin(String name) {
        test = name + ": ";
    }

    static int checks() {
        return checks;
    }

    /** For what goes wrong without an answer. */
    static void isWrong(String what) {
        checks++;
        complain(what);
    }

    static void same(String what, long due, long answered) {
        checks++;
        if (due != answered) {
            complain(what + ": due is " + due + ", answered " + answered);
        }
    }

    static void sameText(String what, String due, String answered) {
        checks++;
        if (!due.equals(answered)) {
            complain(what + ": due is \"" + due + "\", answered \"" + answered + "\"");
        }
    }

    static void sameDouble(String what, double due, double answered) {
        checks++;
        if (Double.compare(due, answered) != 0) {
            complain(what + ": due is " + due + ", answered " + answered);
        }
    }

    static void yes(String what, boolean answered) {
        checks++;
        if (!answered) {
            complain(what + ": due is true");
        }
    }

    static void no(String what, boolean answered) {
        checks++;
        if (answered) {
            complain(what + ": due is false");
        }
    }

    /** The very class is asked for, so that what the machine throws does not pass. */
    static void fails(String what, Class<? extends Exception> due, Call call) {
        checks++;
        try {
            call.make();
            complain(what + ": due is " + due.getSimpleName() + ", nothing was thrown");
        } catch (Exception e) {
            if (e.getClass() != due) {
                complain(what + ": due is " + due.getSimpleName() + ", thrown was " + e);
            }
        }
    }

    /** Besides the exception, compares all that the queries tell before and after the call. */
    static void failsUnchanged(
            String what, Class<? extends Exception> due, SluiceChain chain, Call call) {
        String before = Chains.stateOf(chain);
        fails(what, due, call);
        sameText(what + ", the state after it", before, Chains.stateOf(chain));
    }

    /** Ends the test with exit code 1 if an answer was wrong. */
    static void finish(String test) {
        System.out.println(test + ": " + checks + " checks, " + wrong + " wrong");
        if (wrong > 0 || checks == 0) {
            System.exit(1);
        }
    }

    private static void complain(String text) {
        wrong++;
        System.out.println("WRONG " + test + text);
    }
}
