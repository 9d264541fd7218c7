import java.lang.reflect.InvocationTargetException;
import java.lang.reflect.Method;
import java.lang.reflect.Modifier;
import java.util.ArrayList;
import java.util.Comparator;
import java.util.List;
import java.util.Set;
import java.util.TreeSet;

/**
 * Runs tests of boundary cases. Each is a method of its own, named after the promise whose
 * sentence it tests ("promise2..."), or after the terms ("terms...").
 */
final class Edges {
    /** Makes a new object in one and the same state each time. */
    interface Maker {
        SluiceChain make();
    }

    /** A call of the face. */
    interface Call {
        void on(SluiceChain chain);
    }

    static final Class<IndexOutOfBoundsException> INDEX = IndexOutOfBoundsException.class;
    static final Class<IllegalArgumentException> ARGUMENT = IllegalArgumentException.class;
    static final Class<IllegalStateException> STATE = IllegalStateException.class;
    static final Class<java.util.NoSuchElementException> NONE =
            java.util.NoSuchElementException.class;
    static final Class<ArithmeticException> ARITHMETIC = ArithmeticException.class;
    static final Class<UnsupportedOperationException> FAILED = UnsupportedOperationException.class;

    private Edges() {
    }

    /** Runs the tests of the terms; each of them must check something. */
    static void runTerms(Class<?> tests) {
        run(tests, new TreeSet<>(Set.of("terms")));
    }

    /** Runs the tests of these promises; a promise without a test is wrong. */
    static void runPromises(Class<?> tests, int first, int last) {
        Set<String> due = new TreeSet<>();
        for (int promise = first; promise <= last; promise++) {
            due.add("promise" + promise);
        }
        run(tests, due);
    }

    private static void run(Class<?> tests, Set<String> due) {
        Set<String> missing = new TreeSet<>(due);
        for (Method method : testsOf(tests)) {
            String subject = method.getName().replaceFirst("^(promise\\d+|terms)[A-Z]\\w*$", "$1");
            if (!due.contains(subject)) {
                Check.isWrong(method.getName() + " is not named after what stands here");
            }
            missing.remove(subject);
            runOne(method);
        }
        Check.begin(tests.getName());
        Check.sameText("what has no test", "[]", missing.toString());
        Check.finish(tests.getName());
    }

    private static List<Method> testsOf(Class<?> tests) {
        List<Method> found = new ArrayList<>();
        for (Method method : tests.getDeclaredMethods()) {
            boolean isTest = !Modifier.isPrivate(method.getModifiers()) && !method.isSynthetic()
                    && method.getParameterCount() == 0;
            if (isTest) {
                found.add(method);
            }
        }
        found.sort(Comparator.comparing(Method::getName));
        return found;
    }

    private static void runOne(Method method) {
        Check.begin(method.getName());
        int before = Check.checks();
        try {
            method.invoke(null);
        } catch (InvocationTargetException e) {
            Check.isWrong("thrown was " + e.getCause());
        } catch (IllegalAccessException e) {
            Check.isWrong("can't be run");
        }
        if (Check.checks() == before) {
            Check.isWrong("checks nothing");
        }
    }

    /** The call is refused with this very exception, and nothing at all changes. */
    static void refused(String what, Class<? extends Exception> due, Maker maker, Call call) {
        SluiceChain chain = maker.make();
        Check.fails(what, due, () -> call.on(chain));
        Check.sameText(what + ", what can be told after it", Traces.of(maker),
                Traces.of(() -> after(maker, call)));
    }

    /** The call is refused on an empty, on a busy and on a full object. */
    static void refusedEverywhere(String what, Class<? extends Exception> due, Call call) {
        refused(what + " (empty)", due, States::empty, call);
        refused(what + " (busy)", due, States::busy, call);
        refused(what + " (full)", due, States::full, call);
    }

    private static SluiceChain after(Maker maker, Call call) {
        SluiceChain chain = maker.make();
        try {
            call.on(chain);
        } catch (RuntimeException e) {
            // Which exception it is has been checked before.
        }
        return chain;
    }

    /** The first numbers outside the range, and some that come into it if they are cut short. */
    static int[] outside(int least, int greatest) {
        return new int[] {
            least - 1, greatest + 1, least - 256, least + 256, least - 65536, greatest + 65536,
            Integer.MIN_VALUE, Integer.MIN_VALUE + least, Integer.MAX_VALUE,
        };
    }
}
