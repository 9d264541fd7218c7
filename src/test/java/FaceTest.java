import java.lang.reflect.Constructor;
import java.lang.reflect.Field;
import java.lang.reflect.Method;
import java.lang.reflect.Modifier;
import java.util.Arrays;
import java.util.Set;
import java.util.TreeSet;

/** The face of the class, and that nothing else of it can be seen from outside. */
public final class FaceTest {
    private static final String[] FACE = {
        "int addBasin(int, int, int) throws IllegalArgumentException, IllegalStateException",
        "int setGate(int, int) throws IndexOutOfBoundsException, IllegalArgumentException,"
                + " IllegalStateException",
        "int setAutomatic(int, int) throws IndexOutOfBoundsException, IllegalArgumentException",
        "int setManual(int) throws IndexOutOfBoundsException, IllegalStateException",
        "int addRain(int) throws IllegalArgumentException, IllegalStateException",
        "int clearForecast()",
        "int pour(int, int) throws IndexOutOfBoundsException, IllegalArgumentException,"
                + " IllegalStateException",
        "int advance(int) throws IllegalArgumentException",
        "int basinCount()",
        "int capacity(int) throws IndexOutOfBoundsException",
        "int level(int) throws IndexOutOfBoundsException",
        "int catchment(int) throws IndexOutOfBoundsException",
        "int fieldValue(int) throws IndexOutOfBoundsException",
        "int opening(int) throws IndexOutOfBoundsException",
        "boolean isAutomatic(int) throws IndexOutOfBoundsException",
        "int threshold(int) throws IndexOutOfBoundsException, NoSuchElementException",
        "int spilled(int) throws IndexOutOfBoundsException",
        "int floodedSteps(int) throws IndexOutOfBoundsException",
        "int basinAtRank(int) throws NoSuchElementException",
        "int time()",
        "int forecastLength()",
        "int rainAt(int) throws IndexOutOfBoundsException",
        "int stored()",
        "int storedByAccounts()",
        "long riverTotal()",
        "double meanFill() throws ArithmeticException",
        "float floodShare() throws ArithmeticException",
        "int levelAfter(int, int) throws IndexOutOfBoundsException, IllegalArgumentException",
        "int spillOf(int, int) throws IndexOutOfBoundsException, IllegalArgumentException",
        "int stepsUntilFlood() throws NoSuchElementException",
        "int leastSpill(int, int) throws IndexOutOfBoundsException, IllegalArgumentException,"
                + " IllegalStateException",
        "int leastSpillByPruning(int, int) throws IndexOutOfBoundsException,"
                + " IllegalArgumentException, IllegalStateException",
        "int bestOpening(int, int) throws IndexOutOfBoundsException, IllegalArgumentException,"
                + " IllegalStateException",
        "int endangered(int) throws IllegalArgumentException",
        "int bestProtection(int, int) throws IllegalArgumentException",
        "int bestProtectionBySets(int, int) throws IllegalArgumentException",
        "int bagsForAll(int) throws IllegalArgumentException",
        "boolean isConsistent()",
        "int append(char) throws IllegalStateException",
        "int run() throws IllegalArgumentException, UnsupportedOperationException",
        "int errorPosition() throws NoSuchElementException",
        "int failedCommand() throws NoSuchElementException",
        "int writeChain()",
        "int writeForecast()",
        "char outputAt(int) throws IndexOutOfBoundsException",
        "int undo() throws IllegalStateException",
        "void save()",
        "void restore() throws IllegalStateException",
    };

    private FaceTest() {
    }

    public static void main(String[] args) {
        theClass();
        publicMethods();
        nothingElseIsVisible();
        namesOfTheFaceAreUsedOnce();
        Check.finish("FaceTest");
    }

    private static void theClass() {
        int modifiers = SluiceChain.class.getModifiers();
        Check.yes("the class is public", Modifier.isPublic(modifiers));
        Check.yes("the class is final", Modifier.isFinal(modifiers));
        Check.same("it has no interfaces", 0, SluiceChain.class.getInterfaces().length);
        Check.yes("it has no class above it", SluiceChain.class.getSuperclass() == Object.class);
        Constructor<?>[] constructors = SluiceChain.class.getDeclaredConstructors();
        Check.same("constructors", 1, constructors.length);
        Check.yes("it is public", Modifier.isPublic(constructors[0].getModifiers()));
        Check.same("its parameters", 0, constructors[0].getParameterCount());
    }

    private static void publicMethods() {
        Set<String> due = new TreeSet<>(Arrays.asList(FACE));
        Set<String> found = new TreeSet<>();
        for (Method method : SluiceChain.class.getDeclaredMethods()) {
            if (Modifier.isPublic(method.getModifiers())) {
                found.add(describe(method));
                Check.no(method + " is of the object", Modifier.isStatic(method.getModifiers()));
            }
        }
        Check.sameText("the face", String.join("\n", due), String.join("\n", found));
    }

    private static String describe(Method method) {
        String text = method.getReturnType() + " " + method.getName()
                + "(" + names(method.getParameterTypes()) + ")";
        Class<?>[] exceptions = method.getExceptionTypes();
        return exceptions.length == 0 ? text : text + " throws " + names(exceptions);
    }

    private static String names(Class<?>[] types) {
        StringBuilder text = new StringBuilder();
        for (Class<?> type : types) {
            text.append(text.length() == 0 ? "" : ", ").append(type.getSimpleName());
        }
        return text.toString();
    }

    private static void nothingElseIsVisible() {
        for (Field field : SluiceChain.class.getDeclaredFields()) {
            Check.yes(field + " is private", Modifier.isPrivate(field.getModifiers()));
        }
        for (Method method : SluiceChain.class.getDeclaredMethods()) {
            int modifiers = method.getModifiers();
            Check.yes(method + " is public or private",
                    Modifier.isPublic(modifiers) || Modifier.isPrivate(modifiers));
        }
        for (Class<?> inside : SluiceChain.class.getDeclaredClasses()) {
            Check.yes(inside + " is static", Modifier.isStatic(inside.getModifiers()));
            Check.no(inside + " is not public", Modifier.isPublic(inside.getModifiers()));
        }
    }

    private static void namesOfTheFaceAreUsedOnce() {
        Set<String> face = new TreeSet<>();
        for (Method method : SluiceChain.class.getDeclaredMethods()) {
            if (Modifier.isPublic(method.getModifiers())) {
                Check.yes(method.getName() + " stands once", face.add(method.getName()));
            }
        }
        checkNames(face, SluiceChain.class);
        for (Class<?> inside : SluiceChain.class.getDeclaredClasses()) {
            checkNames(face, inside);
        }
    }

    private static void checkNames(Set<String> face, Class<?> type) {
        for (Method method : type.getDeclaredMethods()) {
            boolean free = Modifier.isPublic(method.getModifiers())
                    || !face.contains(method.getName());
            Check.yes(method + " bears a name of its own", free);
        }
    }
}
