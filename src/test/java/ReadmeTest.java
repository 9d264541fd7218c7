import java.io.IOException;
import java.lang.reflect.Method;
import java.lang.reflect.Modifier;
import java.net.URL;
import java.net.URLClassLoader;
import java.nio.file.Files;
import java.nio.file.Path;
import java.util.regex.Matcher;
import java.util.regex.Pattern;
import javax.tools.ToolProvider;

/**
 * The Java examples of README.md are one program that compiles; each call in them answers what
 * stands behind it; and none of the calls of the face is left out.
 */
public final class ReadmeTest {
    /** A call of the examples. */
    public interface Example {
        Object answer();
    }

    private static final String PROGRAM = "ReadmeExamples";
    /** A call, and behind it a number, a truth, a character, a text or an exception. */
    private static final Pattern ANSWERED = Pattern.compile("(\\w+\\..*\\)); *// "
            + "(throws \\w+|true|false|'.'|\"[^\"]*\"|-?\\d+(?:\\.\\d+)?)(?:,.*)?");
    private static int answers = 0;

    private ReadmeTest() {
    }

    public static void main(String[] args) throws Exception {
        String examples = examplesOf(Files.readString(Path.of("README.md")));
        eachCallHasAnExample(examples);
        run(programOf(examples));
        Check.yes("some answers are told", answers > 0);
        Check.finish("ReadmeTest");
    }

    private static String examplesOf(String page) {
        StringBuilder examples = new StringBuilder();
        Matcher block = Pattern.compile("^```java\n(.*?)^```$",
                Pattern.MULTILINE | Pattern.DOTALL).matcher(page);
        while (block.find()) {
            examples.append(block.group(1));
        }
        return examples.toString();
    }

    private static void eachCallHasAnExample(String examples) {
        for (Method method : SluiceChain.class.getDeclaredMethods()) {
            if (Modifier.isPublic(method.getModifiers())) {
                String call = "chain." + method.getName() + "(";
                Check.yes("README.md has an example of " + call + "..)", examples.contains(call));
            }
        }
    }

    private static String programOf(String examples) {
        StringBuilder program = new StringBuilder();
        program.append("public final class " + PROGRAM + " {\n");
        program.append("public static void main(String[] args) {\n");
        for (String line : examples.split("\n")) {
            program.append(checkedLine(line)).append('\n');
        }
        return program.append("}\n}\n").toString();
    }

    private static String checkedLine(String line) {
        Matcher told = ANSWERED.matcher(line);
        if (!told.matches()) {
            Check.no("README.md tells no answer in <" + line + ">", line.contains(" // "));
            return line;
        }
        return "ReadmeTest.check(" + quoted(told.group(1)) + ", " + quoted(told.group(2))
                + ", () -> " + told.group(1) + ");";
    }

    private static String quoted(String text) {
        return '"' + text.replace("\\", "\\\\").replace("\"", "\\\"") + '"';
    }

    private static void run(String program) throws Exception {
        Path folder = Files.createTempDirectory("readme");
        Path source = folder.resolve(PROGRAM + ".java");
        Path compiled = folder.resolve(PROGRAM + ".class");
        try {
            Files.writeString(source, program);
            int status = ToolProvider.getSystemJavaCompiler().run(null, null, null, "-cp",
                    System.getProperty("java.class.path"), "-d", folder.toString(),
                    source.toString());
            Check.same("the examples compile", 0, status);
            if (status == 0) {
                runCompiled(folder);
            }
        } finally {
            Files.deleteIfExists(compiled);
            Files.deleteIfExists(source);
            Files.deleteIfExists(folder);
        }
    }

    private static void runCompiled(Path folder) throws IOException {
        try (URLClassLoader loader = new URLClassLoader(new URL[] {folder.toUri().toURL()})) {
            Method main = loader.loadClass(PROGRAM).getMethod("main", String[].class);
            main.invoke(null, (Object) new String[0]);
        } catch (ReflectiveOperationException e) {
            Check.isWrong("the examples end with " + e + ", by " + e.getCause());
        }
    }

    /** Called by the program that is made of the examples. */
    public static void check(String call, String due, Example example) {
        answers++;
        Check.sameText(call, due, outcome(example));
    }

    private static String outcome(Example example) {
        try {
            Object answer = example.answer();
            if (answer instanceof Character) {
                return "'" + answer + "'";
            }
            return answer instanceof String ? "\"" + answer + "\"" : "" + answer;
        } catch (RuntimeException e) {
            return "throws " + e.getClass().getSimpleName();
        }
    }
}
