import java.io.IOException;
import java.lang.reflect.Method;
import java.lang.reflect.Modifier;
import java.net.URISyntaxException;
import java.nio.file.Files;
import java.nio.file.Path;
import java.util.ArrayList;
import java.util.List;
import java.util.regex.Matcher;
import java.util.regex.Pattern;
import javax.tools.ToolProvider;

/**
 * The calls that README.md shows: they are Java that compiles, they answer what stands behind them,
 * and they are of all methods of the face.
 */
public final class ReadmeTest {
    private static final Check CHECK = new Check();
    private static final String REFUSED = "throws Illegal";
    /** A statement with a value or a call in it, and what is said to be due behind it. */
    private static final Pattern STATEMENT = Pattern.compile("(?:(?:final )?int (\\w+) = )?(.*);(?: // ([^:]*)(?::.*)?)?");

    public static void main(String[] args) throws Exception {
        List<String> shown = shownLines();
        CHECK.same("README.md shows Java", shown.isEmpty(), false);
        for (Method method : SuccessionClerk.class.getDeclaredMethods()) {
            if (Modifier.isPublic(method.getModifiers())) {
                String call = "clerk." + method.getName() + "(";
                CHECK.same("README.md shows " + call + ")", shown.stream().anyMatch(line -> line.contains(call)), true);
            }
        }
        if (compile(source(shown))) {
            Class.forName("ReadmeRun").getDeclaredMethod("run", Check.class).invoke(null, CHECK);
        }
        CHECK.end();
    }

    private static List<String> shownLines() throws IOException {
        List<String> shown = new ArrayList<>();
        boolean inside = false;
        for (String line : Files.readAllLines(Path.of("README.md"))) {
            if (line.startsWith("```")) {
                inside = line.equals("```java");
            } else if (inside) {
                shown.add(line);
            }
        }
        return shown;
    }

    private static String source(List<String> shown) {
        StringBuilder source = new StringBuilder("final class ReadmeRun {\nstatic void run(Check check) {\n");
        for (String line : shown) {
            source.append(checked(line)).append('\n');
        }
        return source.append("}\n}\n").toString();
    }

    private static String checked(String line) {
        Matcher parts = STATEMENT.matcher(line);
        if (!parts.matches()) {
            CHECK.fail("README.md shows what is no statement: " + line);
            return "";
        }
        String name = parts.group(1);
        String call = parts.group(2);
        String due = parts.group(3);
        if (due == null) {
            mayStayUnsaid(call);
            return line;
        }
        if (due.startsWith(REFUSED)) {
            String kind = due.substring(REFUSED.length()).replace("Exception", "");
            return "check.refused" + kind + "(\"" + call + "\", () -> " + call + ");";
        }
        String value = name == null ? call : name;
        return (name == null ? "" : line + "\n") + "check.same(\"" + call + "\", " + value + ", " + due + ");";
    }

    /** An answer is left out only where there is none. */
    private static void mayStayUnsaid(String call) {
        boolean silent = call.startsWith("SuccessionClerk clerk = ");
        for (Method method : SuccessionClerk.class.getDeclaredMethods()) {
            silent |= method.getReturnType() == void.class && call.startsWith("clerk." + method.getName() + "(");
        }
        CHECK.same("README.md says no answer, and there is none, of " + call, silent, true);
    }

    /** Beside this class, as Check can be seen from there alone. */
    private static boolean compile(String source) throws IOException, URISyntaxException {
        Path place = Path.of(ReadmeTest.class.getProtectionDomain().getCodeSource().getLocation().toURI());
        Path file = place.resolve("ReadmeRun.java");
        Files.writeString(file, source);
        int code = ToolProvider.getSystemJavaCompiler().run(null, null, null, "--release", "17",
            "-cp", System.getProperty("java.class.path"), "-d", place.toString(), file.toString());
        CHECK.same("javac of what README.md shows", code, 0);
        return code == 0;
    }
}
