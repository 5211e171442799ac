import java.lang.reflect.Method;
import java.lang.reflect.Modifier;
import java.nio.file.Files;
import java.nio.file.Path;
import java.util.regex.Matcher;
import java.util.regex.Pattern;
import javax.tools.ToolProvider;

/** Runs the java blocks of README.md: each call answers, or throws, what stands behind it there. */
public final class ReadmeTest {
    private static final Pattern BLOCK = Pattern.compile("^```java\n(.*?)^```$", Pattern.DOTALL | Pattern.MULTILINE);
    private static final Pattern HALL = Pattern.compile("WorkHall \\w+ = new WorkHall\\(.*\\);( *//.*)?");
    private static final Pattern KEPT = Pattern.compile("(int (\\w+) = .*;) *// (-?\\d+)(:.*)?");
    private static final Pattern ANSWER = Pattern.compile("(\\w+\\..*); *// (-?[\\d.]+)(:.*)?");
    private static final Pattern THROWS = Pattern.compile("(\\w+\\..*); *// throws (\\w+)(:.*)?");

    public static void main(String[] args) throws Exception {
        StringBuilder code = new StringBuilder("import java.util.*;\n");
        code.append("final class ReadmeExample {\nstatic void run() {\n");
        Matcher block = BLOCK.matcher(Files.readString(Path.of("README.md")));
        while (block.find()) {
            code.append("{\n");
            block.group(1).lines().filter(line -> !line.isBlank()).forEach(line -> code.append(checked(line)));
            code.append("}\n");
        }
        code.append("}\n}\n");
        everyMethodIsShown(code.toString());
        runExample(code.toString());
        Check.end();
    }

    /** The line as a line of the example, with a look at what it answers. */
    private static String checked(String line) {
        Matcher kept = KEPT.matcher(line);
        if (kept.matches()) {
            return kept.group(1) + same(line, kept.group(2), kept.group(3));
        }
        Matcher answer = ANSWER.matcher(line);
        if (answer.matches()) {
            return same(line, answer.group(1), answer.group(2));
        }
        Matcher thrown = THROWS.matcher(line);
        if (thrown.matches()) {
            return String.format("Check.refused(\"%s\", %s.class, () -> %s);\n", line, thrown.group(2),
                    thrown.group(1));
        }
        Check.same("README.md tells what is answered in: " + line, HALL.matcher(line).matches(), true);
        return line + "\n";
    }

    private static String same(String line, String got, String due) {
        return String.format("Check.same(\"%s\", %s, %s);\n", line, got, due);
    }

    private static void everyMethodIsShown(String code) {
        for (Method method : WorkHall.class.getDeclaredMethods()) {
            if (Modifier.isPublic(method.getModifiers())) {
                Check.same("README.md shows " + method.getName(), code.contains("." + method.getName() + "("), true);
            }
        }
    }

    /** Compiled beside the tests, since the example uses Check. */
    private static void runExample(String code) throws Exception {
        Path folder = Path.of(ReadmeTest.class.getProtectionDomain().getCodeSource().getLocation().toURI());
        Path source = Files.writeString(folder.resolve("ReadmeExample.java"), code);
        String place = folder.toString();
        int failed = ToolProvider.getSystemJavaCompiler().run(null, null, null, "-cp", place, "-d", place,
                source.toString());
        Check.same("README.md does not compile", failed, 0);
        if (failed == 0) {
            Class.forName("ReadmeExample").getDeclaredMethod("run").invoke(null);
        }
    }
}
