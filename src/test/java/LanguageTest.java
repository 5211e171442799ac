import java.lang.reflect.Constructor;
import java.lang.reflect.Executable;
import java.lang.reflect.Field;
import java.lang.reflect.Method;
import java.lang.reflect.Modifier;
import java.nio.file.Files;
import java.nio.file.Path;
import java.util.ArrayList;
import java.util.HashSet;
import java.util.List;
import java.util.Set;
import java.util.regex.Matcher;
import java.util.regex.Pattern;

/** Those rules of LANGUAGE.md that can be looked at from outside: in the classes, or in the words of the file. */
public final class LanguageTest {
    private static final Set<Class<?>> CONSTANTS = Set.of(int.class, long.class, boolean.class, char.class,
            String.class, int[].class, long[].class, char[].class, byte[].class);
    private static final Pattern THROW = Pattern.compile("\\bthrow\\b(?! new (IllegalState|IllegalArgument"
            + "|IndexOutOfBounds|Arithmetic|UnsupportedOperation|NoSuchElement|Runtime)Exception\\(\"?\"?\\);)");
    private static final Pattern BEYOND = Pattern.compile("\\b(finally|synchronized|assert|Thread|Random|Double|Float)"
            + "\\b|->|::|Exact\\(|\\bstatic \\{|\\bSystem\\b(?!\\.arraycopy)|\\bgetMessage\\b|\\bpackage\\b");
    private static final Pattern IMPORT = Pattern.compile("\\bimport (?!java\\.util\\.(ArrayList|List|Arrays|Iterator"
            + "|NoSuchElementException);).*;");
    private static final Pattern METHOD = Pattern.compile("^( {4}| {8})\\S[^;={}]*\\)[^;={}]*\\{\n.*?^\\1\\}$",
            Pattern.DOTALL | Pattern.MULTILINE);

    public static void main(String[] args) throws Exception {
        String code = withoutTextsAndComments(Files.readString(Path.of("src/main/java/WorkHall.java")));
        theFace();
        for (Class<?> one : classes()) {
            staticFieldsAreConstants(one);
            parametersAndFieldsAreFew(one);
        }
        Check.same("rule 11, classes are at most twelve", classes().size() <= 12, true);
        Check.same("rule 4, imports of what it does not list", found(code, IMPORT), List.of());
        Check.same("rule 6, throws in another form", found(code, THROW), List.of());
        Check.same("rules 2, 4, 5, 6 and 13, words that they leave out", found(code, BEYOND), List.of());
        methodsAreShort(code);
        Check.end();
    }

    /** Rule 1: "No private method bears the name of a public one", and classes inside are static and not public. */
    private static void theFace() {
        Set<String> open = new HashSet<>();
        for (Method method : WorkHall.class.getDeclaredMethods()) {
            if (Modifier.isPublic(method.getModifiers())) {
                open.add(method.getName());
            }
        }
        for (Method method : WorkHall.class.getDeclaredMethods()) {
            if (Modifier.isPrivate(method.getModifiers())) {
                Check.same("rule 1, " + method.getName() + " is public too", open.contains(method.getName()), false);
            }
        }
        for (Class<?> inside : WorkHall.class.getDeclaredClasses()) {
            int how = inside.getModifiers();
            Check.same("rule 1, " + inside + " is static", Modifier.isStatic(how), true);
            Check.same("rule 1, " + inside + " is open", Modifier.isPublic(how) || Modifier.isProtected(how), false);
        }
    }

    /** Rule 5: "Static fields are final". */
    private static void staticFieldsAreConstants(Class<?> one) {
        for (Field field : one.getDeclaredFields()) {
            if (Modifier.isStatic(field.getModifiers())) {
                Check.same("rule 5, " + field + " is final", Modifier.isFinal(field.getModifiers()), true);
                Check.same("rule 5, the type of " + field, CONSTANTS.contains(field.getType()), true);
            }
        }
    }

    /** Rule 11: at most seven parameters, and some twenty fields beside the constants. */
    private static void parametersAndFieldsAreFew(Class<?> one) {
        List<Executable> all = new ArrayList<>(List.of(one.getDeclaredMethods()));
        for (Constructor<?> constructor : one.getDeclaredConstructors()) {
            all.add(constructor);
        }
        for (Executable each : all) {
            Check.same("rule 11, parameters of " + each, each.getParameterCount() <= 7, true);
        }
        int fields = 0;
        for (Field field : one.getDeclaredFields()) {
            fields += Modifier.isStatic(field.getModifiers()) ? 0 : 1;
        }
        Check.same("rule 11, fields of " + one, fields <= 20, true);
    }

    /** Rule 11: "Methods stay short (some sixty lines)". */
    private static void methodsAreShort(String code) {
        // Without its head a class inside leaves its methods to be found like those of the outer one.
        Matcher method = METHOD.matcher(code.replaceAll("(?m)^ {4}private static final class.*$", ""));
        int methods = 0;
        while (method.find()) {
            methods++;
            String text = method.group();
            Check.same("rule 11, is short: " + text.lines().findFirst().orElse(""), text.lines().count() <= 60, true);
        }
        Check.same("rule 11, the methods are found", methods > 14, true);
    }

    private static List<Class<?>> classes() {
        List<Class<?>> all = new ArrayList<>(List.of(WorkHall.class.getDeclaredClasses()));
        all.add(WorkHall.class);
        return all;
    }

    private static List<String> found(String code, Pattern pattern) {
        List<String> all = new ArrayList<>();
        Matcher matcher = pattern.matcher(code);
        while (matcher.find()) {
            all.add(matcher.group());
        }
        return all;
    }

    private static String withoutTextsAndComments(String code) {
        return code.replaceAll("\"[^\"\n]*\"", "\"\"").replaceAll("(?s)/\\*.*?\\*/", "").replaceAll("//.*", "");
    }
}
