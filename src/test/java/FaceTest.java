import java.lang.reflect.Constructor;
import java.lang.reflect.Field;
import java.lang.reflect.Method;
import java.lang.reflect.Modifier;
import java.util.Arrays;
import java.util.Set;
import java.util.TreeSet;

/** The public face is that of the document, and all else of the class is private. */
public final class FaceTest {
    private static final String[] FACE = {
        "int about(int, int) IllegalArgumentException NoSuchElementException",
        "int cancel(int, boolean) IllegalArgumentException NoSuchElementException UnsupportedOperationException",
        "int clock(int, double, double) IllegalArgumentException NoSuchElementException IllegalStateException",
        "int count(int) IllegalArgumentException",
        "double delay() ArithmeticException",
        "double due() NoSuchElementException",
        "int get(int) IllegalArgumentException NoSuchElementException IllegalStateException"
            + " UnsupportedOperationException IndexOutOfBoundsException ArithmeticException",
        "int job(int, int, int, int) IllegalArgumentException IllegalStateException",
        "int shut(boolean) IllegalStateException",
        "int step(int) IllegalArgumentException",
        "int submit(int) IllegalArgumentException NoSuchElementException IllegalStateException"
            + " UnsupportedOperationException",
        "int then(int, int) IllegalArgumentException NoSuchElementException IllegalStateException",
        "int tick(double) IllegalArgumentException",
        "int worker(int) NoSuchElementException",
    };

    public static void main(String[] args) {
        Check.same("the class", Modifier.toString(WorkHall.class.getModifiers()), "public final");
        Set<String> face = new TreeSet<>();
        for (Method method : WorkHall.class.getDeclaredMethods()) {
            if (!Modifier.isPrivate(method.getModifiers())) {
                Check.same(method.getName(), Modifier.toString(method.getModifiers()), "public");
                face.add(told(method));
            }
        }
        Check.same("the methods", face, new TreeSet<>(Arrays.asList(FACE)));
        Constructor<?>[] constructors = WorkHall.class.getDeclaredConstructors();
        Check.same("how many constructors", constructors.length, 1);
        Check.same("the constructor", constructors[0].toString(), "public WorkHall(int,int,int,int)");
        for (Field field : WorkHall.class.getDeclaredFields()) {
            Check.same(field.getName() + " is private", Modifier.isPrivate(field.getModifiers()), true);
        }
        Check.end();
    }

    private static String told(Method method) {
        StringBuilder text = new StringBuilder();
        text.append(method.getReturnType()).append(' ').append(method.getName());
        text.append(Arrays.toString(method.getParameterTypes()).replace('[', '(').replace(']', ')'));
        for (Class<?> thrown : method.getExceptionTypes()) {
            text.append(' ').append(thrown.getSimpleName());
        }
        return text.toString();
    }
}
