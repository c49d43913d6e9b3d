import java.lang.reflect.Constructor;
import java.lang.reflect.Field;
import java.lang.reflect.Method;
import java.lang.reflect.Modifier;
import java.util.Set;
import java.util.TreeSet;

/** The public face, as the document writes it, and no more. */
final class FaceTest {
    private static final String[] METHODS = {
        "int poke(int, int) throws IllegalArgumentException, IndexOutOfBoundsException",
        "int peek(int) throws IllegalArgumentException, IndexOutOfBoundsException",
        "void set(int, int, int) throws IndexOutOfBoundsException",
        "int get(int, int) throws IndexOutOfBoundsException",
        "boolean line(int, boolean) throws IndexOutOfBoundsException",
        "int step(int) throws IllegalArgumentException",
        "int entry(int, int) throws IndexOutOfBoundsException",
        "long translate(int, int) throws IllegalArgumentException",
        "int handler()",
        "int count(int) throws IndexOutOfBoundsException",
    };

    private FaceTest() {
    }

    public static void main(String[] args) {
        Check.isTrue("the class is public and final",
            (PageMachine.class.getModifiers() & (Modifier.PUBLIC | Modifier.FINAL)) == (Modifier.PUBLIC | Modifier.FINAL));
        methods();
        fields();
        constructors();
        Check.finish();
    }

    private static void methods() {
        Set<String> due = new TreeSet<>(Set.of(METHODS));
        Set<String> names = new TreeSet<>();
        for (Method m : PageMachine.class.getDeclaredMethods()) {
            if (!Modifier.isPrivate(m.getModifiers())) {
                names.add(m.getName());
                Check.isTrue("a method of the face: " + told(m), due.remove(told(m)));
            }
        }
        Check.isTrue("all methods of the face are there: " + due, due.isEmpty());
        for (Method m : PageMachine.class.getDeclaredMethods()) {
            Check.isFalse("a private method with a public one's name: " + m,
                Modifier.isPrivate(m.getModifiers()) && names.contains(m.getName()));
        }
    }

    private static String told(Method m) {
        StringBuilder text = new StringBuilder(m.getReturnType().getName());
        text.append(' ').append(m.getName()).append('(');
        String between = "";
        for (Class<?> type : m.getParameterTypes()) {
            text.append(between).append(type.getName());
            between = ", ";
        }
        text.append(')');
        between = " throws ";
        for (Class<?> type : m.getExceptionTypes()) {
            text.append(between).append(type.getSimpleName());
            between = ", ";
        }
        return text.toString();
    }

    private static void fields() {
        int seen = 0;
        for (Field f : PageMachine.class.getDeclaredFields()) {
            if (!Modifier.isPrivate(f.getModifiers())) {
                seen++;
                Check.isTrue("a constant: " + f, f.toString().equals("public static final int PageMachine.NONE"));
            }
        }
        Check.same("constants of the face", seen, 1);
    }

    private static void constructors() {
        Constructor<?>[] all = PageMachine.class.getDeclaredConstructors();
        Check.same("constructors", all.length, 1);
        Check.isTrue("it is public and takes nothing",
            Modifier.isPublic(all[0].getModifiers()) && all[0].getParameterCount() == 0);
        Check.isFalse("no interface of its own", PageMachine.class.getInterfaces().length > 0);
    }
}
