import java.lang.reflect.Constructor;
import java.lang.reflect.Field;
import java.lang.reflect.Method;
import java.lang.reflect.Modifier;
import java.util.Arrays;
import java.util.Set;
import java.util.TreeSet;

/** The public face: just the members that the document names, and its constants. */
public final class FaceTest {
    private static final String INDEX = "IndexOutOfBoundsException";
    private static final String ARGUMENT = "IllegalArgumentException";
    private static final String STATE = "IllegalStateException";
    private static final String[] METHODS = {
        "int write(int, int, int, int, int, int) " + INDEX + " " + ARGUMENT,
        "int deleteCell(int, int, int, int) " + INDEX + " " + ARGUMENT,
        "int deleteColumn(int, int, int) " + INDEX + " " + ARGUMENT,
        "int deleteRow(int, int, int) " + INDEX + " " + ARGUMENT,
        "int deleteRange(int, int, int, int) " + INDEX + " " + ARGUMENT + " " + STATE,
        "int setUp(int, boolean) " + INDEX,
        "int loseHints(int) " + INDEX,
        "int pass(int) " + ARGUMENT + " " + STATE,
        "int setGrace(int) " + ARGUMENT,
        "int read(int, int, int, int) " + INDEX + " " + ARGUMENT + " " + STATE,
        "int makeAlike(int, int) " + INDEX + " " + ARGUMENT + " " + STATE,
        "int clean(int) " + INDEX + " " + STATE,
        "int time()",
        "boolean isUp(int) " + INDEX,
        "int hints(int) " + INDEX,
        "int repairs()",
        "int valueAt(int, int, int) " + INDEX,
        "int stampAt(int, int, int) " + INDEX,
        "int buriedBy(int, int, int) " + INDEX,
        "int tombstones(int, int) " + INDEX + " " + ARGUMENT,
        "int entries(int) " + INDEX,
        "int ideal(int, int) " + INDEX,
        "int sumOf(int, int, int) " + INDEX,
        "int compared(int, int) " + INDEX,
        "int unlike(int, int) " + INDEX,
        "boolean areAlike(int, int) " + INDEX,
    };

    private FaceTest() {
    }

    public static void main(String[] args) {
        constants();
        fields();
        constructors();
        methods();
        Check.holds("the class is public and final",
                Modifier.isPublic(WideCell.class.getModifiers()) && Modifier.isFinal(WideCell.class.getModifiers()));
        Check.end("FaceTest");
    }

    private static void constants() {
        Check.answers("NONE", -1, WideCell.NONE);
        Check.answers("NEVER", -1, WideCell.NEVER);
        Check.answers("CELL", 0, WideCell.CELL);
        Check.answers("COLUMN", 1, WideCell.COLUMN);
        Check.answers("ROW", 2, WideCell.ROW);
        Check.answers("RANGE", 3, WideCell.RANGE);
    }

    private static void fields() {
        Set<String> open = new TreeSet<>();
        for (Field field : WideCell.class.getDeclaredFields()) {
            if (!Modifier.isPrivate(field.getModifiers())) {
                open.add(Modifier.toString(field.getModifiers()) + " " + field.getType() + " " + field.getName());
            } else if (Modifier.isStatic(field.getModifiers())) {
                Check.holds("static " + field.getName() + " is final", Modifier.isFinal(field.getModifiers()));
            }
        }
        Set<String> want = new TreeSet<>();
        for (String name : new String[] {"NONE", "NEVER", "CELL", "COLUMN", "ROW", "RANGE"}) {
            want.add("public static final int " + name);
        }
        Check.same("fields", want, open);
    }

    private static void constructors() {
        Constructor<?>[] all = WideCell.class.getDeclaredConstructors();
        Check.answers("constructors", 1, all.length);
        Check.holds("public", Modifier.isPublic(all[0].getModifiers()));
        Check.answers("no arguments", 0, all[0].getParameterCount());
    }

    private static void methods() {
        Set<String> open = new TreeSet<>();
        Set<String> names = new TreeSet<>();
        for (Method method : WideCell.class.getDeclaredMethods()) {
            if (!Modifier.isPrivate(method.getModifiers()) && !method.isSynthetic()) {
                open.add(textOf(method));
                names.add(method.getName());
            }
        }
        Check.same("methods", new TreeSet<>(Arrays.asList(METHODS)), open);
        for (Class<?> inner : WideCell.class.getDeclaredClasses()) {
            Check.holds(inner + " is static", Modifier.isStatic(inner.getModifiers()));
            Check.fails(inner + " is not public", Modifier.isPublic(inner.getModifiers()));
        }
        for (Method method : WideCell.class.getDeclaredMethods()) {
            if (Modifier.isPrivate(method.getModifiers())) {
                Check.fails("a public name for private " + method.getName(), names.contains(method.getName()));
            }
        }
    }

    private static String textOf(Method method) {
        StringBuilder text = new StringBuilder();
        text.append(method.getReturnType()).append(' ').append(method.getName()).append('(');
        for (int i = 0; i < method.getParameterCount(); i++) {
            text.append(i > 0 ? ", " : "").append(method.getParameterTypes()[i]);
        }
        text.append(')');
        for (Class<?> exception : method.getExceptionTypes()) {
            text.append(' ').append(exception.getSimpleName());
        }
        return text.toString();
    }
}
