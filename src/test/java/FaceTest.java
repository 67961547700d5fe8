import java.lang.reflect.Constructor;
import java.lang.reflect.Field;
import java.lang.reflect.Method;
import java.lang.reflect.Modifier;
import java.util.Arrays;
import java.util.Set;
import java.util.TreeSet;
import java.util.stream.Collectors;

/** The public face: the class, its constants, its constructor and its methods, and nothing else that is not private. */
final class FaceTest {
    private static final String I = "IndexOutOfBoundsException";
    private static final String A = "IllegalArgumentException";
    private static final String S = "IllegalStateException";
    private static final String N = "NoSuchElementException";

    private static final Set<String> DUE = new TreeSet<>(Set.of(
            "int setPrice(int,int) " + I + " " + A,
            "int setBound(int,int) " + I + " " + A,
            "int move(int,int,int,int,int) " + I + " " + A + " " + S,
            "int pass(int) " + A,
            "int open(int) " + I + " " + S,
            "boolean count(int,int,int,int) " + I + " " + A + " " + S,
            "int close(int) " + I + " " + S,
            "int sign(int,int,int) " + I + " " + N + " " + S,
            "int settle(int,int,int) " + I + " " + N + " " + S,
            "int now()",
            "int moves()",
            "int book(int,int) " + I,
            "int bookAt(int,int,int) " + I + " " + A,
            "int worth(int) " + I,
            "int suggested()",
            "int sheets()",
            "int stateOf(int) " + I,
            "int cutOf(int) " + I,
            "int counts(int,int) " + I,
            "int agreed(int,int) " + I,
            "int gap(int,int) " + I + " " + N,
            "boolean isSigned(int,int) " + I,
            "int likely(int,int) " + I,
            "int exact(int) " + I));

    public static void main(String[] args) throws Exception {
        Checks c = new Checks("FaceTest");
        Class<?> type = CountSheets.class;
        c.equal("modifiers of the class", Modifier.toString(type.getModifiers()), "public final");
        c.equal("superclass", type.getSuperclass(), Object.class);
        c.equal("interfaces", type.getInterfaces().length, 0);
        checkConstants(c, type);
        checkConstructors(c, type);
        checkMethods(c, type);
        checkNested(c, type);
        c.end();
    }

    private static void checkConstants(Checks c, Class<?> type) {
        c.equal("NONE", CountSheets.NONE, -1);
        c.equal("OPEN", CountSheets.OPEN, 0);
        c.equal("CLOSED", CountSheets.CLOSED, 1);
        Set<String> open = new TreeSet<>();
        for (Field field : type.getDeclaredFields()) {
            int modifiers = field.getModifiers();
            if (!Modifier.isPrivate(modifiers) && !field.isSynthetic()) {
                open.add(Modifier.toString(modifiers) + " " + field.getType() + " " + field.getName());
            }
            c.equal(field.getName() + " is final or of the object", Modifier.isStatic(modifiers) && !Modifier.isFinal(modifiers), false);
        }
        c.equal("constants", open, new TreeSet<>(Set.of("public static final int NONE", "public static final int OPEN", "public static final int CLOSED")));
    }

    private static void checkConstructors(Checks c, Class<?> type) {
        Constructor<?>[] constructors = type.getDeclaredConstructors();
        c.equal("constructors", constructors.length, 1);
        c.equal("constructor", constructors[0].toString(), "public CountSheets()");
    }

    private static void checkMethods(Checks c, Class<?> type) {
        Set<String> open = new TreeSet<>();
        Set<String> publicNames = new TreeSet<>();
        for (Method method : type.getDeclaredMethods()) {
            if (!Modifier.isPrivate(method.getModifiers()) && !method.isSynthetic()) {
                c.equal("modifiers of " + method.getName(), Modifier.toString(method.getModifiers()), "public");
                open.add(signature(method));
                publicNames.add(method.getName());
            }
        }
        c.equal("methods", open, DUE);
        for (Method method : type.getDeclaredMethods()) {
            boolean twice = Modifier.isPrivate(method.getModifiers()) && publicNames.contains(method.getName());
            c.equal("private method " + method.getName() + " bears a public name", twice, false);
        }
    }

    private static void checkNested(Checks c, Class<?> type) {
        for (Class<?> nested : type.getDeclaredClasses()) {
            int modifiers = nested.getModifiers();
            c.equal(nested + " is static", Modifier.isStatic(modifiers), true);
            c.equal(nested + " is open", Modifier.isPublic(modifiers) || Modifier.isProtected(modifiers), false);
        }
    }

    private static String signature(Method method) {
        String parameters = Arrays.stream(method.getParameterTypes()).map(Class::getName).collect(Collectors.joining(","));
        String thrown = Arrays.stream(method.getExceptionTypes()).map(e -> " " + e.getSimpleName()).collect(Collectors.joining());
        return method.getReturnType() + " " + method.getName() + "(" + parameters + ")" + thrown;
    }
}
