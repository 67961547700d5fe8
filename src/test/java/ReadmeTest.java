import java.io.IOException;
import java.lang.reflect.InvocationTargetException;
import java.lang.reflect.Method;
import java.lang.reflect.Modifier;
import java.nio.file.Files;
import java.nio.file.Path;
import java.util.Set;
import java.util.TreeSet;
import java.util.regex.Matcher;
import java.util.regex.Pattern;

/** README.md tells how to use the class: each call of its examples answers what stands behind it. */
final class ReadmeTest {
    private static final String NEW_OBJECT = "CountSheets x = new CountSheets();";
    private static final Pattern CALL = Pattern.compile("x\\.(\\w+)\\(([^)]*)\\); *// (throws \\w+|true|false|-?\\d+)(: .+)?");

    private final Checks c = new Checks("ReadmeTest");
    private final Set<String> called = new TreeSet<>();
    private CountSheets x = null;

    public static void main(String[] args) throws IOException {
        new ReadmeTest().check();
    }

    private void check() throws IOException {
        boolean inExample = false;
        for (String line : Files.readAllLines(Path.of("README.md"))) {
            if (line.startsWith("```")) {
                inExample = line.equals("```java");
            } else if (inExample) {
                checkLine(line);
            }
        }
        c.equal("the calls of the examples", called, methodsOfTheFace());
        c.end();
    }

    private void checkLine(String line) {
        Matcher call = CALL.matcher(line);
        if (line.equals(NEW_OBJECT)) {
            x = new CountSheets();
        } else if (x != null && call.matches()) {
            called.add(call.group(1));
            c.equal(line, answer(call.group(1), call.group(2)), call.group(3));
        } else {
            c.equal(line, "neither a new object nor a call with its answer", "one of them");
        }
    }

    private String answer(String name, String arguments) {
        Object[] values = valuesOf(arguments);
        for (Method method : CountSheets.class.getDeclaredMethods()) {
            if (method.getName().equals(name) && Modifier.isPublic(method.getModifiers())
                    && method.getParameterCount() == values.length) {
                return answer(method, values);
            }
        }
        return "there is no such method";
    }

    private String answer(Method method, Object[] values) {
        try {
            return String.valueOf(method.invoke(x, values));
        } catch (InvocationTargetException e) {
            return "throws " + e.getCause().getClass().getSimpleName();
        } catch (IllegalAccessException e) {
            return "the method is not public";
        }
    }

    private static Object[] valuesOf(String arguments) {
        String[] texts = arguments.isEmpty() ? new String[0] : arguments.split(", ");
        Object[] values = new Object[texts.length];
        for (int i = 0; i < texts.length; i++) {
            values[i] = texts[i].equals("CountSheets.NONE") ? CountSheets.NONE : Integer.parseInt(texts[i]);
        }
        return values;
    }

    private static Set<String> methodsOfTheFace() {
        Set<String> names = new TreeSet<>();
        for (Method method : CountSheets.class.getDeclaredMethods()) {
            if (Modifier.isPublic(method.getModifiers())) {
                names.add(method.getName());
            }
        }
        return names;
    }
}
