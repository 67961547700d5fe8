import java.io.IOException;
import java.lang.reflect.Array;
import java.lang.reflect.Field;
import java.lang.reflect.Modifier;
import java.nio.file.Files;
import java.nio.file.Path;
import java.util.ArrayList;
import java.util.List;
import java.util.Set;
import java.util.TreeSet;
import java.util.regex.Matcher;
import java.util.regex.Pattern;

/** What of the rules of LANGUAGE.md can be seen in the text of the class, and how much room an object of it takes. */
final class LanguageTest {
    private static final Path SOURCE = Path.of("src/main/java/CountSheets.java");
    private static final int MOST_LINES = 60;
    private static final int MOST_CLASSES = 12;
    private static final int MOST_FIELDS = 20;
    private static final int MOST_PARAMETERS = 7;
    private static final int MOST_OBJECTS = 30;
    private static final int MOST_ELEMENTS = 3000;

    private final Checks c = new Checks("LanguageTest");
    private final List<String> lines = new ArrayList<>();
    private int objects = 0;
    private int elements = 0;

    public static void main(String[] args) throws Exception {
        new LanguageTest().check();
    }

    private void check() throws Exception {
        readCode();
        checkLibrary();
        checkExceptions();
        checkNever();
        checkMaking();
        checkSizes();
        checkRoom();
        c.end();
    }

    // Comments are left out, and texts are made empty, so that their words are not taken for code.
    private void readCode() throws IOException {
        for (String line : Files.readAllLines(SOURCE)) {
            String code = line.replaceAll("\"[^\"]*\"", "\"\"").replaceAll("//.*", "");
            boolean comment = code.strip().startsWith("/*") || code.strip().startsWith("*");
            lines.add(comment ? "" : code);
        }
    }

    private Set<String> found(String pattern) {
        Set<String> found = new TreeSet<>();
        for (String line : lines) {
            Matcher matcher = Pattern.compile(pattern).matcher(line);
            while (matcher.find()) {
                found.add(matcher.group());
            }
        }
        return found;
    }

    private void none(String rule, String pattern) {
        c.equal(rule + ": " + pattern, found(pattern), Set.of());
    }

    private void only(String rule, String pattern, String... allowed) {
        Set<String> others = found(pattern);
        others.removeAll(Set.of(allowed));
        c.equal(rule + ": " + pattern, others, Set.of());
    }

    private void checkLibrary() {
        only("rules 1 and 4", "^(import|package).*", "import java.util.Arrays;", "import java.util.NoSuchElementException;");
        only("rule 4", "\\b(Arrays|Math|Integer|Long|System|String|List)\\.\\w+", "Arrays.fill", "Math.abs", "Math.max",
                "Math.min", "Integer.bitCount");
        only("rule 3", "\\b(Object|String|StringBuilder|Integer|Long|List|ArrayList|Map|Set|double|float|var)\\b", "Integer");
        none("rule 13", "\\b(Thread|Random|Runtime|Process|File|Clock|System)\\b");
    }

    private void checkExceptions() {
        none("rule 6", "\\b(try|catch|finally|synchronized|assert|instanceof)\\b");
        none("rule 6", "\\b(equals|hashCode|toString)\\b");
        c.equal("rule 6: every throw is of a new exception with a written text", found("\\bthrow\\b.*"),
                found("\\bthrow new (IndexOutOfBounds|IllegalArgument|IllegalState|NoSuchElement)Exception\\(\"\"\\);"));
    }

    private void checkNever() {
        none("rule 2", "->|::");
        none("rule 9", "while \\(true\\)|for \\(;;\\)|for \\([^;]*;\\s*;");
        none("rule 10", "\"\" *\\+|\\+ *\"\"");
        for (String line : lines) {
            boolean field = line.matches(".*\\bstatic\\b[^(]*(=.*)?;");
            c.equal("rule 5: " + line.strip(), field && !line.contains(" final "), false);
        }
    }

    // Rows are made in constructors alone; a call makes nothing but the exception that it throws.
    private void checkMaking() {
        for (String line : lines) {
            boolean makes = line.matches(".*\\bnew\\b.*") && !line.contains("throw new ");
            boolean inConstructor = line.matches(" +private final .* = new .*");
            c.equal("rule 12: " + line.strip(), makes && !inConstructor, false);
        }
    }

    private void checkSizes() throws Exception {
        int start = 0;
        for (int i = 0; i < lines.size(); i++) {
            String line = lines.get(i);
            start = line.isBlank() ? i + 1 : start;
            c.equal("rule 11: a method over " + MOST_LINES + " lines at the line " + (start + 1), i - start > MOST_LINES, false);
        }
        List<Class<?>> classes = new ArrayList<>(List.of(CountSheets.class.getDeclaredClasses()));
        classes.add(CountSheets.class);
        c.equal("rule 11: too many classes", classes.size() > MOST_CLASSES, false);
        for (Class<?> each : classes) {
            long fields = List.of(each.getDeclaredFields()).stream().filter(f -> !Modifier.isStatic(f.getModifiers())).count();
            c.equal("rule 11: too many fields in " + each, fields > MOST_FIELDS, false);
            for (var method : each.getDeclaredMethods()) {
                c.equal("rule 11: too many parameters of " + method, method.getParameterCount() > MOST_PARAMETERS, false);
            }
        }
    }

    private void checkRoom() throws Exception {
        measure(new CountSheets());
        int objectsAtFirst = objects;
        int elementsAtFirst = elements;
        c.equal("rule 12: too many objects, " + objects, objects > MOST_OBJECTS, false);
        c.equal("rule 12: too many elements, " + elements, elements > MOST_ELEMENTS, false);
        for (CountSheets x : new CountSheets[] {Stock.busyWith200Moves(), Stock.busyWith40Sheets()}) {
            measure(x);
            c.equal("rule 12: objects of a full stock", objects, objectsAtFirst);
            c.equal("rule 12: elements of a full stock", elements, elementsAtFirst);
        }
    }

    private void measure(CountSheets x) throws Exception {
        objects = 0;
        elements = 0;
        add(x, 0);
    }

    private void add(Object object, int depth) throws Exception {
        objects++;
        if (object.getClass().isArray()) {
            elements += Array.getLength(object);
            c.equal("rule 3: an array of numbers or booleans", object.getClass().getComponentType().isPrimitive(), true);
            return;
        }
        c.equal("objects within objects end", depth > MOST_OBJECTS, false);
        for (Field field : object.getClass().getDeclaredFields()) {
            if (!Modifier.isStatic(field.getModifiers())) {
                elements++;
                field.setAccessible(true);
                Object value = field.get(object);
                if (!field.getType().isPrimitive() && value != null && depth <= MOST_OBJECTS) {
                    add(value, depth + 1);
                }
            }
        }
    }
}
