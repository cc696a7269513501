import java.io.IOException;
import java.lang.reflect.Field;
import java.lang.reflect.Method;
import java.lang.reflect.Modifier;
import java.nio.file.Files;
import java.nio.file.Path;
import java.util.HashMap;
import java.util.List;
import java.util.Map;
import java.util.Set;
import java.util.TreeSet;
import java.util.regex.Matcher;
import java.util.regex.Pattern;

/** README.md tells the truth: what its examples say is answered, and each call and constant of the face is in it. */
public final class ReadmeTest {
    private static final Pattern MADE = Pattern.compile("GroupCommits log = new GroupCommits\\(\\);.*");
    private static final Pattern CALL =
        Pattern.compile("(?:int (\\w+) = )?log\\.(\\w+)\\((.*?)\\);\\s+// (-?[0-9.]+|[A-Z_]+)(?::.*)?");

    private static int wrong = 0;

    private final Set<String> called = new TreeSet<>();
    private Map<String, Double> names = new HashMap<>();
    private GroupCommits log;

    private static void due(String what, Object got, Object want) {
        if (!got.equals(want)) {
            wrong++;
            System.out.println(what + ": is " + got + ", due is " + want);
        }
    }

    private void make() throws IllegalAccessException {
        log = new GroupCommits();
        names = new HashMap<>();
        for (Field field : constants()) {
            names.put(field.getName(), (double) field.getInt(null));
            names.put("GroupCommits." + field.getName(), (double) field.getInt(null));
        }
    }

    private static List<Field> constants() {
        return List.of(GroupCommits.class.getFields());
    }

    private static List<Method> methods() {
        return List.of(GroupCommits.class.getDeclaredMethods()).stream()
            .filter(method -> Modifier.isPublic(method.getModifiers())).toList();
    }

    /** A number, a character between signs, or a name that stands for a number. */
    private double valueOf(String text) {
        if (names.containsKey(text)) {
            return names.get(text);
        }
        return text.startsWith("'") ? text.charAt(1) : Double.parseDouble(text);
    }

    private Object[] arguments(String text) {
        if (text.isEmpty()) {
            return new Object[0];
        }
        String[] parts = text.split(", ");
        Object[] values = new Object[parts.length];
        for (int i = 0; i < parts.length; i++) {
            boolean isTruth = parts[i].equals("true") || parts[i].equals("false");
            values[i] = isTruth ? (Object) Boolean.valueOf(parts[i]) : (Object) (int) valueOf(parts[i]);
        }
        return values;
    }

    private void call(String line, Matcher parts) throws ReflectiveOperationException {
        for (Method method : methods()) {
            if (method.getName().equals(parts.group(2))) {
                double got = ((Number) method.invoke(log, arguments(parts.group(3)))).doubleValue();
                due(line, got, valueOf(parts.group(4)));
                called.add(method.getName());
                if (parts.group(1) != null) {
                    names.put(parts.group(1), got);
                }
                return;
            }
        }
        due(line, "no call of the face", "a call of the face");
    }

    private void line(String line) throws ReflectiveOperationException {
        if (MADE.matcher(line).matches()) {
            make();
            return;
        }
        Matcher parts = CALL.matcher(line);
        if (log == null || !parts.matches()) {
            due(line, "not understood", "a call of log and its answer");
            return;
        }
        call(line, parts);
    }

    private void examples(List<String> lines) throws ReflectiveOperationException {
        boolean isExample = false;
        for (String line : lines) {
            if (line.startsWith("```")) {
                isExample = line.equals("```java");
                log = null;
            } else if (isExample) {
                line(line);
            }
        }
    }

    /** The table of the calls has each of the face; the examples call each of them. */
    private void calls(String text) {
        for (Method method : methods()) {
            due("an example calls " + method.getName(), called.contains(method.getName()), true);
            boolean isListed = Pattern.compile("^\\|.*`" + method.getName() + "\\(.*`", Pattern.MULTILINE).matcher(text).find();
            due("the table has " + method.getName(), isListed, true);
        }
    }

    private static void codes(String text) throws IllegalAccessException {
        for (Field field : constants()) {
            String row = "| `" + field.getName() + "` | " + field.getInt(null) + " |";
            String setting = "`" + field.getName() + "` = " + field.getInt(null);
            due(field.getName() + " and its value", text.contains(row) || text.contains(setting), true);
        }
    }

    public static void main(String[] args) throws IOException, ReflectiveOperationException {
        Path readme = Path.of("README.md");
        ReadmeTest test = new ReadmeTest();
        test.examples(Files.readAllLines(readme));
        String text = Files.readString(readme);
        test.calls(text);
        codes(text);
        due("it says how to run the tests", text.contains("\n    .ci/run\n"), true);
        System.out.println(wrong == 0 ? "README.md says what is due" : wrong + " things are not as due");
        if (wrong != 0) {
            System.exit(1);
        }
    }
}
