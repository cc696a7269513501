import java.io.IOException;
import java.lang.reflect.Constructor;
import java.lang.reflect.Field;
import java.lang.reflect.Method;
import java.lang.reflect.Modifier;
import java.nio.file.Files;
import java.nio.file.Path;
import java.util.List;
import java.util.TreeSet;

/** The class has the document's face and no other, and keeps to the rules of ../shared/LANGUAGE.md that a text shows. */
public final class FaceTest {
    private static final List<String> METHODS = List.of(
        "int submit(int,int,boolean)", "int fail(int)", "int withdraw(int)", "int crash()", "int tick(int)",
        "int set(int,int)", "int append(int)", "int clearText()", "int fault()", "int run()", "int undo()", "int save()",
        "int restore()", "int commit(int,int)", "int group(int,int)", "int member(int,int)", "int open(int)",
        "int queued(int)", "int count(int)", "int total(int)", "int answeredIn(int)", "int ifSubmitted(int,boolean)",
        "int idleIn()", "double mean()");
    private static final List<String> CONSTANTS = List.of("NO_SUCH=-1", "BAD_VALUE=-2", "TOO_MANY=-3", "NOT_POSSIBLE=-4",
        "NONE=-5", "MOST=0", "FULL_SIZE=1", "FIXED=2", "LEARN=3");
    // None of these is needed, so none is written: libraries, exceptions, code that the rules leave out.
    private static final List<String> ABSENT = List.of("import ", "package ", "catch", "finally", "throw", "->", "::",
        "synchronized", "assert ", "volatile", "native", "Object", "System.out", "Exception", "while (true)");
    // A place of a row of objects may hold null, so it is looked at before it is used (rule 7).
    private static final String PLACE_USED_UNSEEN = "].";
    private static final int MOST_LINES = 60;

    private static int wrong = 0;

    private static void due(String what, Object got, Object want) {
        if (!got.equals(want)) {
            wrong++;
            System.out.println(what + ": is " + got + ", due is " + want);
        }
    }

    private static String signature(Method method) {
        StringBuilder text = new StringBuilder(method.getReturnType() + " " + method.getName() + "(");
        for (Class<?> type : method.getParameterTypes()) {
            text.append(text.charAt(text.length() - 1) == '(' ? "" : ",").append(type);
        }
        return text.append(')').toString();
    }

    private static void methods() {
        TreeSet<String> seen = new TreeSet<>();
        for (Method method : GroupCommits.class.getDeclaredMethods()) {
            if (!Modifier.isPrivate(method.getModifiers())) {
                due(method + " is public and not static", method.getModifiers(), Modifier.PUBLIC);
                seen.add(signature(method));
            } else {
                due(method + " has a name of its own", faceNames().contains(method.getName()), false);
            }
        }
        due("methods", seen, new TreeSet<>(METHODS));
    }

    private static TreeSet<String> faceNames() {
        TreeSet<String> names = new TreeSet<>();
        for (String method : METHODS) {
            names.add(method.substring(method.indexOf(' ') + 1, method.indexOf('(')));
        }
        return names;
    }

    private static void constants() throws IllegalAccessException {
        TreeSet<String> seen = new TreeSet<>();
        for (Field field : GroupCommits.class.getDeclaredFields()) {
            if (!Modifier.isPrivate(field.getModifiers())) {
                due(field + " is constant", field.getModifiers(), Modifier.PUBLIC | Modifier.STATIC | Modifier.FINAL);
                seen.add(field.getName() + "=" + field.getInt(null));
            }
        }
        due("constants", seen, new TreeSet<>(CONSTANTS));
    }

    private static void classes() {
        due("the class", GroupCommits.class.getModifiers(), Modifier.PUBLIC | Modifier.FINAL);
        Constructor<?>[] constructors = GroupCommits.class.getDeclaredConstructors();
        due("constructors", constructors.length, 1);
        due("the constructor", constructors[0].getModifiers(), Modifier.PUBLIC);
        Class<?>[] inside = GroupCommits.class.getDeclaredClasses();
        due("at most twelve classes", inside.length < 12, true);
        for (Class<?> one : inside) {
            due(one + " is static", Modifier.isStatic(one.getModifiers()), true);
            due(one + " is not public", Modifier.isPublic(one.getModifiers()), false);
            insideOf(one, faceNames());
        }
    }

    private static void insideOf(Class<?> one, TreeSet<String> face) {
        int fields = 0;
        for (Field field : one.getDeclaredFields()) {
            boolean isStatic = Modifier.isStatic(field.getModifiers());
            due(field + " is final if it is static", !isStatic || Modifier.isFinal(field.getModifiers()), true);
            fields += isStatic ? 0 : 1;
        }
        due(one + " has at most twenty fields", fields <= 20, true);
        for (Method method : one.getDeclaredMethods()) {
            due(method + " has a name of its own", face.contains(method.getName()), false);
            due(method + " takes at most seven", method.getParameterCount() <= 7, true);
        }
    }

    private static void text() throws IOException {
        String source = Files.readString(Path.of("src/main/java/GroupCommits.java"));
        for (String word : ABSENT) {
            due("the program has '" + word + "'", source.contains(word), false);
        }
        due("a place of a row is looked at before it is used", source.contains(PLACE_USED_UNSEEN), false);
        for (int i = 0; i < source.length(); i++) {
            due("the sign at " + i, source.charAt(i) < 128, true);
        }
    }

    /** A method or constructor begins with an indented line that ends in ") {" and ends with a brace indented as far. */
    private static void lengths() throws IOException {
        List<String> lines = Files.readAllLines(Path.of("src/main/java/GroupCommits.java"));
        int methods = 0;
        for (int begin = 0; begin < lines.size(); begin++) {
            if (lines.get(begin).matches("(    |        )[A-Za-z].*\\) \\{")) {
                String end = lines.get(begin).replaceAll("\\S.*", "") + "}";
                int length = lines.subList(begin, lines.size()).indexOf(end) + 1;
                due("the lines of " + lines.get(begin).trim() + " are at most 60", length > 0 && length <= MOST_LINES, true);
                methods++;
            }
        }
        due("methods were found", methods > METHODS.size(), true);
    }

    public static void main(String[] args) throws IOException, IllegalAccessException {
        methods();
        constants();
        classes();
        text();
        lengths();
        System.out.println(wrong == 0 ? "the face is as due" : wrong + " things are not as due");
        if (wrong != 0) {
            System.exit(1);
        }
    }
}
