import java.lang.reflect.Constructor;
import java.lang.reflect.Field;
import java.lang.reflect.Method;
import java.lang.reflect.Modifier;
import java.nio.file.Files;
import java.nio.file.Path;
import java.util.ArrayList;
import java.util.List;
import java.util.TreeSet;

/** The public face, and what of LANGUAGE.md can be read from the source. */
public final class FaceTest {
    private static final Check check = new Check();
    private static final String[] FACE = {
        "int family(int, int, int, boolean)", "boolean weeks(int, int, int, int)", "int wish(int, int)",
        "int wishes(int, int, int, int, int)", "boolean bar(int, int, boolean)", "boolean in(int, boolean)",
        "int set(int, int)", "int count(int)", "int of(int, int) throws NoSuchElementException",
        "int rank(int, int)", "int can(int, int)", "int week(int, int)", "boolean put(int, int)", "int wrong()",
        "int best()", "int mend()", "int trade()", "int blocks()", "int ring(int)", "int chain(int)",
        "int travel()", "int book()", "int went(int, int)", "int undo()",
        "int row(int) throws NoSuchElementException"};
    private static final String[] BARRED = {"catch", "finally", "synchronized", "assert", "->", "::", "System.",
        "Exact(", "static {", "Random", "Thread", "new Object", "instanceof", "Integer.valueOf", "hashCode",
        "_VALUE"};

    public static void main(String[] args) throws Exception {
        checkMethods();
        checkFields();
        checkSource();
        check.end("FaceTest");
    }

    private static String textOf(Method method) {
        List<String> types = new ArrayList<>();
        for (Class<?> type : method.getParameterTypes()) {
            types.add(type.getSimpleName());
        }
        String text = method.getReturnType().getSimpleName() + " " + method.getName()
            + "(" + String.join(", ", types) + ")";
        for (Class<?> thrown : method.getExceptionTypes()) {
            text += " throws " + thrown.getSimpleName();
        }
        return text;
    }

    private static void checkMethods() {
        List<String> open = new ArrayList<>();
        TreeSet<String> names = new TreeSet<>();
        for (Method method : HomeRings.class.getDeclaredMethods()) {
            if (!Modifier.isPrivate(method.getModifiers())) {
                open.add(textOf(method));
                names.add(method.getName());
                check.due("public " + method, Modifier.isPublic(method.getModifiers()), true);
                check.due("of an object " + method, Modifier.isStatic(method.getModifiers()), false);
            }
        }
        for (Method method : HomeRings.class.getDeclaredMethods()) {
            if (Modifier.isPrivate(method.getModifiers())) {
                check.due("a name of the face, " + method, names.contains(method.getName()), false);
            }
        }
        for (String text : FACE) {
            check.due(text, open.contains(text), true);
        }
        check.due("methods of the face", open.size(), FACE.length);
        Constructor<?>[] makers = HomeRings.class.getDeclaredConstructors();
        check.due("constructors", makers.length, 1);
        check.due("constructor", Modifier.isPublic(makers[0].getModifiers()) && makers[0].getParameterCount() == 0, true);
        check.due("final class", Modifier.isFinal(HomeRings.class.getModifiers()), true);
        for (Class<?> inside : HomeRings.class.getDeclaredClasses()) {
            check.due("static " + inside, Modifier.isStatic(inside.getModifiers()), true);
            check.due("not public " + inside, Modifier.isPublic(inside.getModifiers()), false);
        }
    }

    private static void checkFields() {
        for (Field field : HomeRings.class.getDeclaredFields()) {
            boolean open = !Modifier.isPrivate(field.getModifiers());
            check.due("open field " + field, open, field.getName().equals("NONE"));
            if (Modifier.isStatic(field.getModifiers())) {
                check.due("final " + field, Modifier.isFinal(field.getModifiers()), true);
            }
        }
    }

    private static void checkSource() throws Exception {
        List<String> lines = Files.readAllLines(Path.of("src/main/java/HomeRings.java"));
        int begin = -1;
        for (int i = 0; i < lines.size(); i++) {
            String line = lines.get(i);
            for (String word : BARRED) {
                check.due("line " + (i + 1) + " holds " + word, line.contains(word), false);
            }
            check.due("import in line " + (i + 1),
                line.startsWith("import") && !line.equals("import java.util.NoSuchElementException;"), false);
            for (char sign : line.toCharArray()) {
                if (sign < 32 || sign > 126) {
                    check.fail("line " + (i + 1) + " holds sign " + (int) sign);
                }
            }
            if (line.endsWith(") {") || line.endsWith("Exception {")) {
                boolean method = line.matches("( {4}| {8})[a-zA-Z].*") && !line.matches(" *(if|for|while|switch).*");
                begin = method ? i : begin;
            }
            if (begin >= 0 && i - begin > 60) {
                check.fail("the method in line " + (begin + 1) + " is long");
                begin = -1;
            }
            if (begin >= 0 && line.matches("( {4}| {8})\\}") && line.indexOf('}') == indent(lines.get(begin))) {
                begin = -1;
            }
        }
    }

    private static int indent(String line) {
        int at = 0;
        while (at < line.length() && line.charAt(at) == ' ') {
            at++;
        }
        return at;
    }
}
