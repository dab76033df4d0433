import java.nio.file.Files;
import java.nio.file.Path;
import java.util.ArrayList;
import java.util.List;

/** The example of README.md answers what is written there, and its tables name every call of the face. */
public final class ReadmeTest {
    private static final Check check = new Check();

    public static void main(String[] args) throws Exception {
        String readme = Files.readString(Path.of("README.md"));
        checkExample();
        checkLines(readme);
        checkCalls(readme);
        check.end("ReadmeTest");
    }

    private static void checkExample() {
        HomeRings house = new HomeRings();
        int a = house.family(0, 4, 2, false);
        int b = house.family(2, 3, 3, true);
        int c = house.family(2, 5, 1, false);
        check.due("family a", a, 0);
        check.due("family b", b, 1);
        house.wish(a, b);
        house.wish(b, c);
        house.wish(c, a);
        house.weeks(b, 0, 20, 30);
        int going = house.best();
        check.due("going", going, 3);
        int home = house.of(a, 4);
        check.due("home", home, 1);
        check.due("ring(a)", house.ring(a), 3);
        check.dueRow(house, a, b, c);
        check.due("book()", house.book(), 3);
        check.due("the next year", house.count(2), 1);
    }

    /** The example above is the one that README.md tells. */
    private static void checkLines(String readme) throws Exception {
        int begin = readme.indexOf("```java");
        int end = readme.indexOf("```", begin + 3);
        check.due("README.md has an example", begin >= 0 && end > begin, true);
        String own = Files.readString(Path.of("src/test/java/ReadmeTest.java"));
        List<String> told = new ArrayList<>();
        for (String line : readme.substring(begin, end).split("\n")) {
            if (line.contains(";")) {
                told.add(line.substring(0, line.indexOf(';')));
            }
        }
        check.due("lines of the example", told.size(), 12);
        for (String line : told) {
            check.due(line + " stands in this test", own.contains(line), true);
        }
    }

    private static void checkCalls(String readme) {
        for (java.lang.reflect.Method method : HomeRings.class.getMethods()) {
            if (method.getDeclaringClass() == HomeRings.class) {
                boolean named = readme.matches("(?s).*\n\\|[^\n]*`" + method.getName() + "\\(.*");
                check.due(method.getName() + " stands in a table", named, true);
            }
        }
    }
}
