import java.lang.reflect.InvocationTargetException;
import java.lang.reflect.Method;
import java.util.ArrayList;
import java.util.Comparator;
import java.util.List;

/** Runs the tests of a class that hold a sentence each. */
final class Sentences {
    private Sentences() {
    }

    /** Runs them all; a test that asks nothing, and a promise without a test, count as not as due. */
    static void runAll(Class<?> tests, Check check, int firstPromise, int lastPromise) throws IllegalAccessException {
        List<Method> found = new ArrayList<>();
        boolean[] held = new boolean[lastPromise + 1];
        for (Method method : tests.getDeclaredMethods()) {
            if (method.isAnnotationPresent(Sentence.class)) {
                found.add(method);
            }
        }
        found.sort(Comparator.comparingInt(Sentences::promiseOf).thenComparing(Method::getName));
        for (Method method : found) {
            run(method, check);
            held[promiseOf(method)] = true;
        }
        check.begin("");
        for (int promise = firstPromise; promise <= lastPromise; promise++) {
            check.due("promise " + promise + " has a test", held[promise], true);
        }
        System.out.println(tests.getSimpleName() + ": " + found.size() + " sentences");
    }

    private static int promiseOf(Method method) {
        return method.getAnnotation(Sentence.class).promise();
    }

    private static void run(Method method, Check check) throws IllegalAccessException {
        String says = method.getAnnotation(Sentence.class).says();
        check.begin("promise " + promiseOf(method) + " \"" + says + "\" (" + method.getName() + "): ");
        int before = check.asked();
        try {
            method.setAccessible(true);
            method.invoke(null);
        } catch (InvocationTargetException e) {
            check.fail("threw " + e.getCause());
        }
        if (check.asked() == before) {
            check.fail("asks nothing");
        }
    }
}
