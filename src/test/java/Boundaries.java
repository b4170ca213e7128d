import java.lang.reflect.InvocationTargetException;
import java.lang.reflect.Method;
import java.util.Arrays;
import java.util.Comparator;
import java.util.List;

/** Runs the boundary tests of a class: each method that says which words of the document it holds. */
final class Boundaries {
    private Boundaries() {
    }

    static List<Method> of(Class<?> tests) {
        return Arrays.stream(tests.getDeclaredMethods())
            .filter(method -> method.isAnnotationPresent(Says.class))
            .sorted(Comparator.comparing(Method::getName))
            .toList();
    }

    /** The two figures behind "promise" in a test's name. */
    static int promiseOf(Method test) {
        return Integer.parseInt(test.getName().substring(7, 9));
    }

    static void run(Class<?> tests, Check check) throws IllegalAccessException {
        for (Method test : of(tests)) {
            check.begin(test.getName());
            try {
                test.invoke(null);
            } catch (InvocationTargetException thrown) {
                check.holds("no call throws " + thrown.getCause(), false);
            }
            check.holds("something is looked at", check.sinceBegin() > 0);
        }
        check.end(tests.getSimpleName());
    }
}
