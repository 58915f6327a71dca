import java.lang.reflect.InvocationTargetException;
import java.lang.reflect.Method;
import java.util.ArrayList;
import java.util.Comparator;
import java.util.List;

/** Runs the tests of a class that stand beside words of the document. */
final class Suite {
    private Suite() {
    }

    static List<Method> testsOf(Class<?> tests) {
        List<Method> found = new ArrayList<>();
        for (Method method : tests.getDeclaredMethods()) {
            if (method.isAnnotationPresent(Says.class)) {
                found.add(method);
            }
        }
        // Java tells methods in no order; by names the output is the same each time.
        found.sort(Comparator.comparing(Method::getName));
        return found;
    }

    static void run(Class<?> tests) {
        List<Method> found = testsOf(tests);
        for (Method test : found) {
            Due.enter(test.getName());
            runOne(test);
            Due.leave();
        }
        System.out.println(found.size() + " tests");
        Due.close();
    }

    private static void runOne(Method test) {
        try {
            test.invoke(null);
        } catch (InvocationTargetException e) {
            Due.wrong("threw " + e.getCause());
        } catch (IllegalAccessException e) {
            Due.wrong("can't be run: " + e);
        }
    }
}
