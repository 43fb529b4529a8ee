import java.lang.reflect.InvocationTargetException;
import java.lang.reflect.Method;
import java.util.ArrayList;
import java.util.Comparator;
import java.util.List;

/** Runs the tests of a class that bear @Says, each by itself, so that one that fails hides no other. */
final class Sentences {
    private Sentences() { }

    static List<Method> of(Class<?> tests) {
        List<Method> found = new ArrayList<>();
        for (Method m : tests.getDeclaredMethods()) {
            if (m.isAnnotationPresent(Says.class)) {
                found.add(m);
            }
        }
        found.sort(Comparator.comparing(Method::getName));
        return found;
    }

    static void run(Class<?> tests) {
        int failed = 0;
        List<Method> all = of(tests);
        for (Method m : all) {
            failed += holds(m) ? 0 : 1;
        }
        System.out.println(tests.getSimpleName() + ": " + (all.size() - failed) + " of " + all.size() + " tests hold");
        if (failed != 0 || all.isEmpty()) {
            System.exit(1);
        }
    }

    private static boolean holds(Method test) {
        Due due = new Due(test.getName());
        try {
            test.invoke(null, due);
        } catch (InvocationTargetException e) {
            due.due("an exception, " + e.getCause(), 1, 0);
        } catch (IllegalAccessException e) {
            due.due("not to be called, " + e, 1, 0);
        }
        if (due.wrong() > 0) {
            System.out.println("  of: " + String.join(" .. ", test.getAnnotation(Says.class).value()));
        }
        return due.wrong() == 0;
    }
}
