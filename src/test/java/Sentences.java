import java.lang.reflect.InvocationTargetException;
import java.lang.reflect.Method;
import java.util.ArrayList;
import java.util.Comparator;
import java.util.List;

/** Runs the tests of a class that say for which words of the document they are. */
final class Sentences {
    private Sentences() {
    }

    static void run(Class<?> tests) {
        Check check = new Check(tests.getSimpleName());
        for (Method test : testsOf(tests)) {
            Says says = test.getAnnotation(Says.class);
            check.about(test.getName() + " (" + says.at() + ", \"" + says.value() + "\")");
            try {
                test.setAccessible(true);
                test.invoke(null, check);
            } catch (InvocationTargetException e) {
                check.failed(e.getCause());
            } catch (IllegalAccessException e) {
                check.failed(e);
            }
        }
        check.end();
    }

    static List<Method> testsOf(Class<?> tests) {
        List<Method> found = new ArrayList<>();
        for (Method method : tests.getDeclaredMethods()) {
            if (method.isAnnotationPresent(Says.class)) {
                found.add(method);
            }
        }
        found.sort(Comparator.comparing(Method::getName));
        return found;
    }
}
