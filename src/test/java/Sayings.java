import java.lang.reflect.InvocationTargetException;
import java.lang.reflect.Method;
import java.util.ArrayList;
import java.util.Comparator;
import java.util.List;

/** Finds and runs the tests that bear words of the document, so that none can be left out of a list. */
final class Sayings {
    private Sayings() {
    }

    static List<Method> of(Class<?> tests) {
        List<Method> found = new ArrayList<>();
        for (Method method : tests.getDeclaredMethods()) {
            if (method.isAnnotationPresent(Says.class)) {
                found.add(method);
            }
        }
        found.sort(Comparator.comparing(Sayings::promise).thenComparing(Method::getName));
        return found;
    }

    static int promise(Method method) {
        return method.getAnnotation(Says.class).promise();
    }

    static String text(Method method) {
        return method.getAnnotation(Says.class).text();
    }

    static void run(Class<?> tests) {
        for (Method method : of(tests)) {
            Check.under(place(promise(method)) + " \"" + text(method) + "\" (" + method.getName() + ")");
            runOne(method);
        }
        Check.end();
    }

    private static String place(int promise) {
        return promise == 0 ? "terms" : "promise " + promise;
    }

    /** What a call throws where nothing is due to be thrown is one wrong answer more, not the end. */
    private static void runOne(Method method) {
        try {
            method.setAccessible(true);
            method.invoke(null);
        } catch (InvocationTargetException e) {
            Check.fails("threw " + e.getCause());
        } catch (IllegalAccessException e) {
            Check.fails("could not be run: " + e);
        }
    }
}
