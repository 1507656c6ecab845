import java.lang.reflect.InvocationTargetException;
import java.lang.reflect.Method;
import java.util.ArrayList;
import java.util.Comparator;
import java.util.List;

/** Runs every method of a test that says which sentence it is for, so that none is forgotten. */
final class Sentences {
    private Sentences() {
    }

    static void test(Class<?> test) {
        for (Method one : methodsOf(test)) {
            Says says = one.getAnnotation(Says.class);
            Due.about(one.getName() + " (" + says.under() + ": \"" + says.words() + "\")");
            run(one);
        }
        Due.end();
    }

    static List<Method> methodsOf(Class<?> test) {
        List<Method> found = new ArrayList<>();
        for (Method one : test.getDeclaredMethods()) {
            if (one.isAnnotationPresent(Says.class)) {
                found.add(one);
            }
        }
        found.sort(Comparator.comparing(Method::getName));
        return found;
    }

    private static void run(Method one) {
        int before = Due.compared();
        try {
            one.invoke(null);
        } catch (InvocationTargetException e) {
            Due.is("ended by " + e.getCause(), 1, 0);
        } catch (IllegalAccessException e) {
            Due.is("not run: " + e, 1, 0);
        }
        Due.is("something is compared", Due.compared() > before ? 1 : 0, 1);
    }
}
