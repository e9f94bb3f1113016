import java.lang.reflect.InvocationTargetException;
import java.lang.reflect.Method;
import java.util.Arrays;
import java.util.Comparator;

/** Compares answers with those that are due, prints each that differs, and ends the test. */
final class Check {
    private final String test;
    private String part = "";
    private int asked;
    private int wrong;

    Check(String test) {
        this.test = test;
    }

    void due(String call, long got, long want) {
        asked++;
        if (got != want) {
            wrong++;
            System.out.println(test + ": " + part + call + " answered " + got + ", due is " + want);
        }
    }

    void holds(String what, boolean true_) {
        due(what, true_ ? 1 : 0, 1);
    }

    /** Runs each method of a test that is named after a promise, so that none can be forgotten, and ends the test. */
    void allPromises(Class<?> tests) throws IllegalAccessException {
        Method[] methods = tests.getDeclaredMethods();
        Arrays.sort(methods, Comparator.comparing(Method::getName));
        int run = 0;
        for (Method method : methods) {
            if (method.getName().startsWith("promise")) {
                runPart(method);
                run++;
            }
        }
        System.out.println(test + ": " + run + " boundaries");
        end();
    }

    private void runPart(Method method) throws IllegalAccessException {
        int before = asked;
        part = method.getName() + ": ";
        try {
            method.invoke(null);
        } catch (InvocationTargetException thrown) {
            wrong++;
            System.out.println(test + ": " + part + "threw " + thrown.getCause());
        }
        holds("it asks something", asked > before);
        part = "";
    }

    void end() {
        System.out.println(test + ": " + asked + " answers, " + wrong + " wrong");
        if (wrong != 0 || asked == 0) {
            System.exit(1);
        }
    }
}
