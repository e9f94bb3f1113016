import java.lang.reflect.Method;
import java.util.regex.Matcher;
import java.util.regex.Pattern;

/** Each of the 30 promises has a test of a boundary that bears its number, and no such test is out of reach. */
public final class PromisesTest {
    private static final Class<?>[] TESTS = {ActsTest.class, EmptyTest.class, InterplayTest.class, LimitsTest.class,
        OrdersTest.class, RangesTest.class, RefusedTest.class, SumsTest.class, TextBoundsTest.class, TimesTest.class};

    private static final Check CHECK = new Check("PromisesTest");

    public static void main(String[] args) {
        int[] tests = new int[31];
        for (Class<?> test : TESTS) {
            for (Method method : test.getDeclaredMethods()) {
                Matcher number = Pattern.compile("promise(\\d\\d)_.*").matcher(method.getName());
                if (number.matches()) {
                    tests[Integer.parseInt(number.group(1))]++;
                    CHECK.due("parameters of " + method.getName(), method.getParameterCount(), 0);
                }
            }
        }
        for (int promise = 1; promise <= 30; promise++) {
            CHECK.holds("promise " + promise + " has a test of a boundary", tests[promise] > 0);
        }
        CHECK.due("tests without a promise", tests[0], 0);
        CHECK.end();
    }
}
