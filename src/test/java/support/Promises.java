import java.lang.reflect.InvocationTargetException;
import java.lang.reflect.Method;
import java.util.Arrays;
import java.util.Comparator;

/** Runs tests that are named by the number of a promise: promise07BoxTooLarge tests promise 7. */
final class Promises {
    private static final String PREFIX = "promise";

    private Promises() {
    }

    /** Each promise of the two bounds and between them must have a test. */
    static void test(Class<?> tests, int first, int last) {
        Method[] all = tests.getDeclaredMethods();
        Arrays.sort(all, Comparator.comparing(Method::getName));
        int[] count = new int[100];
        for (Method method : all) {
            if (method.getName().matches(PREFIX + "\\d\\d\\w+")) {
                count[Integer.parseInt(method.getName().substring(PREFIX.length(), PREFIX.length() + 2))]++;
                run(method);
            }
        }
        Check.begin(tests.getSimpleName());
        for (int number = first; number <= last; number++) {
            Check.due("promise " + number + " has a test", count[number] > 0, true);
        }
        System.out.println(Arrays.stream(count).sum() + " tests of promises " + first + " to " + last);
        Check.end();
    }

    private static void run(Method method) {
        Check.begin(method.getName());
        method.setAccessible(true);
        try {
            method.invoke(null);
        } catch (InvocationTargetException e) {
            Check.thrown(e.getCause());
        } catch (IllegalAccessException e) {
            Check.thrown(e);
        }
    }
}
