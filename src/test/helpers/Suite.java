import java.lang.reflect.Method;
import java.lang.reflect.Modifier;
import java.util.Arrays;
import java.util.Comparator;
import java.util.List;

/**
 * Runs the tests of a class: its static methods without parameters that are named after a part of the document, a _
 * and the sentence that they hold to.
 */
final class Suite {
    private static String test = "";
    private static int answers = 0;
    private static int wrong = 0;

    private Suite() {
    }

    static void due(String what, int got, int want) {
        answers++;
        if (got != want) {
            wrong++;
            System.out.println(test + ": " + what + " answered " + got + ", due is " + want);
        }
    }

    static void due(String what, List<Integer> got, List<Integer> want) {
        answers++;
        if (!got.equals(want)) {
            wrong++;
            System.out.println(test + ": " + what + " told " + got + ", due is " + want);
        }
    }

    /** Runs them all, and ends with 1 if an answer is wrong or a part of the document has no test. */
    static void run(Class<?> tests, List<String> parts) throws ReflectiveOperationException {
        Method[] methods = tests.getDeclaredMethods();
        Arrays.sort(methods, Comparator.comparing(Method::getName));
        int many = 0;
        for (String part : parts) {
            int before = many;
            for (Method method : methods) {
                if (isTest(method) && method.getName().startsWith(part + "_")) {
                    runOne(method);
                    many++;
                }
            }
            if (many == before) {
                wrong++;
                System.out.println("there is no test of " + part);
            }
        }
        if (many != Arrays.stream(methods).filter(Suite::isTest).count()) {
            wrong++;
            System.out.println("there is a test of no part");
        }
        System.out.println(wrong == 0 ? many + " tests, " + answers + " answers are as due" : wrong + " things are not as due");
        if (wrong != 0) {
            System.exit(1);
        }
    }

    private static boolean isTest(Method method) {
        return Modifier.isStatic(method.getModifiers()) && method.getParameterCount() == 0
            && !method.isSynthetic() && method.getName().indexOf('_') > 0;
    }

    private static void runOne(Method method) throws ReflectiveOperationException {
        test = method.getName();
        method.setAccessible(true);
        method.invoke(null);
    }
}
