import java.lang.reflect.InvocationTargetException;
import java.lang.reflect.Method;
import java.util.Arrays;
import java.util.Comparator;

/** Runs every method whose name begins with promise and a number, and asks for one for each promise. */
public final class AllTests {
    private static final int PROMISES = 62;
    private static final Class<?>[] TESTS = {
        InputTests.class, TextTests.class, NightTests.class, GuestTests.class, UmbrellaTests.class,
        RegisterTests.class, AlibiTests.class, PredictionTests.class, AddingTests.class, ComingAndGoingTests.class,
        SettingTests.class, UndoTests.class, SnapshotTests.class, WritingTests.class, FaceTests.class,
        ReadmeTests.class, RandomRuns.class};

    private static final boolean[] TESTED = new boolean[PROMISES + 1];
    private static int passed = 0;
    private static int failed = 0;

    private AllTests() {
    }

    public static void main(String[] args) throws IllegalAccessException {
        for (Class<?> tests : TESTS) {
            Method[] methods = tests.getDeclaredMethods();
            Arrays.sort(methods, Comparator.comparing(Method::getName));
            for (Method method : methods) {
                if (method.getName().matches("(promise[0-9]|all)\\w+")) {
                    run(method);
                }
            }
        }
        for (int promise = 1; promise <= PROMISES; promise++) {
            if (!TESTED[promise]) {
                failed++;
                System.out.println("promise " + promise + " has no test");
            }
        }
        System.out.println("tests of the project: " + passed + " right, " + failed + " wrong");
        if (failed > 0) {
            System.exit(1);
        }
    }

    private static void run(Method method) throws IllegalAccessException {
        if (method.getName().startsWith("promise")) {
            TESTED[Integer.parseInt(method.getName().replaceAll("^promise([0-9]+).*", "$1"))] = true;
        }
        try {
            method.invoke(null);
            passed++;
        } catch (InvocationTargetException thrown) {
            failed++;
            System.out.println("wrong: " + method.getDeclaringClass().getName() + "." + method.getName());
            thrown.getCause().printStackTrace(System.out);
        }
    }
}
