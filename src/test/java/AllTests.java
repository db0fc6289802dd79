import java.lang.reflect.InvocationTargetException;
import java.lang.reflect.Method;
import java.lang.reflect.Modifier;
import java.util.Arrays;
import java.util.Comparator;
import java.util.List;

/** Runs each static method without arguments of the test classes; its argument is the path of KiteLand.java. */
public final class AllTests {
    private static final Class<?>[] TESTS = {TrayTests.class, TextTests.class, FaultTests.class, ShadeTests.class,
        DeedTests.class, AheadTests.class, PlanTests.class, SeasonTests.class, MarkTests.class, ModelTests.class,
        RoomTests.class, EdgeTests.class, RefusalTests.class, GridTests.class};

    private AllTests() {
    }

    public static void main(String[] arguments) throws Exception {
        int passed = 0;
        int failed = 0;
        for (Class<?> tests : TESTS) {
            Method[] methods = tests.getDeclaredMethods();
            Arrays.sort(methods, Comparator.comparing(Method::getName));
            for (Method test : methods) {
                boolean isTest = Modifier.isStatic(test.getModifiers()) && !Modifier.isPrivate(test.getModifiers())
                        && !test.isSynthetic() && test.getParameterCount() == 0;
                if (isTest && passes(test)) {
                    passed++;
                } else if (isTest) {
                    failed++;
                }
            }
        }
        List<String> broken = arguments.length > 0 ? LanguageRules.broken(arguments[0]) : List.of("no source was told");
        broken.forEach(rule -> System.out.println("LANGUAGE.md: " + rule));
        passed += broken.isEmpty() ? 1 : 0;
        failed += broken.isEmpty() ? 0 : 1;
        System.out.println(passed + " passed, " + failed + " failed");
        System.exit(failed == 0 ? 0 : 1);
    }

    private static boolean passes(Method test) throws IllegalAccessException {
        String name = test.getDeclaringClass().getSimpleName() + "." + test.getName();
        List<String> wrong;
        try {
            test.invoke(null);
            wrong = Checks.takeWrong();
        } catch (InvocationTargetException e) {
            wrong = Checks.takeWrong();
            wrong.add("threw " + e.getCause());
        }
        wrong.forEach(line -> System.out.println(name + ": " + line));
        return wrong.isEmpty();
    }
}
