import java.lang.reflect.InvocationTargetException;
import java.lang.reflect.Method;
import java.lang.reflect.Modifier;
import java.util.ArrayList;
import java.util.Comparator;
import java.util.List;

/** Runs each test of a sentence that names a boundary case, and tells the promise and the words that do not hold. */
public final class EdgeTest extends Checks {
    private static final int PROMISES = 18;

    public static void main(String[] args) {
        List<Method> tests = new ArrayList<>();
        addAllOf(EdgesOfMaking.class, tests);
        addAllOf(EdgesOfNarrowing.class, tests);
        addAllOf(EdgesOfSearching.class, tests);
        tests.sort(Comparator.comparingInt((Method m) -> m.getAnnotation(Says.class).promise())
                .thenComparing(Method::getName));
        int[] testsOf = new int[PROMISES + 1];
        for (Method test : tests) {
            testsOf[test.getAnnotation(Says.class).promise()]++;
            run(test);
        }
        about = "";
        for (int p = 1; p <= PROMISES; p++) {
            due("promise " + p + " has a test", testsOf[p] > 0, true);
        }
        System.out.println(tests.size() + " sentences: "
                + (wrong == 0 ? "all hold" : wrong + " answers are not as they say"));
        if (wrong != 0) {
            System.exit(1);
        }
    }

    private static void addAllOf(Class<?> edges, List<Method> tests) {
        for (Method m : edges.getDeclaredMethods()) {
            if (m.isAnnotationPresent(Says.class)) {
                tests.add(m);
            } else {
                // a test that bears no words would be left out without anyone knowing
                due(m + " is a helper", Modifier.isPrivate(m.getModifiers()), true);
            }
        }
    }

    /** A test that ends with an exception is wrong, and the others are still run. */
    private static void run(Method test) {
        Says says = test.getAnnotation(Says.class);
        about = "promise " + says.promise() + ", \"" + says.words() + "\", " + test.getName() + ": ";
        int before = made;
        try {
            test.invoke(null);
        } catch (InvocationTargetException e) {
            tell("threw " + e.getCause());
        } catch (IllegalAccessException e) {
            tell("could not be run: " + e);
        }
        if (made == before) {
            tell("looked at nothing");
        }
    }
}
