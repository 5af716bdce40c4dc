import java.lang.reflect.InvocationTargetException;
import java.lang.reflect.Method;
import java.util.Set;
import java.util.TreeMap;
import java.util.TreeSet;
import java.util.regex.Matcher;
import java.util.regex.Pattern;

/**
 * The sentences of the document that name a boundary case: each has a test of its own, a method named by its promise in
 * one of the classes here. Each promise must have one at least.
 */
public final class EdgesTest {
    private static final Class<?>[] EDGES = {PeopleEdges.class, TapeEdges.class, DaysEdges.class, TriedEdges.class,
        PairsEdges.class, RowsEdges.class, SheetsEdges.class, ShelvesEdges.class, KeptEdges.class};
    private static final Pattern NAME = Pattern.compile("promise(\\d+)_\\w+");
    private static final int PROMISES = 45;

    private final Set<Integer> tested = new TreeSet<>();
    private int tests;
    private int failed;

    public static void main(String[] args) throws IllegalAccessException {
        EdgesTest test = new EdgesTest();
        for (Class<?> edges : EDGES) {
            test.runAll(edges);
        }
        System.out.println(test.tests + " tests, " + test.failed + " failed");
        if (test.tested.size() != PROMISES) {
            System.out.println("promises with a test of an edge: " + test.tested);
        }
        System.exit(test.failed == 0 && test.tested.size() == PROMISES ? 0 : 1);
    }

    private void runAll(Class<?> edges) throws IllegalAccessException {
        TreeMap<String, Method> methods = new TreeMap<>();
        for (Method method : edges.getDeclaredMethods()) {
            Matcher name = NAME.matcher(method.getName());
            if (name.matches()) {
                tested.add(Integer.valueOf(name.group(1)));
                methods.put(method.getName(), method);
            }
        }
        for (Method method : methods.values()) {
            run(edges.getSimpleName() + "." + method.getName(), method);
        }
    }

    private void run(String name, Method method) throws IllegalAccessException {
        Due due = new Due(name);
        boolean hasEnded = true;
        try {
            method.setAccessible(true);
            method.invoke(null, due);
        } catch (InvocationTargetException e) {
            hasEnded = false;
            e.getCause().printStackTrace(System.out);
        }
        tests++;
        if (!hasEnded || !due.isMet()) {
            failed++;
            System.out.println(name + " failed");
        }
    }
}
