import java.lang.reflect.InvocationTargetException;
import java.lang.reflect.Method;
import java.util.Arrays;
import java.util.Comparator;
import java.util.TreeSet;

/** Runs every static method of the test classes whose name begins with "promise", "terms" or "whole". */
public final class AllTests {
    private static final int PROMISES = 59;
    private static final int MOST_SECONDS = 300;
    static final Class<?>[] CLASSES = {
        ChangesTest.class, TanksTest.class, PipesTest.class, ConnectionsTest.class, TotalsTest.class,
        OutputTest.class, ScriptsTest.class, UndoTest.class,
        TermsEdges.class, WaysTermsEdges.class, ScriptTermsEdges.class,
        ChangesEdges.class, TanksEdges.class, PipesEdges.class, ConnectionsEdges.class, TotalsEdges.class,
        OutputEdges.class, ScriptsEdges.class, UndoEdges.class,
        SentencesTest.class, FaceTest.class, ReadmeTest.class, ComparisonTest.class};

    private static volatile String running = "";

    private AllTests() {
    }

    /** A call that never ends fails its test, and does not hold the run up. */
    private static void watch() {
        Thread watch = new Thread(() -> {
            try {
                Thread.sleep(MOST_SECONDS * 1000L);
            } catch (InterruptedException e) {
                return;
            }
            System.out.println("FAILED: " + running + " did not end");
            Runtime.getRuntime().halt(1);
        });
        watch.setDaemon(true);
        watch.start();
    }

    public static void main(String[] args) throws IllegalAccessException {
        watch();
        int passed = 0;
        int failed = 0;
        TreeSet<Integer> missing = new TreeSet<>();
        for (int promise = 1; promise <= PROMISES; promise++) {
            missing.add(promise);
        }
        for (Class<?> tests : CLASSES) {
            Method[] methods = tests.getDeclaredMethods();
            Arrays.sort(methods, Comparator.comparing(Method::getName));
            for (Method method : methods) {
                if (!method.getName().matches("(promise|terms|whole).*")) {
                    continue;
                }
                running = tests.getSimpleName() + "." + method.getName();
                missing.removeIf(promise -> method.getName().matches("promise" + promise + "(\\D.*)?"));
                if (passes(method)) {
                    passed++;
                } else {
                    failed++;
                    System.out.println("FAILED: " + running);
                }
            }
        }
        if (!missing.isEmpty()) {
            failed++;
            System.out.println("FAILED: no test for the promises " + missing);
        }
        System.out.println(passed + " passed, " + failed + " failed");
        if (failed != 0) {
            System.exit(1);
        }
    }

    private static boolean passes(Method method) throws IllegalAccessException {
        int before = Check.begin();
        try {
            method.setAccessible(true);
            method.invoke(null);
        } catch (InvocationTargetException e) {
            e.getCause().printStackTrace(System.out);
            return false;
        }
        return Check.wrong() == before;
    }
}
