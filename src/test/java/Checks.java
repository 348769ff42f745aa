import java.lang.reflect.InvocationTargetException;
import java.lang.reflect.Method;
import java.lang.reflect.Modifier;
import java.util.Map;
import java.util.TreeMap;

/** Runs the tests of a class, counts the answers that are not as due, and ends the run. */
final class Checks {
    interface Call {
        int answer();
    }

    interface Deed {
        void happen();
    }

    private static volatile String test = "";
    private static int checked = 0;
    private static int wrong = 0;

    // Far above what any test class needs, even on a slow machine.
    private static final long LONGEST_MILLIS = 300_000;

    private Checks() {}

    /** Ends the whole run as failed if it doesn't end by itself: a call might go on for ever. */
    static void watch() {
        Thread watcher = new Thread(() -> {
            try {
                Thread.sleep(LONGEST_MILLIS);
            } catch (InterruptedException e) {
                return;
            }
            System.out.println(test + "does not end");
            Runtime.getRuntime().halt(1);
        });
        watcher.setDaemon(true);
        watcher.start();
    }

    /**
     * Runs every test of a class, by name, and ends. A test is a static method that takes nothing
     * and is not private: so none can be written and then forgotten in a list.
     */
    static void runAll(Class<?> tests) {
        watch();
        Map<String, Method> found = new TreeMap<>();
        for (Method m : tests.getDeclaredMethods()) {
            boolean open = Modifier.isStatic(m.getModifiers()) && !Modifier.isPrivate(m.getModifiers());
            if (open && !m.isSynthetic() && m.getParameterCount() == 0) {
                found.put(m.getName(), m);
            }
        }
        for (Method m : found.values()) {
            run(m);
        }
        System.out.print(found.size() + " tests, ");
        test = "";
        end();
    }

    private static void run(Method m) {
        test = m.getName() + ": ";
        int before = checked;
        int wrongBefore = wrong;
        try {
            m.invoke(null);
        } catch (InvocationTargetException e) {
            due("the test itself", "throws." + e.getCause().getClass().getSimpleName(), "ends");
        } catch (IllegalAccessException e) {
            due("the test itself", "can't be called", "runs");
        }
        if (checked == before) {
            due("the test itself", "checks nothing", "checks something");
        }
        System.out.println((wrong == wrongBefore ? "ok " : "WRONG ") + m.getName());
    }

    /** What a call answers, or throws.Name for the exception that it throws. */
    static String outcome(Call call) {
        try {
            return Integer.toString(call.answer());
        } catch (RuntimeException e) {
            return "throws." + e.getClass().getSimpleName();
        }
    }

    static String outcome(Deed deed) {
        try {
            deed.happen();
            return "done";
        } catch (RuntimeException e) {
            return "throws." + e.getClass().getSimpleName();
        }
    }

    static void due(String what, String got, String want) {
        checked++;
        if (!got.equals(want)) {
            wrong++;
            System.out.println(test + what + ": " + got + ", due is " + want);
        }
    }

    static void due(String what, int got, int want) {
        due(what, Integer.toString(got), Integer.toString(want));
    }

    static void done(String what, Deed deed) {
        due(what, outcome(deed), "done");
    }

    static void illegalArgument(String what, Deed deed) {
        due(what, outcome(deed), "throws.IllegalArgumentException");
    }

    static void illegalState(String what, Deed deed) {
        due(what, outcome(deed), "throws.IllegalStateException");
    }

    static void indexOut(String what, Deed deed) {
        due(what, outcome(deed), "throws.IndexOutOfBoundsException");
    }

    static void unsupported(String what, Deed deed) {
        due(what, outcome(deed), "throws.UnsupportedOperationException");
    }

    static void end() {
        System.out.println(checked + " checked, " + wrong + " wrong");
        if (wrong != 0 || checked == 0) {
            System.exit(1);
        }
    }
}
