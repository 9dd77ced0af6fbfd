import java.lang.reflect.InvocationTargetException;
import java.lang.reflect.Method;

/** What the tests of the boundary cases share: each of their methods that has @Says is a test of its own. */
abstract class Edges {
    static final int LEAST = Integer.MIN_VALUE;
    static final int MOST = Integer.MAX_VALUE;

    /** Runs every test of a class, so that none is forgotten in a list. */
    static void runAll(Class<?> tests) {
        int found = 0;
        for (Method method : tests.getDeclaredMethods()) {
            Says says = method.getAnnotation(Says.class);
            if (says != null) {
                found++;
                run(method, says.value());
            }
        }
        System.out.println(found + " tests of boundary cases");
        Check.due("there are tests", found > 0 ? 1 : 0, 1);
        Check.end();
    }

    private static void run(Method method, String says) {
        int before = Check.wrong();
        try {
            method.invoke(null);
        } catch (InvocationTargetException thrown) {
            Check.due(method.getName() + " threw " + thrown.getCause() + " in " + Counted.latestCall(), 1, 0);
        } catch (IllegalAccessException hidden) {
            Check.due(method.getName() + " can't be run", 1, 0);
        }
        if (Check.wrong() > before) {
            System.out.println("  by " + method.getName() + ": \"" + says + "\"");
        }
    }

    /** Of the call that was made last. */
    static void due(long got, long want) {
        Check.due(Counted.latestCall(), got, want);
    }

    static void dueThread(Counted x, int t, int... want) {
        Check.dueThread("a thread", x, t, want);
    }

    static void dueQueue(Counted x, int... want) {
        Check.dueQueue("the queue", x, want);
    }

    static void dueTrace(Counted x, int... want) {
        Check.dueTrace("the trace", x, want);
    }

    /** What a box answers to 0 .. 4. */
    static void dueBox(Counted x, int box, int... want) {
        for (int what = 0; what < want.length; what++) {
            due(x.box(box, what), want[what]);
        }
    }

    /** What told answers to 0 .. 5. */
    static void dueTold(Counted x, int... want) {
        for (int what = 0; what < want.length; what++) {
            due(x.told(what), want[what]);
        }
    }

    static Counted begun(int quantum, int register, String... programs) {
        return Script.of(programs).begin(0, quantum, register).play();
    }
}
