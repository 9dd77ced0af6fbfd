/** Promises 8 and 11: thread and trace, their answers, their edges, their refusals. */
public final class QueriesTest {
    public static void main(String[] args) {
        threadRefuses();
        threadAnswers();
        negativeRegisters();
        traceRefuses();
        hundredRows();
        askingChangesNothing();
        Check.end();
    }

    private static void threadRefuses() {
        Counted x = Check.with(Check.acts(Check.YIELD, 0));
        Check.due("no run: thread(0, 0)", x.thread(0, 0), -1);
        Check.due("no run: thread(0, 10)", x.thread(0, 10), -1);
        x.begin(0, 1, 0);
        int[] none = {-1, 1, 23, 24, Integer.MIN_VALUE, Integer.MAX_VALUE};
        for (int t : none) {
            Check.due("thread(" + t + ", 0)", x.thread(t, 0), -1);
            Check.due("thread(" + t + ", 10)", x.thread(t, 10), -1);
        }
        int[] wrong = {-1, 10, Integer.MIN_VALUE, Integer.MAX_VALUE};
        for (int what : wrong) {
            Check.due("thread(0, " + what + ")", x.thread(0, what), -2);
        }
    }

    private static void threadAnswers() {
        Counted x = Check.with(
                Check.acts(Check.FORK, 1, Check.FORK, 2, Check.YIELD, 0, Check.THROW, 5, Check.THROW, 6,
                        Check.YIELD, 0, Check.DELAY, 30),
                Check.acts(Check.RAISE, 9),
                Check.acts(Check.CATCH, 1, Check.CATCH, 2, Check.MASK, 1, Check.YIELD, 0, Check.YIELD, 0,
                        Check.LEAVE, 0, Check.DELAY, 30));
        x.begin(0, 10, 44);
        Check.dueThread("a new one", x, 0, 0, 0, 0, 44, 0, 0, 0, 0, 0, -3);
        x.step(1);
        Check.dueThread("a forked one", x, 1, 0, 1, 0, 44, 0, 0, 0, 0, 0, -3);
        Check.dueThread("another one", x, 2, 0, 2, 0, 1, 0, 0, 0, 0, 0, -3);
        x.step(2);
        Check.dueThread("ended by 9", x, 1, 6, 1, -3, 44, 0, 0, 0, 9, 1, -3);
        Check.dueThread("masked, two handlers", x, 2, 0, 2, 4, 1, 2, 1, 0, 0, 1, -3);
        x.step(1);
        Check.dueThread("two are pending", x, 2, 0, 2, 4, 1, 2, 1, 2, 0, 1, -3);
        x.step(2);
        Check.dueThread("delayed", x, 0, 4, 0, 7, 2, 0, 0, 0, 0, 3, 35);
    }

    private static void negativeRegisters() {
        int[] values = {-1, -2, -3, -4, Integer.MIN_VALUE};
        for (int value : values) {
            Counted x = Check.with(Check.acts(Check.LOG, 0, Check.PUT, 0, Check.YIELD, 0));
            x.begin(0, 10, value);
            x.step(1);
            Check.due("its register", x.thread(0, 3), value);
            Check.due("its row", x.trace(0, 1), value);
            Check.due("its value", x.box(0, 0), value);
        }
    }

    private static void traceRefuses() {
        Counted x = Check.with(Check.acts(Check.LOG, 0, Check.YIELD, 0));
        Check.due("no run: trace(-1, 0)", x.trace(-1, 0), -1);
        Check.due("no run: trace(0, 2)", x.trace(0, 2), -1);
        x.begin(0, 10, 3);
        Check.due("no rows: trace(-1, 0)", x.trace(-1, 0), 0);
        Check.due("no rows: trace(-1, 1)", x.trace(-1, 1), 0);
        Check.due("no rows: trace(0, 0)", x.trace(0, 0), -1);
        x.step(1);
        int[] none = {-2, 1, 100, Integer.MIN_VALUE, Integer.MAX_VALUE};
        for (int i : none) {
            Check.due("trace(" + i + ", 0)", x.trace(i, 0), -1);
            Check.due("trace(" + i + ", 2)", x.trace(i, 2), -1);
        }
        int[] wrong = {-1, 2, Integer.MIN_VALUE, Integer.MAX_VALUE};
        for (int what : wrong) {
            Check.due("trace(0, " + what + ")", x.trace(0, what), -2);
            // The document names no call of trace that does not look at what.
            Check.due("trace(-1, " + what + ")", x.trace(-1, what), -2);
        }
        Check.due("one row: trace(-1, 1)", x.trace(-1, 1), 1);
        Check.dueTrace("one row", x, 0, 3);
    }

    private static void hundredRows() {
        Counted x = Check.with(Check.acts(Check.LOG, 0, Check.ADD, 1, Check.JUMP, 0));
        x.begin(0, 3, 1000);
        x.step(99);
        Check.due("99 rows", x.trace(-1, 0), 99);
        Check.due("row 99", x.trace(99, 0), -1);
        x.step(1);
        Check.due("100 rows", x.trace(-1, 0), 100);
        x.step(100);
        Check.due("others are not kept", x.trace(-1, 0), 100);
        for (int i = 0; i < 100; i++) {
            Check.due("row " + i, x.trace(i, 1), 1000 + i);
        }
        Check.due("row 100", x.trace(100, 1), -1);
        Check.due("the thread went on", x.thread(0, 3), 1200);
    }

    private static void askingChangesNothing() {
        Counted x = Check.with(Check.acts(Check.FORK, 0, Check.LOG, 0, Check.YIELD, 0));
        x.begin(0, 2, 6);
        x.step(5);
        for (int i = 0; i < 3; i++) {
            Check.due("clock", x.told(1), 5);
            Check.due("state", x.thread(0, 0), 0);
            Check.dueQueue("the queue", x, 0, 3, 2, 1);
            Check.due("rows", x.trace(-1, 0), 3);
            Check.due("box", x.box(0, 0), -3);
            Check.due("share", x.share(0), 400);
        }
    }
}
