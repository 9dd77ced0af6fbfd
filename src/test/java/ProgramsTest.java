/** Promises 1 to 4: a new object, program, act, begin. */
public final class ProgramsTest {
    private static final int LEAST = Integer.MIN_VALUE;
    private static final int MOST = Integer.MAX_VALUE;

    public static void main(String[] args) {
        newObject();
        twelvePrograms();
        boundsOfActs();
        orderOfRefusals();
        twentyActs();
        beginRefuses();
        beginTakesTheirPlace();
        beginInTheMidst();
        programsGrowDuringARun();
        Check.end();
    }

    private static void newObject() {
        Counted x = new Counted();
        Check.due("new: act(6, 0)", x.act(6, 0), -3);
        Check.due("new: begin(0, 1, 0)", x.begin(0, 1, 0), -1);
        Check.due("new: step(1)", x.step(1), -3);
        Check.due("new: fill(0, 0)", x.fill(0, 0), -3);
        for (int what = 0; what < 6; what++) {
            Check.due("new: told", x.told(what), -3);
        }
        Check.due("new: thread(0, 0)", x.thread(0, 0), -1);
        Check.due("new: queued(0)", x.queued(0), -1);
        Check.due("new: box(0, 1)", x.box(0, 1), -1);
        Check.due("new: trace(-1, 0)", x.trace(-1, 0), -1);
        Check.due("new: share(0)", x.share(0), -1);
        Check.due("new: program()", x.program(), 0);
    }

    private static void twelvePrograms() {
        Counted x = new Counted();
        for (int p = 0; p < 12; p++) {
            Check.due("program()", x.program(), p);
            Check.due("a new program has no acts", x.act(Check.LOG, 0), 1);
        }
        Check.due("the thirteenth", x.program(), -4);
        Check.due("the thirteenth, again", x.program(), -4);
        Check.due("the twelfth is still the latest", x.act(Check.LOG, 0), 2);
        Check.due("begin(11, 1, 0)", x.begin(11, 1, 0), 1);
        Check.due("begin(12, 1, 0)", x.begin(12, 1, 0), -1);
    }

    private static void bound(int kind, int least, int most) {
        Counted x = new Counted();
        x.program();
        Check.due("act(" + kind + ", below)", x.act(kind, least - 1), -2);
        Check.due("act(" + kind + ", above)", x.act(kind, most + 1), -2);
        Check.due("act(" + kind + ", far below)", x.act(kind, LEAST), -2);
        Check.due("act(" + kind + ", far above)", x.act(kind, MOST), -2);
        Check.due("act(" + kind + ", least)", x.act(kind, least), 1);
        Check.due("act(" + kind + ", most)", x.act(kind, most), 2);
    }

    private static void free(int kind) {
        Counted x = new Counted();
        x.program();
        Check.due("act(" + kind + ", least of all)", x.act(kind, LEAST), 1);
        Check.due("act(" + kind + ", -1)", x.act(kind, -1), 2);
        Check.due("act(" + kind + ", most of all)", x.act(kind, MOST), 3);
    }

    private static void boundsOfActs() {
        bound(Check.PUT, 0, 7);
        bound(Check.TAKE, 0, 7);
        bound(Check.READ, 0, 7);
        free(Check.SET);
        free(Check.ADD);
        bound(Check.FORK, 0, 11);
        free(Check.YIELD);
        bound(Check.DELAY, 0, 100);
        bound(Check.JUMP, 0, 20);
        bound(Check.ZERO, 0, 20);
        free(Check.LOG);
        bound(Check.RAISE, 1, 9);
        bound(Check.THROW, 1, 9);
        bound(Check.CATCH, 0, 20);
        free(Check.LEAVE);
        bound(Check.MASK, 0, 1);
        free(Check.MINE);
        Counted x = new Counted();
        x.program();
        int[] wrong = {-1, 17, LEAST, MOST};
        for (int kind : wrong) {
            Check.due("act(" + kind + ", 0)", x.act(kind, 0), -2);
        }
        Check.due("refusals left it without acts", x.act(Check.YIELD, 0), 1);
    }

    private static void orderOfRefusals() {
        Counted x = new Counted();
        Check.due("no program, a wrong kind", x.act(17, 0), -2);
        Check.due("no program, a wrong operand", x.act(Check.PUT, 8), -2);
        Check.due("no program", x.act(Check.PUT, 7), -3);
    }

    private static void twentyActs() {
        Counted x = new Counted();
        x.program();
        for (int i = 1; i <= 20; i++) {
            Check.due("act " + i, x.act(Check.ADD, i), i);
        }
        Check.due("act 21", x.act(Check.ADD, 1000), -4);
        Check.due("act 21, wrong", x.act(Check.PUT, 8), -2);
        x.begin(0, 10, 0);
        Check.due("three turns", x.step(10), 3);
        Check.due("each of the twenty was done", x.thread(0, 3), 210);
        x.program();
        Check.due("the next program begins from 0 on", x.act(Check.ADD, 1), 1);
    }

    private static void beginRefuses() {
        Counted x = Check.with(Check.acts(Check.LOG, 0, Check.LOG, 0, Check.PUT, 0));
        int[] none = {-1, 1, 11, 12, LEAST, MOST};
        for (int p : none) {
            Check.due("begin(" + p + ", 1, 0)", x.begin(p, 1, 0), -1);
            Check.due("begin(" + p + ", 0, 0)", x.begin(p, 0, 0), -1);
        }
        int[] wrong = {0, 11, -1, LEAST, MOST};
        for (int quantum : wrong) {
            Check.due("begin(0, " + quantum + ", 0)", x.begin(0, quantum, 0), -2);
        }
        Check.due("no run came of it", x.told(0), -3);
        Check.due("begin(0, 1, 5)", x.begin(0, 1, 5), 1);
        x.step(1);
        Check.due("begin(0, 0, 6)", x.begin(0, 0, 6), -2);
        Check.due("begin(1, 1, 6)", x.begin(1, 1, 6), -1);
        Check.due("the run is as it was: clock", x.told(1), 1);
        Check.dueTrace("the run is as it was", x, 0, 5);
        Check.due("the quantum is as it was", x.step(1), 1);
        Check.due("the quantum is as it was: act", x.thread(0, 2), 2);
    }

    private static void beginTakesTheirPlace() {
        Counted x = Check.with(
                Check.acts(Check.CATCH, 5, Check.MASK, 1, Check.FORK, 1, Check.LOG, 0, Check.PUT, 2, Check.TAKE, 3),
                Check.acts(Check.MINE, 0, Check.ADD, -1, Check.THROW, 4, Check.TAKE, 5));
        Check.due("begin(0, 10, 7)", x.begin(0, 10, 7), 1);
        Check.due("step(500)", x.step(500), 3);
        Check.due("it is over", x.told(0), 1);
        Check.due("exceptions 10 came", x.told(5), 1);
        Check.due("begin(0, 10, MOST)", x.begin(0, 10, MOST), 1);
        Check.dueThread("begun again", x, 0, 0, 0, 0, MOST, 0, 0, 0, 0, 0, -3);
        int[] told = {0, 0, 0, 1, 1, 0};
        for (int what = 0; what < told.length; what++) {
            Check.due("begun again: told(" + what + ")", x.told(what), told[what]);
        }
        Check.dueQueue("begun again", x, 0);
        Check.dueTrace("begun again", x);
        for (int b = 0; b < 8; b++) {
            Check.due("begun again: empty", x.box(b, 0), -3);
            Check.due("begun again: has none", x.box(b, 1), 0);
            Check.due("begun again: none puts", x.box(b, 2), 0);
            Check.due("begun again: none takes", x.box(b, 3), 0);
            Check.due("begun again: none reads", x.box(b, 4), 0);
        }
        Check.due("begun again: thread 1", x.thread(1, 0), -1);
        Check.dueThrow("begun again: share(0)", x, 0);
        Check.due("another program", x.begin(1, 1, 0), 1);
        Check.due("another program: thread(0, 1)", x.thread(0, 1), 1);
    }

    /** Handlers, masks, pending ones, queue and values of the run before are not those of the new one. */
    private static void beginInTheMidst() {
        Counted x = Check.with(
                Check.acts(Check.CATCH, 1, Check.CATCH, 2, Check.MASK, 1, Check.FORK, 1, Check.FORK, 1,
                        Check.YIELD, 0, Check.JUMP, 5),
                Check.acts(Check.SET, 0, Check.THROW, 3, Check.THROW, 4, Check.YIELD, 0, Check.JUMP, 3));
        x.begin(0, 10, 0);
        for (int b = 0; b < 8; b++) {
            x.fill(b, b);
        }
        x.step(2);
        Check.dueThread("in the midst", x, 0, Check.READY, 0, 6, 2, 2, 1, 2, 0, 1, -3);
        Check.dueQueue("in the midst", x, 2, 0, 1);
        Check.due("begin(1, 1, 9)", x.begin(1, 1, 9), 1);
        Check.dueThread("anew", x, 0, Check.READY, 1, 0, 9, 0, 0, 0, 0, 0, -3);
        Check.dueQueue("anew", x, 0);
        for (int b = 0; b < 8; b++) {
            Check.due("anew: box(" + b + ", 1)", x.box(b, 1), 0);
        }
        Check.due("no exception waited for it", x.step(1), 1);
        Check.dueThread("its first act", x, 0, Check.READY, 1, 1, 0, 0, 0, 0, 0, 1, -3);
    }

    private static void programsGrowDuringARun() {
        Counted x = Check.with(Check.acts(Check.FORK, 1, Check.YIELD, 0));
        x.begin(0, 2, 0);
        x.step(1);
        Check.due("FORK of a program that there is not", x.thread(0, 3), -1);
        Check.due("no thread came", x.told(3), 1);
        Check.due("behind the last act, not yet run", x.thread(0, 0), 0);
        x.act(Check.ADD, 8);
        x.step(1);
        Check.due("the new act was done", x.thread(0, 3), 7);
        Check.due("and then it ended", x.thread(0, 0), Check.ENDED);
        x.program();
        x.begin(0, 2, 0);
        x.step(1);
        Check.due("FORK of a program without acts", x.thread(0, 3), 1);
        Check.due("it came", x.told(3), 2);
    }
}
