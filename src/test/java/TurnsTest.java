/** Promises 6, 7, 9 and 12: step, told, queued, share; what a TURN is, and what ends all. */
public final class TurnsTest {
    public static void main(String[] args) {
        stepRefuses();
        threeThousandTurns();
        stepWhenOver();
        quantumAndEnd();
        yieldEndsTheTurn();
        jumps();
        arithmetic();
        delays();
        alone();
        delayedByWhenThenNumbers();
        clockLeaps();
        delayedComeBeforeTheTurn();
        twentyFourThreads();
        endKillsAll();
        toldRefuses();
        queuedRefuses();
        shares();
        Check.end();
    }

    private static void stepRefuses() {
        Counted x = Check.with(Check.acts(Check.YIELD, 0, Check.JUMP, 0));
        int[] wrong = {0, -1, 501, Integer.MIN_VALUE, Integer.MAX_VALUE};
        for (int n : wrong) {
            Check.due("no run: step(" + n + ")", x.step(n), -2);
        }
        Check.due("no run: step(500)", x.step(500), -3);
        x.begin(0, 1, 0);
        for (int n : wrong) {
            Check.due("step(" + n + ")", x.step(n), -2);
        }
        Check.due("no turn came of it", x.told(2), 0);
        Check.due("step(1)", x.step(1), 1);
        Check.due("step(500)", x.step(500), 500);
        Check.due("turns", x.told(2), 501);
    }

    private static void threeThousandTurns() {
        Counted x = Check.with(Check.acts(Check.JUMP, 0));
        x.begin(0, 1, 0);
        for (int i = 0; i < 5; i++) {
            Check.due("step(500)", x.step(500), 500);
        }
        Check.due("step(1)", x.step(1), 1);
        Check.due("one above 3000", x.step(500), -4);
        Check.due("none was done", x.told(2), 2501);
        Check.due("a wrong n is refused first", x.step(501), -2);
        Check.due("up to 3000", x.step(499), 499);
        Check.due("none more", x.step(1), -4);
        Check.due("clock", x.told(1), 3000);
        x.begin(0, 1, 0);
        Check.due("another run", x.step(500), 500);
    }

    private static void stepWhenOver() {
        Counted x = Check.with(Check.acts());
        x.begin(0, 1, 0);
        Check.due("one turn ends it", x.step(500), 1);
        Check.due("none more", x.step(1), 0);
        Check.due("none more", x.step(500), 0);
        Check.due("clock", x.told(1), 1);
        Check.due("turns", x.told(2), 1);
        Check.dueThread("ended", x, 0, Check.ENDED, 0, -3, 0, 0, 0, 0, 0, 1, -3);
    }

    private static void quantumAndEnd() {
        for (int quantum = 1; quantum <= 10; quantum++) {
            Counted x = Check.with(Check.acts(Check.ADD, 1, Check.ADD, 1, Check.ADD, 1, Check.ADD, 1,
                    Check.ADD, 1, Check.ADD, 1));
            x.begin(0, quantum, 0);
            x.step(1);
            Check.due("acts of the first turn", x.thread(0, 3), Math.min(quantum, 6));
            // Behind the last act it is ended as it comes to run, which a whole turn before does not let it.
            Check.due("state", x.thread(0, 0), quantum > 6 ? Check.ENDED : Check.READY);
            Check.due("act", x.thread(0, 2), quantum > 6 ? -3 : quantum);
            x.step(500);
            Check.due("turns", x.told(2), 6 / quantum + 1);
        }
    }

    private static void yieldEndsTheTurn() {
        Counted x = Check.with(
                Check.acts(Check.FORK, 1, Check.YIELD, 0, Check.ADD, 100),
                Check.acts(Check.ADD, 1, Check.YIELD, 0, Check.ADD, 1));
        x.begin(0, 10, 0);
        x.step(1);
        Check.dueThread("it yielded", x, 0, Check.READY, 0, 2, 1, 0, 0, 0, 0, 1, -3);
        Check.dueQueue("behind the new one", x, 1, 0);
        x.step(1);
        Check.dueThread("it yielded too", x, 1, Check.READY, 1, 2, 1, 0, 0, 0, 0, 1, -3);
        Check.dueQueue("and again", x, 0, 1);
    }

    private static void jumps() {
        Counted x = Check.with(Check.acts(Check.ZERO, 3, Check.ADD, -1, Check.JUMP, 0, Check.LOG, 0,
                Check.JUMP, 20, Check.LOG, 0));
        x.begin(0, 1, 2);
        x.step(1);
        Check.due("ZERO does not jump", x.thread(0, 2), 1);
        x.step(2);
        Check.due("JUMP", x.thread(0, 2), 0);
        x.step(4);
        Check.due("ZERO jumps", x.thread(0, 2), 3);
        x.step(2);
        Check.dueThread("beyond the last act", x, 0, Check.READY, 0, 20, 0, 0, 0, 0, 0, 9, -3);
        Check.due("then it is ended", x.step(500), 1);
        Check.due("ended", x.thread(0, 0), Check.ENDED);
        Check.dueTrace("one row", x, 0, 0);
    }

    private static void arithmetic() {
        Counted x = Check.with(Check.acts(Check.LOG, 0, Check.ADD, 1, Check.LOG, 0, Check.ADD, -1, Check.LOG, 0,
                Check.SET, -5, Check.LOG, 0, Check.MINE, 0, Check.LOG, 0));
        x.begin(0, 10, Integer.MAX_VALUE);
        x.step(1);
        Check.dueTrace("wrapping", x, 0, Integer.MAX_VALUE, 0, Integer.MIN_VALUE, 0, Integer.MAX_VALUE, 0, -5, 0, 0);
        x = Check.with(Check.acts(Check.FORK, 1, Check.FORK, 1, Check.YIELD, 0, Check.YIELD, 0),
                Check.acts(Check.LOG, 0, Check.MINE, 0, Check.LOG, 0));
        x.begin(0, 10, 9);
        x.step(3);
        Check.dueTrace("each its own number", x, 1, 9, 1, 1, 2, 1, 2, 2);
    }

    private static void delays() {
        Counted x = Check.with(
                Check.acts(Check.FORK, 1, Check.DELAY, 0, Check.LOG, 0, Check.DELAY, 2, Check.DELAY, 100),
                Check.acts(Check.YIELD, 0, Check.JUMP, 0));
        x.begin(0, 10, 7);
        x.step(1);
        Check.dueThread("DELAY 0", x, 0, Check.DELAYED, 0, 2, 1, 0, 0, 0, 0, 1, 0);
        Check.dueQueue("not in the queue", x, 1);
        x.step(1);
        Check.dueThread("ready again", x, 0, Check.READY, 0, 2, 1, 0, 0, 0, 0, 1, -3);
        // It came before thread 1 ran.
        Check.dueQueue("thread 0 came first", x, 0, 1);
        x.step(1);
        Check.dueThread("DELAY 2 at clock 2", x, 0, Check.DELAYED, 0, 4, 1, 0, 0, 0, 0, 2, 4);
        x.step(1);
        Check.due("clock 4, no turn began yet", x.thread(0, 0), Check.DELAYED);
        x.step(1);
        Check.due("the turn at clock 4 woke it", x.thread(0, 0), Check.READY);
        x.step(1);
        Check.dueThread("DELAY 100 at clock 5", x, 0, Check.DELAYED, 0, 5, 1, 0, 0, 0, 0, 3, 105);
    }

    private static void alone() {
        Counted x = Check.with(Check.acts(Check.DELAY, 100, Check.LOG, 0, Check.DELAY, 0, Check.TAKE, 3));
        x.begin(0, 10, 7);
        Check.due("three turns", x.step(3), 3);
        Check.due("clock", x.told(1), 102);
        Check.due("it waits", x.box(3, 3), 1);
        Check.due("fill(3, 5)", x.fill(3, 5), 1);
        Check.dueThread("it was served", x, 0, Check.READY, 0, 4, 5, 0, 0, 0, 0, 3, -3);
    }

    private static void delayedByWhenThenNumbers() {
        Counted x = Check.with(
                Check.acts(Check.FORK, 1, Check.FORK, 2, Check.FORK, 3, Check.FORK, 4, Check.DELAY, 50),
                Check.acts(Check.DELAY, 20), Check.acts(Check.DELAY, 9), Check.acts(Check.DELAY, 18),
                Check.acts(Check.DELAY, 17));
        x.begin(0, 10, 0);
        x.step(5);
        Check.due("until", x.thread(1, 9), 21);
        Check.due("until", x.thread(2, 9), 11);
        Check.due("until", x.thread(3, 9), 21);
        Check.due("until", x.thread(4, 9), 21);
        Check.due("clock", x.told(1), 5);
        Check.dueQueue("all are delayed", x);
        x.step(1);
        Check.due("clock leapt to 11", x.told(1), 12);
        Check.due("thread 2 ran", x.thread(2, 0), Check.ENDED);
        Check.due("thread 1 did not", x.thread(1, 0), Check.DELAYED);
        x.step(1);
        Check.due("clock leapt to 21", x.told(1), 22);
        Check.dueQueue("the rest by numbers", x, 3, 4);
        x = Check.with(
                Check.acts(Check.FORK, 1, Check.FORK, 2, Check.FORK, 5, Check.DELAY, 4),
                Check.acts(Check.DELAY, 9), Check.acts(Check.DELAY, 7), Check.acts(), Check.acts(),
                Check.acts(Check.DELAY, 0, Check.DELAY, 7));
        x.begin(0, 10, 0);
        x.step(4);
        // Thread 0 until 4, thread 1 until 10, thread 2 until 9, thread 3 until 2.
        x.step(1);
        Check.due("thread 3 until 11", x.thread(3, 9), 11);
        x.step(1);
        Check.due("thread 0 ended, all are killed", x.thread(3, 0), Check.KILLED);
        Check.due("a killed one is not delayed", x.thread(3, 9), -3);
    }

    private static void clockLeaps() {
        Counted x = Check.with(
                Check.acts(Check.FORK, 1, Check.DELAY, 60, Check.LOG, 0),
                Check.acts(Check.TAKE, 0));
        x.begin(0, 10, 0);
        Check.due("to the end", x.step(500), 3);
        Check.due("clock", x.told(1), 61);
        Check.due("turns", x.told(2), 3);
        Check.due("no exception 10: one was delayed", x.told(5), 0);
        Check.due("thread 1 was killed", x.thread(1, 0), Check.KILLED);
    }

    /** Several become ready in one turn, with different times: the earlier first, against the numbers. */
    private static void delayedComeBeforeTheTurn() {
        Counted x = Check.with(
                Check.acts(Check.FORK, 1, Check.FORK, 2, Check.FORK, 3, Check.YIELD, 0, Check.DELAY, 0,
                        Check.YIELD, 0, Check.JUMP, 5),
                Check.acts(Check.DELAY, 2), Check.acts(Check.DELAY, 0), Check.acts(Check.DELAY, 0));
        x.begin(0, 10, 0);
        x.step(1);
        Check.dueQueue("forked", x, 1, 2, 3, 0);
        x.step(2);
        // Thread 1 until 3, thread 2 until 2, clock 3: both are due in the next turn, thread 2 first.
        Check.dueQueue("two are delayed", x, 3, 0);
        x.step(1);
        Check.dueQueue("by when", x, 0, 2, 1);
        x.step(1);
        Check.dueQueue("thread 3 came too", x, 2, 1, 3);
    }

    private static void twentyFourThreads() {
        Counted x = Check.with(
                Check.acts(Check.FORK, 1, Check.LOG, 0, Check.JUMP, 0),
                Check.acts());
        x.begin(0, 3, 500);
        x.step(500);
        Check.due("threads so far", x.told(3), 24);
        for (int i = 0; i < 23; i++) {
            Check.due("numbers", x.trace(i, 1), i + 1);
        }
        for (int i = 23; i < 100; i++) {
            Check.due("none comes", x.trace(i, 1), -1);
        }
        Check.due("ended ones count", x.thread(23, 0), Check.ENDED);
        Check.due("the last one's register", x.thread(23, 3), 22);
        Check.due("thread(24, 0)", x.thread(24, 0), -1);
        Check.dueQueue("only thread 0", x, 0);
    }

    private static void endKillsAll() {
        Counted x = Check.with(
                Check.acts(Check.FORK, 1, Check.FORK, 2, Check.FORK, 3, Check.FORK, 4, Check.FORK, 5, Check.YIELD, 0),
                Check.acts(Check.TAKE, 0), Check.acts(Check.DELAY, 100), Check.acts(Check.YIELD, 0),
                Check.acts(), Check.acts(Check.RAISE, 1));
        x.begin(0, 10, 0);
        Check.due("seven turns", x.step(500), 7);
        Check.due("over", x.told(0), 1);
        Check.due("thread 0", x.thread(0, 0), Check.ENDED);
        Check.due("waited", x.thread(1, 0), Check.KILLED);
        Check.due("was delayed", x.thread(2, 0), Check.KILLED);
        Check.due("was ready", x.thread(3, 0), Check.KILLED);
        Check.due("was ended", x.thread(4, 0), Check.ENDED);
        Check.due("was ended by 1", x.thread(5, 0), Check.ENDED_BY_EXCEPTION);
        Check.due("killed is not by an exception", x.thread(1, 7), 0);
        Check.dueQueue("none", x);
        Check.due("clock", x.told(1), 7);
    }

    private static void toldRefuses() {
        Counted x = Check.with(Check.acts(Check.YIELD, 0));
        int[] wrong = {-1, 6, Integer.MIN_VALUE, Integer.MAX_VALUE};
        for (int what : wrong) {
            Check.due("no run: told(" + what + ")", x.told(what), -2);
        }
        Check.due("no run: told(5)", x.told(5), -3);
        x.begin(0, 1, 0);
        for (int what : wrong) {
            Check.due("told(" + what + ")", x.told(what), -2);
        }
        int[] due = {0, 0, 0, 1, 1, 0};
        for (int what = 0; what < 6; what++) {
            Check.due("told(" + what + ")", x.told(what), due[what]);
        }
    }

    private static void queuedRefuses() {
        Counted x = Check.with(Check.acts(Check.YIELD, 0));
        Check.due("no run: queued(0)", x.queued(0), -1);
        x.begin(0, 1, 0);
        int[] none = {-1, 1, 24, Integer.MIN_VALUE, Integer.MAX_VALUE};
        for (int i : none) {
            Check.due("queued(" + i + ")", x.queued(i), -1);
        }
        Check.due("queued(0)", x.queued(0), 0);
        x.step(2);
        Check.due("over: queued(0)", x.queued(0), -1);
    }

    private static void shares() {
        Counted x = Check.with(
                Check.acts(Check.FORK, 1, Check.YIELD, 0, Check.JUMP, 1),
                Check.acts(Check.YIELD, 0, Check.DELAY, 100));
        Check.due("no run: share(0)", x.share(0), -1);
        x.begin(0, 10, 0);
        Check.dueThrow("no turns: share(0)", x, 0);
        int[] none = {-1, 1, 24, Integer.MIN_VALUE, Integer.MAX_VALUE};
        for (int t : none) {
            Check.due("no turns: share(" + t + ")", x.share(t), -1);
        }
        Check.due("it changed nothing", x.step(1), 1);
        Check.due("all", x.share(0), 1000);
        Check.due("none of them", x.share(1), 0);
        x.step(2);
        Check.due("2 of 3", x.share(0), 666);
        Check.due("1 of 3", x.share(1), 333);
        x.step(4);
        Check.due("5 of 7", x.share(0), 714);
        Check.due("2 of 7", x.share(1), 285);
        Check.due("no such thread", x.share(2), -1);
    }
}
