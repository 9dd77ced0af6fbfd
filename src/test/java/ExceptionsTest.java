/** EXCEPTIONS: raised, thrown, masked, pending, caught, and those of threads that wait for ever. */
public final class ExceptionsTest {
    public static void main(String[] args) {
        raiseWithHandlers();
        raiseWithout();
        raiseIsNotMasked();
        handlersAreFourAtMost();
        throwToNobody();
        throwToItself();
        throwToReady();
        throwToReadyWithoutHandler();
        throwToWaiting();
        throwToDelayed();
        pendingIsFourAtMost();
        unmaskLetsThemCome();
        unmaskEndsTheThread();
        pendingInsteadOfWaiting();
        pendingInsteadOfDelay();
        pendingIsNoMatterIfItNeedNotWait();
        allWaitForEver();
        waitForEverWithHandlers();
        throwToThreadZero();
        Check.end();
    }

    private static void raiseWithHandlers() {
        Counted x = Check.with(Check.acts(Check.CATCH, 6, Check.CATCH, 4, Check.RAISE, 9, Check.LOG, 0,
                Check.LOG, 0, Check.RAISE, 1, Check.LOG, 0, Check.RAISE, 5));
        x.begin(0, 3, 8);
        x.step(1);
        Check.dueThread("caught by the innermost", x, 0, Check.READY, 0, 4, 9, 1, 0, 0, 0, 1, -3);
        x.step(1);
        Check.dueThread("caught by the other", x, 0, Check.READY, 0, 7, 1, 0, 0, 0, 0, 2, -3);
        x.step(1);
        Check.dueThread("not caught", x, 0, Check.ENDED_BY_EXCEPTION, 0, -3, 1, 0, 0, 0, 5, 3, -3);
        Check.dueTrace("acts 4 and 6", x, 0, 9, 0, 1);
        Check.due("it is over", x.told(0), 1);
        Check.due("that was the third turn", x.told(2), 3);
        Check.due("none of them is an exception 10", x.told(5), 0);
    }

    private static void raiseWithout() {
        Counted x = Check.with(Check.acts(Check.CATCH, 0, Check.LEAVE, 0, Check.LEAVE, 0, Check.RAISE, 3));
        x.begin(0, 10, 8);
        Check.due("one turn", x.step(500), 1);
        Check.dueThread("ended by 3", x, 0, Check.ENDED_BY_EXCEPTION, 0, -3, 8, 0, 0, 0, 3, 1, -3);
    }

    private static void raiseIsNotMasked() {
        Counted x = Check.with(Check.acts(Check.CATCH, 4, Check.MASK, 1, Check.RAISE, 2, Check.YIELD, 0,
                Check.YIELD, 0));
        x.begin(0, 3, 8);
        x.step(1);
        Check.dueThread("caught, still masked", x, 0, Check.READY, 0, 4, 2, 0, 1, 0, 0, 1, -3);
    }

    private static void handlersAreFourAtMost() {
        Counted x = Check.with(Check.acts(Check.CATCH, 11, Check.CATCH, 12, Check.CATCH, 13, Check.CATCH, 14,
                Check.CATCH, 15, Check.YIELD, 0, Check.LEAVE, 0, Check.RAISE, 7));
        x.begin(0, 10, 0);
        x.step(1);
        Check.due("the fifth did not come", x.thread(0, 4), 4);
        x.step(1);
        // Behind the last act it is ended in the same turn.
        Check.dueThread("the innermost but one", x, 0, Check.ENDED, 0, -3, 7, 2, 0, 0, 0, 2, -3);
        x = Check.with(Check.acts(Check.CATCH, 11, Check.CATCH, 12, Check.CATCH, 13, Check.CATCH, 14,
                Check.CATCH, 15, Check.RAISE, 7));
        x.begin(0, 6, 0);
        x.step(1);
        Check.dueThread("the fourth is the innermost", x, 0, Check.READY, 0, 14, 7, 3, 0, 0, 0, 1, -3);
    }

    private static void throwToNobody() {
        int[] none = {-1, 2, 24, Integer.MIN_VALUE, Integer.MAX_VALUE};
        for (int number : none) {
            Counted x = Check.with(Check.acts(Check.THROW, 3, Check.YIELD, 0));
            x.begin(0, 2, number);
            x.step(1);
            Check.dueThread("nothing comes of it", x, 0, Check.READY, 0, 2, number, 0, 0, 0, 0, 1, -3);
        }
        Counted x = Check.with(
                Check.acts(Check.FORK, 1, Check.FORK, 2, Check.YIELD, 0, Check.SET, 1, Check.THROW, 3,
                        Check.SET, 2, Check.THROW, 3, Check.YIELD, 0),
                Check.acts(Check.CATCH, 2), Check.acts(Check.RAISE, 6));
        x.begin(0, 10, 5);
        x.step(4);
        Check.dueThread("an ended one stays so", x, 1, Check.ENDED, 1, -3, 5, 1, 0, 0, 0, 1, -3);
        Check.dueThread("one ended by 6 stays so", x, 2, Check.ENDED_BY_EXCEPTION, 2, -3, 1, 0, 0, 0, 6, 1, -3);
        Check.dueQueue("only thread 0 is left", x, 0);
    }

    private static void throwToItself() {
        Counted x = Check.with(Check.acts(Check.CATCH, 5, Check.MASK, 1, Check.MINE, 0, Check.THROW, 8,
                Check.YIELD, 0, Check.YIELD, 0));
        x.begin(0, 4, 77);
        x.step(1);
        Check.dueThread("as RAISE, masked or not", x, 0, Check.READY, 0, 5, 8, 0, 1, 0, 0, 1, -3);
        x = Check.with(Check.acts(Check.MASK, 1, Check.MINE, 0, Check.THROW, 8));
        x.begin(0, 10, 77);
        x.step(1);
        Check.dueThread("as RAISE without a handler", x, 0, Check.ENDED_BY_EXCEPTION, 0, -3, 0, 0, 1, 0, 8, 1, -3);
    }

    private static void throwToReady() {
        Counted x = Check.with(
                Check.acts(Check.FORK, 1, Check.FORK, 1, Check.YIELD, 0, Check.SET, 1, Check.THROW, 4, Check.YIELD, 0),
                Check.acts(Check.CATCH, 9, Check.YIELD, 0, Check.YIELD, 0));
        x.begin(0, 10, 5);
        x.step(3);
        Check.dueQueue("before", x, 0, 1, 2);
        x.step(1);
        Check.dueThread("caught", x, 1, Check.READY, 1, 9, 4, 0, 0, 0, 0, 1, -3);
        Check.dueQueue("it keeps its place", x, 1, 2, 0);
        Check.due("the thrower goes on", x.thread(0, 2), 6);
        Check.due("the thrower's register stays", x.thread(0, 3), 1);
    }

    private static void throwToReadyWithoutHandler() {
        Counted x = Check.with(
                Check.acts(Check.FORK, 1, Check.FORK, 1, Check.SET, 1, Check.THROW, 4, Check.YIELD, 0),
                Check.acts(Check.YIELD, 0));
        x.begin(0, 10, 5);
        x.step(1);
        Check.dueThread("ended by 4", x, 1, Check.ENDED_BY_EXCEPTION, 1, -3, 5, 0, 0, 0, 4, 0, -3);
        Check.dueQueue("it left its place", x, 2, 0);
        Check.due("the run goes on", x.told(0), 0);
    }

    /** Thread 1 waits by an act, with its mask and handlers; thread 0 throws 6 to it. */
    private static Counted thrownAt(int kind, int a, int masked, int handler) {
        Counted x = Check.with(
                Check.acts(Check.FORK, 1, Check.FORK, 2, Check.YIELD, 0, Check.SET, 1, Check.THROW, 6, Check.YIELD, 0),
                handler < 0
                        ? Check.acts(Check.MASK, masked, Check.YIELD, 0, kind, a, Check.LOG, 0)
                        : Check.acts(Check.MASK, masked, Check.CATCH, handler, kind, a, Check.LOG, 0),
                Check.acts(Check.YIELD, 0, Check.JUMP, 0));
        x.begin(0, 10, 30);
        x.fill(0, 50);
        x.step(handler < 0 ? 4 : 3);
        return x;
    }

    private static void throwToWaiting() {
        int[] kinds = {Check.PUT, Check.TAKE, Check.READ};
        for (int kind : kinds) {
            int box = kind == Check.PUT ? 0 : 1;
            for (int masked = 0; masked < 2; masked++) {
                Counted x = thrownAt(kind, box, masked, 12);
                Check.dueThread("it waits", x, 1, kind + 1, 1, 2, 30, 1, masked, 0, 0, 1, -3);
                x.step(1);
                Check.dueThread("it waits no more", x, 1, Check.READY, 1, 12, 6, 0, masked, 0, 0, 1, -3);
                Check.dueQueue("at the end of the queue", x, 2, 1, 0);
                Check.due("none is left at the box", x.box(box, kind + 2), 0);
                Check.due("the box is as it was", x.box(box, 1), kind == Check.PUT ? 1 : 0);
            }
        }
        Counted x = Check.with(
                Check.acts(Check.FORK, 1, Check.FORK, 1, Check.YIELD, 0, Check.SET, 1, Check.THROW, 6, Check.YIELD, 0),
                Check.acts(Check.TAKE, 3));
        x.begin(0, 10, 30);
        x.step(4);
        Check.dueThread("ended as it waited", x, 1, Check.ENDED_BY_EXCEPTION, 1, -3, 30, 0, 0, 0, 6, 1, -3);
        Check.dueQueue("it is not in the queue", x, 0);
        Check.due("one waits", x.box(3, 3), 1);
        x.fill(3, 8);
        Check.due("the other is served", x.thread(2, 3), 8);
        Check.due("the ended one is not", x.thread(1, 3), 30);
    }

    private static void throwToDelayed() {
        for (int masked = 0; masked < 2; masked++) {
            Counted x = thrownAt(Check.DELAY, 40, masked, 12);
            Check.dueThread("delayed", x, 1, Check.DELAYED, 1, 3, 30, 1, masked, 0, 0, 1, 41);
            x.step(1);
            Check.dueThread("delayed no more", x, 1, Check.READY, 1, 12, 6, 0, masked, 0, 0, 1, -3);
            Check.dueQueue("at the end of the queue", x, 2, 1, 0);
        }
        Counted x = Check.with(
                Check.acts(Check.FORK, 1, Check.YIELD, 0, Check.THROW, 6, Check.YIELD, 0),
                Check.acts(Check.DELAY, 40));
        x.begin(0, 10, 30);
        x.step(3);
        Check.dueThread("ended while delayed", x, 1, Check.ENDED_BY_EXCEPTION, 1, -3, 30, 0, 0, 0, 6, 1, -3);
        Check.dueQueue("only thread 0", x, 0);
    }

    /** Thread 1 masks itself and yields; thread 0 throws 1, 2, .. thrown to it, then its later acts come. */
    private static Counted pendingRun(int thrown, int... later) {
        int[] zero = new int[4 + 2 * thrown + 4];
        zero[0] = Check.FORK;
        zero[1] = 1;
        zero[2] = Check.YIELD;
        for (int i = 0; i < thrown; i++) {
            zero[4 + 2 * i] = Check.THROW;
            zero[5 + 2 * i] = i + 1;
        }
        zero[4 + 2 * thrown] = Check.YIELD;
        zero[6 + 2 * thrown] = Check.JUMP;
        zero[7 + 2 * thrown] = 2 + thrown;
        Counted x = Check.with(zero, later);
        x.begin(0, 10, 20);
        x.step(3);
        return x;
    }

    private static void pendingIsFourAtMost() {
        for (int thrown = 0; thrown <= 6; thrown++) {
            Counted x = pendingRun(thrown, Check.MASK, 1, Check.CATCH, 20, Check.YIELD, 0, Check.YIELD, 0);
            Check.dueThread("they are pending", x, 1, Check.READY, 1, 3, 20, 1, 1, Math.min(thrown, 4), 0, 1, -3);
        }
    }

    private static void unmaskLetsThemCome() {
        Counted x = pendingRun(6, Check.CATCH, 11, Check.CATCH, 12, Check.CATCH, 13, Check.CATCH, 6,
                Check.MASK, 1, Check.YIELD, 0, Check.MASK, 0);
        Check.due("four are pending", x.thread(1, 6), 4);
        x.step(1);
        // The eldest, 1, takes handler 6, the last, 4, takes handler 11, which is behind the last act.
        Check.dueThread("each came", x, 1, Check.ENDED, 1, -3, 4, 0, 0, 0, 0, 2, -3);
        x = pendingRun(2, Check.CATCH, 7, Check.CATCH, 8, Check.MASK, 1, Check.YIELD, 0, Check.MASK, 0,
                Check.LOG, 0, Check.LOG, 0, Check.YIELD, 0, Check.YIELD, 0);
        x.step(1);
        Check.dueThread("two came in one act", x, 1, Check.READY, 1, 8, 2, 0, 0, 0, 0, 2, -3);
        Check.dueTrace("no act came between them", x);
        x = pendingRun(0, Check.CATCH, 7, Check.MASK, 1, Check.YIELD, 0, Check.MASK, 0, Check.YIELD, 0);
        x.step(1);
        Check.dueThread("none came", x, 1, Check.READY, 1, 5, 20, 1, 0, 0, 0, 2, -3);
    }

    private static void unmaskEndsTheThread() {
        Counted x = pendingRun(4, Check.CATCH, 5, Check.MASK, 1, Check.YIELD, 0, Check.MASK, 0);
        x.step(1);
        Check.dueThread("1 is caught, 2 ends it, 3 and 4 do not come", x, 1,
                Check.ENDED_BY_EXCEPTION, 1, -3, 1, 0, 0, 2, 2, 2, -3);
        Check.due("the run goes on", x.told(0), 0);
        Check.dueQueue("only thread 0", x, 0);
    }

    private static void pendingInsteadOfWaiting() {
        int[] kinds = {Check.PUT, Check.TAKE, Check.READ};
        for (int kind : kinds) {
            int box = kind == Check.PUT ? 0 : 1;
            Counted x = pendingRun(2, Check.CATCH, 6, Check.MASK, 1, Check.YIELD, 0, kind, box,
                    Check.LOG, 0, Check.LOG, 0, Check.LOG, 0, Check.YIELD, 0);
            x.fill(0, 50);
            x.step(1);
            Check.dueThread("the eldest came, the turn went on", x, 1, Check.READY, 1, 8, 1, 0, 1, 1, 0, 2, -3);
            Check.dueTrace("at act 6", x, 1, 1);
            Check.due("none waits", x.box(box, kind + 2), 0);
            x = pendingRun(2, Check.MASK, 1, Check.YIELD, 0, kind, box);
            x.fill(0, 50);
            x.step(1);
            Check.dueThread("the eldest ended it", x, 1, Check.ENDED_BY_EXCEPTION, 1, -3, 20, 0, 1, 1, 1, 2, -3);
        }
    }

    private static void pendingInsteadOfDelay() {
        for (int delay = 0; delay <= 100; delay += 50) {
            Counted x = pendingRun(1, Check.CATCH, 4, Check.MASK, 1, Check.YIELD, 0, Check.DELAY, delay,
                    Check.LOG, 0, Check.DELAY, delay);
            x.step(1);
            Check.dueThread("once instead, then delayed", x, 1, Check.DELAYED, 1, 6, 1, 0, 1, 0, 0, 2, 3 + delay);
            Check.dueTrace("at act 4", x, 1, 1);
        }
    }

    private static void pendingIsNoMatterIfItNeedNotWait() {
        Counted x = pendingRun(1, Check.MASK, 1, Check.YIELD, 0, Check.READ, 5, Check.TAKE, 5, Check.PUT, 5,
                Check.YIELD, 0);
        x.fill(5, 51);
        x.step(1);
        Check.dueThread("it reads, takes and puts", x, 1, Check.READY, 1, 6, 51, 0, 1, 1, 0, 2, -3);
        Check.due("the value is in", x.box(5, 0), 51);
    }

    private static void allWaitForEver() {
        Counted x = Check.with(
                Check.acts(Check.FORK, 1, Check.FORK, 1, Check.TAKE, 0),
                Check.acts(Check.CATCH, 0, Check.READ, 1));
        x.begin(0, 10, 5);
        Check.due("three turns, then it is over", x.step(500), 3);
        Check.dueThread("thread 0 ended by 10", x, 0, Check.ENDED_BY_EXCEPTION, 0, -3, 2, 0, 0, 0, 10, 1, -3);
        Check.dueThread("thread 1 was killed", x, 1, Check.KILLED, 1, -3, 5, 1, 0, 0, 0, 1, -3);
        Check.due("one exception 10 came", x.told(5), 1);
        Check.due("turns", x.told(2), 3);
        Check.due("clock", x.told(1), 3);
        Check.due("over", x.told(0), 1);
        Check.dueQueue("none", x);
    }

    private static void waitForEverWithHandlers() {
        Counted x = Check.with(
                Check.acts(Check.FORK, 1, Check.FORK, 2, Check.FORK, 1, Check.CATCH, 6, Check.MASK, 1, Check.TAKE, 0,
                        Check.LOG, 0, Check.YIELD, 0),
                Check.acts(Check.CATCH, 3, Check.FORK, 3, Check.READ, 1, Check.LOG, 0, Check.YIELD, 0),
                Check.acts(Check.PUT, 2),
                Check.acts(Check.YIELD, 0));
        x.begin(0, 10, 5);
        x.fill(2, 1);
        // Turns of 0, 1, 2, 3, 4, 5, 4, 5: then 0 to 3 wait, and 4 and 5 are ended.
        Check.due("eight turns", x.step(8), 8);
        Check.dueQueue("all wait", x);
        Check.due("not over", x.told(0), 0);
        Check.due("the ninth", x.step(1), 1);
        Check.due("four exceptions 10 came", x.told(5), 4);
        Check.dueThread("thread 0 went on", x, 0, Check.READY, 0, 8, 10, 0, 1, 0, 0, 2, -3);
        Check.dueThread("thread 1 is ready", x, 1, Check.READY, 1, 3, 10, 0, 0, 0, 0, 1, -3);
        Check.dueThread("thread 2 ended", x, 2, Check.ENDED_BY_EXCEPTION, 2, -3, 1, 0, 0, 0, 10, 1, -3);
        Check.dueThread("thread 3 is ready", x, 3, Check.READY, 1, 3, 10, 0, 0, 0, 0, 1, -3);
        Check.dueQueue("by numbers", x, 1, 3, 0);
        Check.dueTrace("thread 0 came first", x, 0, 10);
        Check.due("none puts", x.box(2, 2), 0);
    }

    private static void throwToThreadZero() {
        Counted x = Check.with(
                Check.acts(Check.FORK, 1, Check.FORK, 2, Check.YIELD, 0),
                Check.acts(Check.SET, 0, Check.THROW, 7, Check.LOG, 0),
                Check.acts(Check.YIELD, 0));
        x.begin(0, 10, 5);
        Check.due("two turns", x.step(500), 2);
        Check.dueThread("thread 0", x, 0, Check.ENDED_BY_EXCEPTION, 0, -3, 2, 0, 0, 0, 7, 1, -3);
        Check.dueThread("the thrower was killed at once", x, 1, Check.KILLED, 1, -3, 0, 0, 0, 0, 0, 1, -3);
        Check.dueThread("the other too", x, 2, Check.KILLED, 2, -3, 1, 0, 0, 0, 0, 0, -3);
        Check.dueTrace("no act came after", x);
        Check.due("clock", x.told(1), 2);
        Check.dueQueue("none", x);
    }
}
