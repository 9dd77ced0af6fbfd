/** Promises 5 and 10, fill and box, and how PUT, TAKE and READ wait and are served. */
public final class BoxesTest {
    public static void main(String[] args) {
        fillRefuses();
        fillAnEmptyBox();
        boxRefuses();
        allReadersThenOneTaker();
        takersInTheirOrder();
        puttersInTheirOrder();
        orderIsThatOfComing();
        readLeavesTheValue();
        boxesAreApart();
        killedOnesWaitNoMore();
        allTwentyFourRead();
        Check.end();
    }

    private static void fillRefuses() {
        Counted x = Check.with(Check.acts(Check.YIELD, 0));
        int[] none = {-1, 8, Integer.MIN_VALUE, Integer.MAX_VALUE};
        for (int b : none) {
            Check.due("no run: fill(" + b + ", 1)", x.fill(b, 1), -1);
        }
        Check.due("no run: fill(7, 1)", x.fill(7, 1), -3);
        x.begin(0, 1, 0);
        for (int b : none) {
            Check.due("fill(" + b + ", 1)", x.fill(b, 1), -1);
        }
        Check.due("fill(7, 1)", x.fill(7, 1), 1);
        Check.due("fill(7, 2)", x.fill(7, 2), -3);
        Check.due("the first value stays", x.box(7, 0), 1);
        Check.due("two turns to its end", x.step(3), 2);
        Check.due("over: fill(0, 1)", x.fill(0, 1), -3);
        Check.due("over: fill(8, 1)", x.fill(8, 1), -1);
        Check.due("over: box(0, 1)", x.box(0, 1), 0);
        Check.due("over: box(7, 0)", x.box(7, 0), 1);
    }

    private static void fillAnEmptyBox() {
        Counted x = Check.with(Check.acts(Check.YIELD, 0));
        x.begin(0, 1, 0);
        int[] values = {0, -1, -3, Integer.MIN_VALUE, Integer.MAX_VALUE, 5, 6, 7};
        for (int b = 0; b < 8; b++) {
            Check.due("empty: box(" + b + ", 0)", x.box(b, 0), -3);
            Check.due("empty: box(" + b + ", 1)", x.box(b, 1), 0);
            Check.due("fill(" + b + ")", x.fill(b, values[b]), 1);
        }
        for (int b = 0; b < 8; b++) {
            Check.due("full: box(" + b + ", 0)", x.box(b, 0), values[b]);
            Check.due("full: box(" + b + ", 1)", x.box(b, 1), 1);
        }
        Check.due("fill is no turn", x.told(2), 0);
        Check.due("fill does not move the clock", x.told(1), 0);
    }

    private static void boxRefuses() {
        Counted x = Check.with(Check.acts(Check.YIELD, 0));
        Check.due("no run: box(0, 5)", x.box(0, 5), -1);
        Check.due("no run: box(0, 0)", x.box(0, 0), -1);
        x.begin(0, 1, 0);
        int[] none = {-1, 8, Integer.MIN_VALUE, Integer.MAX_VALUE};
        for (int b : none) {
            Check.due("box(" + b + ", 0)", x.box(b, 0), -1);
            Check.due("box(" + b + ", 5)", x.box(b, 5), -1);
        }
        int[] wrong = {-1, 5, Integer.MIN_VALUE, Integer.MAX_VALUE};
        for (int what : wrong) {
            Check.due("box(0, " + what + ")", x.box(0, what), -2);
        }
    }

    /** Thread 0 forks five: take, read, take, read, take, all of box 4. */
    private static Counted takersAndReaders() {
        Counted x = Check.with(
                Check.acts(Check.FORK, 1, Check.FORK, 2, Check.FORK, 1, Check.FORK, 2, Check.FORK, 1,
                        Check.YIELD, 0, Check.SET, 70, Check.PUT, 4, Check.PUT, 4, Check.YIELD, 0, Check.JUMP, 9),
                Check.acts(Check.TAKE, 4, Check.LOG, 0, Check.TAKE, 7),
                Check.acts(Check.READ, 4, Check.LOG, 0, Check.TAKE, 7));
        x.begin(0, 10, 0);
        x.step(6);
        return x;
    }

    private static void allReadersThenOneTaker() {
        Counted x = takersAndReaders();
        Check.dueQueue("all wait", x, 0);
        Check.due("three wait to take", x.box(4, 3), 3);
        Check.due("two wait to read", x.box(4, 4), 2);
        Check.due("none waits to put", x.box(4, 2), 0);
        Check.dueThread("waits to take", x, 1, Check.WAITS_TO_TAKE, 1, 0, 0, 0, 0, 0, 0, 1, -3);
        Check.dueThread("waits to read", x, 2, Check.WAITS_TO_READ, 2, 0, 1, 0, 0, 0, 0, 1, -3);
        Check.due("fill(4, 55)", x.fill(4, 55), 1);
        Check.dueQueue("the readers, then a taker", x, 0, 2, 4, 1);
        Check.due("it did not stay", x.box(4, 1), 0);
        Check.due("two wait to take", x.box(4, 3), 2);
        Check.due("none waits to read", x.box(4, 4), 0);
        Check.dueThread("a reader goes on", x, 2, Check.READY, 2, 1, 55, 0, 0, 0, 0, 1, -3);
        Check.dueThread("a taker goes on", x, 1, Check.READY, 1, 1, 55, 0, 0, 0, 0, 1, -3);
        Check.dueThread("the next taker waits", x, 3, Check.WAITS_TO_TAKE, 1, 0, 2, 0, 0, 0, 0, 1, -3);
    }

    private static void takersInTheirOrder() {
        Counted x = takersAndReaders();
        x.step(1);
        // SET 70, PUT: readers 2, 4 and taker 1; PUT: taker 3; YIELD. Taker 5 is left.
        Check.dueQueue("two puts", x, 2, 4, 1, 3, 0);
        Check.due("one waits to take", x.box(4, 3), 1);
        Check.due("fill(4, 71)", x.fill(4, 71), 1);
        Check.dueQueue("a third value", x, 2, 4, 1, 3, 0, 5);
        Check.due("fill(4, 72)", x.fill(4, 72), 1);
        Check.due("a fourth value stays", x.box(4, 0), 72);
        x.step(6);
        Check.dueTrace("what each got", x, 2, 70, 4, 70, 1, 70, 3, 70, 5, 71);
    }

    private static void puttersInTheirOrder() {
        Counted x = Check.with(
                Check.acts(Check.FORK, 1, Check.FORK, 1, Check.FORK, 1, Check.YIELD, 0,
                        Check.TAKE, 6, Check.LOG, 0, Check.TAKE, 6, Check.LOG, 0, Check.YIELD, 0, Check.JUMP, 8),
                Check.acts(Check.MINE, 0, Check.ADD, 40, Check.PUT, 6, Check.LOG, 0, Check.TAKE, 7));
        x.begin(0, 10, 0);
        Check.due("fill(6, 99)", x.fill(6, 99), 1);
        x.step(4);
        Check.due("three wait to put", x.box(6, 2), 3);
        Check.dueThread("waits to put", x, 1, Check.WAITS_TO_PUT, 1, 2, 41, 0, 0, 0, 0, 1, -3);
        Check.dueQueue("only thread 0", x, 0);
        Check.due("fill a full box", x.fill(6, 1), -3);
        x.step(1);
        Check.dueQueue("the first two go on", x, 1, 2, 0);
        Check.dueThread("it goes on behind", x, 1, Check.READY, 1, 3, 41, 0, 0, 0, 0, 1, -3);
        Check.due("one waits to put", x.box(6, 2), 1);
        Check.due("the second value is in", x.box(6, 0), 42);
        x.step(2);
        Check.dueTrace("what was taken", x, 0, 99, 0, 41, 1, 41, 2, 42);
    }

    /** Thread 2 comes to the box before thread 1. */
    private static void orderIsThatOfComing() {
        Counted x = Check.with(
                Check.acts(Check.FORK, 1, Check.FORK, 2, Check.YIELD, 0, Check.YIELD, 0, Check.YIELD, 0),
                Check.acts(Check.YIELD, 0, Check.TAKE, 0),
                Check.acts(Check.TAKE, 0));
        x.begin(0, 10, 0);
        x.step(5);
        Check.due("both wait", x.box(0, 3), 2);
        x.fill(0, 3);
        Check.due("thread 2 was first", x.thread(2, 0), Check.READY);
        Check.due("thread 1 waits on", x.thread(1, 0), Check.WAITS_TO_TAKE);
        x = Check.with(
                Check.acts(Check.FORK, 1, Check.FORK, 2, Check.YIELD, 0, Check.YIELD, 0, Check.YIELD, 0),
                Check.acts(Check.YIELD, 0, Check.READ, 0),
                Check.acts(Check.READ, 0));
        x.begin(0, 10, 0);
        x.step(5);
        x.fill(0, 3);
        Check.dueQueue("readers as they came", x, 0, 2, 1);
    }

    private static void readLeavesTheValue() {
        Counted x = Check.with(Check.acts(Check.READ, 1, Check.LOG, 0, Check.SET, 0, Check.READ, 1, Check.LOG, 0,
                Check.SET, 0, Check.TAKE, 1, Check.LOG, 0, Check.READ, 1));
        x.begin(0, 10, 0);
        x.fill(1, -9);
        x.step(1);
        Check.dueTrace("read, read, taken", x, 0, -9, 0, -9, 0, -9);
        Check.dueThread("then it waits", x, 0, Check.WAITS_TO_READ, 0, 8, -9, 0, 0, 0, 0, 1, -3);
        Check.due("it is empty", x.box(1, 1), 0);
    }

    private static void boxesAreApart() {
        Counted x = Check.with(
                Check.acts(Check.FORK, 1, Check.FORK, 2, Check.YIELD, 0, Check.YIELD, 0),
                Check.acts(Check.TAKE, 0), Check.acts(Check.TAKE, 7));
        x.begin(0, 10, 0);
        x.step(3);
        x.fill(7, 1);
        Check.due("at box 0 one waits on", x.thread(1, 0), Check.WAITS_TO_TAKE);
        Check.due("at box 7 one was served", x.thread(2, 0), Check.READY);
        Check.due("box 0", x.box(0, 3), 1);
        Check.due("box 7", x.box(7, 3), 0);
    }

    private static void killedOnesWaitNoMore() {
        Counted x = Check.with(
                Check.acts(Check.FORK, 1, Check.FORK, 2, Check.FORK, 3, Check.YIELD, 0),
                Check.acts(Check.PUT, 0), Check.acts(Check.TAKE, 1), Check.acts(Check.READ, 1));
        x.begin(0, 10, 0);
        x.fill(0, 4);
        x.step(4);
        Check.due("one puts", x.box(0, 2), 1);
        Check.due("one takes", x.box(1, 3), 1);
        Check.due("one reads", x.box(1, 4), 1);
        x.step(1);
        Check.due("over", x.told(0), 1);
        Check.due("none puts", x.box(0, 2), 0);
        Check.due("none takes", x.box(1, 3), 0);
        Check.due("none reads", x.box(1, 4), 0);
        for (int t = 1; t < 4; t++) {
            Check.due("killed", x.thread(t, 0), Check.KILLED);
        }
    }

    private static void allTwentyFourRead() {
        Counted x = Check.with(Check.acts(Check.FORK, 0, Check.READ, 2));
        x.begin(0, 10, 0);
        x.step(24);
        Check.due("all wait to read", x.box(2, 4), 24);
        x.fill(2, 6);
        Check.due("none waits", x.box(2, 4), 0);
        Check.due("all are in the queue", x.told(4), 24);
        for (int t = 0; t < 24; t++) {
            Check.due("as they came", x.queued(t), t);
            Check.due("each has it", x.thread(t, 3), 6);
        }
        Check.due("it stays", x.box(2, 0), 6);
    }
}
