/** "Terms": who waits at BOXES, who is served, and in which order. */
public final class WaitingEdgesTest extends Edges {
    private static final String IDLE = ", YIELD, JUMP ";

    public static void main(String[] args) {
        runAll(WaitingEdgesTest.class);
    }

    @Says("PUT waits while the BOX has a VALUE")
    static void putWaitsAtAFullBox() {
        Counted x = begun(10, 5, "PUT 2, ADD 1, PUT 2, LOG");
        x.step(1);
        dueThread(x, 0, Check.WAITS_TO_PUT, 0, 2, 6, 0, 0, 0, 0, 1, -3);
        dueBox(x, 2, 5, 1, 1, 0, 0);
        dueQueue(x);
        due(x.trace(-1, 0), 0);
    }

    @Says("TAKE, READ while it has none")
    static void takeWaitsAtAnEmptyBox() {
        Counted x = begun(10, 5, "TAKE 2, LOG");
        x.step(1);
        dueThread(x, 0, Check.WAITS_TO_TAKE, 0, 0, 5, 0, 0, 0, 0, 1, -3);
        dueBox(x, 2, -3, 0, 0, 1, 0);
        dueQueue(x);
        due(x.trace(-1, 0), 0);
    }

    @Says("TAKE, READ while it has none")
    static void readWaitsAtAnEmptyBox() {
        Counted x = begun(10, 5, "READ 2, LOG");
        x.step(1);
        dueThread(x, 0, Check.WAITS_TO_READ, 0, 0, 5, 0, 0, 0, 0, 1, -3);
        dueBox(x, 2, -3, 0, 0, 0, 1);
        dueQueue(x);
        due(x.trace(-1, 0), 0);
    }

    @Says("TAKE, READ while it has none")
    static void takeWaitsAtABoxThatWasTaken() {
        Counted x = begun(10, 5, "PUT 2, TAKE 2, READ 2");
        x.step(1);
        dueThread(x, 0, Check.WAITS_TO_READ, 0, 2, 5, 0, 0, 0, 0, 1, -3);
        x = begun(10, 5, "PUT 2, TAKE 2, TAKE 2");
        x.step(1);
        dueThread(x, 0, Check.WAITS_TO_TAKE, 0, 2, 5, 0, 0, 0, 0, 1, -3);
    }

    /** Thread 0 forks 1 to 3, which come to a box in the order 3, 1, 2, then idles by itself. */
    private static Counted threeAt(String act) {
        Counted x = begun(10, 0, "FORK 1, FORK 2, FORK 3, YIELD" + IDLE + "4",
                "MINE, YIELD, " + act + ", LOG, TAKE 7", "MINE, YIELD, YIELD, " + act + ", LOG, TAKE 7",
                "MINE, " + act + ", LOG, TAKE 7");
        return x;
    }

    @Says("those that wait at a BOX are served in the order in which they came (of each kind)")
    static void takersAsTheyCame() {
        Counted x = threeAt("TAKE 0");
        x.step(12);
        dueBox(x, 0, -3, 0, 0, 3, 0);
        int[] order = {3, 1, 2};
        for (int i = 0; i < 3; i++) {
            due(x.box(0, 3), 3 - i);
            due(x.fill(0, 60 + i), 1);
            due(x.thread(order[i], 0), Check.READY);
            due(x.thread(order[i], 3), 60 + i);
        }
        dueBox(x, 0, -3, 0, 0, 0, 0);
        dueQueue(x, 0, 3, 1, 2);
    }

    @Says("those that wait at a BOX are served in the order in which they came (of each kind)")
    static void readersAsTheyCame() {
        Counted x = threeAt("READ 0");
        x.step(12);
        dueBox(x, 0, -3, 0, 0, 0, 3);
        due(x.fill(0, 60), 1);
        dueQueue(x, 0, 3, 1, 2);
        dueBox(x, 0, 60, 1, 0, 0, 0);
    }

    @Says("those that wait at a BOX are served in the order in which they came (of each kind)")
    static void puttersAsTheyCame() {
        Counted x = Script.of("FORK 1, FORK 2, FORK 3, DELAY 20, TAKE 0, LOG, TAKE 0, LOG, TAKE 0, LOG, TAKE 0, LOG,"
                + " YIELD, JUMP 12", "MINE, YIELD, PUT 0, TAKE 7", "MINE, YIELD, YIELD, PUT 0, TAKE 7",
                "MINE, PUT 0, TAKE 7").begin(0, 10, 0).fill(0, 50).step(7).play();
        dueBox(x, 0, 50, 1, 3, 0, 0);
        dueQueue(x);
        x.step(1);
        dueTrace(x, 0, 50, 0, 3, 0, 1, 0, 2);
        dueQueue(x, 3, 1, 2, 0);
        dueBox(x, 0, -3, 0, 0, 0, 0);
    }

    @Says("those that wait at a BOX are served in the order in which they came (of each kind)")
    static void oneThatComesAgainIsTheLast() {
        // Thread 1 came first, was thrown out, and waits again behind thread 2.
        Counted x = begun(10, 0, "FORK 1, FORK 2, YIELD, SET 1, THROW 5, YIELD" + IDLE + "6",
                "CATCH 1, TAKE 0", "TAKE 0");
        x.step(5);
        dueBox(x, 0, -3, 0, 0, 2, 0);
        x.fill(0, 9);
        due(x.thread(2, 0), Check.READY);
        due(x.thread(1, 0), Check.WAITS_TO_TAKE);
        x.fill(0, 10);
        due(x.thread(1, 0), Check.READY);
        due(x.thread(1, 3), 10);
    }

    @Says("and go on behind that ACT, READY, at the end of the QUEUE")
    static void theServedGoOnBehindTheAct() {
        Counted x = begun(3, 0, "FORK 1, FORK 2, FORK 3, YIELD" + IDLE + "4", "TAKE 0, LOG, TAKE 7",
                "READ 1, LOG, TAKE 7", "PUT 2, LOG, TAKE 7");
        x.fill(2, 8);
        x.step(5);
        dueQueue(x, 0);
        due(x.thread(1, 2), 0);
        due(x.thread(2, 2), 0);
        due(x.thread(3, 2), 0);
        x.fill(1, 41);
        dueThread(x, 2, Check.READY, 2, 1, 41, 0, 0, 0, 0, 1, -3);
        dueQueue(x, 0, 2);
        x.fill(0, 42);
        dueThread(x, 1, Check.READY, 1, 1, 42, 0, 0, 0, 0, 1, -3);
        dueQueue(x, 0, 2, 1);
        due(x.thread(3, 0), Check.WAITS_TO_PUT);
    }

    @Says("and go on behind that ACT, READY, at the end of the QUEUE")
    static void theServedPutterKeepsItsRegister() {
        Counted x = begun(2, 0, "FORK 1, YIELD, TAKE 0, YIELD" + IDLE + "4", "SET 77, PUT 0, LOG, TAKE 7");
        x.fill(0, 8);
        x.step(3);
        dueThread(x, 1, Check.READY, 1, 2, 77, 0, 0, 0, 0, 1, -3);
        dueQueue(x, 1, 0);
        dueThread(x, 0, Check.READY, 0, 4, 8, 0, 0, 0, 0, 2, -3);
    }

    @Says("A VALUE that comes into a BOX: all that wait to READ get it")
    static void aValueThatAllRead() {
        Counted x = begun(10, 0, "FORK 0, READ 5");
        x.step(24);
        dueBox(x, 5, -3, 0, 0, 0, 24);
        due(x.fill(5, 3), 1);
        dueBox(x, 5, 3, 1, 0, 0, 0);
        for (int t = 0; t < 24; t++) {
            due(x.thread(t, 0), Check.READY);
            due(x.thread(t, 3), 3);
            due(x.queued(t), t);
        }
    }

    @Says("then the first that waits to TAKE, and it does not stay")
    static void onlyOneTakes() {
        Counted x = begun(10, 0, "FORK 1, FORK 2, FORK 1, FORK 2, YIELD, SET 66, PUT 4, YIELD" + IDLE + "8",
                "TAKE 4, TAKE 7", "READ 4, TAKE 7");
        x.step(5);
        dueBox(x, 4, -3, 0, 0, 2, 2);
        x.step(1);
        dueBox(x, 4, -3, 0, 0, 1, 0);
        dueQueue(x, 2, 4, 1, 0);
        due(x.thread(1, 3), 66);
        due(x.thread(2, 3), 66);
        due(x.thread(4, 3), 66);
        dueThread(x, 3, Check.WAITS_TO_TAKE, 1, 0, 2, 0, 0, 0, 0, 1, -3);
    }

    @Says("then the first that waits to TAKE, and it does not stay")
    static void theNextValueIsForTheNext() {
        Counted x = begun(10, 0, "FORK 1, FORK 1, YIELD, SET 66, PUT 4, ADD 1, PUT 4, ADD 1, PUT 4, ADD 1, PUT 4",
                "TAKE 4, TAKE 7");
        x.step(4);
        due(x.thread(1, 3), 66);
        due(x.thread(2, 3), 67);
        dueBox(x, 4, 68, 1, 1, 0, 0);
        dueThread(x, 0, Check.WAITS_TO_PUT, 0, 10, 69, 0, 0, 0, 0, 2, -3);
    }

    @Says("A BOX that was TAKEN gets the VALUE of the first that waits to PUT.")
    static void theNextValueComesAtOnce() {
        Counted x = begun(3, 0, "FORK 1, FORK 1, YIELD, TAKE 0, LOG, YIELD, TAKE 0, LOG, YIELD, TAKE 0, LOG, YIELD",
                "MINE, PUT 0, TAKE 7");
        x.fill(0, 8);
        x.step(3);
        dueBox(x, 0, 8, 1, 2, 0, 0);
        x.step(1);
        dueBox(x, 0, 1, 1, 1, 0, 0);
        due(x.thread(1, 0), Check.READY);
        due(x.thread(2, 0), Check.WAITS_TO_PUT);
        x.step(2);
        dueBox(x, 0, 2, 1, 0, 0, 0);
        due(x.thread(2, 0), Check.READY);
        x.step(2);
        dueBox(x, 0, -3, 0, 0, 0, 0);
        dueTrace(x, 0, 8, 0, 1, 0, 2);
    }

    @Says("2 READ a: likewise, but it stays")
    static void readOfAFullBoxServesNoPutter() {
        Counted x = begun(10, 0, "FORK 1, YIELD, READ 0, YIELD" + IDLE + "4", "SET 3, PUT 0");
        x.fill(0, 8);
        x.step(3);
        dueBox(x, 0, 8, 1, 1, 0, 0);
        due(x.thread(0, 3), 8);
        due(x.thread(1, 0), Check.WAITS_TO_PUT);
    }

    @Says("those that wait at a BOX are served in the order in which they came (of each kind)")
    static void eachBoxHasItsOwn() {
        Counted x = begun(10, 0, "FORK 1, FORK 2, FORK 3, FORK 4, YIELD" + IDLE + "5", "TAKE 0", "READ 0", "TAKE 7",
                "READ 7");
        x.step(5);
        x.fill(7, 1);
        dueBox(x, 0, -3, 0, 0, 1, 1);
        dueBox(x, 7, -3, 0, 0, 0, 0);
        dueQueue(x, 0, 4, 3);
        dueBox(x, 6, -3, 0, 0, 0, 0);
    }
}
