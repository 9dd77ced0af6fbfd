/** "Terms": how many there may be of each thing, at the last one that there may be and one beyond. */
public final class BoundsEdgesTest extends Edges {
    public static void main(String[] args) {
        runAll(BoundsEdgesTest.class);
    }

    @Says("PROGRAMS are 0 .. 11")
    static void twelvePrograms() {
        Counted x = new Counted();
        for (int p = 0; p < 12; p++) {
            due(x.program(), p);
        }
        due(x.program(), -4);
        due(x.begin(12, 1, 0), -1);
        due(x.begin(-1, 1, 0), -1);
        for (int p = 0; p < 12; p++) {
            due(x.begin(p, 1, 0), 1);
            due(x.thread(0, 1), p);
        }
    }

    @Says("PROGRAMS are 0 .. 11")
    static void eachProgramHasItsOwnActs() {
        Counted x = new Counted();
        for (int p = 0; p < 12; p++) {
            x.program();
            due(x.act(Check.SET, 100 + p), 1);
        }
        for (int p = 0; p < 12; p++) {
            x.begin(p, 1, 0);
            x.step(1);
            due(x.thread(0, 3), 100 + p);
        }
    }

    @Says("of 20 ACTS at most, from 0 on")
    static void twentyActs() {
        Counted x = new Counted();
        x.program();
        for (int i = 0; i < 20; i++) {
            due(x.act(Check.LOG, 0), i + 1);
        }
        due(x.act(Check.LOG, 0), -4);
        due(x.begin(0, 1, 5), 1);
        due(x.thread(0, 2), 0);
        due(x.step(20), 20);
        due(x.thread(0, 2), 20);
        due(x.thread(0, 0), Check.READY);
        due(x.trace(-1, 0), 20);
        due(x.step(1), 1);
        due(x.thread(0, 0), Check.ENDED);
        due(x.trace(-1, 0), 20);
    }

    @Says("of 20 ACTS at most, from 0 on")
    static void allProgramsMayBeFull() {
        Script script = new Script();
        for (int p = 0; p < 12; p++) {
            script.add(Counted.PROGRAM);
            for (int i = 0; i < 20; i++) {
                script.add(Counted.ACT, Check.ADD, p + 1);
            }
        }
        for (int p = 0; p < 12; p++) {
            Counted x = script.play();
            due(x.act(Check.ADD, 1), -4);
            due(x.begin(p, 10, 0), 1);
            due(x.step(500), 3);
            due(x.thread(0, 3), 20 * (p + 1));
        }
    }

    @Says("THREADS are numbered as they begin, 24 at most in a RUN")
    static void twentyFourThreads() {
        Counted x = begun(2, 0, "FORK 1, JUMP 0", "DELAY 100");
        for (int t = 1; t < 24; t++) {
            due(x.thread(t, 0), -1);
            x.step(t == 1 ? 1 : 2);
            due(x.told(3), t + 1);
            due(x.thread(0, 3), t);
            due(x.thread(t, 0), Check.READY);
        }
        x.step(2);
        due(x.told(3), 24);
        due(x.thread(0, 3), -1);
        due(x.thread(24, 0), -1);
        due(x.share(24), -1);
    }

    @Says("THREADS are numbered as they begin, 24 at most in a RUN")
    static void endedThreadsCountToo() {
        Counted x = begun(2, 0, "FORK 1, JUMP 0", "RAISE 1");
        x.step(60);
        due(x.told(3), 24);
        due(x.thread(1, 0), Check.ENDED_BY_EXCEPTION);
        due(x.thread(23, 0), Check.ENDED_BY_EXCEPTION);
        due(x.thread(0, 3), -1);
        dueQueue(x, 0);
    }

    @Says("THREADS are numbered as they begin, 24 at most in a RUN")
    static void anotherRunHasTwentyFourAgain() {
        Counted x = begun(2, 0, "FORK 1, JUMP 0", "TAKE 0");
        x.step(60);
        due(x.told(3), 24);
        due(x.begin(0, 2, 0), 1);
        due(x.told(3), 1);
        due(x.thread(1, 0), -1);
        x.step(1);
        due(x.thread(0, 3), 1);
        x.step(60);
        due(x.told(3), 24);
        due(x.thread(23, 0), Check.WAITS_TO_TAKE);
    }

    @Says("a REGISTER (32 bits)")
    static void registersHoldAllThirtyTwoBits() {
        int[] values = {0, 1, -1, -2, -3, -4, 1 << 16, LEAST, LEAST + 1, MOST};
        for (int v : values) {
            Counted x = begun(10, v, "LOG, PUT 0, FORK 1, YIELD", "LOG");
            due(x.thread(0, 3), v);
            x.step(1);
            due(x.box(0, 0), v);
            due(x.thread(1, 3), v);
            due(x.trace(0, 1), v);
            x = begun(10, 5, "SET " + v + ", YIELD, TAKE 1, YIELD, READ 2, YIELD");
            x.step(1);
            due(x.thread(0, 3), v);
            x.fill(1, v);
            x.fill(2, v);
            x.step(1);
            due(x.thread(0, 3), v);
            x.step(1);
            due(x.thread(0, 3), v);
        }
    }

    @Says("HANDLERS (4 at most, each an ACT)")
    static void fourHandlers() {
        Counted x = begun(1, 0, "CATCH 7, CATCH 8, CATCH 9, CATCH 10, CATCH 11, RAISE 1, LOG, YIELD");
        for (int n = 0; n < 4; n++) {
            due(x.thread(0, 4), n);
            x.step(1);
        }
        due(x.thread(0, 4), 4);
        x.step(1);
        due(x.thread(0, 4), 4);
        due(x.thread(0, 2), 5);
        x.step(1);
        dueThread(x, 0, Check.READY, 0, 10, 1, 3, 0, 0, 0, 6, -3);
    }

    @Says("whether it is MASKED (not at first)")
    static void notMaskedAtFirst() {
        Counted x = begun(10, 0, "MASK 1, CATCH 0, FORK 1, YIELD", "YIELD");
        due(x.thread(0, 5), 0);
        x.step(1);
        due(x.thread(0, 5), 1);
        dueThread(x, 1, Check.READY, 1, 0, 0, 0, 0, 0, 0, 0, -3);
    }

    @Says("what is PENDING (4 EXCEPTIONS at most)")
    static void fourPending() {
        Counted x = begun(10, 1, "FORK 1, YIELD, THROW 1, YIELD, THROW 2, YIELD, THROW 3, YIELD, THROW 4, YIELD,"
                + " THROW 5, YIELD, THROW 6, YIELD", "MASK 1, YIELD, JUMP 1");
        x.step(2);
        for (int n = 0; n <= 6; n++) {
            due(x.thread(1, 6), Math.min(n, 4));
            x.step(2);
        }
    }

    @Says("It is 0 READY, 1 waits to PUT, 2 to TAKE, 3 to READ, 4 DELAYED, 5 ENDED, 6 ENDED by an EXCEPTION, 7 KILLED.")
    static void theEightStates() {
        Script script = Script.of("FORK 1, FORK 2, FORK 3, FORK 4, FORK 5, FORK 6, FORK 7, YIELD", "PUT 0", "TAKE 1",
                "READ 1", "DELAY 50", "", "RAISE 1", "YIELD").begin(0, 10, 0).fill(0, 0).step(8);
        Counted x = script.play();
        int[] before = {0, 1, 2, 3, 4, 5, 6, 0};
        for (int t = 0; t < 8; t++) {
            due(x.thread(t, 0), before[t]);
        }
        due(x.step(1), 1);
        int[] after = {5, 7, 7, 7, 7, 5, 6, 7};
        for (int t = 0; t < 8; t++) {
            due(x.thread(t, 0), after[t]);
        }
    }

    @Says("BOXES are 0 .. 7, each empty or with a VALUE.")
    static void eightBoxes() {
        Counted x = begun(1, 0, "YIELD");
        due(x.box(-1, 1), -1);
        due(x.box(8, 1), -1);
        due(x.fill(-1, 1), -1);
        due(x.fill(8, 1), -1);
        for (int b = 0; b < 8; b++) {
            dueBox(x, b, -3, 0, 0, 0, 0);
            due(x.fill(b, 70 + b), 1);
            dueBox(x, b, 70 + b, 1, 0, 0, 0);
        }
        for (int b = 0; b < 8; b++) {
            due(x.box(b, 0), 70 + b);
        }
    }

    @Says("a row of THE TRACE (100 at most, others are not kept)")
    static void hundredRows() {
        Counted x = begun(3, 7, "LOG, ADD 1, JUMP 0");
        x.step(99);
        due(x.trace(-1, 0), 99);
        due(x.trace(99, 0), -1);
        x.step(1);
        due(x.trace(-1, 0), 100);
        due(x.trace(99, 1), 106);
        x.step(1);
        due(x.trace(-1, 0), 100);
        due(x.trace(100, 0), -1);
        due(x.trace(0, 1), 7);
        due(x.trace(99, 1), 106);
        due(x.thread(0, 3), 108);
    }

    @Says("An object is used for at most 512 calls after it has been made")
    static void theLastPromisedCall() {
        Counted x = begun(10, 0, "LOG, ADD 1, YIELD, JUMP 0");
        while (x.calls() < 509) {
            due(x.step(1), 1);
        }
        due(x.told(2), 503);
        due(x.thread(0, 3), 503);
        due(x.step(500), 500);
        due(x.calls(), 512);
    }
}
