/** The promises 1 to 12, sentence by sentence: the least, the most, one beyond, none, full, a wrong call. */
public final class PromiseEdgesTest extends Edges {
    private static final int[] NEVER = {LEAST, LEAST + 1, -1000, -5, -4, -3, -2, 1000, MOST - 1, MOST};

    public static void main(String[] args) {
        runAll(PromiseEdgesTest.class);
    }

    @Says("`TurnThreads()`: No PROGRAMS, no RUN.")
    static void aNewObjectHasNoPrograms() {
        Counted x = new Counted();
        for (int kind = 0; kind <= 16; kind++) {
            due(x.act(kind, 1), -3);
        }
        for (int p = -1; p <= 12; p++) {
            due(x.begin(p, 1, 0), -1);
        }
        due(x.program(), 0);
    }

    @Says("`TurnThreads()`: No PROGRAMS, no RUN.")
    static void aNewObjectHasNoRun() {
        Counted x = new Counted();
        for (int i = 0; i < 2; i++) {
            for (int what = 0; what <= 5; what++) {
                due(x.told(what), -3);
            }
            due(x.step(1), -3);
            due(x.step(500), -3);
            due(x.fill(0, 0), -3);
            due(x.fill(7, 0), -3);
            for (int what = 0; what <= 9; what++) {
                due(x.thread(0, what), -1);
            }
            for (int what = 0; what <= 4; what++) {
                due(x.box(0, what), -1);
                due(x.box(7, what), -1);
            }
            due(x.queued(0), -1);
            due(x.trace(-1, 0), -1);
            due(x.trace(-1, 1), -1);
            due(x.trace(0, 0), -1);
            due(x.share(0), -1);
            // A program is no run.
            x.program();
        }
    }

    @Says("`TurnThreads()`: No PROGRAMS, no RUN.")
    static void objectsAreApart() {
        Counted x = begun(1, 4, "LOG, PUT 0, YIELD");
        x.step(2);
        Counted y = new Counted();
        due(y.program(), 0);
        due(y.told(0), -3);
        due(y.act(Check.ADD, 2), 1);
        due(y.begin(0, 3, 5), 1);
        due(y.box(0, 1), 0);
        due(y.step(1), 1);
        due(y.thread(0, 3), 7);
        due(x.thread(0, 3), 4);
        due(x.box(0, 0), 4);
    }

    @Says("A PROGRAM more, without ACTS: its number. -4.")
    static void programsAreNumberedAndEmpty() {
        Counted x = new Counted();
        for (int p = 0; p < 12; p++) {
            due(x.program(), p);
            due(x.act(Check.ADD, 1), 1);
            due(x.act(Check.ADD, 1), 2);
        }
        due(x.program(), -4);
        due(x.program(), -4);
        due(x.act(Check.ADD, 1), 3);
    }

    @Says("A PROGRAM more, without ACTS: its number. -4.")
    static void programsWithoutActsCountToo() {
        Counted x = new Counted();
        for (int p = 0; p < 12; p++) {
            due(x.program(), p);
        }
        due(x.program(), -4);
        x.begin(5, 1, 0);
        due(x.step(500), 1);
        due(x.program(), -4);
    }

    @Says("An ACT more of the latest PROGRAM: how many it has.")
    static void actsGoToTheLatestProgram() {
        Counted x = Script.object("ADD 1, ADD 1", "");
        due(x.act(Check.ADD, 5), 1);
        due(x.act(Check.ADD, 5), 2);
        due(x.act(Check.ADD, 5), 3);
        x.begin(0, 10, 0);
        x.step(1);
        due(x.thread(0, 3), 2);
        x.begin(1, 10, 0);
        x.step(1);
        due(x.thread(0, 3), 15);
    }

    private static void actWithin(int kind, int least, int most) {
        Counted x = Script.object("");
        due(x.act(kind, least - 1), -2);
        due(x.act(kind, most + 1), -2);
        for (int far : NEVER) {
            due(x.act(kind, far), -2);
        }
        due(x.act(kind, least), 1);
        due(x.act(kind, most), 2);
    }

    private static void actWithAny(int kind) {
        Counted x = Script.object("");
        for (int i = 0; i < NEVER.length; i++) {
            due(x.act(kind, NEVER[i]), i + 1);
        }
    }

    @Says("-2 (0 to 16;")
    static void kindsOfActs() {
        Counted x = Script.object("");
        due(x.act(-1, 1), -2);
        due(x.act(17, 1), -2);
        for (int far : NEVER) {
            due(x.act(far, 1), -2);
        }
        for (int kind = 0; kind <= 16; kind++) {
            due(x.act(kind, 1), kind + 1);
        }
    }

    @Says("a: a BOX")
    static void actsOfBoxes() {
        actWithin(Check.PUT, 0, 7);
        actWithin(Check.TAKE, 0, 7);
        actWithin(Check.READ, 0, 7);
    }

    @Says("SET and ADD anything")
    static void setAndAdd() {
        actWithAny(Check.SET);
        actWithAny(Check.ADD);
    }

    @Says("FORK 0 to 11")
    static void forkOfAnyProgram() {
        actWithin(Check.FORK, 0, 11);
    }

    @Says("7 DELAY a (0 to 100)")
    static void delayOfUpToHundred() {
        actWithin(Check.DELAY, 0, 100);
    }

    @Says("JUMP, ZERO, CATCH 0 to 20")
    static void actsThatNameActs() {
        actWithin(Check.JUMP, 0, 20);
        actWithin(Check.ZERO, 0, 20);
        actWithin(Check.CATCH, 0, 20);
    }

    @Says("11 RAISE a (1 to 9)")
    static void exceptionsOneToNine() {
        actWithin(Check.RAISE, 1, 9);
        actWithin(Check.THROW, 1, 9);
    }

    @Says("15 MASK a (1, 0)")
    static void maskOneOrNought() {
        actWithin(Check.MASK, 0, 1);
    }

    @Says("6, 10, 14, 16 do not look at it")
    static void actsThatDoNotLook() {
        actWithAny(Check.YIELD);
        actWithAny(Check.LOG);
        actWithAny(Check.LEAVE);
        actWithAny(Check.MINE);
        Counted x = begun(10, 5, "LOG " + LEAST + ", CATCH 0, LEAVE " + MOST + ", MINE -1, YIELD 99, LOG");
        x.step(1);
        dueThread(x, 0, Check.READY, 0, 5, 0, 0, 0, 0, 0, 1, -3);
        dueTrace(x, 0, 5);
    }

    @Says("-3 there is no PROGRAM; -4.")
    static void actWithoutRoom() {
        Counted x = new Counted();
        due(x.act(Check.LOG, 0), -3);
        x.program();
        for (int i = 1; i <= 20; i++) {
            due(x.act(Check.LOG, 0), i);
        }
        due(x.act(Check.LOG, 0), -4);
        due(x.act(Check.LOG, 0), -4);
        x.program();
        due(x.act(Check.LOG, 0), 1);
    }

    @Says("A RUN begins, instead of the one before: BOXES empty, CLOCK 0, THE TRACE empty, THREAD 0 of a PROGRAM,"
            + " READY: 1.")
    static void aNewRunHasNothingOfTheOneBefore() {
        Script before = Script.of("LOG, CATCH 9, MASK 1, FORK 1, FORK 2, PUT 0, TAKE 6, YIELD", "TAKE 5",
                "SET 0, DELAY 40").fill(3, 3).begin(0, 10, 9).fill(4, 4);
        Script fresh = Script.of("LOG, CATCH 9, MASK 1, FORK 1, FORK 2, PUT 0, TAKE 6, YIELD", "TAKE 5",
                "SET 0, DELAY 40").begin(1, 2, 66);
        for (int turns = 1; turns <= 4; turns++) {
            Script again = before.with(Counted.STEP, turns).with(Counted.BEGIN, 1, 2, 66);
            Check.due("a run begun after " + turns + " turns", again.state().equals(fresh.state()) ? 0 : 1, 0);
            Script on = again.with(Counted.STEP, 1);
            Check.due("its first turn", on.state().equals(fresh.with(Counted.STEP, 1).state()) ? 0 : 1, 0);
        }
        Counted x = fresh.play();
        dueTold(x, 0, 0, 0, 1, 1, 0);
        dueThread(x, 0, Check.READY, 1, 0, 66, 0, 0, 0, 0, 0, -3);
        dueQueue(x, 0);
        dueTrace(x);
        for (int b = 0; b < 8; b++) {
            dueBox(x, b, -3, 0, 0, 0, 0);
        }
    }

    @Says("A RUN begins, instead of the one before")
    static void nothingIsPendingInANewRun() {
        Counted x = begun(10, 0, "MASK 1, CATCH 9, FORK 1, YIELD, YIELD, JUMP 4",
                "SET 0, THROW 1, THROW 2, THROW 3, THROW 4, YIELD");
        x.step(2);
        dueThread(x, 0, Check.READY, 0, 4, 1, 1, 1, 4, 0, 1, -3);
        x.begin(0, 10, 0);
        dueThread(x, 0, Check.READY, 0, 0, 0, 0, 0, 0, 0, 0, -3);
        x.step(1);
        dueThread(x, 0, Check.READY, 0, 4, 1, 1, 1, 0, 0, 1, -3);
    }

    @Says("A RUN begins, instead of the one before")
    static void aRunAfterOneThatIsOver() {
        Counted x = begun(1, 3, "TAKE 0");
        due(x.step(500), 1);
        dueTold(x, 1, 1, 1, 1, 0, 1);
        due(x.begin(0, 1, 4), 1);
        dueTold(x, 0, 0, 0, 1, 1, 0);
        dueThread(x, 0, Check.READY, 0, 0, 4, 0, 0, 0, 0, 0, -3);
        due(x.fill(0, 8), 1);
        due(x.step(1), 1);
        dueThread(x, 0, Check.READY, 0, 1, 8, 0, 0, 0, 0, 1, -3);
    }

    @Says("A RUN begins, instead of the one before")
    static void aRunAfterThreeThousandTurns() {
        Counted x = begun(1, 3, "JUMP 0");
        for (int i = 0; i < 6; i++) {
            due(x.step(500), 500);
        }
        due(x.step(1), -4);
        x.begin(0, 1, 0);
        due(x.step(500), 500);
        due(x.told(2), 500);
    }

    @Says("-1; -2 QUANTUM (1 to 10).")
    static void beginWithinItsBounds() {
        Counted x = Script.object("ADD 1, JUMP 0", "ADD 1, JUMP 0");
        due(x.begin(-1, 1, 0), -1);
        due(x.begin(2, 1, 0), -1);
        due(x.begin(11, 1, 0), -1);
        due(x.begin(12, 1, 0), -1);
        due(x.begin(0, 0, 0), -2);
        due(x.begin(0, 11, 0), -2);
        for (int far : NEVER) {
            due(x.begin(far, 1, 0), -1);
            due(x.begin(1, far, 0), -2);
        }
        due(x.told(0), -3);
        due(x.begin(1, 1, LEAST), 1);
        due(x.begin(0, 10, MOST), 1);
    }

    @Says("An empty BOX gets a VALUE from outside (as one that comes into it): 1.")
    static void fillOfAnyValue() {
        int[] values = {0, -1, -2, -3, -4, 1, LEAST, MOST};
        Counted x = begun(1, 0, "YIELD");
        for (int b = 0; b < 8; b++) {
            due(x.fill(b, values[b]), 1);
            dueBox(x, b, values[b], 1, 0, 0, 0);
        }
        dueTold(x, 0, 0, 0, 1, 1, 0);
    }

    @Says("An empty BOX gets a VALUE from outside (as one that comes into it): 1.")
    static void fillServesThoseThatWait() {
        Counted x = begun(10, 0, "FORK 1, FORK 2, FORK 1, TAKE 6", "TAKE 4", "READ 4");
        x.step(4);
        due(x.fill(4, 12), 1);
        dueBox(x, 4, -3, 0, 0, 1, 0);
        dueQueue(x, 2, 1);
        due(x.fill(4, 13), 1);
        dueBox(x, 4, -3, 0, 0, 0, 0);
        dueQueue(x, 2, 1, 3);
        due(x.fill(4, 14), 1);
        dueBox(x, 4, 14, 1, 0, 0, 0);
        due(x.fill(4, 15), -3);
        due(x.box(4, 0), 14);
        due(x.thread(2, 3), 12);
        due(x.thread(1, 3), 12);
        due(x.thread(3, 3), 13);
    }

    @Says("-1; -3 no RUN, OVER, or it has one.")
    static void fillRefused() {
        Counted x = Script.object("YIELD");
        for (int far : NEVER) {
            due(x.fill(far, 1), -1);
        }
        due(x.fill(-1, 1), -1);
        due(x.fill(8, 1), -1);
        due(x.fill(0, 1), -3);
        due(x.fill(7, 1), -3);
        x.begin(0, 1, 0);
        due(x.fill(-1, 1), -1);
        due(x.fill(8, 1), -1);
        due(x.fill(7, 1), 1);
        due(x.fill(7, 1), -3);
        due(x.step(2), 2);
        due(x.told(0), 1);
        due(x.fill(0, 1), -3);
        due(x.fill(7, 1), -3);
        due(x.fill(8, 1), -1);
        due(x.box(0, 1), 0);
    }

    @Says("Up to n TURNS (1 to 500), until it is OVER: how many were done.")
    static void stepsOfOneToFiveHundred() {
        Counted x = begun(1, 0, "JUMP 0");
        due(x.step(0), -2);
        due(x.step(501), -2);
        due(x.step(-1), -2);
        for (int far : NEVER) {
            due(x.step(far), -2);
        }
        due(x.told(2), 0);
        due(x.step(1), 1);
        due(x.told(2), 1);
        due(x.step(500), 500);
        due(x.told(2), 501);
        due(x.told(1), 501);
    }

    @Says("Up to n TURNS (1 to 500), until it is OVER: how many were done.")
    static void stepsUntilItIsOver() {
        for (int n = 1; n <= 6; n++) {
            Counted x = begun(1, 0, "ADD 1, ADD 1, ADD 1");
            due(x.step(n), Math.min(n, 4));
            due(x.told(0), n >= 4 ? 1 : 0);
            due(x.told(2), Math.min(n, 4));
            due(x.step(500), Math.max(4 - n, 0));
            due(x.step(500), 0);
            due(x.step(1), 0);
            dueTold(x, 1, 4, 4, 1, 0, 0);
        }
    }

    @Says("-4 those done so far and n are above 3000.")
    static void threeThousandTurnsAtMost() {
        Counted x = begun(1, 0, "JUMP 0");
        for (int i = 0; i < 5; i++) {
            due(x.step(500), 500);
        }
        due(x.step(499), 499);
        due(x.step(2), -4);
        due(x.step(500), -4);
        due(x.told(2), 2999);
        due(x.step(1), 1);
        due(x.told(2), 3000);
        due(x.step(1), -4);
        due(x.step(500), -4);
        dueTold(x, 0, 3000, 3000, 1, 1, 0);
        due(x.share(0), 1000);
    }

    @Says("-4 those done so far and n are above 3000.")
    static void aRunThatIsOverIsRefusedToo() {
        // A loop a turn: over in the 2600th.
        Counted x = begun(3, -2600, "ADD 1, ZERO 20, JUMP 0");
        for (int i = 0; i < 5; i++) {
            due(x.step(500), 500);
        }
        due(x.step(500), 100);
        dueTold(x, 1, 2600, 2600, 1, 0, 0);
        due(x.step(400), 0);
        due(x.step(401), -4);
        due(x.step(1), 0);
    }

    @Says("-4 those done so far and n are above 3000.")
    static void exactlyThreeThousandAtOnce() {
        Counted x = begun(1, 0, "JUMP 0");
        for (int i = 0; i < 6; i++) {
            due(x.step(500), 500);
        }
        due(x.told(2), 3000);
    }

    @Says("-4 those done so far and n are above 3000.")
    static void turnsAreCountedNotTheClock() {
        // The clock goes on by 101 in two turns, and is above 3000 long before the turns are.
        Counted x = begun(1, 0, "DELAY 100, JUMP 0");
        due(x.step(200), 200);
        due(x.told(1), 10100);
        due(x.told(2), 200);
        due(x.step(500), 500);
    }

    @Says("Of the RUN: 0 whether it is OVER (1, 0), 1 CLOCK, 2 TURNS, 3 THREADS so far, 4 how many in the QUEUE,"
            + " 5 how many EXCEPTIONS 10 came.")
    static void whatIsTold() {
        Counted x = begun(10, 0, "FORK 1, FORK 2, CATCH 3, TAKE 0, YIELD, RAISE 1", "CATCH 2, TAKE 0, YIELD",
                "DELAY 30, TAKE 0");
        dueTold(x, 0, 0, 0, 1, 1, 0);
        x.step(1);
        dueTold(x, 0, 1, 1, 3, 2, 0);
        x.step(2);
        dueTold(x, 0, 3, 3, 3, 0, 0);
        x.step(1);
        dueTold(x, 0, 33, 4, 3, 0, 0);
        x.step(1);
        // Handler 3 of thread 0 is TAKE 0 again; thread 1 is ready, thread 2 ended by 10.
        dueTold(x, 0, 34, 5, 3, 1, 3);
        x.step(2);
        dueTold(x, 0, 36, 7, 3, 0, 3);
        due(x.step(1), 0);
        dueTold(x, 1, 36, 7, 3, 0, 4);
    }

    @Says("-2; -3 no RUN.")
    static void toldRefused() {
        Counted x = Script.object("YIELD");
        for (int what = 0; what <= 5; what++) {
            due(x.told(what), -3);
        }
        for (int i = 0; i < 2; i++) {
            due(x.told(-1), -2);
            due(x.told(6), -2);
            for (int far : NEVER) {
                due(x.told(far), -2);
            }
            x.begin(0, 1, 0);
        }
    }

    @Says("0 its state, 1 PROGRAM, 2 the ACT that comes next (of one that waits, 1 to 3: that with which it waits;"
            + " -3 of 5 to 7), 3 REGISTER")
    static void theActThatComesNext() {
        Counted x = begun(10, 5, "FORK 1, FORK 2, FORK 3, FORK 4, FORK 5, FORK 6, YIELD, YIELD, JUMP 20",
                "ADD 1, PUT 0", "ADD 1, TAKE 1", "ADD 1, READ 1", "ADD 1, DELAY 50", "ADD 1", "ADD 1, RAISE 1");
        x.fill(0, 1);
        due(x.thread(0, 2), 0);
        x.step(7);
        int[] acts = {7, 1, 1, 1, 2, -3, -3};
        for (int t = 0; t < 7; t++) {
            due(x.thread(t, 1), t);
            due(x.thread(t, 2), acts[t]);
        }
        x.step(2);
        due(x.told(0), 1);
        for (int t = 0; t < 7; t++) {
            due(x.thread(t, 2), -3);
        }
    }

    @Says("4 HANDLERS, 5 whether it is MASKED (1, 0), 6 how many PENDING")
    static void handlersMaskAndPending() {
        Counted x = begun(10, 1, "FORK 1, YIELD, THROW 8, YIELD, THROW 9, YIELD, YIELD, JUMP 6",
                "CATCH 18, CATCH 19, MASK 1, YIELD, CATCH 20, YIELD, MASK 0, YIELD");
        x.step(1);
        dueThread(x, 1, Check.READY, 1, 0, 1, 0, 0, 0);
        x.step(2);
        dueThread(x, 1, Check.READY, 1, 4, 1, 2, 1, 1);
        x.step(2);
        dueThread(x, 1, Check.READY, 1, 6, 1, 3, 1, 2);
        x.step(1);
        // 8 and 9 took the two inner ones; the next act is behind the last.
        dueThread(x, 1, Check.ENDED, 1, -3, 9, 1, 0, 0);
    }

    @Says("7 the EXCEPTION by which it ENDED (0)")
    static void theExceptionByWhichItEnded() {
        Counted x = begun(10, 5, "FORK 1, FORK 2, FORK 3, FORK 4, YIELD", "RAISE 1", "RAISE 9", "",
                "CATCH 1, RAISE 4, YIELD");
        x.step(1);
        for (int t = 0; t < 5; t++) {
            due(x.thread(t, 7), 0);
        }
        x.step(4);
        int[] endedBy = {0, 1, 9, 0, 4};
        for (int t = 0; t < 5; t++) {
            due(x.thread(t, 7), endedBy[t]);
        }
        x = begun(1, 5, "TAKE 0");
        x.step(2);
        due(x.thread(0, 7), 10);
    }

    @Says("8 TURNS that it had")
    static void theTurnsThatItHad() {
        Counted x = begun(10, 5, "FORK 1, FORK 2, YIELD, JUMP 2", "TAKE 0", "YIELD, JUMP 0");
        due(x.thread(0, 8), 0);
        x.step(1);
        due(x.thread(0, 8), 1);
        due(x.thread(1, 8), 0);
        x.step(6);
        due(x.thread(0, 8), 3);
        due(x.thread(1, 8), 1);
        due(x.thread(2, 8), 3);
    }

    @Says("9 until when it is DELAYED (else -3)")
    static void untilWhenItIsDelayed() {
        Counted x = begun(10, 5, "FORK 1, YIELD, YIELD, YIELD, YIELD", "DELAY 0, DELAY 2, TAKE 0");
        due(x.thread(0, 9), -3);
        x.step(2);
        due(x.thread(1, 9), 1);
        due(x.thread(0, 9), -3);
        x.step(1);
        due(x.thread(1, 9), -3);
        x.step(1);
        due(x.thread(1, 9), 5);
        x.step(2);
        due(x.thread(1, 9), -3);
        x = begun(10, 5, "FORK 1, YIELD", "DELAY 50");
        x.step(2);
        due(x.thread(1, 9), 51);
        x.step(1);
        due(x.thread(1, 0), Check.KILLED);
        due(x.thread(1, 9), -3);
    }

    @Says("-1 (also no RUN); -2.")
    static void threadRefused() {
        Counted x = Script.object("FORK 0, YIELD");
        for (int what = -1; what <= 10; what++) {
            due(x.thread(0, what), -1);
        }
        x.begin(0, 2, 0);
        due(x.thread(1, 0), -1);
        x.step(1);
        due(x.thread(1, 0), 0);
        due(x.thread(2, 0), -1);
        due(x.thread(-1, 0), -1);
        due(x.thread(23, 0), -1);
        due(x.thread(24, 0), -1);
        due(x.thread(2, 10), -1);
        for (int t = 0; t < 2; t++) {
            due(x.thread(t, -1), -2);
            due(x.thread(t, 10), -2);
        }
        for (int far : NEVER) {
            due(x.thread(far, 0), -1);
            due(x.thread(1, far), -2);
        }
    }

    @Says("Place i of the QUEUE: a THREAD. -1 (also no RUN).")
    static void placesOfTheQueue() {
        Counted x = Script.object("FORK 1, JUMP 0", "YIELD, JUMP 0");
        due(x.queued(0), -1);
        due(x.queued(-1), -1);
        x.begin(0, 10, 0);
        due(x.queued(0), 0);
        due(x.queued(1), -1);
        due(x.queued(-1), -1);
        due(x.queued(24), -1);
        for (int far : NEVER) {
            due(x.queued(far), -1);
        }
        x.step(60);
        due(x.told(4), 24);
        boolean[] seen = new boolean[24];
        for (int i = 0; i < 24; i++) {
            int t = x.queued(i);
            due(t >= 0 && t < 24 && !seen[t] ? 1 : 0, 1);
            seen[t >= 0 && t < 24 ? t : 0] = true;
        }
        due(x.queued(24), -1);
    }

    @Says("Place i of the QUEUE: a THREAD. -1 (also no RUN).")
    static void anEmptyQueue() {
        Counted x = begun(2, 0, "TAKE 0");
        x.step(1);
        due(x.queued(0), -1);
        x.fill(0, 1);
        due(x.queued(0), 0);
        due(x.queued(1), -1);
        x.step(1);
        due(x.told(0), 1);
        due(x.queued(0), -1);
    }

    @Says("Of a BOX: 0 its VALUE, 1 whether it has one (1, 0), 2, 3, 4 how many wait to PUT, TAKE, READ.")
    static void whatABoxTells() {
        Counted x = begun(10, 5, "FORK 1, FORK 1, FORK 2, FORK 3, FORK 3, FORK 3, FORK 2, YIELD, YIELD", "PUT 0",
                "TAKE 7", "READ 7");
        x.fill(0, -3);
        x.step(8);
        dueBox(x, 0, -3, 1, 2, 0, 0);
        dueBox(x, 7, -3, 0, 0, 2, 3);
        dueBox(x, 3, -3, 0, 0, 0, 0);
        x.step(2);
        due(x.told(0), 1);
        dueBox(x, 0, -3, 1, 0, 0, 0);
        dueBox(x, 7, -3, 0, 0, 0, 0);
    }

    @Says("-1 (also no RUN); -2; -3 (0) it is empty.")
    static void boxRefused() {
        Counted x = Script.object("YIELD");
        for (int what = -1; what <= 5; what++) {
            due(x.box(0, what), -1);
        }
        x.begin(0, 1, 0);
        due(x.box(-1, 0), -1);
        due(x.box(8, 0), -1);
        due(x.box(8, 5), -1);
        for (int b = 0; b < 8; b++) {
            due(x.box(b, -1), -2);
            due(x.box(b, 5), -2);
            due(x.box(b, 0), -3);
        }
        for (int far : NEVER) {
            due(x.box(far, 0), -1);
            due(x.box(7, far), -2);
        }
    }

    @Says("Row i of THE TRACE: the THREAD (what = 0), its REGISTER (1); how many rows (i = -1).")
    static void rowsOfTheTrace() {
        Counted x = begun(10, 5, "FORK 1, LOG, YIELD, LOG, YIELD", "LOG, YIELD");
        dueTrace(x);
        due(x.trace(-1, 1), 0);
        x.step(1);
        dueTrace(x, 0, 1);
        due(x.trace(-1, 1), 1);
        x.step(2);
        dueTrace(x, 0, 1, 1, 5, 0, 1);
        due(x.trace(-1, 1), 3);
    }

    @Says("Row i of THE TRACE: the THREAD (what = 0), its REGISTER (1); how many rows (i = -1).")
    static void rowsStayWhenItIsOver() {
        Counted x = begun(10, 5, "LOG, RAISE 4");
        x.step(1);
        due(x.told(0), 1);
        dueTrace(x, 0, 5);
    }

    @Says("-1 (also no RUN); -2.")
    static void traceRefused() {
        Counted x = Script.object("LOG, LOG, YIELD");
        for (int what = -1; what <= 2; what++) {
            due(x.trace(-1, what), -1);
            due(x.trace(0, what), -1);
        }
        x.begin(0, 10, 0);
        due(x.trace(0, 0), -1);
        due(x.trace(0, 2), -1);
        x.step(1);
        due(x.trace(-2, 0), -1);
        due(x.trace(2, 0), -1);
        due(x.trace(2, 2), -1);
        for (int far : NEVER) {
            due(x.trace(far, 0), -1);
            due(x.trace(1, far), -2);
        }
        for (int i = 0; i < 2; i++) {
            due(x.trace(i, -1), -2);
            due(x.trace(i, 2), -2);
        }
        // Nothing in the document says that the count of rows does not look at what.
        due(x.trace(-1, -1), -2);
        due(x.trace(-1, 2), -2);
    }

    @Says("Of 1000 TURNS how many a THREAD had, cut.")
    static void sharesAreCut() {
        Counted x = begun(10, 5, "FORK 1, FORK 2, YIELD, JUMP 2", "YIELD, JUMP 0", "DELAY 100");
        x.step(1);
        due(x.share(0), 1000);
        due(x.share(1), 0);
        due(x.share(2), 0);
        x.step(2);
        due(x.share(0), 333);
        due(x.share(1), 333);
        due(x.share(2), 333);
        x.step(1);
        due(x.share(0), 500);
        due(x.share(1), 250);
        x.step(2);
        due(x.share(0), 500);
        due(x.share(1), 333);
        due(x.share(2), 166);
    }

    @Says("Of 1000 TURNS how many a THREAD had, cut.")
    static void sharesOfThreeThousandTurns() {
        Counted x = begun(10, 5, "FORK 1, YIELD, JUMP 1", "TAKE 0");
        for (int i = 0; i < 6; i++) {
            x.step(500);
        }
        due(x.thread(0, 8), 2999);
        due(x.share(0), 999);
        due(x.thread(1, 8), 1);
        due(x.share(1), 0);
    }

    @Says("Of 1000 TURNS how many a THREAD had, cut.")
    static void sharesWhenItIsOver() {
        Counted x = begun(1, 5, "FORK 1, ADD 1", "YIELD, YIELD, YIELD");
        due(x.step(500), 5);
        due(x.share(0), 600);
        due(x.share(1), 400);
    }

    @Says("ArithmeticException: there were none. -1 (first, also no RUN).")
    static void shareWithoutTurns() {
        Counted x = Script.object("YIELD");
        due(x.share(0), -1);
        due(x.share(-1), -1);
        x.begin(0, 1, 0);
        due(x.share(-1), -1);
        due(x.share(1), -1);
        due(x.share(24), -1);
        for (int far : NEVER) {
            due(x.share(far), -1);
        }
        Check.dueThrow("no turns: share(0)", x, 0);
        x.step(1);
        due(x.share(0), 1000);
        x.begin(0, 1, 0);
        Check.dueThrow("no turns again: share(0)", x, 0);
        due(x.share(1), -1);
    }
}
