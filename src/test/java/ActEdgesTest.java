/** "Terms": the ACTS, one by one, where something is full, empty, the first, the last, or not there. */
public final class ActEdgesTest extends Edges {
    public static void main(String[] args) {
        runAll(ActEdgesTest.class);
    }

    @Says("0 PUT a: the REGISTER into BOX a")
    static void putIntoTheFirstAndTheLastBox() {
        Counted x = begun(10, 0, "SET 11, PUT 0, SET 12, PUT 7, YIELD");
        x.step(1);
        dueBox(x, 0, 11, 1, 0, 0, 0);
        dueBox(x, 7, 12, 1, 0, 0, 0);
        dueBox(x, 1, -3, 0, 0, 0, 0);
        dueBox(x, 6, -3, 0, 0, 0, 0);
        due(x.thread(0, 3), 12);
    }

    @Says("1 TAKE a: its VALUE becomes the REGISTER, it is empty")
    static void takeFromTheFirstAndTheLastBox() {
        Counted x = begun(2, 0, "TAKE 0, YIELD, TAKE 7, YIELD");
        x.fill(0, 21);
        x.fill(7, 22);
        x.step(1);
        due(x.thread(0, 3), 21);
        dueBox(x, 0, -3, 0, 0, 0, 0);
        dueBox(x, 7, 22, 1, 0, 0, 0);
        x.step(1);
        due(x.thread(0, 3), 22);
        dueBox(x, 7, -3, 0, 0, 0, 0);
    }

    @Says("2 READ a: likewise, but it stays")
    static void readTheFirstAndTheLastBox() {
        Counted x = begun(2, 0, "READ 0, YIELD, READ 7, YIELD");
        x.fill(0, 31);
        x.fill(7, 32);
        x.step(1);
        due(x.thread(0, 3), 31);
        dueBox(x, 0, 31, 1, 0, 0, 0);
        x.step(1);
        due(x.thread(0, 3), 32);
        dueBox(x, 7, 32, 1, 0, 0, 0);
    }

    @Says("3 SET a")
    static void setAnything() {
        Counted x = begun(10, 5, "SET " + LEAST + ", LOG, SET " + MOST + ", LOG, SET 0, LOG, SET -1, LOG, YIELD");
        x.step(1);
        dueTrace(x, 0, LEAST, 0, MOST, 0, 0, 0, -1);
    }

    @Says("4 ADD a (wrapping)")
    static void addWraps() {
        Counted x = begun(10, MOST, "ADD 1, LOG, ADD -1, LOG, ADD " + MOST + ", LOG, ADD " + LEAST + ", LOG, YIELD");
        x.step(1);
        dueTrace(x, 0, LEAST, 0, MOST, 0, -2, 0, MOST - 1);
        x = begun(10, LEAST, "ADD -1, LOG, ADD 0, LOG, SET " + LEAST + ", ADD " + LEAST + ", LOG, YIELD");
        x.step(1);
        dueTrace(x, 0, MOST, 0, MOST, 0, 0);
    }

    @Says("5 FORK a: a new THREAD of PROGRAM a with this REGISTER, READY, at the end of the QUEUE;"
            + " the REGISTER becomes its number")
    static void forkOfTheFirstAndTheLastProgram() {
        Counted x = begun(10, 40, "FORK 11, FORK 0, YIELD", "", "", "", "", "", "", "", "", "", "", "YIELD");
        x.step(1);
        dueThread(x, 1, Check.READY, 11, 0, 40, 0, 0, 0, 0, 0, -3);
        dueThread(x, 2, Check.READY, 0, 0, 1, 0, 0, 0, 0, 0, -3);
        due(x.thread(0, 3), 2);
        dueQueue(x, 1, 2, 0);
    }

    @Says("5 FORK a: a new THREAD of PROGRAM a with this REGISTER, READY, at the end of the QUEUE;"
            + " the REGISTER becomes its number")
    static void forkGoesBehindAllOthers() {
        Counted x = begun(1, 0, "FORK 1, FORK 1, JUMP 1", "YIELD, JUMP 0");
        x.step(1);
        dueQueue(x, 1, 0);
        x.step(2);
        dueQueue(x, 1, 2, 0);
        due(x.thread(2, 3), 1);
    }

    @Says("(-1: none, if there were 24 already)")
    static void forkOfATwentyFifth() {
        Counted x = begun(10, 0, "FORK 1, LOG, JUMP 0", "TAKE 0");
        x.step(60);
        due(x.told(3), 24);
        due(x.trace(22, 1), 23);
        due(x.trace(23, 1), -1);
        due(x.trace(24, 1), -1);
        due(x.box(0, 3), 23);
        dueQueue(x, 0);
    }

    @Says("(FORK of a PROGRAM that there is not: none comes, the REGISTER is -1.)")
    static void forkOfNoProgram() {
        Counted x = begun(1, 9, "FORK 1, FORK 11, YIELD");
        x.step(1);
        due(x.thread(0, 3), -1);
        dueTold(x, 0, 1, 1, 1, 1, 0);
        x.step(1);
        due(x.thread(0, 3), -1);
        due(x.told(3), 1);
        dueThread(x, 0, Check.READY, 0, 2, -1, 0, 0, 0, 0, 2, -3);
        due(x.thread(1, 0), -1);
    }

    @Says("6 YIELD: the TURN ends")
    static void yieldWithActsLeft() {
        Counted x = begun(10, 0, "ADD 1, YIELD, ADD 1, ADD 1, YIELD, ADD 1, YIELD");
        x.step(1);
        dueThread(x, 0, Check.READY, 0, 2, 1, 0, 0, 0, 0, 1, -3);
        x.step(1);
        dueThread(x, 0, Check.READY, 0, 5, 3, 0, 0, 0, 0, 2, -3);
        dueQueue(x, 0);
    }

    @Says("6 YIELD: the TURN ends")
    static void yieldAsTheLastActOfTheQuantum() {
        Counted x = begun(2, 0, "ADD 1, YIELD, ADD 1, YIELD");
        x.step(1);
        due(x.thread(0, 3), 1);
        x.step(1);
        due(x.thread(0, 3), 2);
        due(x.told(2), 2);
        due(x.thread(0, 0), Check.READY);
    }

    @Says("7 DELAY a (0 to 100): DELAYED until CLOCK and a")
    static void shortestAndLongestDelay() {
        Counted x = begun(10, 0, "YIELD, YIELD, DELAY 0, DELAY 1, DELAY 100, YIELD");
        x.step(2);
        due(x.thread(0, 9), -3);
        x.step(1);
        dueThread(x, 0, Check.DELAYED, 0, 3, 0, 0, 0, 0, 0, 3, 2);
        due(x.told(1), 3);
        x.step(1);
        dueThread(x, 0, Check.DELAYED, 0, 4, 0, 0, 0, 0, 0, 4, 4);
        due(x.told(1), 4);
        x.step(1);
        dueThread(x, 0, Check.DELAYED, 0, 5, 0, 0, 0, 0, 0, 5, 104);
        due(x.told(1), 5);
        x.step(1);
        dueThread(x, 0, Check.READY, 0, 6, 0, 0, 0, 0, 0, 6, -3);
        due(x.told(1), 105);
    }

    @Says("8 JUMP a: ACT a comes next")
    static void jumpToTheFirstToItselfAndToTheLast() {
        Counted x = begun(1, 0, "JUMP 3, LOG, JUMP 0, JUMP 2");
        x.step(1);
        due(x.thread(0, 2), 3);
        x.step(1);
        due(x.thread(0, 2), 2);
        x.step(1);
        due(x.thread(0, 2), 0);
        due(x.trace(-1, 0), 0);
        x = begun(10, 0, "JUMP 0");
        due(x.step(500), 500);
        dueThread(x, 0, Check.READY, 0, 0, 0, 0, 0, 0, 0, 500, -3);
    }

    @Says("(a JUMP may go beyond, too)")
    static void jumpBeyond() {
        for (int a = 2; a <= 20; a++) {
            Counted x = begun(1, 0, "JUMP " + a + ", LOG");
            x.step(1);
            dueThread(x, 0, Check.READY, 0, a, 0, 0, 0, 0, 0, 1, -3);
            due(x.step(500), 1);
            dueThread(x, 0, Check.ENDED, 0, -3, 0, 0, 0, 0, 0, 2, -3);
            due(x.trace(-1, 0), 0);
        }
    }

    @Says("9 ZERO a: likewise, if the REGISTER is 0")
    static void zeroLooksAtTheRegister() {
        int[] others = {1, -1, 256, LEAST, MOST};
        for (int v : others) {
            Counted x = begun(1, v, "ZERO 5, LOG");
            x.step(1);
            dueThread(x, 0, Check.READY, 0, 1, v, 0, 0, 0, 0, 1, -3);
        }
        for (int a = 0; a <= 20; a++) {
            Counted x = begun(1, 0, "ZERO " + a + ", LOG");
            x.step(1);
            dueThread(x, 0, Check.READY, 0, a, 0, 0, 0, 0, 0, 1, -3);
        }
    }

    @Says("10 LOG: a row of THE TRACE (100 at most, others are not kept): the THREAD, its REGISTER")
    static void logOfSeveralThreads() {
        Counted x = begun(10, -8, "FORK 1, LOG, YIELD, LOG, YIELD", "LOG, ADD 1, LOG, YIELD");
        x.step(3);
        dueTrace(x, 0, 1, 1, -8, 1, -7, 0, 1);
    }

    @Says("(100 at most, others are not kept)")
    static void theHundredthRowInTheMidstOfATurn() {
        Counted x = begun(10, 0, "LOG, LOG, LOG, LOG, LOG, LOG, LOG, ADD 1, JUMP 0");
        x.step(15);
        due(x.trace(-1, 0), 100);
        due(x.trace(97, 1), 13);
        due(x.trace(98, 1), 14);
        due(x.trace(99, 1), 14);
        due(x.trace(100, 1), -1);
        dueThread(x, 0, Check.READY, 0, 6, 16, 0, 0, 0, 0, 15, -3);
    }

    @Says("11 RAISE a (1 to 9): that EXCEPTION in itself")
    static void raiseTheLeastAndTheMost() {
        for (int n = 1; n <= 9; n++) {
            Counted x = begun(10, 50, "RAISE " + n + ", LOG");
            due(x.step(500), 1);
            dueThread(x, 0, Check.ENDED_BY_EXCEPTION, 0, -3, 50, 0, 0, 0, n, 1, -3);
            due(x.trace(-1, 0), 0);
        }
    }

    @Says("12 THROW a (1 to 9): to the THREAD whose number the REGISTER is")
    static void throwTheLeastAndTheMost() {
        for (int n = 1; n <= 9; n++) {
            Counted x = begun(10, 50, "FORK 1, FORK 1, THROW " + n + ", YIELD", "YIELD");
            x.step(1);
            due(x.thread(1, 0), Check.READY);
            dueThread(x, 2, Check.ENDED_BY_EXCEPTION, 1, -3, 1, 0, 0, 0, n, 0, -3);
            dueThread(x, 0, Check.READY, 0, 4, 2, 0, 0, 0, 0, 1, -3);
        }
    }

    @Says("12 THROW a (1 to 9): to the THREAD whose number the REGISTER is")
    static void throwToTheLastThread() {
        Counted x = begun(10, 50, "FORK 1, ADD -23, ZERO 4, JUMP 0, SET 23, THROW 3, YIELD, JUMP 6", "DELAY 100");
        x.step(60);
        dueThread(x, 23, Check.ENDED_BY_EXCEPTION, 1, -3, -1, 0, 0, 0, 3, 1, -3);
        due(x.thread(22, 0), Check.DELAYED);
    }

    @Says("(nothing, if there is none, or it is 5 to 7)")
    static void throwToNone() {
        int[] none = {-1, 2, 23, 24, 256, LEAST, MOST};
        for (int number : none) {
            Counted x = begun(10, 0, "FORK 1, SET " + number + ", THROW 9, YIELD", "YIELD");
            x.step(1);
            dueThread(x, 0, Check.READY, 0, 4, number, 0, 0, 0, 0, 1, -3);
            dueThread(x, 1, Check.READY, 1, 0, 0, 0, 0, 0, 0, 0, -3);
            dueQueue(x, 1, 0);
        }
    }

    @Says("(nothing, if there is none, or it is 5 to 7)")
    static void throwToEndedOnes() {
        Counted x = begun(10, 0, "FORK 1, FORK 2, YIELD, SET 1, THROW 8, SET 2, THROW 8, YIELD",
                "CATCH 0, MASK 1", "RAISE 4");
        x.step(4);
        dueThread(x, 1, Check.ENDED, 1, -3, 0, 1, 1, 0, 0, 1, -3);
        dueThread(x, 2, Check.ENDED_BY_EXCEPTION, 2, -3, 1, 0, 0, 0, 4, 1, -3);
        dueThread(x, 0, Check.READY, 0, 8, 2, 0, 0, 0, 0, 2, -3);
        dueQueue(x, 0);
    }

    @Says("13 CATCH a: a HANDLER more, the innermost (with 4: none comes)")
    static void catchWithFour() {
        Counted x = begun(10, 0, "CATCH 11, CATCH 12, CATCH 13, CATCH 14, CATCH 15, CATCH 16, YIELD, RAISE 2");
        x.step(1);
        dueThread(x, 0, Check.READY, 0, 7, 0, 4, 0, 0, 0, 1, -3);
        x = begun(7, 0, "CATCH 11, CATCH 12, CATCH 13, CATCH 14, CATCH 15, CATCH 16, RAISE 2");
        x.step(1);
        dueThread(x, 0, Check.READY, 0, 14, 2, 3, 0, 0, 0, 1, -3);
    }

    @Says("13 CATCH a: a HANDLER more, the innermost (with 4: none comes)")
    static void catchOfTheFirstAndOfOneBeyond() {
        Counted x = begun(2, 0, "CATCH 0, RAISE 6");
        x.step(1);
        dueThread(x, 0, Check.READY, 0, 0, 6, 0, 0, 0, 0, 1, -3);
        x = begun(2, 0, "CATCH 20, RAISE 6");
        x.step(1);
        dueThread(x, 0, Check.READY, 0, 20, 6, 0, 0, 0, 0, 1, -3);
        due(x.step(500), 1);
        dueThread(x, 0, Check.ENDED, 0, -3, 6, 0, 0, 0, 0, 2, -3);
    }

    @Says("14 LEAVE: the innermost goes, if there is one")
    static void leaveWithNone() {
        Counted x = begun(3, 4, "LEAVE, LEAVE, CATCH 9, RAISE 1");
        x.step(1);
        dueThread(x, 0, Check.READY, 0, 3, 4, 1, 0, 0, 0, 1, -3);
        x.step(1);
        due(x.thread(0, 7), 0);
        due(x.thread(0, 3), 1);
    }

    @Says("14 LEAVE: the innermost goes, if there is one")
    static void leaveTheInnermostOfFour() {
        Counted x = begun(1, 4, "CATCH 11, CATCH 12, CATCH 13, CATCH 14, LEAVE, LEAVE, CATCH 15, LEAVE, RAISE 1");
        x.step(4);
        due(x.thread(0, 4), 4);
        x.step(1);
        due(x.thread(0, 4), 3);
        x.step(1);
        due(x.thread(0, 4), 2);
        x.step(1);
        due(x.thread(0, 4), 3);
        x.step(2);
        dueThread(x, 0, Check.READY, 0, 12, 1, 1, 0, 0, 0, 9, -3);
    }

    @Says("15 MASK a (1, 0)")
    static void maskTwiceAndUnmaskTwice() {
        Counted x = begun(1, 4, "MASK 0, MASK 1, MASK 1, MASK 0, MASK 0");
        int[] masked = {0, 0, 1, 1, 0, 0};
        for (int want : masked) {
            dueThread(x, 0, Check.READY);
            due(x.thread(0, 5), want);
            due(x.thread(0, 3), 4);
            x.step(1);
        }
    }

    @Says("16 MINE: the REGISTER becomes its own number")
    static void mineOfTheFirstAndOfTheLast() {
        Counted x = begun(3, -4, "MINE, FORK 0, DELAY 100");
        due(x.step(24), 24);
        due(x.told(3), 24);
        for (int t = 0; t < 23; t++) {
            due(x.thread(t, 3), t + 1);
        }
        due(x.thread(23, 3), -1);
        x = begun(2, -4, "FORK 1, JUMP 0", "MINE, DELAY 100");
        x.step(100);
        for (int t = 1; t < 24; t++) {
            due(x.thread(t, 3), t);
        }
    }

    /** Thread 1, masked, with two handlers and one pending, does an act with this register, and nothing else. */
    private static void onlyItself(int register, String act, int... want) {
        Counted x = begun(10, 1, "FORK 1, YIELD, THROW 8, YIELD, YIELD, JUMP 4",
                "CATCH 18, CATCH 19, MASK 1, SET " + register + ", YIELD, " + act + ", YIELD");
        x.fill(0, 50);
        x.step(4);
        dueThread(x, 1, want);
        boolean logs = act.startsWith("LOG");
        due(x.trace(-1, 0), logs ? 1 : 0);
        boolean forks = act.startsWith("FORK");
        due(x.told(3), forks ? 3 : 2);
        due(x.told(4), forks ? 3 : 2);
        dueThread(x, 0, Check.READY, 0, 4, 1, 0, 0, 0, 0, 2, -3);
    }

    @Says("Nothing is promised beyond the answers and state changes described above")
    static void eachActChangesOnlyItsOwn() {
        onlyItself(7, "PUT 1", Check.READY, 1, 7, 7, 2, 1, 1, 0, 2, -3);
        onlyItself(7, "TAKE 0", Check.READY, 1, 7, 50, 2, 1, 1, 0, 2, -3);
        onlyItself(7, "READ 0", Check.READY, 1, 7, 50, 2, 1, 1, 0, 2, -3);
        onlyItself(7, "SET 3", Check.READY, 1, 7, 3, 2, 1, 1, 0, 2, -3);
        onlyItself(7, "ADD 3", Check.READY, 1, 7, 10, 2, 1, 1, 0, 2, -3);
        onlyItself(7, "FORK 0", Check.READY, 1, 7, 2, 2, 1, 1, 0, 2, -3);
        onlyItself(7, "YIELD 3", Check.READY, 1, 6, 7, 2, 1, 1, 0, 2, -3);
        onlyItself(7, "JUMP 6", Check.READY, 1, 7, 7, 2, 1, 1, 0, 2, -3);
        onlyItself(7, "ZERO 9", Check.READY, 1, 7, 7, 2, 1, 1, 0, 2, -3);
        onlyItself(0, "ZERO 6", Check.READY, 1, 7, 0, 2, 1, 1, 0, 2, -3);
        onlyItself(7, "LOG 3", Check.READY, 1, 7, 7, 2, 1, 1, 0, 2, -3);
        onlyItself(7, "THROW 3", Check.READY, 1, 7, 7, 2, 1, 1, 0, 2, -3);
        onlyItself(7, "CATCH 3", Check.READY, 1, 7, 7, 3, 1, 1, 0, 2, -3);
        onlyItself(7, "LEAVE 0", Check.READY, 1, 7, 7, 1, 1, 1, 0, 2, -3);
        onlyItself(7, "MASK 1", Check.READY, 1, 7, 7, 2, 1, 1, 0, 2, -3);
        onlyItself(7, "MINE 0", Check.READY, 1, 7, 1, 2, 1, 1, 0, 2, -3);
    }

    @Says("14 LEAVE: the innermost goes, if there is one")
    static void leaveMasksNothing() {
        Counted x = begun(10, 4, "CATCH 5, LEAVE 1, LEAVE 1, YIELD");
        x.step(1);
        dueThread(x, 0, Check.READY, 0, 4, 4, 0, 0, 0, 0, 1, -3);
    }

    @Says("Behind the last ACT (a JUMP may go beyond, too) a THREAD is ENDED (as it comes to run).")
    static void aProgramWithoutActs() {
        Counted x = begun(1, 6, "");
        dueThread(x, 0, Check.READY, 0, 0, 6, 0, 0, 0, 0, 0, -3);
        due(x.step(500), 1);
        dueThread(x, 0, Check.ENDED, 0, -3, 6, 0, 0, 0, 0, 1, -3);
        dueTold(x, 1, 1, 1, 1, 0, 0);
    }

    @Says("Behind the last ACT (a JUMP may go beyond, too) a THREAD is ENDED (as it comes to run).")
    static void aWholeQuantumUpToTheLastAct() {
        Counted x = begun(3, 6, "ADD 1, ADD 1, ADD 1");
        x.step(1);
        dueThread(x, 0, Check.READY, 0, 3, 9, 0, 0, 0, 0, 1, -3);
        dueQueue(x, 0);
        due(x.told(0), 0);
        due(x.step(500), 1);
        dueThread(x, 0, Check.ENDED, 0, -3, 9, 0, 0, 0, 0, 2, -3);
    }

    @Says("Behind the last ACT (a JUMP may go beyond, too) a THREAD is ENDED (as it comes to run).")
    static void theLastActWithSomeOfTheQuantumLeft() {
        Counted x = begun(4, 6, "ADD 1, ADD 1, ADD 1");
        due(x.step(500), 1);
        dueThread(x, 0, Check.ENDED, 0, -3, 9, 0, 0, 0, 0, 1, -3);
    }

    @Says("Behind the last ACT (a JUMP may go beyond, too) a THREAD is ENDED (as it comes to run).")
    static void theLastActIsOneAtWhichItWaits() {
        Counted x = begun(10, 6, "TAKE 3");
        x.step(1);
        x.fill(3, 8);
        dueThread(x, 0, Check.READY, 0, 1, 8, 0, 0, 0, 0, 1, -3);
        due(x.step(500), 1);
        dueThread(x, 0, Check.ENDED, 0, -3, 8, 0, 0, 0, 0, 2, -3);
    }
}
