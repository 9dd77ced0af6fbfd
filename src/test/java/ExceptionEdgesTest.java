/** "Terms": the EXCEPTIONS, with none, one and four HANDLERS, and with none, one, four and five PENDING. */
public final class ExceptionEdgesTest extends Edges {
    /** Each with the box or the time that makes it wait: box 0 is full, box 1 is empty. */
    private static final String[] PAUSES = {"PUT 0", "TAKE 1", "READ 1", "DELAY 90"};

    public static void main(String[] args) {
        runAll(ExceptionEdgesTest.class);
    }

    @Says("EXCEPTION n in a THREAD: if it has a HANDLER, the innermost goes, its ACT comes next, the REGISTER is n")
    static void theFourHandlersOneAfterTheOther() {
        Counted x = begun(1, 0, "CATCH 5, CATCH 6, CATCH 7, CATCH 8, RAISE 9, RAISE 8, RAISE 7, RAISE 6, RAISE 5");
        x.step(4);
        int[] acts = {8, 7, 6, 5};
        int[] exceptions = {9, 5, 6, 7};
        for (int i = 0; i < 4; i++) {
            x.step(1);
            dueThread(x, 0, Check.READY, 0, acts[i], exceptions[i], 3 - i, 0, 0, 0, 5 + i, -3);
        }
        due(x.step(1), 1);
        dueThread(x, 0, Check.ENDED_BY_EXCEPTION, 0, -3, 7, 0, 0, 0, 8, 9, -3);
    }

    @Says("else it is ENDED by n (6)")
    static void withoutAHandler() {
        Counted x = begun(10, -6, "FORK 1, YIELD, YIELD, JUMP 2", "ADD 3, RAISE 2, LOG");
        x.step(2);
        dueThread(x, 1, Check.ENDED_BY_EXCEPTION, 1, -3, -3, 0, 0, 0, 2, 1, -3);
        dueQueue(x, 0);
        dueTold(x, 0, 2, 2, 2, 1, 0);
        due(x.trace(-1, 0), 0);
    }

    /** Thread 1 does what is before, pauses, and is thrown 6 by thread 0; thread 2 idles. */
    private static Script thrownAt(String before, String pause) {
        return Script.of("FORK 1, FORK 2, YIELD, SET 1, THROW 6, YIELD, YIELD, JUMP 6",
                before + ", " + pause + ", LOG", "YIELD, JUMP 0").begin(0, 10, 30).fill(0, 50).step(3);
    }

    @Says("One that waits, or is DELAYED, does so no more (it is READY, if it had a HANDLER, at the end of the QUEUE).")
    static void thrownAtOneThatPauses() {
        for (int i = 0; i < PAUSES.length; i++) {
            Counted x = thrownAt("CATCH 15", PAUSES[i]).play();
            due(x.thread(1, 0), i + 1);
            dueQueue(x, 0, 2);
            x.step(1);
            dueThread(x, 1, Check.READY, 1, 15, 6, 0, 0, 0, 0, 1, -3);
            dueQueue(x, 2, 1, 0);
            dueBox(x, 0, 50, 1, 0, 0, 0);
            dueBox(x, 1, -3, 0, 0, 0, 0);
        }
    }

    @Says("One that waits, or is DELAYED, does so no more (it is READY, if it had a HANDLER, at the end of the QUEUE).")
    static void thrownAtOneThatPausesWithoutAHandler() {
        for (int i = 0; i < PAUSES.length; i++) {
            Counted x = thrownAt("ADD 1", PAUSES[i]).play();
            due(x.thread(1, 0), i + 1);
            x.step(1);
            dueThread(x, 1, Check.ENDED_BY_EXCEPTION, 1, -3, 31, 0, 0, 0, 6, 1, -3);
            dueQueue(x, 2, 0);
            dueBox(x, 0, 50, 1, 0, 0, 0);
            dueBox(x, 1, -3, 0, 0, 0, 0);
            due(x.fill(1, 4), 1);
            dueBox(x, 1, 4, 1, 0, 0, 0);
        }
    }

    @Says("One that is THROWN to another THREAD comes at once, if that is not MASKED")
    static void thrownAtOneThatIsReady() {
        Counted x = begun(10, 30, "FORK 1, FORK 1, YIELD, SET 1, THROW 6, YIELD, YIELD, JUMP 6",
                "CATCH 15, YIELD, YIELD");
        x.step(4);
        dueThread(x, 1, Check.READY, 1, 15, 6, 0, 0, 0, 0, 1, -3);
        dueQueue(x, 1, 2, 0);
        x = begun(10, 30, "FORK 1, FORK 1, SET 1, THROW 6, YIELD, YIELD, JUMP 5", "YIELD");
        x.step(1);
        dueThread(x, 1, Check.ENDED_BY_EXCEPTION, 1, -3, 30, 0, 0, 0, 6, 0, -3);
        dueQueue(x, 2, 0);
    }

    @Says("One that is THROWN to another THREAD comes at once, if that is not MASKED")
    static void thrownAtOneThatIsMaskedNoMore() {
        Counted x = begun(10, 30, "FORK 1, YIELD, THROW 6, YIELD, YIELD, JUMP 4",
                "CATCH 15, MASK 1, MASK 0, YIELD, YIELD");
        x.step(3);
        dueThread(x, 1, Check.READY, 1, 15, 6, 0, 0, 0, 0, 1, -3);
    }

    @Says("or waits, or is DELAYED")
    static void thrownAtAMaskedOneThatPauses() {
        for (int i = 0; i < PAUSES.length; i++) {
            Counted x = thrownAt("MASK 1, CATCH 15", PAUSES[i]).play();
            due(x.thread(1, 0), i + 1);
            due(x.thread(1, 5), 1);
            x.step(1);
            dueThread(x, 1, Check.READY, 1, 15, 6, 0, 1, 0, 0, 1, -3);
            dueQueue(x, 2, 1, 0);
            x = thrownAt("MASK 1", PAUSES[i]).step(1).play();
            dueThread(x, 1, Check.ENDED_BY_EXCEPTION, 1, -3, 30, 0, 1, 0, 6, 1, -3);
            dueQueue(x, 2, 0);
        }
    }

    /** Thread 1 masks itself; thread 0 throws 1 .. n to it in one turn, of quantum 10, then idles. */
    private static Script pending(int n, String before, String after) {
        StringBuilder zero = new StringBuilder("FORK 1, YIELD");
        for (int i = 1; i <= n; i++) {
            zero.append(", THROW ").append(i);
        }
        zero.append(", YIELD, JUMP ").append(n + 2);
        return Script.of(zero.toString(), before + "MASK 1, YIELD, " + after).begin(0, 10, 20).fill(0, 50).step(3);
    }

    @Says("else it is PENDING (a fifth one is lost)")
    static void pendingUpToFour() {
        for (int n = 0; n <= 8; n++) {
            Counted x = pending(n, "CATCH 15, ", "YIELD").play();
            dueThread(x, 1, Check.READY, 1, 3, 20, 1, 1, Math.min(n, 4), 0, 1, -3);
            dueQueue(x, 1, 0);
        }
    }

    @Says("(a fifth one is lost)")
    static void theFifthIsLostNotTheFirst() {
        Counted x = pending(6, "CATCH 16, CATCH 17, CATCH 18, CATCH 19, ", "MASK 0, LOG").play();
        due(x.thread(1, 6), 4);
        x.step(1);
        dueThread(x, 1, Check.ENDED, 1, -3, 4, 0, 0, 0, 0, 2, -3);
        x = pending(6, "CATCH 19, ", "MASK 0, LOG").play();
        x.step(1);
        dueThread(x, 1, Check.ENDED_BY_EXCEPTION, 1, -3, 1, 0, 0, 2, 2, 2, -3);
    }

    @Says("(a fifth one is lost)")
    static void oneMoreHasRoomWhenOneHasCome() {
        // Thread 1 gets 1 instead of its delay; 2, 3, 4 are pending, and 7 has room, 8 not.
        Counted x = begun(10, 1, "FORK 1, YIELD, THROW 1, THROW 2, THROW 3, THROW 4, YIELD, THROW 7, THROW 8, YIELD,"
                + " YIELD, JUMP 10", "CATCH 5, CATCH 5, MASK 1, YIELD, DELAY 1, YIELD, MASK 0");
        x.step(3);
        due(x.thread(1, 6), 4);
        x.step(1);
        dueThread(x, 1, Check.READY, 1, 6, 1, 1, 1, 3, 0, 2, -3);
        x.step(1);
        due(x.thread(1, 6), 4);
        x.step(1);
        dueThread(x, 1, Check.ENDED_BY_EXCEPTION, 1, -3, 2, 0, 0, 2, 3, 3, -3);
    }

    @Says("11 RAISE a (1 to 9): that EXCEPTION in itself")
    static void raisedByOneThatIsMasked() {
        Counted x = begun(3, 5, "CATCH 9, MASK 1, RAISE 4, LOG");
        x.step(1);
        dueThread(x, 0, Check.READY, 0, 9, 4, 0, 1, 0, 0, 1, -3);
        x = begun(3, 5, "MASK 1, RAISE 4, LOG");
        due(x.step(9), 1);
        dueThread(x, 0, Check.ENDED_BY_EXCEPTION, 0, -3, 5, 0, 1, 0, 4, 1, -3);
    }

    @Says("to itself: as RAISE")
    static void thrownAtItself() {
        Counted x = begun(3, 0, "CATCH 9, MASK 1, THROW 4, LOG");
        x.step(1);
        dueThread(x, 0, Check.READY, 0, 9, 4, 0, 1, 0, 0, 1, -3);
        x = begun(3, 0, "MASK 1, THROW 4, LOG");
        due(x.step(9), 1);
        dueThread(x, 0, Check.ENDED_BY_EXCEPTION, 0, -3, 0, 0, 1, 0, 4, 1, -3);
        x = begun(10, 0, "FORK 1, YIELD, YIELD, JUMP 2", "MINE, THROW 4, LOG");
        x.step(2);
        dueThread(x, 1, Check.ENDED_BY_EXCEPTION, 1, -3, 1, 0, 0, 0, 4, 1, -3);
        dueQueue(x, 0);
    }

    @Says("MASK 0: those PENDING come, one after the other, the eldest first")
    static void unmaskWithOneToFourPending() {
        for (int n = 1; n <= 4; n++) {
            Counted x = pending(n, "CATCH 16, CATCH 17, CATCH 18, CATCH 19, ", "MASK 0, LOG").play();
            due(x.thread(1, 6), n);
            x.step(1);
            // The n-th takes handler 20 - n, which is behind the last act.
            dueThread(x, 1, Check.ENDED, 1, -3, n, 4 - n, 0, 0, 0, 2, -3);
            due(x.trace(-1, 0), 0);
        }
    }

    @Says("MASK 0: those PENDING come, one after the other, the eldest first")
    static void unmaskWithNonePending() {
        Counted x = pending(0, "CATCH 16, ", "MASK 0, YIELD").play();
        x.step(1);
        dueThread(x, 1, Check.READY, 1, 5, 20, 1, 0, 0, 0, 2, -3);
    }

    @Says("MASK 0: those PENDING come, one after the other, the eldest first")
    static void allComeInOneAct() {
        // Handlers 6 and 7: the eldest takes 7, the next one 6; only act 6 is done.
        Counted x = pending(2, "CATCH 6, CATCH 7, ", "MASK 0, LOG, YIELD, LOG, YIELD").play();
        x.step(1);
        dueThread(x, 1, Check.READY, 1, 7, 2, 0, 0, 0, 0, 2, -3);
        due(x.trace(-1, 0), 0);
    }

    @Says("until the THREAD is ENDED")
    static void unmaskUntilItIsEnded() {
        for (int handlers = 0; handlers < 4; handlers++) {
            StringBuilder before = new StringBuilder();
            for (int i = 0; i < handlers; i++) {
                before.append("CATCH 19, ");
            }
            Counted x = pending(4, before.toString(), "MASK 0, LOG").play();
            x.step(1);
            dueThread(x, 1, Check.ENDED_BY_EXCEPTION, 1, -3, handlers == 0 ? 20 : handlers, 0, 0, 3 - handlers,
                    handlers + 1, 2, -3);
            dueQueue(x, 0);
            due(x.trace(-1, 0), 0);
        }
    }

    @Says("A THREAD that would wait, or be DELAYED, with some PENDING, gets the eldest instead.")
    static void theEldestInsteadOfAPause() {
        for (String pause : PAUSES) {
            Counted x = pending(3, "CATCH 5, ", pause + ", LOG, LOG, YIELD").play();
            x.step(1);
            // Handler 5 is the second LOG.
            dueThread(x, 1, Check.READY, 1, 7, 1, 0, 1, 2, 0, 2, -3);
            dueTrace(x, 1, 1);
            dueBox(x, 0, 50, 1, 0, 0, 0);
            dueBox(x, 1, -3, 0, 0, 0, 0);
        }
    }

    @Says("A THREAD that would wait, or be DELAYED, with some PENDING, gets the eldest instead.")
    static void theEldestInsteadOfAPauseEndsIt() {
        for (String pause : PAUSES) {
            Counted x = pending(3, "", pause + ", LOG").play();
            x.step(1);
            dueThread(x, 1, Check.ENDED_BY_EXCEPTION, 1, -3, 20, 0, 1, 2, 1, 2, -3);
            dueQueue(x, 0);
            dueBox(x, 0, 50, 1, 0, 0, 0);
            dueBox(x, 1, -3, 0, 0, 0, 0);
        }
    }

    @Says("A THREAD that would wait, or be DELAYED, with some PENDING, gets the eldest instead.")
    static void evenADelayOfNothing() {
        Counted x = pending(1, "CATCH 5, ", "DELAY 0, LOG, LOG, DELAY 0").play();
        x.step(1);
        dueThread(x, 1, Check.DELAYED, 1, 7, 1, 0, 1, 0, 0, 2, 3);
        dueTrace(x, 1, 1);
    }

    @Says("A THREAD that would wait, or be DELAYED, with some PENDING, gets the eldest instead.")
    static void oneThatNeedNotWaitGetsNone() {
        Counted x = pending(1, "", "READ 0, TAKE 0, PUT 1, YIELD").play();
        x.step(1);
        dueThread(x, 1, Check.READY, 1, 6, 50, 0, 1, 1, 0, 2, -3);
        dueBox(x, 0, -3, 0, 0, 0, 0);
        dueBox(x, 1, 50, 1, 0, 0, 0);
    }

    @Says("A THREAD that would wait, or be DELAYED, with some PENDING, gets the eldest instead.")
    static void oneForEachPause() {
        Counted x = pending(4, "CATCH 14, CATCH 7, CATCH 7, CATCH 6, ", "TAKE 1, READ 1, PUT 0").play();
        x.step(1);
        // Act 6 TAKE: 1, to act 6: 2, to act 7 READ: 3, to act 7: 4, to act 14.
        dueThread(x, 1, Check.ENDED, 1, -3, 4, 0, 1, 0, 0, 2, -3);
    }
}
