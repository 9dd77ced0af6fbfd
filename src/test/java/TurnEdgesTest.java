/** "Terms": what a TURN is, when the QUEUE is empty, and what ends all. */
public final class TurnEdgesTest extends Edges {
    public static void main(String[] args) {
        runAll(TurnEdgesTest.class);
    }

    @Says("those DELAYED until CLOCK or before become READY")
    static void untilTheClockNotLater() {
        // Thread 1 is delayed until 1 + 3 = 4: the turn that begins at clock 4 wakes it, that at clock 3 does not.
        Counted x = begun(10, 0, "FORK 1, YIELD, YIELD, JUMP 2", "DELAY 3, LOG, TAKE 7");
        x.step(2);
        due(x.thread(1, 9), 4);
        x.step(2);
        due(x.told(1), 4);
        dueThread(x, 1, Check.DELAYED, 1, 1, 0, 0, 0, 0, 0, 1, 4);
        dueQueue(x, 0);
        x.step(1);
        dueThread(x, 1, Check.READY, 1, 1, 0, 0, 0, 0, 0, 1, -3);
        dueQueue(x, 1, 0);
    }

    @Says("those DELAYED until CLOCK or before become READY")
    static void untilBeforeTheClock() {
        // A delay of nothing: until clock 1, looked at in the turn that begins at clock 2.
        Counted x = begun(10, 0, "FORK 1, YIELD, YIELD, JUMP 2", "DELAY 0, LOG, TAKE 7");
        x.step(2);
        dueThread(x, 1, Check.DELAYED, 1, 1, 0, 0, 0, 0, 0, 1, 1);
        due(x.told(1), 2);
        x.step(1);
        due(x.thread(1, 0), Check.READY);
        dueQueue(x, 1, 0);
    }

    @Says("by when, then by numbers, at the end of the QUEUE")
    static void byWhenAgainstTheNumbers() {
        // Threads 1, 2, 3 at clocks 1, 2, 3: until 9, 8, 7; thread 0 lets the clock leap there by its own delay.
        Counted x = begun(10, 0, "FORK 1, FORK 2, FORK 3, YIELD, ADD 1, ADD 1, DELAY 6, YIELD",
                "DELAY 8, TAKE 7", "DELAY 6, TAKE 7", "DELAY 4, TAKE 7");
        x.step(5);
        due(x.thread(1, 9), 9);
        due(x.thread(2, 9), 8);
        due(x.thread(3, 9), 7);
        due(x.thread(0, 9), 10);
        x.step(1);
        due(x.told(1), 8);
        due(x.thread(3, 0), Check.WAITS_TO_TAKE);
        x = begun(10, 0, "FORK 1, FORK 2, FORK 3, FORK 4, YIELD, YIELD, JUMP 5", "DELAY 4, TAKE 7", "DELAY 2, TAKE 7",
                "DELAY 0, TAKE 7", "YIELD, YIELD, YIELD, TAKE 7");
        // Clock 3 for thread 3; the turn at clock 4 wakes 3 (until 3), then 2 (until 4), and at clock 5 also 1.
        x.step(4);
        dueQueue(x, 4, 0);
        x.step(1);
        dueQueue(x, 0, 3, 2, 4);
        x.step(1);
        dueQueue(x, 3, 2, 4, 1, 0);
    }

    @Says("by when, then by numbers, at the end of the QUEUE")
    static void thoseOfOneTimeByNumbers() {
        // Thread 2 is delayed at clock 2, thread 1 at clock 4, both until 6.
        Counted x = begun(10, 0, "FORK 1, FORK 2, YIELD, YIELD, JUMP 3", "YIELD, DELAY 2, TAKE 7", "DELAY 4, TAKE 7");
        x.step(6);
        due(x.thread(1, 9), 6);
        due(x.thread(2, 9), 6);
        dueQueue(x, 0);
        x.step(1);
        dueQueue(x, 1, 2, 0);
    }

    @Says("by when, then by numbers, at the end of the QUEUE")
    static void theDelayedOnesComeBehindTheQueue() {
        Counted x = begun(10, 0, "FORK 1, FORK 2, FORK 2, YIELD, YIELD, JUMP 4", "DELAY 1, TAKE 7", "YIELD, JUMP 0");
        x.step(2);
        dueQueue(x, 2, 3, 0);
        x.step(1);
        // Woken before thread 2 ran, so before it went to the end.
        dueQueue(x, 3, 0, 1, 2);
    }

    @Says("If the QUEUE is empty: CLOCK becomes the least until which one is DELAYED, and likewise")
    static void theClockLeapsToTheLeast() {
        Counted x = begun(10, 0, "FORK 1, FORK 2, FORK 3, DELAY 100", "DELAY 60, TAKE 7", "DELAY 30, TAKE 7",
                "TAKE 6");
        x.step(4);
        dueQueue(x);
        due(x.told(1), 4);
        due(x.thread(1, 9), 61);
        due(x.thread(2, 9), 32);
        due(x.step(1), 1);
        due(x.told(1), 33);
        due(x.thread(2, 0), Check.WAITS_TO_TAKE);
        due(x.thread(1, 0), Check.DELAYED);
        due(x.step(1), 1);
        due(x.told(1), 62);
        due(x.step(1), 1);
        due(x.told(1), 101);
        dueTold(x, 1, 101, 7, 4, 0, 0);
    }

    @Says("If the QUEUE is empty: CLOCK becomes the least until which one is DELAYED, and likewise")
    static void allOfThatTimeBecomeReady() {
        Counted x = begun(10, 0, "FORK 1, FORK 2, FORK 3, DELAY 50", "DELAY 20, TAKE 7", "DELAY 19, TAKE 7",
                "DELAY 19, TAKE 7");
        x.step(4);
        due(x.thread(1, 9), 21);
        due(x.thread(2, 9), 21);
        due(x.thread(3, 9), 22);
        x.step(1);
        due(x.thread(1, 0), Check.WAITS_TO_TAKE);
        dueQueue(x, 2);
        due(x.thread(3, 0), Check.DELAYED);
        due(x.told(1), 22);
    }

    @Says("If the QUEUE is empty: CLOCK becomes the least until which one is DELAYED, and likewise")
    static void theClockDoesNotLeapWhileOneIsReady() {
        Counted x = begun(10, 0, "FORK 1, DELAY 100", "YIELD, JUMP 0");
        x.step(50);
        due(x.told(1), 50);
        due(x.thread(0, 0), Check.DELAYED);
        x.step(51);
        due(x.told(1), 101);
        due(x.thread(0, 0), Check.READY);
    }

    @Says("if none is: all that wait get EXCEPTION 10, by numbers (each that does still)")
    static void allThatWaitGetTen() {
        Counted x = begun(10, 0, "FORK 1, FORK 2, FORK 3, CATCH 9, YIELD, TAKE 1", "CATCH 8, MASK 1, PUT 0",
                "CATCH 7, READ 1", "TAKE 1");
        x.fill(0, 5);
        x.step(5);
        dueQueue(x);
        due(x.told(5), 0);
        due(x.step(1), 1);
        due(x.told(5), 4);
        dueThread(x, 1, Check.KILLED, 1, -3, 10, 0, 1, 0, 0, 1, -3);
        dueThread(x, 2, Check.KILLED, 2, -3, 10, 0, 0, 0, 0, 1, -3);
        dueThread(x, 3, Check.ENDED_BY_EXCEPTION, 3, -3, 2, 0, 0, 0, 10, 1, -3);
        // Thread 0 was the first, and its handler is behind its last act.
        dueThread(x, 0, Check.ENDED, 0, -3, 10, 0, 0, 0, 0, 3, -3);
        dueTold(x, 1, 6, 6, 4, 0, 4);
    }

    @Says("if none is: all that wait get EXCEPTION 10, by numbers (each that does still)")
    static void byNumbersNotAsTheyCame() {
        // The others wait at the box before thread 0 does, and thread 2 before thread 1.
        Counted x = begun(10, 0, "FORK 1, FORK 2, CATCH 7, YIELD, YIELD, YIELD, TAKE 1, YIELD, YIELD, JUMP 8",
                "CATCH 3, YIELD, TAKE 1, YIELD, TAKE 1", "CATCH 2, TAKE 1, YIELD, TAKE 1");
        x.step(7);
        dueQueue(x);
        dueBox(x, 1, -3, 0, 0, 3, 0);
        x.step(1);
        dueQueue(x, 1, 2, 0);
        due(x.told(5), 3);
        due(x.thread(0, 3), 10);
        due(x.thread(1, 3), 10);
        due(x.thread(2, 3), 10);
    }

    @Says("(each that does still)")
    static void thoseThatWereKilledGetNone() {
        Counted x = begun(10, 0, "FORK 1, FORK 1, READ 1", "CATCH 9, TAKE 1");
        x.step(3);
        due(x.step(1), 0);
        due(x.told(5), 1);
        dueThread(x, 0, Check.ENDED_BY_EXCEPTION, 0, -3, 2, 0, 0, 0, 10, 1, -3);
        dueThread(x, 1, Check.KILLED, 1, -3, 0, 1, 0, 0, 0, 1, -3);
        dueThread(x, 2, Check.KILLED, 1, -3, 1, 1, 0, 0, 0, 1, -3);
        dueBox(x, 1, -3, 0, 0, 0, 0);
    }

    @Says("if none is: all that wait get EXCEPTION 10, by numbers (each that does still)")
    static void tenForTwentyFourThreads() {
        Counted x = begun(10, 0, "FORK 0, CATCH 3, TAKE 1, YIELD, YIELD, JUMP 3");
        due(x.step(24), 24);
        dueBox(x, 1, -3, 0, 0, 24, 0);
        due(x.step(1), 1);
        due(x.told(5), 24);
        due(x.told(4), 24);
        for (int t = 0; t < 24; t++) {
            due(x.thread(t, 0), Check.READY);
            due(x.thread(t, 3), 10);
            due(x.queued(t), (t + 1) % 24);
        }
    }

    @Says("if none is: all that wait get EXCEPTION 10, by numbers (each that does still)")
    static void noTenForThoseOfTheRunBefore() {
        Counted x = begun(10, 0, "FORK 1, FORK 1, CATCH 4, TAKE 1, YIELD", "CATCH 1, TAKE 1");
        x.step(3);
        dueBox(x, 1, -3, 0, 0, 3, 0);
        x.begin(1, 10, 0);
        x.step(1);
        dueBox(x, 1, -3, 0, 0, 1, 0);
        due(x.step(1), 1);
        due(x.told(5), 1);
        dueQueue(x);
        dueBox(x, 1, -3, 0, 0, 1, 0);
    }

    @Says("if none is: all that wait get EXCEPTION 10, by numbers (each that does still)")
    static void noTenWhileOneIsDelayed() {
        Counted x = begun(10, 0, "FORK 1, TAKE 1", "DELAY 100, SET 4, PUT 1");
        due(x.step(500), 4);
        dueTold(x, 1, 103, 4, 2, 0, 0);
        due(x.thread(0, 3), 4);
    }

    @Says("The first of the QUEUE does up to QUANTUM ACTS")
    static void eachQuantum() {
        for (int quantum = 1; quantum <= 10; quantum++) {
            Counted x = begun(quantum, 0,
                    "ADD 1, ADD 1, ADD 1, ADD 1, ADD 1, ADD 1, ADD 1, ADD 1, ADD 1, ADD 1, ADD 1");
            x.step(1);
            dueThread(x, 0, Check.READY, 0, quantum, quantum, 0, 0, 0, 0, 1, -3);
            due(x.told(2), 1);
        }
    }

    @Says("(fewer, if it is not READY any more, or YIELDS)")
    static void fewerActs() {
        String[] ends = {"PUT 0", "TAKE 1", "READ 1", "DELAY 5", "RAISE 3", "YIELD", "JUMP 20"};
        int[] states = {1, 2, 3, 4, 6, 0, 5};
        for (int i = 0; i < ends.length; i++) {
            Counted x = begun(10, 0, "FORK 1, YIELD, YIELD, JUMP 2", "SET 8, " + ends[i] + ", LOG, LOG");
            x.fill(0, 1);
            x.step(2);
            due(x.thread(1, 0), states[i]);
            due(x.thread(1, 3), 8);
            due(x.thread(1, 8), 1);
            due(x.trace(-1, 0), 0);
            due(x.told(4), states[i] == 0 ? 2 : 1);
        }
    }

    @Says("then, if it is READY, goes to the end of the QUEUE; CLOCK is 1 more")
    static void toTheEndOfTheQueue() {
        Counted x = begun(2, 0, "FORK 1, FORK 1, ADD 1, JUMP 2", "ADD 1, JUMP 0");
        x.step(1);
        dueQueue(x, 1, 2, 0);
        due(x.told(1), 1);
        x.step(1);
        dueQueue(x, 2, 0, 1);
        due(x.told(1), 2);
        x.step(1);
        dueQueue(x, 0, 1, 2);
        due(x.told(1), 3);
    }

    @Says("then, if it is READY, goes to the end of the QUEUE; CLOCK is 1 more")
    static void behindThoseThatItMadeReady() {
        // It forks 3 and serves 1 in one turn: 2, 3, 1, then itself.
        Counted x = begun(10, 0, "FORK 1, FORK 2, YIELD, FORK 2, PUT 0, YIELD, YIELD, JUMP 6", "TAKE 0, TAKE 7",
                "YIELD, JUMP 0");
        x.step(3);
        dueQueue(x, 0, 2);
        x.step(1);
        dueQueue(x, 2, 3, 1, 0);
    }

    @Says("(If it is OVER before a THREAD runs, it was no TURN.)")
    static void noTurnIfItIsOverBefore() {
        Counted x = begun(10, 7, "TAKE 1");
        due(x.step(1), 1);
        dueTold(x, 0, 1, 1, 1, 0, 0);
        due(x.step(1), 0);
        dueTold(x, 1, 1, 1, 1, 0, 1);
        dueThread(x, 0, Check.ENDED_BY_EXCEPTION, 0, -3, 7, 0, 0, 0, 10, 1, -3);
        due(x.share(0), 1000);
        x = begun(10, 7, "TAKE 1");
        due(x.step(2), 1);
        dueTold(x, 1, 1, 1, 1, 0, 1);
    }

    @Says("When THREAD 0 is 5 or 6, all others that are not 5, 6 are KILLED, at once: it is OVER.")
    static void theEndOfThreadZeroKillsAll() {
        String[] ends = {"JUMP 20", "RAISE 9"};
        for (int i = 0; i < 2; i++) {
            Counted x = begun(10, 0, "FORK 1, FORK 2, FORK 3, FORK 4, FORK 5, FORK 6, FORK 7, YIELD, " + ends[i],
                    "PUT 0", "TAKE 1", "READ 1", "DELAY 1", "", "RAISE 2", "YIELD, YIELD");
            x.fill(0, 1);
            due(x.step(500), 9);
            int[] states = {5 + i, 7, 7, 7, 7, 5, 6, 7};
            for (int t = 0; t < 8; t++) {
                due(x.thread(t, 0), states[t]);
                due(x.thread(t, 2), -3);
                due(x.thread(t, 9), -3);
            }
            dueTold(x, 1, 9, 9, 8, 0, 0);
            dueBox(x, 0, 1, 1, 0, 0, 0);
            dueBox(x, 1, -3, 0, 0, 0, 0);
            due(x.queued(0), -1);
        }
    }

    @Says("When THREAD 0 is 5 or 6, all others that are not 5, 6 are KILLED, at once: it is OVER.")
    static void theOneThatEndsThreadZeroIsKilledInItsTurn() {
        Counted x = begun(10, 3, "FORK 1, FORK 2, YIELD, YIELD", "SET 0, THROW 5, SET 9, LOG", "YIELD, YIELD");
        due(x.step(500), 2);
        dueThread(x, 0, Check.ENDED_BY_EXCEPTION, 0, -3, 2, 0, 0, 0, 5, 1, -3);
        dueThread(x, 1, Check.KILLED, 1, -3, 0, 0, 0, 0, 0, 1, -3);
        dueThread(x, 2, Check.KILLED, 2, -3, 1, 0, 0, 0, 0, 0, -3);
        dueTold(x, 1, 2, 2, 3, 0, 0);
        dueTrace(x);
    }

    @Says("When THREAD 0 is 5 or 6, all others that are not 5, 6 are KILLED, at once: it is OVER.")
    static void twentyThreeAreKilled() {
        Counted x = begun(10, 0, "FORK 1, ADD -23, ZERO 20, JUMP 0", "YIELD, JUMP 0");
        due(x.step(500) < 500 ? 1 : 0, 1);
        due(x.told(0), 1);
        due(x.told(3), 24);
        due(x.told(4), 0);
        due(x.thread(0, 0), Check.ENDED);
        for (int t = 1; t < 24; t++) {
            due(x.thread(t, 0), Check.KILLED);
        }
    }

    @Says("When THREAD 0 is 5 or 6, all others that are not 5, 6 are KILLED, at once: it is OVER.")
    static void onlyThreadZeroEndsAll() {
        Counted x = begun(10, 3, "FORK 1, FORK 2, YIELD, YIELD, JUMP 3", "", "RAISE 1");
        due(x.step(500), 500);
        due(x.told(0), 0);
        due(x.thread(1, 0), Check.ENDED);
        due(x.thread(2, 0), Check.ENDED_BY_EXCEPTION);
    }
}
