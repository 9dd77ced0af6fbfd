/** What the tests share: they compare answers, count the wrong ones, and write programs by the names of the acts. */
final class Check {
    static final int PUT = 0;
    static final int TAKE = 1;
    static final int READ = 2;
    static final int SET = 3;
    static final int ADD = 4;
    static final int FORK = 5;
    static final int YIELD = 6;
    static final int DELAY = 7;
    static final int JUMP = 8;
    static final int ZERO = 9;
    static final int LOG = 10;
    static final int RAISE = 11;
    static final int THROW = 12;
    static final int CATCH = 13;
    static final int LEAVE = 14;
    static final int MASK = 15;
    static final int MINE = 16;

    static final int READY = 0;
    static final int WAITS_TO_PUT = 1;
    static final int WAITS_TO_TAKE = 2;
    static final int WAITS_TO_READ = 3;
    static final int DELAYED = 4;
    static final int ENDED = 5;
    static final int ENDED_BY_EXCEPTION = 6;
    static final int KILLED = 7;

    private static int wrong = 0;

    private Check() {
    }

    static int wrong() {
        return wrong;
    }

    static void due(String what, long got, long want) {
        if (got != want) {
            wrong++;
            System.out.println(what + " answered " + got + ", due is " + want);
        }
    }

    /** All ten answers of thread(t, 0 .. 9) in one. */
    static void dueThread(String when, Counted x, int t, int... want) {
        for (int what = 0; what < want.length; what++) {
            due(when + ": thread(" + t + ", " + what + ")", x.thread(t, what), want[what]);
        }
    }

    static void dueQueue(String when, Counted x, int... want) {
        due(when + ": told(4)", x.told(4), want.length);
        for (int i = 0; i < want.length; i++) {
            due(when + ": queued(" + i + ")", x.queued(i), want[i]);
        }
        due(when + ": queued(" + want.length + ")", x.queued(want.length), -1);
    }

    /** The rows as number, register, number, register .. */
    static void dueTrace(String when, Counted x, int... want) {
        due(when + ": trace(-1, 0)", x.trace(-1, 0), want.length / 2);
        for (int i = 0; i < want.length; i++) {
            due(when + ": trace(" + i / 2 + ", " + i % 2 + ")", x.trace(i / 2, i % 2), want[i]);
        }
        due(when + ": trace behind the last row", x.trace(want.length / 2, 0), -1);
    }

    static void dueThrow(String what, Counted x, int t) {
        try {
            int got = x.share(t);
            wrong++;
            System.out.println(what + " answered " + got + ", due is ArithmeticException");
        } catch (ArithmeticException due) {
            return;
        }
    }

    /** An object with these programs, each written as kind, a, kind, a .. */
    static Counted with(int[]... programs) {
        Counted x = new Counted();
        for (int[] acts : programs) {
            write(x, acts);
        }
        return x;
    }

    static void write(Counted x, int... acts) {
        if (x.program() < 0) {
            throw new IllegalStateException("no program came");
        }
        for (int i = 0; i < acts.length; i += 2) {
            if (x.act(acts[i], acts[i + 1]) != i / 2 + 1) {
                throw new IllegalStateException("act " + i / 2 + " did not come");
            }
        }
    }

    static int[] acts(int... acts) {
        return acts;
    }

    static void end() {
        System.out.println(wrong == 0 ? "all answers are as due" : wrong + " answers are not as due");
        if (wrong != 0) {
            System.exit(1);
        }
    }
}
