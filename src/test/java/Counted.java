/**
 * The class under test, and how often it was called: the document promises nothing behind an object's 512th call, so
 * a test that goes beyond is itself wrong.
 */
final class Counted {
    static final int CALLS = 512;
    /** What answer() tells of a call that throws ArithmeticException; no call answers it. */
    static final long THROWS = Long.MIN_VALUE;

    static final int PROGRAM = 0;
    static final int ACT = 1;
    static final int BEGIN = 2;
    static final int FILL = 3;
    static final int STEP = 4;
    static final int TOLD = 5;
    static final int THREAD = 6;
    static final int QUEUED = 7;
    static final int BOX = 8;
    static final int TRACE = 9;
    static final int SHARE = 10;

    private static final String[] NAMES = {
        "program", "act", "begin", "fill", "step", "told", "thread", "queued", "box", "trace", "share"
    };

    private static int[] latest = {};

    private final TurnThreads x = new TurnThreads();
    private int calls = 0;

    private void count(int... call) {
        calls++;
        latest = call;
        if (calls > CALLS) {
            throw new IllegalStateException("a test calls an object more than " + CALLS + " times");
        }
    }

    int calls() {
        return calls;
    }

    static String text(int... call) {
        StringBuilder text = new StringBuilder(NAMES[call[0]]).append('(');
        for (int i = 1; i < call.length; i++) {
            text.append(i > 1 ? ", " : "").append(call[i]);
        }
        return text.append(')').toString();
    }

    static int numberOf(String name) {
        for (int call = 0; call < NAMES.length; call++) {
            if (NAMES[call].equals(name)) {
                return call;
            }
        }
        throw new IllegalStateException("there is no call " + name);
    }

    static String latestCall() {
        return latest.length == 0 ? "no call" : text(latest);
    }

    int program() {
        count(PROGRAM);
        return x.program();
    }

    int act(int kind, int a) {
        count(ACT, kind, a);
        return x.act(kind, a);
    }

    int begin(int program, int quantum, int register) {
        count(BEGIN, program, quantum, register);
        return x.begin(program, quantum, register);
    }

    int fill(int box, int v) {
        count(FILL, box, v);
        return x.fill(box, v);
    }

    int step(int n) {
        count(STEP, n);
        return x.step(n);
    }

    int told(int what) {
        count(TOLD, what);
        return x.told(what);
    }

    int thread(int t, int what) {
        count(THREAD, t, what);
        return x.thread(t, what);
    }

    int queued(int i) {
        count(QUEUED, i);
        return x.queued(i);
    }

    int box(int box, int what) {
        count(BOX, box, what);
        return x.box(box, what);
    }

    int trace(int i, int what) {
        count(TRACE, i, what);
        return x.trace(i, what);
    }

    int share(int t) {
        count(SHARE, t);
        return x.share(t);
    }

    /** Any call by its number above and its arguments. */
    long answer(int... call) {
        switch (call[0]) {
            case PROGRAM:
                return program();
            case ACT:
                return act(call[1], call[2]);
            case BEGIN:
                return begin(call[1], call[2], call[3]);
            case FILL:
                return fill(call[1], call[2]);
            case STEP:
                return step(call[1]);
            case TOLD:
                return told(call[1]);
            case THREAD:
                return thread(call[1], call[2]);
            case QUEUED:
                return queued(call[1]);
            case BOX:
                return box(call[1], call[2]);
            case TRACE:
                return trace(call[1], call[2]);
            default:
                try {
                    return share(call[1]);
                } catch (ArithmeticException noTurns) {
                    return THROWS;
                }
        }
    }
}
