import java.util.ArrayList;
import java.util.List;
import java.util.Random;

/**
 * Many runs of calls, the same ones each time, on the class and on the model: behind each call a few questions, behind
 * the last one all that can be asked, of other objects that have played the same calls.
 */
public final class ModelTest {
    private static final int OBJECTS = 8000;
    private static final int QUESTIONS = 7;

    private static long dueTold(Model m, int what) {
        if (what < 0 || what > 5) {
            return -2;
        }
        if (m.strands == null) {
            return -3;
        }
        int[] told = {m.over() ? 1 : 0, m.clock, m.turns, m.strands.size(), m.queue.size(), m.tens};
        return told[what];
    }

    private static long dueThread(Model m, int t, int what) {
        if (m.strands == null || t < 0 || t >= m.strands.size()) {
            return -1;
        }
        if (what < 0 || what > 9) {
            return -2;
        }
        Model.Strand s = m.strands.get(t);
        int[] of = {s.state, s.program, s.state >= 5 ? -3 : s.act, s.register, s.handlers.size(),
            s.masked ? 1 : 0, s.pending.size(), s.endedBy, s.turns, s.state == 4 ? s.until : -3};
        return of[what];
    }

    private static long dueBox(Model m, int b, int what) {
        if (m.strands == null || b < 0 || b > 7) {
            return -1;
        }
        if (what < 0 || what > 4) {
            return -2;
        }
        Model.Place place = m.places.get(b);
        if (what == 0) {
            return place.value == null ? -3 : place.value;
        }
        return what == 1 ? (place.value == null ? 0 : 1) : place.waiting.get(what - 2).size();
    }

    private static long dueTrace(Model m, int i, int what) {
        if (m.strands == null || i < -1 || i >= m.trace.size()) {
            return -1;
        }
        if (what < 0 || what > 1) {
            return -2;
        }
        return i == -1 ? m.trace.size() : m.trace.get(i)[what];
    }

    private static long dueShare(Model m, int t) {
        if (m.strands == null || t < 0 || t >= m.strands.size()) {
            return -1;
        }
        return m.turns == 0 ? Counted.THROWS : m.strands.get(t).turns * 1000 / m.turns;
    }

    private static void ask(String when, Counted x, Model m, int... question) {
        long want;
        switch (question[0]) {
            case Counted.TOLD:
                want = dueTold(m, question[1]);
                break;
            case Counted.THREAD:
                want = dueThread(m, question[1], question[2]);
                break;
            case Counted.QUEUED:
                boolean none = m.strands == null || question[1] < 0 || question[1] >= m.queue.size();
                want = none ? -1 : m.queue.get(question[1]).number;
                break;
            case Counted.BOX:
                want = dueBox(m, question[1], question[2]);
                break;
            case Counted.TRACE:
                want = dueTrace(m, question[1], question[2]);
                break;
            default:
                want = dueShare(m, question[1]);
                break;
        }
        Check.due(when + ": " + Counted.text(question), x.answer(question), want);
    }

    private static void askAny(Random random, String when, Counted x, Model m) {
        int threads = m.strands == null ? 0 : m.strands.size();
        int rows = m.strands == null ? 0 : m.trace.size();
        switch (random.nextInt(6)) {
            case 0:
                ask(when, x, m, Counted.TOLD, random.nextInt(8) - 1);
                break;
            case 1:
                ask(when, x, m, Counted.QUEUED, random.nextInt(threads + 2) - 1);
                break;
            case 2:
                ask(when, x, m, Counted.BOX, random.nextInt(3) == 0 ? random.nextInt(10) - 1 : random.nextInt(3),
                        random.nextInt(7) - 1);
                break;
            case 3:
                ask(when, x, m, Counted.TRACE, random.nextInt(rows + 3) - 2, random.nextInt(4) - 1);
                break;
            case 4:
                ask(when, x, m, Counted.SHARE, random.nextInt(threads + 2) - 1);
                break;
            default:
                ask(when, x, m, Counted.THREAD, random.nextInt(threads + 2) - 1, random.nextInt(12) - 1);
                break;
        }
    }

    private static void askAll(String when, Script script, Model m) {
        Counted x = script.play();
        for (int what = -1; what <= 6; what++) {
            ask(when, x, m, Counted.TOLD, what);
        }
        for (int i = -1; i <= 24; i++) {
            ask(when, x, m, Counted.QUEUED, i);
            ask(when, x, m, Counted.SHARE, i);
        }
        for (int b = 0; b < 8; b++) {
            for (int what = 0; what < 5; what++) {
                ask(when, x, m, Counted.BOX, b, what);
            }
        }
        x = script.play();
        for (int t = 0; t < m.strands.size(); t++) {
            for (int what = 0; what < 10; what++) {
                ask(when, x, m, Counted.THREAD, t, what);
            }
        }
        x = script.play();
        for (int i = -1; i <= m.trace.size(); i++) {
            ask(when, x, m, Counted.TRACE, i, 0);
            ask(when, x, m, Counted.TRACE, i, 1);
        }
    }

    /** Few boxes and programs, and threads' numbers in registers, so that the threads do meet. */
    private static int operand(Random random, int kind, int boxes, int programs) {
        switch (kind) {
            case Check.PUT:
            case Check.TAKE:
            case Check.READ:
                return random.nextInt(boxes);
            case Check.SET:
            case Check.ADD:
                return random.nextInt(10) - 2;
            case Check.FORK:
                return random.nextInt(10) == 0 ? random.nextInt(12) : random.nextInt(programs);
            case Check.DELAY:
                return random.nextInt(random.nextInt(4) == 0 ? 101 : 5);
            case Check.JUMP:
            case Check.ZERO:
            case Check.CATCH:
                return random.nextInt(random.nextInt(6) == 0 ? 21 : 8);
            case Check.RAISE:
            case Check.THROW:
                return 1 + random.nextInt(9);
            case Check.MASK:
                return random.nextInt(4) == 0 ? 0 : 1;
            default:
                return random.nextInt();
        }
    }

    private static final int[] OFTEN = {
        Check.PUT, Check.TAKE, Check.READ, Check.FORK, Check.SET, Check.THROW, Check.CATCH, Check.CATCH, Check.MASK,
        Check.DELAY, Check.LOG
    };

    private final Random random;
    private final Counted x = new Counted();
    private final Model m = new Model();
    private final Script script = new Script();
    private final int boxes;
    private final int programs;
    private final String name;

    private ModelTest(int seed) {
        random = new Random(seed);
        boxes = 1 + random.nextInt(3);
        programs = 1 + random.nextInt(5);
        name = "seed " + seed;
    }

    private void call(long want, int... call) {
        Check.due(name + ": " + Counted.text(call), x.answer(call), want);
        script.add(call);
    }

    private void writeProgram() {
        call(m.programs.size(), Counted.PROGRAM);
        m.programs.add(new ArrayList<>());
        int size = random.nextInt(random.nextInt(3) == 0 ? 21 : 10);
        for (int i = 0; i < size; i++) {
            addAct();
        }
    }

    private void addAct() {
        int kind = random.nextBoolean() ? OFTEN[random.nextInt(OFTEN.length)] : random.nextInt(17);
        int a = operand(random, kind, boxes, programs);
        List<int[]> latest = m.programs.get(m.programs.size() - 1);
        boolean room = latest.size() < 20;
        if (room) {
            latest.add(new int[] {kind, a});
        }
        call(room ? latest.size() : -4, Counted.ACT, kind, a);
    }

    private void begin(int register) {
        int program = random.nextInt(programs);
        int quantum = 1 + random.nextInt(10);
        m.begin(program, quantum, register);
        call(1, Counted.BEGIN, program, quantum, register);
    }

    private void fill(int v) {
        int b = random.nextInt(boxes);
        boolean may = !m.over() && m.places.get(b).value == null;
        if (may) {
            m.valueComes(m.places.get(b), v);
        }
        call(may ? 1 : -3, Counted.FILL, b, v);
    }

    private void step() {
        int n = random.nextInt(8) == 0 ? 1 + random.nextInt(500) : 1 + random.nextInt(3);
        boolean room = m.turns + n <= 3000;
        call(room ? m.step(n) : -4, Counted.STEP, n);
    }

    private void play() {
        for (int p = 0; p < programs; p++) {
            writeProgram();
        }
        askAny(random, name, x, m);
        int length = 1 + random.nextInt(40);
        for (int i = 0; i < length; i++) {
            int choice = random.nextInt(20);
            if (m.strands == null || choice == 0) {
                begin(i);
            } else if (choice < 4) {
                fill(i);
            } else if (choice == 4) {
                addAct();
            } else {
                step();
            }
            for (int asked = 0; asked < QUESTIONS; asked++) {
                askAny(random, name + ", call " + i, x, m);
            }
        }
        askAll(name, script, m);
    }

    public static void main(String[] args) {
        for (int seed = 0; seed < OBJECTS; seed++) {
            new ModelTest(seed).play();
        }
        Check.end();
    }
}
