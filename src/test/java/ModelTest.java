import java.util.ArrayList;
import java.util.Arrays;
import java.util.List;
import java.util.Random;

/** Many runs of calls, the same ones each time, on the class and on the model: all that can be asked is compared. */
public final class ModelTest {
    private static final int OBJECTS = 3000;

    private static int[] wants(Model.Strand s) {
        return new int[] {s.state, s.program, s.state >= 5 ? -3 : s.act, s.register, s.handlers.size(),
                s.masked ? 1 : 0, s.pending.size(), s.endedBy, s.turns, s.state == 4 ? s.until : -3};
    }

    private static void compare(String when, TurnThreads x, Model m) {
        int[] told = {m.over() ? 1 : 0, m.clock, m.turns, m.strands.size(), m.queue.size(), m.tens};
        for (int what = 0; what < told.length; what++) {
            Check.due(when + ": told(" + what + ")", x.told(what), told[what]);
        }
        for (Model.Strand s : m.strands) {
            Check.dueThread(when, x, s.number, wants(s));
            if (m.turns > 0) {
                Check.due(when + ": share(" + s.number + ")", x.share(s.number), s.turns * 1000 / m.turns);
            } else {
                Check.dueThrow(when + ": share(" + s.number + ")", x, s.number);
            }
        }
        Check.due(when + ": thread behind the last", x.thread(m.strands.size(), 0), -1);
        Check.dueQueue(when, x, m.queue.stream().mapToInt(s -> s.number).toArray());
        for (int b = 0; b < 8; b++) {
            Model.Place place = m.places.get(b);
            Check.due(when + ": box(" + b + ", 0)", x.box(b, 0), place.value == null ? -3 : place.value);
            Check.due(when + ": box(" + b + ", 1)", x.box(b, 1), place.value == null ? 0 : 1);
            for (int kind = 0; kind < 3; kind++) {
                Check.due(when + ": box(" + b + ", " + (kind + 2) + ")", x.box(b, kind + 2),
                        place.waiting.get(kind).size());
            }
        }
        Check.dueTrace(when, x, m.trace.stream().flatMapToInt(Arrays::stream).toArray());
    }

    /** Few boxes and programs, and threads' numbers in registers, so that the threads do meet. */
    private static int operand(Random random, int kind, int boxes, int programs) {
        switch (kind) {
            case Check.PUT:
            case Check.TAKE:
            case Check.READ:
                return random.nextInt(boxes);
            case Check.SET:
            case Check.ADD:
                return random.nextInt(10) - 2;
            case Check.FORK:
                return random.nextInt(10) == 0 ? random.nextInt(12) : random.nextInt(programs);
            case Check.DELAY:
                return random.nextInt(random.nextInt(4) == 0 ? 101 : 5);
            case Check.JUMP:
            case Check.ZERO:
            case Check.CATCH:
                return random.nextInt(random.nextInt(6) == 0 ? 21 : 8);
            case Check.RAISE:
            case Check.THROW:
                return 1 + random.nextInt(9);
            case Check.MASK:
                return random.nextInt(4) == 0 ? 0 : 1;
            default:
                return random.nextInt();
        }
    }

    private static final int[] OFTEN = {
        Check.PUT, Check.TAKE, Check.READ, Check.FORK, Check.SET, Check.THROW, Check.CATCH, Check.CATCH, Check.MASK,
        Check.DELAY, Check.LOG
    };

    private static void write(Random random, TurnThreads x, Model m, int boxes, int programs) {
        Check.due("program()", x.program(), m.programs.size());
        m.programs.add(new ArrayList<>());
        int size = random.nextInt(random.nextInt(3) == 0 ? 21 : 10);
        for (int i = 0; i < size; i++) {
            addAct(random, x, m, boxes, programs);
        }
    }

    private static void addAct(Random random, TurnThreads x, Model m, int boxes, int programs) {
        int kind = random.nextBoolean() ? OFTEN[random.nextInt(OFTEN.length)] : random.nextInt(17);
        int a = operand(random, kind, boxes, programs);
        List<int[]> latest = m.programs.get(m.programs.size() - 1);
        boolean room = latest.size() < 20;
        if (room) {
            latest.add(new int[] {kind, a});
        }
        Check.due("act(" + kind + ", " + a + ")", x.act(kind, a), room ? latest.size() : -4);
    }

    private static void oneObject(int seed) {
        Random random = new Random(seed);
        TurnThreads x = new TurnThreads();
        Model m = new Model();
        int boxes = 1 + random.nextInt(3);
        int programs = 1 + random.nextInt(5);
        for (int p = 0; p < programs; p++) {
            write(random, x, m, boxes, programs);
        }
        for (int call = 0; call < 40; call++) {
            String when = "seed " + seed + ", call " + call;
            int choice = random.nextInt(20);
            if (m.strands == null || choice == 0) {
                int program = random.nextInt(programs);
                int quantum = 1 + random.nextInt(10);
                Check.due(when + ": begin", x.begin(program, quantum, call), 1);
                m.begin(program, quantum, call);
            } else if (choice < 4) {
                int b = random.nextInt(boxes);
                boolean may = !m.over() && m.places.get(b).value == null;
                if (may) {
                    m.valueComes(m.places.get(b), call);
                }
                Check.due(when + ": fill(" + b + ")", x.fill(b, call), may ? 1 : -3);
            } else if (choice == 4) {
                addAct(random, x, m, boxes, programs);
            } else {
                int n = random.nextInt(5) == 0 ? 1 + random.nextInt(500) : 1 + random.nextInt(3);
                boolean room = m.turns + n <= 3000;
                Check.due(when + ": step(" + n + ")", x.step(n), room ? m.step(n) : -4);
            }
            compare(when, x, m);
        }
    }

    public static void main(String[] args) {
        for (int seed = 0; seed < OBJECTS; seed++) {
            oneObject(seed);
        }
        Check.end();
    }
}
