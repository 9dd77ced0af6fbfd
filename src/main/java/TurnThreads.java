/**
 * Threads of a small language that run by turns, as ../shared/DOC.md tells.
 *
 * Inside, a THREAD is a Fiber and the QUEUE is a Line, so that no word of the face has two meanings.
 * Everything is made once, in the constructor; a new RUN uses the same objects again.
 */
public final class TurnThreads {

    private static final int NO_SUCH = -1;
    private static final int OUT_OF_BOUNDS = -2;
    private static final int AS_TOLD = -3;
    private static final int NO_ROOM = -4;

    private static final int MAX_PROGRAMS = 12;
    private static final int MAX_ACTS = 20;
    private static final int MAX_FIBERS = 24;
    private static final int MAX_HANDLERS = 4;
    private static final int MAX_PENDING = 4;
    private static final int MAX_ROWS = 100;
    private static final int MAX_QUANTUM = 10;
    private static final int MAX_DELAY = 100;
    private static final int MAX_EXCEPTION = 9;
    private static final int MAX_STEP = 500;
    private static final int MAX_TURNS = 3000;
    private static final int BOX_COUNT = 8;

    private static final int BEHIND_LAST = -1;
    private static final int PUT = 0;
    private static final int TAKE = 1;
    private static final int READ = 2;
    private static final int SET = 3;
    private static final int ADD = 4;
    private static final int FORK = 5;
    private static final int YIELD = 6;
    private static final int DELAY = 7;
    private static final int JUMP = 8;
    private static final int ZERO = 9;
    private static final int LOG = 10;
    private static final int RAISE = 11;
    private static final int THROW = 12;
    private static final int CATCH = 13;
    private static final int LEAVE = 14;
    private static final int MASK = 15;
    private static final int MINE = 16;

    private static final int READY = 0;
    private static final int WAITS_TO_PUT = 1;
    private static final int WAITS_TO_TAKE = 2;
    private static final int WAITS_TO_READ = 3;
    private static final int DELAYED = 4;
    private static final int ENDED = 5;
    private static final int ENDED_BY_EXCEPTION = 6;
    private static final int KILLED = 7;

    private static final int WAITS_FOR_EVER = 10;

    private final Programs programs;
    private final Run run;

    public TurnThreads() {
        programs = new Programs();
        run = new Run(programs);
    }

    public int program() {
        return programs.addProgram();
    }

    public int act(int kind, int a) {
        if (!fits(kind, a)) {
            return OUT_OF_BOUNDS;
        }
        if (programs.isEmpty()) {
            return AS_TOLD;
        }
        return programs.addAct(kind, a);
    }

    public int begin(int program, int quantum, int register) {
        if (!programs.has(program)) {
            return NO_SUCH;
        }
        if (quantum < 1 || quantum > MAX_QUANTUM) {
            return OUT_OF_BOUNDS;
        }
        run.start(program, quantum, register);
        return 1;
    }

    public int fill(int box, int v) {
        if (!run.boxes.has(box)) {
            return NO_SUCH;
        }
        if (!run.begun || run.over || run.boxes.isFull(box)) {
            return AS_TOLD;
        }
        run.bring(box, v);
        return 1;
    }

    public int step(int n) {
        if (n < 1 || n > MAX_STEP) {
            return OUT_OF_BOUNDS;
        }
        if (!run.begun) {
            return AS_TOLD;
        }
        if (run.turns + n > MAX_TURNS) {
            return NO_ROOM;
        }
        for (int done = 0; done < n; done++) {
            if (!run.takeTurn()) {
                return done;
            }
        }
        return n;
    }

    public int told(int what) {
        if (what < 0 || what > 5) {
            return OUT_OF_BOUNDS;
        }
        if (!run.begun) {
            return AS_TOLD;
        }
        switch (what) {
            case 0:
                return run.over ? 1 : 0;
            case 1:
                return run.clock;
            case 2:
                return run.turns;
            case 3:
                return run.fiberCount;
            case 4:
                return run.line.size();
            default:
                return run.rescues;
        }
    }

    public int thread(int t, int what) {
        Fiber fiber = run.fiberAt(t);
        if (fiber == null) {
            return NO_SUCH;
        }
        if (what < 0 || what > 9) {
            return OUT_OF_BOUNDS;
        }
        return fiber.tell(what);
    }

    public int queued(int i) {
        Fiber fiber = run.line.at(i);
        return fiber == null ? NO_SUCH : fiber.number;
    }

    public int box(int box, int what) {
        if (!run.begun || !run.boxes.has(box)) {
            return NO_SUCH;
        }
        if (what < 0 || what > 4) {
            return OUT_OF_BOUNDS;
        }
        switch (what) {
            case 0:
                return run.boxes.isFull(box) ? run.boxes.valueOf(box) : AS_TOLD;
            case 1:
                return run.boxes.isFull(box) ? 1 : 0;
            case 2:
                return run.countWaiting(box, WAITS_TO_PUT);
            case 3:
                return run.countWaiting(box, WAITS_TO_TAKE);
            default:
                return run.countWaiting(box, WAITS_TO_READ);
        }
    }

    public int trace(int i, int what) {
        int rows = run.rows.size();
        if (!run.begun || i < -1 || i >= rows) {
            return NO_SUCH;
        }
        if (what < 0 || what > 1) {
            return OUT_OF_BOUNDS;
        }
        if (i == -1) {
            return rows;
        }
        return what == 0 ? run.rows.numberAt(i) : run.rows.registerAt(i);
    }

    public int share(int t) throws ArithmeticException {
        Fiber fiber = run.fiberAt(t);
        if (fiber == null) {
            return NO_SUCH;
        }
        if (run.turns == 0) {
            throw new ArithmeticException("there were no turns");
        }
        return fiber.turns * 1000 / run.turns;
    }

    private static boolean fits(int kind, int a) {
        switch (kind) {
            case PUT:
            case TAKE:
            case READ:
                return a >= 0 && a < BOX_COUNT;
            case FORK:
                return a >= 0 && a < MAX_PROGRAMS;
            case DELAY:
                return a >= 0 && a <= MAX_DELAY;
            case JUMP:
            case ZERO:
            case CATCH:
                return a >= 0 && a <= MAX_ACTS;
            case RAISE:
            case THROW:
                return a >= 1 && a <= MAX_EXCEPTION;
            case MASK:
                return a == 0 || a == 1;
            default:
                return kind >= PUT && kind <= MINE;
        }
    }

    /** What was written with program() and act(); a RUN reads it as it stands at the moment. */
    private static final class Programs {
        private final int[] sizes = new int[MAX_PROGRAMS];
        private final int[][] kinds = new int[MAX_PROGRAMS][MAX_ACTS];
        private final int[][] operands = new int[MAX_PROGRAMS][MAX_ACTS];
        private int count = 0;

        boolean isEmpty() {
            return count == 0;
        }

        boolean has(int p) {
            return p >= 0 && p < count;
        }

        int addProgram() {
            if (count >= MAX_PROGRAMS) {
                return NO_ROOM;
            }
            count++;
            return count - 1;
        }

        int addAct(int kind, int a) {
            int latest = count - 1;
            if (!has(latest) || sizes[latest] >= MAX_ACTS) {
                return NO_ROOM;
            }
            int i = sizes[latest];
            kinds[latest][i] = kind;
            operands[latest][i] = a;
            sizes[latest] = i + 1;
            return i + 1;
        }

        private boolean hasAct(int p, int i) {
            return has(p) && i >= 0 && i < sizes[p];
        }

        int kindAt(int p, int i) {
            return hasAct(p, i) ? kinds[p][i] : BEHIND_LAST;
        }

        int operandAt(int p, int i) {
            return hasAct(p, i) ? operands[p][i] : 0;
        }
    }

    /** One THREAD. */
    private static final class Fiber {
        private final int number;
        private final int[] handlers = new int[MAX_HANDLERS];
        private final int[] pending = new int[MAX_PENDING];
        private int state = READY;
        private int home = 0;
        /** Behind the act at which it waits, so that one who is served needs no step more. */
        private int next = 0;
        private int register = 0;
        private int handlerCount = 0;
        private int pendingCount = 0;
        private boolean masked = false;
        private int endedBy = 0;
        private int turns = 0;
        private int until = 0;
        private int box = 0;
        private int ticket = 0;

        Fiber(int number) {
            this.number = number;
        }

        void reset(int newHome, int newRegister) {
            state = READY;
            home = newHome;
            next = 0;
            register = newRegister;
            handlerCount = 0;
            pendingCount = 0;
            masked = false;
            endedBy = 0;
            turns = 0;
        }

        boolean waits() {
            return state >= WAITS_TO_PUT && state <= WAITS_TO_READ;
        }

        boolean waitsAt(int someBox, int waiting) {
            return state == waiting && box == someBox;
        }

        boolean isAway() {
            return state >= WAITS_TO_PUT && state <= DELAYED;
        }

        boolean isDone() {
            return state >= ENDED;
        }

        void addHandler(int act) {
            if (handlerCount < MAX_HANDLERS) {
                handlers[handlerCount] = act;
                handlerCount++;
            }
        }

        void dropHandler() {
            if (handlerCount > 0) {
                handlerCount--;
            }
        }

        boolean handles(int exception) {
            if (handlerCount <= 0) {
                return false;
            }
            handlerCount--;
            next = handlers[handlerCount];
            register = exception;
            return true;
        }

        void addPending(int exception) {
            if (pendingCount < MAX_PENDING) {
                pending[pendingCount] = exception;
                pendingCount++;
            }
        }

        int takeEldest() {
            int eldest = pending[0];
            for (int i = 1; i < MAX_PENDING; i++) {
                pending[i - 1] = pending[i];
            }
            if (pendingCount > 0) {
                pendingCount--;
            }
            return eldest;
        }

        int tell(int what) {
            switch (what) {
                case 0:
                    return state;
                case 1:
                    return home;
                case 2:
                    return actToCome();
                case 3:
                    return register;
                case 4:
                    return handlerCount;
                case 5:
                    return masked ? 1 : 0;
                case 6:
                    return pendingCount;
                case 7:
                    return endedBy;
                case 8:
                    return turns;
                default:
                    return state == DELAYED ? until : AS_TOLD;
            }
        }

        private int actToCome() {
            if (isDone()) {
                return AS_TOLD;
            }
            return waits() ? next - 1 : next;
        }
    }

    /** The QUEUE: every READY thread but the one whose turn it is, once each, so that it never overflows. */
    private static final class Line {
        private final Fiber[] places = new Fiber[MAX_FIBERS];
        private int count = 0;

        int size() {
            return count;
        }

        void clear() {
            count = 0;
        }

        Fiber at(int i) {
            return i >= 0 && i < count ? places[i] : null;
        }

        void add(Fiber fiber) {
            if (count < MAX_FIBERS) {
                places[count] = fiber;
                count++;
            }
        }

        Fiber removeFirst() {
            Fiber first = at(0);
            remove(first);
            return first;
        }

        void remove(Fiber fiber) {
            int kept = 0;
            for (int i = 0; i < count; i++) {
                if (places[i] != fiber) {
                    places[kept] = places[i];
                    kept++;
                }
            }
            count = kept;
        }
    }

    /** What is in the BOXES; who waits at them stands in the fibers. */
    private static final class Boxes {
        private final boolean[] full = new boolean[BOX_COUNT];
        private final int[] values = new int[BOX_COUNT];

        boolean has(int b) {
            return b >= 0 && b < BOX_COUNT;
        }

        boolean isFull(int b) {
            return has(b) && full[b];
        }

        int valueOf(int b) {
            return has(b) ? values[b] : 0;
        }

        void keep(int b, int v) {
            if (has(b)) {
                full[b] = true;
                values[b] = v;
            }
        }

        void empty(int b) {
            if (has(b)) {
                full[b] = false;
            }
        }
    }

    /** THE TRACE. */
    private static final class Rows {
        private final int[] numbers = new int[MAX_ROWS];
        private final int[] registers = new int[MAX_ROWS];
        private int count = 0;

        int size() {
            return count;
        }

        void clear() {
            count = 0;
        }

        void add(int number, int register) {
            if (count < MAX_ROWS) {
                numbers[count] = number;
                registers[count] = register;
                count++;
            }
        }

        int numberAt(int i) {
            return i >= 0 && i < count ? numbers[i] : 0;
        }

        int registerAt(int i) {
            return i >= 0 && i < count ? registers[i] : 0;
        }
    }

    /** The RUN: none before the first start. */
    private static final class Run {
        private final Programs programs;
        private final Fiber[] fibers = new Fiber[MAX_FIBERS];
        private final Line line = new Line();
        private final Boxes boxes = new Boxes();
        private final Rows rows = new Rows();
        private int fiberCount = 0;
        private boolean begun = false;
        private boolean over = false;
        private int quantum = 1;
        private int clock = 0;
        private int turns = 0;
        /** How many EXCEPTIONS 10 came. */
        private int rescues = 0;
        private int tickets = 0;

        Run(Programs programs) {
            this.programs = programs;
            for (int t = 0; t < MAX_FIBERS; t++) {
                fibers[t] = new Fiber(t);
            }
        }

        void start(int program, int newQuantum, int register) {
            line.clear();
            rows.clear();
            for (int b = 0; b < BOX_COUNT; b++) {
                boxes.empty(b);
            }
            fiberCount = 0;
            begun = true;
            over = false;
            quantum = newQuantum;
            clock = 0;
            turns = 0;
            rescues = 0;
            tickets = 0;
            startFiber(program, register);
        }

        Fiber fiberAt(int t) {
            return t >= 0 && t < fiberCount ? fibers[t] : null;
        }

        int countWaiting(int box, int waiting) {
            int found = 0;
            for (int t = 0; t < fiberCount; t++) {
                if (fibers[t].waitsAt(box, waiting)) {
                    found++;
                }
            }
            return found;
        }

        /** Answers whether it was a TURN: it is none if no thread came to run. */
        boolean takeTurn() {
            Fiber me = over ? null : nextToRun();
            if (me == null) {
                return false;
            }
            me.turns++;
            for (int done = 0; done < quantum && me.state == READY; done++) {
                int kind = programs.kindAt(me.home, me.next);
                doAct(me, kind, programs.operandAt(me.home, me.next));
                closeIfOver();
                if (kind == YIELD) {
                    break;
                }
            }
            if (me.state == READY) {
                line.add(me);
            }
            clock++;
            turns++;
            return true;
        }

        private Fiber nextToRun() {
            wakeDelayed();
            if (line.size() == 0) {
                endIdleness();
            }
            return line.removeFirst();
        }

        private void wakeDelayed() {
            for (int i = 0; i < fiberCount; i++) {
                Fiber due = firstDelayed();
                if (due == null || due.until > clock) {
                    return;
                }
                makeReady(due);
            }
        }

        private Fiber firstDelayed() {
            Fiber first = null;
            for (int t = 0; t < fiberCount; t++) {
                Fiber fiber = fibers[t];
                if (fiber.state == DELAYED && (first == null || fiber.until < first.until)) {
                    first = fiber;
                }
            }
            return first;
        }

        private void endIdleness() {
            Fiber first = firstDelayed();
            if (first != null) {
                clock = first.until;
                wakeDelayed();
            } else {
                rescueWaiting();
            }
        }

        private void rescueWaiting() {
            for (int t = 0; t < fiberCount; t++) {
                if (fibers[t].waits()) {
                    rescues++;
                    raise(fibers[t], WAITS_FOR_EVER);
                    // Before the next one is looked at: those that this kills wait no more.
                    closeIfOver();
                }
            }
        }

        private void closeIfOver() {
            if (over || !fibers[0].isDone()) {
                return;
            }
            over = true;
            line.clear();
            for (int t = 1; t < fiberCount; t++) {
                if (!fibers[t].isDone()) {
                    fibers[t].state = KILLED;
                }
            }
        }

        private void doAct(Fiber me, int kind, int a) {
            if (kind == BEHIND_LAST) {
                me.state = ENDED;
                return;
            }
            me.next++;
            int state = stateAfter(kind, a);
            if (state == READY) {
                perform(me, kind, a);
            } else if (me.pendingCount > 0) {
                raise(me, me.takeEldest());
            } else {
                pause(me, state, a);
            }
        }

        /** READY if the act can be done at once, else the state in which its thread would have to pause. */
        private int stateAfter(int kind, int a) {
            switch (kind) {
                case PUT:
                    return boxes.isFull(a) ? WAITS_TO_PUT : READY;
                case TAKE:
                    return boxes.isFull(a) ? READY : WAITS_TO_TAKE;
                case READ:
                    return boxes.isFull(a) ? READY : WAITS_TO_READ;
                case DELAY:
                    return DELAYED;
                default:
                    return READY;
            }
        }

        private void pause(Fiber me, int state, int a) {
            me.state = state;
            if (state == DELAYED) {
                me.until = clock + a;
            } else {
                me.box = a;
                me.ticket = tickets;
                tickets++;
            }
        }

        private void perform(Fiber me, int kind, int a) {
            switch (kind) {
                case PUT:
                    bring(a, me.register);
                    break;
                case TAKE:
                    takeFrom(a, me);
                    break;
                case READ:
                    me.register = boxes.valueOf(a);
                    break;
                case SET:
                    me.register = a;
                    break;
                case ADD:
                    me.register += a;
                    break;
                case FORK:
                    me.register = startFiber(a, me.register);
                    break;
                case JUMP:
                    me.next = a;
                    break;
                case ZERO:
                    me.next = me.register == 0 ? a : me.next;
                    break;
                case LOG:
                    rows.add(me.number, me.register);
                    break;
                case RAISE:
                    raise(me, a);
                    break;
                case THROW:
                    throwTo(fiberAt(me.register), me, a);
                    break;
                case CATCH:
                    me.addHandler(a);
                    break;
                case LEAVE:
                    me.dropHandler();
                    break;
                case MASK:
                    mask(me, a == 1);
                    break;
                case MINE:
                    me.register = me.number;
                    break;
                default:
                    // YIELD: takeTurn ends the turn.
                    break;
            }
        }

        /** Answers the new one's number, or -1 if none comes. */
        private int startFiber(int program, int register) {
            if (fiberCount >= MAX_FIBERS || !programs.has(program)) {
                return -1;
            }
            Fiber fiber = fibers[fiberCount];
            fiberCount++;
            fiber.reset(program, register);
            line.add(fiber);
            return fiber.number;
        }

        private void makeReady(Fiber fiber) {
            fiber.state = READY;
            line.add(fiber);
        }

        /** A VALUE comes into an empty BOX. */
        void bring(int box, int v) {
            for (int i = 0; i < MAX_FIBERS; i++) {
                Fiber reader = firstWaiting(box, WAITS_TO_READ);
                if (reader == null) {
                    break;
                }
                reader.register = v;
                makeReady(reader);
            }
            Fiber taker = firstWaiting(box, WAITS_TO_TAKE);
            if (taker == null) {
                boxes.keep(box, v);
            } else {
                taker.register = v;
                makeReady(taker);
            }
        }

        private void takeFrom(int box, Fiber me) {
            me.register = boxes.valueOf(box);
            boxes.empty(box);
            Fiber putter = firstWaiting(box, WAITS_TO_PUT);
            if (putter != null) {
                // None waits to read or take here: the box was full till now.
                boxes.keep(box, putter.register);
                makeReady(putter);
            }
        }

        private Fiber firstWaiting(int box, int waiting) {
            Fiber first = null;
            for (int t = 0; t < fiberCount; t++) {
                Fiber fiber = fibers[t];
                if (fiber.waitsAt(box, waiting) && (first == null || fiber.ticket < first.ticket)) {
                    first = fiber;
                }
            }
            return first;
        }

        private void raise(Fiber fiber, int exception) {
            boolean wasAway = fiber.isAway();
            if (!fiber.handles(exception)) {
                fiber.state = ENDED_BY_EXCEPTION;
                fiber.endedBy = exception;
                line.remove(fiber);
            } else if (wasAway) {
                fiber.state = READY;
                line.add(fiber);
            }
        }

        private void throwTo(Fiber target, Fiber me, int exception) {
            if (target == null || target.isDone()) {
                return;
            }
            if (target == me || !target.masked || target.isAway()) {
                raise(target, exception);
            } else {
                target.addPending(exception);
            }
        }

        private void mask(Fiber me, boolean masked) {
            me.masked = masked;
            if (masked) {
                return;
            }
            for (int i = 0; i < MAX_PENDING && me.pendingCount > 0 && !me.isDone(); i++) {
                raise(me, me.takeEldest());
            }
        }
    }
}
