import java.util.ArrayList;
import java.util.List;

/** "REFUSALS change nothing; of several the first one here": every refusal, in every kind of state. */
public final class RefusalsTest extends Edges {
    private static final int[] FAR = {LEAST, LEAST + 1, -100, -5, -4, -3, -2, 100, 1000, MOST - 1, MOST};

    public static void main(String[] args) {
        runAll(RefusalsTest.class);
    }

    /** Threads in every state, values, handlers, a mask, pending ones, rows, and one that is delayed. */
    private static Script busy() {
        return Script.of("FORK 1, FORK 2, FORK 3, FORK 4, FORK 5, FORK 6, LOG, YIELD, SET 6, THROW 3, THROW 4, YIELD,"
                + " YIELD, JUMP 13", "PUT 0", "CATCH 4, TAKE 1, LOG", "READ 1, LOG", "DELAY 20, LOG", "RAISE 5",
                "CATCH 3, MASK 1, YIELD, LOG, YIELD, JUMP 4").begin(0, 10, 70).fill(0, 9).step(9);
    }

    private static Script full() {
        Script script = new Script();
        for (int p = 0; p < 11; p++) {
            script.add(Counted.PROGRAM);
        }
        script.add(Counted.PROGRAM);
        script.add(Counted.ACT, Check.ADD, 1).add(Counted.ACT, Check.JUMP, 0);
        for (int i = 2; i < 20; i++) {
            script.add(Counted.ACT, Check.LOG, 0);
        }
        return script.begin(11, 4, 0).step(500).step(500).step(500).step(500).step(500).step(499);
    }

    private static Script over() {
        return Script.of("FORK 1, LOG, YIELD", "TAKE 3").begin(0, 10, 8).fill(2, 6).step(500);
    }

    private static Script programsAlone() {
        return Script.of("LOG, YIELD", "ADD 1");
    }

    /** A refused call, the answers of which are due, and the state before and after it, and after some turns more. */
    private static void refused(Script before, int want, int... call) {
        Counted x = before.play();
        Check.due(Counted.text(call), x.answer(call), want);
        Script after = before.with(call);
        Check.due("the state after " + Counted.text(call), before.state().equals(after.state()) ? 0 : 1, 0);
        Script later = before.with(Counted.STEP, 1).with(Counted.STEP, 30);
        Script laterAfter = after.with(Counted.STEP, 1).with(Counted.STEP, 30);
        Check.due("what comes after " + Counted.text(call), later.state().equals(laterAfter.state()) ? 0 : 1, 0);
    }

    private static List<Script> all() {
        List<Script> all = new ArrayList<>();
        all.add(new Script());
        all.add(programsAlone());
        all.add(busy());
        all.add(full());
        all.add(over());
        return all;
    }

    private static List<Script> withRun() {
        return all().subList(2, 5);
    }

    private static List<Script> withoutRun() {
        return all().subList(0, 2);
    }

    @Says("REFUSALS change nothing")
    static void theBusyStateHasAllInIt() {
        Counted x = busy().play();
        int[] states = {0, 1, 2, 3, 4, 6, 0};
        for (int t = 0; t < 7; t++) {
            due(x.thread(t, 0), states[t]);
        }
        due(x.thread(2, 4), 1);
        due(x.thread(6, 5), 1);
        due(x.thread(6, 6), 2);
        dueQueue(x, 0, 6);
        dueTrace(x, 0, 6, 6, 5);
        dueTold(x, 0, 9, 9, 7, 2, 0);
        dueBox(x, 0, 9, 1, 1, 0, 0);
        dueBox(x, 1, -3, 0, 0, 1, 1);
    }

    @Says("A PROGRAM more, without ACTS: its number. -4.")
    static void programRefused() {
        refused(full(), -4, Counted.PROGRAM);
    }

    @Says("-2 (0 to 16; a: a BOX, SET and ADD anything, FORK 0 to 11, JUMP, ZERO, CATCH 0 to 20;")
    static void actRefused() {
        for (Script script : all()) {
            refused(script, -2, Counted.ACT, -1, 0);
            refused(script, -2, Counted.ACT, 17, 0);
            refused(script, -2, Counted.ACT, Check.PUT, 8);
            refused(script, -2, Counted.ACT, Check.FORK, 12);
            refused(script, -2, Counted.ACT, Check.JUMP, 21);
        }
        refused(new Script(), -3, Counted.ACT, Check.LOG, 0);
        refused(full(), -4, Counted.ACT, Check.LOG, 0);
    }

    @Says("-1; -2 QUANTUM (1 to 10).")
    static void beginRefused() {
        for (Script script : all()) {
            refused(script, -1, Counted.BEGIN, -1, 1, 0);
            refused(script, -1, Counted.BEGIN, 12, 1, 0);
        }
        refused(new Script(), -1, Counted.BEGIN, 0, 1, 0);
        for (Script script : all().subList(1, 5)) {
            refused(script, -2, Counted.BEGIN, 0, 0, 0);
            refused(script, -2, Counted.BEGIN, 0, 11, 0);
        }
    }

    @Says("-1; -3 no RUN, OVER, or it has one.")
    static void fillRefused() {
        for (Script script : all()) {
            refused(script, -1, Counted.FILL, -1, 5);
            refused(script, -1, Counted.FILL, 8, 5);
        }
        for (Script script : withoutRun()) {
            refused(script, -3, Counted.FILL, 0, 5);
        }
        refused(over(), -3, Counted.FILL, 2, 5);
        refused(over(), -3, Counted.FILL, 3, 5);
        refused(over(), -3, Counted.FILL, 4, 5);
        refused(busy(), -3, Counted.FILL, 0, 5);
    }

    @Says("-2; -3 no RUN; -4 those done so far and n are above 3000.")
    static void stepRefused() {
        for (Script script : all()) {
            refused(script, -2, Counted.STEP, 0);
            refused(script, -2, Counted.STEP, 501);
            refused(script, -2, Counted.STEP, -1);
        }
        for (Script script : withoutRun()) {
            refused(script, -3, Counted.STEP, 1);
        }
        refused(full(), -4, Counted.STEP, 2);
        refused(full(), -4, Counted.STEP, 500);
    }

    @Says("REFUSALS change nothing")
    static void questionsRefused() {
        for (Script script : all()) {
            boolean run = script.play().told(0) >= 0;
            refused(script, -2, Counted.TOLD, 6);
            refused(script, -1, Counted.THREAD, 24, 0);
            refused(script, run ? -2 : -1, Counted.THREAD, 0, 10);
            refused(script, -1, Counted.QUEUED, 24);
            refused(script, -1, Counted.BOX, 8, 0);
            refused(script, run ? -2 : -1, Counted.BOX, 0, 5);
            refused(script, -1, Counted.TRACE, 100, 0);
            refused(script, -1, Counted.SHARE, 24);
        }
        for (Script script : withoutRun()) {
            refused(script, -3, Counted.TOLD, 0);
        }
        refused(busy(), -3, Counted.BOX, 1, 0);
        refused(busy(), -2, Counted.TRACE, 0, 2);
    }

    @Says("ArithmeticException: there were none.")
    static void aShareThatThrowsChangesNothing() {
        Script begun = Script.of("FORK 1, YIELD, JUMP 1", "LOG, YIELD").begin(0, 3, 4);
        Script after = begun.with(Counted.SHARE, 0);
        Check.dueThrow("share(0)", begun.play(), 0);
        Check.due("the state after it", begun.state().equals(after.state()) ? 0 : 1, 0);
        Check.due("what comes after it",
                begun.with(Counted.STEP, 9).state().equals(after.with(Counted.STEP, 9).state()) ? 0 : 1, 0);
    }

    @Says("REFUSALS change nothing")
    static void questionsThatAreAnsweredChangeNothing() {
        for (Script script : withRun()) {
            Script asked = script.with(Counted.TOLD, 0).with(Counted.THREAD, 0, 2).with(Counted.QUEUED, 0)
                    .with(Counted.BOX, 0, 0).with(Counted.TRACE, 0, 1).with(Counted.SHARE, 0);
            Check.due("the state after questions", script.state().equals(asked.state()) ? 0 : 1, 0);
        }
    }

    @Says("of several the first one here: -1 there is no such program, thread, box, place; -2 outside its bounds")
    static void noSuchThingBeforeBounds() {
        for (Script script : all()) {
            Counted x = script.play();
            for (int far : FAR) {
                due(x.begin(12, far > 10 || far < 1 ? far : 0, 0), -1);
                due(x.thread(24, far), -1);
                due(x.box(8, far), -1);
                due(x.trace(-2, far), -1);
                due(x.trace(100, far), -1);
            }
        }
        for (Script script : withoutRun()) {
            Counted x = script.play();
            for (int far : FAR) {
                due(x.thread(0, far), -1);
                due(x.box(0, far), -1);
                due(x.trace(0, far), -1);
                due(x.trace(-1, far), -1);
            }
        }
    }

    @Says("-1 there is no such program, thread, box, place; -2 outside its bounds; -3 as told")
    static void noSuchBoxBeforeNoRunAndOver() {
        for (int far : FAR) {
            due(new Script().play().fill(far, 1), -1);
            due(programsAlone().play().fill(far, 1), -1);
            due(over().play().fill(far, 1), -1);
        }
        due(over().play().fill(8, 1), -1);
        due(over().play().fill(-1, 1), -1);
    }

    @Says("-2 outside its bounds; -3 as told")
    static void boundsBeforeNoRunAndNoProgram() {
        Counted x = new Counted();
        for (int far : FAR) {
            due(x.act(far, 0), -2);
            due(x.act(Check.PUT, far), -2);
            due(x.told(far), -2);
            due(x.step(far > 500 || far < 1 ? far : 501), -2);
        }
        due(x.act(17, 0), -2);
        due(x.told(6), -2);
        due(x.told(-1), -2);
        due(x.step(0), -2);
    }

    @Says("-2 outside its bounds; -3 as told; -4 no room")
    static void boundsBeforeNoRoom() {
        Counted x = full().play();
        due(x.act(Check.YIELD, 0), -4);
        due(x.act(17, 0), -2);
        due(x.act(Check.MASK, 2), -2);
        due(x.told(2), 2999);
        due(x.step(501), -2);
        due(x.step(0), -2);
        due(x.step(2), -4);
        due(x.step(1), 1);
        due(x.step(1), -4);
    }

    @Says("-2 outside its bounds; -3 as told")
    static void boundsBeforeAnEmptyBox() {
        Counted x = busy().play();
        due(x.box(1, 5), -2);
        due(x.box(1, -1), -2);
        due(x.box(1, 0), -3);
    }

    @Says("-1 (first, also no RUN).")
    static void noSuchThreadBeforeTheException() {
        Counted x = programsAlone().play();
        due(x.share(0), -1);
        x.begin(0, 1, 0);
        due(x.share(1), -1);
        due(x.share(-1), -1);
        due(x.share(24), -1);
        for (int far : FAR) {
            due(x.share(far), -1);
        }
        Check.dueThrow("share(0)", x, 0);
    }
}
