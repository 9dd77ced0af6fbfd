import java.util.ArrayList;
import java.util.List;

/** A run of calls that can be played again on a new object, so that asking much does not use up one object's calls. */
final class Script {
    private static final String[] ACTS = {
        "PUT", "TAKE", "READ", "SET", "ADD", "FORK", "YIELD", "DELAY", "JUMP", "ZERO", "LOG", "RAISE", "THROW", "CATCH",
        "LEAVE", "MASK", "MINE"
    };

    private final List<int[]> calls = new ArrayList<>();

    /** Programs written as texts: "FORK 1, YIELD, JUMP 1". */
    static Script of(String... programs) {
        Script script = new Script();
        for (String program : programs) {
            script.program(program);
        }
        return script;
    }

    static Counted object(String... programs) {
        return of(programs).play();
    }

    static int kindOf(String name) {
        for (int kind = 0; kind < ACTS.length; kind++) {
            if (ACTS[kind].equals(name)) {
                return kind;
            }
        }
        throw new IllegalStateException("there is no act " + name);
    }

    private void program(String acts) {
        add(Counted.PROGRAM);
        for (String act : acts.split(",")) {
            String[] words = act.trim().split(" ");
            if (!words[0].isEmpty()) {
                add(Counted.ACT, kindOf(words[0]), words.length > 1 ? Integer.parseInt(words[1]) : 0);
            }
        }
    }

    Script add(int... call) {
        calls.add(call);
        return this;
    }

    Script begin(int program, int quantum, int register) {
        return add(Counted.BEGIN, program, quantum, register);
    }

    Script fill(int box, int v) {
        return add(Counted.FILL, box, v);
    }

    Script step(int n) {
        return add(Counted.STEP, n);
    }

    /** Another script: this one with a call more. */
    Script with(int... call) {
        Script longer = new Script();
        longer.calls.addAll(calls);
        return longer.add(call);
    }

    Counted play() {
        Counted x = new Counted();
        for (int[] call : calls) {
            x.answer(call);
        }
        return x;
    }

    /** All that can be asked of the object behind these calls. */
    List<Long> state() {
        List<Long> answers = new ArrayList<>();
        Counted x = play();
        for (int what = 0; what < 6; what++) {
            answers.add(x.answer(Counted.TOLD, what));
        }
        for (int i = 0; i <= 24; i++) {
            answers.add(x.answer(Counted.QUEUED, i));
            answers.add(x.answer(Counted.SHARE, i));
        }
        for (int b = 0; b < 8; b++) {
            for (int what = 0; what < 5; what++) {
                answers.add(x.answer(Counted.BOX, b, what));
            }
        }
        x = play();
        for (int t = 0; t < 24; t++) {
            for (int what = 0; what < 10; what++) {
                answers.add(x.answer(Counted.THREAD, t, what));
            }
        }
        x = play();
        answers.add(x.answer(Counted.TRACE, -1, 0));
        for (int i = 0; i < 100; i++) {
            answers.add(x.answer(Counted.TRACE, i, 0));
            answers.add(x.answer(Counted.TRACE, i, 1));
        }
        answers.add(x.answer(Counted.ACT, Check.YIELD, 0));
        answers.add(x.answer(Counted.PROGRAM));
        return answers;
    }
}
