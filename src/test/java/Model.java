import java.util.ArrayDeque;
import java.util.ArrayList;
import java.util.Comparator;
import java.util.List;

/**
 * The document told a second time, with lists for whatever waits in an order, so that the class has something to be
 * compared with. It takes only calls that the document does not refuse.
 */
final class Model {
    static final class Strand {
        final int number;
        final int program;
        int state = 0;
        int act = 0;
        int register;
        final ArrayDeque<Integer> handlers = new ArrayDeque<>();
        final ArrayDeque<Integer> pending = new ArrayDeque<>();
        boolean masked = false;
        int endedBy = 0;
        int turns = 0;
        int until = -3;
        List<Strand> waitingList = null;

        Strand(int number, int program, int register) {
            this.number = number;
            this.program = program;
            this.register = register;
        }
    }

    static final class Place {
        Integer value = null;
        final List<List<Strand>> waiting = List.of(new ArrayList<>(), new ArrayList<>(), new ArrayList<>());
    }

    final List<List<int[]>> programs = new ArrayList<>();
    List<Strand> strands = null;
    List<Strand> queue;
    List<Place> places;
    List<int[]> trace;
    int quantum;
    int clock;
    int turns;
    int tens;

    boolean over() {
        return strands.get(0).state >= 5;
    }

    void begin(int program, int newQuantum, int register) {
        strands = new ArrayList<>();
        queue = new ArrayList<>();
        trace = new ArrayList<>();
        places = new ArrayList<>();
        for (int b = 0; b < 8; b++) {
            places.add(new Place());
        }
        quantum = newQuantum;
        clock = 0;
        turns = 0;
        tens = 0;
        fork(program, register);
    }

    private int fork(int program, int register) {
        if (strands.size() == 24 || program >= programs.size()) {
            return -1;
        }
        Strand born = new Strand(strands.size(), program, register);
        strands.add(born);
        queue.add(born);
        return born.number;
    }

    /** The states of waiting are those behind the kinds of the acts: PUT 0 and 1, TAKE 1 and 2, READ 2 and 3. */
    void valueComes(Place place, int v) {
        while (!place.waiting.get(2).isEmpty()) {
            Strand reader = place.waiting.get(2).get(0);
            reader.register = v;
            served(reader);
        }
        if (place.waiting.get(1).isEmpty()) {
            place.value = v;
        } else {
            Strand taker = place.waiting.get(1).get(0);
            taker.register = v;
            served(taker);
        }
    }

    private void served(Strand strand) {
        stopsWaiting(strand);
        strand.act++;
        strand.state = 0;
        queue.add(strand);
    }

    private void stopsWaiting(Strand strand) {
        if (strand.waitingList != null) {
            strand.waitingList.remove(strand);
            strand.waitingList = null;
        }
        strand.until = -3;
    }

    private void exception(Strand strand, int n) {
        boolean paused = strand.state >= 1 && strand.state <= 4;
        stopsWaiting(strand);
        if (strand.handlers.isEmpty()) {
            ends(strand, 6, n);
            return;
        }
        strand.act = strand.handlers.pop();
        strand.register = n;
        strand.state = 0;
        if (paused) {
            queue.add(strand);
        }
    }

    private void ends(Strand strand, int state, int n) {
        strand.state = state;
        strand.endedBy = n;
        queue.remove(strand);
        if (strand.number == 0) {
            for (Strand other : strands) {
                if (other.state < 5) {
                    stopsWaiting(other);
                    other.state = 7;
                }
            }
            queue.clear();
        }
    }

    int step(int n) {
        int done = 0;
        while (done < n && !over() && turn()) {
            done++;
        }
        return done;
    }

    private void wake() {
        List<Strand> due = new ArrayList<>();
        for (Strand strand : strands) {
            if (strand.state == 4 && strand.until <= clock) {
                due.add(strand);
            }
        }
        due.sort(Comparator.<Strand>comparingInt(s -> s.until).thenComparingInt(s -> s.number));
        for (Strand strand : due) {
            strand.state = 0;
            strand.until = -3;
            queue.add(strand);
        }
    }

    private boolean turn() {
        wake();
        if (queue.isEmpty()) {
            int least = strands.stream().filter(s -> s.state == 4).mapToInt(s -> s.until).min().orElse(-1);
            if (least >= 0) {
                clock = least;
                wake();
            } else {
                for (Strand strand : strands) {
                    if (strand.state >= 1 && strand.state <= 3) {
                        tens++;
                        exception(strand, 10);
                    }
                }
            }
        }
        if (over()) {
            return false;
        }
        Strand running = queue.get(0);
        running.turns++;
        int left = quantum;
        while (left > 0 && running.state == 0) {
            left--;
            List<int[]> acts = programs.get(running.program);
            if (running.act >= acts.size()) {
                ends(running, 5, 0);
            } else if (does(running, acts.get(running.act)[0], acts.get(running.act)[1])) {
                left = 0;
            }
        }
        queue.remove(running);
        if (running.state == 0) {
            queue.add(running);
        }
        clock++;
        turns++;
        return true;
    }

    private boolean pendingComes(Strand me) {
        if (me.pending.isEmpty()) {
            return false;
        }
        exception(me, me.pending.removeFirst());
        return true;
    }

    private void wait(Strand me, Place place, int kind) {
        if (!pendingComes(me)) {
            me.state = kind + 1;
            me.waitingList = place.waiting.get(kind);
            me.waitingList.add(me);
        }
    }

    private void atPlace(Strand me, Place place, int kind) {
        if ((kind == 0) == (place.value != null)) {
            wait(me, place, kind);
            return;
        }
        me.act++;
        if (kind == 0) {
            valueComes(place, me.register);
            return;
        }
        me.register = place.value;
        if (kind == 1) {
            place.value = null;
            if (!place.waiting.get(0).isEmpty()) {
                Strand putter = place.waiting.get(0).get(0);
                served(putter);
                valueComes(place, putter.register);
            }
        }
    }

    private void throwTo(Strand me, int n) {
        if (me.register < 0 || me.register >= strands.size()) {
            return;
        }
        Strand target = strands.get(me.register);
        if (target.state >= 5) {
            return;
        }
        if (target == me || !target.masked || target.state != 0) {
            exception(target, n);
        } else if (target.pending.size() < 4) {
            target.pending.addLast(n);
        }
    }

    /** Answers whether it yields. */
    private boolean does(Strand me, int kind, int a) {
        if (kind <= 2) {
            atPlace(me, places.get(a), kind);
            return false;
        }
        me.act++;
        if (kind == 3) {
            me.register = a;
        } else if (kind == 4) {
            me.register += a;
        } else if (kind == 5) {
            me.register = fork(a, me.register);
        } else if (kind == 7) {
            if (!pendingComes(me)) {
                me.state = 4;
                me.until = clock + a;
            }
        } else if (kind == 8 || kind == 9 && me.register == 0) {
            me.act = a;
        } else if (kind == 10 && trace.size() < 100) {
            trace.add(new int[] {me.number, me.register});
        } else if (kind == 11) {
            exception(me, a);
        } else if (kind == 12) {
            throwTo(me, a);
        } else if (kind == 13 && me.handlers.size() < 4) {
            me.handlers.push(a);
        } else if (kind == 14) {
            me.handlers.poll();
        } else if (kind == 15) {
            me.masked = a == 1;
            while (!me.masked && me.state == 0 && pendingComes(me)) {
                continue;
            }
        } else if (kind == 16) {
            me.register = me.number;
        }
        return kind == 6;
    }
}
