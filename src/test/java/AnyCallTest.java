import java.util.Random;

/** Calls with any arguments in any state: each ends, none throws but share, and that only before the first turn. */
public final class AnyCallTest {
    private static final int[] EDGES = {
        Integer.MIN_VALUE, Integer.MIN_VALUE + 1, -5, -4, -3, -2, -1, 21, 23, 24, 25, 99, 100, 101, 499, 500, 501, 3000,
        Integer.MAX_VALUE - 1, Integer.MAX_VALUE
    };

    private static int any(Random random) {
        return random.nextInt(5) == 0 ? EDGES[random.nextInt(EDGES.length)] : random.nextInt(21);
    }

    private static void share(Counted x, int t) {
        boolean due = x.told(2) == 0 && x.thread(t, 0) != -1;
        if (due) {
            Check.dueThrow("share(" + t + ")", x, t);
        } else {
            x.share(t);
        }
    }

    private static void call(Random random, Counted x) {
        int a = any(random);
        int b = any(random);
        switch (random.nextInt(13)) {
            case 0:
                x.program();
                break;
            case 1:
                x.begin(a, random.nextInt(12), b);
                break;
            case 2:
                x.fill(a, b);
                break;
            case 3:
                x.step(a);
                break;
            case 4:
                x.told(a);
                break;
            case 5:
                x.thread(a, b);
                break;
            case 6:
                x.queued(a);
                break;
            case 7:
                x.box(a, b);
                break;
            case 8:
                x.trace(a, b);
                break;
            case 9:
                share(x, a);
                break;
            default:
                x.act(a, b);
                break;
        }
    }

    public static void main(String[] args) {
        for (int seed = 0; seed < 4000; seed++) {
            Random random = new Random(seed);
            Counted x = new Counted();
            // One of these calls is up to four of the object.
            while (x.calls() <= Counted.CALLS - 4) {
                call(random, x);
            }
        }
        Check.end();
    }
}
