import java.util.ArrayDeque;
import java.util.Arrays;
import java.util.Deque;

/** Long runs of calls, right and wrong ones, each answered by the class as by the reference. */
public final class ReferenceTest {

    private static final Check CHECK = new Check("ReferenceTest");
    private static final int RUNS = 400;
    private static final int CALLS = 512;
    private static final int[] FEW_BASES = {2, 3, 4, 5, 6, 8, 9, 10, 12, 20, 60, 64, 100, 999, 1000, 5000};

    private long seed;
    private final Deque<long[]> scene = new ArrayDeque<>();

    private ReferenceTest(long seed) {
        this.seed = seed * 2862933555777941757L + 3037000493L;
    }

    public static void main(String[] args) {
        int runs = args.length > 0 ? Integer.parseInt(args[0]) : RUNS;
        for (int run = 0; run < runs; run++) {
            new ReferenceTest(run).compare(run);
        }
        CHECK.end();
    }

    private int below(int bound) {
        seed = seed * 6364136223846793005L + 1442695040888963407L;
        return (int) ((seed >>> 33) % bound);
    }

    private int pick(int... from) {
        return from[below(from.length)];
    }

    private void compare(int run) {
        NumeralBabel x = new NumeralBabel();
        Reference reference = new Reference();
        // Few words make seams, forms and clashes meet; few grammars make them full.
        int words = pick(2, 4, 8, 14, 200);
        int told = run % 5 == 0 ? 0 : 20 + below(100);
        if (run % 2 == 0) {
            grammarScene(words);
        }
        for (int i = 0; i < CALLS; i++) {
            if (scene.isEmpty()) {
                setScene(i < told, words);
            }
            long[] a = scene.remove();
            int which = (int) a[5];
            String want = Check.outcome(() -> reference.call(which, a));
            String got = Check.outcome(() -> Calls.call(x, which, a));
            if (!want.equals(got)) {
                CHECK.judge("run " + run + ", call " + i + " " + Calls.NAMES[which] + Arrays.toString(a), want, got);
                return;
            }
            CHECK.judge(Calls.NAMES[which], want, got);
        }
    }

    private void setScene(boolean telling, int words) {
        int kind = below(8);
        if (telling) {
            int which = pick(0, 0, 0, 2, 3, 4, 5, 6, 7);
            long[] a = arguments(which, words);
            if (which == 0 && below(2) == 0) {
                a[1] = below(12);
            }
            play(which, a);
        } else if (kind == 0) {
            hearScene(words);
        } else if (kind == 1) {
            learnScene(words);
        } else {
            int which = below(Calls.NAMES.length);
            boolean spared = which == 8 && below(8) != 0;
            play(spared ? 9 : which, arguments(spared ? 9 : which, words));
        }
    }

    /** A language that names most numbers. */
    private void grammarScene(int words) {
        int base = pick(2, 3, 5, 10, 12, 20);
        for (int number = below(2); number < base; number++) {
            play(0, row(0, number, below(3) == 0 ? below(words) : number));
        }
        play(2, row(0, base, 20, 99, below(16)));
        if (below(2) == 0) {
            play(2, row(0, base * base, 21, pick(9, 99), below(16)));
            play(3, row(0, 1, below(words)));
        }
        if (below(2) == 0) {
            play(3, row(0, 0, 22));
            play(4, row(0, 0, below(10), 23));
        }
    }

    private void play(int which, long[] a) {
        long[] call = Arrays.copyOf(a, 6);
        call[5] = which;
        scene.add(call);
    }

    /** Some words heard and some not, and all that is asked of them. */
    private void hearScene(int words) {
        play(15, row());
        int length = 1 + below(below(7) + 1);
        for (int i = 0; i < length; i++) {
            play(13, row(below(3) != 0 ? -1 : below(words)));
        }
        int group = below(3);
        play(16, row(0, group, 999));
        play(17, row(0, group, 999, below(12)));
        play(18, row(0, group, pick(99, 300, 999)));
    }

    /** An example that the grammar itself says, seldom a wrong one, and all that is learnt of it. */
    private void learnScene(int words) {
        long number = below(3) == 0 ? below(9999) : below(130);
        play(9, row(0, number, 0));
        play(14, row());
        play(21, row(below(12) == 0 ? below(100) : number));
        int place = below(3);
        int joint = below(words);
        play(23, row(0, place, joint));
        play(25, row(0, place, joint, 99));
        if (below(3) == 0) {
            play(24, row(0, place, joint));
        }
        if (below(4) == 0) {
            play(22, row());
        }
    }

    private int grammar() {
        return below(40) == 0 ? pick(-1, 4, Integer.MIN_VALUE, Integer.MAX_VALUE) : below(8) == 0 ? below(4) : 0;
    }

    private int group() {
        return below(30) == 0 ? pick(-1, 3, Integer.MAX_VALUE) : below(3);
    }

    private int word(int words) {
        return below(30) == 0 ? pick(-1, 199, 200, Integer.MIN_VALUE) : below(words);
    }

    private int wordOrNone(int words) {
        return below(6) == 0 ? pick(-1, -1, -1, -2) : word(words);
    }

    private int number() {
        return below(30) == 0 ? pick(-1, 10000, Integer.MIN_VALUE)
                : below(4) == 0 ? below(10000) : below(3) == 0 ? below(1000) : below(130);
    }

    private int place() {
        return below(20) == 0 ? pick(-1, 5, Integer.MAX_VALUE) : below(below(3) + 1);
    }

    private int bound() {
        return below(20) == 0 ? pick(-1, 1000, Integer.MAX_VALUE) : below(4) == 0 ? pick(0, 1, 999) : below(300);
    }

    private long[] arguments(int which, int words) {
        long g = grammar();
        switch (which) {
            case 0: return row(g, number(), word(words));
            case 1: case 10: return row(g, number());
            case 2: return row(g, below(20) == 0 ? pick(0, 1, 5001) : below(3) == 0 ? 2 + below(4999) : pick(FEW_BASES),
                    word(words), below(20) == 0 ? pick(0, 1, 100) : pick(1, 3, 9, 19, 50, 99),
                    below(20) == 0 ? pick(-1, 16) : below(16));
            case 3: return row(g, place(), wordOrNone(words));
            case 4: return row(g, place(), below(15) == 0 ? pick(-1, 10) : below(10), word(words));
            case 5: return row(g, word(words), below(20) == 0 ? pick(-1, 4) : below(4), word(words));
            case 6: return row(g, wordOrNone(words));
            case 7: return row(g, word(words), word(words), word(words));
            case 8: return row(g);
            case 9: return row(g, number(), group());
            case 11: return row(g, number(), below(20) == 0 ? 0 : number(), group());
            case 12: return row(below(10) == 0 ? pick(-1, 19, 20, Integer.MIN_VALUE) : below(6));
            case 13: return row(below(2) == 0 ? -1 : wordOrNone(words));
            case 16: case 18: case 20: return row(g, group(), bound());
            case 17: return row(g, group(), bound(), below(15) == 0 ? -1 : below(20));
            case 19: return row(g, bound());
            case 21: return row(number());
            case 23: case 24: return row(g, place(), word(words));
            case 25: return row(g, place(), word(words), below(15) == 0 ? pick(-1, 100) : below(100));
            case 26: return row(g, place(), below(15) == 0 ? pick(-1, 7) : below(7));
            case 27: return row(g, word(words));
            case 28: return row(below(15) == 0 ? pick(-1, 6) : below(6), below(10) == 0 ? pick(1, 61) : 2 + below(59));
            case 29: return row(count());
            case 30: return row(below(15) == 0 ? pick(-1, 6) : below(6));
            default: return row();
        }
    }

    private long count() {
        long far = (long) below(1 << 30) << 33 | below(1 << 30);
        return below(4) == 0 ? (below(2) == 0 ? Long.MAX_VALUE : Long.MIN_VALUE) : below(2) == 0 ? far : below(4000) - 2000;
    }

    private static long[] row(long... told) {
        return Arrays.copyOf(told, 5);
    }
}
