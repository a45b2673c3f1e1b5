import java.util.Arrays;

/**
 * Every call with every argument just inside and just outside of its range, alone and together with the others: the
 * exception that is due, and that the refused call changes nothing.
 */
public final class RefusalsTest {

    private static final Check CHECK = new Check("RefusalsTest");

    // Scenes: objects that are made by the same calls each time.
    private static final int ORDINARY = 0;
    private static final int FULL = 1;
    private static final int NOTHING_HEARD = 2;
    private static final int ONE_NOT_HEARD = 3;
    private static final int TWENTY_EXAMPLES = 4;

    private static final long[] FAR = {Integer.MIN_VALUE, Integer.MIN_VALUE + 1, Integer.MAX_VALUE - 1, Integer.MAX_VALUE};

    /** A range of an argument, the exception outside of it, and a value that is refused for nothing. */
    private record Arg(long lowest, long highest, Class<? extends RuntimeException> due, long good) {
    }

    private static final Arg GRAMMAR = new Arg(0, 3, Check.OUT, 0);
    private static final Arg NUMBER = new Arg(0, 9999, Check.ARGUMENT, 77);
    private static final Arg OTHER = new Arg(1, 9999, Check.ARGUMENT, 77);
    private static final Arg ANY = new Arg(Integer.MIN_VALUE, Integer.MAX_VALUE, null, 77);
    private static final Arg WORD = new Arg(0, 199, Check.OUT, 9);
    private static final Arg WORD_OR_NONE = new Arg(-1, 199, Check.OUT, 9);
    private static final Arg BASE = new Arg(2, 5000, Check.ARGUMENT, 60);
    private static final Arg MOST = new Arg(1, 99, Check.ARGUMENT, 9);
    private static final Arg STYLE = new Arg(0, 15, Check.ARGUMENT, 3);
    private static final Arg LESS = new Arg(0, 9, Check.ARGUMENT, 1);
    private static final Arg KIND = new Arg(0, 3, Check.ARGUMENT, 2);
    private static final Arg GROUP = new Arg(0, 2, Check.OUT, 0);
    private static final Arg BOUND = new Arg(0, 999, Check.ARGUMENT, 99);
    private static final Arg FIT_PLACE = new Arg(0, Integer.MAX_VALUE, Check.ARGUMENT, 0);
    private static final Arg NEAR_BOUND = new Arg(0, 99, Check.ARGUMENT, 30);
    private static final Arg WHAT = new Arg(0, 6, Check.ARGUMENT, 0);
    private static final Arg CORD = new Arg(0, 5, Check.OUT, 0);
    private static final Arg CORD_BASE = new Arg(2, 60, Check.ARGUMENT, 12);
    // How far these go is told by the scene.
    private static final Arg PLACE = new Arg(0, -1, Check.OUT, 0);
    private static final Arg SAID_PLACE = new Arg(0, -1, Check.OUT, 0);

    /** The arguments of each call, in the order of the face. */
    private static final Arg[][] CALLS = {
        {GRAMMAR, NUMBER, WORD}, {GRAMMAR, ANY}, {GRAMMAR, BASE, WORD, MOST, STYLE}, {GRAMMAR, PLACE, WORD_OR_NONE},
        {GRAMMAR, PLACE, LESS, WORD}, {GRAMMAR, WORD, KIND, WORD}, {GRAMMAR, WORD_OR_NONE},
        {GRAMMAR, WORD, WORD, WORD}, {GRAMMAR}, {GRAMMAR, NUMBER, GROUP}, {GRAMMAR, NUMBER},
        {GRAMMAR, NUMBER, OTHER, GROUP}, {SAID_PLACE}, {WORD_OR_NONE}, {}, {}, {GRAMMAR, GROUP, BOUND},
        {GRAMMAR, GROUP, BOUND, FIT_PLACE}, {GRAMMAR, GROUP, BOUND}, {GRAMMAR, BOUND}, {GRAMMAR, GROUP, BOUND},
        {NUMBER}, {}, {GRAMMAR, PLACE, WORD}, {GRAMMAR, PLACE, WORD}, {GRAMMAR, PLACE, WORD, NEAR_BOUND},
        {GRAMMAR, PLACE, WHAT}, {GRAMMAR, WORD}, {CORD, CORD_BASE}, {}, {CORD}, {}, {},
    };

    /** Those that a full object refuses even when all arguments are right: atom, base, form, seam, hear, example, learn. */
    private static final int[] REFUSED_WHEN_FULL = {0, 2, 5, 7, 13, 21, 24};

    private static final String[] PORTRAITS = new String[5];

    public static void main(String[] args) {
        for (int scene = 0; scene < PORTRAITS.length; scene++) {
            PORTRAITS[scene] = Portrait.of(made(scene));
            CHECK.judge("the same scene " + scene, PORTRAITS[scene], Portrait.of(made(scene)));
        }
        for (int which = 0; which < CALLS.length; which++) {
            CHECK.promise(which + 2);
            justInside(which);
            farOutside(which);
            everyMixture(which, ORDINARY);
            everyMixture(which, FULL);
        }
        refusedForTheState();
        portraitsShowChanges();
        portraitsShowNoReading();
        CHECK.end();
    }

    private static Arg[] arguments(int which, int scene) {
        Arg[] told = CALLS[which].clone();
        for (int i = 0; i < told.length; i++) {
            if (told[i] == PLACE) {
                told[i] = new Arg(0, scene == FULL ? 4 : 1, Check.OUT, 0);
            } else if (told[i] == SAID_PLACE) {
                told[i] = new Arg(0, scene == FULL ? 0 : 2, Check.OUT, 0);
            }
        }
        return told;
    }

    private static long[] goodRow(Arg[] told) {
        long[] row = new long[5];
        for (int i = 0; i < told.length; i++) {
            row[i] = told[i].good;
        }
        return row;
    }

    private static boolean isRefusedWhenFull(int which) {
        return Arrays.stream(REFUSED_WHEN_FULL).anyMatch(other -> other == which);
    }

    /** All others being right, the lowest and the highest value are taken. */
    private static void justInside(int which) {
        Arg[] told = arguments(which, ORDINARY);
        for (int i = 0; i < told.length; i++) {
            // Only the grammar 0 has bases, so a call for a place of one takes no other grammar.
            boolean fixed = told[i] == GRAMMAR && CALLS[which].length > 1 && CALLS[which][1] == PLACE;
            long[] values = fixed ? new long[] {0} : new long[] {told[i].lowest, told[i].highest};
            for (long value : values) {
                long[] row = goodRow(told);
                row[i] = value;
                String outcome = Check.outcome(() -> Calls.call(made(ORDINARY), which, row));
                CHECK.holds(described(which, row) + " is taken, not " + outcome, !outcome.startsWith("throws"));
            }
        }
    }

    private static void farOutside(int which) {
        Arg[] told = arguments(which, ORDINARY);
        for (int i = 0; i < told.length; i++) {
            for (long value : FAR) {
                if (value < told[i].lowest || value > told[i].highest) {
                    long[] row = goodRow(told);
                    row[i] = value;
                    refused(ORDINARY, which, row, told[i].due);
                }
            }
        }
    }

    /** Each argument right, one below its range or one above it, in every mixture. */
    private static void everyMixture(int which, int scene) {
        Arg[] told = arguments(which, scene);
        int mixtures = 1;
        for (int i = 0; i < told.length; i++) {
            mixtures *= 3;
        }
        for (int mixture = 0; mixture < mixtures; mixture++) {
            long[] row = goodRow(told);
            Class<? extends RuntimeException> due = scene == FULL && isRefusedWhenFull(which) ? Check.STATE : null;
            int rest = mixture;
            boolean real = true;
            for (int i = 0; i < told.length; i++) {
                if (rest % 3 != 0) {
                    row[i] = rest % 3 == 1 ? told[i].lowest - 1 : told[i].highest + 1;
                    due = first(due, told[i].due);
                    // No int lies beyond the ends of these ranges.
                    real = real && row[i] >= Integer.MIN_VALUE && row[i] <= Integer.MAX_VALUE;
                }
                rest /= 3;
            }
            if (real && due != null) {
                refused(scene, which, row, due);
            }
        }
    }

    /** In every throws clause these stand in this order. */
    private static Class<? extends RuntimeException> first(Class<? extends RuntimeException> one,
            Class<? extends RuntimeException> other) {
        if (one == Check.OUT || other == Check.OUT) {
            return Check.OUT;
        }
        return one == Check.ARGUMENT || other == Check.ARGUMENT ? Check.ARGUMENT : Check.STATE;
    }

    private static String described(int which, long[] row) {
        return Calls.NAMES[which] + Arrays.toString(Arrays.copyOf(row, CALLS[which].length));
    }

    private static void refused(int scene, int which, long[] row, Class<? extends RuntimeException> due) {
        NumeralBabel x = made(scene);
        CHECK.refused(described(which, row) + " in scene " + scene, due, () -> Calls.call(x, which, row));
        boolean same = Portrait.of(x).equals(PORTRAITS[scene]);
        CHECK.holds(described(which, row) + " in scene " + scene + " changes nothing", same);
    }

    private static long[] row(long... told) {
        return Arrays.copyOf(told, 5);
    }

    /** One cause at a time. */
    private static void refusedForTheState() {
        CHECK.promise(4);
        refused(ORDINARY, 2, row(0, 10, 5, 9, 0), Check.STATE);
        refused(ORDINARY, 2, row(0, 100, 5, 9, 0), Check.STATE);
        refused(FULL, 2, row(0, 10, 5, 9, 0), Check.STATE);
        CHECK.promise(23);
        refused(NOTHING_HEARD, 21, row(42), Check.STATE);
        refused(ONE_NOT_HEARD, 21, row(42), Check.STATE);
        refused(TWENTY_EXAMPLES, 21, row(42), Check.STATE);
        for (int scene : new int[] {NOTHING_HEARD, ONE_NOT_HEARD, TWENTY_EXAMPLES}) {
            refused(scene, 21, row(-1), Check.ARGUMENT);
            refused(scene, 21, row(10000), Check.ARGUMENT);
        }
        CHECK.promise(26);
        // No word of its grammar is 180, as the examples say.
        refused(FULL, 24, row(0, 0, 13), Check.STATE);
        CHECK.promise(14);
        refused(NOTHING_HEARD, 12, row(3), Check.OUT);
    }

    /** Were a portrait blind, no change would be seen: it shows what each call that is taken changes. */
    private static void portraitsShowChanges() {
        long[][] changes = {
            {0, 0, 77, 9}, {0, 0, 3, 30}, {0, 3, 77, 9}, {1, 0, 3}, {2, 0, 60, 20, 9, 3}, {2, 1, 60, 20, 9, 3},
            {3, 0, 0, -1}, {3, 0, 1, 9}, {4, 0, 0, 3, 14}, {4, 0, 0, 2, 15}, {5, 0, 3, 1, 60}, {5, 0, 7, 2, 60},
            {6, 0, -1}, {6, 2, 7}, {7, 0, 2, 3, 4}, {7, 3, 2, 3, 4}, {8, 0}, {9, 0, 42, 0}, {9, 0, 0, 0}, {10, 0, 42},
            {11, 0, 1, 3, 1}, {13, 9}, {13, -1}, {14}, {15}, {21, 42}, {21, 7}, {22}, {24, 0, 1, 14}, {28, 0, 12},
            {28, 5, 60}, {29, 1}, {29, -1}, {29, 1000000},
        };
        for (long[] change : changes) {
            int which = (int) change[0];
            CHECK.promise(which + 2);
            long[] row = row(Arrays.copyOfRange(change, 1, change.length));
            NumeralBabel x = made(ORDINARY);
            Calls.call(x, which, row);
            CHECK.holds(described(which, row) + " changes something", !Portrait.of(x).equals(PORTRAITS[ORDINARY]));
        }
    }

    /** Calls that only tell something change nothing either. */
    private static void portraitsShowNoReading() {
        int[] reading = {12, 16, 17, 18, 19, 20, 23, 25, 26, 27, 30, 31, 32};
        for (int which : reading) {
            CHECK.promise(which + 2);
            long[] row = goodRow(arguments(which, ORDINARY));
            NumeralBabel x = made(ORDINARY);
            Calls.call(x, which, row);
            CHECK.judge(described(which, row) + " only tells", PORTRAITS[ORDINARY], Portrait.of(x));
        }
    }

    // ---- scenes

    private static NumeralBabel made(int scene) {
        if (scene == FULL) {
            return full();
        }
        NumeralBabel x = ordinary();
        if (scene == NOTHING_HEARD) {
            x.forget();
        } else if (scene == ONE_NOT_HEARD) {
            x.hear(-1);
        } else if (scene == TWENTY_EXAMPLES) {
            for (int i = 1; i < 20; i++) {
                x.example(42);
            }
        }
        return x;
    }

    private static NumeralBabel ordinary() {
        NumeralBabel x = new NumeralBabel();
        Check.tens(x, 0, 0);
        x.base(0, 100, 11, 9, 1);
        x.joint(0, 0, 12);
        x.less(0, 0, 2, 14);
        x.form(0, 3, 1, 33);
        x.form(0, 3, 3, 34);
        x.ordinal(0, 40);
        x.seam(0, 10, 12, 50);
        x.atom(1, 5, 5);
        x.cord(2, 60);
        x.count(123456789);
        // It is said alike with every joint, so that some setting fits whatever joint is told.
        x.say(0, 40, 0);
        x.hearSaid();
        x.example(40);
        x.forget();
        x.hear(4);
        x.hear(50);
        x.hear(6);
        x.say(0, 57, 0);
        return x;
    }

    private static NumeralBabel full() {
        NumeralBabel x = new NumeralBabel();
        for (int number = 0; number < 40; number++) {
            x.atom(0, number, number);
        }
        for (int place = 0; place < 5; place++) {
            x.base(0, 10 * (place + 4), 100 + place, 99, place);
        }
        for (int i = 0; i < 30; i++) {
            x.form(0, i / 4, i % 4, 150 + i);
        }
        for (int i = 0; i < 6; i++) {
            x.seam(0, i, 100, 110 + i);
        }
        x.ordinal(0, 40);
        x.hear(180);
        for (int i = 0; i < 20; i++) {
            x.example(42 + i);
        }
        for (int i = 1; i < 20; i++) {
            x.hear(i);
        }
        x.count(-123456789);
        x.say(0, 40, 0);
        return x;
    }
}
