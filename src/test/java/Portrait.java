/** All that an object's own calls tell of what it holds, in one text; reading it uses the object up. */
final class Portrait {

    private static final int[] NUMBERS = {0, 3, 7, 12, 13, 20, 42, 77, 98, 100, 198, 9999};
    private static final int[] WORDS = {0, 3, 7, 9, 10, 11, 199};

    private final NumeralBabel x;
    private final StringBuilder text = new StringBuilder();

    private Portrait(NumeralBabel x) {
        this.x = x;
    }

    static String of(NumeralBabel x) {
        Portrait portrait = new Portrait(x);
        portrait.sayingAndHeard();
        portrait.examples();
        for (int grammar = 0; grammar < 4; grammar++) {
            portrait.bases(grammar);
        }
        portrait.sayings();
        portrait.grammars();
        portrait.cords();
        return portrait.text.toString();
    }

    private void add(String what, Check.Call call) {
        text.append(what).append(' ').append(Check.outcome(call)).append('\n');
    }

    private void sayingAndHeard() {
        text.append("said ").append(Check.words(x)).append('\n');
        add("fits", () -> x.fits(0, 0, 999));
        add("fits in class 1", () -> x.fits(0, 1, 999));
        add("fit 0", () -> x.fit(0, 0, 999, 0));
        add("fit 1", () -> x.fit(0, 0, 999, 1));
        add("askWord", () -> x.askWord(0, 0, 999));
    }

    private void examples() {
        add("settings", () -> x.settings(0, 0, 12));
        add("settings of the other base", () -> x.settings(0, 1, 14));
        add("askNumber", () -> x.askNumber(0, 0, 12, 99));
        // What was heard shows as a row of its own, as no other example has the number 3.
        add("example", () -> x.example(3));
        add("settings then", () -> x.settings(0, 0, 12));
        add("dropExamples", x::dropExamples);
        add("forget", x::forget);
    }

    private void bases(int grammar) {
        for (int place = 0; place < 6; place++) {
            int at = place;
            if (Check.outcome(() -> x.baseTold(grammar, at, 0)).startsWith("throws")) {
                text.append(place).append(" bases in ").append(grammar).append('\n');
                return;
            }
            for (int what = 0; what < 7; what++) {
                int told = what;
                add("base " + place + " told " + what, () -> x.baseTold(grammar, at, told));
            }
        }
    }

    private void sayings() {
        for (int number : NUMBERS) {
            int length = x.say(0, number, 0);
            text.append(number).append(": ").append(length).append(" words ").append(Check.words(x)).append('\n');
        }
        x.sayOrdinal(0, 42);
        text.append("ordinal ").append(Check.words(x)).append('\n');
        x.sayFraction(0, 1, 3, 1);
        text.append("fraction ").append(Check.words(x)).append('\n');
        for (int word : WORDS) {
            add("numberOf " + word, () -> x.numberOf(0, word));
        }
    }

    private void grammars() {
        for (int word = 0; word < 8; word++) {
            int told = word;
            for (int kind = 0; kind < 4; kind++) {
                int of = kind;
                add("form " + word + " " + kind, () -> x.form(0, told, of, 0));
            }
        }
        for (int number = 0; number < 40; number++) {
            int told = number;
            add("dropAtom " + number, () -> x.dropAtom(0, told));
        }
        add("dropAtom 77", () -> x.dropAtom(0, 77));
        add("dropAtom 9999", () -> x.dropAtom(0, 9999));
        for (int grammar = 0; grammar < 4; grammar++) {
            int g = grammar;
            add("ordinal " + grammar, () -> x.ordinal(g, -1));
            add("seam " + grammar, () -> x.seam(g, 0, 0, 0));
            add("empty " + grammar, () -> x.empty(g));
        }
    }

    private void cords() {
        add("lost", x::lost);
        add("shown", x::shown);
        for (int cord = 0; cord < 6; cord++) {
            int told = cord;
            add("knots " + cord, () -> x.knots(told));
        }
        for (int cord = 0; cord < 6; cord++) {
            int told = cord;
            add("base of cord " + cord, () -> x.cord(told, 10));
        }
    }
}
