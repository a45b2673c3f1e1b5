/** Counts answers that are not as due; a test's main ends with exit code 1 if there was one. */
final class Check {

    interface Call {
        long answer();
    }

    static final Class<IndexOutOfBoundsException> OUT = IndexOutOfBoundsException.class;
    static final Class<IllegalArgumentException> ARGUMENT = IllegalArgumentException.class;
    static final Class<IllegalStateException> STATE = IllegalStateException.class;

    private final String test;
    private String promise = "";
    private int right = 0;
    private int wrong = 0;

    Check(String test) {
        this.test = test;
    }

    void promise(int number) {
        promise = "promise " + number;
    }

    /**
     * The document's own words that the next answers are judged by: of a promise, or with 0 of what stands ahead of
     * the promises. SentencesTest reads these calls, so the words stand in them as they are.
     */
    void sentence(int number, String words) {
        promise = (number == 0 ? "the document" : "promise " + number) + ", '" + words + "'";
    }

    void due(String what, long want, long got) {
        judge(what, Long.toString(want), Long.toString(got));
    }

    void holds(String what, boolean held) {
        judge(what, "true", Boolean.toString(held));
    }

    /** The exception must be exactly of the class, not of one below it. */
    void refused(String what, Class<? extends RuntimeException> want, Call call) {
        judge(what, "throws " + want.getName(), outcome(call));
    }

    static String outcome(Call call) {
        try {
            return Long.toString(call.answer());
        } catch (RuntimeException e) {
            return "throws " + e.getClass().getName();
        }
    }

    void judge(String what, String want, String got) {
        if (want.equals(got)) {
            right++;
            return;
        }
        wrong++;
        if (wrong <= 40) {
            System.out.println(test + ", " + promise + ": " + what + " answered " + got + ", due is " + want);
        }
    }

    /** The words of the latest saying, read until the object says that there are no more. */
    static String words(NumeralBabel x) {
        StringBuilder words = new StringBuilder();
        for (int place = 0; place < 30; place++) {
            try {
                words.append(place == 0 ? "" : " ").append(x.said(place));
            } catch (IndexOutOfBoundsException e) {
                return words.toString().trim();
            }
        }
        return words.toString();
    }

    /** Says a number and judges the length told and the words. */
    void says(NumeralBabel x, int grammar, int number, int group, String want) {
        due("length of say(" + grammar + ", " + number + ", " + group + ")", lengthOf(want), x.say(grammar, number, group));
        judge("words of say(" + grammar + ", " + number + ", " + group + ")", want, words(x));
    }

    void saysOrdinal(NumeralBabel x, int grammar, int number, String want) {
        due("length of sayOrdinal(" + grammar + ", " + number + ")", lengthOf(want), x.sayOrdinal(grammar, number));
        judge("words of sayOrdinal(" + grammar + ", " + number + ")", want, words(x));
    }

    void saysFraction(NumeralBabel x, int grammar, int[] numbers, int group, String want) {
        String call = "sayFraction(" + grammar + ", " + numbers[0] + ", " + numbers[1] + ", " + group + ")";
        due("length of " + call, lengthOf(want), x.sayFraction(grammar, numbers[0], numbers[1], group));
        judge("words of " + call, want, words(x));
    }

    private static int lengthOf(String words) {
        return words.isEmpty() ? 0 : words.split(" ").length;
    }

    /** Atoms 1 to 9 with the words 1 to 9, and the base 10 with the word 10 and the most 9. */
    static void tens(NumeralBabel x, int grammar, int style) {
        for (int number = 1; number <= 9; number++) {
            x.atom(grammar, number, number);
        }
        x.base(grammar, 10, 10, 9, style);
    }

    static void hear(NumeralBabel x, int... words) {
        x.forget();
        for (int word : words) {
            x.hear(word);
        }
    }

    void end() {
        System.out.println(test + ": " + right + " answers as due, " + wrong + " not");
        if (wrong != 0) {
            System.exit(1);
        }
    }
}
