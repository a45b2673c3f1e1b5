/** The edges that the promises 15 to 22 name, sentence by sentence. */
public final class EdgesOfHearingTest {

    private static final Check CHECK = new Check("EdgesOfHearingTest");

    public static void main(String[] args) {
        hear();
        hearSaid();
        forget();
        fits();
        fit();
        fitRefused();
        askWord();
        askWordNothing();
        askWordRefused();
        gap();
        clash();
        clashRefused();
        CHECK.end();
    }

    private static NumeralBabel tens() {
        NumeralBabel x = new NumeralBabel();
        Check.tens(x, 0, 0);
        return x;
    }

    // ---- promises 15 to 17

    private static void hear() {
        CHECK.sentence(15, "A word is heard.");
        NumeralBabel x = tens();
        x.hear(4);
        x.hear(10);
        CHECK.due("behind the others", 40, x.fit(0, 0, 99, 0));
        CHECK.sentence(15, "- `word`: a word; -1 for one that was not heard");
        NumeralBabel y = new NumeralBabel();
        y.atom(0, 1, 0);
        y.atom(0, 2, 199);
        y.atom(0, 3, 7);
        y.hear(0);
        CHECK.due("the word 0 is a word", 1, y.fits(0, 0, 9));
        CHECK.due("its number", 1, y.fit(0, 0, 9, 0));
        Check.hear(y, 199);
        CHECK.due("the word 199", 2, y.fit(0, 0, 9, 0));
        Check.hear(y, -1);
        CHECK.due("not heard", 3, y.fits(0, 0, 9));
        CHECK.sentence(15, "Returns how many there are then.");
        y.forget();
        for (int i = 1; i <= 20; i++) {
            CHECK.due("words", i, y.hear(i % 3 - 1));
        }
        CHECK.sentence(15, "Throws `IndexOutOfBoundsException` as told");
        NumeralBabel z = tens();
        CHECK.refused("word -2", Check.OUT, () -> z.hear(-2));
        CHECK.refused("word 200", Check.OUT, () -> z.hear(200));
        CHECK.refused("word 200 ahead of the 21st", Check.OUT, () -> y.hear(200));
        CHECK.refused("word -2 ahead of the 21st", Check.OUT, () -> y.hear(-2));
        CHECK.due("nothing was heard", 0, z.forget());
        CHECK.sentence(15, "Throws `IllegalStateException` if there are 20");
        CHECK.refused("the 21st", Check.STATE, () -> y.hear(0));
        CHECK.refused("the 21st, not heard", Check.STATE, () -> y.hear(-1));
        CHECK.due("20 are there", 20, y.forget());
        CHECK.due("there is room again", 1, y.hear(0));
    }

    private static void hearSaid() {
        CHECK.sentence(16, "What was heard is the latest saying; returns how many words that has.");
        NumeralBabel x = tens();
        CHECK.due("none of a new object", 0, x.hearSaid());
        x.hear(9);
        CHECK.due("none in place of a word", 0, x.hearSaid());
        CHECK.due("nothing is heard then", 0, x.forget());
        x.hear(-1);
        x.hear(-1);
        x.say(0, 42, 0);
        CHECK.due("three in place of two", 3, x.hearSaid());
        CHECK.due("just these", 42, x.fit(0, 0, 999, 0));
        CHECK.due("and no other", 1, x.fits(0, 0, 999));
        x.say(0, 7, 0);
        CHECK.due("what was heard stays as it was said", 42, x.fit(0, 0, 999, 0));
        CHECK.due("one in place of three", 1, x.hearSaid());
        CHECK.due("just that", 7, x.fit(0, 0, 999, 0));
        CHECK.due("one more behind", 2, x.hear(10));
        CHECK.due("70", 70, x.fit(0, 0, 999, 0));
        CHECK.judge("the saying stays", "7", Check.words(x));
        x.say(0, 100, 0);
        CHECK.due("no saying", 0, x.hearSaid());
        x.sayFraction(0, 42, 42, 0);
        CHECK.due("a fraction", 6, x.hearSaid());
        NumeralBabel y = new NumeralBabel();
        y.atom(0, 1, 1);
        y.base(0, 2, 2, 99, 1);
        y.joint(0, 0, 5);
        CHECK.due("twenty", 20, y.say(0, 191, 0));
        CHECK.due("twenty heard", 20, y.hearSaid());
        CHECK.refused("no room", Check.STATE, () -> y.hear(-1));
        CHECK.due("191 fits", 191, y.fit(0, 0, 999, 0));
    }

    private static void forget() {
        CHECK.sentence(17, "Forgets what was heard; returns how many words there were.");
        NumeralBabel x = tens();
        CHECK.due("none", 0, x.forget());
        x.hear(-1);
        CHECK.due("one, though it was not heard", 1, x.forget());
        CHECK.due("none then", 0, x.forget());
        x.hear(7);
        CHECK.due("a new row", 7, x.fit(0, 0, 99, 0));
        for (int i = 1; i < 20; i++) {
            x.hear(0);
        }
        CHECK.due("twenty", 20, x.forget());
        CHECK.due("nothing fits", 0, x.fits(0, 0, 99));
    }

    // ---- promises 18 and 19

    private static void fits() {
        CHECK.sentence(18, "Returns how many numbers fit what was heard.");
        NumeralBabel x = tens();
        CHECK.due("nothing heard", 0, x.fits(0, 0, 999));
        Check.hear(x, -1);
        CHECK.due("1 to 10", 10, x.fits(0, 0, 999));
        CHECK.due("none of an empty grammar", 0, x.fits(1, 0, 999));
        Check.hear(x, 10, -1);
        CHECK.due("11 to 19", 9, x.fits(0, 0, 999));
        x.form(0, 9, 1, 60);
        Check.hear(x, 10, 60);
        CHECK.due("one in the class 1", 1, x.fits(0, 1, 999));
        CHECK.due("none in the class 0", 0, x.fits(0, 0, 999));
        CHECK.due("none in the class 2", 0, x.fits(0, 2, 999));
        CHECK.sentence(18, "- `bound`: 0 to 999: numbers from 0 to this one");
        NumeralBabel y = tens();
        y.atom(0, 0, 50);
        y.atom(0, 999, 51);
        Check.hear(y, -1);
        CHECK.due("0 alone", 1, y.fits(0, 0, 0));
        CHECK.due("0 and 1", 2, y.fits(0, 0, 1));
        CHECK.due("up to 998", 11, y.fits(0, 0, 998));
        CHECK.due("up to 999", 12, y.fits(0, 0, 999));
        CHECK.sentence(18, "Throws `IndexOutOfBoundsException` as told");
        CHECK.refused("grammar -1", Check.OUT, () -> y.fits(-1, 0, 0));
        CHECK.refused("grammar 4", Check.OUT, () -> y.fits(4, 0, 0));
        CHECK.refused("class -1", Check.OUT, () -> y.fits(0, -1, 0));
        CHECK.refused("class 3", Check.OUT, () -> y.fits(0, 3, 0));
        CHECK.refused("class ahead of bound", Check.OUT, () -> y.fits(0, 3, 1000));
        CHECK.sentence(18, "Throws `IllegalArgumentException` if bound is out of range");
        CHECK.refused("bound -1", Check.ARGUMENT, () -> y.fits(0, 0, -1));
        CHECK.refused("bound 1000", Check.ARGUMENT, () -> y.fits(0, 0, 1000));
        CHECK.refused("the greatest int", Check.ARGUMENT, () -> y.fits(0, 0, Integer.MAX_VALUE));
    }

    private static void fit() {
        CHECK.sentence(19, "Returns a number that fits.");
        NumeralBabel x = tens();
        x.atom(0, 0, 50);
        x.atom(0, 999, 51);
        Check.hear(x, -1, -1, 3);
        CHECK.due("43", 43, x.fit(0, 0, 99, 2));
        x.form(0, 3, 2, 60);
        CHECK.due("none in the class 2", -1, x.fit(0, 2, 99, 0));
        Check.hear(x, -1, -1, 60);
        CHECK.due("23 in the class 2", 23, x.fit(0, 2, 99, 0));
        Check.hear(x, -1);
        CHECK.due("999 at the bound 999", 999, x.fit(0, 0, 999, 11));
        CHECK.due("not at the bound 998", -1, x.fit(0, 0, 998, 11));
        CHECK.due("1 at the bound 1", 1, x.fit(0, 0, 1, 1));
        CHECK.due("not at the bound 0", -1, x.fit(0, 0, 0, 1));
        CHECK.sentence(19, "- `place`: 0 for the lowest one");
        CHECK.due("0", 0, x.fit(0, 0, 999, 0));
        CHECK.due("1", 1, x.fit(0, 0, 999, 1));
        CHECK.due("10", 10, x.fit(0, 0, 999, 10));
        CHECK.sentence(19, "Returns the number; -1 if there are not so many.");
        CHECK.due("the last", 999, x.fit(0, 0, 999, 11));
        CHECK.due("one beyond the last", -1, x.fit(0, 0, 999, 12));
        CHECK.due("far beyond", -1, x.fit(0, 0, 999, Integer.MAX_VALUE));
        Check.hear(x, 99);
        CHECK.due("none at all", -1, x.fit(0, 0, 999, 0));
        x.forget();
        CHECK.due("nothing heard", -1, x.fit(0, 0, 999, 0));
    }

    private static void fitRefused() {
        CHECK.sentence(19, "Throws `IndexOutOfBoundsException` as told");
        NumeralBabel x = tens();
        x.hear(-1);
        CHECK.refused("grammar -1", Check.OUT, () -> x.fit(-1, 0, 0, 0));
        CHECK.refused("grammar 4", Check.OUT, () -> x.fit(4, 0, 0, 0));
        CHECK.refused("class -1", Check.OUT, () -> x.fit(0, -1, 0, 0));
        CHECK.refused("class 3", Check.OUT, () -> x.fit(0, 3, 0, 0));
        CHECK.refused("class ahead of bound and place", Check.OUT, () -> x.fit(0, 3, 1000, -1));
        CHECK.sentence(19, "Throws `IllegalArgumentException` if bound is out of range, or place below 0");
        CHECK.refused("bound -1", Check.ARGUMENT, () -> x.fit(0, 0, -1, 0));
        CHECK.refused("bound 1000", Check.ARGUMENT, () -> x.fit(0, 0, 1000, 0));
        CHECK.refused("place -1", Check.ARGUMENT, () -> x.fit(0, 0, 999, -1));
        CHECK.refused("the least int as place", Check.ARGUMENT, () -> x.fit(0, 0, 999, Integer.MIN_VALUE));
    }

    // ---- promise 20

    private static void askWord() {
        CHECK.sentence(20, "Returns the best place to ask for.");
        NumeralBabel x = tens();
        Check.hear(x, -1, -1, -1);
        // 21 to 99 but for the tens: nines at the place 0, all 72 at 1, eights at 2.
        CHECK.due("the last digit", 2, x.askWord(0, 0, 99));
        x.form(0, 1, 1, 2);
        // In the class 1 the words at the end are 2 to 9, and 2 has 16.
        CHECK.due("the first digit in the class 1", 0, x.askWord(0, 1, 99));
        CHECK.sentence(20, "Returns the place; -1 if all was heard, or fewer than 2 numbers fit.");
        CHECK.due("up to 21 one fits", -1, x.askWord(0, 0, 21));
        // Both begin with 2 and 10.
        CHECK.due("up to 22 two fit", 2, x.askWord(0, 0, 22));
        CHECK.due("up to 20 none fits", -1, x.askWord(0, 0, 20));
        NumeralBabel zeros = new NumeralBabel();
        zeros.atom(0, 1, 1);
        zeros.atom(0, 2, 2);
        zeros.base(0, 3, 0, 99, 1);
        Check.hear(zeros, -1, -1);
        // 3 is 1 0, 6 is 2 0.
        CHECK.due("the word 0 is counted as any other", 0, zeros.askWord(0, 0, 8));
        NumeralBabel alike = new NumeralBabel();
        alike.atom(0, 0, 7);
        alike.atom(0, 999, 7);
        alike.hear(7);
        CHECK.due("two fit", 2, alike.fits(0, 0, 999));
        CHECK.due("but all was heard", -1, alike.askWord(0, 0, 999));
        Check.hear(alike, -1);
        CHECK.due("one was not heard, though it tells nothing", 0, alike.askWord(0, 0, 999));
        CHECK.due("0 alone fits", -1, alike.askWord(0, 0, 998));
        CHECK.due("0 alone up to 0", -1, alike.askWord(0, 0, 0));
    }

    private static void askWordNothing() {
        CHECK.sentence(20, "Returns the place; -1 if all was heard, or fewer than 2 numbers fit.");
        NumeralBabel x = tens();
        CHECK.due("nothing heard", -1, x.askWord(0, 0, 999));
        Check.hear(x, -1);
        CHECK.due("in an empty grammar", -1, x.askWord(1, 0, 999));
        CHECK.due("the only place", 0, x.askWord(0, 0, 999));
        Check.hear(x, -1, 10, 5);
        CHECK.due("the only place that was not heard", 0, x.askWord(0, 0, 999));
        Check.hear(x, 3, 10, -1);
        CHECK.due("the last place", 2, x.askWord(0, 0, 999));
        Check.hear(x, 3, -1, -1);
        // All have 10 at the place 1.
        CHECK.due("not the place that all share", 2, x.askWord(0, 0, 999));
        NumeralBabel twenty = new NumeralBabel();
        twenty.atom(0, 1, 1);
        twenty.base(0, 2, 2, 99, 1);
        twenty.joint(0, 0, 5);
        twenty.say(0, 191, 0);
        twenty.hearSaid();
        CHECK.due("twenty heard", -1, twenty.askWord(0, 0, 999));
    }

    private static void askWordRefused() {
        CHECK.sentence(20, "Throws `IndexOutOfBoundsException` as told");
        NumeralBabel x = tens();
        x.hear(-1);
        CHECK.refused("grammar -1", Check.OUT, () -> x.askWord(-1, 0, 0));
        CHECK.refused("grammar 4", Check.OUT, () -> x.askWord(4, 0, 0));
        CHECK.refused("class -1", Check.OUT, () -> x.askWord(0, -1, 0));
        CHECK.refused("class 3", Check.OUT, () -> x.askWord(0, 3, 0));
        CHECK.refused("class ahead of bound", Check.OUT, () -> x.askWord(0, 3, 1000));
        CHECK.sentence(20, "Throws `IllegalArgumentException` if bound is out of range");
        CHECK.refused("bound -1", Check.ARGUMENT, () -> x.askWord(0, 0, -1));
        CHECK.refused("bound 1000", Check.ARGUMENT, () -> x.askWord(0, 0, 1000));
        CHECK.due("the bound 999", 0, x.askWord(0, 0, 999));
        CHECK.due("the bound 0", -1, x.askWord(0, 0, 0));
    }

    // ---- promises 21 and 22

    private static void gap() {
        CHECK.sentence(21, "Returns the first number that has no saying.");
        NumeralBabel x = tens();
        CHECK.due("0", 0, x.gap(0, 999));
        x.atom(0, 0, 50);
        CHECK.due("100", 100, x.gap(0, 999));
        x.dropAtom(0, 4);
        CHECK.due("4, though 14 and 40 have none either", 4, x.gap(0, 999));
        x.atom(0, 4, 4);
        x.atom(0, 100, 51);
        CHECK.due("101", 101, x.gap(0, 999));
        NumeralBabel twenty = new NumeralBabel();
        twenty.atom(0, 0, 0);
        twenty.atom(0, 1, 1);
        twenty.base(0, 2, 2, 99, 1);
        twenty.joint(0, 0, 5);
        twenty.base(0, 128, 6, 1, 0);
        // 255 is the word of 128 and the nineteen of 127; with a joint it has one too many.
        CHECK.due("256 is above the most", 256, twenty.gap(0, 999));
        twenty.joint(0, 1, 5);
        CHECK.due("255 has 21 words", 255, twenty.gap(0, 999));
        CHECK.sentence(21, "Returns the number; -1 for none up to the bound.");
        CHECK.due("up to 254", -1, twenty.gap(0, 254));
        CHECK.due("up to 255", 255, twenty.gap(0, 255));
        CHECK.due("0 up to 0", 0, tens().gap(0, 0));
        CHECK.due("none up to 0", -1, x.gap(0, 0));
        x.base(0, 100, 11, 9, 1);
        CHECK.due("none up to 999", -1, x.gap(0, 999));
        x.less(0, 1, 1, 12);
        CHECK.due("999 is toward 1000, above the most", 999, x.gap(0, 999));
        CHECK.due("none up to 998", -1, x.gap(0, 998));
        CHECK.sentence(21, "Throws `IndexOutOfBoundsException` as told");
        CHECK.refused("grammar -1", Check.OUT, () -> x.gap(-1, 0));
        CHECK.refused("grammar 4", Check.OUT, () -> x.gap(4, 0));
        CHECK.refused("grammar ahead of bound", Check.OUT, () -> x.gap(4, -1));
        CHECK.sentence(21, "Throws `IllegalArgumentException` if bound is out of range");
        CHECK.refused("bound -1", Check.ARGUMENT, () -> x.gap(0, -1));
        CHECK.refused("bound 1000", Check.ARGUMENT, () -> x.gap(0, 1000));
    }

    private static void clash() {
        CHECK.sentence(22, "Returns the first number whose saying is that of a lower one.");
        NumeralBabel x = new NumeralBabel();
        CHECK.due("numbers without a saying do not clash", -1, x.clash(0, 0, 999));
        x.atom(0, 0, 7);
        x.atom(0, 500, 8);
        x.atom(0, 998, 8);
        x.atom(0, 999, 7);
        CHECK.due("998, though 0 is lower than 500", 998, x.clash(0, 0, 999));
        x.dropAtom(0, 998);
        CHECK.due("999 and 0", 999, x.clash(0, 0, 999));
        x.form(0, 8, 2, 7);
        CHECK.due("500 and 0 in the class 2", 500, x.clash(0, 2, 999));
        CHECK.due("not in the class 1", 999, x.clash(0, 1, 999));
        Check.tens(x, 1, 0);
        CHECK.due("words in another order", -1, x.clash(1, 0, 999));
        x.seam(1, 2, 10, 10);
        // 20 is said 10 as 10 is; ahead of it nothing.
        CHECK.due("by a seam", 20, x.clash(1, 0, 999));
        NumeralBabel many = new NumeralBabel();
        Check.tens(many, 0, 0);
        many.base(0, 100, 11, 9, 1);
        CHECK.due("none of 999 sayings", -1, many.clash(0, 0, 999));
        many.seam(0, 9, 11, 10);
        CHECK.due("of them 900 and 10", 900, many.clash(0, 0, 999));
        CHECK.sentence(22, "Returns the number; -1 for none up to the bound.");
        CHECK.due("up to 20", 20, x.clash(1, 0, 20));
        CHECK.due("up to 19", -1, x.clash(1, 0, 19));
        CHECK.due("up to 999", 999, x.clash(0, 0, 999));
        CHECK.due("up to 998", -1, x.clash(0, 0, 998));
        CHECK.due("0 alone", -1, x.clash(0, 0, 0));
        x.atom(0, 1, 7);
        CHECK.due("1 and 0", 1, x.clash(0, 0, 1));
        CHECK.due("again", 1, x.clash(0, 0, 999));
    }

    private static void clashRefused() {
        CHECK.sentence(22, "Throws `IndexOutOfBoundsException` as told");
        NumeralBabel x = tens();
        CHECK.refused("grammar -1", Check.OUT, () -> x.clash(-1, 0, 0));
        CHECK.refused("grammar 4", Check.OUT, () -> x.clash(4, 0, 0));
        CHECK.refused("class -1", Check.OUT, () -> x.clash(0, -1, 0));
        CHECK.refused("class 3", Check.OUT, () -> x.clash(0, 3, 0));
        CHECK.refused("class ahead of bound", Check.OUT, () -> x.clash(0, 3, 1000));
        CHECK.sentence(22, "Throws `IllegalArgumentException` if bound is out of range");
        CHECK.refused("bound -1", Check.ARGUMENT, () -> x.clash(0, 0, -1));
        CHECK.refused("bound 1000", Check.ARGUMENT, () -> x.clash(0, 0, 1000));
    }
}
