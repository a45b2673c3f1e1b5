/** The edges that the promises 11 to 14 name, sentence by sentence. */
public final class EdgesOfSayingsTest {

    private static final Check CHECK = new Check("EdgesOfSayingsTest");

    public static void main(String[] args) {
        say();
        sayOrdinal();
        sayFraction();
        sayFractionRefused();
        said();
        CHECK.end();
    }

    private static NumeralBabel tens() {
        NumeralBabel x = new NumeralBabel();
        Check.tens(x, 0, 0);
        return x;
    }

    /** 351 has just 20 words, 607 one more. */
    private static NumeralBabel twos() {
        NumeralBabel x = new NumeralBabel();
        x.atom(0, 1, 1);
        x.base(0, 2, 2, 99, 1);
        x.joint(0, 0, 5);
        x.base(0, 64, 6, 99, 0);
        x.joint(0, 1, 5);
        return x;
    }

    private static void say() {
        CHECK.sentence(11, "Says a number for a class.");
        NumeralBabel x = tens();
        x.form(0, 2, 0, 60);
        x.form(0, 2, 2, 62);
        CHECK.says(x, 0, 42, 0, "4 10 60");
        CHECK.says(x, 0, 42, 1, "4 10 2");
        CHECK.says(x, 0, 42, 2, "4 10 62");
        CHECK.sentence(11, "- `number`: 0 to 9999");
        x.atom(1, 0, 3);
        x.atom(1, 9999, 4);
        CHECK.says(x, 1, 0, 0, "3");
        CHECK.says(x, 1, 9999, 0, "4");
        CHECK.sentence(11, "Returns how many words the saying has; 0 if there is none.");
        CHECK.due("one", 1, x.say(0, 1, 0));
        CHECK.due("three", 3, x.say(0, 42, 0));
        CHECK.due("none without an atom", 0, x.say(0, 0, 0));
        CHECK.due("none above the most", 0, x.say(0, 100, 0));
        CHECK.due("none in an empty grammar", 0, x.say(2, 1, 0));
        NumeralBabel y = twos();
        CHECK.due("twenty", 20, y.say(0, 351, 0));
        CHECK.due("none beyond twenty", 0, y.say(0, 607, 0));
        y.seam(0, 2, 5, 7);
        CHECK.due("words behind the seams", 15, y.say(0, 351, 0));
        CHECK.sentence(11, "Throws `IndexOutOfBoundsException` as told");
        x.say(0, 42, 1);
        CHECK.refused("grammar -1", Check.OUT, () -> x.say(-1, 1, 0));
        CHECK.refused("grammar 4", Check.OUT, () -> x.say(4, 1, 0));
        CHECK.refused("class -1", Check.OUT, () -> x.say(0, 1, -1));
        CHECK.refused("class 3", Check.OUT, () -> x.say(0, 1, 3));
        CHECK.refused("class ahead of number", Check.OUT, () -> x.say(0, -1, 3));
        CHECK.sentence(11, "Throws `IllegalArgumentException` if number is out of range");
        CHECK.refused("number -1", Check.ARGUMENT, () -> x.say(0, -1, 0));
        CHECK.refused("number 10000", Check.ARGUMENT, () -> x.say(0, 10000, 0));
        CHECK.judge("the latest saying", "4 10 2", Check.words(x));
    }

    private static void sayOrdinal() {
        CHECK.sentence(12, "Says a number as an ordinal.");
        NumeralBabel x = tens();
        x.form(0, 2, 3, 60);
        x.form(0, 2, 0, 61);
        x.ordinal(0, 40);
        CHECK.saysOrdinal(x, 0, 42, "4 10 60");
        CHECK.saysOrdinal(x, 0, 43, "4 10 3 40");
        CHECK.saysOrdinal(x, 0, 40, "4 10 40");
        CHECK.sentence(12, "- `number`: 0 to 9999");
        x.atom(1, 0, 3);
        x.atom(1, 9999, 4);
        CHECK.saysOrdinal(x, 1, 0, "3");
        CHECK.saysOrdinal(x, 1, 9999, "4");
        CHECK.sentence(12, "Returns how many words the saying has; 0 if there is none.");
        CHECK.due("one", 1, x.sayOrdinal(0, 2));
        CHECK.due("with the word of ordinals two", 2, x.sayOrdinal(0, 3));
        CHECK.due("none, not the word of ordinals alone", 0, x.sayOrdinal(0, 0));
        NumeralBabel y = twos();
        CHECK.due("twenty", 20, y.sayOrdinal(0, 351));
        y.ordinal(0, 9);
        CHECK.due("none beyond twenty", 0, y.sayOrdinal(0, 351));
        y.form(0, 1, 3, 10);
        CHECK.due("twenty by a form", 20, y.sayOrdinal(0, 351));
        CHECK.sentence(12, "Throws `IndexOutOfBoundsException` as told");
        x.sayOrdinal(0, 42);
        CHECK.refused("grammar -1", Check.OUT, () -> x.sayOrdinal(-1, 1));
        CHECK.refused("grammar 4", Check.OUT, () -> x.sayOrdinal(4, 1));
        CHECK.refused("grammar ahead of number", Check.OUT, () -> x.sayOrdinal(4, -1));
        CHECK.sentence(12, "Throws `IllegalArgumentException` if number is out of range");
        CHECK.refused("number -1", Check.ARGUMENT, () -> x.sayOrdinal(0, -1));
        CHECK.refused("number 10000", Check.ARGUMENT, () -> x.sayOrdinal(0, 10000));
        CHECK.judge("the latest saying", "4 10 60", Check.words(x));
    }

    private static void sayFraction() {
        CHECK.sentence(13, "Says a fraction; none if one of both has no name.");
        NumeralBabel x = tens();
        x.form(0, 3, 1, 60);
        x.form(0, 3, 3, 61);
        CHECK.saysFraction(x, 0, new int[] {3, 3}, 1, "60 61");
        CHECK.saysFraction(x, 0, new int[] {3, 3}, 2, "3 61");
        CHECK.saysFraction(x, 0, new int[] {0, 3}, 0, "");
        CHECK.saysFraction(x, 0, new int[] {3, 100}, 0, "");
        CHECK.saysFraction(x, 0, new int[] {0, 100}, 0, "");
        x.ordinal(0, 40);
        CHECK.saysFraction(x, 0, new int[] {3, 100}, 0, "");
        CHECK.sentence(13, "- `one`: 0 to 9999");
        x.atom(0, 0, 50);
        x.atom(0, 9999, 51);
        CHECK.saysFraction(x, 0, new int[] {0, 3}, 0, "50 61");
        CHECK.saysFraction(x, 0, new int[] {9999, 3}, 0, "51 61");
        CHECK.sentence(13, "- `other`: 1 to 9999");
        CHECK.saysFraction(x, 0, new int[] {3, 1}, 0, "3 1 40");
        CHECK.saysFraction(x, 0, new int[] {3, 9999}, 0, "3 51 40");
        CHECK.sentence(13, "Returns how many words the saying has; 0 if there is none.");
        CHECK.due("two", 2, x.sayFraction(0, 1, 3, 0));
        CHECK.due("none", 0, x.sayFraction(0, 1, 100, 0));
        NumeralBabel y = twos();
        CHECK.due("ten and ten", 20, y.sayFraction(0, 15, 15, 0));
        CHECK.due("none with eleven and ten", 0, y.sayFraction(0, 30, 15, 0));
        CHECK.due("none with ten and eleven", 0, y.sayFraction(0, 15, 30, 0));
        y.seam(0, 1, 1, 8);
        // The one number ends with the word with which the other one begins: there they melt.
        CHECK.due("nineteen behind the seams", 19, y.sayFraction(0, 15, 15, 0));
        CHECK.due("none for all seams", 0, y.sayFraction(0, 30, 15, 0));
        y.ordinal(0, 9);
        CHECK.due("none with the word of ordinals", 0, y.sayFraction(0, 15, 15, 0));
    }

    private static void sayFractionRefused() {
        CHECK.sentence(13, "Throws `IndexOutOfBoundsException` as told");
        NumeralBabel x = tens();
        x.say(0, 42, 0);
        CHECK.refused("grammar -1", Check.OUT, () -> x.sayFraction(-1, 1, 1, 0));
        CHECK.refused("grammar 4", Check.OUT, () -> x.sayFraction(4, 1, 1, 0));
        CHECK.refused("class -1", Check.OUT, () -> x.sayFraction(0, 1, 1, -1));
        CHECK.refused("class 3", Check.OUT, () -> x.sayFraction(0, 1, 1, 3));
        CHECK.refused("class ahead of numbers", Check.OUT, () -> x.sayFraction(0, -1, 0, 3));
        CHECK.sentence(13, "Throws `IllegalArgumentException` if one or other is out of range");
        CHECK.refused("one -1", Check.ARGUMENT, () -> x.sayFraction(0, -1, 1, 0));
        CHECK.refused("one 10000", Check.ARGUMENT, () -> x.sayFraction(0, 10000, 1, 0));
        CHECK.refused("other 0", Check.ARGUMENT, () -> x.sayFraction(0, 1, 0, 0));
        CHECK.refused("other -1", Check.ARGUMENT, () -> x.sayFraction(0, 1, -1, 0));
        CHECK.refused("other 10000", Check.ARGUMENT, () -> x.sayFraction(0, 1, 10000, 0));
        CHECK.judge("the latest saying", "4 10 2", Check.words(x));
    }

    private static void said() {
        CHECK.sentence(14, "Returns a word of the latest saying.");
        NumeralBabel x = tens();
        x.say(0, 42, 0);
        x.say(0, 79, 0);
        CHECK.due("of the latest one", 10, x.said(1));
        CHECK.sentence(14, "- `place`: 0 for the first one");
        CHECK.due("the first", 7, x.said(0));
        CHECK.due("the last", 9, x.said(2));
        CHECK.sentence(14, "Throws `IndexOutOfBoundsException` if there are not so many");
        CHECK.refused("one beyond the last", Check.OUT, () -> x.said(3));
        CHECK.refused("-1", Check.OUT, () -> x.said(-1));
        CHECK.refused("the least int", Check.OUT, () -> x.said(Integer.MIN_VALUE));
        CHECK.refused("the greatest int", Check.OUT, () -> x.said(Integer.MAX_VALUE));
        x.say(0, 5, 0);
        CHECK.due("the only one", 5, x.said(0));
        CHECK.refused("no second one", Check.OUT, () -> x.said(1));
        x.say(0, 100, 0);
        CHECK.refused("none of none", Check.OUT, () -> x.said(0));
        CHECK.refused("none of a new object", Check.OUT, () -> new NumeralBabel().said(0));
        NumeralBabel y = twos();
        y.say(0, 351, 0);
        CHECK.due("the twentieth", 1, y.said(19));
        CHECK.refused("no more than twenty", Check.OUT, () -> y.said(20));
    }
}
