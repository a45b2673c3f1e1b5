/** Promises 11 to 14: names, classes, ordinals, fractions and seams. */
public final class SayingsTest {

    private static final Check CHECK = new Check("SayingsTest");

    public static void main(String[] args) {
        styles();
        greatestBase();
        most();
        less();
        partsWithoutName();
        twentyWords();
        saySeams();
        sayWrong();
        sayOrdinal();
        sayFraction();
        said();
        CHECK.end();
    }

    private static void styles() {
        CHECK.promise(11);
        String[][] want = {
            {"10", "10 12 4", "3 10 12 4", "3 10", "9 10 12 1"},
            {"1 10", "1 10 12 4", "3 10 12 4", "3 10", "9 10 12 1"},
            {"10", "10 12 4", "10 3 12 4", "10 3", "10 9 12 1"},
            {"10 1", "10 1 12 4", "10 3 12 4", "10 3", "10 9 12 1"},
            {"10", "4 12 10", "4 12 3 10", "3 10", "1 12 9 10"},
            {"1 10", "4 12 1 10", "4 12 3 10", "3 10", "1 12 9 10"},
            {"10", "4 12 10", "4 12 10 3", "10 3", "1 12 10 9"},
            {"10 1", "4 12 10 1", "4 12 10 3", "10 3", "1 12 10 9"},
            {"10", "4 12 2 10", "4 12 4 10", "3 10", ""},
            {"1 10", "4 12 2 10", "4 12 4 10", "3 10", ""},
            {"10", "4 12 10 2", "4 12 10 4", "10 3", ""},
            {"10 1", "4 12 10 2", "4 12 10 4", "10 3", ""},
            {"10", "4 12 2 10", "4 12 4 10", "3 10", ""},
            {"1 10", "4 12 2 10", "4 12 4 10", "3 10", ""},
            {"10", "4 12 10 2", "4 12 10 4", "10 3", ""},
            {"10 1", "4 12 10 2", "4 12 10 4", "10 3", ""},
        };
        int[] numbers = {10, 14, 34, 30, 91};
        for (int style = 0; style < 16; style++) {
            NumeralBabel x = new NumeralBabel();
            Check.tens(x, 0, style);
            x.joint(0, 0, 12);
            for (int i = 0; i < numbers.length; i++) {
                CHECK.says(x, 0, numbers[i], 0, want[style][i]);
            }
            CHECK.says(x, 0, 0, 0, "");
            CHECK.says(x, 0, 100, 0, "");
        }
    }

    private static void greatestBase() {
        CHECK.promise(11);
        NumeralBabel x = new NumeralBabel();
        x.base(0, 100, 30, 99, 1);
        Check.tens(x, 0, 0);
        x.base(0, 20, 20, 4, 0);
        CHECK.says(x, 0, 19, 0, "10 9");
        CHECK.says(x, 0, 20, 0, "20");
        CHECK.says(x, 0, 99, 0, "4 20 10 9");
        CHECK.says(x, 0, 100, 0, "1 30");
        CHECK.says(x, 0, 9999, 0, "4 20 10 9 30 4 20 10 9");
        x.atom(0, 99, 77);
        CHECK.says(x, 0, 9999, 0, "77 30 77");
        x.atom(0, 10, 78);
        CHECK.says(x, 0, 30, 0, "20 78");
        CHECK.says(x, 0, 11, 0, "10 1");
        x.atom(0, 0, 79);
        CHECK.says(x, 0, 100, 0, "1 30");
        CHECK.says(x, 0, 0, 0, "79");
    }

    private static void most() {
        CHECK.promise(11);
        NumeralBabel x = new NumeralBabel();
        for (int number = 1; number <= 9; number++) {
            x.atom(0, number, number);
        }
        x.base(0, 10, 10, 3, 0);
        CHECK.says(x, 0, 39, 0, "3 10 9");
        CHECK.says(x, 0, 40, 0, "");
        CHECK.says(x, 0, 41, 0, "");
        x.less(0, 0, 1, 20);
        CHECK.says(x, 0, 29, 0, "1 20 3 10");
        CHECK.says(x, 0, 39, 0, "");
        x.base(0, 1000, 11, 99, 8);
        CHECK.says(x, 0, 2001, 0, "1 3 11");
        x.dropAtom(0, 3);
        CHECK.says(x, 0, 2001, 0, "");
        CHECK.says(x, 0, 2000, 0, "2 11");
    }

    private static void less() {
        CHECK.promise(11);
        NumeralBabel x = new NumeralBabel();
        Check.tens(x, 0, 15);
        x.joint(0, 0, 12);
        x.less(0, 0, 3, 13);
        CHECK.says(x, 0, 16, 0, "6 12 10 2");
        CHECK.says(x, 0, 17, 0, "3 13 10 2");
        CHECK.says(x, 0, 10, 0, "10 1");
        x.base(0, 100, 14, 9, 1);
        x.less(0, 1, 9, 15);
        CHECK.says(x, 0, 199, 0, "1 15 2 14");
        CHECK.says(x, 0, 191, 0, "9 15 2 14");
        CHECK.says(x, 0, 190, 0, "1 14 10 9");
        CHECK.says(x, 0, 991, 0, "");
        x.empty(0);
        x.atom(0, 1, 1);
        x.base(0, 3, 3, 99, 0);
        x.base(0, 8, 8, 99, 0);
        x.less(0, 1, 5, 18);
        x.less(0, 0, 1, 17);
        CHECK.says(x, 0, 11, 0, "");
        x.atom(0, 2, 2);
        CHECK.says(x, 0, 11, 0, "1 17 2 3 18 2 8");
    }

    private static void partsWithoutName() {
        CHECK.promise(11);
        NumeralBabel x = new NumeralBabel();
        Check.tens(x, 0, 1);
        x.dropAtom(0, 1);
        CHECK.says(x, 0, 10, 0, "");
        CHECK.says(x, 0, 12, 0, "");
        CHECK.says(x, 0, 21, 0, "");
        CHECK.says(x, 0, 22, 0, "2 10 2");
        x.less(0, 0, 1, 20);
        CHECK.says(x, 0, 29, 0, "");
        x.atom(0, 29, 29);
        CHECK.says(x, 0, 29, 0, "29");
        CHECK.says(x, 0, 28, 0, "2 10 8");
    }

    /** Numbers counted by twos grow long names: 191 has just 20 words. */
    private static void twentyWords() {
        CHECK.promise(11);
        NumeralBabel x = new NumeralBabel();
        x.atom(0, 1, 1);
        x.base(0, 2, 2, 99, 1);
        x.joint(0, 0, 5);
        CHECK.says(x, 0, 127, 0, "1 2 5 1 2 5 1 2 5 1 2 5 1 2 5 1 2 5 1");
        CHECK.says(x, 0, 128, 0, "1 2 2 2 2 2 2 2");
        CHECK.says(x, 0, 191, 0, "1 2 2 5 1 2 5 1 2 5 1 2 5 1 2 5 1 2 5 1");
        x.base(0, 64, 64, 99, 0);
        x.ordinal(0, 7);
        CHECK.says(x, 0, 127, 0, "64 1 2 5 1 2 5 1 2 5 1 2 5 1 2 5 1");
        x.joint(0, 1, 6);
        CHECK.says(x, 0, 128 + 63, 0, "1 2 64 6 1 2 5 1 2 5 1 2 5 1 2 5 1 2 5 1");
        CHECK.saysOrdinal(x, 0, 128 + 63, "");
        CHECK.says(x, 0, 192 + 63, 0, "");
        x.seam(0, 2, 5, 9);
        CHECK.says(x, 0, 192 + 63, 0, "");
        CHECK.saysOrdinal(x, 0, 128 + 63, "");
        CHECK.says(x, 0, 128 + 63, 0, "1 2 64 6 1 9 1 9 1 9 1 9 1 9 1");
        CHECK.saysFraction(x, 0, new int[] {63, 1}, 0, "1 9 1 9 1 9 1 9 1 9 1 1 7");
        CHECK.saysFraction(x, 0, new int[] {63, 3}, 0, "");
        x.form(0, 1, 3, 8);
        CHECK.saysOrdinal(x, 0, 128 + 63, "1 2 64 6 1 9 1 9 1 9 1 9 1 9 8");
        CHECK.saysFraction(x, 0, new int[] {63, 3}, 0, "1 9 1 9 1 9 1 9 1 9 1 1 9 8");
    }

    private static void saySeams() {
        CHECK.promise(11);
        NumeralBabel x = new NumeralBabel();
        x.atom(0, 1, 1);
        x.base(0, 2, 1, 99, 1);
        CHECK.says(x, 0, 32, 0, "1 1 1 1 1 1");
        x.seam(0, 1, 1, 1);
        CHECK.says(x, 0, 32, 0, "1 1 1");
        CHECK.says(x, 0, 16, 0, "1 1 1");
        CHECK.says(x, 0, 1, 0, "1");
        x.seam(0, 1, 1, 2);
        CHECK.says(x, 0, 32, 0, "2 1");
        x.seam(0, 2, 1, 3);
        CHECK.says(x, 0, 32, 0, "3");
        x.form(0, 1, 2, 4);
        CHECK.says(x, 0, 32, 2, "3 4");
        x.seam(0, 3, 4, 5);
        CHECK.says(x, 0, 32, 2, "5");
        x.empty(0);
        x.atom(0, 1, 1);
        x.base(0, 2, 1, 99, 1);
        x.form(0, 1, 1, 6);
        x.seam(0, 1, 6, 7);
        CHECK.says(x, 0, 4, 1, "1 7");
        CHECK.says(x, 0, 4, 0, "1 1 1");
    }

    private static void sayWrong() {
        CHECK.promise(11);
        NumeralBabel x = new NumeralBabel();
        Check.tens(x, 0, 0);
        x.say(0, 42, 0);
        CHECK.refused("grammar -1", Check.OUT, () -> x.say(-1, 1, 0));
        CHECK.refused("grammar 4", Check.OUT, () -> x.say(4, 1, 0));
        CHECK.refused("class -1", Check.OUT, () -> x.say(0, 1, -1));
        CHECK.refused("class 3", Check.OUT, () -> x.say(0, 1, 3));
        CHECK.refused("class before number", Check.OUT, () -> x.say(0, 10000, 3));
        CHECK.refused("number -1", Check.ARGUMENT, () -> x.say(0, -1, 0));
        CHECK.refused("number 10000", Check.ARGUMENT, () -> x.say(0, 10000, 0));
        CHECK.judge("the saying is kept", "4 10 2", Check.words(x));
        CHECK.says(x, 0, 9999, 0, "");
    }

    private static void sayOrdinal() {
        CHECK.promise(12);
        NumeralBabel x = new NumeralBabel();
        Check.tens(x, 0, 0);
        x.form(0, 3, 3, 33);
        x.form(0, 3, 0, 34);
        x.form(0, 4, 0, 35);
        x.form(0, 10, 3, 36);
        CHECK.saysOrdinal(x, 0, 23, "2 10 33");
        CHECK.saysOrdinal(x, 0, 24, "2 10 4");
        CHECK.saysOrdinal(x, 0, 30, "3 36");
        x.ordinal(0, 40);
        CHECK.saysOrdinal(x, 0, 23, "2 10 33");
        CHECK.saysOrdinal(x, 0, 24, "2 10 4 40");
        CHECK.saysOrdinal(x, 0, 0, "");
        x.seam(0, 4, 40, 44);
        x.seam(0, 10, 33, 45);
        CHECK.saysOrdinal(x, 0, 24, "2 10 44");
        CHECK.saysOrdinal(x, 0, 23, "2 45");
        CHECK.refused("grammar -1", Check.OUT, () -> x.sayOrdinal(-1, 1));
        CHECK.refused("grammar before number", Check.OUT, () -> x.sayOrdinal(4, 10000));
        CHECK.refused("number -1", Check.ARGUMENT, () -> x.sayOrdinal(0, -1));
        CHECK.refused("number 10000", Check.ARGUMENT, () -> x.sayOrdinal(0, 10000));
        CHECK.judge("the saying is kept", "2 45", Check.words(x));
        CHECK.saysOrdinal(x, 0, 9999, "");
    }

    private static void sayFraction() {
        CHECK.promise(13);
        NumeralBabel x = new NumeralBabel();
        Check.tens(x, 0, 0);
        x.form(0, 1, 1, 51);
        x.form(0, 3, 3, 53);
        x.form(0, 3, 1, 54);
        x.ordinal(0, 40);
        CHECK.saysFraction(x, 0, new int[] {1, 3}, 1, "51 53");
        CHECK.saysFraction(x, 0, new int[] {1, 3}, 0, "1 53");
        CHECK.saysFraction(x, 0, new int[] {3, 3}, 1, "54 53");
        CHECK.saysFraction(x, 0, new int[] {21, 24}, 1, "2 10 51 2 10 4 40");
        CHECK.saysFraction(x, 0, new int[] {0, 3}, 0, "");
        CHECK.saysFraction(x, 0, new int[] {3, 100}, 0, "");
        x.atom(0, 0, 60);
        CHECK.saysFraction(x, 0, new int[] {0, 3}, 0, "60 53");
        x.seam(0, 51, 53, 70);
        x.seam(0, 70, 40, 71);
        CHECK.saysFraction(x, 0, new int[] {1, 3}, 1, "70");
        x.say(0, 42, 0);
        CHECK.refused("grammar -1", Check.OUT, () -> x.sayFraction(-1, 1, 1, 0));
        CHECK.refused("grammar 4", Check.OUT, () -> x.sayFraction(4, 1, 1, 0));
        CHECK.refused("class -1", Check.OUT, () -> x.sayFraction(0, 1, 1, -1));
        CHECK.refused("class before numbers", Check.OUT, () -> x.sayFraction(0, -1, 0, 3));
        CHECK.refused("one -1", Check.ARGUMENT, () -> x.sayFraction(0, -1, 1, 0));
        CHECK.refused("one 10000", Check.ARGUMENT, () -> x.sayFraction(0, 10000, 1, 0));
        CHECK.refused("other 0", Check.ARGUMENT, () -> x.sayFraction(0, 1, 0, 0));
        CHECK.refused("other 10000", Check.ARGUMENT, () -> x.sayFraction(0, 1, 10000, 0));
        CHECK.judge("the saying is kept", "4 10 2", Check.words(x));
        x.atom(0, 9999, 80);
        CHECK.saysFraction(x, 0, new int[] {9999, 9999}, 2, "80 80 40");
    }

    private static void said() {
        CHECK.promise(14);
        NumeralBabel x = new NumeralBabel();
        Check.tens(x, 0, 0);
        CHECK.refused("ahead of any saying", Check.OUT, () -> x.said(0));
        x.say(0, 42, 0);
        CHECK.due("first word", 4, x.said(0));
        CHECK.due("last word", 2, x.said(2));
        CHECK.refused("one too far", Check.OUT, () -> x.said(3));
        CHECK.refused("below 0", Check.OUT, () -> x.said(-1));
        CHECK.refused("far beyond", Check.OUT, () -> x.said(Integer.MAX_VALUE));
        CHECK.refused("far below", Check.OUT, () -> x.said(Integer.MIN_VALUE));
        x.gap(0, 50);
        x.hear(-1);
        x.fits(0, 0, 50);
        x.askWord(0, 0, 50);
        x.clash(0, 0, 50);
        x.settings(0, 0, 5);
        x.askNumber(0, 0, 5, 50);
        CHECK.judge("other calls say nothing", "4 10 2", Check.words(x));
        x.say(0, 7, 0);
        CHECK.refused("gone with a shorter one", Check.OUT, () -> x.said(1));
        x.say(0, 0, 0);
        CHECK.refused("gone with none", Check.OUT, () -> x.said(0));
    }
}
