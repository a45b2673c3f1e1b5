/** Promises 15 to 22: hearing, what fits, the place to ask for, gaps and clashes. */
public final class HearingTest {

    private static final Check CHECK = new Check("HearingTest");

    public static void main(String[] args) {
        hear();
        hearSaid();
        forget();
        fits();
        fitsWrong();
        fit();
        askWord();
        askWordNothing();
        gap();
        clash();
        clashLongSayings();
        clashOfMarks();
        CHECK.end();
    }

    private static NumeralBabel tens() {
        NumeralBabel x = new NumeralBabel();
        Check.tens(x, 0, 0);
        return x;
    }

    private static void hear() {
        CHECK.promise(15);
        NumeralBabel x = tens();
        CHECK.due("greatest word", 1, x.hear(199));
        CHECK.due("least word", 2, x.hear(0));
        CHECK.due("one not heard", 3, x.hear(-1));
        CHECK.refused("word 200", Check.OUT, () -> x.hear(200));
        CHECK.refused("word -2", Check.OUT, () -> x.hear(-2));
        for (int i = 4; i <= 20; i++) {
            CHECK.due("word " + i, i, x.hear(5));
        }
        CHECK.refused("the 21st", Check.STATE, () -> x.hear(5));
        CHECK.refused("the 21st, not heard", Check.STATE, () -> x.hear(-1));
        CHECK.refused("word before the 21st", Check.OUT, () -> x.hear(200));
        CHECK.due("20 there", 20, x.forget());
    }

    private static void hearSaid() {
        CHECK.promise(16);
        NumeralBabel x = tens();
        x.hear(1);
        CHECK.due("no saying", 0, x.hearSaid());
        CHECK.due("nothing heard then", 0, x.forget());
        x.hear(9);
        x.say(0, 42, 0);
        CHECK.due("three words", 3, x.hearSaid());
        CHECK.due("only 42", 1, x.fits(0, 0, 999));
        CHECK.due("it is 42", 42, x.fit(0, 0, 999, 0));
        x.say(0, 7, 0);
        CHECK.due("kept when another is said", 42, x.fit(0, 0, 999, 0));
        CHECK.due("goes on", 4, x.hear(-1));
        x.say(0, 0, 0);
        CHECK.due("no saying of 0", 0, x.hearSaid());
        x.sayFraction(0, 42, 42, 0);
        CHECK.due("a fraction", 6, x.hearSaid());
        CHECK.due("that no number fits", 0, x.fits(0, 0, 999));
    }

    private static void forget() {
        CHECK.promise(17);
        NumeralBabel x = tens();
        CHECK.due("nothing", 0, x.forget());
        x.hear(-1);
        x.hear(10);
        CHECK.due("two words", 2, x.forget());
        CHECK.due("none then", 0, x.forget());
        CHECK.due("from the beginning", 1, x.hear(10));
        CHECK.due("only 10 fits", 1, x.fits(0, 0, 99));
    }

    private static void fits() {
        CHECK.promise(18);
        NumeralBabel x = tens();
        CHECK.due("nothing heard", 0, x.fits(0, 0, 999));
        Check.hear(x, -1);
        CHECK.due("one word", 10, x.fits(0, 0, 999));
        CHECK.due("one word up to 5", 5, x.fits(0, 0, 5));
        CHECK.due("one word up to 0", 0, x.fits(0, 0, 0));
        Check.hear(x, 4, -1);
        CHECK.due("40 alone", 1, x.fits(0, 0, 999));
        CHECK.due("not up to 39", 0, x.fits(0, 0, 39));
        CHECK.due("up to 40", 1, x.fits(0, 0, 40));
        Check.hear(x, -1, -1, 3);
        CHECK.due("23 to 93", 8, x.fits(0, 0, 999));
        x.form(0, 3, 1, 33);
        CHECK.due("not in class 1", 0, x.fits(0, 1, 999));
        CHECK.due("in class 2", 8, x.fits(0, 2, 999));
        CHECK.due("not in another grammar", 0, x.fits(1, 0, 999));
        Check.hear(x, -1, -1, 33);
        CHECK.due("in class 1 then", 8, x.fits(0, 1, 999));
        x.atom(0, 0, 0);
        Check.hear(x, 0);
        CHECK.due("0 itself", 1, x.fits(0, 0, 0));
        Check.hear(x, -1);
        CHECK.due("0 among others", 11, x.fits(0, 0, 999));
        x.atom(0, 999, 77);
        Check.hear(x, 77);
        CHECK.due("999 at the bound 999", 1, x.fits(0, 0, 999));
        CHECK.due("not at 998", 0, x.fits(0, 0, 998));
    }

    private static void fitsWrong() {
        CHECK.promise(18);
        NumeralBabel x = tens();
        x.hear(-1);
        CHECK.refused("bound 1000", Check.ARGUMENT, () -> x.fits(0, 0, 1000));
        CHECK.refused("bound -1", Check.ARGUMENT, () -> x.fits(0, 0, -1));
        CHECK.refused("class before bound", Check.OUT, () -> x.fits(0, 3, 1000));
        CHECK.refused("class -1", Check.OUT, () -> x.fits(0, -1, 0));
        CHECK.refused("grammar before bound", Check.OUT, () -> x.fits(4, 0, -1));
        CHECK.refused("grammar -1", Check.OUT, () -> x.fits(-1, 0, 0));
        CHECK.due("heard as before", 1, x.forget());
    }

    private static void fit() {
        CHECK.promise(19);
        NumeralBabel x = tens();
        CHECK.due("nothing heard", -1, x.fit(0, 0, 999, 0));
        Check.hear(x, -1, -1, 3);
        CHECK.due("the lowest", 23, x.fit(0, 0, 999, 0));
        CHECK.due("the next", 33, x.fit(0, 0, 999, 1));
        CHECK.due("the last", 93, x.fit(0, 0, 999, 7));
        CHECK.due("beyond the last", -1, x.fit(0, 0, 999, 8));
        x.atom(1, 0, 5);
        Check.hear(x, 5);
        CHECK.due("0 itself", 0, x.fit(1, 0, 0, 0));
        CHECK.due("behind 0 none", -1, x.fit(1, 0, 0, 1));
        Check.hear(x, -1, -1, 3);
        CHECK.due("far beyond", -1, x.fit(0, 0, 999, Integer.MAX_VALUE));
        CHECK.due("up to 32", -1, x.fit(0, 0, 32, 1));
        CHECK.due("up to 33", 33, x.fit(0, 0, 33, 1));
        CHECK.refused("place -1", Check.ARGUMENT, () -> x.fit(0, 0, 999, -1));
        CHECK.refused("bound 1000", Check.ARGUMENT, () -> x.fit(0, 0, 1000, 0));
        CHECK.refused("bound -1", Check.ARGUMENT, () -> x.fit(0, 0, -1, 0));
        CHECK.refused("class before the others", Check.OUT, () -> x.fit(0, 3, 1000, -1));
        CHECK.refused("class -1", Check.OUT, () -> x.fit(0, -1, 0, 0));
        CHECK.refused("grammar before the others", Check.OUT, () -> x.fit(-1, 0, 1000, -1));
        CHECK.refused("grammar 4", Check.OUT, () -> x.fit(4, 0, 0, 0));
        CHECK.due("heard as before", 3, x.forget());
    }

    private static void askWord() {
        CHECK.promise(20);
        NumeralBabel x = tens();
        Check.hear(x, -1, -1, -1);
        // 21 to 99 without the tens: at the place 0 sets of 9, at 1 all 72, at 2 sets of 8.
        CHECK.due("the last digit tells most", 2, x.askWord(0, 0, 99));
        CHECK.due("up to 39 the last one too", 2, x.askWord(0, 0, 39));
        Check.hear(x, -1, -1, 5);
        CHECK.due("the last was heard", 0, x.askWord(0, 0, 99));
        Check.hear(x, 5, -1, -1);
        CHECK.due("the first was heard", 2, x.askWord(0, 0, 99));
        Check.hear(x, 5, -1, 6);
        CHECK.due("one fits", -1, x.askWord(0, 0, 99));
        Check.hear(x, 10, -1, -1);
        CHECK.due("none fits", -1, x.askWord(0, 0, 99));
        NumeralBabel alike = new NumeralBabel();
        alike.atom(0, 1, 1);
        alike.atom(0, 2, 1);
        alike.hear(-1);
        CHECK.due("of numbers alike", 0, alike.askWord(0, 0, 9));
        Check.hear(alike, 1);
        CHECK.due("two fit, all was heard", -1, alike.askWord(0, 0, 9));
        NumeralBabel even = new NumeralBabel();
        Check.tens(even, 0, 0);
        even.form(0, 10, 1, 60);
        Check.hear(even, -1, -1);
        // 11 to 19 begin with 10; 20 to 90 end with 60: the first place has the set of nine, the last one of eight.
        CHECK.due("by class", 1, even.askWord(0, 1, 99));
        even.dropAtom(0, 9);
        CHECK.due("eight and seven", 1, even.askWord(0, 1, 99));
        even.dropAtom(0, 1);
        CHECK.due("two alike places, the first one", 0, even.askWord(0, 0, 89));
        CHECK.refused("bound 1000", Check.ARGUMENT, () -> x.askWord(0, 0, 1000));
        CHECK.refused("bound -1", Check.ARGUMENT, () -> x.askWord(0, 0, -1));
        CHECK.refused("class before bound", Check.OUT, () -> x.askWord(0, 3, 1000));
        CHECK.refused("class -1", Check.OUT, () -> x.askWord(0, -1, 0));
        CHECK.refused("grammar before bound", Check.OUT, () -> x.askWord(-1, 0, 1000));
        CHECK.refused("grammar 4", Check.OUT, () -> x.askWord(4, 0, 0));
    }

    private static void askWordNothing() {
        CHECK.promise(20);
        NumeralBabel x = tens();
        CHECK.due("nothing heard", -1, x.askWord(0, 0, 999));
        Check.hear(x, -1);
        CHECK.due("up to 1 one fits", -1, x.askWord(0, 0, 1));
        CHECK.due("up to 2 two fit", 0, x.askWord(0, 0, 2));
        CHECK.due("asked again", 0, x.askWord(0, 0, 2));
        x.atom(0, 0, 0);
        CHECK.due("0 and 1 fit", 0, x.askWord(0, 0, 1));
        NumeralBabel zeros = new NumeralBabel();
        Check.tens(zeros, 0, 0);
        zeros.form(0, 10, 0, 0);
        Check.hear(zeros, -1, -1);
        // 20 to 90 have the word 0 at the place 1, 11 to 19 the word 10 at the place 0.
        CHECK.due("the word 0 is counted", 1, zeros.askWord(0, 0, 99));
        CHECK.due("up to 12 the word 10 alone", 1, zeros.askWord(0, 0, 12));
        CHECK.due("up to 60, nine and five", 1, zeros.askWord(0, 0, 60));
        zeros.empty(0);
        zeros.atom(0, 1, 1);
        zeros.atom(0, 2, 2);
        zeros.base(0, 3, 0, 99, 1);
        // 3: 1 0; 6: 2 0.
        CHECK.due("only the word 0 behind", 0, zeros.askWord(0, 0, 8));
    }

    private static void gap() {
        CHECK.promise(21);
        NumeralBabel x = tens();
        CHECK.due("0 at once", 0, x.gap(0, 0));
        x.atom(0, 0, 0);
        CHECK.due("0 has one", -1, x.gap(0, 0));
        CHECK.due("up to 99", -1, x.gap(0, 99));
        CHECK.due("100", 100, x.gap(0, 100));
        CHECK.due("100 of all", 100, x.gap(0, 999));
        x.dropAtom(0, 7);
        CHECK.due("7", 7, x.gap(0, 999));
        CHECK.due("up to 7", 7, x.gap(0, 7));
        CHECK.due("up to 6", -1, x.gap(0, 6));
        x.atom(0, 7, 7);
        x.base(0, 100, 100, 9, 0);
        CHECK.due("none up to 999", -1, x.gap(0, 999));
        CHECK.refused("bound 1000", Check.ARGUMENT, () -> x.gap(0, 1000));
        CHECK.refused("bound -1", Check.ARGUMENT, () -> x.gap(0, -1));
        CHECK.refused("grammar before bound", Check.OUT, () -> x.gap(4, 1000));
        CHECK.refused("grammar -1", Check.OUT, () -> x.gap(-1, 0));
    }

    private static void clash() {
        CHECK.promise(22);
        NumeralBabel x = tens();
        CHECK.due("numbers without sayings do not clash", -1, x.clash(0, 0, 999));
        x.seam(0, 3, 10, 2);
        CHECK.due("30 is said like 2", 30, x.clash(0, 0, 999));
        CHECK.due("up to 30", 30, x.clash(0, 0, 30));
        CHECK.due("up to 29", -1, x.clash(0, 0, 29));
        x.form(0, 8, 1, 7);
        CHECK.due("8 is said like 7 in class 1", 8, x.clash(0, 1, 999));
        CHECK.due("not in class 2", 30, x.clash(0, 2, 999));
        x.atom(0, 0, 8);
        CHECK.due("8 is said like 0", 8, x.clash(0, 0, 999));
        CHECK.due("again the same", 8, x.clash(0, 0, 999));
        x.base(1, 2, 1, 9, 0);
        x.base(1, 3, 1, 9, 0);
        CHECK.due("3 is said like 2", 3, x.clash(1, 0, 999));
        x.base(2, 999, 5, 9, 0);
        x.atom(2, 0, 5);
        CHECK.due("999 at the bound 999", 999, x.clash(2, 0, 999));
        CHECK.due("not up to 998", -1, x.clash(2, 0, 998));
        CHECK.refused("bound 1000", Check.ARGUMENT, () -> x.clash(0, 0, 1000));
        CHECK.refused("bound -1", Check.ARGUMENT, () -> x.clash(0, 0, -1));
        CHECK.refused("class before bound", Check.OUT, () -> x.clash(0, 3, 1000));
        CHECK.refused("class -1", Check.OUT, () -> x.clash(0, -1, 0));
        CHECK.refused("grammar before bound", Check.OUT, () -> x.clash(4, 0, 1000));
        CHECK.refused("grammar -1", Check.OUT, () -> x.clash(-1, 0, 0));
    }

    /** Rows of one length that differ in one word only are no clash; 0 is a word, not nothing. */
    private static void clashLongSayings() {
        CHECK.promise(22);
        NumeralBabel x = new NumeralBabel();
        x.atom(0, 0, 0);
        x.atom(0, 1, 1);
        x.base(0, 2, 0, 99, 0);
        CHECK.due("2 is said like 0", 2, x.clash(0, 0, 999));
        x.dropAtom(0, 0);
        x.empty(0);
        x.atom(0, 1, 0);
        x.base(0, 2, 0, 99, 1);
        x.joint(0, 0, 0);
        // All words are 0, so only lengths tell sayings apart: 1, 2, 4, 3 and 5 for 1 to 5, then 5 again.
        CHECK.due("6 has five words as 5 has", 6, x.clash(0, 0, 999));
        CHECK.due("up to 5 none", -1, x.clash(0, 0, 5));
        NumeralBabel y = new NumeralBabel();
        Check.tens(y, 0, 0);
        y.base(0, 100, 11, 9, 1);
        CHECK.due("no clash among 999", -1, y.clash(0, 0, 999));
        y.seam(0, 9, 11, 10);
        CHECK.due("900 is said like 10", 900, y.clash(0, 0, 999));
        CHECK.due("up to 899 none", -1, y.clash(0, 0, 899));
    }

    /** 74 and 795 have other words at all seven places, but sums of them that are alike by wrap-around. */
    private static void clashOfMarks() {
        CHECK.promise(22);
        NumeralBabel x = new NumeralBabel();
        int[][] atoms = {{1, 182}, {2, 105}, {3, 19}, {4, 55}, {5, 50}, {7, 191}};
        for (int[] atom : atoms) {
            x.atom(0, atom[0], atom[1]);
        }
        int[][] bases = {{20, 78, 124}, {5, 138, 21}, {100, 157, 127}, {90, 88, 153}};
        for (int[] base : bases) {
            x.joint(0, x.base(0, base[0], base[1], 99, base[0] == 90 ? 1 : 0), base[2]);
        }
        CHECK.says(x, 0, 74, 0, "19 78 124 105 138 21 55");
        CHECK.says(x, 0, 795, 0, "191 157 127 182 88 153 50");
        CHECK.due("they do not clash", -1, x.clash(0, 0, 999));
        x.atom(0, 795, 105);
        CHECK.due("but 795 and 2 do", 795, x.clash(0, 0, 999));
    }
}
