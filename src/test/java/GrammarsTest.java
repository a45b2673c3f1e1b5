/** Promises 1 to 10: what is told of a grammar. */
public final class GrammarsTest {

    private static final Check CHECK = new Check("GrammarsTest");

    public static void main(String[] args) {
        newObject();
        atom();
        atomLimit();
        dropAtom();
        base();
        baseLimit();
        joint();
        less();
        form();
        formLimit();
        ordinal();
        seam();
        empty();
        CHECK.end();
    }

    private static void newObject() {
        CHECK.promise(1);
        NumeralBabel x = new NumeralBabel();
        for (int grammar = 0; grammar < 4; grammar++) {
            int g = grammar;
            CHECK.due("ordinal at first", -1, x.ordinal(g, -1));
            CHECK.due("numberOf(0) at first", -1, x.numberOf(g, 0));
            CHECK.due("gap at first", 0, x.gap(g, 999));
            CHECK.refused("baseTold at first", Check.OUT, () -> x.baseTold(g, 0, 0));
            CHECK.due("empty at first", 0, x.empty(g));
        }
        CHECK.refused("said at first", Check.OUT, () -> x.said(0));
        CHECK.due("forget at first", 0, x.forget());
        CHECK.due("dropExamples at first", 0, x.dropExamples());
        CHECK.due("lost at first", 0, x.lost());
        CHECK.due("shown at first", 0, x.shown());
        for (int cord = 0; cord < 6; cord++) {
            CHECK.due("knots at first", 0, x.knots(cord));
            CHECK.due("base of a cord at first", 10, x.cord(cord, 10));
        }
    }

    private static void atom() {
        CHECK.promise(2);
        NumeralBabel x = new NumeralBabel();
        CHECK.due("a new atom", -1, x.atom(3, 9999, 199));
        CHECK.due("another word", 199, x.atom(3, 9999, 0));
        CHECK.due("a third word", 0, x.atom(3, 9999, 5));
        CHECK.due("lowest number", -1, x.atom(3, 0, 6));
        CHECK.says(x, 3, 9999, 0, "5");
        CHECK.says(x, 3, 0, 0, "6");
        CHECK.says(x, 2, 0, 0, "");
        CHECK.refused("grammar -1", Check.OUT, () -> x.atom(-1, 0, 0));
        CHECK.refused("grammar 4", Check.OUT, () -> x.atom(4, 0, 0));
        CHECK.refused("word -1", Check.OUT, () -> x.atom(0, 0, -1));
        CHECK.refused("word 200", Check.OUT, () -> x.atom(0, 0, 200));
        CHECK.refused("number -1", Check.ARGUMENT, () -> x.atom(3, -1, 0));
        CHECK.refused("number 10000", Check.ARGUMENT, () -> x.atom(3, 10000, 0));
        CHECK.refused("word before number", Check.OUT, () -> x.atom(3, 10000, 200));
        CHECK.refused("word of one that is there", Check.OUT, () -> x.atom(3, 0, 200));
        CHECK.says(x, 3, 0, 0, "6");
        CHECK.due("atoms then", 2, x.empty(3));
    }

    private static void atomLimit() {
        CHECK.promise(2);
        NumeralBabel x = new NumeralBabel();
        for (int i = 0; i < 40; i++) {
            CHECK.due("atom " + i, -1, x.atom(1, (i * 7919) % 10000, i));
        }
        CHECK.refused("the 41st", Check.STATE, () -> x.atom(1, 5, 1));
        CHECK.refused("number before the 41st", Check.ARGUMENT, () -> x.atom(1, -1, 1));
        CHECK.refused("word before the 41st", Check.OUT, () -> x.atom(1, 5, 200));
        CHECK.due("one that is there", 17, x.atom(1, (17 * 7919) % 10000, 117));
        for (int i = 0; i < 40; i++) {
            CHECK.says(x, 1, (i * 7919) % 10000, 0, Integer.toString(i == 17 ? 117 : i));
        }
        CHECK.says(x, 1, 5, 0, "");
        CHECK.due("another grammar", -1, x.atom(0, 5, 1));
        CHECK.due("drop one", 117, x.dropAtom(1, (17 * 7919) % 10000));
        CHECK.due("the 40th again", -1, x.atom(1, 5, 1));
        CHECK.due("atoms then", 40, x.empty(1));
    }

    private static void dropAtom() {
        CHECK.promise(3);
        NumeralBabel x = new NumeralBabel();
        Check.tens(x, 0, 0);
        CHECK.due("drop 1", 1, x.dropAtom(0, 1));
        CHECK.due("drop 1 again", -1, x.dropAtom(0, 1));
        CHECK.due("drop 9", 9, x.dropAtom(0, 9));
        CHECK.due("drop 5", 5, x.dropAtom(0, 5));
        CHECK.due("of another grammar", -1, x.dropAtom(1, 2));
        CHECK.due("a base is no atom", -1, x.dropAtom(0, 10));
        CHECK.due("number -1", -1, x.dropAtom(0, -1));
        CHECK.due("number 10000", -1, x.dropAtom(0, 10000));
        CHECK.due("least int", -1, x.dropAtom(0, Integer.MIN_VALUE));
        CHECK.due("greatest int", -1, x.dropAtom(0, Integer.MAX_VALUE));
        CHECK.refused("grammar -1", Check.OUT, () -> x.dropAtom(-1, 2));
        CHECK.refused("grammar 4", Check.OUT, () -> x.dropAtom(4, 2));
        CHECK.says(x, 0, 1, 0, "");
        CHECK.says(x, 0, 5, 0, "");
        CHECK.says(x, 0, 6, 0, "6");
        CHECK.says(x, 0, 8, 0, "8");
        CHECK.due("what is left", 7, x.empty(0));
    }

    private static void base() {
        CHECK.promise(4);
        NumeralBabel x = new NumeralBabel();
        CHECK.due("the first", 0, x.base(2, 5000, 199, 99, 15));
        CHECK.due("the second", 1, x.base(2, 2, 0, 1, 0));
        CHECK.due("of another grammar", 0, x.base(1, 2, 0, 1, 0));
        long[] want = {5000, 199, 99, 15, -1, 0, 0};
        for (int what = 0; what < 7; what++) {
            CHECK.due("told " + what, want[what], x.baseTold(2, 0, what));
        }
        CHECK.refused("grammar -1", Check.OUT, () -> x.base(-1, 10, 0, 1, 0));
        CHECK.refused("grammar 4", Check.OUT, () -> x.base(4, 10, 0, 1, 0));
        CHECK.refused("word -1", Check.OUT, () -> x.base(2, 10, -1, 1, 0));
        CHECK.refused("word 200", Check.OUT, () -> x.base(2, 1, 200, 0, 16));
        CHECK.refused("base 1", Check.ARGUMENT, () -> x.base(2, 1, 0, 1, 0));
        CHECK.refused("base 5001", Check.ARGUMENT, () -> x.base(2, 5001, 0, 1, 0));
        CHECK.refused("base 0", Check.ARGUMENT, () -> x.base(2, 0, 0, 1, 0));
        CHECK.refused("most 0", Check.ARGUMENT, () -> x.base(2, 10, 0, 0, 0));
        CHECK.refused("most 100", Check.ARGUMENT, () -> x.base(2, 10, 0, 100, 0));
        CHECK.refused("style -1", Check.ARGUMENT, () -> x.base(2, 10, 0, 1, -1));
        CHECK.refused("style 16", Check.ARGUMENT, () -> x.base(2, 10, 0, 1, 16));
        CHECK.refused("one that is there", Check.STATE, () -> x.base(2, 5000, 0, 1, 0));
        CHECK.refused("the other that is there", Check.STATE, () -> x.base(2, 2, 0, 1, 0));
        CHECK.refused("most of one that is there", Check.ARGUMENT, () -> x.base(2, 2, 0, 0, 0));
        CHECK.due("word as before", 199, x.baseTold(2, 0, 1));
        CHECK.due("two as before", 2, x.empty(2));
    }

    private static void baseLimit() {
        CHECK.promise(4);
        NumeralBabel x = new NumeralBabel();
        for (int place = 0; place < 5; place++) {
            CHECK.due("place", place, x.base(0, 60 - place, place, 9, 0));
        }
        CHECK.refused("the sixth", Check.STATE, () -> x.base(0, 10, 0, 1, 0));
        CHECK.refused("word before the sixth", Check.OUT, () -> x.base(0, 10, 200, 1, 0));
        CHECK.refused("range before the sixth", Check.ARGUMENT, () -> x.base(0, 10, 0, 1, 16));
        CHECK.refused("no sixth place", Check.OUT, () -> x.baseTold(0, 5, 0));
        CHECK.due("the last one's number", 56, x.baseTold(0, 4, 0));
        CHECK.due("bases", 5, x.empty(0));
        CHECK.due("told again", 0, x.base(0, 60, 7, 9, 3));
    }

    private static void joint() {
        CHECK.promise(5);
        NumeralBabel x = new NumeralBabel();
        Check.tens(x, 0, 0);
        CHECK.due("none before", -1, x.joint(0, 0, 0));
        CHECK.says(x, 0, 12, 0, "10 0 2");
        CHECK.due("0 before", 0, x.joint(0, 0, 199));
        CHECK.says(x, 0, 12, 0, "10 199 2");
        CHECK.says(x, 0, 20, 0, "2 10");
        CHECK.refused("word -2", Check.OUT, () -> x.joint(0, 0, -2));
        CHECK.refused("word 200", Check.OUT, () -> x.joint(0, 0, 200));
        CHECK.refused("place 1", Check.OUT, () -> x.joint(0, 1, 0));
        CHECK.refused("place -1", Check.OUT, () -> x.joint(0, -1, 0));
        CHECK.refused("grammar 4", Check.OUT, () -> x.joint(4, 0, 0));
        CHECK.refused("grammar -1", Check.OUT, () -> x.joint(-1, 0, 0));
        CHECK.due("199 before", 199, x.joint(0, 0, -1));
        CHECK.due("none again", -1, x.joint(0, 0, -1));
        CHECK.says(x, 0, 12, 0, "10 2");
    }

    private static void less() {
        CHECK.promise(6);
        NumeralBabel x = new NumeralBabel();
        Check.tens(x, 0, 0);
        CHECK.due("0 at first", 0, x.less(0, 0, 2, 50));
        CHECK.says(x, 0, 17, 0, "10 7");
        CHECK.says(x, 0, 18, 0, "2 50 2 10");
        CHECK.says(x, 0, 20, 0, "2 10");
        CHECK.due("2 before", 2, x.less(0, 0, 9, 51));
        CHECK.says(x, 0, 11, 0, "9 51 2 10");
        CHECK.due("word told", 51, x.baseTold(0, 0, 6));
        CHECK.refused("less 10", Check.ARGUMENT, () -> x.less(0, 0, 10, 1));
        CHECK.refused("less -1", Check.ARGUMENT, () -> x.less(0, 0, -1, 1));
        CHECK.refused("word before less", Check.OUT, () -> x.less(0, 0, 10, 200));
        CHECK.refused("no word for it", Check.OUT, () -> x.less(0, 0, 1, -1));
        CHECK.refused("place before less", Check.OUT, () -> x.less(0, 1, 10, 1));
        CHECK.refused("place -1", Check.OUT, () -> x.less(0, -1, 1, 1));
        CHECK.refused("grammar 4", Check.OUT, () -> x.less(4, 0, 1, 1));
        CHECK.due("9 before", 9, x.less(0, 0, 0, 52));
        CHECK.due("word kept", 52, x.baseTold(0, 0, 6));
        CHECK.says(x, 0, 19, 0, "10 9");
    }

    private static void form() {
        CHECK.promise(7);
        NumeralBabel x = new NumeralBabel();
        Check.tens(x, 0, 0);
        CHECK.due("new, class 0", -1, x.form(0, 3, 0, 0));
        CHECK.due("new, class 2", -1, x.form(0, 3, 2, 62));
        CHECK.due("new, ordinal", -1, x.form(0, 3, 3, 63));
        CHECK.due("class 0 before", 0, x.form(0, 3, 0, 60));
        CHECK.due("of another grammar", -1, x.form(1, 3, 0, 61));
        CHECK.says(x, 0, 23, 0, "2 10 60");
        CHECK.says(x, 0, 23, 1, "2 10 3");
        CHECK.says(x, 0, 23, 2, "2 10 62");
        CHECK.saysOrdinal(x, 0, 23, "2 10 63");
        CHECK.says(x, 0, 30, 0, "3 10");
        CHECK.refused("kind 4", Check.ARGUMENT, () -> x.form(0, 3, 4, 0));
        CHECK.refused("kind -1", Check.ARGUMENT, () -> x.form(0, 3, -1, 0));
        CHECK.refused("word before kind", Check.OUT, () -> x.form(0, 200, 4, 0));
        CHECK.refused("form before kind", Check.OUT, () -> x.form(0, 0, 4, 200));
        CHECK.refused("word -1", Check.OUT, () -> x.form(0, -1, 0, 0));
        CHECK.refused("form -1", Check.OUT, () -> x.form(0, 3, 0, -1));
        CHECK.refused("grammar 4", Check.OUT, () -> x.form(4, 0, 0, 0));
        CHECK.refused("grammar -1", Check.OUT, () -> x.form(-1, 0, 0, 0));
        CHECK.says(x, 0, 3, 0, "60");
    }

    private static void formLimit() {
        CHECK.promise(7);
        NumeralBabel x = new NumeralBabel();
        for (int i = 0; i < 30; i++) {
            CHECK.due("form " + i, -1, x.form(0, i / 4, i % 4, i));
        }
        CHECK.refused("the 31st", Check.STATE, () -> x.form(0, 7, 2, 99));
        CHECK.refused("kind before the 31st", Check.ARGUMENT, () -> x.form(0, 7, 4, 99));
        CHECK.refused("word before the 31st", Check.OUT, () -> x.form(0, 7, 2, 200));
        CHECK.due("one that is there", 29, x.form(0, 7, 1, 99));
        CHECK.due("and again", 99, x.form(0, 7, 1, 98));
        x.atom(0, 1, 7);
        CHECK.says(x, 0, 1, 1, "98");
        CHECK.says(x, 0, 1, 2, "7");
        x.empty(0);
        CHECK.due("new when emptied", -1, x.form(0, 7, 1, 99));
    }

    private static void ordinal() {
        CHECK.promise(8);
        NumeralBabel x = new NumeralBabel();
        Check.tens(x, 0, 0);
        CHECK.saysOrdinal(x, 0, 12, "10 2");
        CHECK.due("none at first", -1, x.ordinal(0, 0));
        CHECK.saysOrdinal(x, 0, 12, "10 2 0");
        CHECK.due("0 before", 0, x.ordinal(0, 199));
        CHECK.saysOrdinal(x, 0, 12, "10 2 199");
        CHECK.says(x, 0, 12, 0, "10 2");
        CHECK.refused("word -2", Check.OUT, () -> x.ordinal(0, -2));
        CHECK.refused("word 200", Check.OUT, () -> x.ordinal(0, 200));
        CHECK.refused("grammar 4", Check.OUT, () -> x.ordinal(4, 0));
        CHECK.refused("grammar -1", Check.OUT, () -> x.ordinal(-1, -1));
        CHECK.due("none in another grammar", -1, x.ordinal(1, -1));
        CHECK.due("199 before", 199, x.ordinal(0, -1));
        CHECK.saysOrdinal(x, 0, 12, "10 2");
    }

    private static void seam() {
        CHECK.promise(9);
        NumeralBabel x = new NumeralBabel();
        Check.tens(x, 0, 0);
        CHECK.due("the first", 1, x.seam(0, 2, 10, 20));
        CHECK.due("the same again", 2, x.seam(0, 2, 10, 20));
        CHECK.due("all words the same", 3, x.seam(0, 0, 0, 0));
        CHECK.due("greatest words", 4, x.seam(0, 199, 199, 199));
        CHECK.due("of another grammar", 1, x.seam(1, 2, 10, 21));
        CHECK.refused("left -1", Check.OUT, () -> x.seam(0, -1, 0, 0));
        CHECK.refused("left 200", Check.OUT, () -> x.seam(0, 200, 0, 0));
        CHECK.refused("right -1", Check.OUT, () -> x.seam(0, 0, -1, 0));
        CHECK.refused("right 200", Check.OUT, () -> x.seam(0, 0, 200, 0));
        CHECK.refused("becomes -1", Check.OUT, () -> x.seam(0, 0, 0, -1));
        CHECK.refused("becomes 200", Check.OUT, () -> x.seam(0, 0, 0, 200));
        CHECK.refused("grammar -1", Check.OUT, () -> x.seam(-1, 0, 0, 0));
        CHECK.refused("grammar 4", Check.OUT, () -> x.seam(4, 0, 0, 0));
        CHECK.due("the fifth", 5, x.seam(0, 20, 3, 23));
        CHECK.due("the sixth", 6, x.seam(0, 1, 1, 1));
        CHECK.refused("the seventh", Check.STATE, () -> x.seam(0, 1, 1, 1));
        CHECK.refused("word before the seventh", Check.OUT, () -> x.seam(0, 1, 1, 200));
        CHECK.says(x, 0, 23, 0, "23");
        CHECK.says(x, 0, 24, 0, "20 4");
    }

    private static void empty() {
        CHECK.promise(10);
        NumeralBabel x = new NumeralBabel();
        Check.tens(x, 0, 0);
        Check.tens(x, 1, 0);
        x.base(0, 100, 11, 9, 1);
        x.joint(0, 0, 12);
        x.less(0, 0, 3, 13);
        x.form(0, 3, 0, 33);
        x.ordinal(0, 40);
        x.seam(0, 10, 1, 41);
        x.say(0, 12, 0);
        CHECK.refused("grammar -1", Check.OUT, () -> x.empty(-1));
        CHECK.refused("grammar 4", Check.OUT, () -> x.empty(4));
        CHECK.due("atoms and bases", 11, x.empty(0));
        CHECK.judge("the saying is kept", "10 12 2", Check.words(x));
        CHECK.due("then none", 0, x.empty(0));
        CHECK.due("no ordinal", -1, x.ordinal(0, -1));
        CHECK.due("no seams", 1, x.seam(0, 150, 151, 152));
        CHECK.due("no form", -1, x.form(0, 3, 1, 34));
        CHECK.refused("no base", Check.OUT, () -> x.joint(0, 0, 0));
        Check.tens(x, 0, 0);
        CHECK.due("no joint", -1, x.baseTold(0, 0, 4));
        CHECK.due("no less", 0, x.baseTold(0, 0, 5));
        CHECK.due("no word for less", 0, x.baseTold(0, 0, 6));
        CHECK.says(x, 0, 13, 0, "10 3");
        CHECK.says(x, 0, 11, 0, "10 1");
        CHECK.says(x, 1, 11, 0, "10 1");
    }
}
