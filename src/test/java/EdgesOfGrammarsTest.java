/** The edges that the promises 1 to 10 name, sentence by sentence. */
public final class EdgesOfGrammarsTest {

    private static final Check CHECK = new Check("EdgesOfGrammarsTest");
    private static final int LEAST_INT = Integer.MIN_VALUE;
    private static final int GREATEST_INT = Integer.MAX_VALUE;

    public static void main(String[] args) {
        newObject();
        atom();
        atomRefused();
        dropAtom();
        base();
        baseRefused();
        joint();
        less();
        form();
        formRefused();
        ordinal();
        seam();
        empty();
        CHECK.end();
    }

    private static NumeralBabel tens() {
        NumeralBabel x = new NumeralBabel();
        Check.tens(x, 0, 0);
        return x;
    }

    private static void newObject() {
        CHECK.sentence(1, "Empty grammars; nothing heard, no examples.");
        NumeralBabel x = new NumeralBabel();
        for (int grammar = 0; grammar < 4; grammar++) {
            int g = grammar;
            CHECK.due("no number has a name", 0, x.gap(g, 999));
            CHECK.due("no clash", -1, x.clash(g, 0, 999));
            CHECK.due("no word", -1, x.numberOf(g, 0));
            CHECK.due("no atom", -1, x.dropAtom(g, 0));
            CHECK.refused("no base", Check.OUT, () -> x.baseTold(g, 0, 0));
            CHECK.due("no ordinal", -1, x.ordinal(g, -1));
            CHECK.due("no form", -1, x.form(g, 0, 0, 0));
            CHECK.due("no seam", 1, x.seam(g, 1, 1, 1));
            CHECK.due("nothing to empty", 0, x.empty(g));
        }
        CHECK.refused("no saying", Check.OUT, () -> x.said(0));
        CHECK.refused("no example of nothing heard", Check.STATE, () -> x.example(0));
        CHECK.due("nothing heard", 0, x.forget());
        CHECK.due("the first word", 1, x.hear(0));
        CHECK.due("no examples", 0, x.dropExamples());
        CHECK.due("the first example", 1, x.example(0));
        NumeralBabel other = new NumeralBabel();
        CHECK.due("another object has none of it", 0, other.forget() + other.dropExamples());
    }

    // ---- promise 2

    private static void atom() {
        CHECK.sentence(2, "Tells an atom, in place of one that is there for the number.");
        NumeralBabel x = new NumeralBabel();
        x.atom(0, 5, 6);
        x.atom(0, 5, 7);
        CHECK.says(x, 0, 5, 0, "7");
        CHECK.due("not the word before", -1, x.numberOf(0, 6));
        CHECK.due("it is one atom", 1, x.empty(0));
        CHECK.sentence(2, "- `number`: 0 to 9999");
        CHECK.due("number 0", -1, x.atom(0, 0, 1));
        CHECK.due("number 9999", -1, x.atom(0, 9999, 2));
        CHECK.says(x, 0, 0, 0, "1");
        CHECK.says(x, 0, 9999, 0, "2");
        CHECK.sentence(2, "Returns the word before; -1 for none.");
        CHECK.due("none", -1, x.atom(1, 7, 0));
        CHECK.due("the word 0", 0, x.atom(1, 7, 199));
        CHECK.due("the word 199", 199, x.atom(1, 7, 199));
        x.dropAtom(1, 7);
        CHECK.due("none once dropped", -1, x.atom(1, 7, 3));
        CHECK.due("none in another grammar", -1, x.atom(2, 7, 3));
    }

    private static void atomRefused() {
        CHECK.sentence(2, "Throws `IndexOutOfBoundsException` as told");
        NumeralBabel x = new NumeralBabel();
        CHECK.refused("grammar -1", Check.OUT, () -> x.atom(-1, 0, 0));
        CHECK.refused("grammar 4", Check.OUT, () -> x.atom(4, 0, 0));
        CHECK.refused("word -1", Check.OUT, () -> x.atom(0, 0, -1));
        CHECK.refused("word 200", Check.OUT, () -> x.atom(0, 0, 200));
        CHECK.refused("word ahead of number", Check.OUT, () -> x.atom(0, -1, 200));
        CHECK.sentence(2, "Throws `IllegalArgumentException` if number is out of range");
        CHECK.refused("number -1", Check.ARGUMENT, () -> x.atom(0, -1, 0));
        CHECK.refused("number 10000", Check.ARGUMENT, () -> x.atom(0, 10000, 0));
        CHECK.refused("the least int", Check.ARGUMENT, () -> x.atom(0, LEAST_INT, 0));
        CHECK.refused("the greatest int", Check.ARGUMENT, () -> x.atom(0, GREATEST_INT, 0));
        CHECK.due("nothing was told", 0, x.empty(0));
        CHECK.sentence(2, "Throws `IllegalStateException` if it is new, and there are 40");
        for (int number = 0; number < 39; number++) {
            x.atom(0, number, number);
        }
        CHECK.due("the 40th", -1, x.atom(0, 9999, 150));
        CHECK.refused("the 41st", Check.STATE, () -> x.atom(0, 39, 0));
        CHECK.refused("number ahead of the 41st", Check.ARGUMENT, () -> x.atom(0, 10000, 0));
        CHECK.refused("word ahead of the 41st", Check.OUT, () -> x.atom(0, 39, 200));
        CHECK.due("not new, the first", 0, x.atom(0, 0, 160));
        CHECK.due("not new, the last", 150, x.atom(0, 9999, 161));
        CHECK.says(x, 0, 39, 0, "");
        CHECK.due("new in another grammar", -1, x.atom(1, 39, 0));
        CHECK.due("one is dropped", 160, x.dropAtom(0, 0));
        CHECK.due("then there is room", -1, x.atom(0, 39, 0));
        CHECK.refused("for no more than one", Check.STATE, () -> x.atom(0, 0, 0));
    }

    // ---- promise 3

    private static void dropAtom() {
        CHECK.sentence(3, "Drops an atom.");
        NumeralBabel x = tens();
        x.dropAtom(0, 7);
        CHECK.says(x, 0, 7, 0, "");
        CHECK.says(x, 0, 17, 0, "");
        CHECK.says(x, 0, 8, 0, "8");
        CHECK.due("nine are left", 9, x.empty(0));
        CHECK.sentence(3, "- `number`: any");
        Check.tens(x, 0, 0);
        CHECK.due("-1", -1, x.dropAtom(0, -1));
        CHECK.due("10000", -1, x.dropAtom(0, 10000));
        CHECK.due("the least int", -1, x.dropAtom(0, LEAST_INT));
        CHECK.due("the greatest int", -1, x.dropAtom(0, GREATEST_INT));
        CHECK.due("all are left", 10, x.empty(0));
        CHECK.sentence(3, "Returns the word; -1 if there was none.");
        x.atom(0, 0, 0);
        x.atom(0, 9999, 199);
        x.base(0, 10, 5, 9, 0);
        CHECK.due("the word 0", 0, x.dropAtom(0, 0));
        CHECK.due("none any more", -1, x.dropAtom(0, 0));
        CHECK.due("the word 199", 199, x.dropAtom(0, 9999));
        CHECK.due("a base is none", -1, x.dropAtom(0, 10));
        CHECK.due("none in another grammar", -1, x.dropAtom(1, 9999));
        CHECK.due("none in an empty grammar", -1, x.dropAtom(3, 0));
        CHECK.sentence(3, "Throws `IndexOutOfBoundsException` as told");
        CHECK.refused("grammar -1", Check.OUT, () -> x.dropAtom(-1, 0));
        CHECK.refused("grammar 4", Check.OUT, () -> x.dropAtom(4, 0));
    }

    // ---- promise 4

    private static void base() {
        CHECK.sentence(4, "Tells a base, without a joint, with the less 0.");
        NumeralBabel x = tens();
        CHECK.due("no joint", -1, x.baseTold(0, 0, 4));
        CHECK.due("the less 0", 0, x.baseTold(0, 0, 5));
        CHECK.says(x, 0, 19, 0, "10 9");
        x.joint(0, 0, 5);
        x.less(0, 0, 1, 6);
        x.empty(0);
        Check.tens(x, 0, 0);
        CHECK.due("no joint when told again", -1, x.baseTold(0, 0, 4));
        CHECK.due("the less 0 when told again", 0, x.baseTold(0, 0, 5));
        CHECK.says(x, 0, 19, 0, "10 9");
        CHECK.sentence(4, "- `base`: 2 to 5000");
        CHECK.due("base 2", 1, x.base(0, 2, 0, 9, 0));
        CHECK.due("base 5000", 2, x.base(0, 5000, 0, 9, 0));
        CHECK.due("base 2 told", 2, x.baseTold(0, 1, 0));
        CHECK.due("base 5000 told", 5000, x.baseTold(0, 2, 0));
        CHECK.sentence(4, "- `most`: 1 to 99");
        CHECK.due("most 1", 3, x.base(0, 100, 0, 1, 0));
        CHECK.due("most 99", 4, x.base(0, 1000, 0, 99, 0));
        CHECK.due("most 1 told", 1, x.baseTold(0, 3, 2));
        CHECK.due("most 99 told", 99, x.baseTold(0, 4, 2));
        CHECK.sentence(4, "- `style`: 0 to 15");
        CHECK.due("style 0", 0, x.base(1, 10, 0, 9, 0));
        CHECK.due("style 15", 1, x.base(1, 100, 0, 9, 15));
        CHECK.due("style 0 told", 0, x.baseTold(1, 0, 3));
        CHECK.due("style 15 told", 15, x.baseTold(1, 1, 3));
        CHECK.sentence(4, "Returns its place.");
        for (int place = 0; place < 5; place++) {
            CHECK.due("place", place, x.base(2, 50 - place, place, 9, 0));
        }
        CHECK.due("the first in another grammar", 0, x.base(3, 50, 0, 9, 0));
        CHECK.due("told at its place", 46, x.baseTold(2, 4, 0));
        x.empty(2);
        CHECK.due("the first when emptied", 0, x.base(2, 46, 0, 9, 0));
    }

    private static void baseRefused() {
        CHECK.sentence(4, "Throws `IndexOutOfBoundsException` as told");
        NumeralBabel x = new NumeralBabel();
        CHECK.refused("grammar -1", Check.OUT, () -> x.base(-1, 10, 0, 9, 0));
        CHECK.refused("grammar 4", Check.OUT, () -> x.base(4, 10, 0, 9, 0));
        CHECK.refused("word -1", Check.OUT, () -> x.base(0, 10, -1, 9, 0));
        CHECK.refused("word 200", Check.OUT, () -> x.base(0, 10, 200, 9, 0));
        CHECK.refused("word ahead of the ranges", Check.OUT, () -> x.base(0, 1, 200, 0, 16));
        CHECK.sentence(4, "Throws `IllegalArgumentException` if base, most or style is out of range");
        CHECK.refused("base 1", Check.ARGUMENT, () -> x.base(0, 1, 0, 9, 0));
        CHECK.refused("base 0", Check.ARGUMENT, () -> x.base(0, 0, 0, 9, 0));
        CHECK.refused("base -2", Check.ARGUMENT, () -> x.base(0, -2, 0, 9, 0));
        CHECK.refused("base 5001", Check.ARGUMENT, () -> x.base(0, 5001, 0, 9, 0));
        CHECK.refused("most 0", Check.ARGUMENT, () -> x.base(0, 10, 0, 0, 0));
        CHECK.refused("most -1", Check.ARGUMENT, () -> x.base(0, 10, 0, -1, 0));
        CHECK.refused("most 100", Check.ARGUMENT, () -> x.base(0, 10, 0, 100, 0));
        CHECK.refused("style -1", Check.ARGUMENT, () -> x.base(0, 10, 0, 9, -1));
        CHECK.refused("style 16", Check.ARGUMENT, () -> x.base(0, 10, 0, 9, 16));
        CHECK.due("nothing was told", 0, x.empty(0));
        CHECK.sentence(4, "Throws `IllegalStateException` if there are 5, or it is there");
        CHECK.due("the first", 0, x.base(0, 10, 0, 9, 0));
        CHECK.refused("it is there", Check.STATE, () -> x.base(0, 10, 1, 8, 1));
        CHECK.refused("most ahead of that", Check.ARGUMENT, () -> x.base(0, 10, 1, 100, 1));
        CHECK.refused("word ahead of that", Check.OUT, () -> x.base(0, 10, 200, 8, 1));
        CHECK.due("there in another grammar only", 0, x.base(1, 10, 0, 9, 0));
        for (int place = 1; place < 5; place++) {
            CHECK.due("place", place, x.base(0, 10 + place, 0, 9, 0));
        }
        CHECK.refused("the sixth", Check.STATE, () -> x.base(0, 20, 0, 9, 0));
        CHECK.refused("style ahead of the sixth", Check.ARGUMENT, () -> x.base(0, 20, 0, 9, 16));
        CHECK.due("as it was", 9, x.baseTold(0, 0, 2));
        CHECK.due("five", 5, x.empty(0));
    }

    // ---- promises 5 and 6

    private static void joint() {
        CHECK.sentence(5, "Tells the joint of a base.");
        NumeralBabel x = tens();
        x.base(0, 100, 11, 9, 0);
        x.joint(0, 1, 12);
        CHECK.says(x, 0, 111, 0, "11 12 10 1");
        CHECK.sentence(5, "- `word`: a word; -1 for none");
        x.joint(0, 0, 0);
        CHECK.says(x, 0, 111, 0, "11 12 10 0 1");
        x.joint(0, 0, 199);
        CHECK.says(x, 0, 111, 0, "11 12 10 199 1");
        x.joint(0, 0, -1);
        CHECK.says(x, 0, 111, 0, "11 12 10 1");
        CHECK.sentence(5, "Returns the one before.");
        CHECK.due("none", -1, x.joint(0, 0, 0));
        CHECK.due("the word 0", 0, x.joint(0, 0, 199));
        CHECK.due("the word 199", 199, x.joint(0, 0, -1));
        CHECK.due("none again", -1, x.joint(0, 0, -1));
        CHECK.due("of the other base", 12, x.joint(0, 1, 12));
        CHECK.sentence(5, "Throws `IndexOutOfBoundsException` as told");
        CHECK.refused("grammar -1", Check.OUT, () -> x.joint(-1, 0, 0));
        CHECK.refused("grammar 4", Check.OUT, () -> x.joint(4, 0, 0));
        CHECK.refused("place -1", Check.OUT, () -> x.joint(0, -1, 0));
        CHECK.refused("place 2 of two", Check.OUT, () -> x.joint(0, 2, 0));
        CHECK.refused("a grammar without bases", Check.OUT, () -> x.joint(1, 0, 0));
        CHECK.refused("word -2", Check.OUT, () -> x.joint(0, 0, -2));
        CHECK.refused("word 200", Check.OUT, () -> x.joint(0, 0, 200));
        CHECK.due("as it was", -1, x.baseTold(0, 0, 4));
    }

    private static void less() {
        CHECK.sentence(6, "Tells the less of a base.");
        NumeralBabel x = tens();
        x.base(0, 100, 11, 9, 0);
        x.less(0, 1, 2, 13);
        CHECK.says(x, 0, 98, 0, "9 10 8");
        CHECK.says(x, 0, 198, 0, "2 13 2 11");
        CHECK.says(x, 0, 197, 0, "11 9 10 7");
        CHECK.sentence(6, "- `less`: 0 to 9");
        x.less(0, 0, 9, 14);
        CHECK.says(x, 0, 11, 0, "9 14 2 10");
        x.less(0, 0, 0, 15);
        CHECK.says(x, 0, 19, 0, "10 9");
        CHECK.due("the word is told with it", 15, x.baseTold(0, 0, 6));
        CHECK.sentence(6, "Returns the one before.");
        CHECK.due("0, not the word", 0, x.less(0, 0, 9, 199));
        CHECK.due("9", 9, x.less(0, 0, 1, 0));
        CHECK.due("1", 1, x.less(0, 0, 0, 5));
        CHECK.due("of the other base", 2, x.less(0, 1, 2, 13));
        CHECK.sentence(6, "Throws `IndexOutOfBoundsException` as told");
        CHECK.refused("grammar -1", Check.OUT, () -> x.less(-1, 0, 1, 0));
        CHECK.refused("grammar 4", Check.OUT, () -> x.less(4, 0, 1, 0));
        CHECK.refused("place -1", Check.OUT, () -> x.less(0, -1, 1, 0));
        CHECK.refused("place 2 of two", Check.OUT, () -> x.less(0, 2, 1, 0));
        CHECK.refused("word -1", Check.OUT, () -> x.less(0, 0, 1, -1));
        CHECK.refused("word 200", Check.OUT, () -> x.less(0, 0, 1, 200));
        CHECK.refused("word -1 even with the less 0", Check.OUT, () -> x.less(0, 0, 0, -1));
        CHECK.refused("word ahead of less", Check.OUT, () -> x.less(0, 0, 10, 200));
        CHECK.sentence(6, "Throws `IllegalArgumentException` if less is out of range");
        CHECK.refused("less -1", Check.ARGUMENT, () -> x.less(0, 0, -1, 6));
        CHECK.refused("less 10", Check.ARGUMENT, () -> x.less(0, 0, 10, 6));
        CHECK.due("less as it was", 0, x.baseTold(0, 0, 5));
        CHECK.due("word as it was", 5, x.baseTold(0, 0, 6));
    }

    // ---- promise 7

    private static void form() {
        CHECK.sentence(7, "Tells a form of a word, in place of one that is there.");
        NumeralBabel x = tens();
        x.form(0, 3, 0, 60);
        x.form(0, 3, 0, 61);
        CHECK.says(x, 0, 13, 0, "10 61");
        CHECK.says(x, 0, 14, 0, "10 4");
        CHECK.sentence(7, "- `kind`: 0 to 2 for a class, 3 for the ordinal");
        x.form(0, 3, 2, 62);
        x.form(0, 3, 3, 63);
        CHECK.says(x, 0, 13, 0, "10 61");
        CHECK.says(x, 0, 13, 1, "10 3");
        CHECK.says(x, 0, 13, 2, "10 62");
        CHECK.saysOrdinal(x, 0, 13, "10 63");
        CHECK.sentence(7, "Returns the form before; -1 for none.");
        CHECK.due("none", -1, x.form(0, 199, 0, 0));
        CHECK.due("the form 0", 0, x.form(0, 199, 0, 199));
        CHECK.due("the form 199, its own word", 199, x.form(0, 199, 0, 5));
        CHECK.due("none of that word for another class", -1, x.form(0, 199, 1, 5));
        CHECK.due("none of that word for the ordinal", -1, x.form(0, 199, 3, 5));
        CHECK.due("none of another word", -1, x.form(0, 198, 0, 5));
        CHECK.due("none in another grammar", -1, x.form(1, 199, 0, 5));
    }

    private static void formRefused() {
        CHECK.sentence(7, "Throws `IndexOutOfBoundsException` as told, of both words");
        NumeralBabel x = new NumeralBabel();
        CHECK.refused("grammar -1", Check.OUT, () -> x.form(-1, 0, 0, 0));
        CHECK.refused("grammar 4", Check.OUT, () -> x.form(4, 0, 0, 0));
        CHECK.refused("word -1", Check.OUT, () -> x.form(0, -1, 0, 0));
        CHECK.refused("word 200", Check.OUT, () -> x.form(0, 200, 0, 0));
        CHECK.refused("form -1", Check.OUT, () -> x.form(0, 0, 0, -1));
        CHECK.refused("form 200", Check.OUT, () -> x.form(0, 0, 0, 200));
        CHECK.refused("form ahead of kind", Check.OUT, () -> x.form(0, 0, 4, 200));
        CHECK.sentence(7, "Throws `IllegalArgumentException` if kind is out of range");
        CHECK.refused("kind -1", Check.ARGUMENT, () -> x.form(0, 0, -1, 0));
        CHECK.refused("kind 4", Check.ARGUMENT, () -> x.form(0, 0, 4, 0));
        CHECK.sentence(7, "Throws `IllegalStateException` if it is new, and there are 30");
        for (int i = 0; i < 30; i++) {
            CHECK.due("form " + i, -1, x.form(0, i, i % 4, 100 + i));
        }
        CHECK.refused("the 31st", Check.STATE, () -> x.form(0, 30, 0, 0));
        CHECK.refused("a word's other class", Check.STATE, () -> x.form(0, 0, 1, 0));
        CHECK.refused("kind ahead of the 31st", Check.ARGUMENT, () -> x.form(0, 30, 4, 0));
        CHECK.refused("word ahead of the 31st", Check.OUT, () -> x.form(0, 200, 0, 0));
        CHECK.due("not new, the first", 100, x.form(0, 0, 0, 50));
        CHECK.due("not new, the last", 129, x.form(0, 29, 1, 51));
        x.atom(0, 1, 0);
        CHECK.says(x, 0, 1, 0, "50");
        CHECK.says(x, 0, 1, 1, "0");
        CHECK.due("new in another grammar", -1, x.form(1, 30, 0, 0));
    }

    // ---- promises 8 to 10

    private static void ordinal() {
        CHECK.sentence(8, "Tells the word of ordinals.");
        NumeralBabel x = tens();
        x.ordinal(0, 40);
        CHECK.saysOrdinal(x, 0, 12, "10 2 40");
        CHECK.says(x, 0, 12, 0, "10 2");
        CHECK.sentence(8, "- `word`: a word; -1 for none, as at first");
        CHECK.saysOrdinal(x, 0, 0, "");
        CHECK.due("none at first", -1, x.ordinal(1, 0));
        x.ordinal(0, 0);
        CHECK.saysOrdinal(x, 0, 12, "10 2 0");
        x.ordinal(0, 199);
        CHECK.saysOrdinal(x, 0, 12, "10 2 199");
        x.ordinal(0, -1);
        CHECK.saysOrdinal(x, 0, 12, "10 2");
        CHECK.sentence(8, "Returns the one before.");
        CHECK.due("none", -1, x.ordinal(0, 0));
        CHECK.due("the word 0", 0, x.ordinal(0, 199));
        CHECK.due("the word 199", 199, x.ordinal(0, -1));
        CHECK.due("none again", -1, x.ordinal(0, -1));
        CHECK.due("of the other grammar", 0, x.ordinal(1, -1));
        CHECK.sentence(8, "Throws `IndexOutOfBoundsException` as told");
        CHECK.refused("grammar -1", Check.OUT, () -> x.ordinal(-1, 0));
        CHECK.refused("grammar 4", Check.OUT, () -> x.ordinal(4, 0));
        CHECK.refused("word -2", Check.OUT, () -> x.ordinal(0, -2));
        CHECK.refused("word 200", Check.OUT, () -> x.ordinal(0, 200));
        CHECK.due("as it was", -1, x.ordinal(0, -1));
    }

    private static void seam() {
        CHECK.sentence(9, "Adds a seam behind the others.");
        NumeralBabel x = tens();
        x.seam(0, 2, 10, 20);
        x.seam(0, 2, 10, 30);
        x.seam(0, 20, 3, 23);
        CHECK.says(x, 0, 20, 0, "20");
        CHECK.says(x, 0, 23, 0, "23");
        CHECK.sentence(9, "Returns how many there are then.");
        CHECK.due("the fourth", 4, x.seam(0, 0, 0, 0));
        CHECK.due("the first of another grammar", 1, x.seam(1, 199, 199, 199));
        CHECK.due("the fifth", 5, x.seam(0, 0, 0, 0));
        CHECK.sentence(9, "Throws `IndexOutOfBoundsException` as told, of all three words");
        CHECK.refused("grammar -1", Check.OUT, () -> x.seam(-1, 0, 0, 0));
        CHECK.refused("grammar 4", Check.OUT, () -> x.seam(4, 0, 0, 0));
        CHECK.refused("left -1", Check.OUT, () -> x.seam(0, -1, 0, 0));
        CHECK.refused("left 200", Check.OUT, () -> x.seam(0, 200, 0, 0));
        CHECK.refused("right -1", Check.OUT, () -> x.seam(0, 0, -1, 0));
        CHECK.refused("right 200", Check.OUT, () -> x.seam(0, 0, 200, 0));
        CHECK.refused("becomes -1", Check.OUT, () -> x.seam(0, 0, 0, -1));
        CHECK.refused("becomes 200", Check.OUT, () -> x.seam(0, 0, 0, 200));
        CHECK.sentence(9, "Throws `IllegalStateException` if there are 6");
        CHECK.due("the sixth", 6, x.seam(0, 4, 10, 40));
        CHECK.refused("the seventh", Check.STATE, () -> x.seam(0, 5, 10, 50));
        CHECK.refused("word ahead of the seventh", Check.OUT, () -> x.seam(0, 5, 10, 200));
        CHECK.says(x, 0, 40, 0, "40");
        CHECK.says(x, 0, 50, 0, "5 10");
        x.empty(0);
        CHECK.due("the first when emptied", 1, x.seam(0, 5, 10, 50));
    }

    private static void empty() {
        CHECK.sentence(10, "Empties a grammar, of all that was told of it.");
        NumeralBabel x = tens();
        Check.tens(x, 1, 0);
        x.form(0, 3, 0, 60);
        x.form(0, 3, 3, 61);
        x.ordinal(0, 40);
        x.seam(0, 2, 10, 20);
        x.joint(0, 0, 12);
        x.less(0, 0, 1, 13);
        x.empty(0);
        CHECK.says(x, 0, 3, 0, "");
        CHECK.says(x, 0, 10, 0, "");
        CHECK.refused("no base", Check.OUT, () -> x.baseTold(0, 0, 0));
        CHECK.due("no word of ordinals", -1, x.ordinal(0, -1));
        Check.tens(x, 0, 0);
        CHECK.says(x, 0, 23, 0, "2 10 3");
        CHECK.says(x, 0, 29, 0, "2 10 9");
        CHECK.saysOrdinal(x, 0, 3, "3");
        CHECK.due("no forms", -1, x.form(0, 3, 0, 60));
        CHECK.due("no seams", 1, x.seam(0, 190, 191, 192));
        CHECK.says(x, 1, 23, 0, "2 10 3");
        CHECK.sentence(10, "Returns how many atoms and bases it had.");
        CHECK.due("nine atoms and a base", 10, x.empty(1));
        CHECK.due("none", 0, x.empty(1));
        x.form(2, 3, 0, 60);
        x.seam(2, 1, 1, 1);
        x.ordinal(2, 5);
        CHECK.due("forms, seams and ordinals do not count", 0, x.empty(2));
        x.atom(3, 1, 1);
        CHECK.due("one atom", 1, x.empty(3));
        x.base(3, 2, 1, 1, 0);
        CHECK.due("one base", 1, x.empty(3));
        CHECK.sentence(10, "Throws `IndexOutOfBoundsException` as told");
        CHECK.refused("grammar -1", Check.OUT, () -> x.empty(-1));
        CHECK.refused("grammar 4", Check.OUT, () -> x.empty(4));
        CHECK.says(x, 0, 24, 0, "2 10 4");
    }
}
