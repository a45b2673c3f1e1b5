/** Promises 23 to 29: examples, settings, the number to ask for, and what a grammar has. */
public final class LearningTest {

    private static final Check CHECK = new Check("LearningTest");

    public static void main(String[] args) {
        example();
        exampleLimit();
        dropExamples();
        settings();
        settingsKeepAll();
        learn();
        learnNothing();
        askNumber();
        askNumberNothing();
        baseTold();
        numberOf();
        CHECK.end();
    }

    private static NumeralBabel tens() {
        NumeralBabel x = new NumeralBabel();
        Check.tens(x, 0, 0);
        return x;
    }

    private static void example() {
        CHECK.promise(23);
        NumeralBabel x = tens();
        CHECK.refused("nothing heard", Check.STATE, () -> x.example(0));
        CHECK.refused("number before that", Check.ARGUMENT, () -> x.example(10000));
        Check.hear(x, 1, -1, 2);
        CHECK.refused("one not heard", Check.STATE, () -> x.example(5));
        CHECK.refused("number before that too", Check.ARGUMENT, () -> x.example(-1));
        Check.hear(x, -1, 2);
        CHECK.refused("the first not heard", Check.STATE, () -> x.example(5));
        CHECK.due("none was added", 0, x.dropExamples());
        Check.hear(x, 2, 10);
        CHECK.due("the first", 1, x.example(20));
        CHECK.due("the same again", 2, x.example(20));
        CHECK.due("heard as before", 2, x.forget());
        CHECK.due("all but BEHIND", 16, x.settings(0, 0, 5));
        Check.hear(x, 199);
        CHECK.due("any number", 3, x.example(9999));
        CHECK.due("which none fits", 0, x.settings(0, 0, 5));
        CHECK.due("number 0", 4, x.example(0));
    }

    private static void exampleLimit() {
        CHECK.promise(23);
        NumeralBabel x = tens();
        x.hear(3);
        for (int i = 1; i <= 20; i++) {
            CHECK.due("example " + i, i, x.example(3));
        }
        CHECK.refused("the 21st", Check.STATE, () -> x.example(3));
        CHECK.refused("number before the 21st", Check.ARGUMENT, () -> x.example(-1));
        CHECK.due("all fit", 32, x.settings(0, 0, 5));
        CHECK.due("20 there", 20, x.dropExamples());
        CHECK.due("from the beginning", 1, x.example(3));
    }

    private static void dropExamples() {
        CHECK.promise(24);
        NumeralBabel x = tens();
        CHECK.due("none", 0, x.dropExamples());
        Check.hear(x, 99);
        x.example(1);
        x.example(2);
        CHECK.due("none fits", 0, x.settings(0, 0, 5));
        CHECK.due("two", 2, x.dropExamples());
        CHECK.due("none then", 0, x.dropExamples());
        CHECK.due("all fit then", 32, x.settings(0, 0, 5));
        CHECK.due("heard as before", 1, x.forget());
    }

    private static void settings() {
        CHECK.promise(25);
        NumeralBabel x = tens();
        CHECK.due("no examples", 32, x.settings(0, 0, 199));
        Check.hear(x, 10, 12, 4);
        x.example(14);
        // Without ONE, FIRST and OVER; BEHIND or not; with the joint.
        CHECK.due("a joint heard", 2, x.settings(0, 0, 12));
        CHECK.due("another joint", 0, x.settings(0, 0, 13));
        Check.hear(x, 3, 10, 12, 4);
        x.example(34);
        CHECK.due("not BEHIND", 1, x.settings(0, 0, 12));
        Check.hear(x, 9);
        x.example(10);
        CHECK.due("a wrong row", 0, x.settings(0, 0, 12));
        x.dropExamples();
        x.form(0, 4, 0, 44);
        x.form(0, 4, 1, 45);
        Check.hear(x, 10, 44);
        x.example(14);
        CHECK.due("by class 0", 2, x.settings(0, 0, 12));
        x.seam(0, 10, 44, 46);
        CHECK.due("by seams, not as heard", 0, x.settings(0, 0, 12));
        x.dropExamples();
        Check.hear(x, 46);
        x.example(14);
        CHECK.due("by seams, as heard", 2, x.settings(0, 0, 12));
        x.dropExamples();
        Check.hear(x, 1);
        x.example(0);
        CHECK.due("a number without a name", 0, x.settings(0, 0, 12));
        CHECK.refused("grammar -1", Check.OUT, () -> x.settings(-1, 0, 0));
        CHECK.refused("grammar 4", Check.OUT, () -> x.settings(4, 0, 0));
        CHECK.refused("place -1", Check.OUT, () -> x.settings(0, -1, 0));
        CHECK.refused("place 1", Check.OUT, () -> x.settings(0, 1, 0));
        CHECK.refused("joint -1", Check.OUT, () -> x.settings(0, 0, -1));
        CHECK.refused("joint 200", Check.OUT, () -> x.settings(0, 0, 200));
    }

    private static void settingsKeepAll() {
        CHECK.promise(25);
        NumeralBabel x = tens();
        x.base(0, 100, 11, 9, 5);
        x.joint(0, 1, 13);
        x.less(0, 1, 2, 14);
        Check.hear(x, 1, 14, 2, 11);
        x.example(199);
        CHECK.due("its less stays", 16, x.settings(0, 1, 12));
        x.askNumber(0, 1, 12, 99);
        long[] want = {100, 11, 9, 5, 13, 2, 14};
        for (int what = 0; what < 7; what++) {
            CHECK.due("told " + what, want[what], x.baseTold(0, 1, what));
        }
        CHECK.due("the other base's style", 0, x.baseTold(0, 0, 3));
        CHECK.says(x, 0, 102, 0, "2 13 1 11");
    }

    private static void learn() {
        CHECK.promise(26);
        NumeralBabel x = tens();
        Check.hear(x, 4, 12, 2, 10);
        x.example(14);
        // OVER with the joint, and neither BEHIND: 17; 19 with ONE, 25 and 27 with FIRST.
        CHECK.due("how many", 4, x.settings(0, 0, 12));
        CHECK.due("the lowest", 17, x.learn(0, 0, 12));
        CHECK.due("style", 8, x.baseTold(0, 0, 3));
        CHECK.due("joint", 12, x.baseTold(0, 0, 4));
        CHECK.says(x, 0, 35, 0, "5 12 4 10");
        CHECK.due("four settings as before", 4, x.settings(0, 0, 12));
        Check.hear(x, 1, 10);
        x.example(10);
        CHECK.due("with ONE", 19, x.learn(0, 0, 12));
        CHECK.due("style with ONE", 9, x.baseTold(0, 0, 3));
        CHECK.refused("none fits with 13", Check.STATE, () -> x.learn(0, 0, 13));
        CHECK.due("style as before", 9, x.baseTold(0, 0, 3));
        CHECK.due("joint as before", 12, x.baseTold(0, 0, 4));
        x.dropExamples();
        Check.hear(x, 10, 7, 6);
        x.example(76);
        x.less(0, 0, 2, 30);
        CHECK.due("BEHIND without joint", 4, x.learn(0, 0, 12));
        CHECK.due("style BEHIND", 2, x.baseTold(0, 0, 3));
        CHECK.due("no joint", -1, x.baseTold(0, 0, 4));
        CHECK.due("less stays", 2, x.baseTold(0, 0, 5));
        CHECK.due("word for less stays", 30, x.baseTold(0, 0, 6));
        CHECK.due("examples stay", 1, x.dropExamples());
    }

    private static void learnNothing() {
        CHECK.promise(26);
        NumeralBabel x = new NumeralBabel();
        Check.tens(x, 0, 15);
        x.joint(0, 0, 12);
        CHECK.due("without examples the setting 0", 0, x.learn(0, 0, 13));
        CHECK.due("style 0", 0, x.baseTold(0, 0, 3));
        CHECK.due("no joint", -1, x.baseTold(0, 0, 4));
        x.hear(150);
        x.example(1);
        CHECK.refused("grammar before none", Check.OUT, () -> x.learn(4, 0, 0));
        CHECK.refused("grammar -1", Check.OUT, () -> x.learn(-1, 0, 0));
        CHECK.refused("place before none", Check.OUT, () -> x.learn(0, 1, 0));
        CHECK.refused("place -1", Check.OUT, () -> x.learn(0, -1, 0));
        CHECK.refused("joint before none", Check.OUT, () -> x.learn(0, 0, 200));
        CHECK.refused("joint -1", Check.OUT, () -> x.learn(0, 0, -1));
        CHECK.refused("none fits", Check.STATE, () -> x.learn(0, 0, 0));
        CHECK.due("one example", 1, x.dropExamples());
        NumeralBabel all = new NumeralBabel();
        Check.tens(all, 0, 0);
        Check.hear(all, 4, 12, 10, 2);
        all.example(14);
        Check.hear(all, 10, 1);
        all.example(10);
        CHECK.due("ONE, BEHIND, OVER, the joint", 2, all.settings(0, 0, 12));
        CHECK.due("their lowest", 23, all.learn(0, 0, 12));
    }

    private static void askNumber() {
        CHECK.promise(27);
        NumeralBabel x = tens();
        // At 10 the greatest set is the 16 without ONE; from 11 on, OVER leaves sets of 4, as it knows no ONE and FIRST.
        CHECK.due("11 tells most", 11, x.askNumber(0, 0, 12, 99));
        CHECK.due("up to 10", 10, x.askNumber(0, 0, 12, 10));
        CHECK.due("up to 9 all alike", -1, x.askNumber(0, 0, 12, 9));
        CHECK.due("up to 0 all have none", -1, x.askNumber(0, 0, 12, 0));
        Check.hear(x, 10, 12, 4);
        x.example(14);
        CHECK.due("BEHIND or not", 20, x.askNumber(0, 0, 12, 99));
        CHECK.due("up to 20", 20, x.askNumber(0, 0, 12, 20));
        CHECK.due("up to 19", -1, x.askNumber(0, 0, 12, 19));
        Check.hear(x, 3, 10);
        x.example(30);
        CHECK.due("one fits", -1, x.askNumber(0, 0, 12, 99));
        Check.hear(x, 3);
        x.example(30);
        CHECK.due("none fits", -1, x.askNumber(0, 0, 12, 99));
        CHECK.refused("bound 100", Check.ARGUMENT, () -> x.askNumber(0, 0, 12, 100));
        CHECK.refused("bound -1", Check.ARGUMENT, () -> x.askNumber(0, 0, 12, -1));
        CHECK.refused("joint before bound", Check.OUT, () -> x.askNumber(0, 0, 200, 100));
        CHECK.refused("joint -1", Check.OUT, () -> x.askNumber(0, 0, -1, 0));
        CHECK.refused("place before bound", Check.OUT, () -> x.askNumber(0, 1, 0, 100));
        CHECK.refused("place -1", Check.OUT, () -> x.askNumber(0, -1, 0, 0));
        CHECK.refused("grammar before bound", Check.OUT, () -> x.askNumber(4, 0, 0, 100));
        CHECK.refused("grammar -1", Check.OUT, () -> x.askNumber(-1, 0, 0, 0));
    }

    private static void askNumberNothing() {
        CHECK.promise(27);
        NumeralBabel x = new NumeralBabel();
        x.base(0, 99, 9, 1, 0);
        CHECK.due("99: with ONE it has none", 99, x.askNumber(0, 0, 5, 99));
        CHECK.due("up to 98 none has one", -1, x.askNumber(0, 0, 5, 98));
        x.hear(9);
        x.example(99);
        CHECK.due("by joint and orders none differ", -1, x.askNumber(0, 0, 5, 99));
        CHECK.due("16 fit", 16, x.settings(0, 0, 5));
    }

    private static void baseTold() {
        CHECK.promise(28);
        NumeralBabel x = tens();
        x.base(0, 100, 11, 8, 6);
        x.less(0, 1, 4, 0);
        x.joint(0, 1, 0);
        long[][] want = {{10, 10, 9, 0, -1, 0, 0}, {100, 11, 8, 6, 0, 4, 0}};
        for (int place = 0; place < 2; place++) {
            for (int what = 0; what < 7; what++) {
                CHECK.due("base " + place + " told " + what, want[place][what], x.baseTold(0, place, what));
            }
        }
        CHECK.refused("what 7", Check.ARGUMENT, () -> x.baseTold(0, 0, 7));
        CHECK.refused("what -1", Check.ARGUMENT, () -> x.baseTold(0, 0, -1));
        CHECK.refused("place before what", Check.OUT, () -> x.baseTold(0, 2, 7));
        CHECK.refused("place -1", Check.OUT, () -> x.baseTold(0, -1, 0));
        CHECK.refused("grammar -1", Check.OUT, () -> x.baseTold(-1, 0, 0));
        CHECK.refused("grammar 4", Check.OUT, () -> x.baseTold(4, 0, 7));
    }

    private static void numberOf() {
        CHECK.promise(29);
        NumeralBabel x = tens();
        CHECK.due("an atom", 7, x.numberOf(0, 7));
        CHECK.due("a base", 10, x.numberOf(0, 10));
        CHECK.due("none", -1, x.numberOf(0, 11));
        CHECK.due("none in another grammar", -1, x.numberOf(1, 7));
        x.atom(0, 500, 7);
        x.atom(0, 4, 10);
        CHECK.due("the least atom", 7, x.numberOf(0, 7));
        CHECK.due("an atom below the base", 4, x.numberOf(0, 10));
        x.atom(0, 4, 4);
        x.atom(0, 11, 10);
        CHECK.due("a base below the atom", 10, x.numberOf(0, 10));
        x.base(0, 60, 20, 9, 0);
        x.base(0, 20, 20, 4, 0);
        x.base(0, 40, 20, 9, 0);
        CHECK.due("the least base", 20, x.numberOf(0, 20));
        x.joint(0, 0, 30);
        x.less(0, 0, 1, 31);
        x.ordinal(0, 32);
        x.form(0, 7, 0, 33);
        CHECK.due("no joint", -1, x.numberOf(0, 30));
        CHECK.due("no word for less", -1, x.numberOf(0, 31));
        CHECK.due("no ordinal", -1, x.numberOf(0, 32));
        CHECK.due("no form", -1, x.numberOf(0, 33));
        x.atom(0, 0, 7);
        CHECK.due("0", 0, x.numberOf(0, 7));
        CHECK.refused("word 200", Check.OUT, () -> x.numberOf(0, 200));
        CHECK.refused("word -1", Check.OUT, () -> x.numberOf(0, -1));
        CHECK.refused("grammar -1", Check.OUT, () -> x.numberOf(-1, 0));
        CHECK.refused("grammar 4", Check.OUT, () -> x.numberOf(4, 0));
    }
}
