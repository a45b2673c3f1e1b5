/** The edges that the promises 23 to 29 name, sentence by sentence. */
public final class EdgesOfLearningTest {

    private static final Check CHECK = new Check("EdgesOfLearningTest");

    public static void main(String[] args) {
        example();
        exampleRefused();
        dropExamples();
        settings();
        settingsRefused();
        learn();
        learnRefused();
        askNumber();
        askNumberForClass();
        askNumberNothing();
        askNumberRefused();
        baseTold();
        numberOf();
        CHECK.end();
    }

    private static NumeralBabel tens() {
        NumeralBabel x = new NumeralBabel();
        Check.tens(x, 0, 0);
        return x;
    }

    private static void tell(NumeralBabel x, int number, int... words) {
        Check.hear(x, words);
        x.example(number);
    }

    // ---- promises 23 and 24

    private static void example() {
        CHECK.sentence(23, "Adds an example: a number, with what was heard.");
        NumeralBabel x = tens();
        x.hear(2);
        x.hear(10);
        x.example(20);
        CHECK.due("as it was heard", 16, x.settings(0, 0, 12));
        x.hear(-1);
        CHECK.due("what is heard later does not change it", 16, x.settings(0, 0, 12));
        CHECK.sentence(23, "- `number`: 0 to 9999");
        NumeralBabel y = new NumeralBabel();
        y.atom(0, 0, 7);
        y.atom(0, 9999, 8);
        y.base(0, 10, 10, 9, 0);
        y.hear(7);
        CHECK.due("number 0", 1, y.example(0));
        CHECK.due("fits", 32, y.settings(0, 0, 12));
        Check.hear(y, 8);
        CHECK.due("number 9999", 2, y.example(9999));
        CHECK.due("fits too", 32, y.settings(0, 0, 12));
        CHECK.sentence(23, "Returns how many there are then.");
        for (int i = 3; i <= 20; i++) {
            CHECK.due("examples", i, y.example(9999));
        }
        CHECK.due("all count", 20, y.dropExamples());
        CHECK.due("the first again", 1, y.example(5));
    }

    private static void exampleRefused() {
        CHECK.sentence(23, "Throws `IllegalArgumentException` if number is out of range");
        NumeralBabel x = tens();
        x.hear(7);
        CHECK.refused("number -1", Check.ARGUMENT, () -> x.example(-1));
        CHECK.refused("number 10000", Check.ARGUMENT, () -> x.example(10000));
        CHECK.due("none was added", 0, x.dropExamples());
        x.forget();
        CHECK.refused("ahead of nothing heard", Check.ARGUMENT, () -> x.example(-1));
        Check.hear(x, -1);
        CHECK.refused("ahead of one not heard", Check.ARGUMENT, () -> x.example(10000));
        CHECK.sentence(23, "Throws `IllegalStateException` if there are 20, nothing was heard, or some word was not");
        x.forget();
        CHECK.refused("nothing heard", Check.STATE, () -> x.example(7));
        Check.hear(x, -1, 10, 2);
        CHECK.refused("the first was not", Check.STATE, () -> x.example(7));
        Check.hear(x, 4, -1, 2);
        CHECK.refused("one in between was not", Check.STATE, () -> x.example(7));
        Check.hear(x, 4, 10, -1);
        CHECK.refused("the last was not", Check.STATE, () -> x.example(7));
        CHECK.due("none was added", 0, x.dropExamples());
        Check.hear(x, 0);
        for (int i = 0; i < 19; i++) {
            x.example(7);
        }
        CHECK.due("the twentieth", 20, x.example(7));
        CHECK.refused("the 21st", Check.STATE, () -> x.example(7));
        CHECK.refused("number ahead of the 21st", Check.ARGUMENT, () -> x.example(-1));
        CHECK.due("twenty", 20, x.dropExamples());
    }

    private static void dropExamples() {
        CHECK.sentence(24, "Forgets all examples; returns how many there were.");
        NumeralBabel x = tens();
        CHECK.due("none", 0, x.dropExamples());
        tell(x, 7, 8);
        CHECK.due("none fits", 0, x.settings(0, 0, 12));
        CHECK.due("one", 1, x.dropExamples());
        CHECK.due("all fit", 32, x.settings(0, 0, 12));
        CHECK.due("none then", 0, x.dropExamples());
        for (int i = 0; i < 20; i++) {
            x.example(7);
        }
        CHECK.due("twenty", 20, x.dropExamples());
        CHECK.due("what was heard stays", 1, x.forget());
    }

    // ---- promises 25 and 26

    private static void settings() {
        CHECK.sentence(25, "Returns how many settings of a base fit all examples.");
        NumeralBabel x = tens();
        x.base(0, 100, 11, 9, 1);
        CHECK.due("no examples", 32, x.settings(0, 0, 12));
        tell(x, 20, 2, 10);
        CHECK.due("of the base 10", 16, x.settings(0, 0, 12));
        CHECK.due("of the base 100", 32, x.settings(0, 1, 12));
        tell(x, 200, 2, 11);
        CHECK.due("the base 100 says 20 alike", 16, x.settings(0, 1, 12));
        tell(x, 20, 10, 2);
        CHECK.due("none fits both", 0, x.settings(0, 0, 12));
        CHECK.due("nor any of the other base", 0, x.settings(0, 1, 12));
        CHECK.due("its style is as before", 1, x.baseTold(0, 1, 3));
        CHECK.sentence(25, "- `joint`: the joint of those that have it");
        x.dropExamples();
        tell(x, 12, 10, 0, 2);
        CHECK.due("the joint 0", 2, x.settings(0, 0, 0));
        CHECK.due("not the joint 1", 0, x.settings(0, 0, 1));
        x.dropExamples();
        tell(x, 12, 10, 199, 2);
        CHECK.due("the joint 199", 2, x.settings(0, 0, 199));
        x.joint(0, 0, 199);
        CHECK.due("the joint that it has is not the one told", 0, x.settings(0, 0, 198));
        x.dropExamples();
        tell(x, 12, 10, 2);
        CHECK.due("those without", 2, x.settings(0, 0, 199));
        CHECK.due("its joint is as before", 199, x.baseTold(0, 0, 4));
    }

    private static void settingsRefused() {
        CHECK.sentence(25, "Throws `IndexOutOfBoundsException` as told");
        NumeralBabel x = tens();
        CHECK.refused("grammar -1", Check.OUT, () -> x.settings(-1, 0, 0));
        CHECK.refused("grammar 4", Check.OUT, () -> x.settings(4, 0, 0));
        CHECK.refused("place -1", Check.OUT, () -> x.settings(0, -1, 0));
        CHECK.refused("place 1 of one", Check.OUT, () -> x.settings(0, 1, 0));
        CHECK.refused("a grammar without bases", Check.OUT, () -> x.settings(1, 0, 0));
        CHECK.refused("joint -1", Check.OUT, () -> x.settings(0, 0, -1));
        CHECK.refused("joint 200", Check.OUT, () -> x.settings(0, 0, 200));
    }

    private static void learn() {
        CHECK.sentence(26, "Gives a base the lowest setting that fits.");
        NumeralBabel x = new NumeralBabel();
        Check.tens(x, 0, 15);
        x.joint(0, 0, 12);
        x.learn(0, 0, 13);
        CHECK.due("without examples style 0", 0, x.baseTold(0, 0, 3));
        CHECK.due("and no joint", -1, x.baseTold(0, 0, 4));
        tell(x, 34, 10, 3, 13, 4);
        CHECK.due("BEHIND, with or without ONE", 2, x.settings(0, 0, 13));
        x.learn(0, 0, 13);
        CHECK.due("without ONE", 2, x.baseTold(0, 0, 3));
        CHECK.due("with the joint", 13, x.baseTold(0, 0, 4));
        CHECK.says(x, 0, 56, 0, "10 5 13 6");
        CHECK.says(x, 0, 10, 0, "10");
        CHECK.sentence(26, "- `joint`: the joint of those that have it");
        x.dropExamples();
        tell(x, 12, 10, 0, 2);
        x.learn(0, 0, 0);
        CHECK.due("the joint 0", 0, x.baseTold(0, 0, 4));
        x.dropExamples();
        tell(x, 12, 10, 199, 2);
        x.learn(0, 0, 199);
        CHECK.due("the joint 199", 199, x.baseTold(0, 0, 4));
        x.dropExamples();
        tell(x, 12, 10, 2);
        x.learn(0, 0, 199);
        CHECK.due("none", -1, x.baseTold(0, 0, 4));
        CHECK.sentence(26, "Returns the setting, 0 to 31.");
        x.dropExamples();
        CHECK.due("the lowest of all", 0, x.learn(0, 0, 5));
        // With OVER the base would be counted twice.
        tell(x, 14, 4, 5, 10, 1);
        CHECK.due("ONE, BEHIND, FIRST and the joint", 15, x.learn(0, 0, 5));
        x.dropExamples();
        tell(x, 14, 4, 5, 10, 2);
        CHECK.due("BEHIND, OVER and the joint", 21, x.learn(0, 0, 5));
        tell(x, 10, 10, 1);
        CHECK.due("ONE with them", 23, x.learn(0, 0, 5));
        // FIRST tells nothing once OVER is there, so no greater one is ever the lowest that fits.
        CHECK.due("24 to 31 fit like 16 to 23", 2, x.settings(0, 0, 5));
    }

    private static void learnRefused() {
        CHECK.sentence(26, "Throws `IndexOutOfBoundsException` as told");
        NumeralBabel x = new NumeralBabel();
        Check.tens(x, 0, 7);
        x.joint(0, 0, 12);
        tell(x, 7, 8);
        CHECK.refused("grammar -1", Check.OUT, () -> x.learn(-1, 0, 0));
        CHECK.refused("grammar 4", Check.OUT, () -> x.learn(4, 0, 0));
        CHECK.refused("place -1", Check.OUT, () -> x.learn(0, -1, 0));
        CHECK.refused("place 1 of one", Check.OUT, () -> x.learn(0, 1, 0));
        CHECK.refused("joint -1", Check.OUT, () -> x.learn(0, 0, -1));
        CHECK.refused("joint 200", Check.OUT, () -> x.learn(0, 0, 200));
        CHECK.sentence(26, "Throws `IllegalStateException` if none fits");
        CHECK.due("none fits", 0, x.settings(0, 0, 13));
        CHECK.refused("so it is refused", Check.STATE, () -> x.learn(0, 0, 13));
        CHECK.due("style as it was", 7, x.baseTold(0, 0, 3));
        CHECK.due("joint as it was", 12, x.baseTold(0, 0, 4));
        x.dropExamples();
        tell(x, 12, 2, 12, 10, 1);
        CHECK.due("just one fits", 1, x.settings(0, 0, 12));
        CHECK.due("which is learnt", 15, x.learn(0, 0, 12));
        CHECK.refused("with another joint none", Check.STATE, () -> x.learn(0, 0, 13));
    }

    // ---- promise 27

    private static void askNumber() {
        CHECK.sentence(27, "Returns the best number to ask for.");
        NumeralBabel x = tens();
        // At 10 sixteen are alike without ONE; at 11 fours, as OVER knows neither ONE nor FIRST.
        CHECK.due("11", 11, x.askNumber(0, 0, 12, 99));
        CHECK.due("the style and joint are as before", 0, x.baseTold(0, 0, 3));
        CHECK.due("no joint as before", -1, x.baseTold(0, 0, 4));
        CHECK.sentence(27, "- `joint`: the joint of those that have it");
        tell(x, 10, 10);
        tell(x, 20, 2, 10);
        // 11: 10 1, with a joint 10 j 1; FIRST 1 10, 1 j 10; OVER 1 2 10, 1 j 2 10.
        CHECK.due("joints tell at 11", 11, x.askNumber(0, 0, 0, 99));
        x.seam(0, 10, 12, 10);
        x.seam(0, 1, 12, 1);
        // The joint 12 melts behind 10 and 1: 11 leaves 2, 2 and 4 alike. Behind 2 it stays: 12 leaves no more than twos.
        CHECK.due("joints that melt tell less", 12, x.askNumber(0, 0, 12, 99));
        CHECK.due("another joint", 11, x.askNumber(0, 0, 13, 99));
        CHECK.sentence(27, "- `bound`: 0 to 99");
        NumeralBabel y = new NumeralBabel();
        y.base(0, 99, 9, 1, 0);
        CHECK.due("99 at the bound 99", 99, y.askNumber(0, 0, 5, 99));
        CHECK.due("not at the bound 98", -1, y.askNumber(0, 0, 5, 98));
        CHECK.due("0 at the bound 0", -1, y.askNumber(0, 0, 5, 0));
    }

    /** By the form of 10 for the class 0 and two seams 20 is said alike with BEHIND and without, in no other class. */
    private static void askNumberForClass() {
        CHECK.sentence(27, "Returns the best number to ask for.");
        NumeralBabel x = tens();
        tell(x, 14, 10, 12, 4);
        CHECK.due("BEHIND or not", 20, x.askNumber(0, 0, 12, 99));
        x.form(0, 10, 0, 50);
        x.seam(0, 2, 50, 5);
        x.seam(0, 10, 2, 5);
        CHECK.due("for the class 0, as examples are", 21, x.askNumber(0, 0, 12, 99));
        x.form(0, 10, 0, 10);
        x.form(0, 10, 1, 50);
        x.form(0, 10, 2, 50);
        x.form(0, 10, 3, 50);
        CHECK.due("for no other class", 20, x.askNumber(0, 0, 12, 99));
    }

    private static void askNumberNothing() {
        CHECK.sentence(27, "Returns the number; -1 if fewer than 2 settings fit, or all numbers up to the bound are said "
                + "alike by all that fit.");
        NumeralBabel x = tens();
        CHECK.due("up to 9 all alike", -1, x.askNumber(0, 0, 12, 9));
        CHECK.due("up to 10 not", 10, x.askNumber(0, 0, 12, 10));
        tell(x, 34, 3, 10, 12, 4);
        CHECK.due("two fit", 2, x.settings(0, 0, 12));
        CHECK.due("they differ at 10", 10, x.askNumber(0, 0, 12, 99));
        tell(x, 10, 10);
        CHECK.due("one fits", 1, x.settings(0, 0, 12));
        CHECK.due("nothing to ask", -1, x.askNumber(0, 0, 12, 99));
        tell(x, 10, 1, 10);
        CHECK.due("none fits", 0, x.settings(0, 0, 12));
        CHECK.due("nothing to ask either", -1, x.askNumber(0, 0, 12, 99));
        x.base(0, 100, 11, 9, 0);
        x.dropExamples();
        CHECK.due("all fit, but differ beyond 99 only", -1, x.askNumber(0, 1, 12, 99));
        NumeralBabel y = new NumeralBabel();
        y.base(0, 2, 2, 1, 2);
        tell(y, 2, 2);
        CHECK.due("sixteen fit", 16, y.settings(0, 0, 12));
        CHECK.due("all say 2 alike, and no other number", -1, y.askNumber(0, 0, 12, 99));
    }

    private static void askNumberRefused() {
        CHECK.sentence(27, "Throws `IndexOutOfBoundsException` as told");
        NumeralBabel x = tens();
        CHECK.refused("grammar -1", Check.OUT, () -> x.askNumber(-1, 0, 0, 0));
        CHECK.refused("grammar 4", Check.OUT, () -> x.askNumber(4, 0, 0, 0));
        CHECK.refused("place -1", Check.OUT, () -> x.askNumber(0, -1, 0, 0));
        CHECK.refused("place 1 of one", Check.OUT, () -> x.askNumber(0, 1, 0, 0));
        CHECK.refused("joint -1", Check.OUT, () -> x.askNumber(0, 0, -1, 0));
        CHECK.refused("joint 200", Check.OUT, () -> x.askNumber(0, 0, 200, 0));
        CHECK.refused("joint ahead of bound", Check.OUT, () -> x.askNumber(0, 0, 200, 100));
        CHECK.sentence(27, "Throws `IllegalArgumentException` if bound is out of range");
        CHECK.refused("bound -1", Check.ARGUMENT, () -> x.askNumber(0, 0, 0, -1));
        CHECK.refused("bound 100", Check.ARGUMENT, () -> x.askNumber(0, 0, 0, 100));
        tell(x, 7, 8);
        CHECK.refused("bound 100 when none fits", Check.ARGUMENT, () -> x.askNumber(0, 0, 0, 100));
    }

    // ---- promises 28 and 29

    private static void baseTold() {
        CHECK.sentence(28, "Tells of a base: 0 the base, 1 its word, 2 its most, 3 its style, 4 its joint, -1 for none, 5 "
                + "its less, 6 the word for that, 0 at first.");
        NumeralBabel x = new NumeralBabel();
        x.base(0, 5000, 199, 99, 15);
        long[] atFirst = {5000, 199, 99, 15, -1, 0, 0};
        for (int what = 0; what < 7; what++) {
            CHECK.due("at first " + what, atFirst[what], x.baseTold(0, 0, what));
        }
        x.joint(0, 0, 0);
        x.less(0, 0, 9, 198);
        long[] then = {5000, 199, 99, 15, 0, 9, 198};
        for (int what = 0; what < 7; what++) {
            CHECK.due("then " + what, then[what], x.baseTold(0, 0, what));
        }
        x.joint(0, 0, -1);
        x.less(0, 0, 0, 198);
        CHECK.due("no joint again", -1, x.baseTold(0, 0, 4));
        CHECK.due("the word stays with the less 0", 198, x.baseTold(0, 0, 6));
        x.empty(0);
        x.base(0, 5000, 199, 99, 15);
        CHECK.due("0 at first when told again", 0, x.baseTold(0, 0, 6));
        CHECK.sentence(28, "- `what`: 0 to 6");
        x.base(0, 2, 0, 1, 0);
        CHECK.due("0", 2, x.baseTold(0, 1, 0));
        CHECK.due("6", 0, x.baseTold(0, 1, 6));
        CHECK.sentence(28, "Throws `IndexOutOfBoundsException` as told");
        CHECK.refused("grammar -1", Check.OUT, () -> x.baseTold(-1, 0, 0));
        CHECK.refused("grammar 4", Check.OUT, () -> x.baseTold(4, 0, 0));
        CHECK.refused("place -1", Check.OUT, () -> x.baseTold(0, -1, 0));
        CHECK.refused("place 2 of two", Check.OUT, () -> x.baseTold(0, 2, 0));
        CHECK.refused("a grammar without bases", Check.OUT, () -> x.baseTold(1, 0, 0));
        CHECK.refused("place ahead of what", Check.OUT, () -> x.baseTold(0, 2, 7));
        CHECK.sentence(28, "Throws `IllegalArgumentException` if what is out of range");
        CHECK.refused("what -1", Check.ARGUMENT, () -> x.baseTold(0, 0, -1));
        CHECK.refused("what 7", Check.ARGUMENT, () -> x.baseTold(0, 0, 7));
    }

    private static void numberOf() {
        CHECK.sentence(29, "Returns the number of an atom or base that has a word, the least one; -1 for none.");
        NumeralBabel x = new NumeralBabel();
        CHECK.due("none in an empty grammar", -1, x.numberOf(0, 0));
        x.atom(0, 9999, 0);
        CHECK.due("the word 0", 9999, x.numberOf(0, 0));
        x.base(0, 5000, 0, 9, 0);
        CHECK.due("a base below", 5000, x.numberOf(0, 0));
        x.base(0, 2, 0, 9, 0);
        CHECK.due("a base told later", 2, x.numberOf(0, 0));
        x.base(0, 3, 0, 9, 0);
        CHECK.due("not a greater base told later", 2, x.numberOf(0, 0));
        x.atom(0, 1, 0);
        CHECK.due("an atom below", 1, x.numberOf(0, 0));
        x.atom(0, 0, 0);
        CHECK.due("the number 0", 0, x.numberOf(0, 0));
        x.atom(0, 2, 199);
        CHECK.due("the word 199", 2, x.numberOf(0, 199));
        CHECK.due("none with the word 198", -1, x.numberOf(0, 198));
        CHECK.due("none in another grammar", -1, x.numberOf(1, 0));
        x.joint(0, 0, 50);
        x.less(0, 0, 1, 51);
        x.form(0, 0, 0, 52);
        x.ordinal(0, 53);
        x.seam(0, 0, 0, 54);
        for (int word = 50; word < 55; word++) {
            CHECK.due("no atom or base has it", -1, x.numberOf(0, word));
        }
        x.dropAtom(0, 0);
        CHECK.due("1 again", 1, x.numberOf(0, 0));
        CHECK.sentence(29, "Throws `IndexOutOfBoundsException` as told");
        CHECK.refused("grammar -1", Check.OUT, () -> x.numberOf(-1, 0));
        CHECK.refused("grammar 4", Check.OUT, () -> x.numberOf(4, 0));
        CHECK.refused("word -1", Check.OUT, () -> x.numberOf(0, -1));
        CHECK.refused("word 200", Check.OUT, () -> x.numberOf(0, 200));
    }
}
