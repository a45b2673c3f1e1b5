/** The edges that "What it is" and "Terms" name, sentence by sentence. */
public final class EdgesOfTermsTest {

    private static final Check CHECK = new Check("EdgesOfTermsTest");

    public static void main(String[] args) {
        calls();
        limits();
        names();
        products();
        noNames();
        classes();
        seams();
        hearing();
        learning();
        cords();
        exceptions();
        CHECK.end();
    }

    private static NumeralBabel tens(int style) {
        NumeralBabel x = new NumeralBabel();
        Check.tens(x, 0, style);
        return x;
    }

    // ---- calls and limits

    private static void calls() {
        CHECK.sentence(0, "An object is used for at most 512 calls after it has been made");
        NumeralBabel x = new NumeralBabel();
        for (int i = 0; i < 511; i++) {
            x.count(1);
        }
        CHECK.due("the 512th call", 511, x.shown());
        NumeralBabel y = tens(0);
        for (int i = 10; i < 511; i++) {
            y.say(0, 42, 0);
        }
        CHECK.due("the 512th call of another one", 2, y.said(2));
    }

    private static void limits() {
        grammarsWordsNumbers();
        atomsAndBases();
        styles();
        places();
    }

    private static void grammarsWordsNumbers() {
        CHECK.sentence(0, "There are the grammars 0 to 3; words are 0 to 199, numbers 0 to 9999.");
        NumeralBabel x = new NumeralBabel();
        for (int grammar = 0; grammar < 4; grammar++) {
            x.atom(grammar, 0, 20 + grammar);
            x.atom(grammar, 9999, grammar == 0 ? 0 : 199);
        }
        for (int grammar = 0; grammar < 4; grammar++) {
            CHECK.says(x, grammar, 0, 0, Integer.toString(20 + grammar));
            CHECK.says(x, grammar, 9999, 0, grammar == 0 ? "0" : "199");
        }
        CHECK.refused("grammar -1", Check.OUT, () -> x.empty(-1));
        CHECK.refused("grammar 4", Check.OUT, () -> x.empty(4));
        CHECK.refused("word -1", Check.OUT, () -> x.numberOf(0, -1));
        CHECK.refused("word 200", Check.OUT, () -> x.numberOf(0, 200));
        CHECK.refused("number -1", Check.ARGUMENT, () -> x.say(0, -1, 0));
        CHECK.refused("number 10000", Check.ARGUMENT, () -> x.say(0, 10000, 0));
    }

    private static void atomsAndBases() {
        CHECK.sentence(0, "A grammar has atoms, at most 40: a number with its word; and bases, at most 5, none twice: "
                + "a base, 2 to 5000, has a word, a most, 1 to 99, a style, a joint, a word or none, a less, 0 to 9, "
                + "and a word for it.");
        NumeralBabel x = new NumeralBabel();
        for (int number = 0; number < 40; number++) {
            x.atom(0, number, 199);
        }
        CHECK.due("the least base", 0, x.base(0, 2, 0, 1, 0));
        CHECK.due("the greatest base", 1, x.base(0, 5000, 199, 99, 15));
        CHECK.refused("a base twice", Check.STATE, () -> x.base(0, 2, 5, 9, 1));
        x.base(0, 3, 0, 1, 0);
        x.base(0, 4, 0, 1, 0);
        CHECK.due("the fifth base", 4, x.base(0, 6, 0, 1, 0));
        CHECK.refused("the sixth base", Check.STATE, () -> x.base(0, 7, 0, 1, 0));
        CHECK.refused("the 41st atom", Check.STATE, () -> x.atom(0, 40, 0));
        CHECK.due("a joint", -1, x.joint(0, 0, 199));
        CHECK.due("none", 199, x.joint(0, 0, -1));
        CHECK.due("the greatest less", 0, x.less(0, 0, 9, 199));
        CHECK.due("the least less", 9, x.less(0, 0, 0, 0));
        CHECK.due("all of them", 45, x.empty(0));
    }

    private static void styles() {
        CHECK.sentence(0, "A style is the sum of: 1 ONE, 2 BEHIND, 4 FIRST, 8 OVER.");
        String[][] want = {
            {"10", "10 2", "2 10", "3 10 2"}, {"1 10", "1 10 2", "2 10", "3 10 2"}, {"10", "10 2", "10 2", "10 3 2"},
            {"10", "2 10", "2 10", "2 3 10"}, {"10", "2 2 10", "2 10", "2 4 10"}, {"10 1", "2 10 2", "10 2", "2 10 4"},
        };
        int[] told = {0, 1, 2, 4, 8, 15};
        for (int i = 0; i < told.length; i++) {
            NumeralBabel x = tens(told[i]);
            CHECK.says(x, 0, 10, 0, want[i][0]);
            CHECK.says(x, 0, 12, 0, want[i][1]);
            CHECK.says(x, 0, 20, 0, want[i][2]);
            CHECK.says(x, 0, 32, 0, want[i][3]);
        }
    }

    private static void places() {
        CHECK.sentence(0, "a base of a grammar, told as its place in the order in which they were told");
        NumeralBabel x = new NumeralBabel();
        x.base(0, 100, 1, 9, 0);
        x.base(0, 10, 2, 9, 0);
        x.base(1, 50, 3, 9, 0);
        x.base(0, 20, 4, 9, 0);
        CHECK.due("the first", 100, x.baseTold(0, 0, 0));
        CHECK.due("the second", 10, x.baseTold(0, 1, 0));
        CHECK.due("the third", 20, x.baseTold(0, 2, 0));
        CHECK.due("the first of another grammar", 50, x.baseTold(1, 0, 0));
        CHECK.refused("no fourth", Check.OUT, () -> x.baseTold(0, 3, 0));
        CHECK.refused("no second of the other grammar", Check.OUT, () -> x.baseTold(1, 1, 0));
    }

    // ---- names

    private static void names() {
        nameOfAtom();
        greatestBase();
        restOfNothing();
        towardTheNext();
        fromBelow();
        orders();
        noJoint();
    }

    private static void nameOfAtom() {
        CHECK.sentence(0, "The name of a number is a row of words: - that of an atom is its word;");
        NumeralBabel x = tens(0);
        x.base(0, 20, 20, 9, 0);
        x.base(0, 1000, 21, 99, 1);
        CHECK.says(x, 0, 10, 0, "10");
        x.atom(0, 10, 50);
        CHECK.says(x, 0, 10, 0, "50");
        CHECK.says(x, 0, 30, 0, "20 50");
        CHECK.says(x, 0, 11, 0, "10 1");
        x.atom(0, 0, 0);
        CHECK.says(x, 0, 0, 0, "0");
        CHECK.says(x, 0, 20, 0, "20");
        x.atom(0, 9999, 51);
        CHECK.says(x, 0, 9999, 0, "51");
    }

    private static void greatestBase() {
        CHECK.sentence(0, "otherwise the greatest base counts that is not above it, with f, the number divided by it, "
                + "and r, the rest:");
        NumeralBabel x = new NumeralBabel();
        x.base(0, 100, 30, 99, 1);
        Check.tens(x, 0, 0);
        x.base(0, 20, 20, 4, 0);
        x.base(0, 5000, 31, 99, 0);
        CHECK.says(x, 0, 10, 0, "10");
        CHECK.says(x, 0, 19, 0, "10 9");
        CHECK.says(x, 0, 20, 0, "20");
        CHECK.says(x, 0, 99, 0, "4 20 10 9");
        CHECK.says(x, 0, 100, 0, "1 30");
        CHECK.says(x, 0, 101, 0, "1 30 1");
        CHECK.says(x, 0, 4999, 0, "2 20 9 30 4 20 10 9");
        CHECK.says(x, 0, 5000, 0, "31");
        CHECK.says(x, 0, 9999, 0, "31 2 20 9 30 4 20 10 9");
    }

    private static void restOfNothing() {
        CHECK.sentence(0, "if r is 0, the product of f;");
        NumeralBabel x = new NumeralBabel();
        for (int number = 1; number <= 9; number++) {
            x.atom(0, number, number);
        }
        x.atom(0, 0, 50);
        x.base(0, 9, 19, 9, 12);
        x.joint(0, 0, 12);
        x.less(0, 0, 9, 13);
        // 9 less the rest 0 is at most the less 9, but the rest 0 goes ahead of it.
        CHECK.says(x, 0, 18, 0, "2 19");
        CHECK.says(x, 0, 81, 0, "9 19");
        CHECK.says(x, 0, 19, 0, "8 13 3 19");
        CHECK.says(x, 0, 17, 0, "1 13 2 19");
    }

    private static void towardTheNext() {
        CHECK.sentence(0, "otherwise, if the base less r is at most its less: the name of that difference, the word for "
                + "less, and the product of f and 1, together;");
        for (int style = 0; style < 16; style += 4) {
            NumeralBabel x = tens(style);
            x.joint(0, 0, 12);
            x.less(0, 0, 3, 13);
            CHECK.says(x, 0, 19, 0, "1 13 2 10");
            CHECK.says(x, 0, 17, 0, "3 13 2 10");
            CHECK.holds("16 is not said by 4 less", x.say(0, 16, 0) > 0 && !Check.words(x).contains("13"));
            CHECK.says(x, 0, 89, 0, "1 13 9 10");
            CHECK.says(x, 0, 97, 0, "");
            x.less(0, 0, 0, 13);
            CHECK.holds("less 0 is none", x.say(0, 19, 0) > 0 && !Check.words(x).contains("13"));
            x.less(0, 0, 9, 13);
            CHECK.says(x, 0, 11, 0, "9 13 2 10");
            CHECK.says(x, 0, 9, 0, "9");
            x.dropAtom(0, 9);
            CHECK.says(x, 0, 11, 0, "");
        }
    }

    private static void fromBelow() {
        CHECK.sentence(0, "otherwise with OVER the name of r, the joint, and the product of f and 1, together;");
        for (int style = 8; style < 16; style += 4) {
            NumeralBabel x = tens(style);
            x.joint(0, 0, 12);
            CHECK.says(x, 0, 11, 0, "1 12 2 10");
            CHECK.says(x, 0, 10, 0, "10");
            CHECK.says(x, 0, 89, 0, "9 12 9 10");
            CHECK.says(x, 0, 90, 0, "9 10");
            CHECK.says(x, 0, 91, 0, "");
        }
    }

    private static void orders() {
        CHECK.sentence(0, "otherwise the product of f, the joint, and the name of r, with FIRST the name of r, the "
                + "joint, and the product of f.");
        NumeralBabel x = tens(0);
        x.joint(0, 0, 12);
        CHECK.says(x, 0, 99, 0, "9 10 12 9");
        CHECK.says(x, 0, 11, 0, "10 12 1");
        NumeralBabel first = tens(4);
        first.joint(0, 0, 12);
        CHECK.says(first, 0, 98, 0, "8 12 9 10");
        CHECK.says(first, 0, 12, 0, "2 12 10");
    }

    private static void noJoint() {
        CHECK.sentence(0, "A joint that is none is left out.");
        String[] want = {"10 2", "2 10", "2 2 10"};
        int[] told = {0, 4, 8};
        for (int i = 0; i < told.length; i++) {
            NumeralBabel x = tens(told[i]);
            CHECK.says(x, 0, 12, 0, want[i]);
            x.joint(0, 0, 0);
            CHECK.due("with the joint 0, one word more", want[i].split(" ").length + 1, x.say(0, 12, 0));
            x.joint(0, 0, -1);
            CHECK.says(x, 0, 12, 0, want[i]);
        }
    }

    private static void products() {
        productOfOne();
        productOfMore();
        aboveTheMost();
    }

    private static void productOfOne() {
        CHECK.sentence(0, "The product of f is the word of the base, if f is 1 and the style has not ONE;");
        NumeralBabel x = new NumeralBabel();
        x.base(0, 10, 10, 9, 14);
        CHECK.says(x, 0, 10, 0, "10");
        x.base(1, 10, 10, 9, 1);
        CHECK.says(x, 1, 10, 0, "");
        x.atom(1, 1, 1);
        CHECK.says(x, 1, 10, 0, "1 10");
        x.atom(0, 2, 2);
        CHECK.says(x, 0, 20, 0, "10 2");
    }

    private static void productOfMore() {
        CHECK.sentence(0, "otherwise the name of f and that word, with BEHIND that word and the name of f.");
        NumeralBabel x = new NumeralBabel();
        Check.tens(x, 0, 0);
        x.base(0, 100, 11, 99, 1);
        CHECK.says(x, 0, 1200, 0, "10 2 11");
        CHECK.says(x, 0, 100, 0, "1 11");
        NumeralBabel behind = new NumeralBabel();
        Check.tens(behind, 0, 0);
        behind.base(0, 100, 11, 99, 3);
        CHECK.says(behind, 0, 1200, 0, "11 10 2");
        CHECK.says(behind, 0, 100, 0, "11 1");
    }

    private static void aboveTheMost() {
        CHECK.sentence(0, "There is none, if f is above the most.");
        NumeralBabel x = new NumeralBabel();
        x.atom(0, 1, 1);
        x.atom(0, 2, 2);
        x.base(0, 3, 3, 1, 0);
        CHECK.says(x, 0, 5, 0, "3 2");
        CHECK.says(x, 0, 6, 0, "");
        CHECK.says(x, 0, 7, 0, "");
        x.less(0, 0, 1, 9);
        CHECK.says(x, 0, 5, 0, "");
        x.empty(0);
        Check.tens(x, 0, 0);
        x.base(0, 100, 11, 99, 0);
        x.base(1, 60, 12, 99, 0);
        x.atom(1, 99, 13);
        x.atom(1, 100, 14);
        CHECK.says(x, 0, 9999, 0, "9 10 9 11 9 10 9");
        CHECK.says(x, 1, 99 * 60, 0, "13 12");
        CHECK.says(x, 1, 100 * 60, 0, "");
        NumeralBabel over = new NumeralBabel();
        for (int number = 1; number <= 4; number++) {
            over.atom(0, number, number);
        }
        over.base(0, 10, 10, 3, 8);
        CHECK.says(over, 0, 21, 0, "1 3 10");
        CHECK.says(over, 0, 30, 0, "3 10");
        CHECK.says(over, 0, 31, 0, "");
    }

    /** Counted by twos and by 64: 351 has just 20 words, 607 one more. */
    private static NumeralBabel twos() {
        NumeralBabel x = new NumeralBabel();
        x.atom(0, 1, 1);
        x.base(0, 2, 2, 99, 1);
        x.joint(0, 0, 5);
        x.base(0, 64, 6, 99, 0);
        x.joint(0, 1, 5);
        return x;
    }

    private static void noNames() {
        CHECK.sentence(0, "A number without a base that counts, or for which some part has no name, or with more than 20 "
                + "words, has no name.");
        NumeralBabel x = tens(1);
        CHECK.says(x, 0, 0, 0, "");
        CHECK.says(x, 0, 9, 0, "9");
        x.dropAtom(0, 9);
        CHECK.says(x, 0, 9, 0, "");
        CHECK.says(x, 0, 19, 0, "");
        CHECK.says(x, 0, 90, 0, "");
        CHECK.says(x, 0, 18, 0, "1 10 8");
        x.dropAtom(0, 1);
        CHECK.says(x, 0, 18, 0, "");
        NumeralBabel y = twos();
        CHECK.says(y, 0, 351, 0, "1 2 2 5 1 6 5 1 2 5 1 2 5 1 2 5 1 2 5 1");
        CHECK.says(y, 0, 607, 0, "");
        CHECK.says(y, 0, 606, 0, "1 2 2 2 5 1 6 5 1 2 5 1 2 5 1 2 5 1 2");
        y.joint(0, 1, -1);
        CHECK.says(y, 0, 607, 0, "1 2 2 2 5 1 6 1 2 5 1 2 5 1 2 5 1 2 5 1");
        CHECK.says(y, 0, 1119, 0, "");
    }

    // ---- classes, seams, sayings

    private static void classes() {
        theClasses();
        forms();
        saidForClass();
        saidAsOrdinal();
        fraction();
    }

    private static void theClasses() {
        CHECK.sentence(0, "There are the classes 0 to 2.");
        NumeralBabel x = tens(0);
        for (int group = 0; group < 3; group++) {
            x.form(0, 7, group, 70 + group);
        }
        for (int group = 0; group < 3; group++) {
            CHECK.says(x, 0, 7, group, Integer.toString(70 + group));
        }
        CHECK.refused("class -1", Check.OUT, () -> x.say(0, 7, -1));
        CHECK.refused("class 3, which is the ordinal's", Check.OUT, () -> x.say(0, 7, 3));
    }

    private static void forms() {
        CHECK.sentence(0, "A grammar has forms: for a word and a class, or the ordinal (told as 3), another word, at most "
                + "30; one without a form stays as it is.");
        NumeralBabel x = tens(0);
        for (int i = 0; i < 30; i++) {
            x.form(0, 100 + i, i % 4, 5);
        }
        CHECK.refused("the 31st", Check.STATE, () -> x.form(0, 7, 3, 5));
        CHECK.saysOrdinal(x, 0, 7, "7");
        CHECK.says(x, 0, 7, 0, "7");
        NumeralBabel y = tens(0);
        y.form(0, 7, 3, 70);
        CHECK.saysOrdinal(y, 0, 7, "70");
        CHECK.says(y, 0, 7, 0, "7");
        CHECK.says(y, 0, 7, 2, "7");
    }

    private static void saidForClass() {
        CHECK.sentence(0, "Said for a class, the last word of a name has its form for that class.");
        NumeralBabel x = tens(0);
        x.form(0, 3, 0, 60);
        x.form(0, 10, 0, 61);
        x.form(0, 60, 0, 62);
        CHECK.says(x, 0, 33, 0, "3 10 60");
        CHECK.says(x, 0, 30, 0, "3 61");
        CHECK.says(x, 0, 10, 0, "61");
        CHECK.says(x, 0, 3, 0, "60");
        NumeralBabel behind = tens(2);
        behind.form(0, 3, 1, 60);
        behind.form(0, 10, 1, 61);
        CHECK.says(behind, 0, 30, 1, "10 60");
    }

    private static void saidAsOrdinal() {
        CHECK.sentence(0, "Said as an ordinal, it has that of the ordinal, if there is one; otherwise it stays, and the "
                + "word of ordinals comes behind, if the grammar has one.");
        NumeralBabel x = tens(0);
        x.form(0, 3, 3, 60);
        x.form(0, 4, 3, 4);
        x.form(0, 5, 0, 61);
        CHECK.saysOrdinal(x, 0, 13, "10 60");
        CHECK.saysOrdinal(x, 0, 15, "10 5");
        x.ordinal(0, 0);
        CHECK.saysOrdinal(x, 0, 13, "10 60");
        CHECK.saysOrdinal(x, 0, 14, "10 4");
        CHECK.saysOrdinal(x, 0, 15, "10 5 0");
        CHECK.says(x, 0, 16, 0, "10 6");
    }

    private static void fraction() {
        CHECK.sentence(0, "A fraction is the name of the one number for a class, and that of the other one as an ordinal, "
                + "behind.");
        NumeralBabel x = tens(0);
        x.form(0, 3, 1, 60);
        x.form(0, 3, 3, 61);
        x.ordinal(0, 62);
        CHECK.saysFraction(x, 0, new int[] {13, 23}, 1, "10 60 2 10 61");
        CHECK.saysFraction(x, 0, new int[] {13, 24}, 0, "10 3 2 10 4 62");
        CHECK.saysFraction(x, 0, new int[] {24, 13}, 1, "2 10 4 10 61");
    }

    private static void seams() {
        meeting();
        order();
        sayings();
        kept();
    }

    private static void meeting() {
        CHECK.sentence(0, "A grammar has seams, at most 6, in an order: where the one word stands right ahead of the "
                + "other one, both become a third one.");
        NumeralBabel x = tens(0);
        x.joint(0, 0, 12);
        x.seam(0, 2, 10, 20);
        x.seam(0, 10, 3, 21);
        CHECK.says(x, 0, 24, 0, "20 12 4");
        CHECK.says(x, 0, 12, 0, "10 12 2");
        CHECK.says(x, 0, 13, 0, "10 12 3");
        x.joint(0, 0, -1);
        CHECK.says(x, 0, 13, 0, "21");
        CHECK.says(x, 0, 12, 0, "10 2");
        for (int i = 3; i <= 6; i++) {
            CHECK.due("how many", i, x.seam(0, 190, 191, 192));
        }
        CHECK.refused("the seventh", Check.STATE, () -> x.seam(0, 190, 191, 192));
    }

    private static void order() {
        CHECK.sentence(0, "A saying goes through them one by one, each from its beginning on, going on behind what became "
                + "of two.");
        NumeralBabel x = new NumeralBabel();
        x.atom(0, 1, 1);
        x.base(0, 2, 1, 99, 1);
        x.seam(0, 1, 1, 1);
        CHECK.says(x, 0, 2, 0, "1");
        CHECK.says(x, 0, 4, 0, "1 1");
        CHECK.says(x, 0, 8, 0, "1 1");
        NumeralBabel y = tens(0);
        y.seam(0, 20, 4, 24);
        y.seam(0, 2, 10, 20);
        y.seam(0, 20, 3, 23);
        // The first seam goes through ahead of the second one, and not once more behind it.
        CHECK.says(y, 0, 24, 0, "20 4");
        CHECK.says(y, 0, 23, 0, "23");
    }

    private static void sayings() {
        CHECK.sentence(0, "A saying has the words then; a number without a name has no saying, nor is there one with more "
                + "than 20 words ahead of the seams.");
        NumeralBabel x = twos();
        x.ordinal(0, 9);
        CHECK.due("20 words", 20, x.say(0, 351, 0));
        CHECK.saysOrdinal(x, 0, 351, "");
        CHECK.saysFraction(x, 0, new int[] {15, 15}, 0, "");
        x.form(0, 1, 3, 10);
        CHECK.due("20 as an ordinal", 20, x.sayOrdinal(0, 351));
        CHECK.due("10 and 10", 20, x.sayFraction(0, 15, 15, 0));
        CHECK.saysFraction(x, 0, new int[] {15, 30}, 0, "");
        x.seam(0, 2, 5, 7);
        x.seam(0, 7, 1, 8);
        CHECK.says(x, 0, 351, 0, "1 2 8 6 5 1 8 8 8 8");
        CHECK.saysOrdinal(x, 0, 351, "1 2 8 6 5 1 8 8 8 7 10");
        CHECK.says(x, 0, 607, 0, "");
        CHECK.saysFraction(x, 0, new int[] {15, 15}, 0, "1 8 8 8 1 8 8 7 10");
        CHECK.saysFraction(x, 0, new int[] {15, 30}, 0, "");
        CHECK.says(x, 0, 0, 0, "");
    }

    private static void kept() {
        CHECK.sentence(0, "---- sayings, which are kept till the next one.");
        NumeralBabel x = tens(0);
        x.say(0, 42, 0);
        x.empty(0);
        x.forget();
        x.dropExamples();
        CHECK.judge("kept when its grammar is emptied", "4 10 2", Check.words(x));
        x.atom(0, 5, 5);
        x.sayOrdinal(0, 5);
        CHECK.judge("then the next one", "5", Check.words(x));
        x.sayFraction(0, 5, 5, 0);
        CHECK.judge("then a fraction", "5 5", Check.words(x));
        x.sayOrdinal(0, 6);
        CHECK.judge("then none", "", Check.words(x));
    }

    // ---- hearing

    private static void hearing() {
        heardRow();
        fitting();
        bestPlace();
    }

    private static void heardRow() {
        CHECK.sentence(0, "What was heard is a row of at most 20 words, some of which may be told as not heard.");
        NumeralBabel x = new NumeralBabel();
        for (int i = 1; i <= 20; i++) {
            CHECK.due("words", i, x.hear(i % 2 == 0 ? -1 : 199));
        }
        CHECK.refused("the 21st", Check.STATE, () -> x.hear(0));
        CHECK.due("20 of them", 20, x.forget());
    }

    private static void fitting() {
        CHECK.sentence(0, "A number fits for a grammar and a class, if its saying has as many words, and the same ones at "
                + "all places that were heard.");
        NumeralBabel x = tens(0);
        Check.hear(x, 4, 10, 2);
        CHECK.due("all heard", 1, x.fits(0, 0, 999));
        Check.hear(x, 4, 10);
        CHECK.due("one word less, only 40", 40, x.fit(0, 0, 999, 0));
        CHECK.due("and 42 no more", 1, x.fits(0, 0, 999));
        Check.hear(x, 4, 10, 2, -1);
        CHECK.due("one word more", 0, x.fits(0, 0, 999));
        Check.hear(x, -1, 10, 2);
        CHECK.due("the first not heard", 8, x.fits(0, 0, 999));
        Check.hear(x, 4, 10, -1);
        CHECK.due("the last not heard", 9, x.fits(0, 0, 999));
        Check.hear(x, -1, -1, -1);
        CHECK.due("none heard", 72, x.fits(0, 0, 999));
        Check.hear(x, 4, 9, -1);
        CHECK.due("a wrong one in between", 0, x.fits(0, 0, 999));
        x.forget();
        CHECK.due("nothing heard: no saying has no words", 0, x.fits(0, 0, 999));
        CHECK.due("nor in an empty grammar", 0, x.fits(1, 0, 999));
    }

    private static void bestPlace() {
        CHECK.sentence(0, "To ask for a word is to be told the word at a place that was not heard: the best place is that "
                + "for which, of the numbers that fit, the greatest set with one and the same word there has the fewest; "
                + "of several the first one.");
        NumeralBabel x = new NumeralBabel();
        for (int number = 1; number <= 4; number++) {
            x.atom(0, number, number);
        }
        x.base(0, 5, 5, 4, 1);
        Check.hear(x, -1, -1, -1);
        // 6 to 24 but for 10, 15 and 20: four of each first word, all of 5, four of each last word.
        CHECK.due("of several the first one", 0, x.askWord(0, 0, 24));
        CHECK.due("up to 9 the last one", 2, x.askWord(0, 0, 9));
        CHECK.due("up to 16 the last one", 2, x.askWord(0, 0, 16));
        x.dropAtom(0, 4);
        // 6 to 8, 11 to 13 and 16 to 18: threes at both ends.
        CHECK.due("threes, the first one", 0, x.askWord(0, 0, 24));
        Check.hear(x, 1, -1, -1);
        CHECK.due("the first was heard", 2, x.askWord(0, 0, 24));
        Check.hear(x, -1, -1, 2);
        CHECK.due("the last was heard", 0, x.askWord(0, 0, 24));
        Check.hear(x, 1, -1, 2);
        CHECK.due("7 alone", -1, x.askWord(0, 0, 24));
    }

    // ---- learning

    private static void learning() {
        examples();
        settingNumbers();
        settingsFit();
        bestNumber();
    }

    private static void examples() {
        CHECK.sentence(0, "Examples, at most 20, are numbers with rows of words, all heard, for the class 0.");
        NumeralBabel x = tens(0);
        x.form(0, 2, 0, 60);
        x.form(0, 2, 1, 61);
        Check.hear(x, 4, 10, 60);
        for (int i = 1; i <= 20; i++) {
            CHECK.due("examples", i, x.example(42));
        }
        CHECK.refused("the 21st", Check.STATE, () -> x.example(42));
        CHECK.due("as said for the class 0", 2, x.settings(0, 0, 12));
        x.dropExamples();
        Check.hear(x, 4, 10, 61);
        x.example(42);
        CHECK.due("not as for the class 1", 0, x.settings(0, 0, 12));
        Check.hear(x, 4, -1, 60);
        CHECK.refused("one not heard", Check.STATE, () -> x.example(42));
    }

    private static void settingNumbers() {
        CHECK.sentence(0, "A setting of a base is a style and whether it has the joint that is told (a word), all else of "
                + "it staying, as 2 times the style, and 1 with it.");
        for (int style = 0; style < 16; style++) {
            NumeralBabel x = tens(style);
            x.joint(0, 0, 12);
            x.less(0, 0, 1, 13);
            int[] numbers = {10, 14, 19, 30, 34};
            for (int number : numbers) {
                x.say(0, number, 0);
                x.hearSaid();
                x.example(number);
            }
            x.joint(0, 0, 150);
            x.base(0, 5000, 14, 1, 0);
            int setting = x.learn(0, 0, 12);
            CHECK.due("it has the joint", 1, setting % 2);
            CHECK.due("style told", setting / 2, x.baseTold(0, 0, 3));
            CHECK.due("joint told", 12, x.baseTold(0, 0, 4));
            CHECK.due("not above the true one", 0, setting / 2 & ~style);
            // With OVER the order of FIRST is never heard; of all else the examples tell.
            CHECK.due("the true style", (style & 8) != 0 ? style & ~4 : style, setting / 2);
            long[] stays = {10, 10, 9, setting / 2, 12, 1, 13};
            for (int what = 0; what < 7; what++) {
                CHECK.due("told " + what, stays[what], x.baseTold(0, 0, what));
            }
        }
    }

    private static void settingsFit() {
        CHECK.sentence(0, "It fits, if the sayings of all examples' numbers, with that setting for the base, are their "
                + "rows.");
        NumeralBabel x = tens(0);
        CHECK.due("no examples", 32, x.settings(0, 0, 12));
        Check.hear(x, 2, 10);
        x.example(20);
        CHECK.due("BEHIND is out", 16, x.settings(0, 0, 12));
        Check.hear(x, 10);
        x.example(10);
        CHECK.due("ONE is out", 8, x.settings(0, 0, 12));
        Check.hear(x, 10, 2);
        x.example(12);
        CHECK.due("the joint, FIRST and OVER are out", 1, x.settings(0, 0, 12));
        Check.hear(x, 5);
        x.example(0);
        CHECK.due("no saying is no row", 0, x.settings(0, 0, 12));
    }

    private static void bestNumber() {
        CHECK.sentence(0, "The best number to ask for is, of those up to a bound, that for which, of the settings that "
                + "fit, the greatest set with one and the same saying (or none) has the fewest; of several the lowest.");
        NumeralBabel x = tens(0);
        Check.hear(x, 2, 10);
        x.example(20);
        Check.hear(x, 10);
        x.example(10);
        // Of the settings without ONE and BEHIND 11 tells the joint or none, and 1 from 10: 2, 2, 1, 1, 1 and 1.
        CHECK.due("11 leaves two", 11, x.askNumber(0, 0, 12, 99));
        CHECK.due("up to 11", 11, x.askNumber(0, 0, 12, 11));
        CHECK.due("up to 10 nothing differs", -1, x.askNumber(0, 0, 12, 10));
        x.less(0, 0, 9, 13);
        CHECK.due("by less all are alike", -1, x.askNumber(0, 0, 12, 99));
        x.less(0, 0, 8, 13);
        x.dropAtom(0, 1);
        // Of the numbers with the rest 1 none has a name now.
        CHECK.due("none is one and the same too", -1, x.askNumber(0, 0, 12, 99));
        x.less(0, 0, 7, 13);
        CHECK.due("12 is the lowest then", 12, x.askNumber(0, 0, 12, 99));
        NumeralBabel y = new NumeralBabel();
        Check.tens(y, 0, 0);
        y.dropAtom(0, 2);
        y.dropAtom(0, 1);
        // 10: with ONE it has none, 16 of each; 13: OVER has none, as 2 has none; with ONE none has one.
        CHECK.due("those without a saying are a set", 10, y.askNumber(0, 0, 12, 19));
    }

    // ---- cords and exceptions

    private static void cords() {
        theCords();
        counting();
    }

    private static void theCords() {
        CHECK.sentence(0, "There are the cords 0 to 5, each with a base, 2 to 60, 10 at first, and knots, 0 to its base "
                + "less 1, 0 at first.");
        NumeralBabel x = new NumeralBabel();
        for (int cord = 0; cord < 6; cord++) {
            CHECK.due("no knots", 0, x.knots(cord));
        }
        x.count(-1);
        for (int cord = 0; cord < 6; cord++) {
            CHECK.due("9 knots at most", 9, x.knots(cord));
        }
        for (int cord = 0; cord < 6; cord++) {
            CHECK.due("10 at first", 10, x.cord(cord, 2));
            CHECK.due("2 then", 2, x.cord(cord, 60));
        }
        x.count(-1);
        for (int cord = 0; cord < 6; cord++) {
            CHECK.due("59 knots at most", 59, x.knots(cord));
        }
        x.count(1);
        for (int cord = 0; cord < 6; cord++) {
            CHECK.due("no knots again", 0, x.knots(cord));
        }
        CHECK.refused("cord -1", Check.OUT, () -> x.knots(-1));
        CHECK.refused("cord 6", Check.OUT, () -> x.knots(6));
        CHECK.refused("base 1", Check.ARGUMENT, () -> x.cord(0, 1));
        CHECK.refused("base 61", Check.ARGUMENT, () -> x.cord(0, 61));
    }

    private static void counting() {
        CHECK.sentence(0, "To count by some number is to add it at the cord 0, and carry what goes beyond a base, or below "
                + "0, to the next cord, always rounded down, as if there was no bound to numbers; what goes beyond the "
                + "cord 5 is lost, its sum being kept as a long, with overflow.");
        NumeralBabel x = new NumeralBabel();
        x.count(9);
        CHECK.due("just a base: no carry yet", 9, x.knots(0));
        x.count(1);
        CHECK.due("beyond it", 0, x.knots(0));
        CHECK.due("carried", 1, x.knots(1));
        x.count(-11);
        CHECK.due("below 0", 9, x.knots(0));
        CHECK.due("borrowed", 9, x.knots(5));
        CHECK.due("rounded down", -1, x.lost());
        NumeralBabel y = new NumeralBabel();
        for (int cord = 0; cord < 6; cord++) {
            y.cord(cord, 2);
        }
        CHECK.due("a first one", 0, y.count(63));
        CHECK.due("as without a bound", (1L << 57), y.count(Long.MAX_VALUE));
        CHECK.due("62 are left", 62, y.shown());
        y.count(2);
        CHECK.due("64 are lost more", (1L << 57) + 1, y.lost());
        CHECK.due("far below 0", -(1L << 57), y.count(Long.MIN_VALUE));
        CHECK.due("their sum", 1, y.lost());
    }

    private static void exceptions() {
        nothingChanges();
        theFirstOne();
        noSuchOne();
    }

    /** RefusalsTest looks at this for every call, argument and mixture of them. */
    private static void nothingChanges() {
        CHECK.sentence(0, "A call that throws an exception changes nothing.");
        NumeralBabel x = tens(0);
        x.say(0, 42, 0);
        x.hear(5);
        CHECK.refused("say", Check.ARGUMENT, () -> x.say(0, 10000, 0));
        CHECK.refused("sayFraction", Check.ARGUMENT, () -> x.sayFraction(0, 1, 0, 0));
        CHECK.judge("the saying", "4 10 2", Check.words(x));
        CHECK.refused("hear", Check.OUT, () -> x.hear(200));
        CHECK.due("what was heard", 5, x.fit(0, 0, 99, 0));
        CHECK.refused("less", Check.ARGUMENT, () -> x.less(0, 0, 10, 99));
        CHECK.due("the word for less", 0, x.baseTold(0, 0, 6));
        x.count(77);
        CHECK.refused("cord", Check.ARGUMENT, () -> x.cord(0, 61));
        CHECK.due("the knots", 77, x.shown());
    }

    private static void theFirstOne() {
        CHECK.sentence(0, "If several exceptions apply, the one that is named first in the throws clause is thrown.");
        NumeralBabel x = new NumeralBabel();
        for (int number = 0; number < 40; number++) {
            x.atom(0, number, 1);
        }
        CHECK.refused("all three", Check.OUT, () -> x.atom(0, 10000, 200));
        CHECK.refused("the last two", Check.ARGUMENT, () -> x.atom(0, 10000, 1));
        CHECK.refused("the last", Check.STATE, () -> x.atom(0, 9999, 1));
        CHECK.refused("argument and state", Check.ARGUMENT, () -> x.example(10000));
        CHECK.refused("state alone", Check.STATE, () -> x.example(9999));
    }

    private static void noSuchOne() {
        CHECK.sentence(0, "A call that takes a grammar, a class, a word, a base of a grammar, told as its place in the "
                + "order in which they were told, or a cord throws IndexOutOfBoundsException if there is no such one.");
        NumeralBabel x = tens(0);
        CHECK.refused("grammar", Check.OUT, () -> x.dropAtom(4, 1));
        CHECK.refused("class", Check.OUT, () -> x.fits(0, 3, 1));
        CHECK.refused("word", Check.OUT, () -> x.seam(0, 1, 1, 200));
        CHECK.refused("base", Check.OUT, () -> x.joint(0, 1, 1));
        CHECK.refused("base of a grammar without one", Check.OUT, () -> x.joint(1, 0, 1));
        CHECK.refused("cord", Check.OUT, () -> x.cord(6, 10));
        CHECK.due("there are all of them", -1, x.joint(0, 0, 1));
    }
}
