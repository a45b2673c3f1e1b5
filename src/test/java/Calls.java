/** The calls of the face by their places in it, with the arguments in a row. */
final class Calls {

    static final String[] NAMES = {"atom", "dropAtom", "base", "joint", "less", "form", "ordinal", "seam",
        "empty", "say", "sayOrdinal", "sayFraction", "said", "hear", "hearSaid", "forget", "fits", "fit", "askWord",
        "gap", "clash", "example", "dropExamples", "settings", "learn", "askNumber", "baseTold", "numberOf", "cord",
        "count", "knots", "lost", "shown"};

    private Calls() {
    }

    static long call(NumeralBabel x, int which, long[] a) {
        int b = (int) a[0];
        int c = (int) a[1];
        int d = (int) a[2];
        int e = (int) a[3];
        int f = (int) a[4];
        switch (which) {
            case 0: return x.atom(b, c, d);
            case 1: return x.dropAtom(b, c);
            case 2: return x.base(b, c, d, e, f);
            case 3: return x.joint(b, c, d);
            case 4: return x.less(b, c, d, e);
            case 5: return x.form(b, c, d, e);
            case 6: return x.ordinal(b, c);
            case 7: return x.seam(b, c, d, e);
            case 8: return x.empty(b);
            case 9: return x.say(b, c, d);
            case 10: return x.sayOrdinal(b, c);
            case 11: return x.sayFraction(b, c, d, e);
            case 12: return x.said(b);
            case 13: return x.hear(b);
            case 14: return x.hearSaid();
            case 15: return x.forget();
            case 16: return x.fits(b, c, d);
            case 17: return x.fit(b, c, d, e);
            case 18: return x.askWord(b, c, d);
            case 19: return x.gap(b, c);
            case 20: return x.clash(b, c, d);
            case 21: return x.example(b);
            case 22: return x.dropExamples();
            case 23: return x.settings(b, c, d);
            case 24: return x.learn(b, c, d);
            case 25: return x.askNumber(b, c, d, e);
            case 26: return x.baseTold(b, c, d);
            case 27: return x.numberOf(b, c);
            case 28: return x.cord(b, c);
            case 29: return x.count(a[0]);
            case 30: return x.knots(b);
            case 31: return x.lost();
            default: return x.shown();
        }
    }
}
