import java.math.BigInteger;
import java.util.ArrayList;
import java.util.HashMap;
import java.util.List;
import java.util.Map;
import java.util.TreeMap;

/** The document said once more, as plainly as the Java library allows, to be compared with the class. */
final class Reference {

    private static final class Base {
        int number;
        int word;
        int most;
        int style;
        int joint = -1;
        int less = 0;
        int lessWord = 0;
    }

    private static final class Grammar {
        final Map<Integer, Integer> atoms = new TreeMap<>();
        final List<Base> bases = new ArrayList<>();
        final Map<List<Integer>, Integer> forms = new HashMap<>();
        int ordinal = -1;
        final List<int[]> seams = new ArrayList<>();
    }

    private final List<Grammar> grammars = new ArrayList<>();
    private List<Integer> latest = List.of();
    private List<Integer> heard = new ArrayList<>();
    private final List<Integer> exampleNumbers = new ArrayList<>();
    private final List<List<Integer>> exampleRows = new ArrayList<>();
    private final int[] cordBases = {10, 10, 10, 10, 10, 10};
    private BigInteger shown = BigInteger.ZERO;
    private long lost = 0;

    Reference() {
        for (int i = 0; i < 4; i++) {
            grammars.add(new Grammar());
        }
    }

    private static void out(boolean wrong) {
        if (wrong) {
            throw new IndexOutOfBoundsException();
        }
    }

    private static void argument(boolean wrong) {
        if (wrong) {
            throw new IllegalArgumentException();
        }
    }

    private static void state(boolean wrong) {
        if (wrong) {
            throw new IllegalStateException();
        }
    }

    private static boolean noWord(int word) {
        return word < 0 || word > 199;
    }

    private static boolean noGrammar(int grammar) {
        return grammar < 0 || grammar > 3;
    }

    private static boolean noClass(int group) {
        return group < 0 || group > 2;
    }

    private boolean noBase(int grammar, int place) {
        return noGrammar(grammar) || place < 0 || place >= grammars.get(grammar).bases.size();
    }

    /** Any call by its place in the document's face. */
    long call(int which, long[] a) {
        int b = (int) a[0];
        int c = (int) a[1];
        int d = (int) a[2];
        int e = (int) a[3];
        int f = (int) a[4];
        switch (which) {
            case 0: return atom(b, c, d);
            case 1: return dropAtom(b, c);
            case 2: return base(b, c, d, e, f);
            case 3: return joint(b, c, d);
            case 4: return less(b, c, d, e);
            case 5: return form(b, c, d, e);
            case 6: return ordinal(b, c);
            case 7: return seam(b, c, d, e);
            case 8: return empty(b);
            case 9: return say(b, c, d);
            case 10: return sayOrdinal(b, c);
            case 11: return sayFraction(b, c, d, e);
            case 12: return said(b);
            case 13: return hear(b);
            case 14: return hearSaid();
            case 15: return forget();
            case 16: return fits(b, c, d);
            case 17: return fit(b, c, d, e);
            case 18: return askWord(b, c, d);
            case 19: return gap(b, c);
            case 20: return clash(b, c, d);
            case 21: return example(b);
            case 22: return dropExamples();
            case 23: return settings(b, c, d);
            case 24: return learn(b, c, d);
            case 25: return askNumber(b, c, d, e);
            case 26: return baseTold(b, c, d);
            case 27: return numberOf(b, c);
            case 28: return cord(b, c);
            case 29: return count(a[0]);
            case 30: return knots(b);
            case 31: return lost;
            default: return shown.longValueExact();
        }
    }

    private int atom(int grammar, int number, int word) {
        out(noGrammar(grammar) || noWord(word));
        argument(number < 0 || number > 9999);
        Map<Integer, Integer> atoms = grammars.get(grammar).atoms;
        state(!atoms.containsKey(number) && atoms.size() == 40);
        Integer before = atoms.put(number, word);
        return before == null ? -1 : before;
    }

    private int dropAtom(int grammar, int number) {
        out(noGrammar(grammar));
        Integer before = grammars.get(grammar).atoms.remove(number);
        return before == null ? -1 : before;
    }

    private int base(int grammar, int base, int word, int most, int style) {
        out(noGrammar(grammar) || noWord(word));
        argument(base < 2 || base > 5000 || most < 1 || most > 99 || style < 0 || style > 15);
        List<Base> bases = grammars.get(grammar).bases;
        state(bases.size() == 5 || bases.stream().anyMatch(there -> there.number == base));
        Base told = new Base();
        told.number = base;
        told.word = word;
        told.most = most;
        told.style = style;
        bases.add(told);
        return bases.size() - 1;
    }

    private int joint(int grammar, int place, int word) {
        out(noBase(grammar, place) || word != -1 && noWord(word));
        Base base = grammars.get(grammar).bases.get(place);
        int before = base.joint;
        base.joint = word;
        return before;
    }

    private int less(int grammar, int place, int less, int word) {
        out(noBase(grammar, place) || noWord(word));
        argument(less < 0 || less > 9);
        Base base = grammars.get(grammar).bases.get(place);
        int before = base.less;
        base.less = less;
        base.lessWord = word;
        return before;
    }

    private int form(int grammar, int word, int kind, int form) {
        out(noGrammar(grammar) || noWord(word) || noWord(form));
        argument(kind < 0 || kind > 3);
        Map<List<Integer>, Integer> forms = grammars.get(grammar).forms;
        List<Integer> key = List.of(word, kind);
        state(!forms.containsKey(key) && forms.size() == 30);
        Integer before = forms.put(key, form);
        return before == null ? -1 : before;
    }

    private int ordinal(int grammar, int word) {
        out(noGrammar(grammar) || word != -1 && noWord(word));
        int before = grammars.get(grammar).ordinal;
        grammars.get(grammar).ordinal = word;
        return before;
    }

    private int seam(int grammar, int left, int right, int becomes) {
        out(noGrammar(grammar) || noWord(left) || noWord(right) || noWord(becomes));
        List<int[]> seams = grammars.get(grammar).seams;
        state(seams.size() == 6);
        seams.add(new int[] {left, right, becomes});
        return seams.size();
    }

    private int empty(int grammar) {
        out(noGrammar(grammar));
        Grammar before = grammars.set(grammar, new Grammar());
        return before.atoms.size() + before.bases.size();
    }

    private static List<Integer> joined(List<?>... parts) {
        List<Integer> all = new ArrayList<>();
        for (List<?> part : parts) {
            if (part == null) {
                return null;
            }
            for (Object word : part) {
                all.add((Integer) word);
            }
        }
        return all.size() > 20 ? null : all;
    }

    private static List<Integer> name(Grammar g, int number) {
        if (g.atoms.containsKey(number)) {
            return List.of(g.atoms.get(number));
        }
        Base base = g.bases.stream().filter(told -> told.number <= number)
                .max((one, other) -> Integer.compare(one.number, other.number)).orElse(null);
        if (base == null) {
            return null;
        }
        int f = number / base.number;
        int r = number % base.number;
        List<Integer> joint = base.joint == -1 ? List.of() : List.of(base.joint);
        if (r == 0) {
            return product(g, base, f);
        }
        if (base.number - r <= base.less) {
            return joined(name(g, base.number - r), List.of(base.lessWord), product(g, base, f + 1));
        }
        if ((base.style & 8) != 0) {
            return joined(name(g, r), joint, product(g, base, f + 1));
        }
        if ((base.style & 4) != 0) {
            return joined(name(g, r), joint, product(g, base, f));
        }
        return joined(product(g, base, f), joint, name(g, r));
    }

    private static List<Integer> product(Grammar g, Base base, int f) {
        if (f > base.most) {
            return null;
        }
        if (f == 1 && (base.style & 1) == 0) {
            return List.of(base.word);
        }
        return (base.style & 2) != 0 ? joined(List.of(base.word), name(g, f)) : joined(name(g, f), List.of(base.word));
    }

    private static List<Integer> formed(Grammar g, int number, int kind) {
        List<Integer> name = name(g, number);
        if (name == null) {
            return null;
        }
        int last = name.get(name.size() - 1);
        List<Integer> front = name.subList(0, name.size() - 1);
        Integer form = g.forms.get(List.of(last, kind));
        if (form != null) {
            return joined(front, List.of(form));
        }
        return kind == 3 && g.ordinal != -1 ? joined(name, List.of(g.ordinal)) : name;
    }

    private static List<Integer> melted(Grammar g, List<Integer> words) {
        if (words == null) {
            return null;
        }
        List<Integer> row = new ArrayList<>(words);
        for (int[] seam : g.seams) {
            for (int i = 0; i + 1 < row.size(); i++) {
                if (row.get(i) == seam[0] && row.get(i + 1) == seam[1]) {
                    row.set(i, seam[2]);
                    row.remove(i + 1);
                }
            }
        }
        return row;
    }

    private static List<Integer> saying(Grammar g, int number, int kind) {
        return melted(g, formed(g, number, kind));
    }

    private int keep(List<Integer> saying) {
        latest = saying == null ? List.of() : saying;
        return latest.size();
    }

    private int say(int grammar, int number, int group) {
        out(noGrammar(grammar) || noClass(group));
        argument(number < 0 || number > 9999);
        return keep(saying(grammars.get(grammar), number, group));
    }

    private int sayOrdinal(int grammar, int number) {
        out(noGrammar(grammar));
        argument(number < 0 || number > 9999);
        return keep(saying(grammars.get(grammar), number, 3));
    }

    private int sayFraction(int grammar, int one, int other, int group) {
        out(noGrammar(grammar) || noClass(group));
        argument(one < 0 || one > 9999 || other < 1 || other > 9999);
        Grammar g = grammars.get(grammar);
        return keep(melted(g, joined(formed(g, one, group), formed(g, other, 3))));
    }

    private int said(int place) {
        out(place < 0 || place >= latest.size());
        return latest.get(place);
    }

    private int hear(int word) {
        out(word != -1 && noWord(word));
        state(heard.size() == 20);
        heard.add(word);
        return heard.size();
    }

    private int hearSaid() {
        heard = new ArrayList<>(latest);
        return heard.size();
    }

    private int forget() {
        int before = heard.size();
        heard = new ArrayList<>();
        return before;
    }

    private List<Integer> fitting(int grammar, int group, int bound) {
        List<Integer> numbers = new ArrayList<>();
        for (int number = 0; number <= bound; number++) {
            List<Integer> saying = saying(grammars.get(grammar), number, group);
            boolean fits = saying != null && saying.size() == heard.size();
            for (int i = 0; fits && i < saying.size(); i++) {
                fits = heard.get(i) == -1 || heard.get(i).equals(saying.get(i));
            }
            if (fits) {
                numbers.add(number);
            }
        }
        return numbers;
    }

    private int fits(int grammar, int group, int bound) {
        out(noGrammar(grammar) || noClass(group));
        argument(bound < 0 || bound > 999);
        return fitting(grammar, group, bound).size();
    }

    private int fit(int grammar, int group, int bound, int place) {
        out(noGrammar(grammar) || noClass(group));
        argument(bound < 0 || bound > 999 || place < 0);
        List<Integer> numbers = fitting(grammar, group, bound);
        return place < numbers.size() ? numbers.get(place) : -1;
    }

    private int askWord(int grammar, int group, int bound) {
        out(noGrammar(grammar) || noClass(group));
        argument(bound < 0 || bound > 999);
        List<Integer> numbers = fitting(grammar, group, bound);
        if (numbers.size() < 2) {
            return -1;
        }
        int best = -1;
        int fewest = Integer.MAX_VALUE;
        for (int place = 0; place < heard.size(); place++) {
            if (heard.get(place) != -1) {
                continue;
            }
            List<List<Integer>> words = new ArrayList<>();
            for (int number : numbers) {
                words.add(List.of(saying(grammars.get(grammar), number, group).get(place)));
            }
            int greatest = greatestAlike(words);
            if (greatest < fewest) {
                fewest = greatest;
                best = place;
            }
        }
        return best;
    }

    private static int greatestAlike(List<List<Integer>> rows) {
        Map<List<Integer>, Integer> sets = new HashMap<>();
        int greatest = 0;
        for (List<Integer> row : rows) {
            greatest = Math.max(greatest, sets.merge(row, 1, Integer::sum));
        }
        return greatest;
    }

    private int gap(int grammar, int bound) {
        out(noGrammar(grammar));
        argument(bound < 0 || bound > 999);
        for (int number = 0; number <= bound; number++) {
            if (saying(grammars.get(grammar), number, 0) == null) {
                return number;
            }
        }
        return -1;
    }

    private int clash(int grammar, int group, int bound) {
        out(noGrammar(grammar) || noClass(group));
        argument(bound < 0 || bound > 999);
        Map<List<Integer>, Integer> lower = new HashMap<>();
        for (int number = 0; number <= bound; number++) {
            List<Integer> saying = saying(grammars.get(grammar), number, group);
            if (saying != null && lower.put(saying, number) != null) {
                return number;
            }
        }
        return -1;
    }

    private int example(int number) {
        argument(number < 0 || number > 9999);
        state(exampleNumbers.size() == 20 || heard.isEmpty() || heard.contains(-1));
        exampleNumbers.add(number);
        exampleRows.add(new ArrayList<>(heard));
        return exampleNumbers.size();
    }

    private int dropExamples() {
        int before = exampleNumbers.size();
        exampleNumbers.clear();
        exampleRows.clear();
        return before;
    }

    private void set(Base base, int setting, int joint) {
        base.style = setting >> 1;
        base.joint = (setting & 1) == 1 ? joint : -1;
    }

    private List<Integer> fittingSettings(int grammar, int place, int joint) {
        Grammar g = grammars.get(grammar);
        Base base = g.bases.get(place);
        int style = base.style;
        int jointBefore = base.joint;
        List<Integer> fitting = new ArrayList<>();
        for (int setting = 0; setting < 32; setting++) {
            set(base, setting, joint);
            boolean fits = true;
            for (int i = 0; i < exampleNumbers.size(); i++) {
                fits &= exampleRows.get(i).equals(saying(g, exampleNumbers.get(i), 0));
            }
            if (fits) {
                fitting.add(setting);
            }
        }
        base.style = style;
        base.joint = jointBefore;
        return fitting;
    }

    private int settings(int grammar, int place, int joint) {
        out(noBase(grammar, place) || noWord(joint));
        return fittingSettings(grammar, place, joint).size();
    }

    private int learn(int grammar, int place, int joint) {
        out(noBase(grammar, place) || noWord(joint));
        List<Integer> fitting = fittingSettings(grammar, place, joint);
        state(fitting.isEmpty());
        set(grammars.get(grammar).bases.get(place), fitting.get(0), joint);
        return fitting.get(0);
    }

    private int askNumber(int grammar, int place, int joint, int bound) {
        out(noBase(grammar, place) || noWord(joint));
        argument(bound < 0 || bound > 99);
        List<Integer> fitting = fittingSettings(grammar, place, joint);
        Grammar g = grammars.get(grammar);
        Base base = g.bases.get(place);
        int style = base.style;
        int jointBefore = base.joint;
        int best = -1;
        int fewest = Integer.MAX_VALUE;
        boolean alwaysAlike = true;
        for (int number = 0; number <= bound; number++) {
            List<List<Integer>> rows = new ArrayList<>();
            for (int setting : fitting) {
                set(base, setting, joint);
                List<Integer> saying = saying(g, number, 0);
                rows.add(saying == null ? List.of() : saying);
            }
            int greatest = greatestAlike(rows);
            alwaysAlike &= greatest == fitting.size();
            if (greatest < fewest) {
                fewest = greatest;
                best = number;
            }
        }
        base.style = style;
        base.joint = jointBefore;
        return fitting.size() < 2 || alwaysAlike ? -1 : best;
    }

    private int baseTold(int grammar, int place, int what) {
        out(noBase(grammar, place));
        argument(what < 0 || what > 6);
        Base base = grammars.get(grammar).bases.get(place);
        return new int[] {base.number, base.word, base.most, base.style, base.joint, base.less, base.lessWord}[what];
    }

    private int numberOf(int grammar, int word) {
        out(noGrammar(grammar) || noWord(word));
        int least = Integer.MAX_VALUE;
        for (Map.Entry<Integer, Integer> atom : grammars.get(grammar).atoms.entrySet()) {
            least = atom.getValue() == word ? Math.min(least, atom.getKey()) : least;
        }
        for (Base base : grammars.get(grammar).bases) {
            least = base.word == word ? Math.min(least, base.number) : least;
        }
        return least == Integer.MAX_VALUE ? -1 : least;
    }

    private int cord(int cord, int base) {
        out(cord < 0 || cord > 5);
        argument(base < 2 || base > 60);
        int before = cordBases[cord];
        cordBases[cord] = base;
        shown = BigInteger.ZERO;
        lost = 0;
        return before;
    }

    private BigInteger worth(int cord) {
        BigInteger worth = BigInteger.ONE;
        for (int i = 0; i < cord; i++) {
            worth = worth.multiply(BigInteger.valueOf(cordBases[i]));
        }
        return worth;
    }

    private long count(long by) {
        BigInteger sum = shown.add(BigInteger.valueOf(by));
        shown = sum.mod(worth(6));
        long gone = sum.subtract(shown).divide(worth(6)).longValueExact();
        lost += gone;
        return gone;
    }

    private int knots(int cord) {
        out(cord < 0 || cord > 5);
        return shown.divide(worth(cord)).mod(BigInteger.valueOf(cordBases[cord])).intValueExact();
    }
}
