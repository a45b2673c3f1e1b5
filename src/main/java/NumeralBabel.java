import java.util.Arrays;

/**
 * How languages count: grammars of number words, their sayings, what of them was heard, settings
 * that are learnt from examples, and cords of knots. The document DOC.md says what each call does.
 *
 * Every row is made with the object and used again: no call makes an object.
 */
public final class NumeralBabel {

    private static final int NONE = -1;
    private static final int GRAMMARS = 4;
    private static final int WORDS = 200;
    private static final int CLASSES = 3;
    private static final int ORDINAL_KIND = 3;
    private static final int TOP_NUMBER = 9999;
    private static final int LONGEST = 20;

    private static final int ATOMS = 40;
    // Steps of 32, 16, 8, 4, 2 and 1 reach any count of atoms up to 63.
    private static final int FIRST_STEP = 32;
    private static final int BASES = 5;
    private static final int FORMS = 30;
    private static final int SEAMS = 6;

    private static final int LEAST_BASE = 2;
    private static final int TOP_BASE = 5000;
    private static final int TOP_MOST = 99;
    private static final int TOP_LESS = 9;
    private static final int TOP_STYLE = 15;
    private static final int ONE = 1;
    private static final int BEHIND = 2;
    private static final int FIRST = 4;
    private static final int OVER = 8;

    // A number shrinks to about its half, or below its base, from level to level: far fewer levels are needed.
    private static final int DEEPEST = 40;

    private static final int TOP_HEARD_BOUND = 999;
    private static final int TOP_ASKED_BOUND = 99;
    private static final int EXAMPLES = 20;
    private static final int SETTINGS = 32;
    private static final int BUCKETS = 256;

    private static final int CORDS = 6;
    private static final int TOP_CORD_BASE = 60;
    private static final int FIRST_CORD_BASE = 10;

    private final Grammar[] grammars = new Grammar[GRAMMARS];
    private final Row latest = new Row();
    private final Row heard = new Row();
    private final Row spoken = new Row();
    private final Row lowerSpoken = new Row();

    private final int[] tallies = new int[LONGEST * WORDS];
    private final int[] greatestTallies = new int[LONGEST];
    private final Lookup lookup = new Lookup();

    private final int[] exampleNumbers = new int[EXAMPLES];
    private final Row[] exampleRows = new Row[EXAMPLES];
    private int exampleCount = 0;
    private final int[] fittingSettings = new int[SETTINGS];
    private final Row[] settingRows = new Row[SETTINGS];

    private final Cords cords = new Cords();

    public NumeralBabel() {
        for (int i = 0; i < GRAMMARS; i++) {
            grammars[i] = new Grammar();
        }
        for (int i = 0; i < EXAMPLES; i++) {
            exampleRows[i] = new Row();
        }
        for (int i = 0; i < SETTINGS; i++) {
            settingRows[i] = new Row();
        }
    }

    // ---- grammars

    public int atom(int grammar, int number, int word)
            throws IndexOutOfBoundsException, IllegalArgumentException, IllegalStateException {
        Atoms atoms = grammarAt(grammar).atoms;
        needWord(word);
        needRange(number, 0, TOP_NUMBER);
        int before = atoms.wordOf(number);
        if (before == NONE && atoms.isFull()) {
            throw new IllegalStateException("there are 40 atoms");
        }
        atoms.put(number, word);
        return before;
    }

    public int dropAtom(int grammar, int number) throws IndexOutOfBoundsException {
        return grammarAt(grammar).atoms.take(number);
    }

    public int base(int grammar, int base, int word, int most, int style)
            throws IndexOutOfBoundsException, IllegalArgumentException, IllegalStateException {
        Grammar g = grammarAt(grammar);
        needWord(word);
        needRange(base, LEAST_BASE, TOP_BASE);
        needRange(most, 1, TOP_MOST);
        needRange(style, 0, TOP_STYLE);
        if (g.baseCount >= BASES || g.hasBase(base)) {
            throw new IllegalStateException("there are 5 bases, or it is there");
        }
        return g.addBase(base, word, most, style);
    }

    public int joint(int grammar, int place, int word) throws IndexOutOfBoundsException {
        Base base = baseAt(grammarAt(grammar), place);
        needWordOrNone(word);
        int before = base.joint;
        base.joint = word;
        return before;
    }

    public int less(int grammar, int place, int less, int word)
            throws IndexOutOfBoundsException, IllegalArgumentException {
        Base base = baseAt(grammarAt(grammar), place);
        needWord(word);
        needRange(less, 0, TOP_LESS);
        int before = base.less;
        base.less = less;
        base.lessWord = word;
        return before;
    }

    public int form(int grammar, int word, int kind, int form)
            throws IndexOutOfBoundsException, IllegalArgumentException, IllegalStateException {
        Forms forms = grammarAt(grammar).forms;
        needWord(word);
        needWord(form);
        needRange(kind, 0, ORDINAL_KIND);
        int before = forms.formOf(word, kind);
        if (before == NONE && forms.isFull()) {
            throw new IllegalStateException("there are 30 forms");
        }
        forms.put(word, kind, form);
        return before;
    }

    public int ordinal(int grammar, int word) throws IndexOutOfBoundsException {
        Grammar g = grammarAt(grammar);
        needWordOrNone(word);
        int before = g.ordinalWord;
        g.ordinalWord = word;
        return before;
    }

    public int seam(int grammar, int left, int right, int becomes)
            throws IndexOutOfBoundsException, IllegalStateException {
        Grammar g = grammarAt(grammar);
        needWord(left);
        needWord(right);
        needWord(becomes);
        if (g.seamCount >= SEAMS) {
            throw new IllegalStateException("there are 6 seams");
        }
        g.addSeam(left, right, becomes);
        return g.seamCount;
    }

    public int empty(int grammar) throws IndexOutOfBoundsException {
        Grammar g = grammarAt(grammar);
        int had = g.atoms.size + g.baseCount;
        g.clear();
        return had;
    }

    // ---- sayings, which are kept till the next one

    public int say(int grammar, int number, int group) throws IndexOutOfBoundsException, IllegalArgumentException {
        Grammar g = grammarAt(grammar);
        needClass(group);
        needRange(number, 0, TOP_NUMBER);
        g.speak(number, group, latest);
        return latest.size;
    }

    public int sayOrdinal(int grammar, int number) throws IndexOutOfBoundsException, IllegalArgumentException {
        Grammar g = grammarAt(grammar);
        needRange(number, 0, TOP_NUMBER);
        g.speak(number, ORDINAL_KIND, latest);
        return latest.size;
    }

    public int sayFraction(int grammar, int one, int other, int group)
            throws IndexOutOfBoundsException, IllegalArgumentException {
        Grammar g = grammarAt(grammar);
        needClass(group);
        needRange(one, 0, TOP_NUMBER);
        needRange(other, 1, TOP_NUMBER);
        g.speakFraction(one, other, group, latest);
        return latest.size;
    }

    public int said(int place) throws IndexOutOfBoundsException {
        if (place < 0 || place >= latest.size) {
            throw new IndexOutOfBoundsException("the latest saying has not so many words");
        }
        return latest.wordAt(place);
    }

    // ---- hearing

    public int hear(int word) throws IndexOutOfBoundsException, IllegalStateException {
        needWordOrNone(word);
        if (!heard.add(word)) {
            throw new IllegalStateException("20 words were heard");
        }
        return heard.size;
    }

    public int hearSaid() {
        heard.copy(latest);
        return heard.size;
    }

    public int forget() {
        int before = heard.size;
        heard.clear();
        return before;
    }

    public int fits(int grammar, int group, int bound) throws IndexOutOfBoundsException, IllegalArgumentException {
        Grammar g = grammarToHear(grammar, group, bound);
        int found = 0;
        for (int number = 0; number <= bound; number++) {
            if (isHeard(g, number, group)) {
                found++;
            }
        }
        return found;
    }

    public int fit(int grammar, int group, int bound, int place)
            throws IndexOutOfBoundsException, IllegalArgumentException {
        Grammar g = grammarToHear(grammar, group, bound);
        if (place < 0) {
            throw new IllegalArgumentException("place below 0");
        }
        int found = 0;
        for (int number = 0; number <= bound; number++) {
            if (isHeard(g, number, group)) {
                if (found == place) {
                    return number;
                }
                found++;
            }
        }
        return NONE;
    }

    public int askWord(int grammar, int group, int bound) throws IndexOutOfBoundsException, IllegalArgumentException {
        Grammar g = grammarToHear(grammar, group, bound);
        Arrays.fill(tallies, 0);
        Arrays.fill(greatestTallies, 0);
        int found = 0;
        for (int number = 0; number <= bound; number++) {
            if (isHeard(g, number, group)) {
                found++;
                tallySpoken();
            }
        }
        return found < 2 ? NONE : placeOfLeastTally();
    }

    public int gap(int grammar, int bound) throws IndexOutOfBoundsException, IllegalArgumentException {
        Grammar g = grammarAt(grammar);
        needRange(bound, 0, TOP_HEARD_BOUND);
        for (int number = 0; number <= bound; number++) {
            // The class never decides whether there is a saying: any class will do.
            if (!g.speak(number, 0, spoken)) {
                return number;
            }
        }
        return NONE;
    }

    public int clash(int grammar, int group, int bound) throws IndexOutOfBoundsException, IllegalArgumentException {
        Grammar g = grammarToHear(grammar, group, bound);
        lookup.clear();
        for (int number = 0; number <= bound; number++) {
            if (g.speak(number, group, spoken)) {
                int mark = spoken.mark();
                if (isSpokenLower(g, group, mark)) {
                    return number;
                }
                lookup.put(number, mark);
            }
        }
        return NONE;
    }

    // ---- learning

    public int example(int number) throws IllegalArgumentException, IllegalStateException {
        needRange(number, 0, TOP_NUMBER);
        if (exampleCount >= EXAMPLES || heard.size == 0 || heard.has(NONE)) {
            throw new IllegalStateException("there are 20 examples, or not all was heard");
        }
        exampleNumbers[exampleCount] = number;
        exampleRows[exampleCount].copy(heard);
        exampleCount++;
        return exampleCount;
    }

    public int dropExamples() {
        int before = exampleCount;
        exampleCount = 0;
        return before;
    }

    public int settings(int grammar, int place, int joint) throws IndexOutOfBoundsException {
        Grammar g = grammarAt(grammar);
        Base base = baseAt(g, place);
        needWord(joint);
        return findSettings(g, base, joint);
    }

    public int learn(int grammar, int place, int joint) throws IndexOutOfBoundsException, IllegalStateException {
        Grammar g = grammarAt(grammar);
        Base base = baseAt(g, place);
        needWord(joint);
        if (findSettings(g, base, joint) == 0) {
            throw new IllegalStateException("no setting fits");
        }
        int lowest = fittingSettings[0];
        base.set(lowest, joint);
        return lowest;
    }

    public int askNumber(int grammar, int place, int joint, int bound)
            throws IndexOutOfBoundsException, IllegalArgumentException {
        Grammar g = grammarAt(grammar);
        Base base = baseAt(g, place);
        needWord(joint);
        needRange(bound, 0, TOP_ASKED_BOUND);
        int found = findSettings(g, base, joint);
        int best = NONE;
        // A number that all that fit say alike tells nothing: only one with a smaller greatest set is asked for.
        int fewest = found;
        for (int number = 0; number <= bound; number++) {
            speakBySettings(g, base, joint, number, found);
            int greatest = greatestAlike(found);
            if (greatest < fewest) {
                fewest = greatest;
                best = number;
            }
        }
        return best;
    }

    // ---- what a grammar has

    public int baseTold(int grammar, int place, int what) throws IndexOutOfBoundsException, IllegalArgumentException {
        Base base = baseAt(grammarAt(grammar), place);
        switch (what) {
            case 0:
                return base.number;
            case 1:
                return base.word;
            case 2:
                return base.most;
            case 3:
                return base.style;
            case 4:
                return base.joint;
            case 5:
                return base.less;
            case 6:
                return base.lessWord;
            default:
                throw new IllegalArgumentException("what is out of range");
        }
    }

    public int numberOf(int grammar, int word) throws IndexOutOfBoundsException {
        Grammar g = grammarAt(grammar);
        needWord(word);
        return g.leastNumberWith(word);
    }

    // ---- cords

    public int cord(int cord, int base) throws IndexOutOfBoundsException, IllegalArgumentException {
        needCord(cord);
        needRange(base, LEAST_BASE, TOP_CORD_BASE);
        int before = cords.bases[cord];
        cords.bases[cord] = base;
        cords.clear();
        return before;
    }

    public long count(long by) {
        return cords.add(by);
    }

    public int knots(int cord) throws IndexOutOfBoundsException {
        needCord(cord);
        return cords.tied[cord];
    }

    public long lost() {
        return cords.gone;
    }

    public long shown() {
        return cords.total();
    }

    // ---- what the calls need

    private Grammar grammarAt(int grammar) {
        if (grammar < 0 || grammar >= GRAMMARS) {
            throw new IndexOutOfBoundsException("no such grammar");
        }
        return grammars[grammar];
    }

    private Grammar grammarToHear(int grammar, int group, int bound) {
        Grammar g = grammarAt(grammar);
        needClass(group);
        needRange(bound, 0, TOP_HEARD_BOUND);
        return g;
    }

    private static Base baseAt(Grammar g, int place) {
        if (place < 0 || place >= g.baseCount) {
            throw new IndexOutOfBoundsException("no such base");
        }
        return g.bases[place];
    }

    private static void needWord(int word) {
        if (word < 0 || word >= WORDS) {
            throw new IndexOutOfBoundsException("no such word");
        }
    }

    private static void needWordOrNone(int word) {
        if (word != NONE) {
            needWord(word);
        }
    }

    private static void needClass(int group) {
        if (group < 0 || group >= CLASSES) {
            throw new IndexOutOfBoundsException("no such class");
        }
    }

    private static void needCord(int cord) {
        if (cord < 0 || cord >= CORDS) {
            throw new IndexOutOfBoundsException("no such cord");
        }
    }

    private static void needRange(int told, int lowest, int highest) {
        if (told < lowest || told > highest) {
            throw new IllegalArgumentException("out of range");
        }
    }

    // ---- parts of hearing

    /** Leaves the saying of the number in the row spoken. */
    private boolean isHeard(Grammar g, int number, int group) {
        return g.speak(number, group, spoken) && spoken.agrees(heard);
    }

    private void tallySpoken() {
        for (int place = 0; place < heard.size; place++) {
            int word = spoken.wordAt(place);
            if (word >= 0 && word < WORDS && heard.wordAt(place) == NONE) {
                int cell = place * WORDS + word;
                tallies[cell]++;
                greatestTallies[place] = Math.max(greatestTallies[place], tallies[cell]);
            }
        }
    }

    private int placeOfLeastTally() {
        int best = NONE;
        int fewest = 0;
        for (int place = 0; place < heard.size; place++) {
            if (heard.wordAt(place) == NONE && (best == NONE || greatestTallies[place] < fewest)) {
                fewest = greatestTallies[place];
                best = place;
            }
        }
        return best;
    }

    /** Two sayings may bear the same mark: the lower number is said again to be sure. */
    private boolean isSpokenLower(Grammar g, int group, int mark) {
        int lower = lookup.firstIn(mark);
        for (int step = 0; step <= TOP_HEARD_BOUND && lower != NONE; step++) {
            if (lookup.markOf(lower) == mark && g.speak(lower, group, lowerSpoken) && lowerSpoken.same(spoken)) {
                return true;
            }
            lower = lookup.behind(lower);
        }
        return false;
    }

    // ---- parts of learning

    /** Leaves those that fit at the beginning of fittingSettings, the lowest one first. */
    private int findSettings(Grammar g, Base base, int joint) {
        int style = base.style;
        int jointBefore = base.joint;
        int found = 0;
        for (int setting = 0; setting < SETTINGS; setting++) {
            base.set(setting, joint);
            if (meetsExamples(g)) {
                fittingSettings[found] = setting;
                found++;
            }
        }
        base.style = style;
        base.joint = jointBefore;
        return found;
    }

    private boolean meetsExamples(Grammar g) {
        for (int i = 0; i < exampleCount; i++) {
            if (!g.speak(exampleNumbers[i], 0, spoken) || !spoken.same(exampleRows[i])) {
                return false;
            }
        }
        return true;
    }

    private void speakBySettings(Grammar g, Base base, int joint, int number, int found) {
        int style = base.style;
        int jointBefore = base.joint;
        for (int i = 0; i < found; i++) {
            base.set(fittingSettings[i], joint);
            g.speak(number, 0, settingRows[i]);
        }
        base.style = style;
        base.joint = jointBefore;
    }

    private int greatestAlike(int found) {
        int greatest = 0;
        // A set is counted from its first member on, so a set that begins too late cannot be greater.
        for (int i = 0; i < found - greatest; i++) {
            int alike = 1;
            for (int j = i + 1; j < found; j++) {
                if (settingRows[j].same(settingRows[i])) {
                    alike++;
                }
            }
            greatest = Math.max(greatest, alike);
        }
        return greatest;
    }

    /** A row of at most 20 words; without words it stands for no saying. */
    private static final class Row {
        private final int[] words = new int[LONGEST];
        private int size = 0;

        private void clear() {
            size = 0;
        }

        private boolean add(int word) {
            if (size >= LONGEST) {
                return false;
            }
            words[size] = word;
            size++;
            return true;
        }

        private int wordAt(int place) {
            return place >= 0 && place < size ? words[place] : NONE;
        }

        private int last() {
            return wordAt(size - 1);
        }

        private void setLast(int word) {
            if (size > 0) {
                words[size - 1] = word;
            }
        }

        private boolean has(int word) {
            for (int i = 0; i < size; i++) {
                if (words[i] == word) {
                    return true;
                }
            }
            return false;
        }

        private void copy(Row other) {
            for (int i = 0; i < other.size; i++) {
                words[i] = other.words[i];
            }
            size = other.size;
        }

        private boolean same(Row other) {
            if (size != other.size) {
                return false;
            }
            for (int i = 0; i < size; i++) {
                if (words[i] != other.words[i]) {
                    return false;
                }
            }
            return true;
        }

        private boolean agrees(Row heard) {
            if (size != heard.size) {
                return false;
            }
            for (int i = 0; i < size; i++) {
                if (heard.words[i] != NONE && heard.words[i] != words[i]) {
                    return false;
                }
            }
            return true;
        }

        /** What became of two stands behind the reader already, so it melts with nothing more here. */
        private void melt(int left, int right, int becomes) {
            int kept = 0;
            int place = 0;
            while (place < size) {
                boolean both = place + 1 < size && words[place] == left && words[place + 1] == right;
                words[kept] = both ? becomes : words[place];
                kept++;
                place += both ? 2 : 1;
            }
            size = kept;
        }

        private int mark() {
            int mark = size;
            for (int i = 0; i < size; i++) {
                mark = mark * 211 + words[i];
            }
            return mark;
        }
    }

    /** Numbers up to 999 by the marks of their sayings. */
    private static final class Lookup {
        private final int[] heads = new int[BUCKETS];
        private final int[] nexts = new int[TOP_HEARD_BOUND + 1];
        private final int[] marks = new int[TOP_HEARD_BOUND + 1];

        private void clear() {
            Arrays.fill(heads, NONE);
        }

        private void put(int number, int mark) {
            int bucket = mark & (BUCKETS - 1);
            if (number >= 0 && number <= TOP_HEARD_BOUND) {
                marks[number] = mark;
                nexts[number] = heads[bucket];
                heads[bucket] = number;
            }
        }

        private int firstIn(int mark) {
            return heads[mark & (BUCKETS - 1)];
        }

        private int behind(int number) {
            return number >= 0 && number <= TOP_HEARD_BOUND ? nexts[number] : NONE;
        }

        private int markOf(int number) {
            return number >= 0 && number <= TOP_HEARD_BOUND ? marks[number] : NONE;
        }
    }

    /** Kept in the order of the numbers, so that a number is found by halves. */
    private static final class Atoms {
        private final int[] numbers = new int[ATOMS];
        private final int[] words = new int[ATOMS];
        private int size = 0;

        private boolean isFull() {
            return size >= ATOMS;
        }

        private int countBelow(int number) {
            int below = 0;
            for (int step = FIRST_STEP; step > 0; step /= 2) {
                int reached = below + step;
                if (reached <= size && numbers[reached - 1] < number) {
                    below = reached;
                }
            }
            return below;
        }

        private int wordOf(int number) {
            int place = countBelow(number);
            return place < size && numbers[place] == number ? words[place] : NONE;
        }

        private void put(int number, int word) {
            int place = countBelow(number);
            if (place < size && numbers[place] == number) {
                words[place] = word;
                return;
            }
            if (size >= ATOMS) {
                return;
            }
            for (int i = size; i > place; i--) {
                numbers[i] = numbers[i - 1];
                words[i] = words[i - 1];
            }
            numbers[place] = number;
            words[place] = word;
            size++;
        }

        private int take(int number) {
            int word = wordOf(number);
            if (word != NONE) {
                for (int i = countBelow(number) + 1; i < size; i++) {
                    numbers[i - 1] = numbers[i];
                    words[i - 1] = words[i];
                }
                size--;
            }
            return word;
        }

        private int leastWith(int word) {
            for (int i = 0; i < size; i++) {
                if (words[i] == word) {
                    return numbers[i];
                }
            }
            return NONE;
        }
    }

    private static final class Base {
        private int number = 0;
        private int word = 0;
        private int most = 0;
        private int style = 0;
        private int joint = NONE;
        private int less = 0;
        private int lessWord = 0;

        private void start(int number, int word, int most, int style) {
            this.number = number;
            this.word = word;
            this.most = most;
            this.style = style;
            joint = NONE;
            less = 0;
            lessWord = 0;
        }

        private void set(int setting, int toldJoint) {
            style = setting / 2;
            joint = setting % 2 == 1 ? toldJoint : NONE;
        }

        private boolean has(int trait) {
            return (style & trait) != 0;
        }
    }

    private static final class Forms {
        private final int[] words = new int[FORMS];
        private final int[] kinds = new int[FORMS];
        private final int[] becomes = new int[FORMS];
        private int size = 0;

        private boolean isFull() {
            return size >= FORMS;
        }

        private int placeOf(int word, int kind) {
            for (int i = 0; i < size; i++) {
                if (words[i] == word && kinds[i] == kind) {
                    return i;
                }
            }
            return NONE;
        }

        private int formOf(int word, int kind) {
            int place = placeOf(word, kind);
            return place == NONE ? NONE : becomes[place];
        }

        private void put(int word, int kind, int form) {
            int place = placeOf(word, kind);
            if (place != NONE) {
                becomes[place] = form;
            } else if (size < FORMS) {
                words[size] = word;
                kinds[size] = kind;
                becomes[size] = form;
                size++;
            }
        }
    }

    private static final class Grammar {
        private final Atoms atoms = new Atoms();
        private final Base[] bases = new Base[BASES];
        private int baseCount = 0;
        private final Forms forms = new Forms();
        private int ordinalWord = NONE;
        private final int[] seamLefts = new int[SEAMS];
        private final int[] seamRights = new int[SEAMS];
        private final int[] seamBecomes = new int[SEAMS];
        private int seamCount = 0;

        private Grammar() {
            for (int i = 0; i < BASES; i++) {
                bases[i] = new Base();
            }
        }

        private void clear() {
            atoms.size = 0;
            baseCount = 0;
            forms.size = 0;
            ordinalWord = NONE;
            seamCount = 0;
        }

        private boolean hasBase(int number) {
            for (int i = 0; i < baseCount; i++) {
                if (bases[i].number == number) {
                    return true;
                }
            }
            return false;
        }

        /** Returns its place; whoever calls has seen to it that there is one left. */
        private int addBase(int number, int word, int most, int style) {
            int place = baseCount;
            if (place < BASES) {
                bases[place].start(number, word, most, style);
                baseCount++;
            }
            return place;
        }

        private void addSeam(int left, int right, int becomes) {
            if (seamCount < SEAMS) {
                seamLefts[seamCount] = left;
                seamRights[seamCount] = right;
                seamBecomes[seamCount] = becomes;
                seamCount++;
            }
        }

        private int leastNumberWith(int word) {
            int least = atoms.leastWith(word);
            for (int i = 0; i < baseCount; i++) {
                if (bases[i].word == word && (least == NONE || bases[i].number < least)) {
                    least = bases[i].number;
                }
            }
            return least;
        }

        /** False, and an empty row, if there is no such saying. */
        private boolean speak(int number, int kind, Row row) {
            row.clear();
            return endSaying(addNameFor(number, kind, row), row);
        }

        private boolean speakFraction(int one, int other, int group, Row row) {
            row.clear();
            boolean named = addNameFor(one, group, row) && addNameFor(other, ORDINAL_KIND, row);
            return endSaying(named, row);
        }

        private boolean endSaying(boolean named, Row row) {
            if (!named) {
                row.clear();
                return false;
            }
            for (int i = 0; i < seamCount; i++) {
                row.melt(seamLefts[i], seamRights[i], seamBecomes[i]);
            }
            return true;
        }

        private boolean addNameFor(int number, int kind, Row row) {
            if (!addName(number, row, 0)) {
                return false;
            }
            int form = forms.formOf(row.last(), kind);
            if (form != NONE) {
                row.setLast(form);
                return true;
            }
            return kind != ORDINAL_KIND || addUnlessNone(ordinalWord, row);
        }

        private static boolean addUnlessNone(int word, Row row) {
            return word == NONE || row.add(word);
        }

        private boolean addName(int number, Row row, int depth) {
            if (depth > DEEPEST) {
                return false;
            }
            int atom = atoms.wordOf(number);
            if (atom != NONE) {
                return row.add(atom);
            }
            Base base = greatestUpTo(number);
            if (base == null || base.number < LEAST_BASE) {
                return false;
            }
            int factor = number / base.number;
            int rest = number % base.number;
            if (rest == 0) {
                return addProduct(base, factor, row, depth);
            }
            int missing = base.number - rest;
            if (missing <= base.less) {
                return addName(missing, row, depth + 1) && row.add(base.lessWord)
                        && addProduct(base, factor + 1, row, depth);
            }
            if (base.has(OVER) || base.has(FIRST)) {
                return addName(rest, row, depth + 1) && addUnlessNone(base.joint, row)
                        && addProduct(base, base.has(OVER) ? factor + 1 : factor, row, depth);
            }
            return addProduct(base, factor, row, depth) && addUnlessNone(base.joint, row)
                    && addName(rest, row, depth + 1);
        }

        private boolean addProduct(Base base, int factor, Row row, int depth) {
            if (factor > base.most) {
                return false;
            }
            if (factor == 1 && !base.has(ONE)) {
                return row.add(base.word);
            }
            if (base.has(BEHIND)) {
                return row.add(base.word) && addName(factor, row, depth + 1);
            }
            return addName(factor, row, depth + 1) && row.add(base.word);
        }

        private Base greatestUpTo(int number) {
            Base greatest = null;
            for (int i = 0; i < baseCount; i++) {
                Base base = bases[i];
                if (base.number <= number && (greatest == null || base.number > greatest.number)) {
                    greatest = base;
                }
            }
            return greatest;
        }
    }

    private static final class Cords {
        private final int[] bases = new int[CORDS];
        private final int[] tied = new int[CORDS];
        private long gone = 0;

        private Cords() {
            for (int i = 0; i < CORDS; i++) {
                bases[i] = FIRST_CORD_BASE;
            }
        }

        private void clear() {
            for (int i = 0; i < CORDS; i++) {
                tied[i] = 0;
            }
            gone = 0;
        }

        private long add(long by) {
            long carried = by;
            for (int i = 0; i < CORDS; i++) {
                int base = Math.max(bases[i], LEAST_BASE);
                // The rest is added, not the whole: knots and a whole long together may go beyond a long.
                long knots = tied[i] + Math.floorMod(carried, (long) base);
                carried = Math.floorDiv(carried, (long) base);
                if (knots >= base) {
                    knots -= base;
                    carried++;
                }
                tied[i] = (int) knots;
            }
            gone += carried;
            return carried;
        }

        private long total() {
            long total = 0;
            long worth = 1;
            for (int i = 0; i < CORDS; i++) {
                total += tied[i] * worth;
                worth *= bases[i];
            }
            return total;
        }
    }
}
