import java.util.Arrays;

/**
 * A lexicon of a sign language, and one sentence that uses the signing space.
 *
 * All rows are made in the constructors and used again, so that no call makes an object.
 */
public final class GestureBook {
    public static final int NONE = -1, BAD = -2, NO = -3, FULL = -4;

    private static final int PARTS = 4, VALUES = 8, SIGNS = 16;
    private static final int SORT = 4, TRAITS = 5, USES = 5;
    private static final int TIME = 0, THING = 1, POINT = 2, DEED = 3, SORTS = 4;
    private static final int WORDS = 16, SPOTS = 6;
    private static final int GREATEST_WEIGHT = 5, GREATEST_DISTANCE = 99;
    private static final int KEPT_STATES = 5;
    private static final int TEXT_BYTES = 120;
    private static final int ERROR_KINDS = 3, FIRST_WEIGHT_TOLD = 7, LAST_TOLD = 10;
    private static final int LAST_WORD_PROPERTY = 6, LAST_SENTENCE_PROPERTY = 6;

    private final State now = new State();
    private final Past past = new Past();
    private final Script script = new Script();
    private final Meaning meaning = new Meaning();
    private final WordOrder wordOrder = new WordOrder();
    private final Path path = new Path();
    private final Arranger arranger = new Arranger();
    private final Clusters clusters = new Clusters();
    private final Contrasts contrasts = new Contrasts();
    private final int[] errors = new int[ERROR_KINDS];

    public GestureBook() {
    }

    // ---- signs

    public int sign(int h, int p, int m, int f, int sort) {
        past.stage(now);
        return undoable(now.lexicon.addSign(h, p, m, f, sort));
    }

    public int becomes(int k, int part, int v) {
        past.stage(now);
        return undoable(now.lexicon.change(k, part, v));
    }

    public int drops(int k) {
        past.stage(now);
        return undoable(now.removeSign(k));
    }

    public int weight(int part, int v) {
        past.stage(now);
        return undoable(now.lexicon.setWeight(part, v));
    }

    public int draws(int seed, int n) {
        past.stage(now);
        return undoable(now.lexicon.addRandom(seed, n));
    }

    public int of(int k, int what) {
        if (!now.lexicon.holds(k) || !isWithin(what, 0, USES)) {
            return counted(BAD);
        }
        return now.signProperty(k, what);
    }

    public int apart(int j, int k, int part) {
        if (!now.lexicon.holds(j) || !now.lexicon.holds(k) || !isWithin(part, 0, PARTS)) {
            return counted(BAD);
        }
        return part == PARTS ? now.lexicon.distance(j, k) : now.lexicon.gap(part, j, k);
    }

    // ---- looked up

    public int look(int h, int p, int m, int f) {
        if (!areWithin(h, p, m, f, NONE)) {
            return counted(BAD);
        }
        now.lexicon.ask(h, p, m, f);
        return now.lexicon.matches();
    }

    public int near(int k, int d) {
        if (!now.lexicon.holds(k) || !isWithin(d, 0, GREATEST_DISTANCE)) {
            return counted(BAD);
        }
        return now.lexicon.neighbours(k, d);
    }

    public int nearest(int h, int p, int m, int f) {
        if (!areWithin(h, p, m, f, 0)) {
            return counted(BAD);
        }
        now.lexicon.ask(h, p, m, f);
        return now.lexicon.closest();
    }

    public int sorts(int sort) {
        if (!isWithin(sort, 0, SORTS - 1)) {
            return counted(BAD);
        }
        return now.lexicon.countOfSort(sort);
    }

    public int groups(int d, int what) {
        if (!isWithin(d, 0, GREATEST_DISTANCE) || !isWithin(what, 0, 1)) {
            return counted(BAD);
        }
        clusters.find(now.lexicon, d);
        return what == 0 ? clusters.number() : clusters.greatest();
    }

    public int twins(int part) {
        if (!isWithin(part, NONE, PARTS - 1)) {
            return counted(BAD);
        }
        contrasts.compare(now.lexicon);
        return contrasts.minimalPairs(part);
    }

    public int enough(int set) {
        if (!isWithin(set, NONE, Contrasts.SETS - 1)) {
            return counted(BAD);
        }
        contrasts.compare(now.lexicon);
        if (set == NONE) {
            return contrasts.leastSufficient();
        }
        return contrasts.isSufficient(set) ? 1 : 0;
    }

    public int span(int what) {
        if (!isWithin(what, 0, 3)) {
            return counted(BAD);
        }
        boolean wantsGreatest = what % 2 == 0;
        int pair = now.lexicon.extremePair(wantsGreatest);
        if (pair == NONE || what >= 2) {
            return pair;
        }
        return now.lexicon.distance(pair / SIGNS, pair % SIGNS);
    }

    // ---- sentences

    public int word(int k, int f, int t) {
        past.stage(now);
        return undoable(now.addWord(k, f, t));
    }

    public int cuts(int i) {
        past.stage(now);
        return undoable(now.sentence.remove(i));
    }

    public int shifts(int i, int j) {
        past.stage(now);
        return undoable(now.sentence.move(i, j));
    }

    public int clears() {
        past.stage(now);
        return undoable(now.sentence.removeAll());
    }

    public int wordOf(int i, int what) {
        if (!now.sentence.holds(i) || !isWithin(what, 0, LAST_WORD_PROPERTY)) {
            return counted(BAD);
        }
        meaning.interpret(now, WORDS);
        return wordProperty(i, what);
    }

    public int at(int spot, int n) {
        if (!isSpot(spot) || !isWithin(n, 0, WORDS)) {
            return counted(BAD);
        }
        meaning.interpret(now, n);
        return meaning.thingAt(spot);
    }

    public int all(int what) {
        if (!isWithin(what, 0, LAST_SENTENCE_PROPERTY)) {
            return counted(BAD);
        }
        examineSentence();
        return sentenceProperty(what);
    }

    // ---- space

    public int lays(int spot, int v) {
        past.stage(now);
        return undoable(now.layOne(spot, v));
    }

    public int lay(int spot) {
        return isSpot(spot) ? now.position(spot) : counted(BAD);
    }

    public int best(int spot) {
        if (!isWithin(spot, NONE, SPOTS - 1)) {
            return counted(BAD);
        }
        findBestArrangement();
        return spot == NONE ? arranger.least : arranger.found[spot];
    }

    public int settles() {
        past.stage(now);
        findBestArrangement();
        int previous = path.lengthIn(now);
        System.arraycopy(arranger.found, 0, now.positions, 0, SPOTS);
        return undoable(previous - arranger.least);
    }

    // ---- texts

    public int type(int c) {
        return counted(script.append(c));
    }

    public int clear() {
        return script.empty();
    }

    public int reads() {
        int fault = script.parse();
        if (fault != NONE) {
            return -10 - fault;
        }
        past.stage(now);
        for (int n = 0; n < script.orders; n++) {
            if (execute(n) < 0) {
                past.unstage(now);
                return -1000 - n;
            }
        }
        return undoable(script.orders);
    }

    public int back() {
        return counted(past.restore(now));
    }

    public int told(int what) {
        return isWithin(what, 0, LAST_TOLD) ? figure(what) : counted(BAD);
    }

    public long digest() {
        examineSentence();
        findBestArrangement();
        contrasts.compare(now.lexicon);
        long h = 2287;
        for (int what = 0; what <= LAST_TOLD; what++) {
            h = mixed(h, figure(what));
        }
        h = withSigns(h);
        h = withWords(h);
        for (int what = 0; what <= LAST_SENTENCE_PROPERTY; what++) {
            h = mixed(h, sentenceProperty(what));
        }
        for (int spot = 0; spot < SPOTS; spot++) {
            h = mixed(h, now.position(spot));
        }
        h = mixed(h, arranger.least);
        h = mixed(h, contrasts.minimalPairs(NONE));
        return mixed(h, contrasts.leastSufficient());
    }

    // ---- what the calls share

    private static boolean isWithin(int v, int least, int greatest) {
        return v >= least && v <= greatest;
    }

    private static boolean areWithin(int h, int p, int m, int f, int least) {
        int greatest = VALUES - 1;
        return isWithin(h, least, greatest) && isWithin(p, least, greatest)
            && isWithin(m, least, greatest) && isWithin(f, least, greatest);
    }

    private static boolean isSpot(int spot) {
        return isWithin(spot, 0, SPOTS - 1);
    }

    /** Counts the answer if it is an error; BAD, NO and FULL follow one another downwards. */
    private int counted(int answer) {
        int kind = BAD - answer;
        if (isWithin(kind, 0, ERROR_KINDS - 1)) {
            errors[kind]++;
        }
        return answer;
    }

    /** Ends a call that staged the state before it: the state is kept only if the call succeeded. */
    private int undoable(int answer) {
        if (answer >= 0) {
            past.keepStaged();
        }
        return counted(answer);
    }

    private int execute(int n) {
        int a = script.number(n, 0);
        int b = script.number(n, 1);
        int c = script.number(n, 2);
        switch (script.letter(n)) {
            case 's':
                return now.lexicon.addSign(a, b, c, script.number(n, 3), script.number(n, 4));
            case 'w':
                // of two numbers the second one is "to"; spots that are not told are NONE already
                return script.numbers(n) == 2 ? now.addWord(a, NONE, b) : now.addWord(a, b, c);
            case 'g':
                return now.lexicon.setWeight(a, b);
            case 'l':
                return now.layAll(script, n);
            case 'd':
                return now.removeSign(a);
            case 'c':
                return now.sentence.removeAll();
            default:
                return BAD;
        }
    }

    private void examineSentence() {
        meaning.interpret(now, WORDS);
        wordOrder.check(now);
        path.follow(now.sentence);
    }

    private void findBestArrangement() {
        path.follow(now.sentence);
        arranger.arrange(path);
    }

    /** Needs the meaning of the whole sentence. */
    private int wordProperty(int i, int what) {
        switch (what) {
            case 0:
                return now.sentence.signIn(i);
            case 1:
                return now.sentence.from(i);
            case 2:
                return now.sentence.to(i);
            case 3:
                return meaning.clause[i];
            case 4:
                return meaning.vain[i] ? 1 : 0;
            case 5:
                return meaning.first[i];
            default:
                return meaning.second[i];
        }
    }

    /** Needs examineSentence() before it. */
    private int sentenceProperty(int what) {
        switch (what) {
            case 0:
                return now.sentence.count;
            case 1:
                return meaning.clauses;
            case 2:
                return meaning.vainWords;
            case 3:
                return wordOrder.swaps;
            case 4:
                return wordOrder.moves;
            case 5:
                return path.lengthIn(now);
            default:
                return path.setOfSpots();
        }
    }

    private int figure(int what) {
        if (isWithin(what, 0, ERROR_KINDS - 1)) {
            return errors[what];
        }
        switch (what) {
            case 3:
                return script.length;
            case 4:
                return now.lexicon.count;
            case 5:
                return now.sentence.count;
            case 6:
                return past.count;
            default:
                return now.lexicon.weightOf(what - FIRST_WEIGHT_TOLD);
        }
    }

    private static long mixed(long h, int v) {
        return 31 * h + v;
    }

    private long withSigns(long start) {
        long h = start;
        for (int k = 0; k < now.lexicon.count; k++) {
            for (int what = 0; what <= USES; what++) {
                h = mixed(h, now.signProperty(k, what));
            }
        }
        return h;
    }

    private long withWords(long start) {
        long h = start;
        for (int i = 0; i < now.sentence.count; i++) {
            for (int what = 0; what <= LAST_WORD_PROPERTY; what++) {
                h = mixed(h, wordProperty(i, what));
            }
        }
        return h;
    }

    /** All that back() restores: the signs, the weights, the sentence and the positions. */
    private static final class State {
        final Lexicon lexicon = new Lexicon();
        final Sentence sentence = new Sentence();
        final int[] positions = {0, 1, 2, 3, 4, 5};

        void copyFrom(State other) {
            lexicon.copyFrom(other.lexicon);
            sentence.copyFrom(other.sentence);
            System.arraycopy(other.positions, 0, positions, 0, SPOTS);
        }

        int signProperty(int k, int what) {
            return what == USES ? sentence.countOf(k) : lexicon.trait(k, what);
        }

        int sortOfWord(int i) {
            return lexicon.trait(sentence.signIn(i), SORT);
        }

        int removeSign(int k) {
            if (!lexicon.holds(k)) {
                return BAD;
            }
            if (sentence.countOf(k) > 0) {
                return NO;
            }
            sentence.renumberAbove(k);
            return lexicon.remove(k);
        }

        int addWord(int k, int f, int t) {
            if (!lexicon.holds(k) || !isWithin(f, NONE, SPOTS - 1) || !isWithin(t, NONE, SPOTS - 1)) {
                return BAD;
            }
            return sentence.append(k, f, t);
        }

        int position(int spot) {
            return isSpot(spot) ? positions[spot] : NONE;
        }

        int layOne(int spot, int v) {
            if (!isSpot(spot) || !isWithin(v, 0, SPOTS - 1)) {
                return BAD;
            }
            int previous = positions[spot];
            for (int s = 0; s < SPOTS; s++) {
                if (positions[s] == v) {
                    positions[s] = previous;
                }
            }
            positions[spot] = v;
            return previous;
        }

        int layAll(Script script, int order) {
            int taken = 0;
            for (int spot = 0; spot < SPOTS; spot++) {
                int v = script.number(order, spot);
                if (!isWithin(v, 0, SPOTS - 1) || (taken >> v & 1) == 1) {
                    return BAD;
                }
                taken |= 1 << v;
            }
            for (int spot = 0; spot < SPOTS; spot++) {
                positions[spot] = script.number(order, spot);
            }
            return 0;
        }
    }

    /** The signs, a row of traits each (the parts, then the sort), and the weights of the parts. */
    private static final class Lexicon {
        /** The row behind the last sign: it holds values that a call asks about, so that they compare like a sign. */
        private static final int ASKED = SIGNS;
        private static final int GREATEST_SEED = 999999, GREATEST_TRIES = 16;

        private final int[] traits = new int[(SIGNS + 1) * TRAITS];
        private final int[] weights = {1, 1, 1, 1};
        private int count = 0;

        void copyFrom(Lexicon other) {
            System.arraycopy(other.traits, 0, traits, 0, traits.length);
            System.arraycopy(other.weights, 0, weights, 0, PARTS);
            count = other.count;
        }

        boolean holds(int k) {
            return isWithin(k, 0, count - 1);
        }

        int trait(int k, int what) {
            return k >= 0 && k <= ASKED && what >= 0 && what <= SORT ? traits[k * TRAITS + what] : NONE;
        }

        private void setTrait(int k, int what, int v) {
            if (isWithin(k, 0, ASKED) && isWithin(what, 0, SORT)) {
                traits[k * TRAITS + what] = v;
            }
        }

        int weightOf(int part) {
            return isWithin(part, 0, PARTS - 1) ? weights[part] : NONE;
        }

        int setWeight(int part, int v) {
            if (!isWithin(part, 0, PARTS - 1) || !isWithin(v, 0, GREATEST_WEIGHT)) {
                return BAD;
            }
            int previous = weights[part];
            weights[part] = v;
            return previous;
        }

        void ask(int h, int p, int m, int f) {
            setTrait(ASKED, 0, h);
            setTrait(ASKED, 1, p);
            setTrait(ASKED, 2, m);
            setTrait(ASKED, 3, f);
        }

        int addSign(int h, int p, int m, int f, int sort) {
            if (!areWithin(h, p, m, f, 0) || !isWithin(sort, 0, SORTS - 1)) {
                return BAD;
            }
            ask(h, p, m, f);
            setTrait(ASKED, SORT, sort);
            return appendAsked();
        }

        private int appendAsked() {
            if (hasEqual(ASKED)) {
                return NO;
            }
            if (count >= SIGNS) {
                return FULL;
            }
            System.arraycopy(traits, ASKED * TRAITS, traits, count * TRAITS, TRAITS);
            count++;
            return count - 1;
        }

        private boolean hasEqual(int row) {
            for (int j = 0; j < count; j++) {
                if (j != row && differingParts(j, row) == 0) {
                    return true;
                }
            }
            return false;
        }

        int change(int k, int what, int v) {
            int greatest = what == SORT ? SORTS - 1 : VALUES - 1;
            if (!holds(k) || !isWithin(what, 0, SORT) || !isWithin(v, 0, greatest)) {
                return BAD;
            }
            int previous = trait(k, what);
            setTrait(k, what, v);
            if (hasEqual(k)) {
                setTrait(k, what, previous);
                return NO;
            }
            return previous;
        }

        int remove(int k) {
            if (!holds(k)) {
                return BAD;
            }
            System.arraycopy(traits, (k + 1) * TRAITS, traits, k * TRAITS, (count - 1 - k) * TRAITS);
            count--;
            return count;
        }

        int addRandom(int seed, int n) {
            if (!isWithin(seed, 0, GREATEST_SEED) || !isWithin(n, 1, GREATEST_TRIES)) {
                return BAD;
            }
            int before = count;
            long x = seed;
            for (int tried = 0; tried < n; tried++) {
                for (int what = 0; what <= SORT; what++) {
                    x = (x * 1103515245L + 12345L) % 2147483648L;
                    long below = what == SORT ? SORTS : VALUES;
                    setTrait(ASKED, what, (int) (x / 65536L % below));
                }
                appendAsked();
            }
            return count - before;
        }

        int countOfSort(int sort) {
            int found = 0;
            for (int k = 0; k < count; k++) {
                if (trait(k, SORT) == sort) {
                    found++;
                }
            }
            return found;
        }

        int differingParts(int j, int k) {
            int set = 0;
            for (int part = 0; part < PARTS; part++) {
                if (trait(j, part) != trait(k, part)) {
                    set |= 1 << part;
                }
            }
            return set;
        }

        int gap(int part, int j, int k) {
            int a = trait(j, part);
            int b = trait(k, part);
            switch (part) {
                case 0:
                    return Integer.bitCount(a ^ b);
                case 1:
                    return Math.abs(a % 4 - b % 4) + Math.abs(a / 4 - b / 4);
                case 2:
                    return Math.min(Math.abs(a - b), VALUES - Math.abs(a - b));
                default:
                    return faceGap(a, b);
            }
        }

        private static int faceGap(int a, int b) {
            if (a == b) {
                return 0;
            }
            if (a / 2 == b / 2) {
                return 1;
            }
            return a / 4 == b / 4 ? 2 : 3;
        }

        int distance(int j, int k) {
            int sum = 0;
            for (int part = 0; part < PARTS; part++) {
                sum += weights[part] * gap(part, j, k);
            }
            return sum;
        }

        int matches() {
            int set = 0;
            for (int k = 0; k < count; k++) {
                if (matchesAsked(k)) {
                    set |= 1 << k;
                }
            }
            return set;
        }

        private boolean matchesAsked(int k) {
            for (int part = 0; part < PARTS; part++) {
                int wanted = trait(ASKED, part);
                if (wanted != NONE && wanted != trait(k, part)) {
                    return false;
                }
            }
            return true;
        }

        int neighbours(int k, int d) {
            int set = 0;
            for (int j = 0; j < count; j++) {
                if (distance(j, k) <= d) {
                    set |= 1 << j;
                }
            }
            return set;
        }

        int closest() {
            int found = NONE;
            int least = Integer.MAX_VALUE;
            for (int k = 0; k < count; k++) {
                int d = distance(k, ASKED);
                if (d < least) {
                    least = d;
                    found = k;
                }
            }
            return found;
        }

        /** The first pair with the greatest or the least distance, as 16 * the lesser sign + the other one. */
        int extremePair(boolean wantsGreatest) {
            int found = NONE;
            int extreme = 0;
            for (int j = 0; j < count; j++) {
                for (int k = j + 1; k < count; k++) {
                    int d = distance(j, k);
                    if (found == NONE || (wantsGreatest ? d > extreme : d < extreme)) {
                        extreme = d;
                        found = j * SIGNS + k;
                    }
                }
            }
            return found;
        }
    }

    /** Finds the clusters by giving the signs of each of them the same label. */
    private static final class Clusters {
        private final int[] labels = new int[SIGNS];
        private final int[] sizes = new int[SIGNS];

        void find(Lexicon lexicon, int d) {
            Arrays.fill(sizes, 0);
            int count = Math.min(lexicon.count, SIGNS);
            for (int k = 0; k < SIGNS; k++) {
                labels[k] = k;
            }
            for (int j = 0; j < count; j++) {
                for (int k = j + 1; k < count; k++) {
                    if (labels[j] != labels[k] && lexicon.distance(j, k) <= d) {
                        join(labels[j], labels[k]);
                    }
                }
            }
            for (int k = 0; k < count; k++) {
                enlarge(labels[k]);
            }
        }

        private void enlarge(int label) {
            if (isWithin(label, 0, SIGNS - 1)) {
                sizes[label]++;
            }
        }

        private void join(int label, int other) {
            for (int k = 0; k < SIGNS; k++) {
                if (labels[k] == other) {
                    labels[k] = label;
                }
            }
        }

        int number() {
            int clusters = 0;
            for (int size : sizes) {
                if (size > 0) {
                    clusters++;
                }
            }
            return clusters;
        }

        int greatest() {
            int most = 0;
            for (int size : sizes) {
                most = Math.max(most, size);
            }
            return most;
        }
    }

    /** Counts the pairs of signs by the set of parts in which they differ. */
    private static final class Contrasts {
        static final int SETS = 1 << PARTS;

        private final int[] pairs = new int[SETS];

        void compare(Lexicon lexicon) {
            Arrays.fill(pairs, 0);
            for (int j = 0; j < lexicon.count; j++) {
                for (int k = j + 1; k < lexicon.count; k++) {
                    countPair(lexicon.differingParts(j, k));
                }
            }
        }

        private void countPair(int differing) {
            if (isWithin(differing, 0, SETS - 1)) {
                pairs[differing]++;
            }
        }

        int minimalPairs(int part) {
            int found = 0;
            for (int p = 0; p < PARTS; p++) {
                if (part == NONE || part == p) {
                    found += pairs[1 << p];
                }
            }
            return found;
        }

        boolean isSufficient(int set) {
            for (int differing = 0; differing < SETS; differing++) {
                if (pairs[differing] > 0 && (differing & set) == 0) {
                    return false;
                }
            }
            return true;
        }

        int leastSufficient() {
            int found = SETS - 1;
            for (int set = 0; set < SETS; set++) {
                if (Integer.bitCount(set) < Integer.bitCount(found) && isSufficient(set)) {
                    found = set;
                }
            }
            return found;
        }
    }

    /** The words in their order, a row each: sign, "from", "to". */
    private static final class Sentence {
        private static final int WIDTH = 3;

        private final int[] cells = new int[WORDS * WIDTH];
        private int count = 0;

        void copyFrom(Sentence other) {
            System.arraycopy(other.cells, 0, cells, 0, cells.length);
            count = other.count;
        }

        boolean holds(int i) {
            return isWithin(i, 0, count - 1);
        }

        int signIn(int i) {
            return cell(i, 0);
        }

        int from(int i) {
            return cell(i, 1);
        }

        int to(int i) {
            return cell(i, 2);
        }

        private int cell(int i, int column) {
            return i >= 0 && i < count ? cells[i * WIDTH + column] : NONE;
        }

        int countOf(int k) {
            int found = 0;
            for (int i = 0; i < count; i++) {
                if (signIn(i) == k) {
                    found++;
                }
            }
            return found;
        }

        void renumberAbove(int k) {
            for (int i = 0; i < count; i++) {
                if (cells[i * WIDTH] > k) {
                    cells[i * WIDTH]--;
                }
            }
        }

        int append(int k, int f, int t) {
            if (count >= WORDS) {
                return FULL;
            }
            put(count, k, f, t);
            count++;
            return count - 1;
        }

        private void put(int i, int k, int f, int t) {
            if (isWithin(i, 0, WORDS - 1)) {
                cells[i * WIDTH] = k;
                cells[i * WIDTH + 1] = f;
                cells[i * WIDTH + 2] = t;
            }
        }

        int remove(int i) {
            if (!holds(i)) {
                return BAD;
            }
            moveRows(i + 1, i, count - 1 - i);
            count--;
            return count;
        }

        int move(int i, int j) {
            if (!holds(i) || !holds(j)) {
                return BAD;
            }
            int k = signIn(i);
            int f = from(i);
            int t = to(i);
            if (i < j) {
                moveRows(i + 1, i, j - i);
            } else {
                moveRows(j, j + 1, i - j);
            }
            put(j, k, f, t);
            return Math.abs(i - j);
        }

        private void moveRows(int source, int target, int rows) {
            System.arraycopy(cells, source * WIDTH, cells, target * WIDTH, rows * WIDTH);
        }

        int removeAll() {
            int previous = count;
            count = 0;
            return previous;
        }
    }

    /** What the words mean, and what is at the spots after them. */
    private static final class Meaning {
        private final int[] things = new int[SPOTS];
        private final int[] clause = new int[WORDS];
        private final boolean[] vain = new boolean[WORDS];
        private final int[] first = new int[WORDS];
        private final int[] second = new int[WORDS];
        private int clauses = 0;
        private int vainWords = 0;

        void interpret(State state, int words) {
            Arrays.fill(things, NONE);
            vainWords = 0;
            clauses = 0;
            int deeds = 0;
            int read = Math.min(words, state.sentence.count);
            for (int i = 0; i < read; i++) {
                int sort = state.sortOfWord(i);
                interpretWord(state.sentence, i, sort);
                clause[i] = deeds;
                clauses = deeds + 1;
                if (sort == DEED) {
                    deeds++;
                }
                if (vain[i]) {
                    vainWords++;
                }
            }
        }

        private void interpretWord(Sentence sentence, int i, int sort) {
            int from = sentence.from(i);
            int to = sentence.to(i);
            vain[i] = false;
            first[i] = NONE;
            second[i] = NONE;
            switch (sort) {
                case THING:
                    setThing(to, sentence.signIn(i));
                    break;
                case POINT:
                    first[i] = thingAt(to);
                    vain[i] = first[i] == NONE;
                    break;
                case DEED:
                    first[i] = thingAt(from);
                    second[i] = thingAt(to);
                    vain[i] = (from != NONE && first[i] == NONE) || (to != NONE && second[i] == NONE);
                    break;
                default:
                    break;
            }
        }

        int thingAt(int spot) {
            return isSpot(spot) ? things[spot] : NONE;
        }

        private void setThing(int spot, int k) {
            if (isSpot(spot)) {
                things[spot] = k;
            }
        }
    }

    /**
     * Swaps and moves. A deed ends its clause and so is always in its right place; only a time
     * behind things or points is wrong.
     */
    private static final class WordOrder {
        private int swaps = 0;
        private int moves = 0;

        void check(State state) {
            swaps = 0;
            moves = 0;
            int others = 0;
            int clauseMoves = 0;
            for (int i = 0; i < state.sentence.count; i++) {
                int sort = state.sortOfWord(i);
                if (sort == DEED) {
                    moves += clauseMoves;
                    clauseMoves = 0;
                    others = 0;
                } else if (sort == TIME) {
                    swaps += others;
                    // either this time goes too, or all things and points before it go
                    clauseMoves = Math.min(clauseMoves + 1, others);
                } else {
                    others++;
                }
            }
            moves += clauseMoves;
        }
    }

    /** The spots of the words, one after the other. */
    private static final class Path {
        private final int[] spots = new int[2 * WORDS];
        private int count = 0;

        void follow(Sentence sentence) {
            count = 0;
            for (int i = 0; i < sentence.count; i++) {
                add(sentence.from(i));
                add(sentence.to(i));
            }
        }

        private void add(int spot) {
            if (isSpot(spot) && count < spots.length) {
                spots[count] = spot;
                count++;
            }
        }

        int spot(int n) {
            return isWithin(n, 0, count - 1) ? spots[n] : NONE;
        }

        int lengthIn(State state) {
            int length = 0;
            for (int n = 1; n < count; n++) {
                length += Math.abs(state.position(spot(n)) - state.position(spot(n - 1)));
            }
            return length;
        }

        int setOfSpots() {
            int set = 0;
            for (int n = 0; n < count; n++) {
                set |= 1 << spot(n);
            }
            return set;
        }
    }

    /** Searches the best arrangement among all of them. */
    private static final class Arranger {
        private final int[] steps = new int[SPOTS * SPOTS];
        private final int[] trial = new int[SPOTS];
        private final int[] found = new int[SPOTS];
        private int least = 0;

        void arrange(Path path) {
            Arrays.fill(steps, 0);
            for (int n = 1; n < path.count; n++) {
                countStep(path.spot(n - 1), path.spot(n));
            }
            least = Integer.MAX_VALUE;
            placeFrom(this, 0, 0, 0);
        }

        private void countStep(int a, int b) {
            if (isSpot(a) && isSpot(b)) {
                steps[Math.max(a, b) * SPOTS + Math.min(a, b)]++;
            }
        }

        /**
         * Places the spots from the given one on. Positions are tried upwards and only a shorter
         * path replaces what was found, so the first arrangement of several best ones stays.
         */
        private static void placeFrom(Arranger arranger, int spot, int taken, int length) {
            if (length >= arranger.least) {
                return;
            }
            if (spot >= SPOTS) {
                arranger.least = length;
                System.arraycopy(arranger.trial, 0, arranger.found, 0, SPOTS);
                return;
            }
            for (int v = 0; v < SPOTS; v++) {
                if ((taken >> v & 1) == 0) {
                    arranger.trial[spot] = v;
                    placeFrom(arranger, spot + 1, taken | 1 << v, length + arranger.lengthTo(spot));
                }
            }
        }

        /** The length of the steps between a spot and those placed before it. */
        private int lengthTo(int spot) {
            int length = 0;
            for (int s = 0; s < spot; s++) {
                length += steps[spot * SPOTS + s] * Math.abs(trial[spot] - trial[s]);
            }
            return length;
        }
    }

    /** The states before the last calls, in a ring with one slot more for the state that is staged. */
    private static final class Past {
        private static final int SLOTS = KEPT_STATES + 1;

        private final State[] slots = new State[SLOTS];
        private int next = 0;
        private int count = 0;

        Past() {
            for (int s = 0; s < SLOTS; s++) {
                slots[s] = new State();
            }
        }

        void stage(State state) {
            slots[next].copyFrom(state);
        }

        void unstage(State state) {
            state.copyFrom(slots[next]);
        }

        void keepStaged() {
            next = (next + 1) % SLOTS;
            count = Math.min(count + 1, KEPT_STATES);
        }

        int restore(State state) {
            if (count == 0) {
                return NO;
            }
            next = (next + SLOTS - 1) % SLOTS;
            count--;
            state.copyFrom(slots[next]);
            return count;
        }
    }

    /** The text and the orders that it consists of. */
    private static final class Script {
        private static final int BLANK = 32;
        private static final int MOST_NUMBERS = 6;
        /** The shortest order, c; has two bytes. */
        private static final int MOST_ORDERS = TEXT_BYTES / 2;

        private final int[] bytes = new int[TEXT_BYTES];
        private int length = 0;
        private int place = 0;
        private final int[] letters = new int[MOST_ORDERS];
        private final int[] counts = new int[MOST_ORDERS];
        private final int[] values = new int[MOST_ORDERS * MOST_NUMBERS];
        private int orders = 0;

        int append(int c) {
            if (!isWithin(c, 0, 127)) {
                return BAD;
            }
            if (length >= TEXT_BYTES) {
                return FULL;
            }
            bytes[length] = c;
            length++;
            return length;
        }

        int empty() {
            int previous = length;
            length = 0;
            return previous;
        }

        int letter(int n) {
            return isWithin(n, 0, orders - 1) ? letters[n] : NONE;
        }

        int numbers(int n) {
            return isWithin(n, 0, orders - 1) ? counts[n] : 0;
        }

        /** NONE if the order has no such number. */
        int number(int n, int index) {
            return isWithin(index, 0, numbers(n) - 1) ? values[n * MOST_NUMBERS + index] : NONE;
        }

        /** Takes the text apart; answers its fault, or NONE. */
        int parse() {
            orders = 0;
            place = 0;
            for (int n = 0; n < MOST_ORDERS; n++) {
                skipBlanks();
                if (n > 0 && place >= length) {
                    break;
                }
                if (!parseOrder(n)) {
                    return place;
                }
                orders = n + 1;
            }
            return NONE;
        }

        private void skipBlanks() {
            while (place < length && bytes[place] == BLANK) {
                place++;
            }
        }

        private int current() {
            return isWithin(place, 0, length - 1) ? bytes[place] : NONE;
        }

        private boolean isAtDigit() {
            return isWithin(current(), '0', '9');
        }

        /** If it answers false, the place is that of the fault. */
        private boolean parseOrder(int n) {
            int most = mostNumbers(current());
            if (most == NONE) {
                return false;
            }
            int fewest = current() == 'w' ? 1 : most;
            letters[n] = current();
            counts[n] = 0;
            place++;
            skipBlanks();
            for (int index = 0; index < most && isAtDigit(); index++) {
                if (!parseNumber(n, index)) {
                    return false;
                }
                skipBlanks();
            }
            if (current() != ';' || counts[n] < fewest) {
                return false;
            }
            place++;
            return true;
        }

        /** Needs a digit at the place. */
        private boolean parseNumber(int n, int index) {
            int value = current() - '0';
            place++;
            if (isAtDigit()) {
                value = value * 10 + current() - '0';
                place++;
            }
            values[n * MOST_NUMBERS + index] = value;
            counts[n] = index + 1;
            return !isAtDigit();
        }

        private static int mostNumbers(int letter) {
            switch (letter) {
                case 's':
                    return 5;
                case 'w':
                    return 3;
                case 'g':
                    return 2;
                case 'l':
                    return 6;
                case 'd':
                    return 1;
                case 'c':
                    return 0;
                default:
                    return NONE;
            }
        }
    }
}
