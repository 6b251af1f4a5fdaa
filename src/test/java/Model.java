import java.util.ArrayDeque;
import java.util.ArrayList;
import java.util.Arrays;
import java.util.Deque;
import java.util.List;
import java.util.regex.Matcher;
import java.util.regex.Pattern;

/**
 * The document told a second time, for the tests: plainly and slowly, with the Java library, and by
 * other ways than the class takes wherever there is one.
 */
final class Model {
    static final int NONE = -1, BAD = -2, NO = -3, FULL = -4;

    /** Signs are h, p, m, f, sort; words are sign, from, to. */
    private record State(List<int[]> signs, int[] weights, List<int[]> words, int[] lay) {
        State copy() {
            List<int[]> s = new ArrayList<>();
            signs.forEach(row -> s.add(row.clone()));
            List<int[]> w = new ArrayList<>();
            words.forEach(row -> w.add(row.clone()));
            return new State(s, weights.clone(), w, lay.clone());
        }
    }

    private static final String NUMBER = "[0-9]{1,2}(?![0-9]) *";
    private static final Pattern TEXT = Pattern.compile(
        " *((s *(N){5}|w *(N){1,3}|g *(N){2}|l *(N){6}|d *N|c *); *)+".replace("N", NUMBER));
    private static final List<int[]> ARRANGEMENTS = arrangements();

    private State now = new State(
        new ArrayList<>(), new int[] {1, 1, 1, 1}, new ArrayList<>(), new int[] {0, 1, 2, 3, 4, 5});
    private final Deque<State> kept = new ArrayDeque<>();
    private final StringBuilder text = new StringBuilder();
    private final int[] errors = new int[3];

    /** Makes the call with the given name; only as many of the arguments as it has count. */
    long call(String name, int... a) {
        if (name.equals("digest")) {
            return digest();
        }
        State before = now.copy();
        int answer = answer(name, a);
        if (answer <= BAD && answer >= FULL) {
            errors[BAD - answer]++;
        }
        boolean canBeUndone = List.of("sign", "becomes", "drops", "weight", "draws", "word", "cuts", "shifts",
            "clears", "lays", "settles", "reads").contains(name);
        if (canBeUndone && answer >= 0) {
            kept.addLast(before);
            if (kept.size() > 5) {
                kept.removeFirst();
            }
        }
        return answer;
    }

    private int answer(String name, int[] a) {
        return switch (name) {
            case "sign" -> sign(Arrays.copyOf(a, 5));
            case "becomes" -> becomes(a[0], a[1], a[2]);
            case "drops" -> drops(a[0]);
            case "weight" -> weight(a[0], a[1]);
            case "draws" -> draws(a[0], a[1]);
            case "of" -> !isSign(a[0]) || out(a[1], 0, 5) ? BAD : of(a[0], a[1]);
            case "apart" -> !isSign(a[0]) || !isSign(a[1]) || out(a[2], 0, 4) ? BAD
                : a[2] == 4 ? distance(now.signs.get(a[0]), now.signs.get(a[1]))
                : gap(a[2], now.signs.get(a[0])[a[2]], now.signs.get(a[1])[a[2]]);
            case "look" -> look(a);
            case "near" -> near(a[0], a[1]);
            case "nearest" -> nearest(a);
            case "sorts" -> out(a[0], 0, 3) ? BAD : (int) now.signs.stream().filter(s -> s[4] == a[0]).count();
            case "groups" -> out(a[0], 0, 99) || out(a[1], 0, 1) ? BAD : groups(a[0], a[1]);
            case "twins" -> out(a[0], -1, 3) ? BAD : twins(a[0]);
            case "enough" -> out(a[0], -1, 15) ? BAD : a[0] == NONE ? leastEnough() : isEnough(a[0]) ? 1 : 0;
            case "span" -> out(a[0], 0, 3) ? BAD : span(a[0]);
            case "word" -> word(a[0], a[1], a[2]);
            case "cuts" -> cuts(a[0]);
            case "shifts" -> shifts(a[0], a[1]);
            case "clears" -> clears();
            case "wordOf" -> !isWord(a[0]) || out(a[1], 0, 6) ? BAD : wordOf(a[0], a[1]);
            case "at" -> out(a[0], 0, 5) || out(a[1], 0, 16) ? BAD : at(a[0], Math.min(a[1], now.words.size()));
            case "all" -> out(a[0], 0, 6) ? BAD : all(a[0]);
            case "lays" -> lays(a[0], a[1]);
            case "lay" -> out(a[0], 0, 5) ? BAD : now.lay[a[0]];
            case "best" -> out(a[0], -1, 5) ? BAD : a[0] == NONE ? length(bestArrangement()) : bestArrangement()[a[0]];
            case "settles" -> settles();
            case "type" -> type(a[0]);
            case "clear" -> clear();
            case "reads" -> reads();
            case "back" -> back();
            case "told" -> out(a[0], 0, 10) ? BAD : told(a[0]);
            default -> throw new IllegalArgumentException(name);
        };
    }

    private static boolean out(int v, int least, int greatest) {
        return v < least || v > greatest;
    }

    private boolean isSign(int k) {
        return !out(k, 0, now.signs.size() - 1);
    }

    private boolean isWord(int i) {
        return !out(i, 0, now.words.size() - 1);
    }

    private static boolean sameValues(int[] a, int[] b) {
        return Arrays.equals(a, 0, 4, b, 0, 4);
    }

    private int sign(int[] row) {
        for (int n = 0; n < 5; n++) {
            if (out(row[n], 0, n == 4 ? 3 : 7)) {
                return BAD;
            }
        }
        if (now.signs.stream().anyMatch(s -> sameValues(s, row))) {
            return NO;
        }
        if (now.signs.size() == 16) {
            return FULL;
        }
        now.signs.add(row);
        return now.signs.size() - 1;
    }

    private int becomes(int k, int part, int v) {
        if (!isSign(k) || out(part, 0, 4) || out(v, 0, part == 4 ? 3 : 7)) {
            return BAD;
        }
        int[] row = now.signs.get(k).clone();
        row[part] = v;
        for (int j = 0; j < now.signs.size(); j++) {
            if (j != k && sameValues(now.signs.get(j), row)) {
                return NO;
            }
        }
        return now.signs.set(k, row)[part];
    }

    private int drops(int k) {
        if (!isSign(k)) {
            return BAD;
        }
        if (of(k, 5) > 0) {
            return NO;
        }
        now.signs.remove(k);
        now.words.forEach(w -> w[0] -= w[0] > k ? 1 : 0);
        return now.signs.size();
    }

    private int weight(int part, int v) {
        if (out(part, 0, 3) || out(v, 0, 5)) {
            return BAD;
        }
        int previous = now.weights[part];
        now.weights[part] = v;
        return previous;
    }

    private int draws(int seed, int n) {
        if (out(seed, 0, 999999) || out(n, 1, 16)) {
            return BAD;
        }
        int before = now.signs.size();
        long x = seed;
        for (int i = 0; i < n; i++) {
            int[] row = new int[5];
            for (int part = 0; part < 5; part++) {
                x = x * 1103515245L + 12345L & Integer.MAX_VALUE;
                row[part] = (int) (x >> 16) & (part == 4 ? 3 : 7);
            }
            sign(row);
        }
        return now.signs.size() - before;
    }

    private int of(int k, int what) {
        return what < 5 ? now.signs.get(k)[what] : (int) now.words.stream().filter(w -> w[0] == k).count();
    }

    private static int gap(int part, int a, int b) {
        if (part == 0) {
            return Math.abs((a & 1) - (b & 1)) + Math.abs((a >> 1 & 1) - (b >> 1 & 1)) + Math.abs((a >> 2) - (b >> 2));
        }
        if (part == 1) {
            return Math.abs((a & 3) - (b & 3)) + Math.abs((a >> 2) - (b >> 2));
        }
        if (part == 2) {
            int up = 0;
            while ((a + up) % 8 != b) {
                up++;
            }
            int down = 0;
            while ((b + down) % 8 != a) {
                down++;
            }
            return Math.min(up, down);
        }
        int halvings = 0;
        while (a >> halvings != b >> halvings) {
            halvings++;
        }
        return halvings;
    }

    private int distance(int[] a, int[] b) {
        int sum = 0;
        for (int part = 0; part < 4; part++) {
            sum += now.weights[part] * gap(part, a[part], b[part]);
        }
        return sum;
    }

    private int look(int[] a) {
        int set = 0;
        for (int k = 0; k < now.signs.size(); k++) {
            set += 1 << k;
        }
        for (int part = 0; part < 4; part++) {
            if (out(a[part], -1, 7)) {
                return BAD;
            }
            for (int k = 0; k < now.signs.size(); k++) {
                set &= a[part] == NONE || a[part] == now.signs.get(k)[part] ? -1 : ~(1 << k);
            }
        }
        return set;
    }

    private int near(int k, int d) {
        if (!isSign(k) || out(d, 0, 99)) {
            return BAD;
        }
        int set = 0;
        for (int j = 0; j < now.signs.size(); j++) {
            set += distance(now.signs.get(j), now.signs.get(k)) <= d ? 1 << j : 0;
        }
        return set;
    }

    private int nearest(int[] a) {
        for (int part = 0; part < 4; part++) {
            if (out(a[part], 0, 7)) {
                return BAD;
            }
        }
        for (int d = 0; d < 100; d++) {
            for (int k = 0; k < now.signs.size(); k++) {
                if (distance(now.signs.get(k), a) == d) {
                    return k;
                }
            }
        }
        return NONE;
    }

    private int groups(int d, int what) {
        int n = now.signs.size();
        int[] reached = new int[n];
        for (int k = 0; k < n; k++) {
            reached[k] = near(k, d);
        }
        for (int pass = 0; pass < n; pass++) {
            for (int j = 0; j < n; j++) {
                for (int k = 0; k < n; k++) {
                    reached[j] |= (reached[j] >> k & 1) == 1 ? reached[k] : 0;
                }
            }
        }
        return what == 0 ? (int) Arrays.stream(reached).distinct().count()
            : Arrays.stream(reached).map(Integer::bitCount).max().orElse(0);
    }

    private int differing(int j, int k) {
        int set = 0;
        for (int part = 0; part < 4; part++) {
            set += now.signs.get(j)[part] == now.signs.get(k)[part] ? 0 : 1 << part;
        }
        return set;
    }

    private int twins(int part) {
        int found = 0;
        for (int k = 0; k < now.signs.size(); k++) {
            for (int j = 0; j < k; j++) {
                int set = differing(j, k);
                found += Integer.bitCount(set) == 1 && (part == NONE || (set >> part & 1) == 1) ? 1 : 0;
            }
        }
        return found;
    }

    private boolean isEnough(int set) {
        for (int k = 0; k < now.signs.size(); k++) {
            for (int j = 0; j < k; j++) {
                if ((differing(j, k) & set) == 0) {
                    return false;
                }
            }
        }
        return true;
    }

    private int leastEnough() {
        for (int parts = 0; parts < 4; parts++) {
            for (int set = 0; set < 16; set++) {
                if (Integer.bitCount(set) == parts && isEnough(set)) {
                    return set;
                }
            }
        }
        return 15;
    }

    private int span(int what) {
        int best = NONE;
        int pair = NONE;
        for (int j = now.signs.size() - 2; j >= 0; j--) {
            for (int k = now.signs.size() - 1; k > j; k--) {
                int d = distance(now.signs.get(j), now.signs.get(k));
                if (best == NONE || what % 2 == 0 && d >= best || what % 2 == 1 && d <= best) {
                    best = d;
                    pair = 16 * j + k;
                }
            }
        }
        return what < 2 ? best : pair;
    }

    private int word(int k, int f, int t) {
        if (!isSign(k) || out(f, -1, 5) || out(t, -1, 5)) {
            return BAD;
        }
        if (now.words.size() == 16) {
            return FULL;
        }
        now.words.add(new int[] {k, f, t});
        return now.words.size() - 1;
    }

    private int cuts(int i) {
        if (!isWord(i)) {
            return BAD;
        }
        now.words.remove(i);
        return now.words.size();
    }

    private int shifts(int i, int j) {
        if (!isWord(i) || !isWord(j)) {
            return BAD;
        }
        now.words.add(j, now.words.remove(i));
        return Math.max(i, j) - Math.min(i, j);
    }

    private int clears() {
        int previous = now.words.size();
        now.words.clear();
        return previous;
    }

    private int sort(int i) {
        return now.signs.get(now.words.get(i)[0])[4];
    }

    private int at(int spot, int n) {
        for (int i = n - 1; i >= 0; i--) {
            if (spot != NONE && sort(i) == 1 && now.words.get(i)[2] == spot) {
                return now.words.get(i)[0];
            }
        }
        return NONE;
    }

    private int clauseOf(int i) {
        int deeds = 0;
        for (int j = 0; j < i; j++) {
            deeds += sort(j) == 3 ? 1 : 0;
        }
        return deeds;
    }

    private int wordOf(int i, int what) {
        int[] w = now.words.get(i);
        int atFrom = at(w[1], i);
        int atTo = at(w[2], i);
        return switch (what) {
            case 3 -> clauseOf(i);
            case 4 -> sort(i) == 2 && atTo == NONE
                || sort(i) == 3 && (w[1] != NONE && atFrom == NONE || w[2] != NONE && atTo == NONE) ? 1 : 0;
            case 5 -> sort(i) == 2 ? atTo : sort(i) == 3 ? atFrom : NONE;
            case 6 -> sort(i) == 3 ? atTo : NONE;
            default -> w[what];
        };
    }

    private int rank(int i) {
        return new int[] {0, 1, 1, 2}[sort(i)];
    }

    private int swaps() {
        int swaps = 0;
        for (int j = 0; j < now.words.size(); j++) {
            for (int i = 0; i < j; i++) {
                swaps += clauseOf(i) == clauseOf(j) && rank(i) > rank(j) ? 1 : 0;
            }
        }
        return swaps;
    }

    /** Words less the longest row that is in the right order in each clause. */
    private int moves() {
        int[] longest = new int[17];
        int[] most = new int[17];
        for (int j = 0; j < now.words.size(); j++) {
            longest[j] = 1;
            for (int i = 0; i < j; i++) {
                if (clauseOf(i) == clauseOf(j) && rank(i) <= rank(j)) {
                    longest[j] = Math.max(longest[j], longest[i] + 1);
                }
            }
            most[clauseOf(j)] = Math.max(most[clauseOf(j)], longest[j]);
        }
        return now.words.size() - Arrays.stream(most).sum();
    }

    private List<Integer> path() {
        List<Integer> spots = new ArrayList<>();
        for (int[] w : now.words) {
            spots.add(w[1]);
            spots.add(w[2]);
        }
        spots.removeIf(spot -> spot == NONE);
        return spots;
    }

    private int length(int[] lay) {
        List<Integer> spots = path();
        int length = 0;
        for (int n = 1; n < spots.size(); n++) {
            length += Math.abs(lay[spots.get(n)] - lay[spots.get(n - 1)]);
        }
        return length;
    }

    private int all(int what) {
        int n = now.words.size();
        int found = 0;
        switch (what) {
            case 0:
                return n;
            case 1:
                return n == 0 ? 0 : clauseOf(n - 1) + 1;
            case 2:
                for (int i = 0; i < n; i++) {
                    found += wordOf(i, 4);
                }
                return found;
            case 3:
                return swaps();
            case 4:
                return moves();
            case 5:
                return length(now.lay);
            default:
                for (int spot : path()) {
                    found |= 1 << spot;
                }
                return found;
        }
    }

    private static List<int[]> arrangements() {
        List<int[]> found = new ArrayList<>();
        for (int code = 0; code < 46656; code++) {
            int[] lay = new int[6];
            for (int spot = 5, rest = code; spot >= 0; spot--, rest /= 6) {
                lay[spot] = rest % 6;
            }
            if (Arrays.stream(lay).distinct().count() == 6) {
                found.add(lay);
            }
        }
        return found;
    }

    private int[] bestArrangement() {
        int[] best = ARRANGEMENTS.get(0);
        int least = length(best);
        for (int[] lay : ARRANGEMENTS) {
            int length = length(lay);
            if (length < least) {
                least = length;
                best = lay;
            }
        }
        return best;
    }

    private int lays(int spot, int v) {
        if (out(spot, 0, 5) || out(v, 0, 5)) {
            return BAD;
        }
        int previous = now.lay[spot];
        int other = 0;
        while (now.lay[other] != v) {
            other++;
        }
        now.lay[other] = previous;
        now.lay[spot] = v;
        return previous;
    }

    private int settles() {
        int[] best = bestArrangement();
        int shorter = length(now.lay) - length(best);
        System.arraycopy(best, 0, now.lay, 0, 6);
        return shorter;
    }

    private int type(int c) {
        if (out(c, 0, 127)) {
            return BAD;
        }
        if (text.length() == 120) {
            return FULL;
        }
        text.append((char) c);
        return text.length();
    }

    private int clear() {
        int previous = text.length();
        text.setLength(0);
        return previous;
    }

    /** A text can go on if the pattern fits it, or would look at bytes behind its end. */
    private static boolean canGoOn(String start) {
        Matcher matcher = TEXT.matcher(start);
        return matcher.matches() || matcher.hitEnd();
    }

    private int reads() {
        for (int n = 1; n <= text.length(); n++) {
            if (!canGoOn(text.substring(0, n))) {
                return -10 - (n - 1);
            }
        }
        if (!TEXT.matcher(text).matches()) {
            return -10 - text.length();
        }
        State before = now.copy();
        String[] orders = text.toString().split(";");
        int n = 0;
        for (String order : orders) {
            if (order.isBlank()) {
                continue;
            }
            if (execute(order.trim()) < 0) {
                now = before;
                return -1000 - n;
            }
            n++;
        }
        return n;
    }

    private int execute(String order) {
        String rest = order.substring(1).trim();
        int[] a = rest.isEmpty() ? new int[0] : Arrays.stream(rest.split(" +")).mapToInt(Integer::parseInt).toArray();
        return switch (order.charAt(0)) {
            case 's' -> sign(a);
            case 'w' -> word(a[0], a.length == 3 ? a[1] : NONE, a.length == 1 ? NONE : a[a.length - 1]);
            case 'g' -> weight(a[0], a[1]);
            case 'd' -> drops(a[0]);
            case 'c' -> clears();
            default -> setLay(a);
        };
    }

    private int setLay(int[] a) {
        if (ARRANGEMENTS.stream().noneMatch(lay -> Arrays.equals(lay, a))) {
            return BAD;
        }
        System.arraycopy(a, 0, now.lay, 0, 6);
        return 0;
    }

    private int back() {
        if (kept.isEmpty()) {
            return NO;
        }
        now = kept.removeLast();
        return kept.size();
    }

    private int told(int what) {
        int[] sizes = {text.length(), now.signs.size(), now.words.size(), kept.size()};
        return what < 3 ? errors[what] : what < 7 ? sizes[what - 3] : now.weights[what - 7];
    }

    private long digest() {
        List<Integer> numbers = new ArrayList<>();
        for (int what = 0; what <= 10; what++) {
            numbers.add(told(what));
        }
        for (int k = 0; k < now.signs.size(); k++) {
            for (int what = 0; what <= 5; what++) {
                numbers.add(of(k, what));
            }
        }
        for (int i = 0; i < now.words.size(); i++) {
            for (int what = 0; what <= 6; what++) {
                numbers.add(wordOf(i, what));
            }
        }
        for (int what = 0; what <= 6; what++) {
            numbers.add(all(what));
        }
        for (int spot = 0; spot < 6; spot++) {
            numbers.add(now.lay[spot]);
        }
        numbers.add(length(bestArrangement()));
        numbers.add(twins(NONE));
        numbers.add(leastEnough());
        long h = 2287;
        for (int v : numbers) {
            h = 31 * h + v;
        }
        return h;
    }
}
