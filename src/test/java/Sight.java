import java.util.ArrayList;
import java.util.List;

/** What can be seen of an object, in a form that two objects can be compared by. */
final class Sight {
    /** The numbers that a digest has before those of the signs, and behind those of the words. */
    private static final int TOLD = 11, REST = 16;

    private Sight() {
    }

    /** A digest of the signs, the weights, the sentence, the positions and the length of the text. */
    static long ofState(GestureBook x) {
        return withoutErrors(x) - share(x, 6);
    }

    /**
     * Everything but the counts of errors: the state, all states that are kept, and what the text
     * does in the oldest one. The object is used up by it.
     */
    static List<Long> ofAll(GestureBook x) {
        List<Long> seen = new ArrayList<>();
        seen.add(withoutErrors(x));
        for (int n = x.told(6); n > 0; n--) {
            seen.add((long) x.back());
            seen.add(withoutErrors(x));
        }
        seen.add((long) x.back());
        seen.add((long) x.reads());
        seen.add(withoutErrors(x));
        return seen;
    }

    private static long withoutErrors(GestureBook x) {
        return x.digest() - share(x, 0) - share(x, 1) - share(x, 2);
    }

    /** What told(what) adds to the digest. */
    private static long share(GestureBook x, int what) {
        int numbers = TOLD + 6 * x.told(4) + 7 * x.told(5) + REST;
        long share = x.told(what);
        for (int n = what + 1; n < numbers; n++) {
            share *= 31;
        }
        return share;
    }
}
