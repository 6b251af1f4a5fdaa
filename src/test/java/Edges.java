import java.util.ArrayList;
import java.util.List;

/**
 * Tests of single sentences: each is told together with the words that it holds the class to, and the
 * document has to have these words under the head that was named last.
 */
final class Edges {
    static final int NONE = GestureBook.NONE, BAD = GestureBook.BAD, NO = GestureBook.NO, FULL = GestureBook.FULL;

    /** Makes an object in the same state each time. */
    interface Start {
        GestureBook book();
    }

    interface Call {
        long on(GestureBook x);
    }

    interface CallWith {
        long on(GestureBook x, int v);
    }

    /** Far outside of every range; some would be inside if only their low bits counted. */
    private static final int[] FAR = {
        Integer.MIN_VALUE, Integer.MIN_VALUE + 1, -65536, -256, 256, 65536, 1 << 30, Integer.MAX_VALUE};
    private static final int ALL_ARE_TRIED = 200;

    private final Due due = new Due();
    private final Document document;
    private String head = "";
    private String words = "";
    private int compared = 0;

    Edges(Document document) {
        this.document = document;
    }

    void under(String head) {
        this.head = head;
    }

    void says(String words, Runnable test) {
        this.words = words;
        compared = 0;
        due.holds("the document says, once under " + head + ": " + words, document.cites(head, words));
        test.run();
        due.holds(head + " has a test that compares something: " + words, compared > 0);
    }

    void end() {
        due.is("heads of the document", document.heads(), 35);
        for (String clause : document.uncited()) {
            due.holds("a test for " + clause, false);
        }
        due.end();
    }

    void is(long got, long want) {
        compared++;
        due.is(got == want ? "" : head + ", '" + words + "', " + place(), got, want);
    }

    private static String place() {
        return StackWalker.getInstance().walk(frames -> frames
            .filter(frame -> !frame.getClassName().equals(Edges.class.getName()))
            .map(frame -> frame.getFileName() + ":" + frame.getLineNumber()).findFirst().orElse("?"));
    }

    /** The call gives this answer, gives it again when it is made again, and is no change at all. */
    void asks(Start start, long want, Call call) {
        GestureBook x = start.book();
        is(call.on(x), want);
        is(call.on(x), want);
        same(x, start.book());
    }

    /** The call returns the error, which is counted, and changes nothing else. */
    void refuses(Start start, int error, Call call) {
        GestureBook x = start.book();
        GestureBook untouched = start.book();
        is(call.on(x), error);
        for (int kind = 0; kind < 3; kind++) {
            is(x.told(kind), untouched.told(kind) + (kind == BAD - error ? 1 : 0));
        }
        same(x, untouched);
    }

    /** The call gives this answer; it keeps one state, the one before it. */
    void undoes(Start start, long want, Call call) {
        GestureBook x = start.book();
        GestureBook untouched = start.book();
        int kept = Math.min(untouched.told(6), 4);
        is(call.on(x), want);
        is(x.told(6), kept + 1);
        is(x.back(), kept);
        is(Sight.ofState(x), Sight.ofState(untouched));
    }

    /** The argument has this range: all of it is taken, and what is outside is refused. */
    void range(Start start, int least, int greatest, CallWith call) {
        for (int v = least; v <= greatest; v++) {
            if (v - least < ALL_ARE_TRIED || greatest - v < ALL_ARE_TRIED) {
                GestureBook x = start.book();
                is(Math.min(NONE, call.on(x, v)), NONE);
                is(x.told(0), 0);
            }
        }
        for (int v : outside(least, greatest)) {
            refuses(start, BAD, x -> call.on(x, v));
        }
    }

    private static List<Integer> outside(int least, int greatest) {
        List<Integer> values = new ArrayList<>(List.of(least - 2, least - 1, greatest + 1, greatest + 2));
        for (int v : FAR) {
            if (v < least || v > greatest) {
                values.add(v);
            }
        }
        return values;
    }

    private void same(GestureBook x, GestureBook y) {
        List<Long> seen = Sight.ofAll(x);
        List<Long> wanted = Sight.ofAll(y);
        is(seen.size(), wanted.size());
        for (int n = 0; n < Math.min(seen.size(), wanted.size()); n++) {
            is(seen.get(n), wanted.get(n));
        }
    }
}
