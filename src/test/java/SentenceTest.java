/** Promises 17 to 23: sentences. The signs 0 to 7 are two times, two things, two points and two deeds. */
public final class SentenceTest {
    private static final int NONE = GestureBook.NONE, BAD = GestureBook.BAD, NO = GestureBook.NO;
    private static final int TIME = 0, THING = 2, OTHER = 3, POINT = 4, DEED = 6;
    private static final Due due = new Due();

    public static void main(String[] args) {
        promise17();
        promise18();
        fullSentence();
        promise19();
        promise20();
        promise21Plain();
        promise21Points();
        promise21Deeds();
        promise22();
        promise23();
        promise23Swaps();
        promise23Path();
        due.end();
    }

    private static GestureBook signs() {
        GestureBook x = new GestureBook();
        for (int k = 0; k < 8; k++) {
            x.sign(k, 0, 0, 0, k / 2);
        }
        return x;
    }

    private static String words(GestureBook x) {
        StringBuilder said = new StringBuilder();
        for (int i = 0; i < x.all(0); i++) {
            said.append(x.wordOf(i, 0)).append(':').append(x.wordOf(i, 1)).append(':').append(x.wordOf(i, 2)).append(' ');
        }
        return said.toString();
    }

    private static void promise17() {
        GestureBook x = signs();
        due.is("17: no sign", x.word(8, NONE, NONE), BAD);
        due.is("17: sign -1", x.word(-1, NONE, NONE), BAD);
        due.is("17: from 6", x.word(0, 6, NONE), BAD);
        due.is("17: from -2", x.word(0, -2, NONE), BAD);
        due.is("17: to 6", x.word(0, NONE, 6), BAD);
        due.is("17: to -2", x.word(0, NONE, -2), BAD);
        due.is("17: nothing said", x.told(5), 0);
        due.is("17: first", x.word(7, 0, 5), 0);
        due.is("17: second", x.word(0, NONE, NONE), 1);
        due.is("17: third", x.word(7, 5, 0), 2);
        due.holds("17: words", words(x).equals("7:0:5 0:-1:-1 7:5:0 "));
        x.back();
        due.is("17: undone", x.told(5), 2);
        for (int i = 2; i < 16; i++) {
            due.is("17: word " + i, x.word(i % 8, NONE, i % 6), i);
        }
        due.is("17: full", x.word(0, NONE, NONE), GestureBook.FULL);
        due.is("17: BAD before FULL", x.word(0, NONE, 6), BAD);
        due.is("17: errors", x.told(0) * 10 + x.told(2), 71);
        due.is("17: the same sign again and again", x.of(7, 5), 3);
        due.is("17: without signs", new GestureBook().word(0, NONE, NONE), BAD);
    }

    private static void promise18() {
        GestureBook x = signs();
        for (int k = 0; k < 4; k++) {
            x.word(k, k, k + 1);
        }
        due.is("18: word 4", x.cuts(4), BAD);
        due.is("18: word -1", x.cuts(-1), BAD);
        due.is("18: words left", x.cuts(1), 3);
        due.holds("18: the others", words(x).equals("0:0:1 2:2:3 3:3:4 "));
        due.is("18: the last", x.cuts(2), 2);
        due.is("18: the first", x.cuts(0), 1);
        due.holds("18: what is left", words(x).equals("2:2:3 "));
        due.is("18: the only one", x.cuts(0), 0);
        due.is("18: no more", x.cuts(0), BAD);
        x.back();
        x.back();
        x.back();
        due.holds("18: undone", words(x).equals("0:0:1 2:2:3 3:3:4 "));
    }

    private static GestureBook sixteenWords() {
        GestureBook x = signs();
        for (int i = 0; i < 16; i++) {
            x.word(i == 0 ? DEED + 1 : DEED, i % 6, 5 - i % 6);
        }
        return x;
    }

    private static void fullSentence() {
        GestureBook x = sixteenWords();
        due.is("23: clauses", x.all(1), 16);
        due.is("23: vain words", x.all(2), 16);
        due.is("23: spots", x.all(6), 63);
        due.is("23: path", x.all(5), 46 + 30);
        due.is("19: the first to the end", x.shifts(0, 15), 15);
        due.is("19: there", x.wordOf(15, 0), DEED + 1);
        due.is("19: the last to the middle", x.shifts(15, 8), 7);
        due.is("19: there", x.wordOf(8, 0), DEED + 1);
        due.is("4: a sign less", x.drops(POINT), 7);
        due.is("4: in the last word", x.wordOf(15, 0), DEED - 1);
        due.is("4: in the middle", x.wordOf(8, 0), DEED);
        due.is("18: from the middle", x.cuts(8), 15);
        due.is("18: its sign is free", x.of(DEED, 5), 0);
        due.is("20: all", x.clears(), 15);
        due.is("23: no clauses", x.all(1), 0);
        due.is("23: no vain words", x.all(2), 0);
        due.is("23: no path", x.all(5) + x.all(6), 0);
        for (int i = 0; i < 16; i++) {
            GestureBook y = sixteenWords();
            due.is("18: word " + i + " of sixteen", y.cuts(i), 15);
            due.is("18: none is lost", y.of(DEED, 5) + y.of(DEED + 1, 5), 15);
        }
    }

    private static void promise19() {
        GestureBook x = signs();
        for (int k = 0; k < 5; k++) {
            x.word(k, k, NONE);
        }
        due.is("19: up", x.shifts(1, 3), 2);
        due.holds("19: words", words(x).equals("0:0:-1 2:2:-1 3:3:-1 1:1:-1 4:4:-1 "));
        due.is("19: down", x.shifts(4, 0), 4);
        due.holds("19: words", words(x).equals("4:4:-1 0:0:-1 2:2:-1 3:3:-1 1:1:-1 "));
        due.is("19: to the end", x.shifts(0, 4), 4);
        due.holds("19: words", words(x).equals("0:0:-1 2:2:-1 3:3:-1 1:1:-1 4:4:-1 "));
        int kept = x.told(6);
        x.back();
        x.back();
        x.back();
        due.holds("19: undone", kept == 5 && words(x).equals("0:0:-1 1:1:-1 2:2:-1 3:3:-1 4:4:-1 "));
        due.is("19: to its place", x.shifts(4, 4), 0);
        due.is("19: kept also without a change", x.told(6), 3);
        due.is("19: word 5", x.shifts(5, 0), BAD);
        due.is("19: word -1", x.shifts(-1, 0), BAD);
        due.is("19: number 5", x.shifts(0, 5), BAD);
        due.is("19: number -1", x.shifts(0, -1), BAD);
        due.is("19: without words", signs().shifts(0, 0), BAD);
    }

    private static void promise20() {
        GestureBook x = signs();
        due.is("20: none", x.clears(), 0);
        due.is("20: kept also without a change", x.told(6), 5);
        x.word(3, 1, 2);
        x.word(2, NONE, NONE);
        due.is("20: two", x.clears(), 2);
        due.is("20: none left", x.all(0), 0);
        due.is("20: the signs stay", x.told(4), 8);
        due.is("20: the sign is free", x.drops(3), 7);
        x.back();
        x.back();
        due.holds("20: undone", words(x).equals("3:1:2 2:-1:-1 "));
    }

    private static void promise21Plain() {
        GestureBook x = signs();
        x.word(TIME, 3, 4);
        x.word(THING, 2, NONE);
        x.word(DEED, NONE, NONE);
        x.word(TIME, NONE, NONE);
        int[][] want = {
            {TIME, 3, 4, 0, 0, NONE, NONE}, {THING, 2, NONE, 0, 0, NONE, NONE},
            {DEED, NONE, NONE, 0, 0, NONE, NONE}, {TIME, NONE, NONE, 1, 0, NONE, NONE}};
        for (int i = 0; i < 4; i++) {
            for (int what = 0; what < 7; what++) {
                due.is("21: wordOf(" + i + "," + what + ")", x.wordOf(i, what), want[i][what]);
            }
        }
        due.is("21: word 4", x.wordOf(4, 0), BAD);
        due.is("21: word -1", x.wordOf(-1, 0), BAD);
        due.is("21: what 7", x.wordOf(0, 7), BAD);
        due.is("21: what -1", x.wordOf(0, -1), BAD);
        due.is("21: errors", x.told(0), 4);
    }

    private static void promise21Points() {
        GestureBook x = signs();
        x.word(POINT, NONE, 1);
        x.word(THING, NONE, 1);
        x.word(POINT, 2, 1);
        x.word(OTHER, NONE, 1);
        x.word(POINT, NONE, 1);
        x.word(POINT, 1, NONE);
        x.word(POINT, 1, 2);
        x.word(TIME, NONE, 1);
        x.word(POINT + 1, NONE, 1);
        int[] vain = {1, 0, 0, 0, 0, 1, 1, 0, 0};
        int[] means = {NONE, NONE, THING, NONE, OTHER, NONE, NONE, NONE, OTHER};
        for (int i = 0; i < vain.length; i++) {
            due.is("21: vain, word " + i, x.wordOf(i, 4), vain[i]);
            due.is("21: means, word " + i, x.wordOf(i, 5), means[i]);
            due.is("21: a point concerns nobody, word " + i, x.wordOf(i, 6), NONE);
        }
        x.becomes(OTHER, 4, 0);
        due.is("21: without the other thing", x.wordOf(4, 5), THING);
        x.becomes(THING, 4, 3);
        due.is("21: without things", x.wordOf(4, 5), NONE);
    }

    private static void promise21Deeds() {
        GestureBook x = signs();
        x.word(THING, NONE, 0);
        x.word(OTHER, 0, 5);
        x.word(DEED, 0, 5);
        x.word(DEED, 5, 0);
        x.word(DEED, 0, 0);
        x.word(DEED, 0, NONE);
        x.word(DEED, NONE, 5);
        x.word(DEED, 0, 3);
        x.word(DEED, 3, 0);
        x.word(DEED, 3, NONE);
        x.word(DEED, NONE, 3);
        x.word(DEED, 3, 4);
        x.word(THING, NONE, 3);
        x.word(DEED + 1, NONE, 3);
        int[] vain = {0, 0, 0, 0, 0, 0, 0, 1, 1, 1, 1, 1, 0, 0};
        int[] who = {NONE, NONE, THING, OTHER, THING, THING, NONE, THING, NONE, NONE, NONE, NONE, NONE, NONE};
        int[] whom = {NONE, NONE, OTHER, THING, THING, NONE, OTHER, NONE, THING, NONE, NONE, NONE, NONE, THING};
        int[] clause = {0, 0, 0, 1, 2, 3, 4, 5, 6, 7, 8, 9, 10, 10};
        for (int i = 0; i < vain.length; i++) {
            due.is("21: clause, word " + i, x.wordOf(i, 3), clause[i]);
            due.is("21: vain, word " + i, x.wordOf(i, 4), vain[i]);
            due.is("21: who, word " + i, x.wordOf(i, 5), who[i]);
            due.is("21: whom, word " + i, x.wordOf(i, 6), whom[i]);
        }
        due.is("21: vain words", x.all(2), 5);
    }

    private static void promise22() {
        GestureBook x = signs();
        due.is("22: without words", x.at(0, 16), NONE);
        x.word(THING, 4, 1);
        x.word(OTHER, NONE, 1);
        x.word(POINT, NONE, 2);
        x.word(DEED, 1, 3);
        x.word(TIME, NONE, 1);
        x.word(OTHER, NONE, 5);
        x.word(THING, NONE, NONE);
        int[] atOne = {NONE, THING, OTHER, OTHER, OTHER, OTHER, OTHER, OTHER, OTHER};
        for (int n = 0; n < atOne.length; n++) {
            due.is("22: at(1," + n + ")", x.at(1, n), atOne[n]);
        }
        due.is("22: not yet", x.at(5, 5), NONE);
        due.is("22: then", x.at(5, 6), OTHER);
        due.is("22: a thing can be at two spots", x.at(1, 16), OTHER);
        due.is("22: points set nothing", x.at(2, 16), NONE);
        due.is("22: deeds set nothing", x.at(3, 16), NONE);
        due.is("22: from sets nothing", x.at(4, 16), NONE);
        due.is("22: spot 6", x.at(6, 0), BAD);
        due.is("22: spot -1", x.at(-1, 0), BAD);
        due.is("22: 17 words", x.at(0, 17), BAD);
        due.is("22: -1 words", x.at(0, -1), BAD);
        due.is("22: errors", x.told(0), 4);
    }

    private static void promise23() {
        GestureBook x = signs();
        x.word(TIME, NONE, 1);
        due.is("23: one clause without a deed", x.all(1), 1);
        x.word(DEED, 2, 1);
        due.is("23: ended by a deed", x.all(1), 1);
        x.word(DEED, NONE, NONE);
        due.is("23: of a deed alone", x.all(1), 2);
        x.word(POINT, 5, NONE);
        due.is("23: words", x.all(0), 4);
        due.is("23: words behind the last deed", x.all(1), 3);
        due.is("23: vain", x.all(2), 2);
        due.is("23: spots", x.all(6), 2 + 4 + 32);
        due.is("23: what 7", x.all(7), BAD);
        due.is("23: what -1", x.all(-1), BAD);
        due.is("23: errors", x.told(0), 2);
    }

    private static void order(String sorts, int swaps, int moves) {
        GestureBook x = signs();
        for (int i = 0; i < sorts.length(); i++) {
            x.word(2 * "TNPD".indexOf(sorts.charAt(i)), NONE, NONE);
        }
        due.is("23: swaps of " + sorts, x.all(3), swaps);
        due.is("23: moves of " + sorts, x.all(4), moves);
    }

    private static void promise23Swaps() {
        order("", 0, 0);
        order("TTNPPNTD", 4, 1);
        order("TTNPPND", 0, 0);
        order("NT", 1, 1);
        order("PT", 1, 1);
        order("NPTTT", 6, 2);
        order("NTTT", 3, 1);
        order("NPNT", 3, 1);
        order("NTNT", 3, 2);
        order("NTNTN", 3, 2);
        order("TNTNTNT", 6, 3);
        order("NDT", 0, 0);
        order("NTDPT", 2, 2);
        order("NPDTTD", 0, 0);
        order("NNTTDNTTTDPPPT", 4 + 3 + 3, 2 + 1 + 1);
        order("TTTTTTTTNNNNNNNN", 0, 0);
        order("NNNNNNNNTTTTTTTT", 64, 8);
    }

    private static void promise23Path() {
        GestureBook x = signs();
        x.word(TIME, NONE, 3);
        due.is("23: one spot", x.all(5), 0);
        x.word(THING, 0, NONE);
        due.is("23: two spots", x.all(5), 3);
        x.word(POINT, NONE, NONE);
        due.is("23: a word without spots", x.all(5), 3);
        x.word(DEED, 5, 1);
        due.is("23: from before to", x.all(5), 3 + 5 + 4);
        x.lays(0, 4);
        due.is("23: by positions", x.all(5), 1 + 1 + 4);
        due.is("23: spots, not positions", x.all(6), 1 + 2 + 8 + 32);
    }
}
