/** Objects for tests to begin with, the same each time. */
final class Books {
    private static final int NONE = GestureBook.NONE;
    private static final String LETTERS = "TNPDtnpd";

    private Books() {
    }

    static GestureBook empty() {
        return new GestureBook();
    }

    /** Up to sixteen signs; the sorts follow one another: time, thing, point, deed. */
    static GestureBook signs(int n) {
        GestureBook x = new GestureBook();
        for (int k = 0; k < n; k++) {
            x.sign(k % 8, k / 8, 0, 0, k % 4);
        }
        return x;
    }

    static GestureBook sixteen() {
        return signs(16);
    }

    /** Five signs, no two of which have the same value of a part. */
    static GestureBook five() {
        GestureBook x = new GestureBook();
        for (int k = 0; k < 5; k++) {
            x.sign(k, k, k, k, k % 4);
        }
        return x;
    }

    /** Two signs that are as far apart in each part as can be; all parts have the given weight. */
    static GestureBook extremes(int weight) {
        GestureBook x = new GestureBook();
        x.sign(0, 0, 0, 0, 1);
        x.sign(7, 7, 4, 7, 1);
        for (int part = 0; part < 4; part++) {
            x.weight(part, weight);
        }
        return x;
    }

    /**
     * Eight signs, and a sentence told in words like "N-3": T, N, P, D are time, thing, point and deed
     * (signs 0 to 3), t, n, p, d others of the same sorts (signs 4 to 7); then come "from" and "to".
     */
    static GestureBook said(String sentence) {
        GestureBook x = signs(8);
        for (String word : sentence.isEmpty() ? new String[0] : sentence.split(" ")) {
            x.word(LETTERS.indexOf(word.charAt(0)), spot(word, 1), spot(word, 2));
        }
        return x;
    }

    private static int spot(String word, int place) {
        return place >= word.length() || word.charAt(place) == '-' ? NONE : word.charAt(place) - '0';
    }

    /** Sixteen words, sign 0 each, without spots. */
    static GestureBook sixteenWords() {
        return said("T ".repeat(16).trim());
    }

    static GestureBook typed(String text) {
        return typed(new GestureBook(), text);
    }

    /** Types the text, in place of what was there. */
    static GestureBook typed(GestureBook x, String text) {
        x.clear();
        for (int n = 0; n < text.length(); n++) {
            x.type(text.charAt(n));
        }
        return x;
    }

    static GestureBook fullText() {
        return typed("c;".repeat(60));
    }

    /** Something of everything, a text that can be read, and five kept states that all differ. */
    static GestureBook rich() {
        GestureBook x = said("N-3 P-3 D3-");
        x.weight(1, 3);
        x.lays(0, 5);
        x.word(0, 1, 4);
        return typed(x, "s7 7 7 7 1;w2;g2 5;");
    }
}
