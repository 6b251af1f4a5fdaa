/** Promises 28 to 30: texts. */
public final class TextTest {
    private static final int NONE = GestureBook.NONE, BAD = GestureBook.BAD, FULL = GestureBook.FULL;
    private static final Due due = new Due();

    public static void main(String[] args) {
        promise28();
        promise29();
        promise30Faults();
        promise30NumbersOfEachOrder();
        promise30Blanks();
        promise30Orders();
        promise30ImpossibleOrders();
        promise30NothingChanged();
        promise30Undone();
        promise30TwoDigits();
        promise30AfterAnotherText();
        promise30Long();
        due.end();
    }

    private static void tell(GestureBook x, String text) {
        x.clear();
        for (int n = 0; n < text.length(); n++) {
            due.is("28: length", x.type(text.charAt(n)), n + 1);
        }
    }

    /** A new object with the given text typed into it. */
    private static GestureBook with(String text) {
        GestureBook x = new GestureBook();
        tell(x, text);
        return x;
    }

    private static void reads(String text, int want) {
        due.is("30: reads() of '" + text + "'", with(text).reads(), want);
    }

    private static void promise28() {
        GestureBook x = new GestureBook();
        due.is("28: byte -1", x.type(-1), BAD);
        due.is("28: byte 128", x.type(128), BAD);
        due.is("28: byte 0", x.type(0), 1);
        due.is("28: byte 127", x.type(127), 2);
        due.is("28: told(3)", x.told(3), 2);
        for (int n = 3; n <= 120; n++) {
            due.is("28: byte " + n, x.type(99), n);
        }
        due.is("28: full", x.type(99), FULL);
        due.is("28: BAD before FULL", x.type(128), BAD);
        due.is("28: length", x.told(3), 120);
        due.is("28: errors", x.told(0) * 10 + x.told(2), 31);
        due.is("28: nothing kept", x.told(6), 0);
    }

    private static void promise29() {
        GestureBook x = with("c;x");
        due.is("29: its length", x.clear(), 3);
        due.is("29: empty", x.told(3), 0);
        due.is("29: again", x.clear(), 0);
        due.is("29: nothing of it is left", x.reads(), -10);
        due.is("29: nothing kept", x.told(6), 0);
        due.is("29: typed anew", x.type(99), 1);
    }

    private static void promise30Faults() {
        reads("", -10);
        reads("   ", -13);
        reads("x", -10);
        reads("  x", -12);
        reads("S", -10);
        reads(";", -10);
        reads("1", -10);
        reads("c;;", -12);
        reads("c;1", -12);
        reads("c", -11);
        reads("c  ", -13);
        reads("c;  c", -15);
        reads("cc;", -11);
        reads("c1;", -11);
        reads("c 1;", -12);
        reads("d", -11);
        reads("d;", -11);
        reads("d ;", -12);
        reads("d-1;", -11);
        reads("d123;", -13);
        reads("d 001;", -14);
        reads("d1 2;", -13);
        reads("d12 3;", -14);
        reads("d12x", -13);
        reads("d1", -12);
        reads("d12", -13);
        reads("d12 ", -14);
        reads("s123", -13);
        reads("c\t;", -11);
        reads("c;\n", -12);
        reads("x" + "c;".repeat(59), -10);
        reads("c;".repeat(59) + "c:", -129);
        reads("c;".repeat(59) + " c", -130);
        reads("d 9; d", -16);
        GestureBook x = with("c;x");
        x.reads();
        due.is("30: faults do not count", x.told(0) + x.told(1) + x.told(2), 0);
        due.is("30: nothing kept", x.told(6), 0);
    }

    private static void promise30NumbersOfEachOrder() {
        String letters = "swgldc";
        int[] fewest = {5, 1, 2, 6, 1, 0};
        int[] most = {5, 3, 2, 6, 1, 0};
        for (int n = 0; n < letters.length(); n++) {
            for (int numbers = 0; numbers <= 8; numbers++) {
                String text = letters.charAt(n) + " 9".repeat(numbers) + ";";
                int possible = letters.charAt(n) == 'c' ? 1 : -1000;
                int fault = Math.min(2 * numbers + 1, 2 * most[n] + 2);
                boolean right = numbers >= fewest[n] && numbers <= most[n];
                reads(text, right ? possible : -10 - fault);
            }
        }
        for (int letter = 0; letter < 128; letter++) {
            if (letters.indexOf(letter) < 0 && letter != ' ') {
                reads("" + (char) letter, -10);
            }
        }
    }

    private static void promise30Blanks() {
        reads("c;", 1);
        reads("  c  ;  ", 1);
        reads("c;c;", 2);
        reads(" c ; c ; c ; ", 3);
        GestureBook x = with("  s  01 2  03 4   1 ;g0 5;  w 0;w00 05 ; w 0 1 02;");
        due.is("30: blanks", x.reads(), 5);
        due.is("30: sign", x.look(1, 2, 3, 4), 1);
        due.is("30: weight", x.told(7), 5);
        due.is("30: words", x.told(5), 3);
        due.is("30: no from", x.wordOf(0, 1) * 10 + x.wordOf(0, 2), -11);
        due.is("30: to alone", x.wordOf(1, 1) * 10 + x.wordOf(1, 2), -5);
        due.is("30: from and to", x.wordOf(2, 1) * 10 + x.wordOf(2, 2), 12);
    }

    private static void promise30Orders() {
        String text = "s7 6 5 4 3;s0 0 0 0 1;s1 0 0 0 2;w2 3;w1 4 5;d0;l 5 3 4 0 1 2;g3 0;g 0 5;";
        GestureBook x = with(text);
        due.is("30: orders", x.reads(), 9);
        due.is("30: the text stays", x.told(3), text.length());
        due.is("30: signs", x.told(4), 2);
        due.is("30: dropped", x.look(7, NONE, NONE, NONE), 0);
        due.is("30: sort", x.of(1, 4), 2);
        due.is("30: words renumbered", x.wordOf(0, 0) * 10 + x.wordOf(1, 0), 10);
        int[] positions = {5, 3, 4, 0, 1, 2};
        for (int spot = 0; spot < 6; spot++) {
            due.is("30: position", x.lay(spot), positions[spot]);
        }
        due.is("30: weights", x.told(7) * 10 + x.told(10), 50);
        due.is("30: the same again", x.reads(), -1000 - 1);
        tell(x, "c;d1;d0;");
        due.is("30: cleared and dropped", x.reads(), 3);
        due.is("30: nothing left", x.told(4) + x.told(5), 0);
    }

    private static void promise30ImpossibleOrders() {
        String signs = "s0 0 0 0 0;s1 0 0 0 1;w1;";
        String[] impossible = {
            "s8 0 0 0 0;", "s0 8 0 0 0;", "s0 0 8 0 0;", "s0 0 0 8 0;", "s2 0 0 0 4;", "s1 0 0 0 0;",
            "w2;", "w2 0;", "w0 6;", "w0 6 0;", "w0 0 6;", "w99 1 1;", "g4 0;", "g0 6;",
            "l0 1 2 3 4 6;", "l0 1 2 3 4 4;", "l5 1 2 3 4 5;", "l10 1 2 3 4 5;", "d2;", "d1;"};
        for (String order : impossible) {
            GestureBook x = with(signs + "c;w1;" + order);
            due.is("30: " + order, x.reads(), -1005);
            due.is("30: as at first after " + order, x.digest(), with(signs + "c;w1;" + order).digest());
            due.is("30: nothing kept after " + order, x.told(6), 0);
            x = with(order + "c;x");
            due.is("30: fault before impossible order", x.reads(), -10 - order.length() - 2);
        }
        String[] possible = {
            "s7 7 7 7 3;", "w1 5 5;", "w0 0;", "g3 5;", "g0 0;", "l5 4 3 2 1 0;", "l0 1 2 3 4 5;", "d0;", "c;"};
        for (String order : possible) {
            due.is("30: " + order, with(signs + order).reads(), 4);
        }
        reads("d0;s0 0 0 0 0;", -1000);
        reads("s0 0 0 0 0;d0;d0;", -1002);
        GestureBook full = with("s0 0 0 0 0;" + "w0;".repeat(16));
        due.is("30: sixteen words", full.reads(), 17);
        tell(full, "c;" + "w0;".repeat(17));
        due.is("30: seventeen words", full.reads(), -1017);
        GestureBook signsFull = new GestureBook();
        signsFull.draws(7, 16);
        tell(signsFull, "d0;s0 0 0 0 0;s7 7 7 7 3;");
        due.is("30: seventeen signs", signsFull.reads(), -1002);
        due.is("30: none of these count", signsFull.told(0) + signsFull.told(1) + signsFull.told(2), 0);
    }

    private static void promise30NothingChanged() {
        GestureBook x = new GestureBook();
        x.sign(1, 2, 3, 4, 1);
        x.sign(1, 2, 3, 5, 3);
        x.word(1, 2, 3);
        tell(x, "c;d0;g2 4;l5 4 3 2 1 0;s7 7 7 7 0;w1 1 1;d5;");
        long before = x.digest();
        due.is("30: not possible", x.reads(), -1006);
        due.is("30: nothing changed", x.digest(), before);
        due.is("30: kept as before", x.back(), 2);
        due.is("30: the word is undone", x.told(5), 0);
    }

    private static void promise30Undone() {
        GestureBook x = new GestureBook();
        x.sign(1, 2, 3, 4, 1);
        x.word(0, 0, 1);
        tell(x, "s7 7 7 7 3;w1;w0 1;g0 5;l1 0 2 3 4 5;c;");
        due.is("30: orders", x.reads(), 6);
        due.is("30: one state more", x.told(6), 3);
        due.is("30: back()", x.back(), 2);
        due.is("30: signs", x.told(4), 1);
        due.is("30: words", x.told(5), 1);
        due.is("30: weight", x.told(7), 1);
        due.is("30: positions", x.lay(0), 0);
        due.is("30: the text stays", x.told(3), 39);
        due.is("30: and can be read again", x.reads(), 6);
    }

    private static void promise30TwoDigits() {
        GestureBook x = new GestureBook();
        x.draws(7, 16);
        tell(x, "w 10; w15 05; w 9 00 1; d14; d 14; w13;");
        due.is("30: the sign with number 15 became 14", x.reads(), -1004);
        tell(x, "w 10; w15 05; w 9 00 1; d14; d 13; w13;");
        due.is("30: numbers of two digits", x.reads(), 6);
        due.is("30: words", x.wordOf(0, 0) * 100 + x.wordOf(1, 0), 1013);
        due.is("30: words", x.wordOf(2, 0) * 100 + x.wordOf(3, 0), 913);
    }

    private static void promise30AfterAnotherText() {
        GestureBook x = with("s1 2 3 4 1;w0 1 2;d9;");
        x.reads();
        tell(x, "w;");
        due.is("30: numbers of an earlier text do not count", x.reads(), -11);
        tell(x, "s1 2 3 4 1;w0;");
        due.is("30: nor do spots", x.reads() * 100 + x.wordOf(0, 1) * 10 + x.wordOf(0, 2), 189);
    }

    private static void promise30Long() {
        reads("c;".repeat(60), 60);
        reads(" ".repeat(118) + "c;", 1);
        reads("c;" + " ".repeat(118), 1);
        reads(" ".repeat(120), -130);
        GestureBook x = with("c;".repeat(60));
        x.reads();
        tell(x, "c;");
        due.is("30: a shorter text afterwards", x.reads(), 1);
    }
}
