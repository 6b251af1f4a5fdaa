/** The sentences of promises 28 to 30, and those of the description that speak of texts. */
final class TextEdges {
    private static final int NONE = Edges.NONE, BAD = Edges.BAD, FULL = Edges.FULL;
    private final Edges e;

    TextEdges(Edges edges) {
        e = edges;
    }

    void tell() {
        text();
        signsAndWords();
        otherOrders();
        numbersAndBlanks();
        faults();
        promise28();
        promise29();
        promise30();
        promise30Results();
    }

    private static GestureBook rich(String text) {
        return Books.typed(Books.rich(), text);
    }

    /** Reads a text in a new object; if the answer is below 0, nothing has changed and no error is counted. */
    private void reads(String text, int want) {
        readsIn(() -> Books.typed(text), want);
    }

    private void readsIn(Edges.Start start, int want) {
        if (want < 0) {
            e.asks(start, want, x -> x.reads());
        } else {
            e.undoes(start, want, x -> x.reads());
        }
        GestureBook x = start.book();
        x.reads();
        e.is(x.told(0) + x.told(1) + x.told(2), 0);
    }

    private void text() {
        e.under("Description");
        e.says("There is a text of at most 120 bytes, which consists of one or more orders.", () -> {
            reads("", -10);
            reads("c;", 1);
            reads("c;".repeat(60), 60);
            reads("c;".repeat(59) + "c", -10 - 119);
            reads("c;".repeat(59) + " c", -10 - 120);
            e.refuses(Books::fullText, FULL, x -> x.type(' '));
        });
    }

    private void signsAndWords() {
        e.says("s h p m f k; as sign(h, p, m, f, k)", () -> {
            GestureBook x = Books.typed("s7 0 6 1 3;s0 7 1 6 0;");
            e.is(x.reads(), 2);
            e.is(x.look(7, 0, 6, 1) * 10 + x.of(0, 4), 13);
            e.is(x.look(0, 7, 1, 6) * 10 + x.of(1, 4), 20);
            e.is(x.reads(), -1000);
            for (String order : new String[] {"s8 7 7 7 3;", "s7 8 7 7 3;", "s7 7 8 7 3;", "s7 7 7 8 3;", "s7 7 7 7 4;"}) {
                reads(order, -1000);
            }
            readsIn(() -> Books.typed(Books.sixteen(), "s7 7 7 7 3;"), -1000);
            readsIn(() -> Books.typed(Books.signs(15), "s7 7 7 7 3;s7 7 7 6 3;"), -1001);
        });
        e.says("w n; as word(n, NONE, NONE)", () -> {
            word("w7;", 7, NONE, NONE);
            readsIn(() -> rich("w8;"), -1000);
            readsIn(() -> Books.typed(Books.sixteenWords(), "w0;"), -1000);
            reads("w0;", -1000);
        });
        e.says("w n t; as word(n, NONE, t)", () -> {
            word("w0 0;", 0, NONE, 0);
            word("w7 5;", 7, NONE, 5);
            readsIn(() -> rich("w8 5;"), -1000);
            readsIn(() -> rich("w7 6;"), -1000);
            readsIn(() -> Books.typed(Books.sixteenWords(), "w0 0;"), -1000);
        });
        e.says("w n f t; as word(n, f, t)", () -> {
            word("w0 0 5;", 0, 0, 5);
            word("w7 5 0;", 7, 5, 0);
            readsIn(() -> rich("w8 0 0;"), -1000);
            readsIn(() -> rich("w7 6 0;"), -1000);
            readsIn(() -> rich("w7 0 6;"), -1000);
            readsIn(() -> Books.typed(Books.sixteenWords(), "w0 0 0;"), -1000);
        });
    }

    private void word(String order, int sign, int from, int to) {
        GestureBook x = rich(order);
        e.is(x.reads(), 1);
        e.is(x.wordOf(4, 0), sign);
        e.is(x.wordOf(4, 1), from);
        e.is(x.wordOf(4, 2), to);
    }

    private void otherOrders() {
        e.says("g p v; as weight(p, v)", () -> {
            GestureBook x = Books.typed("g0 0;g3 5;");
            e.is(x.reads(), 2);
            e.is(x.told(7) * 1000 + x.told(8) * 100 + x.told(9) * 10 + x.told(10), 115);
            reads("g4 0;", -1000);
            reads("g0 6;", -1000);
        });
        e.says("l a b c d e f; sets the positions of the spots 0 to 5; they must be 0 to 5 and all different", () -> {
            GestureBook x = Books.typed("l5 3 4 0 1 2;");
            e.is(x.reads(), 1);
            int[] positions = {5, 3, 4, 0, 1, 2};
            for (int spot = 0; spot < 6; spot++) {
                e.is(x.lay(spot), positions[spot]);
            }
            reads("l0 1 2 3 4 5;", 1);
            reads("l6 1 2 3 4 5;", -1000);
            reads("l0 1 2 3 4 6;", -1000);
            reads("l0 1 2 3 4 4;", -1000);
            reads("l5 1 2 3 4 5;", -1000);
            reads("l0 0 0 0 0 0;", -1000);
            reads("l32 1 2 3 4 5;", -1000);
        });
        e.says("d k; as drops(k)", () -> {
            GestureBook x = rich("d7;d0;");
            e.is(x.reads(), -1001);
            x = rich("d7;d4;");
            e.is(x.reads(), 2);
            e.is(x.told(4), 6);
            readsIn(() -> rich("d8;"), -1000);
            readsIn(() -> rich("d3;"), -1000);
            reads("d0;", -1000);
        });
        e.says("c; as clears()", () -> {
            GestureBook x = Books.typed(Books.sixteenWords(), "c;");
            e.is(x.reads(), 1);
            e.is(x.told(5), 0);
            e.is(x.reads(), 1);
        });
    }

    private void numbersAndBlanks() {
        e.says("Numbers have one or two digits (01 is allowed).", () -> {
            reads("s01 2 03 4 01;", 1);
            reads("g00 05;", 1);
            reads("g000 5;", -10 - 3);
            reads("g0 005;", -10 - 5);
            reads("g;", -10 - 1);
            GestureBook x = Books.typed(Books.sixteen(), "w10;w09;w15;");
            e.is(x.reads(), 3);
            e.is(x.wordOf(0, 0) * 10000 + x.wordOf(1, 0) * 100 + x.wordOf(2, 0), 100915);
            readsIn(() -> Books.typed(Books.sixteen(), "w16;"), -1000);
            readsIn(() -> Books.typed(Books.sixteen(), "w99 99 99;"), -1000);
        });
        e.says("Blanks (byte 32) can stand anywhere but within a number, and are needed only between two numbers.", () -> {
            reads("   g   0   5   ;   c   ;   ", 2);
            reads(" ".repeat(118) + "c;", 1);
            reads("c;" + " ".repeat(118), 1);
            reads("c" + " ".repeat(118) + ";", 1);
            reads("g0 5;c;", 2);
            readsIn(() -> Books.typed(Books.sixteen(), "w1 5;"), 1);
            reads("g0 0 5;", -10 - 5);
            reads("g05;", -10 - 3);
            for (int c = 0; c < 128; c++) {
                if (c != ' ' && c != ';') {
                    reads("c" + (char) c + ";", -10 - 1);
                }
            }
        });
    }

    private void faults() {
        e.says("The fault of a text is the position, from 0, of the first byte that cannot stand there", () -> {
            reads("x", -10);
            reads(";", -10);
            reads("0", -10);
            reads("c;c;x;y;", -10 - 4);
            reads("c0;", -10 - 1);
            reads("d0 0;", -10 - 3);
            reads("d;", -10 - 1);
            reads("g0;", -10 - 2);
            reads("g0 0 0;", -10 - 5);
            reads("w;", -10 - 1);
            reads("w0 0 0 0;", -10 - 7);
            reads("s0 0 0 0;", -10 - 8);
            reads("s0 0 0 0 0 0;", -10 - 11);
            reads("l0 1 2 3 4;", -10 - 10);
            reads("l0 1 2 3 4 5 6;", -10 - 13);
            reads("c;".repeat(59) + "c:", -10 - 119);
            GestureBook x = Books.typed("s1 2 3 4 1;w0 1 2;d9;");
            e.is(x.reads(), -1002);
            e.is(Books.typed(x, "s;w;d;").reads(), -10 - 1);
            e.is(Books.typed(x, "s1 2 3 4 1;w;").reads(), -10 - 12);
        });
        e.says("(also of a third digit)", () -> {
            reads("d000;", -10 - 3);
            reads("d123", -10 - 3);
            reads("s 1 2 345 6 1;", -10 - 8);
            reads("w0 0 005;", -10 - 7);
            reads("d100", -10 - 3);
        });
        e.says("or the length of the text if it ends too early", () -> {
            reads("c", -10 - 1);
            reads("c   ", -10 - 4);
            reads("c; d", -10 - 4);
            reads("d1", -10 - 2);
            reads("d12", -10 - 3);
            reads("s0 0 0 0 0", -10 - 10);
            reads("s0 0 0 0 ", -10 - 9);
            reads("w0 0", -10 - 4);
        });
        e.says("(also if it is empty or has only blanks)", () -> {
            reads("", -10);
            reads(" ", -10 - 1);
            reads(" ".repeat(119), -10 - 119);
            reads(" ".repeat(120), -10 - 120);
        });
    }

    private void promise28() {
        e.under("Promise 28");
        e.says("`c`: the byte, 0 to 127", () -> e.range(Books::rich, 0, 127, (x, v) -> x.type(v)));
        e.says("Returns the length of the text afterwards", () -> {
            GestureBook x = Books.empty();
            for (int length = 1; length <= 120; length++) {
                e.is(x.type(length), length);
            }
            e.is(x.told(6), 0);
        });
        e.says("BAD if c is out of range", () -> {
            e.refuses(Books::empty, BAD, x -> x.type(NONE));
            e.refuses(Books::empty, BAD, x -> x.type(128));
            e.refuses(Books::fullText, BAD, x -> x.type(128));
        });
        e.says("FULL if the text has 120 bytes", () -> {
            e.refuses(Books::fullText, FULL, x -> x.type('c'));
            e.refuses(() -> Books.typed(" ".repeat(120)), FULL, x -> x.type(0));
            GestureBook x = Books.typed("c;".repeat(59) + "c");
            e.is(x.type(';'), 120);
            e.is(x.type(';'), FULL);
            e.is(x.reads(), 60);
        });
    }

    private void promise29() {
        e.under("Promise 29");
        e.says("Empties the text.", () -> {
            GestureBook x = Books.fullText();
            x.clear();
            e.is(x.told(3), 0);
            e.is(x.reads(), -10);
            e.is(x.told(6), 0);
            e.is(x.type('c'), 1);
            e.is(x.reads(), -11);
        });
        e.says("Returns the length that it had.", () -> {
            e.asks(Books::empty, 0, x -> x.clear());
            e.is(Books.typed("c").clear(), 1);
            e.is(Books.fullText().clear(), 120);
            GestureBook x = Books.fullText();
            x.clear();
            e.is(x.clear(), 0);
        });
    }

    private void promise30() {
        e.under("Promise 30");
        e.says("The text stays.", () -> {
            GestureBook x = Books.fullText();
            e.is(x.reads(), 60);
            e.is(x.told(3), 120);
            e.is(x.reads(), 60);
            x = Books.typed("d0;");
            e.is(x.reads(), -1000);
            e.is(x.told(3), 3);
            x.type('x');
            e.is(x.reads(), -10 - 3);
            e.is(x.told(3), 4);
        });
        e.says("If an order is not possible (because its method would return an error, or the positions of l are not "
            + "as required), nothing is changed by any of them.", () -> {
                String all = "s7 7 7 7 0;g3 0;c;d0;w7 1 1;l5 4 3 2 1 0;";
                readsIn(() -> rich(all), 6);
                for (String order : new String[] {"s7 7 7 7 1;", "w8;", "d7;", "g0 6;", "l0 1 2 3 4 4;"}) {
                    readsIn(() -> rich(all + order), -1006);
                    readsIn(() -> rich(all + order + "c;"), -1006);
                }
                readsIn(() -> Books.typed(Books.sixteenWords(), "g0 5;w0;"), -1001);
                readsIn(() -> Books.typed(Books.sixteen(), "g0 5;s7 7 7 7 3;"), -1001);
            });
        e.says("If all are possible, this can be undone (as one call).", () -> {
            readsIn(() -> rich("c;"), 1);
            readsIn(() -> rich("s7 7 7 7 0;g3 0;c;d0;w7 1 1;l5 4 3 2 1 0;s0 0 0 0 0;"), 7);
            reads("c;".repeat(60), 60);
            GestureBook x = Books.fullText();
            x.reads();
            e.is(x.told(6), 1);
        });
    }

    private void promise30Results() {
        e.says("Returns the number of orders", () -> {
            for (int orders = 1; orders <= 60; orders++) {
                e.is(Books.typed("c;".repeat(orders)).reads(), orders);
            }
        });
        e.says("-10 minus the fault if the text has one", () -> {
            reads("", -10);
            reads("d9;d", -10 - 4);
            reads("d9;" + " ".repeat(115) + "d9", -10 - 120);
        });
        e.says("otherwise -1000 minus the number, from 0, of the first order that is not possible", () -> {
            reads("d9;", -1000);
            reads("c;d9;d9;", -1001);
            reads("c;".repeat(58) + "d9;", -1058);
            reads("w0;s0 0 0 0 0;", -1000);
            reads("s0 0 0 0 0;w0;d0;", -1002);
        });
        e.says("These two results do not count as errors.", () -> {
            for (String text : new String[] {"", "d", "d9;", "l0 0 0 0 0 0;", "s0 0 0 0 0;s0 0 0 0 0;"}) {
                GestureBook x = Books.typed(text);
                e.is(x.reads() < 0 ? 1 : 0, 1);
                e.is(x.told(0), 0);
                e.is(x.told(1), 0);
                e.is(x.told(2), 0);
            }
        });
    }
}
