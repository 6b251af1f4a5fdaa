import java.math.BigInteger;

/** The sentences of promises 31 to 33. */
final class StateEdges {
    private static final int NONE = Edges.NONE, BAD = Edges.BAD, NO = Edges.NO;
    private final Edges e;

    StateEdges(Edges edges) {
        e = edges;
    }

    void tell() {
        promise31();
        promise32();
        promise33();
    }

    private void promise31() {
        e.under("Promise 31");
        e.says("Restores the state that was kept last.", () -> {
            GestureBook x = Books.empty();
            for (int n = 0; n < 8; n++) {
                x.sign(n, 0, 0, 0, 0);
            }
            for (int left = 4; left >= 0; left--) {
                x.back();
                e.is(x.told(4), left + 3);
            }
            e.is(x.sign(7, 0, 0, 0, 0), 3);
            x.back();
            e.is(x.look(NONE, NONE, NONE, NONE), 7);
        });
        e.says("Returns how many more are kept", () -> {
            GestureBook x = Books.sixteen();
            for (int left = 4; left >= 0; left--) {
                e.is(x.back(), left);
                e.is(x.told(6), left);
            }
            x.weight(0, 0);
            e.is(x.back(), 0);
        });
        e.says("NO if there is none", () -> {
            e.refuses(Books::empty, NO, x -> x.back());
            e.refuses(StateEdges::allUndone, NO, x -> x.back());
        });
    }

    private static GestureBook allUndone() {
        GestureBook x = Books.rich();
        for (int n = 0; n < 5; n++) {
            x.back();
        }
        return x;
    }

    private void promise32() {
        e.under("Promise 32");
        e.says("`what`: 0, 1, 2 for how many calls have returned BAD, NO, FULL; 3 for the length of the text, 4 for the "
            + "number of signs, 5 for the number of words, 6 for the number of states that are kept, 7 to 10 for the "
            + "weights of the parts 0 to 3", () -> {
                e.range(Books::rich, 0, 10, (x, v) -> x.told(v));
                tells(Books.empty(), 0, 0, 0, 0, 0, 0, 0, 1, 1, 1, 1);
                GestureBook x = Books.typed(Books.sixteen(), "c;".repeat(60));
                for (int i = 0; i < 16; i++) {
                    x.word(0, NONE, NONE);
                }
                for (int part = 0; part < 4; part++) {
                    x.weight(part, 2 + part);
                }
                tells(x, 0, 0, 0, 120, 16, 16, 5, 2, 3, 4, 5);
                x.word(16, NONE, NONE);
                x.drops(0);
                x.drops(0);
                x.word(0, NONE, NONE);
                x.sign(7, 7, 7, 7, 0);
                x.type('c');
                tells(x, 1, 2, 3, 120, 16, 16, 5, 2, 3, 4, 5);
            });
        e.says("BAD if what is not 0 to 10 (which counts, too)", () -> {
            e.refuses(Books::empty, BAD, x -> x.told(11));
            e.refuses(Books::rich, BAD, x -> x.told(NONE));
            GestureBook x = Books.empty();
            for (int n = 1; n <= 100; n++) {
                x.told(10 + n);
                e.is(x.told(0), n);
            }
        });
    }

    private void tells(GestureBook x, int... wanted) {
        for (int what = 0; what <= 10; what++) {
            e.is(x.told(what), wanted[what]);
        }
    }

    private void promise33() {
        e.under("Promise 33");
        e.says("for each of the following numbers v, in this order, h becomes 31 * h + v, in long arithmetic with overflow",
            () -> {
                for (Edges.Start start : new Edges.Start[] {
                    Books::empty, Books::five, Books::sixteen, Books::rich, Books::sixteenWords, Books::fullText,
                    () -> Books.extremes(5), () -> Books.signs(1), () -> Books.said("N05 n50 D05 P-3 T D50 T-5 P")}) {
                    e.asks(start, digest(start.book()), x -> x.digest());
                }
            });
        e.says("told(0) to told(10); for each sign k of(k, 0) to of(k, 5); for each word i wordOf(i, 0) to wordOf(i, 6)",
            () -> {
                GestureBook x = Books.sixteen();
                for (int i = 0; i < 16; i++) {
                    x.word(15 - i, i % 7 - 1, i % 6);
                }
                e.is(x.digest(), digest(x));
                x.clears();
                x.told(11);
                e.is(x.digest(), digest(x));
            });
        e.says("all(0) to all(6); the positions of the spots 0 to 5; best(NONE); twins(NONE); enough(NONE).", () -> {
            GestureBook x = Books.empty();
            e.is(x.digest(), numbers(0, 0, 0, 0, 0, 0, 0, 1, 1, 1, 1, 0, 0, 0, 0, 0, 0, 0, 0, 1, 2, 3, 4, 5, 0, 0, 0));
            x.lays(0, 5);
            e.is(x.digest(), numbers(0, 0, 0, 0, 0, 0, 1, 1, 1, 1, 1, 0, 0, 0, 0, 0, 0, 0, 5, 1, 2, 3, 4, 0, 0, 0, 0));
            x = Books.empty();
            x.sign(0, 0, 0, 0, 0);
            x.sign(0, 7, 0, 0, 1);
            x.word(0, 4, 2);
            e.is(x.digest(), numbers(0, 0, 0, 0, 2, 1, 3, 1, 1, 1, 1, 0, 0, 0, 0, 0, 1, 0, 7, 0, 0, 1, 0,
                0, 4, 2, 0, 0, NONE, NONE, 1, 1, 0, 0, 0, 2, 20, 0, 1, 2, 3, 4, 5, 1, 1, 2));
        });
    }

    private static long numbers(int... numbers) {
        BigInteger h = BigInteger.valueOf(2287);
        for (int v : numbers) {
            h = next(h, v);
        }
        return h.longValue();
    }

    /** The digest, from the other calls, in numbers of any size. */
    private static long digest(GestureBook x) {
        BigInteger h = BigInteger.valueOf(2287);
        for (int what = 0; what <= 10; what++) {
            h = next(h, x.told(what));
        }
        for (int k = 0; k < x.told(4); k++) {
            for (int what = 0; what <= 5; what++) {
                h = next(h, x.of(k, what));
            }
        }
        for (int i = 0; i < x.told(5); i++) {
            for (int what = 0; what <= 6; what++) {
                h = next(h, x.wordOf(i, what));
            }
        }
        for (int what = 0; what <= 6; what++) {
            h = next(h, x.all(what));
        }
        for (int spot = 0; spot < 6; spot++) {
            h = next(h, x.lay(spot));
        }
        h = next(next(next(h, x.best(NONE)), x.twins(NONE)), x.enough(NONE));
        return h.longValue();
    }

    private static BigInteger next(BigInteger h, int v) {
        return h.multiply(BigInteger.valueOf(31)).add(BigInteger.valueOf(v));
    }
}
