import java.util.ArrayList;
import java.util.List;

/** The sentences of promises 17 to 23. */
final class SentenceEdges {
    private static final int NONE = Edges.NONE, BAD = Edges.BAD, FULL = Edges.FULL;
    private static final int THING = 1, OTHER_THING = 5;
    private final Edges e;

    SentenceEdges(Edges edges) {
        e = edges;
    }

    void tell() {
        promise17();
        promise18();
        promise19();
        promise20();
        promise21();
        promise21Meanings();
        promise22();
        promise23();
    }

    /** Sixteen words whose signs are their numbers. */
    private static GestureBook sixteenDifferentWords() {
        GestureBook x = Books.sixteen();
        for (int i = 0; i < 16; i++) {
            x.word(i, i % 7 - 1, i % 5 - 1);
        }
        return x;
    }

    private static GestureBook three() {
        return Books.said("T05 N1- D-4");
    }

    private void promise17() {
        e.under("Promise 17");
        e.says("This can be undone.", () -> {
            e.undoes(() -> Books.signs(1), 0, x -> x.word(0, NONE, NONE));
            e.undoes(Books::rich, 4, x -> x.word(7, 5, 5));
        });
        e.says("`k`: its sign", () -> {
            e.range(Books::five, 0, 4, (x, v) -> x.word(v, NONE, NONE));
            e.range(Books::sixteen, 0, 15, (x, v) -> x.word(v, 0, 5));
        });
        e.says("`f`: its spot \"from\", 0 to 5, or NONE", () -> {
            e.range(Books::rich, NONE, 5, (x, v) -> x.word(0, v, 2));
            for (int spot = NONE; spot <= 5; spot++) {
                GestureBook x = Books.five();
                x.word(4, spot, 2);
                e.is(x.wordOf(0, 1), spot);
                e.is(x.wordOf(0, 2), 2);
            }
        });
        e.says("`t`: its spot \"to\", 0 to 5, or NONE", () -> {
            e.range(Books::rich, NONE, 5, (x, v) -> x.word(0, 2, v));
            for (int spot = NONE; spot <= 5; spot++) {
                GestureBook x = Books.five();
                x.word(4, 2, spot);
                e.is(x.wordOf(0, 1), 2);
                e.is(x.wordOf(0, 2), spot);
            }
        });
        e.says("Returns the number of the word", () -> {
            GestureBook x = Books.signs(1);
            for (int i = 0; i < 16; i++) {
                e.is(x.word(0, NONE, NONE), i);
            }
            x.cuts(0);
            e.is(x.word(0, NONE, NONE), 15);
        });
        e.says("BAD if there is no such sign or a spot is out of range", () -> {
            e.refuses(Books::empty, BAD, x -> x.word(0, NONE, NONE));
            e.refuses(Books::sixteen, BAD, x -> x.word(16, NONE, NONE));
            e.refuses(Books::sixteenWords, BAD, x -> x.word(8, 0, 0));
            e.refuses(Books::sixteenWords, BAD, x -> x.word(0, 6, 0));
            e.refuses(Books::sixteenWords, BAD, x -> x.word(0, 0, -2));
        });
        e.says("FULL if there are 16 words", () -> {
            e.refuses(Books::sixteenWords, FULL, x -> x.word(0, NONE, NONE));
            e.refuses(SentenceEdges::sixteenDifferentWords, FULL, x -> x.word(15, 5, 5));
            GestureBook x = Books.sixteenWords();
            x.cuts(15);
            e.is(x.word(7, 0, 5), 15);
            e.is(x.word(7, 0, 5), FULL);
        });
    }

    private void promise18() {
        e.under("Promise 18");
        e.says("The numbers of later words decrease by 1.", () -> {
            for (int i = 0; i < 16; i++) {
                GestureBook x = sixteenDifferentWords();
                x.cuts(i);
                for (int j = 0; j < 15; j++) {
                    isWord(x, j, j < i ? j : j + 1);
                }
                e.is(x.wordOf(15, 0), BAD);
            }
        });
        e.says("This can be undone.", () -> {
            e.undoes(() -> Books.said("T"), 0, x -> x.cuts(0));
            e.undoes(SentenceEdges::sixteenDifferentWords, 15, x -> x.cuts(0));
            e.undoes(SentenceEdges::sixteenDifferentWords, 15, x -> x.cuts(15));
        });
        e.says("`i`: the word", () -> {
            e.range(SentenceEdges::three, 0, 2, (x, v) -> x.cuts(v));
            e.range(Books::sixteenWords, 0, 15, (x, v) -> x.cuts(v));
        });
        e.says("Returns the number of words left", () -> {
            GestureBook x = Books.sixteenWords();
            for (int left = 15; left >= 0; left--) {
                e.is(x.cuts(left / 2), left);
                e.is(x.all(0), left);
            }
        });
        e.says("BAD if there is no such word", () -> {
            e.refuses(Books::sixteen, BAD, x -> x.cuts(0));
            e.refuses(SentenceEdges::three, BAD, x -> x.cuts(3));
            e.refuses(Books::sixteenWords, BAD, x -> x.cuts(16));
        });
    }

    /** Whether a word of the sixteen different ones, with the given number at first, now has another one. */
    private void isWord(GestureBook x, int now, int atFirst) {
        e.is(x.wordOf(now, 0), atFirst);
        e.is(x.wordOf(now, 1), atFirst % 7 - 1);
        e.is(x.wordOf(now, 2), atFirst % 5 - 1);
    }

    private void promise19() {
        e.under("Promise 19");
        e.says("it gets the number j, and the others keep their order", () -> {
            shifted(0, 15);
            shifted(15, 0);
            shifted(0, 1);
            shifted(1, 0);
            shifted(14, 15);
            shifted(5, 9);
            shifted(9, 5);
            shifted(7, 7);
        });
        e.says("This can be undone.", () -> {
            e.undoes(SentenceEdges::sixteenDifferentWords, 15, x -> x.shifts(0, 15));
            e.undoes(SentenceEdges::sixteenDifferentWords, 15, x -> x.shifts(15, 0));
            e.undoes(Books::rich, 0, x -> x.shifts(3, 3));
        });
        e.says("`i`: the word", () -> {
            e.range(SentenceEdges::three, 0, 2, (x, v) -> x.shifts(v, 0));
            e.range(Books::sixteenWords, 0, 15, (x, v) -> x.shifts(v, 15));
        });
        e.says("`j`: its new number, 0 to the number of words - 1", () -> {
            e.range(SentenceEdges::three, 0, 2, (x, v) -> x.shifts(0, v));
            e.range(Books::sixteenWords, 0, 15, (x, v) -> x.shifts(15, v));
        });
        e.says("Returns how many other words change their numbers", () -> {
            for (int j = 0; j < 16; j++) {
                int to = j;
                e.undoes(Books::sixteenWords, Math.max(j - 6, 6 - j), x -> x.shifts(6, to));
            }
            e.undoes(() -> Books.said("T"), 0, x -> x.shifts(0, 0));
        });
        e.says("BAD if there is no such word or number", () -> {
            e.refuses(Books::sixteen, BAD, x -> x.shifts(0, 0));
            e.refuses(SentenceEdges::three, BAD, x -> x.shifts(3, 3));
            e.refuses(SentenceEdges::three, BAD, x -> x.shifts(0, 3));
            e.refuses(Books::sixteenWords, BAD, x -> x.shifts(16, 0));
            e.refuses(Books::sixteenWords, BAD, x -> x.shifts(0, 16));
        });
    }

    private void shifted(int i, int j) {
        GestureBook x = sixteenDifferentWords();
        List<Integer> order = new ArrayList<>();
        for (int n = 0; n < 16; n++) {
            order.add(n);
        }
        order.add(j, order.remove(i));
        x.shifts(i, j);
        for (int n = 0; n < 16; n++) {
            isWord(x, n, order.get(n));
        }
    }

    private void promise20() {
        e.under("Promise 20");
        e.says("This can be undone.", () -> {
            e.undoes(Books::empty, 0, x -> x.clears());
            e.undoes(Books::rich, 4, x -> x.clears());
        });
        e.says("Removes all words.", () -> {
            GestureBook x = Books.said("P05 T05 D05 ".repeat(5).trim());
            for (int what = 0; what <= 6; what++) {
                e.is(x.all(what) > 0 ? 1 : 0, 1);
            }
            x.clears();
            for (int what = 0; what <= 6; what++) {
                e.is(x.all(what), 0);
            }
            e.is(x.wordOf(0, 0), BAD);
        });
        e.says("Returns how many there were.", () -> {
            e.undoes(Books::sixteen, 0, x -> x.clears());
            e.undoes(() -> Books.said("T"), 1, x -> x.clears());
            e.undoes(Books::sixteenWords, 16, x -> x.clears());
            GestureBook x = Books.sixteenWords();
            x.clears();
            e.is(x.clears(), 0);
            e.is(x.all(0), 0);
            e.is(x.word(0, NONE, NONE), 0);
        });
    }

    private void promise21() {
        e.under("Promise 21");
        e.says("`i`: the word", () -> {
            e.range(SentenceEdges::three, 0, 2, (x, v) -> x.wordOf(v, 0));
            e.range(Books::sixteenWords, 0, 15, (x, v) -> x.wordOf(v, 6));
        });
        e.says("`what`: 0 for its sign", () -> {
            e.range(SentenceEdges::three, 0, 6, (x, v) -> x.wordOf(2, v));
            e.asks(SentenceEdges::sixteenDifferentWords, 0, x -> x.wordOf(0, 0));
            e.asks(SentenceEdges::sixteenDifferentWords, 15, x -> x.wordOf(15, 0));
        });
        e.says("1 for its spot \"from\", 2 for its spot \"to\" (NONE if it has none)", () -> {
            e.asks(SentenceEdges::three, 0, x -> x.wordOf(0, 1));
            e.asks(SentenceEdges::three, 5, x -> x.wordOf(0, 2));
            e.asks(SentenceEdges::three, NONE, x -> x.wordOf(1, 2));
            e.asks(SentenceEdges::three, NONE, x -> x.wordOf(2, 1));
            e.asks(Books::sixteenWords, NONE, x -> x.wordOf(15, 1));
            e.asks(Books::sixteenWords, NONE, x -> x.wordOf(15, 2));
        });
        e.says("3 for the number of its clause, from 0", () -> {
            int[] clauses = {0, 0, 1, 2, 2, 2, 3};
            for (int i = 0; i < clauses.length; i++) {
                int word = i;
                e.asks(() -> Books.said("T D D N P D T"), clauses[i], x -> x.wordOf(word, 3));
            }
            e.asks(Books::sixteenWords, 0, x -> x.wordOf(15, 3));
            e.asks(() -> Books.said("D ".repeat(16).trim()), 15, x -> x.wordOf(15, 3));
        });
        e.says("BAD if there is no such word or what is not 0 to 6", () -> {
            e.refuses(Books::sixteen, BAD, x -> x.wordOf(0, 0));
            e.refuses(SentenceEdges::three, BAD, x -> x.wordOf(3, 0));
            e.refuses(Books::sixteenWords, BAD, x -> x.wordOf(16, 6));
            e.refuses(Books::sixteenWords, BAD, x -> x.wordOf(-1, 7));
            e.refuses(Books::sixteenWords, BAD, x -> x.wordOf(0, 7));
        });
    }

    private void means(String sentence, int i, int vain, int first, int second) {
        e.asks(() -> Books.said(sentence), vain, x -> x.wordOf(i, 4));
        e.asks(() -> Books.said(sentence), first, x -> x.wordOf(i, 5));
        e.asks(() -> Books.said(sentence), second, x -> x.wordOf(i, 6));
    }

    private void promise21Meanings() {
        e.says("4 for whether it is vain (1 or 0)", () -> {
            means("P-0", 0, 1, NONE, NONE);
            means("N-0 P-0", 1, 0, THING, NONE);
            means("N-0 N", 1, 0, NONE, NONE);
            means("T05", 0, 0, NONE, NONE);
        });
        e.says("5 for the sign of the thing that a point means, or of the one who does a deed", () -> {
            means("n-5 p-5", 1, 0, OTHER_THING, NONE);
            means("n-5 d5", 1, 0, OTHER_THING, NONE);
        });
        e.says("6 for the sign of the one whom a deed concerns", () -> {
            means("n-5 d-5", 1, 0, NONE, OTHER_THING);
            means("n-0 N-5 D05", 2, 0, OTHER_THING, THING);
        });
        e.says("5 and 6 are NONE if nothing is meant, and for words of other sorts", () -> {
            means("N-0 P", 1, 1, NONE, NONE);
            means("N-0 P-1", 1, 1, NONE, NONE);
            means("N-0 D", 1, 0, NONE, NONE);
            means("N-0 D12", 1, 1, NONE, NONE);
            means("N-0 D10", 1, 1, NONE, THING);
            means("N-0 D01", 1, 1, THING, NONE);
            means("N-0 T00", 1, 0, NONE, NONE);
            means("N-0 n00", 1, 0, NONE, NONE);
        });
    }

    private void promise22() {
        e.under("Promise 22");
        e.says("`spot`: the spot, 0 to 5", () -> {
            e.range(Books::rich, 0, 5, (x, v) -> x.at(v, 16));
            for (int spot = 0; spot < 6; spot++) {
                GestureBook x = Books.five();
                x.word(THING, NONE, spot);
                for (int other = 0; other < 6; other++) {
                    e.is(x.at(other, 16), other == spot ? THING : NONE);
                }
            }
        });
        e.says("`n`: the number of words, from word 0 on, 0 to 16 (all words if there are fewer)", () -> {
            e.range(Books::rich, 0, 16, (x, v) -> x.at(3, v));
            e.range(Books::sixteenWords, 0, 16, (x, v) -> x.at(3, v));
            e.range(Books::empty, 0, 16, (x, v) -> x.at(3, v));
            for (int n = 0; n <= 16; n++) {
                int words = n;
                int then = n == 0 ? NONE : n < 16 ? THING : OTHER_THING;
                e.asks(() -> Books.said("N-5" + " T".repeat(14) + " n-5"), then, x -> x.at(5, words));
                e.asks(() -> Books.said("N-5 n-5"), n == 0 ? NONE : n == 1 ? THING : OTHER_THING, x -> x.at(5, words));
            }
        });
        e.says("BAD if an argument is out of range", () -> {
            e.refuses(Books::empty, BAD, x -> x.at(6, 0));
            e.refuses(Books::empty, BAD, x -> x.at(0, 17));
            e.refuses(Books::rich, BAD, x -> x.at(-1, -1));
        });
        e.says("NONE if nothing is there", () -> {
            e.asks(Books::empty, NONE, x -> x.at(0, 0));
            e.asks(Books::empty, NONE, x -> x.at(5, 16));
            e.asks(() -> Books.said("N3- P-3 D33 T33"), NONE, x -> x.at(3, 16));
            e.asks(() -> Books.said("N-3"), NONE, x -> x.at(2, 16));
            e.asks(() -> Books.said("N-3"), NONE, x -> x.at(3, 0));
        });
    }

    private void all(String sentence, int... wanted) {
        for (int what = 0; what <= 6; what++) {
            int asked = what;
            e.asks(() -> Books.said(sentence), wanted[what], x -> x.all(asked));
        }
    }

    private void promise23() {
        e.under("Promise 23");
        e.says("`what`: 0 for the number of words, 1 for the number of clauses, 2 for the number of vain words, "
            + "3 for the swaps, 4 for the moves, 5 for the length of the path, 6 for the set of the spots of all words",
            () -> {
                e.range(Books::rich, 0, 6, (x, v) -> x.all(v));
                e.range(Books::empty, 0, 6, (x, v) -> x.all(v));
                all("", 0, 0, 0, 0, 0, 0, 0);
                all("T", 1, 1, 0, 0, 0, 0, 0);
                all("D", 1, 1, 0, 0, 0, 0, 0);
                all("T5", 1, 1, 0, 0, 0, 0, 32);
                all("P-0 T05", 2, 1, 1, 1, 1, 5, 33);
                all("T ".repeat(16).trim(), 16, 1, 0, 0, 0, 0, 0);
                all("D05 ".repeat(16).trim(), 16, 16, 16, 0, 0, 155, 33);
                all("P05 ".repeat(8) + "T12 T21 ".repeat(4).trim(), 16, 1, 8, 64, 8, 15 * 5 + 4 + 8, 39);
            });
        e.says("BAD if what is not 0 to 6", () -> {
            e.refuses(Books::empty, BAD, x -> x.all(7));
            e.refuses(Books::sixteenWords, BAD, x -> x.all(-1));
        });
    }
}
