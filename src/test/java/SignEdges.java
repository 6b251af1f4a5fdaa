import java.math.BigInteger;
import java.util.Arrays;

/** The sentences of promises 1 to 8. */
final class SignEdges {
    private static final int BAD = Edges.BAD, NO = Edges.NO, FULL = Edges.FULL;
    private final Edges e;

    SignEdges(Edges edges) {
        e = edges;
    }

    void tell() {
        promise1();
        promise2();
        promise2Errors();
        promise3();
        promise3Errors();
        promise4();
        promise5();
        promise6();
        promise6Skips();
        promise7();
        promise8();
    }

    private void promise1() {
        e.under("Promise 1");
        e.says("Creates an object without signs and words, with an empty text.", () -> {
            for (int what = 0; what <= 6; what++) {
                int asked = what;
                e.asks(Books::empty, 0, x -> x.told(asked));
                e.asks(Books::empty, 0, x -> x.all(asked));
            }
            e.asks(Books::empty, 0, x -> x.look(-1, -1, -1, -1));
            e.asks(Books::empty, 0, x -> x.clear());
            e.asks(Books::empty, -10, x -> x.reads());
            e.refuses(Books::empty, BAD, x -> x.of(0, 0));
            e.refuses(Books::empty, BAD, x -> x.wordOf(0, 0));
            e.refuses(Books::empty, NO, x -> x.back());
        });
    }

    private void promise2() {
        e.under("Promise 2");
        e.says("This can be undone.", () -> {
            e.undoes(Books::empty, 0, x -> x.sign(0, 0, 0, 0, 0));
            e.undoes(() -> Books.signs(15), 15, x -> x.sign(7, 7, 7, 7, 3));
        });
        String[] arguments = {
            "`h`: the value of part 0, 0 to 7", "`p`: the value of part 1, 0 to 7", "`m`: the value of part 2, 0 to 7",
            "`f`: the value of part 3, 0 to 7", "`sort`: the sort, 0 to 3"};
        for (int place = 0; place < 5; place++) {
            int what = place;
            int greatest = what == 4 ? 3 : 7;
            e.says(arguments[what], () -> {
                e.range(Books::five, 0, greatest, (x, v) -> signWith(x, what, v));
                for (int v = 0; v <= greatest; v++) {
                    GestureBook x = Books.five();
                    e.is(x.of(signWith(x, what, v), what), v);
                }
            });
        }
        e.says("Returns the number of the sign", () -> {
            GestureBook x = Books.empty();
            for (int k = 0; k < 16; k++) {
                e.is(x.sign(k % 8, k / 8, 7, 7, 0), k);
            }
            x.drops(0);
            e.is(x.sign(0, 0, 7, 7, 0), 15);
            e.is(x.of(15, 0) * 10 + x.of(14, 0), 7);
        });
    }

    /** Values that none of the five signs has, but for one of them. */
    private static int signWith(GestureBook x, int what, int v) {
        int[] a = {7, 7, 6, 5, 2};
        a[what] = v;
        return x.sign(a[0], a[1], a[2], a[3], a[4]);
    }

    private void promise2Errors() {
        e.says("BAD if an argument is out of range", () -> {
            e.refuses(Books::empty, BAD, x -> x.sign(8, 8, 8, 8, 4));
            e.refuses(Books::rich, BAD, x -> x.sign(-1, -1, -1, -1, -1));
            e.refuses(Books::five, BAD, x -> x.sign(1, 1, 1, 1, 4));
            e.refuses(Books::sixteen, BAD, x -> x.sign(7, 7, 7, 8, 0));
        });
        e.says("NO if a sign has the same values of all parts", () -> {
            for (int k = 0; k < 16; k++) {
                int h = k % 8;
                int p = k / 8;
                e.refuses(() -> Books.signs(h + 8 * p + 1), NO, x -> x.sign(h, p, 0, 0, 3));
                e.refuses(Books::sixteen, NO, x -> x.sign(h, p, 0, 0, 1));
            }
            e.undoes(Books::five, 5, x -> x.sign(0, 1, 1, 1, 1));
            e.undoes(Books::five, 5, x -> x.sign(1, 0, 1, 1, 1));
            e.undoes(Books::five, 5, x -> x.sign(1, 1, 0, 1, 1));
            e.undoes(Books::five, 5, x -> x.sign(1, 1, 1, 0, 1));
        });
        e.says("FULL if there are 16 signs", () -> {
            e.undoes(() -> Books.signs(15), 15, x -> x.sign(7, 7, 7, 7, 3));
            e.refuses(Books::sixteen, FULL, x -> x.sign(7, 7, 7, 7, 3));
            GestureBook x = Books.sixteen();
            x.drops(3);
            e.is(x.sign(7, 7, 7, 7, 3), 15);
            e.is(x.sign(3, 0, 0, 0, 3), FULL);
        });
    }

    private void promise3() {
        e.under("Promise 3");
        e.says("This can be undone.", () -> {
            for (int part = 0; part < 4; part++) {
                int asked = part;
                e.undoes(Books::five, 1, x -> x.becomes(1, asked, 7));
            }
            e.undoes(Books::rich, 3, x -> x.becomes(3, 4, 0));
        });
        e.says("`k`: the sign", () -> {
            e.range(Books::five, 0, 4, (x, v) -> x.becomes(v, 0, 7));
            e.range(Books::sixteen, 0, 15, (x, v) -> x.becomes(v, 2, 7));
        });
        e.says("`part`: the part, 0 to 3, or 4 for the sort", () -> {
            e.range(Books::five, 0, 4, (x, v) -> x.becomes(0, v, 3));
            for (int part = 0; part <= 4; part++) {
                GestureBook x = Books.five();
                x.becomes(0, part, 3);
                for (int what = 0; what <= 4; what++) {
                    e.is(x.of(0, what), what == part ? 3 : 0);
                }
            }
        });
        e.says("`v`: the new value, 0 to 7, or the new sort, 0 to 3", () -> {
            for (int part = 0; part <= 4; part++) {
                int asked = part;
                e.range(Books::five, 0, part == 4 ? 3 : 7, (x, v) -> x.becomes(4, asked, v));
            }
        });
        e.says("Returns the previous value or sort", () -> {
            GestureBook x = Books.empty();
            x.sign(0, 7, 0, 7, 3);
            e.is(x.becomes(0, 0, 7), 0);
            e.is(x.becomes(0, 0, 6), 7);
            e.is(x.becomes(0, 1, 0), 7);
            e.is(x.becomes(0, 2, 7), 0);
            e.is(x.becomes(0, 3, 0), 7);
            e.is(x.becomes(0, 4, 0), 3);
            e.is(x.becomes(0, 4, 0), 0);
        });
    }

    private void promise3Errors() {
        e.says("BAD if there is no such sign or an argument is out of range", () -> {
            e.refuses(Books::empty, BAD, x -> x.becomes(0, 0, 0));
            e.refuses(Books::five, BAD, x -> x.becomes(5, 0, 0));
            e.refuses(Books::sixteen, BAD, x -> x.becomes(16, 4, 0));
            e.refuses(Books::rich, BAD, x -> x.becomes(0, 5, 4));
            e.refuses(Books::rich, BAD, x -> x.becomes(0, 4, 7));
        });
        e.says("NO if another sign has the same values of all parts as this one would have", () -> {
            e.refuses(Books::sixteen, NO, x -> x.becomes(0, 0, 7));
            e.refuses(Books::sixteen, NO, x -> x.becomes(15, 0, 0));
            e.refuses(Books::sixteen, NO, x -> x.becomes(7, 1, 1));
            e.undoes(Books::sixteen, 0, x -> x.becomes(0, 2, 1));
            e.undoes(Books::sixteen, 0, x -> x.becomes(0, 4, 1));
            for (int part = 0; part <= 4; part++) {
                int itself = part;
                e.undoes(Books::five, 3, x -> x.becomes(3, itself, 3));
            }
        });
    }

    private void promise4() {
        e.under("Promise 4");
        e.says("The numbers of later signs decrease by 1, also in the words.", () -> {
            dropped(0, 0, 7, 13);
            dropped(7, 1, 7, 13);
            dropped(9, 1, 8, 13);
            dropped(15, 1, 8, 14);
        });
        e.says("This can be undone.", () -> {
            e.undoes(() -> Books.signs(1), 0, x -> x.drops(0));
            e.undoes(Books::sixteen, 15, x -> x.drops(15));
            e.undoes(Books::rich, 7, x -> x.drops(4));
            e.undoes(Books::sixteenWords, 7, x -> x.drops(7));
        });
        e.says("`k`: the sign", () -> {
            e.range(Books::five, 0, 4, (x, v) -> x.drops(v));
            e.range(Books::sixteen, 0, 15, (x, v) -> x.drops(v));
        });
        e.says("Returns the number of signs left", () -> {
            GestureBook x = Books.sixteen();
            for (int left = 15; left >= 0; left--) {
                e.is(x.drops(left / 2), left);
                e.is(x.told(4), left);
            }
        });
        e.says("BAD if there is no such sign", () -> {
            e.refuses(Books::empty, BAD, x -> x.drops(0));
            e.refuses(Books::sixteenWords, BAD, x -> x.drops(8));
            e.refuses(Books::sixteen, BAD, x -> x.drops(16));
        });
        e.says("NO if a word has it", () -> {
            e.refuses(Books::sixteenWords, NO, x -> x.drops(0));
            e.refuses(() -> Books.said("T N d"), NO, x -> x.drops(7));
            e.refuses(() -> Books.said("T N d"), NO, x -> x.drops(0));
            e.undoes(() -> Books.said("T N d"), 7, x -> x.drops(6));
            GestureBook x = Books.said("T d");
            x.cuts(0);
            e.is(x.drops(0), 7);
            x.clears();
            e.is(x.drops(6), 6);
        });
    }

    /** Words have the signs 1, 8 and 14, and then another sign goes. */
    private void dropped(int k, int first, int second, int third) {
        GestureBook x = Books.sixteen();
        x.word(1, 2, 3);
        x.word(8, 4, 5);
        x.word(14, -1, -1);
        x.drops(k);
        e.is(x.wordOf(0, 0), first);
        e.is(x.wordOf(1, 0), second);
        e.is(x.wordOf(2, 0), third);
        for (int j = 0; j < 15; j++) {
            int had = j < k ? j : j + 1;
            e.is(x.of(j, 0) + 8 * x.of(j, 1), had);
            e.is(x.of(j, 4), had % 4);
        }
        e.is(x.of(15, 0), BAD);
    }

    private void promise5() {
        e.under("Promise 5");
        e.says("This can be undone.", () -> {
            for (int part = 0; part < 4; part++) {
                int asked = part;
                e.undoes(Books::five, 1, x -> x.weight(asked, 5));
                e.undoes(Books::five, 1, x -> x.weight(asked, 1));
            }
        });
        e.says("`part`: the part, 0 to 3", () -> {
            e.range(Books::rich, 0, 3, (x, v) -> x.weight(v, 2));
            for (int part = 0; part < 4; part++) {
                GestureBook x = Books.empty();
                x.weight(part, 5);
                for (int other = 0; other < 4; other++) {
                    e.is(x.told(7 + other), other == part ? 5 : 1);
                }
            }
        });
        e.says("`v`: the weight, 0 to 5", () -> {
            for (int part = 0; part < 4; part++) {
                int asked = part;
                e.range(Books::rich, 0, 5, (x, v) -> x.weight(asked, v));
            }
        });
        e.says("Returns the previous weight", () -> {
            GestureBook x = Books.empty();
            e.is(x.weight(3, 0), 1);
            e.is(x.weight(3, 5), 0);
            e.is(x.weight(3, 5), 5);
            e.is(x.weight(3, 6), BAD);
            e.is(x.weight(3, 1), 5);
        });
        e.says("BAD if an argument is out of range", () -> {
            e.refuses(Books::empty, BAD, x -> x.weight(4, 6));
            e.refuses(Books::rich, BAD, x -> x.weight(-1, -1));
        });
    }

    private void promise6() {
        e.under("Promise 6");
        e.says("There is a number x, which is the start number at first. To draw a number below b, x becomes "
            + "(x * 1103515245 + 12345) modulo 2147483648, computed without overflow, and the number is (x / 65536) "
            + "modulo b, with integer division.", () -> {
                for (int seed : new int[] {0, 1, 2, 7, 499999, 999998, 999999}) {
                    GestureBook x = Books.empty();
                    int[][] drawn = drawn(seed, 16);
                    e.is(x.draws(seed, 16), 16);
                    for (int k = 0; k < 16; k++) {
                        isSign(x, k, drawn[k]);
                    }
                }
            });
        e.says("This can be undone (as one call).", () -> {
            e.undoes(Books::empty, 16, x -> x.draws(7, 16));
            e.undoes(Books::rich, 8, x -> x.draws(7, 16));
            e.undoes(Books::five, 1, x -> x.draws(7, 1));
        });
        e.says("`seed`: the start number, 0 to 999999", () -> {
            e.range(Books::empty, 0, 999999, (x, v) -> x.draws(v, 1));
        });
        e.says("`n`: the number of signs that are tried, 1 to 16", () -> {
            e.range(Books::five, 1, 16, (x, v) -> x.draws(7, v));
            for (int n = 1; n <= 16; n++) {
                e.is(Books.empty().draws(7, n), n);
            }
        });
        e.says("BAD if an argument is out of range", () -> {
            e.refuses(Books::sixteen, BAD, x -> x.draws(7, 17));
            e.refuses(Books::sixteen, BAD, x -> x.draws(1000000, 1));
            e.refuses(Books::empty, BAD, x -> x.draws(-1, 0));
        });
    }

    private void isSign(GestureBook x, int k, int[] traits) {
        for (int what = 0; what <= 4; what++) {
            e.is(x.of(k, what), traits[what]);
        }
    }

    /** The signs that are drawn, added or not, in numbers of any size. */
    private static int[][] drawn(int seed, int n) {
        int[][] signs = new int[n][5];
        BigInteger x = BigInteger.valueOf(seed);
        for (int[] sign : signs) {
            for (int what = 0; what < 5; what++) {
                x = x.multiply(BigInteger.valueOf(1103515245)).add(BigInteger.valueOf(12345)).mod(BigInteger.TWO.pow(31));
                sign[what] = x.divide(BigInteger.valueOf(65536)).intValueExact() % (what == 4 ? 4 : 8);
            }
        }
        return signs;
    }

    private void promise6Skips() {
        e.says("For each sign, the values of the parts 0 to 3 below 8 and then the sort below 4 are drawn", () -> {
            int[] seen = new int[5];
            for (int seed = 0; seed < 200; seed++) {
                GestureBook x = Books.empty();
                x.draws(seed * 5000, 1);
                isSign(x, 0, drawn(seed * 5000, 1)[0]);
                for (int what = 0; what <= 4; what++) {
                    seen[what] |= 1 << x.of(0, what);
                }
            }
            for (int what = 0; what <= 4; what++) {
                e.is(seen[what], what == 4 ? 15 : 255);
            }
        });
        e.says("the sign is added if no sign has the same values of all parts and there are fewer than 16 signs, "
            + "and is skipped otherwise", () -> {
                int[][] drawn = drawn(5, 3);
                GestureBook x = Books.empty();
                x.sign(drawn[1][0], drawn[1][1], drawn[1][2], drawn[1][3], 3 - drawn[1][4]);
                e.is(x.draws(5, 3), 2);
                e.is(x.of(0, 4), 3 - drawn[1][4]);
                isSign(x, 1, drawn[0]);
                isSign(x, 2, drawn[2]);
                x = Books.signs(15);
                e.is(x.draws(5, 3), 1);
                isSign(x, 15, drawn[0]);
                e.is(x.told(1) + x.told(2), 0);
            });
        e.says("Returns how many were added", () -> {
            e.undoes(Books::sixteen, 0, x -> x.draws(5, 16));
            e.undoes(() -> Books.signs(15), 1, x -> x.draws(5, 16));
            GestureBook x = Books.empty();
            x.draws(5, 16);
            x.drops(0);
            e.is(x.draws(5, 16), 1);
            e.is(Books.empty().draws(seedThatRepeats(), 16), 15);
        });
    }

    /** A start number of whose first sixteen signs two have the same values, another sort not being another sign. */
    private static int seedThatRepeats() {
        for (int seed = 0; seed < 10000; seed++) {
            long different = Arrays.stream(drawn(seed, 16))
                .map(sign -> sign[0] + 8 * (sign[1] + 8 * (sign[2] + 8 * sign[3]))).distinct().count();
            if (different == 15) {
                return seed;
            }
        }
        return -1;
    }

    private void promise7() {
        e.under("Promise 7");
        e.says("`k`: the sign", () -> {
            e.range(Books::five, 0, 4, (x, v) -> x.of(v, 0));
            e.range(Books::sixteen, 0, 15, (x, v) -> x.of(v, 5));
        });
        e.says("`what`: 0 to 3 for the value of that part, 4 for the sort, 5 for the number of words that have it", () -> {
            e.range(Books::rich, 0, 5, (x, v) -> x.of(7, v));
            GestureBook x = Books.empty();
            x.sign(7, 0, 5, 6, 3);
            isSign(x, 0, new int[] {7, 0, 5, 6, 3});
            e.asks(Books::sixteenWords, 16, y -> y.of(0, 5));
            e.asks(Books::sixteenWords, 0, y -> y.of(7, 5));
            e.asks(() -> Books.said("d T d"), 2, y -> y.of(7, 5));
        });
        e.says("BAD if there is no such sign or what is not 0 to 5", () -> {
            e.refuses(Books::empty, BAD, x -> x.of(0, 0));
            e.refuses(Books::empty, BAD, x -> x.of(-1, 6));
            e.refuses(Books::sixteen, BAD, x -> x.of(16, 5));
            e.refuses(Books::rich, BAD, x -> x.of(7, 6));
        });
    }

    private void promise8() {
        e.under("Promise 8");
        e.says("`j`: a sign", () -> {
            e.range(Books::five, 0, 4, (x, v) -> x.apart(v, 0, 4));
            e.range(Books::sixteen, 0, 15, (x, v) -> x.apart(v, 15, 0));
        });
        e.says("`k`: a sign, perhaps the same", () -> {
            e.range(Books::five, 0, 4, (x, v) -> x.apart(0, v, 4));
            e.range(Books::sixteen, 0, 15, (x, v) -> x.apart(15, v, 0));
            for (int part = 0; part <= 4; part++) {
                int asked = part;
                e.asks(Books::sixteen, 0, x -> x.apart(15, 15, asked));
            }
        });
        e.says("`part`: 0 to 3 for the distance of their values of that part, without weight; "
            + "4 for the distance of the signs", () -> {
                e.range(Books::rich, 0, 4, (x, v) -> x.apart(0, 7, v));
                int[] gaps = {3, 4, 4, 3};
                for (int part = 0; part < 4; part++) {
                    int asked = part;
                    e.asks(() -> Books.extremes(0), gaps[part], x -> x.apart(0, 1, asked));
                    e.asks(() -> Books.extremes(5), gaps[part], x -> x.apart(1, 0, asked));
                }
                e.asks(() -> Books.extremes(0), 0, x -> x.apart(0, 1, 4));
                e.asks(() -> Books.extremes(1), 14, x -> x.apart(0, 1, 4));
                e.asks(() -> Books.extremes(5), 70, x -> x.apart(1, 0, 4));
            });
        e.says("BAD if there is no such sign or part is not 0 to 4", () -> {
            e.refuses(Books::empty, BAD, x -> x.apart(0, 0, 0));
            e.refuses(Books::sixteen, BAD, x -> x.apart(16, 16, 4));
            e.refuses(Books::five, BAD, x -> x.apart(4, 5, 5));
        });
    }
}
