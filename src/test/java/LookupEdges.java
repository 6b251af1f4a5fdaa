/** The sentences of promises 9 to 16. */
final class LookupEdges {
    private static final int NONE = Edges.NONE, BAD = Edges.BAD;
    private final Edges e;

    LookupEdges(Edges edges) {
        e = edges;
    }

    void tell() {
        promise9();
        promise10();
        promise11();
        promise12();
        promise13();
        promise14();
        promise15();
        promise16();
    }

    private static GestureBook oneSign() {
        return Books.signs(1);
    }

    private void promise9() {
        e.under("Promise 9");
        String[] arguments = {
            "`h`: the value of part 0, 0 to 7, or NONE for any", "`p`: the value of part 1, 0 to 7, or NONE for any",
            "`m`: the value of part 2, 0 to 7, or NONE for any", "`f`: the value of part 3, 0 to 7, or NONE for any"};
        for (int part = 0; part < 4; part++) {
            int asked = part;
            e.says(arguments[part], () -> {
                e.range(Books::rich, NONE, 7, (x, v) -> lookAt(x, asked, v));
                for (int v = 0; v < 8; v++) {
                    e.is(lookAt(Books.five(), asked, v), v < 5 ? 1 << v : 0);
                }
                e.asks(Books::five, 31, x -> lookAt(x, asked, NONE));
            });
        }
        e.says("Returns the set of these signs", () -> {
            e.asks(Books::empty, 0, x -> x.look(NONE, NONE, NONE, NONE));
            e.asks(Books::sixteen, 65535, x -> x.look(NONE, NONE, NONE, NONE));
            e.asks(Books::sixteen, 32768, x -> x.look(7, 1, 0, 0));
            e.asks(Books::sixteen, 32768 + 128, x -> x.look(7, NONE, NONE, NONE));
            e.asks(Books::sixteen, 65280, x -> x.look(NONE, 1, NONE, NONE));
            e.asks(Books::sixteen, 0, x -> x.look(7, 1, 0, 1));
        });
        e.says("BAD if an argument is out of range", () -> {
            e.refuses(Books::empty, BAD, x -> x.look(8, NONE, NONE, NONE));
            e.refuses(Books::sixteen, BAD, x -> x.look(NONE, NONE, NONE, -2));
            e.refuses(Books::rich, BAD, x -> x.look(8, 8, 8, 8));
        });
    }

    private static int lookAt(GestureBook x, int part, int v) {
        int[] a = {NONE, NONE, NONE, NONE};
        a[part] = v;
        return x.look(a[0], a[1], a[2], a[3]);
    }

    private void promise10() {
        e.under("Promise 10");
        e.says("Finds the signs whose distance from a sign is at most d, itself included.", () -> {
            e.asks(LookupEdges::oneSign, 1, x -> x.near(0, 0));
            e.asks(() -> Books.extremes(1), 1, x -> x.near(0, 13));
            e.asks(() -> Books.extremes(1), 3, x -> x.near(0, 14));
            e.asks(() -> Books.extremes(5), 2, x -> x.near(1, 69));
            e.asks(() -> Books.extremes(5), 3, x -> x.near(1, 70));
            e.asks(() -> Books.extremes(0), 3, x -> x.near(1, 0));
            e.asks(Books::sixteen, 32768, x -> x.near(15, 0));
            e.asks(Books::sixteen, 65535, x -> x.near(15, 99));
        });
        e.says("`k`: the sign", () -> {
            e.range(Books::five, 0, 4, (x, v) -> x.near(v, 3));
            e.range(Books::sixteen, 0, 15, (x, v) -> x.near(v, 0));
        });
        e.says("`d`: the greatest distance, 0 to 99", () -> e.range(Books::rich, 0, 99, (x, v) -> x.near(7, v)));
        e.says("BAD if there is no such sign or d is out of range", () -> {
            e.refuses(Books::empty, BAD, x -> x.near(0, 0));
            e.refuses(Books::sixteen, BAD, x -> x.near(16, 99));
            e.refuses(Books::sixteen, BAD, x -> x.near(15, 100));
            e.refuses(Books::five, BAD, x -> x.near(-1, -1));
        });
    }

    private void promise11() {
        e.under("Promise 11");
        e.says("Finds the sign with the least distance from given values of all parts.", () -> {
            for (int k = 0; k < 16; k++) {
                int sign = k;
                e.asks(Books::sixteen, k, x -> x.nearest(sign % 8, sign / 8, 0, 0));
                e.asks(Books::sixteen, k, x -> x.nearest(sign % 8, sign / 8, 4, 7));
            }
            e.asks(Books::five, 0, x -> x.nearest(0, 0, 7, 0));
            e.asks(Books::five, 4, x -> x.nearest(4, 4, 5, 5));
        });
        String[] arguments = {
            "`h`: the value of part 0, 0 to 7", "`p`: the value of part 1, 0 to 7", "`m`: the value of part 2, 0 to 7",
            "`f`: the value of part 3, 0 to 7"};
        for (int part = 0; part < 4; part++) {
            int asked = part;
            e.says(arguments[part], () -> e.range(Books::rich, 0, 7, (x, v) -> nearestTo(x, asked, v)));
        }
        e.says("Returns the sign, the least one of several", () -> {
            e.asks(Books::sixteen, 15, x -> x.nearest(7, 1, 0, 0));
            e.asks(Books::sixteen, 0, x -> x.nearest(0, 4, 0, 0));
            e.asks(() -> Books.extremes(0), 0, x -> x.nearest(7, 7, 4, 7));
            e.asks(() -> Books.extremes(5), 1, x -> x.nearest(7, 7, 4, 7));
            e.asks(() -> Books.extremes(1), 0, x -> x.nearest(0, 2, 2, 4));
            e.asks(() -> Books.extremes(1), 0, x -> x.nearest(1, 2, 2, 4));
            e.asks(() -> Books.extremes(1), 1, x -> x.nearest(3, 2, 2, 4));
        });
        e.says("BAD if an argument is out of range", () -> {
            e.refuses(Books::empty, BAD, x -> x.nearest(NONE, 0, 0, 0));
            e.refuses(Books::sixteen, BAD, x -> x.nearest(0, 0, 0, NONE));
            e.refuses(Books::five, BAD, x -> x.nearest(8, 8, 8, 8));
        });
        e.says("NONE if there are no signs", () -> {
            e.asks(Books::empty, NONE, x -> x.nearest(0, 0, 0, 0));
            e.asks(Books::empty, NONE, x -> x.nearest(7, 7, 7, 7));
            e.asks(LookupEdges::oneSign, 0, x -> x.nearest(7, 7, 7, 7));
            GestureBook x = Books.signs(1);
            x.drops(0);
            e.is(x.nearest(0, 0, 0, 0), NONE);
        });
    }

    private static int nearestTo(GestureBook x, int part, int v) {
        int[] a = {0, 0, 0, 0};
        a[part] = v;
        return x.nearest(a[0], a[1], a[2], a[3]);
    }

    private void promise12() {
        e.under("Promise 12");
        e.says("`sort`: the sort, 0 to 3", () -> {
            e.range(Books::rich, 0, 3, (x, v) -> x.sorts(v));
            for (int sort = 0; sort < 4; sort++) {
                int asked = sort;
                e.asks(Books::empty, 0, x -> x.sorts(asked));
                e.asks(Books::sixteen, 4, x -> x.sorts(asked));
                e.asks(Books::five, sort == 0 ? 2 : 1, x -> x.sorts(asked));
            }
        });
        e.says("BAD if sort is out of range", () -> {
            e.refuses(Books::empty, BAD, x -> x.sorts(4));
            e.refuses(Books::sixteen, BAD, x -> x.sorts(NONE));
        });
    }

    /** Signs in a row, each at distance 1 from the next; their numbers are not in the order of the row. */
    private static GestureBook chain() {
        GestureBook x = new GestureBook();
        for (int movement : new int[] {0, 4, 2, 1, 3}) {
            x.sign(0, 0, movement, 0, 0);
        }
        x.sign(7, 0, 0, 0, 0);
        return x;
    }

    private void promise13() {
        e.under("Promise 13");
        e.says("Two signs belong to the same cluster if one comes from one to the other by steps from sign to sign, "
            + "each over a distance of at most d.", () -> {
                e.asks(LookupEdges::chain, 6, x -> x.groups(0, 0));
                e.asks(LookupEdges::chain, 2, x -> x.groups(1, 0));
                e.asks(LookupEdges::chain, 5, x -> x.groups(1, 1));
                e.asks(LookupEdges::chain, 2, x -> x.groups(2, 0));
                e.asks(LookupEdges::chain, 1, x -> x.groups(3, 0));
                e.asks(LookupEdges::chain, 6, x -> x.groups(3, 1));
                GestureBook again = chain();
                e.is(again.groups(1, 0) * 10 + again.groups(0, 0), 26);
                e.asks(() -> Books.extremes(5), 2, x -> x.groups(69, 0));
                e.asks(() -> Books.extremes(5), 1, x -> x.groups(70, 0));
            });
        e.says("`d`: the greatest distance, 0 to 99", () -> {
            e.range(Books::rich, 0, 99, (x, v) -> x.groups(v, 0));
            e.range(Books::empty, 0, 99, (x, v) -> x.groups(v, 1));
        });
        e.says("`what`: 0 for the number of clusters, 1 for the number of signs in the greatest one (0 without signs)",
            () -> {
                e.range(Books::rich, 0, 1, (x, v) -> x.groups(1, v));
                e.asks(Books::empty, 0, x -> x.groups(0, 0));
                e.asks(Books::empty, 0, x -> x.groups(99, 1));
                e.asks(LookupEdges::oneSign, 1, x -> x.groups(0, 0));
                e.asks(LookupEdges::oneSign, 1, x -> x.groups(0, 1));
                e.asks(Books::sixteen, 16, x -> x.groups(0, 0));
                e.asks(Books::sixteen, 1, x -> x.groups(0, 1));
                e.asks(Books::sixteen, 1, x -> x.groups(99, 0));
                e.asks(Books::sixteen, 16, x -> x.groups(99, 1));
                e.asks(() -> Books.extremes(0), 2, x -> x.groups(0, 1));
            });
        e.says("BAD if d is out of range or what is not 0 or 1", () -> {
            e.refuses(Books::empty, BAD, x -> x.groups(100, 0));
            e.refuses(Books::empty, BAD, x -> x.groups(0, 2));
            e.refuses(Books::sixteen, BAD, x -> x.groups(-1, -1));
        });
    }

    /** Signs that differ from the first one in one part, in two, in three and in all four. */
    private static GestureBook ladder() {
        GestureBook x = new GestureBook();
        x.sign(0, 0, 0, 0, 0);
        x.sign(7, 0, 0, 0, 0);
        x.sign(6, 6, 0, 0, 0);
        x.sign(5, 5, 5, 0, 0);
        x.sign(4, 4, 4, 4, 0);
        return x;
    }

    private void promise14() {
        e.under("Promise 14");
        e.says("Counts the minimal pairs: the pairs of signs whose values differ in exactly one part.", () -> {
            e.asks(Books::empty, 0, x -> x.twins(NONE));
            e.asks(LookupEdges::oneSign, 0, x -> x.twins(NONE));
            e.asks(LookupEdges::ladder, 1, x -> x.twins(NONE));
            e.asks(Books::five, 0, x -> x.twins(NONE));
            e.asks(Books::sixteen, 56 + 8, x -> x.twins(NONE));
            GestureBook x = Books.signs(2);
            x.weight(0, 0);
            e.is(x.twins(NONE), 1);
        });
        e.says("`part`: NONE for all of them, or a part, 0 to 3, for those that differ in this part", () -> {
            e.range(Books::rich, NONE, 3, (x, v) -> x.twins(v));
            e.asks(Books::sixteen, 56, x -> x.twins(0));
            e.asks(Books::sixteen, 8, x -> x.twins(1));
            for (int part = 0; part < 4; part++) {
                GestureBook x = Books.signs(1);
                x.sign(part == 0 ? 1 : 0, part == 1 ? 1 : 0, part == 2 ? 1 : 0, part == 3 ? 1 : 0, 0);
                for (int asked = 0; asked < 4; asked++) {
                    e.is(x.twins(asked), asked == part ? 1 : 0);
                }
            }
        });
        e.says("BAD if part is out of range", () -> {
            e.refuses(Books::empty, BAD, x -> x.twins(4));
            e.refuses(Books::sixteen, BAD, x -> x.twins(-2));
        });
    }

    /** Parts 0 and 1 together tell the signs apart, and so does part 3 alone if it has the values 0, 1 and 2. */
    private static GestureBook corner(int face) {
        GestureBook x = new GestureBook();
        x.sign(0, 0, 0, 0, 0);
        x.sign(1, 0, 0, 1, 0);
        x.sign(0, 1, 0, face, 0);
        return x;
    }

    private void promise15() {
        e.under("Promise 15");
        e.says("Returns 1 if the set is sufficient, 0 if not", () -> {
            e.asks(Books::empty, 1, x -> x.enough(0));
            e.asks(LookupEdges::oneSign, 1, x -> x.enough(0));
            e.asks(() -> Books.signs(2), 0, x -> x.enough(0));
            e.asks(() -> Books.signs(2), 1, x -> x.enough(15));
        });
        e.says("that is, no two signs have the same values of all parts of the set", () -> {
            e.asks(() -> Books.signs(2), 1, x -> x.enough(1));
            e.asks(() -> Books.signs(2), 0, x -> x.enough(14));
            e.asks(Books::sixteen, 0, x -> x.enough(1));
            e.asks(Books::sixteen, 1, x -> x.enough(3));
            e.asks(Books::sixteen, 0, x -> x.enough(12));
        });
        e.says("which is the one with the fewest parts, of several the least as a number", () -> {
            e.asks(() -> corner(2), 8, x -> x.enough(NONE));
            e.asks(() -> corner(0), 3, x -> x.enough(NONE));
            e.asks(() -> corner(0), 1, x -> x.enough(10));
            e.asks(Books::five, 1, x -> x.enough(NONE));
            GestureBook x = Books.signs(1);
            x.sign(0, 0, 1, 1, 0);
            e.is(x.enough(NONE), 4);
        });
        e.says("`set`: the set of parts, 0 to 15, or NONE for the least sufficient set", () -> {
            e.range(Books::rich, NONE, 15, (x, v) -> x.enough(v));
            for (int set = 0; set < 16; set++) {
                int asked = set;
                e.asks(Books::five, set == 0 ? 0 : 1, x -> x.enough(asked));
            }
        });
        e.says("or the least sufficient set (0 with fewer than two signs)", () -> {
            e.asks(Books::empty, 0, x -> x.enough(NONE));
            e.asks(LookupEdges::oneSign, 0, x -> x.enough(NONE));
            e.asks(() -> Books.signs(2), 1, x -> x.enough(NONE));
            GestureBook x = Books.signs(2);
            x.sign(0, 1, 0, 0, 0);
            x.sign(0, 0, 1, 0, 0);
            x.sign(0, 0, 0, 1, 0);
            e.is(x.enough(NONE), 15);
        });
        e.says("BAD if set is out of range", () -> {
            e.refuses(Books::empty, BAD, x -> x.enough(16));
            e.refuses(Books::sixteen, BAD, x -> x.enough(-2));
        });
    }

    private void promise16() {
        e.under("Promise 16");
        e.says("or the first pair with it, where pairs are ordered by their lesser sign and then by the other one", () -> {
            for (int what = 2; what <= 3; what++) {
                int asked = what;
                e.asks(() -> Books.signs(2), 1, x -> x.span(asked));
                e.asks(LookupEdges::lastPair, what == 2 ? 16 * 4 + 15 : 16 * 14 + 15, x -> x.span(asked));
                e.asks(LookupEdges::noWeight, 1, x -> x.span(asked));
            }
            e.asks(LookupEdges::chain, 16 + 5, x -> x.span(2));
            e.asks(LookupEdges::chain, 3, x -> x.span(3));
        });
        e.says("`what`: 0 for the greatest distance, 1 for the least one; 2 for the first pair with the greatest distance, "
            + "3 for the first pair with the least one, each as 16 * the lesser sign + the other one", () -> {
                e.range(Books::rich, 0, 3, (x, v) -> x.span(v));
                e.asks(() -> Books.extremes(5), 70, x -> x.span(0));
                e.asks(() -> Books.extremes(5), 70, x -> x.span(1));
                e.asks(() -> Books.extremes(0), 0, x -> x.span(0));
                e.asks(LookupEdges::chain, 7, x -> x.span(0));
                e.asks(LookupEdges::chain, 1, x -> x.span(1));
            });
        e.says("BAD if what is not 0 to 3", () -> {
            e.refuses(Books::empty, BAD, x -> x.span(4));
            e.refuses(LookupEdges::oneSign, BAD, x -> x.span(-1));
            e.refuses(Books::sixteen, BAD, x -> x.span(4));
        });
        e.says("NONE if there are fewer than two signs", () -> {
            for (int what = 0; what < 4; what++) {
                int asked = what;
                e.asks(Books::empty, NONE, x -> x.span(asked));
                e.asks(LookupEdges::oneSign, NONE, x -> x.span(asked));
            }
        });
    }

    /** Sixteen signs at distances of 2 to 7, but for the last two, which are 1 apart. */
    private static GestureBook lastPair() {
        GestureBook x = new GestureBook();
        int[] handshapes = {0, 3, 5, 6};
        for (int k = 0; k < 15; k++) {
            x.sign(handshapes[k % 4], 0, k / 4 * 2, 0, 0);
        }
        x.sign(5, 0, 6, 1, 0);
        return x;
    }

    private static GestureBook noWeight() {
        GestureBook x = Books.sixteen();
        x.weight(0, 0);
        x.weight(1, 0);
        return x;
    }
}
