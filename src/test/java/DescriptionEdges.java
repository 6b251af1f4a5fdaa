/** The sentences of the description, but for those that speak of texts. */
final class DescriptionEdges {
    private static final int NONE = Edges.NONE, BAD = Edges.BAD, NO = Edges.NO, FULL = Edges.FULL;
    private static final int THING = 1, OTHER_THING = 5;
    private final Edges e;

    DescriptionEdges(Edges edges) {
        e = edges;
    }

    void tell() {
        calls();
        leastMovement();
        signs();
        distances();
        spotsAndWords();
        meanings();
        clauses();
        positions();
        states();
        errors();
        constants();
    }

    private void calls() {
        e.under("What it is");
        e.says("An object is used for at most 512 calls after it has been made", () -> {
            GestureBook x = Books.empty();
            for (int call = 1; call < 512; call++) {
                x.told(11);
            }
            e.is(x.told(0), 511);
            GestureBook y = Books.empty();
            for (int call = 1; call <= 510; call++) {
                y.weight(0, call % 5);
            }
            e.is(y.back(), 4);
            e.is(y.told(7), 509 % 5);
        });
    }

    private void leastMovement() {
        e.says("finds the arrangement of spots with the least movement", () -> {
            GestureBook x = Books.said("D05 D14 D50 D31 D24 D03");
            x.settles();
            int least = x.all(5);
            for (int spot = 0; spot < 6; spot++) {
                for (int v = 0; v < 6; v++) {
                    x.lays(spot, v);
                    e.is(Math.min(x.all(5), least), least);
                    x.back();
                }
            }
        });
    }

    private void signs() {
        e.under("Description");
        e.says("There are at most 16 signs, numbered from 0.", () -> {
            e.undoes(Books::empty, 0, x -> x.sign(0, 0, 0, 0, 0));
            e.undoes(() -> Books.signs(15), 15, x -> x.sign(7, 7, 7, 7, 0));
            e.refuses(Books::sixteen, FULL, x -> x.sign(7, 7, 7, 7, 0));
            e.undoes(Books::sixteen, 0, x -> x.draws(1, 1));
            e.asks(() -> Books.typed(Books.sixteen(), "s7 7 7 7 0;"), -1000, x -> x.reads());
        });
        e.says("A sign has the parts 0 to 3 (handshape, place, movement, face), each with a value from 0 to 7, and a sort: "
            + "0 time, 1 thing, 2 point, 3 deed.", () -> {
                int[] clauses = {1, 1, 1, 2};
                int[] means = {NONE, NONE, THING, NONE};
                for (int sort = 0; sort < 4; sort++) {
                    GestureBook x = Books.said("n-0 N-0 T-0 T");
                    e.is(x.becomes(0, 4, sort), 0);
                    e.is(x.all(1), clauses[sort]);
                    e.is(x.wordOf(2, 5), means[sort]);
                    e.is(x.wordOf(2, 6), sort == 3 ? THING : NONE);
                    e.is(x.at(0, 16), sort == 1 ? 0 : THING);
                }
            });
        e.says("No two signs have the same values of all four parts.", () -> {
            e.refuses(Books::five, NO, x -> x.sign(4, 4, 4, 4, 1));
            e.refuses(() -> Books.signs(2), NO, x -> x.becomes(0, 0, 1));
            e.undoes(DescriptionEdges::oneDrawn, 0, x -> x.draws(3, 1));
            e.asks(() -> Books.typed("s1 2 3 4 0;s1 2 3 4 1;"), -1001, x -> x.reads());
        });
    }

    private static GestureBook oneDrawn() {
        GestureBook x = Books.empty();
        x.draws(3, 1);
        return x;
    }

    /** A row of digits for each value; all pairs of values are compared. */
    private void gaps(int part, String... rows) {
        GestureBook x = new GestureBook();
        for (int v = 0; v < 8; v++) {
            x.sign(v, v, v, v, 0);
        }
        for (int a = 0; a < 8; a++) {
            for (int b = 0; b < 8; b++) {
                e.is(x.apart(a, b, part), rows[a].charAt(b) - '0');
            }
        }
    }

    private void distances() {
        e.says("0: the number of binary digits (of three) in which they differ", () -> gaps(0,
            "01121223", "10212132", "12012312", "21103221", "12230112", "21321021", "23121201", "32212110"));
        e.says("1: the absolute difference of a modulo 4 and b modulo 4, plus that of a / 4 and b / 4, with integer division",
            () -> gaps(1,
                "01231234", "10122123", "21013212", "32104321", "12340123", "21231012", "32122101", "43213210"));
        e.says("2: the shorter way between them on a circle of eight, on which 0 follows 7", () -> gaps(2,
            "01234321", "10123432", "21012343", "32101234", "43210123", "34321012", "23432101", "12343210"));
        e.says("3: 0 if they are equal; otherwise 1 if a / 2 and b / 2 are equal; otherwise 2 if a / 4 and b / 4 are equal; "
            + "otherwise 3.", () -> gaps(3,
                "01223333", "10223333", "22013333", "22103333", "33330122", "33331022", "33332201", "33332210"));
        e.says("The weights of the parts are 0 to 5, and 1 each at first.", () -> {
            int[] gaps = {3, 4, 4, 3};
            for (int part = 0; part < 4; part++) {
                int asked = part;
                e.asks(Books::empty, 1, x -> x.told(7 + asked));
                GestureBook x = Books.extremes(1);
                x.weight(part, 0);
                e.is(x.apart(0, 1, 4), 14 - gaps[part]);
                x.weight(part, 5);
                e.is(x.apart(0, 1, 4), 14 + 4 * gaps[part]);
                e.refuses(Books::five, BAD, y -> y.weight(asked, 6));
                e.refuses(Books::five, BAD, y -> y.weight(asked, -1));
            }
        });
    }

    private void spotsAndWords() {
        e.says("There are the spots 0 to 5.", () -> {
            e.range(Books::rich, 0, 5, (x, v) -> x.at(v, 0));
            e.range(Books::rich, 0, 5, (x, v) -> x.lay(v));
            e.range(Books::rich, 0, 5, (x, v) -> x.lays(v, 0));
            e.range(Books::rich, NONE, 5, (x, v) -> x.best(v));
            e.range(Books::rich, NONE, 5, (x, v) -> x.word(0, v, v));
        });
        e.says("There is one sentence, which consists of at most 16 words, numbered from 0 in their order.", () -> {
            e.undoes(Books::sixteen, 0, x -> x.word(15, NONE, NONE));
            e.undoes(() -> Books.said("T ".repeat(15).trim()), 15, x -> x.word(7, NONE, NONE));
            e.refuses(Books::sixteenWords, FULL, x -> x.word(7, NONE, NONE));
            e.asks(() -> Books.typed(Books.sixteenWords(), "w7;"), -1000, x -> x.reads());
            for (int i = 0; i < 8; i++) {
                int word = i;
                e.asks(() -> Books.said("T N P D t n p d"), i, x -> x.wordOf(word, 0));
            }
        });
        e.says("A word has a sign, and perhaps a spot \"from\" and a spot \"to\".", () -> {
            for (int from = NONE; from <= 5; from++) {
                for (int to = NONE; to <= 5; to++) {
                    GestureBook x = Books.five();
                    x.word(4, from, to);
                    e.is(x.wordOf(0, 1), from);
                    e.is(x.wordOf(0, 2), to);
                }
            }
        });
    }

    private void thingAt(String sentence, int spot, int n, int want) {
        e.asks(() -> Books.said(sentence), want, x -> x.at(spot, n));
    }

    private void vain(String sentence, int i, int want) {
        e.asks(() -> Books.said(sentence), want, x -> x.wordOf(i, 4));
    }

    private void meanings() {
        e.says("The sentence is interpreted from word 0 on; at first nothing is at any spot", () -> {
            for (int spot = 0; spot < 6; spot++) {
                thingAt("", spot, 16, NONE);
                thingAt("N-0 N-1 N-2 N-3 N-4 N-5", spot, 0, NONE);
                vain("P-" + spot + " N-" + spot, 0, 1);
            }
        });
        e.says("A thing with \"to\" is at that spot from then on, in place of what was there.", () -> {
            thingAt("N-5 n-5", 5, 1, THING);
            thingAt("N-5 n-5", 5, 2, OTHER_THING);
            thingAt("N-5 n-5 N-5", 5, 16, THING);
            thingAt("N-5 N-0", 5, 2, THING);
            thingAt("N-0 D D D D D D D D D D D D D D D", 0, 16, THING);
            thingAt("N", 0, 16, NONE);
        });
        e.says("It is vain if nothing is there or it has no \"to\".", () -> {
            vain("P-0", 0, 1);
            vain("N-1 P-0", 1, 1);
            vain("N-0 P-0", 1, 0);
            vain("N-0 P", 1, 1);
            vain("N-0 P0-", 1, 1);
        });
        e.says("It is vain if nothing is at one of those of the two spots that it has.", () -> {
            vain("N-0 n-5 D05", 2, 0);
            vain("N-0 n-5 D04", 2, 1);
            vain("N-0 n-5 D45", 2, 1);
            vain("N-0 n-5 D43", 2, 1);
            vain("N-0 n-5 D0-", 2, 0);
            vain("N-0 n-5 D-5", 2, 0);
            vain("N-0 n-5 D4-", 2, 1);
            vain("N-0 n-5 D-4", 2, 1);
            vain("D05 N-0 N-5", 0, 1);
        });
        e.says("(A deed without spots is not vain.)", () -> {
            vain("D", 0, 0);
            vain("N-0 D", 1, 0);
        });
        e.says("A time means nothing. The spots of times, and \"from\" of things and points, have no effect on meanings.",
            () -> {
                thingAt("T00", 0, 16, NONE);
                thingAt("N-0 T00", 0, 16, THING);
                thingAt("N0-", 0, 16, NONE);
                thingAt("N-0 n01", 0, 16, THING);
                vain("T00", 0, 0);
                vain("N05", 0, 0);
                vain("N-0 P50", 1, 0);
                GestureBook point = Books.said("P-0");
                e.is(point.all(2) * 10 + point.wordOf(0, 4), 11);
                point.becomes(2, 4, 0);
                e.is(point.all(2) * 10 + point.wordOf(0, 4), 0);
                e.asks(() -> Books.said("N-0 T00"), NONE, x -> x.wordOf(1, 5));
                e.asks(() -> Books.said("N-0 n-1 P10"), THING, x -> x.wordOf(2, 5));
                e.asks(() -> Books.said("N-0 P0-"), NONE, x -> x.wordOf(1, 5));
            });
    }

    private void sentence(String words, int clauses, int swaps, int moves) {
        e.asks(() -> Books.said(words), clauses, x -> x.all(1));
        e.asks(() -> Books.said(words), swaps, x -> x.all(3));
        e.asks(() -> Books.said(words), moves, x -> x.all(4));
    }

    private void clauses() {
        e.says("Each deed ends a clause; the words behind the last deed, if there are any, are the last clause.", () -> {
            sentence("", 0, 0, 0);
            sentence("D", 1, 0, 0);
            sentence("T", 1, 0, 0);
            sentence("D T", 2, 0, 0);
            sentence("T D", 1, 0, 0);
            sentence("D D", 2, 0, 0);
            sentence("D ".repeat(16).trim(), 16, 0, 0);
            sentence("D ".repeat(15) + "T", 16, 0, 0);
        });
        e.says("times first, then things and points (in any order), then the deed", () -> {
            sentence("T t N P n p D", 1, 0, 0);
            sentence("T P N p n D", 1, 0, 0);
            sentence("N T", 1, 1, 1);
            sentence("P T", 1, 1, 1);
            sentence("N D T", 2, 0, 0);
        });
        e.says("The swaps of a clause are the pairs of its words that are in the wrong order", () -> {
            sentence("N T t T", 1, 3, 1);
            sentence("N P n T", 1, 3, 1);
            sentence("N T P t", 1, 3, 2);
            sentence("N ".repeat(8) + "T T T T T T T T", 1, 64, 8);
        });
        e.says("its moves are the least number of words that have to be removed so that the remaining ones are in the right "
            + "order", () -> {
                sentence("N P T T T", 1, 6, 2);
                sentence("N P n T T", 1, 6, 2);
                sentence("T N T N T N T", 1, 6, 3);
                sentence("N T T T N N N T", 1, 7, 2);
                sentence("N ".repeat(15) + "T", 1, 15, 1);
                sentence("N" + " T".repeat(15), 1, 15, 1);
            });
        e.says("Swaps and moves of the sentence are the sums over all clauses.", () -> {
            sentence("N T D P T D N T", 3, 3, 3);
            sentence("N N T T D N T T T D P P P T", 3, 4 + 3 + 3, 2 + 1 + 1);
            sentence("N N D T T", 2, 0, 0);
        });
    }

    private void length(String words, int length, int... best) {
        e.asks(() -> Books.said(words), length, x -> x.all(5));
        for (int spot = 0; spot < 6; spot++) {
            int asked = spot;
            e.asks(() -> Books.said(words), best[spot], x -> x.best(asked));
        }
    }

    private void positions() {
        e.says("spot s is at position lay(s), 0 to 5; all positions are different, and lay(s) is s at first", () -> {
            for (int spot = 0; spot < 6; spot++) {
                int asked = spot;
                e.asks(Books::empty, spot, x -> x.lay(asked));
                e.undoes(Books::empty, spot, x -> x.lays(asked, 5 - asked));
                e.refuses(Books::empty, BAD, x -> x.lays(asked, 6));
                GestureBook x = Books.empty();
                x.lays(0, spot);
                e.is(1 << x.lay(0) | 1 << x.lay(1) | 1 << x.lay(2) | 1 << x.lay(3) | 1 << x.lay(4) | 1 << x.lay(5), 63);
            }
        });
        e.says("\"from\" before \"to\" for each word, as far as it has them; its length is the sum of the absolute "
            + "differences of the positions of consecutive spots", () -> {
                length("", 0, 0, 1, 2, 3, 4, 5);
                length("T5", 0, 0, 1, 2, 3, 4, 5);
                length("T55 T-5", 0, 0, 1, 2, 3, 4, 5);
                length("T05", 5, 0, 2, 3, 4, 5, 1);
                length("T0- N T-5", 5, 0, 2, 3, 4, 5, 1);
                length("D05 ".repeat(16).trim(), 155, 0, 2, 3, 4, 5, 1);
                length("D01 D25", 5, 0, 1, 2, 4, 5, 3);
                length("D10 D52", 9, 1, 0, 3, 4, 5, 2);
            });
        e.says("The best arrangement is the assignment of positions with which this length is least", () -> {
            e.asks(() -> Books.said("D05 D14 D23"), 5, x -> x.best(NONE));
            e.asks(() -> Books.said("D05 D10 D51"), 2 + 2 + 2, x -> x.best(NONE));
            e.asks(() -> Books.said("D05 ".repeat(16).trim()), 31, x -> x.best(NONE));
            e.asks(() -> Books.said("T33 ".repeat(16).trim()), 0, x -> x.best(NONE));
        });
        e.says("of several the one with the least position of spot 0, then of spot 1, and so on", () -> {
            length("D50 D13", 5 + 1 + 2, 1, 2, 4, 3, 5, 0);
            length("D10", 1, 0, 1, 2, 3, 4, 5);
            length("D45", 1, 0, 1, 2, 3, 4, 5);
            length("D34 D5", 2, 0, 1, 2, 3, 4, 5);
            length("D53", 2, 0, 1, 2, 3, 5, 4);
        });
    }

    private void states() {
        e.says("A state consists of the signs, the weights, the sentence and the positions.", () -> {
            GestureBook x = Books.typed(Books.five(), "s7 7 7 7 0;g2 5;w0 5;l5 4 3 2 1 0;");
            x.word(0, 0, 1);
            x.reads();
            x.told(11);
            x.clear();
            x.type('c');
            x.back();
            e.is(x.told(4) * 100 + x.told(9) * 10 + x.told(5), 511);
            e.is(x.lay(0), 0);
            e.is(x.told(0), 1);
            e.is(x.told(3), 1);
            e.is(x.reads(), -11);
        });
        e.says("Each successful call of the methods whose description says that it can be undone keeps the state before it, "
            + "also if it changes nothing.", () -> {
                e.undoes(Books::five, 0, x -> x.becomes(0, 0, 0));
                e.undoes(Books::five, 0, x -> x.becomes(0, 4, 0));
                e.undoes(Books::empty, 1, x -> x.weight(0, 1));
                e.undoes(Books::sixteen, 0, x -> x.draws(0, 1));
                e.undoes(() -> Books.said("T"), 0, x -> x.shifts(0, 0));
                e.undoes(Books::empty, 0, x -> x.clears());
                e.undoes(Books::empty, 5, x -> x.lays(5, 5));
                e.undoes(Books::empty, 0, x -> x.settles());
                e.undoes(() -> Books.typed("c;"), 1, x -> x.reads());
            });
        e.says("At most 5 states are kept, the oldest being forgotten.", () -> {
            GestureBook x = Books.empty();
            for (int n = 1; n <= 20; n++) {
                x.weight(0, n % 6);
                e.is(x.told(6), Math.min(n, 5));
            }
            for (int n = 19; n >= 15; n--) {
                e.is(x.back(), n - 15);
                e.is(x.told(7), n % 6);
            }
            e.is(x.back(), NO);
            e.is(x.told(7), 15 % 6);
        });
    }

    private void errors() {
        e.says("BAD: an argument is out of range, or there is no such sign, word or spot.", () -> {
            e.refuses(Books::rich, BAD, x -> x.near(0, 100));
            e.refuses(Books::rich, BAD, x -> x.near(8, 0));
            e.refuses(Books::rich, BAD, x -> x.wordOf(4, 0));
            e.refuses(Books::rich, BAD, x -> x.lay(6));
        });
        e.says("NO: the call is not possible now, as the method says.", () -> {
            e.refuses(Books::rich, NO, x -> x.sign(0, 0, 0, 0, 0));
            e.refuses(Books::rich, NO, x -> x.becomes(0, 0, 1));
            e.refuses(Books::rich, NO, x -> x.drops(0));
            e.refuses(Books::empty, NO, x -> x.back());
        });
        e.says("FULL: there is no room.", () -> {
            e.refuses(Books::sixteen, FULL, x -> x.sign(7, 7, 7, 7, 0));
            e.refuses(Books::sixteenWords, FULL, x -> x.word(0, NONE, NONE));
            e.refuses(Books::fullText, FULL, x -> x.type(' '));
        });
        e.says("If several errors apply, the first one in this order is returned, and NONE is returned only if no error "
            + "applies.", () -> {
                e.refuses(Books::sixteen, BAD, x -> x.sign(0, 0, 0, 0, 4));
                e.refuses(Books::sixteen, NO, x -> x.sign(0, 0, 0, 0, 3));
                e.refuses(Books::sixteenWords, BAD, x -> x.word(8, NONE, NONE));
                e.refuses(Books::fullText, BAD, x -> x.type(-1));
                e.refuses(Books::empty, BAD, x -> x.nearest(0, 0, 0, 8));
                e.refuses(Books::empty, BAD, x -> x.span(4));
                e.refuses(Books::empty, BAD, x -> x.at(0, 17));
                e.refuses(() -> Books.said("T"), BAD, x -> x.wordOf(1, 5));
            });
        e.says("A call that returns an error changes nothing but the counts of errors that told() returns.",
            this::refusedCalls);
        e.says("Sets are ints in which bit k stands for number k.", () -> {
            for (int k = 0; k < 16; k++) {
                int sign = k;
                e.asks(Books::sixteen, 1 << k, x -> x.near(sign, 0));
                e.asks(Books::sixteen, 1 << k, x -> x.look(sign % 8, sign / 8, NONE, NONE));
            }
            for (int s = 0; s < 6; s++) {
                int spot = s;
                e.asks(() -> Books.said("T" + spot), 1 << spot, x -> x.all(6));
            }
        });
    }

    private void refusedCalls() {
        Edges.Call[] calls = {
            x -> x.sign(7, 7, 7, 7, 4), x -> x.becomes(8, 0, 0), x -> x.drops(8), x -> x.weight(0, 6), x -> x.draws(0, 17),
            x -> x.of(8, 0), x -> x.apart(0, 8, 0), x -> x.look(8, 0, 0, 0), x -> x.near(0, 100), x -> x.nearest(0, 0, 0, -1),
            x -> x.sorts(4), x -> x.groups(0, 2), x -> x.twins(4), x -> x.enough(16), x -> x.span(4),
            x -> x.word(0, 6, 0), x -> x.cuts(4), x -> x.shifts(0, 4), x -> x.wordOf(4, 0), x -> x.at(6, 0), x -> x.all(7),
            x -> x.lays(0, 6), x -> x.lay(6), x -> x.best(6), x -> x.type(128), x -> x.told(11)};
        for (Edges.Call call : calls) {
            e.refuses(Books::rich, BAD, call);
        }
        GestureBook x = Books.rich();
        for (Edges.Call call : calls) {
            call.on(x);
        }
        e.is(x.told(0), calls.length);
        e.is(Sight.ofState(x), Sight.ofState(Books.rich()));
    }

    private void constants() {
        e.says("`NONE = -1, BAD = -2, NO = -3, FULL = -4`", () -> {
            e.is(GestureBook.NONE, -1);
            e.is(GestureBook.BAD, -2);
            e.is(GestureBook.NO, -3);
            e.is(GestureBook.FULL, -4);
        });
        e.says("NONE: there is no such thing.", () -> {
            e.asks(Books::empty, -1, x -> x.nearest(0, 0, 0, 0));
            e.asks(Books::empty, -1, x -> x.span(0));
            e.asks(Books::empty, -1, x -> x.at(0, 0));
            e.asks(Books::sixteenWords, -1, x -> x.wordOf(0, 1));
        });
        e.says("BAD, NO, FULL: error codes.", () -> {
            e.refuses(Books::empty, -2, x -> x.drops(0));
            e.refuses(Books::empty, -3, x -> x.back());
            e.refuses(Books::fullText, -4, x -> x.type(0));
        });
    }
}
