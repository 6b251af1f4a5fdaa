/** The sentences of promises 24 to 27. */
final class SpaceEdges {
    private static final int NONE = Edges.NONE, BAD = Edges.BAD;
    private final Edges e;

    SpaceEdges(Edges edges) {
        e = edges;
    }

    void tell() {
        promise24();
        promise25();
        promise26();
        promise27();
    }

    private static GestureBook reversed() {
        GestureBook x = Books.said("T05 T50");
        x.lays(0, 5);
        x.lays(1, 4);
        x.lays(2, 3);
        return x;
    }

    private void lie(GestureBook x, int... positions) {
        for (int spot = 0; spot < 6; spot++) {
            e.is(x.lay(spot), positions[spot]);
        }
    }

    private void promise24() {
        e.under("Promise 24");
        e.says("the spot that had this position gets the previous position of the given one", () -> {
            for (int spot = 0; spot < 6; spot++) {
                for (int v = 0; v < 6; v++) {
                    GestureBook x = reversed();
                    e.is(x.lays(spot, v), 5 - spot);
                    int[] wanted = {5, 4, 3, 2, 1, 0};
                    wanted[5 - v] = 5 - spot;
                    wanted[spot] = v;
                    lie(x, wanted);
                }
            }
        });
        e.says("This can be undone.", () -> {
            e.undoes(Books::empty, 0, x -> x.lays(0, 5));
            e.undoes(SpaceEdges::reversed, 0, x -> x.lays(5, 5));
            e.undoes(Books::rich, 5, x -> x.lays(0, 5));
        });
        e.says("`spot`: the spot, 0 to 5", () -> e.range(Books::rich, 0, 5, (x, v) -> x.lays(v, 2)));
        e.says("`v`: the position, 0 to 5", () -> e.range(Books::rich, 0, 5, (x, v) -> x.lays(2, v)));
        e.says("Returns the previous position", () -> {
            e.undoes(Books::empty, 5, x -> x.lays(5, 0));
            e.undoes(SpaceEdges::reversed, 5, x -> x.lays(0, 0));
            e.undoes(SpaceEdges::reversed, 5, x -> x.lays(0, 5));
        });
        e.says("BAD if an argument is out of range", () -> {
            e.refuses(Books::empty, BAD, x -> x.lays(6, 0));
            e.refuses(SpaceEdges::reversed, BAD, x -> x.lays(0, 6));
            e.refuses(SpaceEdges::reversed, BAD, x -> x.lays(NONE, NONE));
        });
    }

    private void promise25() {
        e.under("Promise 25");
        e.says("`spot`: the spot, 0 to 5", () -> {
            e.range(Books::rich, 0, 5, (x, v) -> x.lay(v));
            for (int spot = 0; spot < 6; spot++) {
                int asked = spot;
                e.asks(Books::empty, spot, x -> x.lay(asked));
                e.asks(SpaceEdges::reversed, 5 - spot, x -> x.lay(asked));
            }
        });
        e.says("BAD if spot is out of range", () -> {
            e.refuses(Books::empty, BAD, x -> x.lay(6));
            e.refuses(SpaceEdges::reversed, BAD, x -> x.lay(NONE));
        });
    }

    private void promise26() {
        e.under("Promise 26");
        e.says("`spot`: NONE for the length of the path with it, or a spot, 0 to 5, for its position", () -> {
            e.range(Books::rich, NONE, 5, (x, v) -> x.best(v));
            e.asks(Books::empty, 0, x -> x.best(NONE));
            e.asks(SpaceEdges::reversed, 2, x -> x.best(NONE));
            int[] positions = {0, 2, 3, 4, 5, 1};
            for (int spot = 0; spot < 6; spot++) {
                int asked = spot;
                e.asks(Books::empty, spot, x -> x.best(asked));
                e.asks(SpaceEdges::reversed, positions[spot], x -> x.best(asked));
            }
        });
        e.says("BAD if spot is out of range", () -> {
            e.refuses(Books::empty, BAD, x -> x.best(6));
            e.refuses(SpaceEdges::reversed, BAD, x -> x.best(-2));
        });
    }

    private void promise27() {
        e.under("Promise 27");
        e.says("Sets the positions of all spots as in the best arrangement.", () -> {
            GestureBook x = reversed();
            x.settles();
            lie(x, 0, 2, 3, 4, 5, 1);
            x.clears();
            x.settles();
            lie(x, 0, 1, 2, 3, 4, 5);
        });
        e.says("This can be undone.", () -> {
            e.undoes(Books::empty, 0, x -> x.settles());
            e.undoes(SpaceEdges::reversed, 8, x -> x.settles());
        });
        e.says("Returns by how much the path becomes shorter.", () -> {
            e.undoes(SpaceEdges::reversed, 8, x -> x.settles());
            e.undoes(() -> Books.said("T5"), 0, x -> x.settles());
            e.undoes(() -> Books.said("D05 ".repeat(16).trim()), 155 - 31, x -> x.settles());
            GestureBook x = reversed();
            x.settles();
            e.is(x.settles(), 0);
            e.is(x.told(6), 5);
        });
    }
}
