/** Promises 31 to 33: earlier states, what is told, and the digest. */
public final class StateTest {
    private static final int NONE = GestureBook.NONE, BAD = GestureBook.BAD, NO = GestureBook.NO;
    private static final Due due = new Due();

    public static void main(String[] args) {
        promise31();
        promise31AfterErrors();
        promise31Everything();
        promise31WhatKeepsAState();
        promise32();
        promise33();
        promise33NewObject();
        due.end();
    }

    private static void promise31() {
        GestureBook x = new GestureBook();
        due.is("31: none", x.back(), NO);
        due.is("31: counted", x.told(1), 1);
        for (int k = 0; k < 7; k++) {
            x.sign(k, 0, 0, 0, 0);
            due.is("31: kept", x.told(6), Math.min(k + 1, 5));
        }
        for (int left = 4; left >= 0; left--) {
            due.is("31: more are kept", x.back(), left);
            due.is("31: signs", x.told(4), left + 2);
        }
        due.is("31: the oldest are forgotten", x.back(), NO);
        due.is("31: signs", x.told(4), 2);
        due.is("31: counted again", x.told(1), 2);
        x.sign(7, 7, 7, 7, 0);
        x.weight(0, 3);
        due.is("31: back()", x.back(), 1);
        due.is("31: weight", x.told(7) * 10 + x.told(4), 13);
        x.weight(1, 4);
        due.is("31: back()", x.back(), 1);
        due.is("31: back()", x.back(), 0);
        due.is("31: signs", x.told(4), 2);
        due.is("31: none", x.back(), NO);
    }

    private static void promise31AfterErrors() {
        GestureBook x = new GestureBook();
        for (int k = 0; k < 5; k++) {
            x.sign(k, 0, 0, 0, 0);
        }
        x.sign(0, 0, 0, 0, 0);
        x.type('d');
        x.type('9');
        x.type(';');
        due.is("31: not possible", x.reads(), -1000);
        for (int left = 4; left >= 0; left--) {
            due.is("31: errors forget nothing", x.back() * 10 + x.told(4), left * 11);
        }
    }

    private static void promise31Everything() {
        GestureBook x = new GestureBook();
        x.sign(1, 2, 3, 4, 1);
        x.sign(4, 3, 2, 1, 3);
        x.weight(1, 3);
        x.word(0, NONE, 2);
        x.word(1, 2, 4);
        x.lays(2, 5);
        x.type(99);
        x.told(11);
        long[] digests = new long[5];
        for (int n = 0; n < 5; n++) {
            digests[n] = Sight.ofState(x);
            if (n == 0) {
                x.becomes(0, 0, 7);
            } else if (n == 1) {
                x.settles();
            } else if (n == 2) {
                x.shifts(0, 1);
            } else if (n == 3) {
                x.clears();
            } else {
                x.drops(0);
            }
        }
        for (int n = 4; n >= 0; n--) {
            due.is("31: back()", x.back(), n);
            due.is("31: as before call " + n, Sight.ofState(x), digests[n]);
        }
        due.is("31: the text stays", x.told(3), 1);
        due.is("31: the counts of errors stay", x.told(0), 1);
    }

    private static void promise31WhatKeepsAState() {
        GestureBook x = new GestureBook();
        x.sign(1, 2, 3, 4, 1);
        x.word(0, NONE, 0);
        int kept = x.told(6);
        x.of(0, 0);
        x.apart(0, 0, 4);
        x.look(NONE, NONE, NONE, NONE);
        x.near(0, 9);
        x.nearest(0, 0, 0, 0);
        x.sorts(0);
        x.groups(0, 0);
        x.twins(NONE);
        x.enough(NONE);
        x.span(0);
        x.wordOf(0, 0);
        x.at(0, 0);
        x.all(0);
        x.lay(0);
        x.best(NONE);
        x.type(99);
        x.reads();
        x.clear();
        x.told(6);
        x.digest();
        due.is("31: these keep none", x.told(6), kept);
        x.sign(1, 2, 3, 4, 0);
        x.becomes(0, 5, 0);
        x.drops(0);
        x.weight(0, 6);
        x.draws(0, 0);
        x.word(1, 0, 0);
        x.cuts(1);
        x.shifts(0, 1);
        x.lays(0, 6);
        due.is("31: nor do errors", x.told(6), kept);
        due.is("31: errors", x.told(0) * 10 + x.told(1), 72);
    }

    private static void promise32() {
        GestureBook x = new GestureBook();
        due.is("32: what 11", x.told(11), BAD);
        due.is("32: counts, too", x.told(0), 1);
        due.is("32: what -1", x.told(-1), BAD);
        due.is("32: counts, too", x.told(0), 2);
        x.sign(0, 0, 0, 0, 0);
        x.sign(0, 0, 0, 0, 0);
        x.sign(1, 0, 0, 0, 0);
        x.word(0, NONE, NONE);
        x.word(0, NONE, NONE);
        x.word(0, NONE, NONE);
        x.cuts(0);
        for (int part = 0; part < 4; part++) {
            x.weight(part, part + 2);
        }
        for (int n = 0; n < 120; n++) {
            x.type(32);
        }
        x.type(32);
        x.type(32);
        x.type(32);
        x.nearest(0, 0, 0, 0);
        x.span(0);
        int[] want = {2, 1, 3, 120, 2, 2, 5, 2, 3, 4, 5};
        for (int what = 0; what <= 10; what++) {
            due.is("32: told(" + what + ")", x.told(what), want[what]);
        }
        GestureBook y = new GestureBook();
        y.span(0);
        y.nearest(0, 0, 0, 0);
        y.at(0, 0);
        due.is("32: NONE is no error", y.told(0) + y.told(1) + y.told(2), 0);
    }

    private static long digestFromTheOthers(GestureBook x) {
        long h = 2287;
        for (int what = 0; what <= 10; what++) {
            h = 31 * h + x.told(what);
        }
        for (int k = 0; k < x.told(4); k++) {
            for (int what = 0; what <= 5; what++) {
                h = 31 * h + x.of(k, what);
            }
        }
        for (int i = 0; i < x.told(5); i++) {
            for (int what = 0; what <= 6; what++) {
                h = 31 * h + x.wordOf(i, what);
            }
        }
        for (int what = 0; what <= 6; what++) {
            h = 31 * h + x.all(what);
        }
        for (int spot = 0; spot < 6; spot++) {
            h = 31 * h + x.lay(spot);
        }
        h = 31 * h + x.best(NONE);
        h = 31 * h + x.twins(NONE);
        return 31 * h + x.enough(NONE);
    }

    private static void promise33() {
        for (int seed = 0; seed < 40; seed++) {
            GestureBook x = new GestureBook();
            x.draws(seed, seed % 16 + 1);
            for (int i = 0; i < seed / 2; i++) {
                x.word((seed + i) % (seed % 16 + 1), (seed + i) % 7 - 1, (seed + 2 * i) % 5 - 1);
                x.weight(i % 5, (seed + i) % 6);
                x.lays(i % 6, (seed + i) % 7);
                x.type((seed + i) * 5);
            }
            due.is("33: digest()", x.digest(), digestFromTheOthers(x));
        }
    }

    private static void promise33NewObject() {
        int[] numbers = {
            0, 0, 0, 0, 0, 0, 0, 1, 1, 1, 1, 0, 0, 0, 0, 0, 0, 0, 0, 1, 2, 3, 4, 5, 0, 0, 0};
        long h = 2287;
        for (int v : numbers) {
            h = 31 * h + v;
        }
        GestureBook x = new GestureBook();
        due.is("33: of a new object", x.digest(), h);
        due.is("33: changes nothing", x.digest(), h);
    }
}
