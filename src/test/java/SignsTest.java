/** Promises 1 to 8: a new object, and the signs. */
public final class SignsTest {
    private static final int BAD = GestureBook.BAD, NO = GestureBook.NO, FULL = GestureBook.FULL;
    private static final Due due = new Due();

    public static void main(String[] args) {
        promise1();
        promise2();
        promise2Errors();
        promise3();
        promise4();
        promise5();
        promise6();
        promise7();
        promise8();
        promise8Faces();
        due.end();
    }

    private static void promise1() {
        GestureBook x = new GestureBook();
        int[] told = {0, 0, 0, 0, 0, 0, 0, 1, 1, 1, 1};
        for (int what = 0; what < told.length; what++) {
            due.is("1: told(" + what + ")", x.told(what), told[what]);
        }
        for (int what = 0; what <= 6; what++) {
            due.is("1: all(" + what + ")", x.all(what), 0);
        }
        for (int spot = 0; spot < 6; spot++) {
            due.is("1: lay", x.lay(spot), spot);
            due.is("1: best", x.best(spot), spot);
            due.is("1: at", x.at(spot, 16), -1);
        }
        due.is("1: clear()", x.clear(), 0);
        due.is("1: look", x.look(-1, -1, -1, -1), 0);
        due.is("1: back()", x.back(), NO);
        GestureBook y = new GestureBook();
        x.sign(1, 1, 1, 1, 1);
        due.is("1: objects are apart", y.told(4), 0);
    }

    private static void promise2() {
        GestureBook x = new GestureBook();
        due.is("2: the least values", x.sign(0, 0, 0, 0, 0), 0);
        due.is("2: the greatest values", x.sign(7, 7, 7, 7, 3), 1);
        due.is("2: another sort is no other sign", x.sign(7, 7, 7, 7, 0), NO);
        due.is("2: differs in part 0", x.sign(1, 0, 0, 0, 0), 2);
        due.is("2: differs in part 1", x.sign(0, 1, 0, 0, 0), 3);
        due.is("2: differs in part 2", x.sign(0, 0, 1, 0, 0), 4);
        due.is("2: differs in part 3", x.sign(0, 0, 0, 1, 0), 5);
        due.is("2: values", x.of(1, 0) + x.of(1, 1) + x.of(1, 2) + x.of(1, 3), 28);
        due.is("2: sort", x.of(1, 4), 3);
        due.is("2: states kept", x.told(6), 5);
        x.back();
        due.is("2: undone", x.told(4), 5);
        due.is("2: number after undoing", x.sign(2, 2, 2, 2, 2), 5);
    }

    private static void promise2Errors() {
        GestureBook x = new GestureBook();
        for (int place = 0; place < 5; place++) {
            int[] a = {1, 1, 1, 1, 1};
            a[place] = -1;
            due.is("2: -1 at " + place, x.sign(a[0], a[1], a[2], a[3], a[4]), BAD);
            a[place] = place == 4 ? 4 : 8;
            due.is("2: too great at " + place, x.sign(a[0], a[1], a[2], a[3], a[4]), BAD);
        }
        due.is("2: told(4)", x.told(4), 0);
        due.is("2: told(6)", x.told(6), 0);
        for (int k = 0; k < 16; k++) {
            due.is("2: sign " + k, x.sign(k % 8, k / 8, 0, 0, 1), k);
        }
        due.is("2: full", x.sign(0, 7, 7, 7, 0), FULL);
        due.is("2: NO before FULL", x.sign(3, 0, 0, 0, 0), NO);
        due.is("2: BAD before NO", x.sign(3, 0, 0, 0, 4), BAD);
        due.is("2: BAD counted", x.told(0), 11);
        due.is("2: NO counted", x.told(1), 1);
        due.is("2: FULL counted", x.told(2), 1);
    }

    private static void promise3() {
        GestureBook x = new GestureBook();
        x.sign(1, 2, 3, 4, 0);
        x.sign(1, 2, 3, 5, 1);
        for (int part = 0; part < 4; part++) {
            due.is("3: previous value", x.becomes(0, part, 7), part + 1);
            due.is("3: new value", x.of(0, part), 7);
        }
        due.is("3: previous sort", x.becomes(0, 4, 3), 0);
        due.is("3: new sort", x.of(0, 4), 3);
        due.is("3: states kept", x.told(6), 5);
        due.is("3: back()", x.back(), 4);
        due.is("3: undone", x.of(0, 4), 0);
        due.is("3: the same value", x.becomes(1, 0, 1), 1);
        due.is("3: kept also without a change", x.told(6), 5);
        x = new GestureBook();
        x.sign(1, 2, 3, 4, 0);
        x.sign(1, 2, 3, 5, 1);
        due.is("3: as another sign", x.becomes(1, 3, 4), NO);
        due.is("3: nothing changed", x.of(1, 3), 5);
        due.is("3: the other sign", x.becomes(0, 3, 5), NO);
        due.is("3: nothing kept", x.told(6), 2);
        due.is("3: no sign 2", x.becomes(2, 0, 0), BAD);
        due.is("3: no sign -1", x.becomes(-1, 0, 0), BAD);
        due.is("3: no part 5", x.becomes(0, 5, 0), BAD);
        due.is("3: no part -1", x.becomes(0, -1, 0), BAD);
        due.is("3: no value 8", x.becomes(0, 0, 8), BAD);
        due.is("3: no value -1", x.becomes(0, 0, -1), BAD);
        due.is("3: no sort 4", x.becomes(0, 4, 4), BAD);
        due.is("3: no sort -1", x.becomes(0, 4, -1), BAD);
        due.is("3: the greatest sort", x.becomes(0, 4, 3), 0);
        due.is("3: errors", x.told(0) * 10 + x.told(1), 82);
    }

    private static void promise4() {
        GestureBook x = new GestureBook();
        for (int k = 0; k < 5; k++) {
            x.sign(k, k, k, k, k % 4);
        }
        x.word(1, -1, 2);
        x.word(3, 0, 1);
        x.word(4, -1, -1);
        due.is("4: a word has it", x.drops(3), NO);
        due.is("4: no sign 5", x.drops(5), BAD);
        due.is("4: no sign -1", x.drops(-1), BAD);
        due.is("4: signs left", x.drops(2), 4);
        due.is("4: lesser number stays", x.of(1, 0), 1);
        due.is("4: later number", x.of(2, 0), 3);
        due.is("4: last number", x.of(3, 3), 4);
        due.is("4: the sort moves too", x.of(2, 4), 3);
        due.is("4: word of a lesser sign", x.wordOf(0, 0), 1);
        due.is("4: word of a later sign", x.wordOf(1, 0), 2);
        due.is("4: its spots", x.wordOf(1, 1) * 10 + x.wordOf(1, 2), 1);
        due.is("4: word of the last sign", x.wordOf(2, 0), 3);
        due.is("4: gone", x.of(4, 0), BAD);
        due.is("4: signs left", x.drops(0), 3);
        due.is("4: words", x.wordOf(0, 0) * 100 + x.wordOf(1, 0) * 10 + x.wordOf(2, 0), 12);
        x.back();
        x.back();
        due.is("4: undone", x.of(2, 0), 2);
        due.is("4: undone in the words", x.wordOf(2, 0), 4);
        due.is("4: the last sign", x.cuts(2) * 10 + x.drops(4), 24);
        due.is("4: its values can be used again", x.sign(4, 4, 4, 4, 0), 4);
        GestureBook full = new GestureBook();
        full.draws(7, 16);
        due.is("4: the sixteenth", full.drops(15), 15);
        due.is("4: the first of fifteen", full.drops(0), 14);
        due.is("4: without signs", new GestureBook().drops(0), BAD);
    }

    private static void promise5() {
        GestureBook x = new GestureBook();
        for (int part = 0; part < 4; part++) {
            due.is("5: at first", x.weight(part, part + 2), 1);
            due.is("5: told", x.told(7 + part), part + 2);
        }
        due.is("5: none", x.weight(3, 0), 5);
        due.is("5: again", x.weight(3, 0), 0);
        due.is("5: kept", x.told(6), 5);
        x.back();
        x.back();
        due.is("5: undone", x.told(10), 5);
        due.is("5: part 4", x.weight(4, 1), BAD);
        due.is("5: part -1", x.weight(-1, 1), BAD);
        due.is("5: weight 6", x.weight(0, 6), BAD);
        due.is("5: weight -1", x.weight(0, -1), BAD);
        due.is("5: unchanged", x.told(7), 2);
        x = new GestureBook();
        x.sign(0, 0, 0, 0, 0);
        x.sign(7, 3, 4, 7, 0);
        int[] gaps = {3, 3, 4, 3};
        for (int part = 0; part < 4; part++) {
            int before = x.apart(0, 1, 4);
            x.weight(part, 5);
            due.is("5: counts in distances", x.apart(0, 1, 4), before + 4 * gaps[part]);
            due.is("5: not in those of a part", x.apart(0, 1, part), gaps[part]);
            x.weight(part, 0);
            due.is("5: no weight", x.apart(0, 1, 4), before - gaps[part]);
            x.weight(part, 1);
        }
    }

    private static void promise6() {
        GestureBook x = new GestureBook();
        due.is("6: all added", x.draws(0, 2), 2);
        // x = 12345, 1406932606, 654583775, 1449466924, 229283573: 0, 21468, 9988, 22117, 3498
        int[] first = {0, 4, 4, 5, 2};
        for (int what = 0; what < 5; what++) {
            due.is("6: of(0," + what + ")", x.of(0, what), first[what]);
        }
        long number = 229283573L;
        for (int what = 0; what < 5; what++) {
            number = (number * 1103515245L + 12345L) % 2147483648L;
            due.is("6: of(1," + what + ")", x.of(1, what), number / 65536 % (what == 4 ? 4 : 8));
        }
        due.is("6: the same again", x.draws(0, 2), 0);
        due.is("6: kept also without a change", x.told(6), 2);
        due.is("6: one more", x.draws(0, 3), 1);
        x.back();
        due.is("6: undone as one call", x.told(4), 2);
        x.back();
        x.back();
        due.is("6: nothing left", x.told(4), 0);
        due.is("6: seed -1", x.draws(-1, 1), BAD);
        due.is("6: seed 1000000", x.draws(1000000, 1), BAD);
        due.is("6: n 0", x.draws(1, 0), BAD);
        due.is("6: n 17", x.draws(1, 17), BAD);
        due.is("6: nothing kept", x.told(6), 0);
        due.is("6: one", x.draws(5, 1), 1);
        x.back();
        due.is("6: the greatest seed", x.draws(999999, 16), 16);
        due.is("6: no room is no error", x.draws(1, 16), 0);
        due.is("6: FULL not counted", x.told(2) + x.told(1), 0);
        x.drops(15);
        due.is("6: room for one", x.draws(1, 16), 1);
    }

    private static void promise7() {
        GestureBook x = new GestureBook();
        x.sign(1, 2, 3, 4, 3);
        x.sign(5, 6, 7, 0, 1);
        int[] want = {5, 6, 7, 0, 1, 2};
        x.word(1, -1, -1);
        x.word(0, 1, 1);
        x.word(1, 0, 0);
        for (int what = 0; what < 6; what++) {
            due.is("7: of(1," + what + ")", x.of(1, what), want[what]);
        }
        due.is("7: of(0,5)", x.of(0, 5), 1);
        due.is("7: what 6", x.of(0, 6), BAD);
        due.is("7: what -1", x.of(0, -1), BAD);
        due.is("7: sign 2", x.of(2, 0), BAD);
        due.is("7: sign -1", x.of(-1, 0), BAD);
        due.is("7: errors", x.told(0), 4);
    }

    private static void promise8() {
        GestureBook x = new GestureBook();
        for (int v = 0; v < 8; v++) {
            x.sign(v, v, v, v, 0);
        }
        int[][] fromZero = {
            {0, 1, 1, 2, 1, 2, 2, 3}, {0, 1, 2, 3, 1, 2, 3, 4}, {0, 1, 2, 3, 4, 3, 2, 1}, {0, 1, 2, 2, 3, 3, 3, 3}};
        int[][] fromFive = {
            {2, 1, 3, 2, 1, 0, 2, 1}, {2, 1, 2, 3, 1, 0, 1, 2}, {3, 4, 3, 2, 1, 0, 1, 2}, {3, 3, 3, 3, 1, 0, 2, 2}};
        for (int part = 0; part < 4; part++) {
            for (int v = 0; v < 8; v++) {
                due.is("8: apart(0," + v + "," + part + ")", x.apart(0, v, part), fromZero[part][v]);
                due.is("8: apart(" + v + ",0," + part + ")", x.apart(v, 0, part), fromZero[part][v]);
                due.is("8: apart(5," + v + "," + part + ")", x.apart(5, v, part), fromFive[part][v]);
            }
        }
        due.is("8: sum", x.apart(0, 7, 4), 3 + 4 + 1 + 3);
        due.is("8: itself", x.apart(7, 7, 4), 0);
        x.weight(0, 2);
        x.weight(1, 3);
        x.weight(2, 4);
        x.weight(3, 5);
        due.is("8: weighted sum", x.apart(0, 6, 4), 2 * 2 + 3 * 3 + 4 * 2 + 5 * 3);
        due.is("8: no sign j", x.apart(8, 0, 0), BAD);
        due.is("8: no sign k", x.apart(0, 8, 0), BAD);
        due.is("8: j -1", x.apart(-1, 0, 0), BAD);
        due.is("8: k -1", x.apart(0, -1, 0), BAD);
        due.is("8: part 5", x.apart(0, 0, 5), BAD);
        due.is("8: part -1", x.apart(0, 0, -1), BAD);
        due.is("8: errors", x.told(0), 6);
    }

    private static void promise8Faces() {
        GestureBook x = new GestureBook();
        x.sign(0, 0, 0, 3, 0);
        x.sign(0, 0, 0, 4, 0);
        x.sign(0, 0, 0, 6, 0);
        x.sign(0, 0, 0, 2, 0);
        due.is("8: faces 3 and 4", x.apart(0, 1, 3), 3);
        due.is("8: faces 4 and 6", x.apart(1, 2, 3), 2);
        due.is("8: faces 3 and 2", x.apart(0, 3, 3), 1);
    }
}
