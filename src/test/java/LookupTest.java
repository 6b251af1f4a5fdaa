/** Promises 9 to 16: signs looked up. */
public final class LookupTest {
    private static final int NONE = GestureBook.NONE, BAD = GestureBook.BAD;
    private static final Due due = new Due();

    public static void main(String[] args) {
        promise9();
        promise10();
        promise11();
        promise12();
        promise13();
        promise14();
        promise15();
        promise15Singles();
        promise16();
        due.end();
    }

    private static void promise9() {
        GestureBook x = new GestureBook();
        due.is("9: without signs", x.look(NONE, NONE, NONE, NONE), 0);
        x.sign(0, 1, 2, 3, 0);
        x.sign(0, 1, 2, 4, 1);
        x.sign(7, 1, 2, 3, 2);
        x.sign(7, 0, 0, 0, 3);
        due.is("9: any", x.look(NONE, NONE, NONE, NONE), 15);
        due.is("9: part 0", x.look(0, NONE, NONE, NONE), 3);
        due.is("9: part 1", x.look(NONE, 1, NONE, NONE), 7);
        due.is("9: part 2", x.look(NONE, NONE, 0, NONE), 8);
        due.is("9: part 3", x.look(NONE, NONE, NONE, 3), 5);
        due.is("9: two parts", x.look(7, NONE, NONE, 3), 4);
        due.is("9: all parts", x.look(0, 1, 2, 4), 2);
        due.is("9: no such sign", x.look(0, 1, 2, 5), 0);
        for (int place = 0; place < 4; place++) {
            int[] a = {0, 0, 0, 0};
            a[place] = -2;
            due.is("9: -2 at " + place, x.look(a[0], a[1], a[2], a[3]), BAD);
            a[place] = 8;
            due.is("9: 8 at " + place, x.look(a[0], a[1], a[2], a[3]), BAD);
        }
        due.is("9: nothing kept", x.told(6), 4);
        due.is("9: errors", x.told(0), 8);
        GestureBook full = new GestureBook();
        full.draws(7, 16);
        due.is("9: sixteen signs", full.look(NONE, NONE, NONE, NONE), 65535);
    }

    private static void promise10() {
        GestureBook x = new GestureBook();
        x.sign(0, 0, 0, 0, 0);
        x.sign(1, 0, 0, 0, 0);
        x.sign(3, 0, 0, 0, 0);
        x.sign(7, 7, 4, 7, 0);
        due.is("10: itself", x.near(1, 0), 2);
        due.is("10: at most 1", x.near(0, 1), 3);
        due.is("10: at most 2", x.near(0, 2), 7);
        due.is("10: from the middle", x.near(1, 1), 7);
        due.is("10: at most 13", x.near(0, 13), 7);
        due.is("10: at most 14", x.near(0, 14), 15);
        for (int part = 0; part < 4; part++) {
            x.weight(part, 5);
        }
        due.is("10: at most 69", x.near(0, 69), 7);
        due.is("10: at most 70", x.near(0, 70), 15);
        due.is("10: at most 99", x.near(0, 99), 15);
        due.is("10: sign 4", x.near(4, 0), BAD);
        due.is("10: sign -1", x.near(-1, 0), BAD);
        due.is("10: d 100", x.near(0, 100), BAD);
        due.is("10: d -1", x.near(0, -1), BAD);
    }

    private static void promise11() {
        GestureBook x = new GestureBook();
        due.is("11: without signs", x.nearest(0, 0, 0, 0), NONE);
        due.is("11: BAD before NONE", x.nearest(0, 0, 0, 8), BAD);
        x.sign(7, 0, 0, 0, 0);
        x.sign(0, 3, 0, 0, 0);
        x.sign(0, 0, 4, 0, 0);
        x.sign(0, 0, 0, 7, 0);
        due.is("11: the least of several", x.nearest(0, 0, 0, 0), 0);
        due.is("11: itself", x.nearest(0, 0, 0, 7), 3);
        due.is("11: nearer", x.nearest(0, 1, 0, 0), 1);
        due.is("11: on the circle", x.nearest(0, 0, 5, 0), 2);
        x.weight(0, 2);
        due.is("11: weighted", x.nearest(0, 0, 0, 0), 1);
        x.weight(1, 2);
        x.weight(3, 0);
        due.is("11: without weight", x.nearest(0, 0, 0, 0), 3);
        for (int place = 0; place < 4; place++) {
            int[] a = {0, 0, 0, 0};
            a[place] = NONE;
            due.is("11: NONE at " + place, x.nearest(a[0], a[1], a[2], a[3]), BAD);
            a[place] = 8;
            due.is("11: 8 at " + place, x.nearest(a[0], a[1], a[2], a[3]), BAD);
        }
    }

    private static void promise12() {
        GestureBook x = new GestureBook();
        due.is("12: without signs", x.sorts(0), 0);
        int[] sorts = {3, 1, 0, 3, 3, 1};
        for (int k = 0; k < sorts.length; k++) {
            x.sign(k, 0, 0, 0, sorts[k]);
        }
        due.is("12: times", x.sorts(0), 1);
        due.is("12: things", x.sorts(1), 2);
        due.is("12: points", x.sorts(2), 0);
        due.is("12: deeds", x.sorts(3), 3);
        x.becomes(0, 4, 2);
        due.is("12: points after a change", x.sorts(2), 1);
        due.is("12: sort 4", x.sorts(4), BAD);
        due.is("12: sort -1", x.sorts(-1), BAD);
    }

    private static void promise13() {
        GestureBook x = new GestureBook();
        due.is("13: no clusters", x.groups(0, 0), 0);
        due.is("13: no greatest one", x.groups(0, 1), 0);
        // a chain whose links stand in a wrong order: 0 - 3 - 1 - 4 - 2 in movement, and one far away
        x.sign(0, 0, 0, 0, 0);
        x.sign(0, 0, 2, 0, 0);
        x.sign(0, 0, 4, 0, 0);
        x.sign(0, 0, 1, 0, 0);
        x.sign(0, 0, 3, 0, 0);
        x.sign(7, 7, 0, 7, 0);
        due.is("13: d 0", x.groups(0, 0), 6);
        due.is("13: d 0, greatest", x.groups(0, 1), 1);
        due.is("13: d 1", x.groups(1, 0), 2);
        due.is("13: d 1, greatest", x.groups(1, 1), 5);
        due.is("13: d 9", x.groups(9, 0), 2);
        due.is("13: d 10", x.groups(10, 0), 1);
        due.is("13: d 10, greatest", x.groups(10, 1), 6);
        x.weight(2, 2);
        due.is("13: weighted", x.groups(1, 0), 6);
        due.is("13: weighted, d 2", x.groups(2, 1), 5);
        x.weight(2, 0);
        due.is("13: without weight", x.groups(0, 1), 5);
        due.is("13: d 99", x.groups(99, 0), 1);
        GestureBook two = new GestureBook();
        two.sign(0, 0, 0, 0, 0);
        two.sign(0, 0, 0, 1, 0);
        due.is("13: two neighbours", two.groups(1, 0), 1);
        due.is("13: both in one", two.groups(1, 1), 2);
        due.is("13: apart", two.groups(0, 0), 2);
        GestureBook full = new GestureBook();
        full.draws(7, 16);
        due.is("13: sixteen signs", full.groups(99, 0) * 100 + full.groups(99, 1), 116);
        due.is("13: sixteen clusters", full.groups(0, 0) * 100 + full.groups(0, 1), 1601);
        due.is("13: d 100", x.groups(100, 0), BAD);
        due.is("13: d -1", x.groups(-1, 0), BAD);
        due.is("13: what 2", x.groups(0, 2), BAD);
        due.is("13: what -1", x.groups(0, -1), BAD);
    }

    private static void promise14() {
        GestureBook x = new GestureBook();
        due.is("14: without signs", x.twins(NONE), 0);
        x.sign(0, 0, 0, 0, 0);
        x.sign(5, 0, 0, 0, 0);
        x.sign(6, 0, 0, 0, 0);
        x.sign(0, 1, 0, 0, 0);
        x.sign(0, 0, 0, 7, 0);
        x.sign(6, 0, 0, 7, 0);
        x.sign(0, 1, 2, 0, 3);
        due.is("14: part 0", x.twins(0), 4);
        due.is("14: part 1", x.twins(1), 1);
        due.is("14: part 2", x.twins(2), 1);
        due.is("14: part 3", x.twins(3), 2);
        due.is("14: all", x.twins(NONE), 8);
        x.weight(0, 0);
        due.is("14: weights do not matter", x.twins(0), 4);
        due.is("14: part 4", x.twins(4), BAD);
        due.is("14: part -2", x.twins(-2), BAD);
    }

    private static void promise15() {
        GestureBook x = new GestureBook();
        due.is("15: without signs", x.enough(NONE), 0);
        due.is("15: without signs, no parts", x.enough(0), 1);
        x.sign(0, 0, 0, 0, 0);
        due.is("15: one sign", x.enough(NONE), 0);
        due.is("15: one sign, no parts", x.enough(0), 1);
        x.sign(0, 1, 1, 1, 0);
        due.is("15: two signs", x.enough(NONE), 2);
        due.is("15: no parts", x.enough(0), 0);
        due.is("15: part 0", x.enough(1), 0);
        due.is("15: part 3", x.enough(8), 1);
        x.sign(1, 0, 1, 0, 0);
        due.is("15: three signs", x.enough(NONE), 3);
        due.is("15: parts 0 and 1", x.enough(3), 1);
        due.is("15: part 2", x.enough(4), 0);
        due.is("15: parts 1 and 3", x.enough(10), 0);
        due.is("15: all parts", x.enough(15), 1);
        x.sign(0, 1, 1, 0, 0);
        due.is("15: three parts needed", x.enough(NONE), 11);
        due.is("15: set 16", x.enough(16), BAD);
        due.is("15: set -2", x.enough(-2), BAD);
    }

    private static void promise15Singles() {
        GestureBook x = new GestureBook();
        x.sign(0, 0, 0, 0, 0);
        x.sign(1, 0, 0, 1, 0);
        x.sign(0, 1, 0, 2, 0);
        due.is("15: part 3 alone, though 3 is less than 8", x.enough(NONE), 8);
        due.is("15: parts 0 and 1 too", x.enough(3), 1);
        x.becomes(2, 3, 0);
        due.is("15: parts 0 and 1 before 1 and 3", x.enough(NONE), 3);
        due.is("15: parts 1 and 3 too", x.enough(10), 1);
        GestureBook all = new GestureBook();
        all.sign(0, 0, 0, 0, 0);
        all.sign(1, 0, 0, 0, 0);
        all.sign(0, 1, 0, 0, 0);
        all.sign(0, 0, 1, 0, 0);
        all.sign(0, 0, 0, 1, 0);
        due.is("15: all parts needed", all.enough(NONE), 15);
        due.is("15: three do not do", all.enough(14), 0);
    }

    private static void promise16() {
        GestureBook x = new GestureBook();
        x.sign(0, 0, 0, 0, 0);
        for (int what = 0; what < 4; what++) {
            due.is("16: one sign", x.span(what), NONE);
        }
        due.is("16: BAD before NONE", x.span(4), BAD);
        x.sign(1, 0, 0, 0, 0);
        due.is("16: two signs", x.span(0) * 1000 + x.span(1) * 100 + x.span(2) * 10 + x.span(3), 1111);
        x.sign(7, 0, 4, 0, 0);
        x.sign(0, 0, 4, 0, 0);
        x.sign(7, 0, 0, 0, 0);
        due.is("16: greatest", x.span(0), 7);
        due.is("16: first pair with it", x.span(2), 2);
        due.is("16: least", x.span(1), 1);
        due.is("16: first pair with it", x.span(3), 1);
        x.drops(1);
        due.is("16: least again", x.span(1), 3);
        due.is("16: the first of several", x.span(3), 3);
        due.is("16: pairs go by the lesser sign", x.span(2), 1);
        x.becomes(0, 0, 5);
        due.is("16: pair of later signs", x.span(2), 16 * 2 + 3);
        due.is("16: its distance", x.span(0), 7);
        due.is("16: least one", x.span(1) * 1000 + x.span(3), 1003);
        x.weight(0, 0);
        due.is("16: weighted", x.span(1), 0);
        due.is("16: weighted pair", x.span(3), 3);
        due.is("16: what 4", x.span(4), BAD);
        due.is("16: what -1", x.span(-1), BAD);
    }
}
