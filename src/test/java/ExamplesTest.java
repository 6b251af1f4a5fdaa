/** The three examples of the document. */
public final class ExamplesTest {
    private static final Due due = new Due();

    public static void main(String[] args) {
        distancesAndMeanings();
        ordersFromAText();
        randomSignsAndBestArrangement();
        due.end();
    }

    private static void distancesAndMeanings() {
        GestureBook x = new GestureBook();
        due.is("1: sign(1,2,3,4,1)", x.sign(1, 2, 3, 4, 1), 0);
        due.is("1: sign(1,2,3,5,3)", x.sign(1, 2, 3, 5, 3), 1);
        due.is("1: sign(6,2,7,4,2)", x.sign(6, 2, 7, 4, 2), 2);
        due.is("1: apart(0,2,0)", x.apart(0, 2, 0), 3);
        due.is("1: apart(0,2,4)", x.apart(0, 2, 4), 7);
        due.is("1: twins(3)", x.twins(3), 1);
        due.is("1: enough(-1)", x.enough(-1), 9);
        due.is("1: span(2)", x.span(2), 18);
        due.is("1: word(1,0,-1)", x.word(1, 0, -1), 0);
        due.is("1: word(0,-1,0)", x.word(0, -1, 0), 1);
        due.is("1: word(2,-1,0)", x.word(2, -1, 0), 2);
        due.is("1: wordOf(0,4)", x.wordOf(0, 4), 1);
        due.is("1: wordOf(2,5)", x.wordOf(2, 5), 0);
        due.is("1: all(3)", x.all(3), 0);
        due.is("1: lays(0,5)", x.lays(0, 5), 0);
        due.is("1: digest()", x.digest(), 4410372368225188349L);
    }

    private static void ordersFromAText() {
        GestureBook x = new GestureBook();
        String text = "s1 2 3 4 1;w0";
        for (int n = 0; n < text.length(); n++) {
            due.is("2: type(" + (int) text.charAt(n) + ")", x.type(text.charAt(n)), n + 1);
        }
        due.is("2: reads()", x.reads(), -23);
        due.is("2: type(59)", x.type(59), 14);
        due.is("2: reads()", x.reads(), 2);
    }

    private static void randomSignsAndBestArrangement() {
        GestureBook x = new GestureBook();
        due.is("3: draws(7,16)", x.draws(7, 16), 16);
        due.is("3: near(0,3)", x.near(0, 3), 65);
        due.is("3: groups(2,0)", x.groups(2, 0), 15);
        due.is("3: word(0,5,1)", x.word(0, 5, 1), 0);
        due.is("3: word(0,0,5)", x.word(0, 0, 5), 1);
        due.is("3: best(-1)", x.best(-1), 4);
        due.is("3: best(5)", x.best(5), 2);
        due.is("3: settles()", x.settles(), 6);
        due.is("3: all(5)", x.all(5), 4);
        due.is("3: drops(0)", x.drops(0), -3);
        due.is("3: becomes(0,4,4)", x.becomes(0, 4, 4), -2);
        due.is("3: shifts(0,2)", x.shifts(0, 2), -2);
        due.is("3: back()", x.back(), 3);
        due.is("3: told(0)", x.told(0), 2);
        due.is("3: told(1)", x.told(1), 1);
        due.is("3: told(6)", x.told(6), 3);
    }
}
