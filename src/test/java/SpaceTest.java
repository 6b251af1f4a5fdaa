/** Promises 24 to 27: the signing space. */
public final class SpaceTest {
    private static final int NONE = GestureBook.NONE, BAD = GestureBook.BAD;
    private static final Due due = new Due();

    public static void main(String[] args) {
        promise24();
        promise25();
        promise26();
        promise26AllArrangements();
        promise27();
        due.end();
    }

    private static String positions(GestureBook x) {
        StringBuilder said = new StringBuilder();
        for (int spot = 0; spot < 6; spot++) {
            said.append(x.lay(spot));
        }
        return said.toString();
    }

    private static String bestPositions(GestureBook x) {
        StringBuilder said = new StringBuilder();
        for (int spot = 0; spot < 6; spot++) {
            said.append(x.best(spot));
        }
        return said.toString();
    }

    /** A sentence whose path goes through the given spots. */
    private static GestureBook path(String spots) {
        GestureBook x = new GestureBook();
        x.sign(0, 0, 0, 0, 0);
        for (int n = 0; n + 1 < spots.length(); n += 2) {
            x.word(0, spots.charAt(n) - '0', spots.charAt(n + 1) - '0');
        }
        if (spots.length() % 2 == 1) {
            x.word(0, spots.charAt(spots.length() - 1) - '0', NONE);
        }
        return x;
    }

    private static void promise24() {
        GestureBook x = new GestureBook();
        due.is("24: previous", x.lays(0, 5), 0);
        due.holds("24: exchanged", positions(x).equals("512340"));
        due.is("24: again", x.lays(1, 5), 1);
        due.holds("24: exchanged", positions(x).equals("152340"));
        due.is("24: the same", x.lays(5, 0), 0);
        due.holds("24: nothing changed", positions(x).equals("152340"));
        due.is("24: kept also without a change", x.told(6), 3);
        x.back();
        x.back();
        due.holds("24: undone", positions(x).equals("512340"));
        due.is("24: spot 6", x.lays(6, 0), BAD);
        due.is("24: spot -1", x.lays(-1, 0), BAD);
        due.is("24: position 6", x.lays(0, 6), BAD);
        due.is("24: position -1", x.lays(0, -1), BAD);
        due.holds("24: nothing changed", positions(x).equals("512340"));
        due.is("24: errors", x.told(0), 4);
    }

    private static void promise25() {
        GestureBook x = new GestureBook();
        due.holds("25: at first", positions(x).equals("012345"));
        x.lays(2, 3);
        due.is("25: lay(2)", x.lay(2), 3);
        due.is("25: lay(3)", x.lay(3), 2);
        due.is("25: spot 6", x.lay(6), BAD);
        due.is("25: spot -1", x.lay(-1), BAD);
        due.is("25: errors", x.told(0), 2);
    }

    private static void bestOf(String spots, int length, String arrangement) {
        GestureBook x = path(spots);
        due.is("26: length of " + spots, x.best(NONE), length);
        due.holds("26: arrangement of " + spots + ": " + bestPositions(x), bestPositions(x).equals(arrangement));
    }

    private static void promise26() {
        bestOf("", 0, "012345");
        bestOf("4", 0, "012345");
        bestOf("33", 0, "012345");
        bestOf("05", 1, "023451");
        bestOf("54", 1, "012345");
        bestOf("501", 2, "103452");
        bestOf("1350", 3, "034251");
        GestureBook x = path("05");
        x.lays(0, 3);
        x.lays(1, 0);
        due.holds("26: whatever the positions are", bestPositions(x).equals("023451"));
        due.is("26: nothing changed", x.lay(0), 3);
        due.is("26: nothing kept", x.told(6), 4);
        due.is("26: spot 6", x.best(6), BAD);
        due.is("26: spot -2", x.best(-2), BAD);
        due.is("26: errors", x.told(0), 2);
    }

    private static void promise26AllArrangements() {
        String[] paths = {
            "0505151525", "012340512430", "5432105", "00112233445505", "31415253545", "24135024135024",
            "0123450123450123450123450123450", "0514233241500514233241500514233", "5252525141414130303030123"};
        for (String spots : paths) {
            String expected = "";
            int least = Integer.MAX_VALUE;
            for (int code = 0; code < 46656; code++) {
                int length = lengthOf(spots, code);
                if (length < least) {
                    least = length;
                    expected = digits(code);
                }
            }
            bestOf(spots, least, expected);
        }
    }

    private static String digits(int code) {
        return String.format("%6s", Integer.toString(code, 6)).replace(' ', '0');
    }

    private static int lengthOf(String spots, int code) {
        String positions = digits(code);
        if (positions.chars().distinct().count() < 6) {
            return Integer.MAX_VALUE;
        }
        int length = 0;
        for (int n = 1; n < spots.length(); n++) {
            length += Math.abs(positions.charAt(spots.charAt(n) - '0') - positions.charAt(spots.charAt(n - 1) - '0'));
        }
        return length;
    }

    private static void promise27() {
        GestureBook x = path("50125");
        String arrangement = bestPositions(x);
        int least = x.best(NONE);
        int previous = x.all(5);
        due.is("27: the path was", previous, 5 + 1 + 1 + 3);
        due.is("27: shorter by", x.settles(), previous - least);
        due.is("27: the path is", x.all(5), least);
        due.holds("27: as in the best arrangement", positions(x).equals(arrangement));
        due.is("27: no better one", x.settles(), 0);
        due.is("27: kept also without a change", x.back(), 4);
        due.is("27: back()", x.back(), 3);
        due.holds("27: undone", positions(x).equals("012345"));
        GestureBook y = new GestureBook();
        y.lays(0, 5);
        due.is("27: without a path", y.settles(), 0);
        due.holds("27: the least arrangement", positions(y).equals("012345"));
    }
}
