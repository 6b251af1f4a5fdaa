/** Compares answers with those that are due, and ends the test with exit code 1 if one is wrong. */
final class Due {
    private int compared = 0;
    private int wrong = 0;

    void is(String call, long got, long want) {
        compared++;
        if (got != want) {
            wrong++;
            System.out.println(call + " answered " + got + ", due is " + want);
        }
    }

    void holds(String claim, boolean holds) {
        is(claim, holds ? 1 : 0, 1);
    }

    void end() {
        System.out.println(compared + " answers compared, " + wrong + " wrong");
        if (wrong > 0 || compared == 0) {
            System.exit(1);
        }
    }
}
