/** Promises 28 to 30: storms by draws. */
public final class DrawsTest {
    private static final Check check = new Check();

    public static void main(String[] args) {
        storms();
        odds();
        seed();
        check.end();
    }

    private static void storms() {
        ThunderCasks x = new ThunderCasks();
        Check.add(x, Check.MELLOW, 2, 0, 0, 0);
        check.due("storms(1)", x.storms(1), 0);
        check.due("cellar(2, 1)", x.cellar(2, 1), 32);
        check.due("now(0)", x.now(0), 1);
        check.due("count(6)", x.count(6), -1770082073);
        check.due("storms(2)", x.storms(2), 1);
        check.due("BURST", x.of(0, 6), 1);
        check.due("storms(0)", x.storms(0), Check.BEYOND);
        check.due("storms(-1)", x.storms(-1), Check.BEYOND);
        check.due("storms(21)", x.storms(21), Check.BEYOND);
        check.due("now(0)", x.now(0), 3);
        x.storms(20);
        check.due("now(0)", x.now(0), 23);
    }

    private static void odds() {
        ThunderCasks x = new ThunderCasks();
        check.due("odds(7, 0)", x.odds(7, 0), 1);
        check.due("odds(7, 1)", x.odds(7, 1), 1);
        long[] above = {11920928955078125L, 8388608L, 1L, 1L, 1L, 0L};
        long[] below = {789730223053602816L, 94143178827L, 8388608L, 94143178827L, 789730223053602816L, 1L};
        for (int c = 0; c < 6; c++) {
            x.cask(0, c);
            check.due("odds(23, 0) with " + c, x.odds(23, 0), above[c]);
            check.due("odds(23, 1) with " + c, x.odds(23, 1), below[c]);
            check.due("odds(0, 0)", x.odds(0, 0), 1);
            check.due("odds(0, 1)", x.odds(0, 1), 1);
        }
        check.due("odds(24, 0)", x.odds(24, 0), Check.BEYOND);
        check.due("odds(-1, 0)", x.odds(-1, 0), Check.BEYOND);
        check.due("odds(0, 2)", x.odds(0, 2), Check.BEYOND);
        check.due("odds(0, -1)", x.odds(0, -1), Check.BEYOND);
        check.due("status(0)", x.status(0), 4);
    }

    private static void seed() {
        ThunderCasks x = new ThunderCasks();
        check.due("seed(-1000001)", x.seed(-1000001), 1);
        check.due("seed(MIN)", x.seed(Integer.MIN_VALUE), -1000001);
        check.due("count(6)", x.count(6), Integer.MIN_VALUE);
        check.due("no finding: status(-1)", x.status(-1), 0);
    }
}
