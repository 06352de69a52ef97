/** Promises 9 and 10: days, and what is now. */
public final class DaysTest {
    private static final Check check = new Check();

    public static void main(String[] args) {
        stormComes();
        leaksAndAges();
        cancels();
        cancelsBeforeBurst();
        fullHouse();
        bursts();
        burstsInChain();
        burstsEightTimes();
        limits();
        wrongDays();
        lastDay();
        now();
        check.end();
    }

    private static void peals(ThunderCasks x, int... dues) {
        for (int c = 0; c < dues.length; c++) {
            check.due("PEAL of " + c + " on day " + x.now(0), x.of(c, 2), dues[c]);
        }
    }

    private static void stormComes() {
        ThunderCasks x = new ThunderCasks();
        Check.add(x, Check.CASK, 0, 0, 0, 100);
        Check.add(x, Check.CASK, 0, 0, 1, 100);
        Check.add(x, Check.CASK, 1, 0, 0, 100);
        x.storm(1, 33);
        check.due("go(1)", x.go(1), 0);
        peals(x, 9, 0, 0);
        check.due("go(1)", x.go(1), 0);
        peals(x, 8, 0, 32);
        check.due("go(4)", x.go(4), 0);
        peals(x, 4, 0, 28);
        check.due("go(1)", x.go(1), 0);
        peals(x, 3, 9, 27);
        check.due("now(0)", x.now(0), 7);
    }

    private static void leaksAndAges() {
        ThunderCasks x = new ThunderCasks();
        for (int kind = 0; kind < 7; kind++) {
            Check.add(x, kind, 5, 9, kind, 999);
        }
        x.go(1);
        peals(x, 8, 6, 8, 9, 9, 4, 4);
        x.go(1);
        peals(x, 7, 3, 7, 9, 9, 0, 0);
        x.go(2);
        peals(x, 5, 0, 5, 9, 9, 0, 0);
        for (int c = 0; c < 7; c++) {
            check.due("AGE", x.of(c, 5), 4);
        }
    }

    private static void cancels() {
        ThunderCasks x = new ThunderCasks();
        Check.add(x, Check.MELLOW, 5, 30, 4, 999);
        Check.add(x, Check.MELLOW, 5, 20, 4, 999);
        Check.add(x, Check.MELLOW, 5, 15, 4, 999);
        Check.add(x, Check.MELLOW, 5, 50, 3, 999);
        Check.add(x, Check.MELLOW, 4, 50, 4, 999);
        x.go(1);
        peals(x, 0, 0, 5, 50, 50);
        ThunderCasks y = new ThunderCasks();
        Check.add(y, Check.MELLOW, 5, 1, 0, 999);
        Check.add(y, Check.MELLOW, 5, 1, 0, 999);
        y.go(1);
        peals(y, 0, 0);
    }

    private static void fullHouse() {
        ThunderCasks x = new ThunderCasks();
        for (int i = 0; i < 8; i++) {
            Check.add(x, Check.CASK, 5, 20 + i, i / 2, 100);
        }
        check.due("go(1)", x.go(1), 0);
        peals(x, 0, 1, 0, 1, 0, 1, 0, 1);
        x.change(7, 2, 102);
        check.due("now(4)", x.now(4), 128);
        check.due("chain(1)", x.chain(1), 128);
        check.due("go(1)", x.go(1), 1);
        peals(x, 50, 50, 50, 50, 50, 50, 50, 0);
    }

    private static void cancelsBeforeBurst() {
        ThunderCasks x = new ThunderCasks();
        Check.add(x, Check.CASK, 5, 200, 0, 100);
        Check.add(x, Check.CASK, 5, 150, 0, 100);
        check.due("now(4)", x.now(4), 3);
        check.due("go(1)", x.go(1), 0);
        peals(x, 50, 0);
    }

    private static void bursts() {
        ThunderCasks x = new ThunderCasks();
        Check.add(x, Check.CASK, 5, 50, 0, 49);
        check.due("borne go(1)", x.go(1), 0);
        ThunderCasks y = new ThunderCasks();
        Check.add(y, Check.CASK, 5, 50, 0, 48);
        Check.add(y, Check.HEAT, 5, 10, 1, 100);
        Check.add(y, Check.CASK, 4, 10, 1, 100);
        y.change(0, 5, 30);
        check.due("go(1)", y.go(1), 1);
        peals(y, 0, 29, 9);
        check.due("AGE", y.of(0, 5), 0);
        check.due("BURST", y.of(0, 6), 1);
        check.due("BURST", y.of(1, 6), 0);
        check.due("AGE", y.of(1, 5), 1);
        check.due("now(1)", y.now(1), 1);
    }

    private static void burstsInChain() {
        ThunderCasks x = new ThunderCasks();
        Check.add(x, Check.MELLOW, 5, 0, 0, 0);
        Check.add(x, Check.CASK, 5, 101, 1, 20);
        // 1 bursts with 100: 50 to 0, which is LOUD (50 - 12 + 1) / 2 = 19, above 10: 25 back to 1, above 20: 12 to 0.
        check.due("go(1)", x.go(1), 3);
        peals(x, 12, 0);
        check.due("BURST", x.of(0, 6), 1);
        check.due("BURST", x.of(1, 6), 2);
        ThunderCasks y = new ThunderCasks();
        Check.add(y, Check.ROLL, 5, 0, 0, 0);
        y.change(0, 5, 500);
        check.due("by AGE alone go(1)", y.go(1), 1);
        check.due("AGE", y.of(0, 5), 0);
    }

    private static ThunderCasks hummer() {
        ThunderCasks x = new ThunderCasks();
        Check.add(x, Check.ECHO, 5, 0, 0, 0);
        for (int i = 0; i < 3; i++) {
            Check.add(x, Check.HEAT, 5, 0, 0, 0);
        }
        return x;
    }

    private static void burstsEightTimes() {
        ThunderCasks x = hummer();
        check.due("go(1)", x.go(1), 8);
        check.due("BURST", x.of(0, 6), 8);
        check.due("go(3)", x.go(3), 32);
        check.due("now(4)", x.now(4), 1);
    }

    private static void limits() {
        ThunderCasks x = hummer();
        x.change(0, 6, 995);
        check.due("go(1)", x.go(1), 8);
        check.due("BURST", x.of(0, 6), 999);
        for (int i = 0; i < 208; i++) {
            x.go(60);
        }
        check.due("CLAPS", x.now(1), 8 + 208 * 480);
        check.due("go(60)", x.go(60), 99999);
        ThunderCasks y = new ThunderCasks();
        Check.add(y, Check.MELLOW, 0, 990, 0, 999);
        y.change(0, 5, 999);
        y.go(1);
        peals(y, 999);
        check.due("AGE", y.of(0, 5), 999);
        ThunderCasks w = new ThunderCasks();
        Check.add(w, Check.CASK, 5, 999, 0, 0);
        Check.add(w, Check.MELLOW, 5, 800, 1, 999);
        w.go(1);
        peals(w, 0, 999);
    }

    private static void wrongDays() {
        ThunderCasks x = new ThunderCasks();
        int[] wrong = {0, -1, 61, Integer.MIN_VALUE, Integer.MAX_VALUE};
        for (int n : wrong) {
            check.due("go(" + n + ")", x.go(n), Check.BEYOND);
        }
        check.due("now(0)", x.now(0), 0);
        x.go(60);
        check.due("now(0)", x.now(0), 60);
    }

    /** More calls than an object is used for: the words of promises 9 and 28 can't be asked otherwise. */
    private static void lastDay() {
        ThunderCasks x = new ThunderCasks();
        for (int i = 0; i < 1666; i++) {
            x.go(60);
        }
        check.due("go(40)", x.go(40), Check.STATE);
        check.due("storms(20)", x.storms(20), 0);
        check.due("storms(20)", x.storms(20), Check.STATE);
        check.due("go(19)", x.go(19), 0);
        check.due("now(0)", x.now(0), 99999);
        check.due("go(1)", x.go(1), Check.STATE);
        check.due("go(0)", x.go(0), Check.BEYOND);
        check.due("status(4)", x.status(4), 3);
        ThunderCasks y = new ThunderCasks();
        for (int i = 0; i < 1666; i++) {
            y.go(60);
        }
        y.go(19);
        check.due("just the last day: storms(20)", y.storms(20), 0);
        check.due("storms(1)", y.storms(1), Check.STATE);
        check.due("days behind the last are of its number: claps(100)", y.claps(100), 0);
    }

    private static void now() {
        ThunderCasks x = new ThunderCasks();
        Check.add(x, Check.CASK, 1, 30, 0, 10);
        Check.add(x, Check.CRACK, 4, 20, 0, 100);
        Check.add(x, Check.FORGED, 4, 20, 0, 79);
        Check.add(x, Check.HEAT, 4, 900, 0, 0);
        int[] dues = {0, 0, 970, 110, 5, 1, 18};
        for (int what = 0; what < dues.length; what++) {
            check.due("now(" + what + ")", x.now(what), dues[what]);
        }
        check.due("now(-1)", x.now(-1), Check.BEYOND);
        check.due("now(7)", x.now(7), Check.BEYOND);
        ThunderCasks y = new ThunderCasks();
        y.cask(5, 0);
        y.cask(5, 0);
        check.due("now(5)", y.now(5), 0);
    }
}
