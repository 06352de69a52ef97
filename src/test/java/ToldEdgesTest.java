/** Edges of promises 25 to 30: told claps, storms by draws. */
public final class ToldEdgesTest {
    private static final Check check = new Check();

    public static void main(String[] args) {
        nothingTold();
        toldNow();
        pealsLeastAndMost();
        pealAboveThem();
        fortyClaps();
        fortyPeals();
        anyIsLeft();
        kindsByTheFirst();
        nothingChanges();
        drawsWrapAround();
        restsLeastAndMost();
        stormsOneAndMost();
        seedAnswersAny();
        oddsLeastAndMost();
        check.end();
    }

    private static void nothingTold() {
        int[] bits = {8, 16, 32};
        for (int b : bits) {
            ThunderCasks x = new ThunderCasks();
            Check.add(x, Check.CASK, 3, 999, 0, 0);
            x.sheet(3, b, 0);
            check.due("fits(3, 0)", x.fits(3, 0), 101);
            check.due("pealed(3, 0)", x.pealed(3, 0), 0);
            check.due("kinds(3, 0)", x.kinds(3, 0), 127);
        }
    }

    private static void toldNow() {
        ThunderCasks x = new ThunderCasks();
        Check.add(x, Check.CASK, 3, 50, 0, 0);
        Check.fill(x, 0, 8, 0);
        check.due("too loud, but that is told tomorrow: fits(0, 0)", x.fits(0, 0), 101);
        Check.fill(x, 0, 8, 1);
        check.due("fits(0, 0)", x.fits(0, 0), 0);
        check.due("pealed(0, 0)", x.pealed(0, 0), Check.NONE);
        x.go(1);
        check.due("fits(0, 0)", x.fits(0, 0), 101);
    }

    /** A CASK LEAKS 1, then BURSTS with more than its HOOPS. */
    private static void pealsLeastAndMost() {
        ThunderCasks x = new ThunderCasks();
        Check.add(x, Check.CASK, 3, 500, 0, 0);
        Check.fill(x, 0, 8, 0, 0);
        check.due("0 and 1: fits(0, 0)", x.fits(0, 0), 2);
        check.due("0 and 1: pealed(0, 0)", x.pealed(0, 0), 0);
        x.write(0, 1, 1);
        check.due("2 to 100: fits(0, 0)", x.fits(0, 0), 99);
        check.due("2 to 100: pealed(0, 0)", x.pealed(0, 0), 2);
        x.change(0, 4, 98);
        check.due("100 alone: fits(0, 0)", x.fits(0, 0), 1);
        check.due("100 alone: pealed(0, 0)", x.pealed(0, 0), 100);
        x.change(0, 4, 99);
        check.due("from 101 on: fits(0, 0)", x.fits(0, 0), 0);
        check.due("from 101 on: pealed(0, 0)", x.pealed(0, 0), Check.NONE);
        x.write(0, 1, 0);
        check.due("all of them: fits(0, 0)", x.fits(0, 0), 101);
        // Any PEAL above 0 takes so much from the other that it is borne.
        x.change(0, 0, Check.MELLOW);
        Check.add(x, Check.CASK, 3, 102, 0, 100);
        x.write(0, 1, 1);
        check.due("0 alone: fits(0, 0)", x.fits(0, 0), 1);
        check.due("0 alone: pealed(0, 0)", x.pealed(0, 0), 0);
        x.write(0, 1, 0);
        check.due("all but 0: fits(0, 0)", x.fits(0, 0), 100);
        check.due("all but 0: pealed(0, 0)", x.pealed(0, 0), 1);
    }

    private static void pealAboveThem() {
        ThunderCasks x = new ThunderCasks();
        Check.add(x, Check.CASK, 3, 999, 0, 500);
        Check.fill(x, 0, 8, 0, 0);
        check.due("its own PEAL doesn't matter: fits(0, 0)", x.fits(0, 0), 101);
        x.change(0, 0, Check.HEAT);
        Check.add(x, Check.CASK, 3, 60, 1, 50);
        check.due("another one BURSTS: fits(0, 0)", x.fits(0, 0), 0);
        check.due("this one must not: fits(0, 1)", x.fits(0, 1), 52);
        check.due("pealed(0, 1)", x.pealed(0, 1), 0);
    }

    /** A ROLL is LOUD by its AGE, and BURSTS on the 39th DAY, which the 40th number tells. */
    private static void fortyClaps() {
        ThunderCasks x = new ThunderCasks();
        Check.add(x, Check.ROLL, 3, 0, 0, 28);
        Check.add(x, Check.HEAT, 2, 0, 0, 100);
        x.storm(3, 0);
        x.sheet(0, 8, 40);
        check.due("all 0: fits(0, 1)", x.fits(0, 1), 0);
        x.write(0, 39, 1);
        check.due("1 at last: fits(0, 1)", x.fits(0, 1), 101);
        check.due("1 at last: pealed(0, 1)", x.pealed(0, 1), 0);
        x.change(0, 4, 29);
        check.due("a DAY later: fits(0, 1)", x.fits(0, 1), 0);
        check.due("a DAY later: pealed(0, 1)", x.pealed(0, 1), Check.NONE);
        x.write(0, 39, 0);
        check.due("all 0: fits(0, 1)", x.fits(0, 1), 101);
        x.change(0, 4, 27);
        check.due("a DAY earlier: fits(0, 1)", x.fits(0, 1), 0);
        x.write(0, 38, 1);
        x.write(0, 39, 1);
        check.due("a DAY earlier: fits(0, 1)", x.fits(0, 1), 101);
    }

    private static void fortyPeals() {
        ThunderCasks x = new ThunderCasks();
        Check.add(x, Check.HEAT, 3, 39, 0, 999);
        x.storm(3, 0);
        x.sheet(0, 8, 40);
        for (int i = 0; i < 40; i++) {
            x.write(0, i, 39 - i);
        }
        check.due("one less each DAY: kinds(0, 0)", x.kinds(0, 0), 1 << Check.CASK | 1 << Check.ROLL);
        x.write(0, 39, 1);
        check.due("but the last: kinds(0, 0)", x.kinds(0, 0), 0);
        x.write(0, 39, -1);
        check.due("any at last: kinds(0, 0)", x.kinds(0, 0), 1 << Check.CASK | 1 << Check.ROLL);
        check.due("nothing changes: of(0, 0)", x.of(0, 0), Check.HEAT);
    }

    private static void anyIsLeft() {
        int[] bits = {8, 16, 32};
        int[][] any = {{-1, 255, 511}, {-1, 65535, 131071}, {-1, -1, -1}};
        int[][] none = {{-2, 254, 1}, {-2, 255, 65534}, {-2, 255, 65535}};
        for (int i = 0; i < bits.length; i++) {
            ThunderCasks x = new ThunderCasks();
            Check.add(x, Check.CASK, 3, 0, 0, 999);
            for (int k = 0; k < 3; k++) {
                Check.fill(x, 0, bits[i], any[i][k]);
                check.due(any[i][k] + " in " + bits[i] + " bits is any: fits(0, 0)", x.fits(0, 0), 101);
                check.due(any[i][k] + " in " + bits[i] + " bits is any: kinds(0, 0)", x.kinds(0, 0), 127);
                Check.fill(x, 0, bits[i], none[i][k]);
                check.due(none[i][k] + " in " + bits[i] + " bits isn't: fits(0, 0)", x.fits(0, 0), 0);
                check.due(none[i][k] + " in " + bits[i] + " bits isn't: pealed(0, 0)", x.pealed(0, 0), Check.NONE);
                check.due(none[i][k] + " in " + bits[i] + " bits isn't: kinds(0, 0)", x.kinds(0, 0), 0);
            }
        }
    }

    private static void kindsByTheFirst() {
        ThunderCasks x = new ThunderCasks();
        Check.add(x, Check.FORGED, 3, 999, 0, 999);
        Check.fill(x, 0, 16, 999);
        check.due("its PEAL now: kinds(0, 0)", x.kinds(0, 0), 127);
        Check.fill(x, 0, 16, 998);
        check.due("not its PEAL now: kinds(0, 0)", x.kinds(0, 0), 0);
        // A CRACK and a FORGED one BEAR 499.
        Check.fill(x, 0, 16, 999, 0);
        check.due("those that BURST: kinds(0, 0)", x.kinds(0, 0), 1 << Check.CRACK | 1 << Check.FORGED);
        Check.fill(x, 0, 16, -1, 994);
        check.due("HEAT alone LEAKS 5 and is borne: kinds(0, 0)", x.kinds(0, 0), 1 << Check.HEAT);
    }

    private static void nothingChanges() {
        ThunderCasks x = new ThunderCasks();
        Check.add(x, Check.CASK, 3, 500, 0, 50);
        Check.fill(x, 0, 8, 0, 1);
        String was = Check.shown(x);
        x.fits(0, 0);
        x.pealed(0, 0);
        x.kinds(0, 0);
        check.same("fits, pealed, kinds", Check.shown(x), was);
    }

    /** Seeds with what z is behind two draws, and the STORM that they tell. */
    private static void drawsWrapAround() {
        int[][] rows = {{0, -740551042, 0, 38}, {1, -1770082073, 2, 32}, {-1, 288979989, 1, 28},
            {Integer.MAX_VALUE, -1858503659, 5, 36}, {Integer.MIN_VALUE, 1406932606, 2, 30}};
        for (int[] row : rows) {
            ThunderCasks x = new ThunderCasks();
            check.due("z is 1 at first", x.seed(row[0]), 1);
            check.due("storms(1)", x.storms(1), 0);
            check.due("count(6) from " + row[0], x.count(6), row[1]);
            for (int c = 0; c < 6; c++) {
                check.due("cellar(" + c + ", 1) from " + row[0], x.cellar(c, 1), c == row[2] ? row[3] : 10);
            }
        }
    }

    /** Seeds whose first draw, and whose second, are at an end of their rests; z below 0 gives a draw above it. */
    private static void restsLeastAndMost() {
        int[][] rows = {{230538014, 3, 57}, {-945217506, 0, 46}, {-59267453, 0, 48}, {-1643077757, 5, 25},
            {1476134019, 0, 14}, {-1346043047, -1, 15}, {475716697, -1, 0}, {-1977318350, -1, 99}, {-155558606, -1, 0},
            {204577074, -1, 8}, {801440601, -1, 7}};
        for (int[] row : rows) {
            ThunderCasks x = new ThunderCasks();
            x.seed(row[0]);
            x.storms(1);
            int told = 0;
            for (int c = 0; c < 6; c++) {
                if (x.cellar(c, 1) == row[2] && (row[1] < 0 || row[1] == c)) {
                    told++;
                }
            }
            check.due("seed " + row[0] + " tells a STORM of " + row[2], told, 1);
        }
    }

    private static void stormsOneAndMost() {
        ThunderCasks x = new ThunderCasks();
        x.storms(20);
        check.due("twenty DAYS: now(0)", x.now(0), 20);
        check.due("forty draws: count(6)", x.count(6), 1775811865);
        ThunderCasks y = new ThunderCasks();
        for (int i = 0; i < 20; i++) {
            y.storms(1);
        }
        check.same("twenty times one", Check.shown(y), Check.shown(x));
        check.due("storms(21)", x.storms(21), Check.BEYOND);
        check.due("storms(0)", x.storms(0), Check.BEYOND);
        check.due("no draw by these: count(6)", x.count(6), 1775811865);
        stormOfTheSameDay();
    }

    /** Seed 0 tells 38 for CELLAR 0, and DAY 0 brings it there at once. */
    private static void stormOfTheSameDay() {
        ThunderCasks x = new ThunderCasks();
        Check.add(x, Check.MELLOW, 0, 0, 0, 0);
        x.seed(0);
        // LOUD (38 - 9 + 1) / 2 = 15, above 10.
        check.due("CLAPS then: storms(1)", x.storms(1), 1);
    }

    private static void seedAnswersAny() {
        ThunderCasks x = new ThunderCasks();
        int[] seeds = {0, -1, Integer.MIN_VALUE, Integer.MAX_VALUE, -1000001, -1000007, 1};
        int was = 1;
        for (int v : seeds) {
            check.due("seed(" + v + ")", x.seed(v), was);
            check.due("count(6)", x.count(6), v);
            was = v;
        }
        check.due("none was a finding: status(-1)", x.status(-1), 0);
    }

    private static void oddsLeastAndMost() {
        long[] aboves = {1, 5, 2, 1, 1, 1, 0};
        long[] belows = {1, 6, 3, 2, 3, 6, 1};
        ThunderCasks x = new ThunderCasks();
        for (int taken = 0; taken <= 6; taken++) {
            long above = 1;
            long below = 1;
            for (int n = 0; n <= 23; n++) {
                check.due("odds(" + n + ", 0), " + taken + " taken", x.odds(n, 0), above);
                check.due("odds(" + n + ", 1), " + taken + " taken", x.odds(n, 1), below);
                above *= aboves[taken];
                below *= belows[taken];
            }
            if (taken < 6) {
                x.cask(0, taken);
            }
        }
        check.due("a second one beside the first takes none: cask", x.cask(0, 0), 6);
        check.due("odds(1, 1)", x.odds(1, 1), 1);
        check.due("odds(24, 0)", x.odds(24, 0), -1000001L);
        check.due("odds(0, 2)", x.odds(0, 2), -1000001L);
    }
}
