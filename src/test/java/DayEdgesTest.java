/** Edges of the Terms' second part: a DAY that goes by. Days begin with 0, so nothing comes to CELLAR 3 on the first. */
public final class DayEdgesTest {
    private static final Check check = new Check();

    public static void main(String[] args) {
        stormsWrapAround();
        stormsLeastAndMost();
        stormToNone();
        stormToTheLeastPeal();
        pealIsHeldByAStorm();
        ageIsHeld();
        cancelsOnlyAboveNought();
        cancelsByNumbers();
        cancelsInOneCellarOfOnePitch();
        burstsWhenLouder();
        oldOneBursts();
        halfIsCut();
        pealIsHeldByABurst();
        burstIsHeld();
        leastNumberBurstsFirst();
        eightAndNoMore();
        eightTimesADay();
        clapsAreHeld();
        goManyDays();
        check.end();
    }

    private static void peals(String told, ThunderCasks x, int... dues) {
        for (int c = 0; c < dues.length; c++) {
            check.due(told + ": PEAL of " + c, x.of(c, 2), dues[c]);
        }
    }

    private static void stormsWrapAround() {
        ThunderCasks x = new ThunderCasks();
        for (int c = 0; c < 6; c++) {
            Check.add(x, Check.MELLOW, c, 0, 0, 999);
            x.storm(c, 10 + c);
        }
        int[] dues = new int[6];
        for (int day = 0; day < 14; day++) {
            x.go(1);
            dues[day % 6] += 10 + day % 6;
            peals("behind DAY " + day, x, dues);
            check.due("DAY", x.now(0), day + 1);
        }
    }

    private static void stormsLeastAndMost() {
        ThunderCasks x = new ThunderCasks();
        Check.add(x, Check.MELLOW, 0, 5, 0, 999);
        x.storm(0, 0);
        check.due("a STORM of 0: ahead(0, 2, 1)", x.ahead(0, 2, 1), 5);
        x.storm(0, 99);
        check.due("a STORM of 99: ahead(0, 2, 1)", x.ahead(0, 2, 1), 104);
    }

    private static void stormToNone() {
        ThunderCasks x = new ThunderCasks();
        check.due("no CASKS: go(60)", x.go(60), 0);
        ThunderCasks y = new ThunderCasks();
        Check.add(y, Check.MELLOW, 1, 5, 0, 999);
        y.storm(0, 99);
        y.go(1);
        peals("none IN CELLAR 0", y, 5);
    }

    private static void stormToTheLeastPeal() {
        ThunderCasks x = new ThunderCasks();
        Check.add(x, Check.MELLOW, 1, 0, 0, 999);
        Check.add(x, Check.MELLOW, 0, 7, 1, 999);
        Check.add(x, Check.MELLOW, 0, 6, 2, 999);
        Check.add(x, Check.MELLOW, 0, 6, 3, 999);
        check.due("cellar(0, 3)", x.cellar(0, 3), 2);
        x.go(1);
        peals("of two the least number", x, 0, 7, 16, 6);
        check.due("cellar(0, 3)", x.cellar(0, 3), 3);
    }

    private static void pealIsHeldByAStorm() {
        int[] were = {988, 989, 990, 998, 999};
        int[] dues = {998, 999, 999, 999, 999};
        for (int i = 0; i < were.length; i++) {
            ThunderCasks x = new ThunderCasks();
            Check.add(x, Check.MELLOW, 0, were[i], 0, 999);
            x.go(1);
            peals("a STORM of 10 to " + were[i], x, dues[i]);
        }
        ThunderCasks y = new ThunderCasks();
        Check.add(y, Check.HEAT, 0, 999, 0, 999);
        y.storm(0, 99);
        y.go(1);
        peals("held before it LEAKS", y, 994);
    }

    private static void ageIsHeld() {
        int[] were = {0, 997, 998, 999};
        int[] dues = {1, 998, 999, 999};
        for (int i = 0; i < were.length; i++) {
            ThunderCasks x = new ThunderCasks();
            Check.add(x, Check.HEAT, 3, 0, 0, 999);
            x.change(0, 5, were[i]);
            x.go(1);
            check.due("AGE that was " + were[i], x.of(0, 5), dues[i]);
        }
    }

    private static ThunderCasks mellows(int... peals) {
        ThunderCasks x = new ThunderCasks();
        for (int peal : peals) {
            Check.add(x, Check.MELLOW, 3, peal, 4, 999);
        }
        x.go(1);
        return x;
    }

    private static void cancelsOnlyAboveNought() {
        peals("0 and 0", mellows(0, 0), 0, 0);
        peals("0 and 7", mellows(0, 7), 0, 7);
        peals("7 and 0", mellows(7, 0), 7, 0);
        peals("1 and 7", mellows(1, 7), 0, 6);
        peals("7 and 1", mellows(7, 1), 6, 0);
        peals("1 and 1", mellows(1, 1), 0, 0);
        peals("999 and 999", mellows(999, 999), 0, 0);
        ThunderCasks x = new ThunderCasks();
        Check.add(x, Check.CASK, 3, 1, 0, 999);
        Check.add(x, Check.CASK, 3, 50, 0, 999);
        x.go(1);
        peals("what LEAKS to 0 cancels nothing", x, 0, 49);
    }

    private static void cancelsByNumbers() {
        peals("the first two", mellows(9, 9, 9), 0, 0, 9);
        peals("the first with both", mellows(9, 4, 3), 2, 0, 0);
        peals("then the second with the third", mellows(4, 9, 9), 0, 0, 4);
        peals("to nothing", mellows(7, 4, 3), 0, 0, 0);
        peals("eight", mellows(1, 2, 3, 4, 5, 6, 7, 8), 0, 0, 0, 0, 0, 0, 0, 4);
    }

    private static void cancelsInOneCellarOfOnePitch() {
        int[][] others = {{3, 0, 20}, {3, 1, 50}, {3, 11, 50}, {2, 0, 50}, {4, 0, 50}};
        for (int[] o : others) {
            ThunderCasks x = new ThunderCasks();
            Check.add(x, Check.MELLOW, 3, 50, 0, 999);
            Check.add(x, Check.MELLOW, o[0], 30, o[1], 999);
            x.go(1);
            peals("beside one of PITCH " + o[1] + " IN " + o[0], x, o[2]);
        }
        ThunderCasks y = new ThunderCasks();
        Check.add(y, Check.MELLOW, 5, 50, 11, 999);
        Check.add(y, Check.MELLOW, 5, 30, 11, 999);
        y.go(1);
        peals("both of PITCH 11", y, 20, 0);
    }

    private static void burstsWhenLouder() {
        // LOUD behind a DAY of a PEAL of 41, AGE 1.
        int[] louds = {40, 75, 31, 16, 16, 0, 71};
        for (int kind = 0; kind < 7; kind++) {
            for (int hoops = 0; hoops <= 160; hoops++) {
                ThunderCasks x = new ThunderCasks();
                Check.add(x, kind, 3, 41, 0, hoops);
                int due = louds[kind] > x.of(0, 9) ? 1 : 0;
                check.due("kind " + kind + " with HOOPS " + hoops, x.go(1), due);
                check.due("its BURST", x.of(0, 6), due);
                check.due("its AGE", x.of(0, 5), 1 - due);
            }
        }
        ThunderCasks y = new ThunderCasks();
        Check.add(y, Check.CASK, 3, 1, 0, 0);
        check.due("LOUD 0 is borne by nothing: go(1)", y.go(1), 0);
        y.change(0, 2, 2);
        check.due("LOUD 1 isn't: go(1)", y.go(1), 1);
        y.change(0, 2, 999);
        y.change(0, 4, 998);
        check.due("998 is borne by 998: go(1)", y.go(1), 1);
        y.change(0, 2, 999);
        y.change(0, 4, 997);
        check.due("998 isn't by 997: go(1)", y.go(1), 2);
    }

    private static void oldOneBursts() {
        ThunderCasks x = new ThunderCasks();
        Check.add(x, Check.ROLL, 3, 0, 0, 0);
        x.change(0, 5, 9);
        check.due("LOUD 10 by AGE is borne: go(1)", x.go(1), 0);
        check.due("LOUD 11 isn't: go(1)", x.go(1), 1);
        check.due("its AGE", x.of(0, 5), 0);
        check.due("on the next DAY it's young: go(1)", x.go(1), 1);
        check.due("its AGE", x.of(0, 5), 1);
    }

    private static void halfIsCut() {
        // A CASK LEAKS 1 before it BURSTS.
        int[] peals = {2, 3, 4, 51, 52, 999};
        int[] halves = {0, 1, 1, 25, 25, 499};
        for (int i = 0; i < peals.length; i++) {
            ThunderCasks x = new ThunderCasks();
            Check.add(x, Check.MELLOW, 3, 0, 0, 999);
            Check.add(x, Check.CASK, 3, peals[i], 1, 0);
            Check.add(x, Check.MELLOW, 3, 7, 2, 999);
            Check.add(x, Check.MELLOW, 2, 7, 1, 999);
            check.due("go(1)", x.go(1), 1);
            peals("half of " + peals[i] + " less 1", x, halves[i], 0, 7 + halves[i], 7);
        }
    }

    private static void pealIsHeldByABurst() {
        int[] were = {499, 500, 501, 999};
        int[] dues = {998, 999, 999, 999};
        for (int i = 0; i < were.length; i++) {
            ThunderCasks x = new ThunderCasks();
            Check.add(x, Check.CASK, 3, 999, 0, 0);
            Check.add(x, Check.MELLOW, 3, were[i], 1, 999);
            check.due("go(1)", x.go(1), 1);
            peals("499 more than " + were[i], x, 0, dues[i]);
        }
    }

    private static void burstIsHeld() {
        int[] were = {997, 998, 999};
        int[] dues = {998, 999, 999};
        for (int i = 0; i < were.length; i++) {
            ThunderCasks x = new ThunderCasks();
            Check.add(x, Check.CASK, 3, 50, 0, 0);
            x.change(0, 6, were[i]);
            check.due("CLAPS are more, too: go(1)", x.go(1), 1);
            check.due("BURST that was " + were[i], x.of(0, 6), dues[i]);
            check.due("count(4)", x.count(4), dues[i]);
        }
    }

    private static void leastNumberBurstsFirst() {
        ThunderCasks x = new ThunderCasks();
        Check.add(x, Check.CASK, 3, 101, 0, 60);
        Check.add(x, Check.CASK, 3, 81, 1, 40);
        // 0 with 100 gives 50 to 1, which with 130 gives 65 to 0, above 60: 32 to 1, borne.
        check.due("go(1)", x.go(1), 3);
        peals("the first one first", x, 0, 32);
        check.due("BURST", x.of(0, 6), 2);
        check.due("BURST", x.of(1, 6), 1);
    }

    private static void eightAndNoMore() {
        ThunderCasks x = new ThunderCasks();
        for (int i = 0; i < 8; i++) {
            Check.add(x, Check.CASK, 3, 2, i, 0);
        }
        check.due("each once: go(1)", x.go(1), 8);
        check.due("then there is none: now(4)", x.now(4), 0);
        for (int c = 0; c < 8; c++) {
            check.due("BURST of " + c, x.of(c, 6), 1);
        }
    }

    /** An ECHO that is LOUD 15 by three beside it, though it is empty, and BEARS 10. */
    private static ThunderCasks humming() {
        ThunderCasks x = new ThunderCasks();
        Check.add(x, Check.ECHO, 3, 0, 0, 0);
        for (int i = 0; i < 3; i++) {
            Check.add(x, Check.HEAT, 3, 0, 0, 0);
        }
        return x;
    }

    private static void eightTimesADay() {
        ThunderCasks x = humming();
        Check.add(x, Check.CASK, 2, 50, 0, 0);
        check.due("claps(1)", x.claps(1), 8);
        check.due("go(1)", x.go(1), 8);
        check.due("BURST of the ECHO", x.of(0, 6), 8);
        check.due("the ninth time it is left: BURST of 4", x.of(4, 6), 0);
        peals("it is left", x, 0, 0, 0, 0, 49);
        check.due("both are too loud still: now(4)", x.now(4), 17);
        check.due("as often on the next DAY: go(1)", x.go(1), 16);
        check.due("BURST of 4", x.of(4, 6), 0);
        check.due("chain(60)", x.chain(60), 1);
        x.change(0, 4, 5);
        check.due("15 is borne by 5 and 10: go(1)", x.go(1), 17);
        check.due("BURST of 4", x.of(4, 6), 1);
        sevenThenAnother();
    }

    /** The last of the eight times is another's: one that is too loud seven times leaves room for one more. */
    private static void sevenThenAnother() {
        ThunderCasks x = new ThunderCasks();
        for (int i = 0; i < 7; i++) {
            Check.add(x, Check.CASK, 3, 2, i, 0);
        }
        Check.add(x, Check.ECHO, 3, 0, 0, 24);
        // LOUD 35 by seven beside it, BEARS 34.
        check.due("seven, then the ECHO once: go(1)", x.go(1), 8);
        check.due("BURST of the ECHO", x.of(7, 6), 1);
        check.due("it is too loud still: now(4)", x.now(4), 128);
        x.change(7, 4, 25);
        check.due("35 is borne: now(4)", x.now(4), 0);
    }

    private static void clapsAreHeld() {
        ThunderCasks x = humming();
        // It shall end at 99999 just so, which is 7 more than eights.
        x.change(0, 4, 999);
        Check.add(x, Check.CASK, 2, 0, 0, 0);
        x.storm(2, 0);
        for (int i = 0; i < 7; i++) {
            x.change(4, 2, 2);
            x.go(1);
        }
        check.due("CLAPS", x.now(1), 7);
        x.change(0, 4, 0);
        for (int i = 0; i < 208; i++) {
            x.go(60);
        }
        check.due("go(18)", x.go(18), 99991);
        check.due("claps(1)", x.claps(1), 99999);
        check.due("claps(2)", x.claps(2), 99999);
        check.due("frostFor(3, 1)", x.frostFor(3, 1), Check.NONE);
        check.due("go(1)", x.go(1), 99999);
        check.due("go(1)", x.go(1), 99999);
        check.due("now(1)", x.now(1), 99999);
        check.due("count(3)", x.count(3), 99999);
        check.due("storms(1)", x.storms(1), 99999);
        check.due("as now, for it can't be more: frostFor(3, 1)", x.frostFor(3, 1), 9);
        check.due("BURST", x.of(0, 6), 999);
    }

    private static void goManyDays() {
        ThunderCasks x = new ThunderCasks();
        check.due("go(60)", x.go(60), 0);
        check.due("now(0)", x.now(0), 60);
        check.due("go(1)", x.go(1), 0);
        check.due("now(0)", x.now(0), 61);
        check.due("go(61)", x.go(61), Check.BEYOND);
        check.due("go(0)", x.go(0), Check.BEYOND);
        check.due("now(0)", x.now(0), 61);
        check.due("count(0)", x.count(0), 61);
    }
}
