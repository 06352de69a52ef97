/** Edges of the Terms' first part: what is at first, the least and the greatest, LOUD, LEAKS and BEARS. */
public final class TermsEdgesTest {
    private static final Check check = new Check();

    public static void main(String[] args) {
        findings();
        cellarsAtFirst();
        casksAtFirst();
        leastAndMost();
        ninthCask();
        cellarsWithoutAndWithAll();
        soldOnes();
        loudOfCask();
        loudOfCrack();
        loudOfForged();
        loudOfRoll();
        loudOfMellow();
        loudOfEcho();
        loudOfHeat();
        leaks();
        bears();
        bearsByItsOwnCellar();
        check.end();
    }

    private static void findings() {
        ThunderCasks x = new ThunderCasks();
        check.due("BEYOND is LOW", x.frost(6, 0), -1000001);
        check.due("BEYOND in longs, too", x.odds(24, 0), -1000001L);
        for (int i = 0; i < 8; i++) {
            x.cask(0, 0);
        }
        check.due("FULL is LOW - 1", x.cask(0, 0), -1000002);
        x.hold(0, 0);
        check.due("KIND is LOW - 2", x.as(0, 1), -1000003);
        check.due("NONE is LOW - 3", x.order(1), -1000004);
        check.due("MISSING is LOW - 5", x.as(1, 0), -1000006);
        check.due("SIZE is LOW - 6", x.sheet(0, 8, -1), -1000007);
        int[] told = {7, 2, 1, 1, 1, 0, 1, 1};
        for (int which = -1; which < 7; which++) {
            check.due("status(" + which + ")", x.status(which), told[which + 1]);
        }
    }

    private static void cellarsAtFirst() {
        for (int c = 0; c < 6; c++) {
            ThunderCasks x = new ThunderCasks();
            check.due("FROST is 0 at first", x.frost(c, 9), 0);
            check.due("FROST becomes 9 and is told", x.frost(c, 0), 9);
            check.due("FROST becomes 0 and is told", x.frost(c, 1), 0);
            check.due("a STORM is 10 at first", x.storm(c, 99), 10);
            check.due("a STORM becomes 99 and is told", x.storm(c, 0), 99);
            check.due("a STORM becomes 0 and is told", x.storm(c, 1), 0);
            for (int other = 0; other < 6; other++) {
                check.due("FROST of " + other, x.cellar(other, 0), other == c ? 1 : 0);
                check.due("STORM of " + other, x.cellar(other, 1), other == c ? 1 : 10);
            }
        }
    }

    private static void casksAtFirst() {
        for (int kind = 0; kind < 7; kind++) {
            for (int cellar = 0; cellar < 6; cellar++) {
                ThunderCasks x = new ThunderCasks();
                check.due("the first one's number", x.cask(kind, cellar), 0);
                int[] dues = {kind, cellar, 0, 0, 100, 0, 0};
                for (int what = 0; what < dues.length; what++) {
                    check.due("at first of(0, " + what + ")", x.of(0, what), dues[what]);
                }
            }
        }
    }

    private static void leastAndMost() {
        int[] most = {6, 5, 999, 11, 999, 999, 999};
        for (int what = 0; what < most.length; what++) {
            ThunderCasks x = new ThunderCasks();
            x.cask(0, 0);
            x.cask(0, 0);
            int was = x.of(1, what);
            check.due("change(1, " + what + ", greatest)", x.change(1, what, most[what]), was);
            check.due("of(1, " + what + ")", x.of(1, what), most[what]);
            check.due("change(1, " + what + ", 0)", x.change(1, what, 0), most[what]);
            check.due("of(1, " + what + ")", x.of(1, what), 0);
            check.due("the other's: of(0, " + what + ")", x.of(0, what), was);
        }
    }

    private static void ninthCask() {
        ThunderCasks x = new ThunderCasks();
        for (int i = 0; i < 8; i++) {
            check.due("cask " + i, x.cask(6, 5), i);
            check.due("count(1)", x.count(1), i + 1);
        }
        check.due("the ninth", x.cask(6, 5), Check.FULL);
        check.due("all eight IN it: cellar(5, 2)", x.cellar(5, 2), 255);
        check.due("of(7, 0)", x.of(7, 0), 6);
        check.due("of(8, 0)", x.of(8, 0), Check.BEYOND);
        check.due("count(1)", x.count(1), 8);
    }

    private static void cellarsWithoutAndWithAll() {
        for (int cellar = 0; cellar < 6; cellar++) {
            ThunderCasks x = new ThunderCasks();
            for (int i = 0; i < 8; i++) {
                check.due("none IN it: cellar(" + cellar + ", 2)", x.cellar(cellar, 2), 0);
                check.due("none IN it: cellar(" + cellar + ", 3)", x.cellar(cellar, 3), -1);
                Check.add(x, Check.HEAT, (cellar + 1) % 6, 9 - i, 0, 100);
                check.due("beside it: cellar(.., 2)", x.cellar((cellar + 1) % 6, 2), (2 << i) - 1);
                check.due("the least PEAL: cellar(.., 3)", x.cellar((cellar + 1) % 6, 3), i);
            }
            check.due("no finding: status(-1)", x.status(-1), 0);
        }
    }

    private static void soldOnes() {
        for (int kind = 0; kind < 7; kind++) {
            ThunderCasks x = new ThunderCasks();
            x.cask(0, 0);
            Check.add(x, kind, 5, 999, 11, 999);
            x.change(1, 5, 999);
            x.change(1, 6, 999);
            x.change(0, 2, 7);
            int loud = x.of(1, 7);
            check.due("what it was LOUD: sell(1)", x.sell(1), loud);
            int[] dues = {kind, 5, 0, 11, 999, 0, 999};
            for (int what = 0; what < dues.length; what++) {
                check.due("of(1, " + what + ")", x.of(1, what), dues[what]);
            }
            check.due("the other one's: of(0, 2)", x.of(0, 2), 7);
            check.due("it was silent: sell(1)", x.sell(1), 0);
            check.due("no CLAP: now(1)", x.now(1), 0);
        }
    }

    private static void loud(int kind, int peal, int age, int due) {
        loud(kind, peal, age, 0, due);
    }

    private static void loud(int kind, int peal, int age, int others, int due) {
        ThunderCasks x = new ThunderCasks();
        Check.add(x, kind, 3, peal, 0, 100);
        x.change(0, 5, age);
        for (int i = 0; i < others; i++) {
            x.cask(Check.HEAT, 3);
        }
        String told = "LOUD of kind " + kind + " with PEAL " + peal + " and AGE " + age;
        check.due(told, x.of(0, 7), due);
        check.due(told + " behind no DAYS", x.ahead(0, 7, 0), due);
        check.due(told + " in a BLEND", x.blend(1), due);
        check.due(told + " when sold", x.sell(0), due);
    }

    private static void loudOfCask() {
        loud(Check.CASK, 0, 0, 0);
        loud(Check.CASK, 0, 999, 0);
        loud(Check.CASK, 1, 999, 1);
        loud(Check.CASK, 999, 0, 999);
    }

    private static void loudOfCrack() {
        loud(Check.CRACK, 50, 99, 1);
        loud(Check.CRACK, 50, 100, 0);
        loud(Check.CRACK, 50, 101, 0);
        loud(Check.CRACK, 0, 0, 0);
        loud(Check.CRACK, 0, 1, 0);
        loud(Check.CRACK, 0, 999, 0);
        loud(Check.CRACK, 999, 0, 1998);
        loud(Check.CRACK, 999, 999, 999);
        loud(Check.CRACK, 499, 999, 0);
        loud(Check.CRACK, 500, 999, 1);
    }

    private static void loudOfForged() {
        loud(Check.FORGED, 999, 0, 1998);
        loud(Check.FORGED, 999, 9, 1989);
        loud(Check.FORGED, 999, 10, 0);
        loud(Check.FORGED, 999, 11, 0);
        loud(Check.FORGED, 999, 999, 0);
        loud(Check.FORGED, 5, 9, 1);
        loud(Check.FORGED, 4, 9, 0);
        loud(Check.FORGED, 4, 8, 0);
        loud(Check.FORGED, 0, 0, 0);
    }

    private static void loudOfRoll() {
        loud(Check.ROLL, 0, 0, 0);
        loud(Check.ROLL, 3, 0, 3);
        loud(Check.ROLL, 4, 0, 3);
        loud(Check.ROLL, 7, 0, 6);
        loud(Check.ROLL, 8, 0, 6);
        loud(Check.ROLL, 999, 0, 750);
        loud(Check.ROLL, 0, 999, 999);
        loud(Check.ROLL, 999, 999, 1749);
    }

    private static void loudOfMellow() {
        loud(Check.MELLOW, 0, 0, 0);
        loud(Check.MELLOW, 1, 0, 0);
        loud(Check.MELLOW, 2, 0, 1);
        loud(Check.MELLOW, 3, 0, 1);
        loud(Check.MELLOW, 0, 1, 0);
        loud(Check.MELLOW, 0, 2, 1);
        loud(Check.MELLOW, 0, 999, 499);
        loud(Check.MELLOW, 999, 999, 874);
    }

    private static void loudOfEcho() {
        for (int others = 0; others < 8; others++) {
            loud(Check.ECHO, 0, 0, others, 5 * others);
            loud(Check.ECHO, 999, 999, others, 874 + 5 * others);
            loud(Check.MELLOW, 3, 0, others, 1);
        }
        ThunderCasks x = new ThunderCasks();
        x.cask(Check.ECHO, 3);
        x.cask(Check.ECHO, 2);
        x.cask(Check.ECHO, 4);
        check.due("none beside it in the next CELLARS: of(0, 7)", x.of(0, 7), 0);
        x.change(1, 1, 3);
        check.due("one came to it: of(0, 7)", x.of(0, 7), 5);
        check.due("each is beside the other: of(1, 7)", x.of(1, 7), 5);
    }

    private static void loudOfHeat() {
        loud(Check.HEAT, 0, 0, 0);
        loud(Check.HEAT, 999, 0, 0);
        loud(Check.HEAT, 999, 999, 7, 0);
    }

    private static void leaks() {
        int[] leaks = {1, 3, 1, 0, 0, 5, 5};
        for (int kind = 0; kind < 7; kind++) {
            for (int peal = 0; peal <= 12; peal++) {
                ThunderCasks x = new ThunderCasks();
                Check.add(x, kind, 3, peal, 0, 999);
                check.due("LEAKS of kind " + kind, x.of(0, 8), leaks[kind]);
                x.go(1);
                int due = Math.max(0, peal - leaks[kind]);
                check.due("PEAL of kind " + kind + " that was " + peal, x.of(0, 2), due);
            }
        }
    }

    private static void bearsAt(int hoops, int frost, int plain) {
        int[] dues = {plain, plain / 2, plain + 10, plain + 10, plain + 10, plain, plain / 2};
        for (int kind = 0; kind < 7; kind++) {
            ThunderCasks x = new ThunderCasks();
            Check.add(x, kind, 3, 0, 0, hoops);
            x.frost(3, frost);
            check.due("BEARS of kind " + kind + " with HOOPS " + hoops + ", FROST " + frost, x.of(0, 9), dues[kind]);
        }
    }

    private static void bears() {
        bearsAt(0, 0, 0);
        bearsAt(1, 0, 1);
        bearsAt(999, 0, 999);
        bearsAt(5, 1, 0);
        bearsAt(4, 1, 0);
        bearsAt(6, 1, 1);
        bearsAt(44, 9, 0);
        bearsAt(45, 9, 0);
        bearsAt(46, 9, 1);
        bearsAt(47, 9, 2);
        bearsAt(48, 9, 3);
        bearsAt(0, 9, 0);
        bearsAt(999, 9, 954);
    }

    private static void bearsByItsOwnCellar() {
        for (int c = 0; c < 6; c++) {
            ThunderCasks x = new ThunderCasks();
            x.cask(Check.CASK, c);
            for (int other = 0; other < 6; other++) {
                x.frost(other, other == c ? 0 : 9);
            }
            check.due("FROST elsewhere: of(0, 9)", x.of(0, 9), 100);
            x.frost(c, 9);
            check.due("FROST there: of(0, 9)", x.of(0, 9), 55);
        }
    }
}
