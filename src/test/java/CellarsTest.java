/** Promises 1 to 8: a new object, cellars, storms, casks. */
public final class CellarsTest {
    private static final Check check = new Check();

    public static void main(String[] args) {
        newObject();
        frost();
        cellar();
        storm();
        cask();
        loud();
        leaks();
        bears();
        wrongOf();
        change();
        sell();
        check.end();
    }

    private static void newObject() {
        ThunderCasks x = new ThunderCasks();
        check.due("status(-1)", x.status(-1), 0);
        for (int c = 0; c < 6; c++) {
            check.due("cellar frost", x.cellar(c, 0), 0);
            check.due("cellar storm", x.cellar(c, 1), 10);
            check.due("cellar casks", x.cellar(c, 2), 0);
            check.due("cellar catcher", x.cellar(c, 3), -1);
        }
        int[] nows = {0, 0, 0, 0, 0, -1, 0};
        for (int what = 0; what < nows.length; what++) {
            check.due("now(" + what + ")", x.now(what), nows[what]);
        }
        int[] counts = {0, 0, 0, 0, 0, 0, 1, 0};
        for (int what = 0; what < counts.length; what++) {
            check.due("count(" + what + ")", x.count(what), counts[what]);
        }
        check.due("tear()", x.tear(), 0);
        check.due("of(0, 0)", x.of(0, 0), Check.BEYOND);
        for (int spot = 0; spot < 10; spot++) {
            check.due("as", x.as(spot, 0), Check.MISSING);
        }
        for (int s = 0; s < 4; s++) {
            check.due("judge", x.judge(s), Check.MISSING);
        }
        check.due("undo()", x.undo(), Check.NONE);
    }

    private static void frost() {
        ThunderCasks x = new ThunderCasks();
        check.due("frost(2, 9)", x.frost(2, 9), 0);
        check.due("frost(2, 3)", x.frost(2, 3), 9);
        check.due("cellar(2, 0)", x.cellar(2, 0), 3);
        check.due("cellar(1, 0)", x.cellar(1, 0), 0);
        check.due("frost(5, 0)", x.frost(5, 0), 0);
        int[][] wrong = {{-1, 0}, {6, 0}, {2, -1}, {2, 10}, {Integer.MIN_VALUE, 1}, {2, Integer.MAX_VALUE}};
        for (int[] w : wrong) {
            check.due("frost", x.frost(w[0], w[1]), Check.BEYOND);
        }
        check.due("cellar(2, 0)", x.cellar(2, 0), 3);
        check.due("status(0)", x.status(0), wrong.length);
    }

    private static void cellar() {
        ThunderCasks x = new ThunderCasks();
        Check.add(x, Check.CASK, 3, 7, 0, 100);
        Check.add(x, Check.HEAT, 3, 5, 0, 100);
        Check.add(x, Check.ROLL, 3, 5, 0, 100);
        Check.add(x, Check.ROLL, 0, 1, 0, 100);
        check.due("cellar(3, 2)", x.cellar(3, 2), 7);
        check.due("cellar(3, 3)", x.cellar(3, 3), 1);
        check.due("cellar(0, 2)", x.cellar(0, 2), 8);
        check.due("cellar(0, 3)", x.cellar(0, 3), 3);
        check.due("cellar(1, 3)", x.cellar(1, 3), -1);
        check.due("cellar(-1, 0)", x.cellar(-1, 0), Check.BEYOND);
        check.due("cellar(6, 0)", x.cellar(6, 0), Check.BEYOND);
        check.due("cellar(0, -1)", x.cellar(0, -1), Check.BEYOND);
        check.due("cellar(0, 4)", x.cellar(0, 4), Check.BEYOND);
    }

    private static void storm() {
        ThunderCasks x = new ThunderCasks();
        check.due("storm(0, 99)", x.storm(0, 99), 10);
        check.due("storm(0, 0)", x.storm(0, 0), 99);
        check.due("storm(5, 1)", x.storm(5, 1), 10);
        check.due("cellar(0, 1)", x.cellar(0, 1), 0);
        check.due("storm(-1, 0)", x.storm(-1, 0), Check.BEYOND);
        check.due("storm(6, 0)", x.storm(6, 0), Check.BEYOND);
        check.due("storm(5, -1)", x.storm(5, -1), Check.BEYOND);
        check.due("storm(5, 100)", x.storm(5, 100), Check.BEYOND);
        check.due("cellar(5, 1)", x.cellar(5, 1), 1);
    }

    private static void cask() {
        ThunderCasks x = new ThunderCasks();
        check.due("cask(-1, 0)", x.cask(-1, 0), Check.BEYOND);
        check.due("cask(7, 0)", x.cask(7, 0), Check.BEYOND);
        check.due("cask(0, -1)", x.cask(0, -1), Check.BEYOND);
        check.due("cask(0, 6)", x.cask(0, 6), Check.BEYOND);
        check.due("count(1)", x.count(1), 0);
        for (int i = 0; i < 8; i++) {
            check.due("cask", x.cask(i % 7, i % 6), i);
        }
        check.due("cask(0, 0)", x.cask(0, 0), Check.FULL);
        check.due("cask(7, 0)", x.cask(7, 0), Check.BEYOND);
        check.due("count(1)", x.count(1), 8);
        int[] marks = {6, 0, 0, 0, 100, 0, 0};
        for (int what = 0; what < marks.length; what++) {
            check.due("of(6, " + what + ")", x.of(6, what), marks[what]);
        }
    }

    private static void loudAt(int peal, int age, int others, int... dues) {
        for (int kind = 0; kind < 7; kind++) {
            ThunderCasks x = new ThunderCasks();
            for (int i = 0; i < others; i++) {
                x.cask(0, 2);
            }
            x.cask(0, 1);
            int cask = Check.add(x, kind, 2, peal, 0, 100);
            x.change(cask, 5, age);
            check.due("LOUD of kind " + kind, x.of(cask, 7), dues[kind]);
        }
    }

    private static void loud() {
        loudAt(41, 7, 0, 41, 75, 38, 19, 19, 0, 75);
        loudAt(41, 7, 3, 41, 75, 38, 19, 34, 0, 75);
        loudAt(41, 9, 6, 41, 73, 40, 20, 50, 0, 73);
        loudAt(41, 10, 0, 41, 72, 41, 20, 20, 0, 0);
        loudAt(3, 7, 1, 3, 0, 10, 5, 10, 0, 0);
        loudAt(0, 0, 0, 0, 0, 0, 0, 0, 0, 0);
        loudAt(999, 999, 0, 999, 999, 1749, 874, 874, 0, 0);
        loudAt(999, 0, 0, 999, 1998, 750, 375, 375, 0, 1998);
    }

    private static void leaks() {
        int[] dues = {1, 3, 1, 0, 0, 5, 5};
        ThunderCasks x = new ThunderCasks();
        for (int kind = 0; kind < 7; kind++) {
            int cask = x.cask(kind, 0);
            check.due("LEAKS of kind " + kind, x.of(cask, 8), dues[kind]);
            x.change(cask, 2, 500);
            check.due("LEAKS of kind " + kind, x.of(cask, 8), dues[kind]);
        }
    }

    private static void bearsAt(int hoops, int frost, int... dues) {
        ThunderCasks x = new ThunderCasks();
        x.frost(4, frost);
        x.frost(3, 9);
        for (int kind = 0; kind < 7; kind++) {
            int cask = Check.add(x, kind, 4, 0, 0, hoops);
            check.due("BEARS of kind " + kind, x.of(cask, 9), dues[kind]);
        }
    }

    private static void bears() {
        bearsAt(100, 0, 100, 50, 110, 110, 110, 100, 50);
        bearsAt(51, 4, 31, 15, 41, 41, 41, 31, 15);
        bearsAt(10, 9, 0, 0, 10, 10, 10, 0, 0);
        bearsAt(999, 9, 954, 477, 964, 964, 964, 954, 477);
    }

    private static void wrongOf() {
        ThunderCasks x = new ThunderCasks();
        x.cask(0, 0);
        check.due("of(-1, 0)", x.of(-1, 0), Check.BEYOND);
        check.due("of(1, 0)", x.of(1, 0), Check.BEYOND);
        check.due("of(8, 0)", x.of(8, 0), Check.BEYOND);
        check.due("of(0, -1)", x.of(0, -1), Check.BEYOND);
        check.due("of(0, 10)", x.of(0, 10), Check.BEYOND);
    }

    private static void change() {
        int[] first = {4, 5, 0, 0, 100, 0, 0};
        int[] most = {6, 5, 999, 11, 999, 999, 999};
        ThunderCasks x = new ThunderCasks();
        x.cask(0, 0);
        x.cask(4, 5);
        for (int what = 0; what < 7; what++) {
            check.due("change least " + what, x.change(1, what, 0), first[what]);
            check.due("change most " + what, x.change(1, what, most[what]), 0);
            check.due("change below " + what, x.change(1, what, -1), Check.BEYOND);
            check.due("change above " + what, x.change(1, what, most[what] + 1), Check.BEYOND);
            check.due("of(1, " + what + ")", x.of(1, what), most[what]);
        }
        check.due("of(0, 4)", x.of(0, 4), 100);
        check.due("change(2, 2, 1)", x.change(2, 2, 1), Check.BEYOND);
        check.due("change(-1, 2, 1)", x.change(-1, 2, 1), Check.BEYOND);
        check.due("change(0, 7, 1)", x.change(0, 7, 1), Check.BEYOND);
        check.due("change(0, -1, 1)", x.change(0, -1, 1), Check.BEYOND);
    }

    private static void sell() {
        ThunderCasks x = new ThunderCasks();
        Check.add(x, Check.ROLL, 2, 40, 3, 77);
        x.change(0, 5, 12);
        x.change(0, 6, 4);
        check.due("sell(0)", x.sell(0), 42);
        int[] marks = {2, 2, 0, 3, 77, 0, 4, 0};
        for (int what = 0; what < marks.length; what++) {
            check.due("of(0, " + what + ")", x.of(0, what), marks[what]);
        }
        check.due("sell(0)", x.sell(0), 0);
        check.due("now(1)", x.now(1), 0);
        check.due("sell(1)", x.sell(1), Check.BEYOND);
        check.due("sell(-1)", x.sell(-1), Check.BEYOND);
    }
}
