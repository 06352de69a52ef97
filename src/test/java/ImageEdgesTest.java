/** Edges of promises 41 to 45: the image that is kept or not, counts, and how many findings there were. */
public final class ImageEdgesTest {
    private static final Check check = new Check();

    public static void main(String[] args) {
        undoOfNothing();
        imageOfNothing();
        undoOfFull();
        spotsOfTakenBackCasks();
        keptIsApart();
        latestIsKept();
        undoLeavesTapeAndSheets();
        undoTakesNoFindingBack();
        tearChangesNothingElse();
        counts();
        statusOfAnother();
        statusOfEach();
        lastCall();
        check.end();
    }

    private static void undoOfNothing() {
        ThunderCasks x = new ThunderCasks();
        check.due("undo()", x.undo(), Check.NONE);
        check.due("status(3)", x.status(3), 1);
        x.image();
        check.due("undo()", x.undo(), 0);
        x.tear();
        check.due("undo()", x.undo(), Check.NONE);
        check.due("status(3)", x.status(3), 2);
    }

    private static void imageOfNothing() {
        ThunderCasks x = new ThunderCasks();
        String was = Check.shown(x);
        check.due("image()", x.image(), 1);
        for (int i = 0; i < 8; i++) {
            Check.add(x, i % 7, i % 6, 100 + i, i, 10);
            x.hold(i, i);
        }
        for (int c = 0; c < 6; c++) {
            x.frost(c, 9);
            x.storm(c, 99);
        }
        x.seed(5);
        x.go(60);
        x.storms(20);
        check.due("undo()", x.undo(), 0);
        check.same("all as it was", Check.shown(x), was);
        for (int kind = 0; kind < 7; kind++) {
            check.due("its number again: cask", x.cask(kind, 0), kind);
            int[] dues = {kind, 0, 0, 0, 100, 0, 0};
            for (int what = 0; what < dues.length; what++) {
                check.due("as at first: of", x.of(kind, what), dues[what]);
            }
        }
        for (int spot = 0; spot < 10; spot++) {
            check.due("as(" + spot + ", 0)", x.as(spot, 0), Check.MISSING);
        }
    }

    private static void undoOfFull() {
        ThunderCasks x = new ThunderCasks();
        for (int i = 0; i < 8; i++) {
            Check.add(x, i % 7, i % 6, 100 + i, i, 10 * i);
            x.change(i, 5, i);
            x.change(i, 6, 990 + i);
        }
        for (int spot = 0; spot < 10; spot++) {
            x.hold(spot, spot % 8);
        }
        x.image();
        String was = Check.shown(x);
        for (int i = 0; i < 8; i++) {
            for (int what = 0; what < 7; what++) {
                x.change(i, what, 1);
            }
        }
        for (int spot = 0; spot < 10; spot++) {
            x.hold(spot, -1);
        }
        x.undo();
        check.same("all as it was", Check.shown(x), was);
        for (int spot = 0; spot < 10; spot++) {
            check.due("as(" + spot + ", 0)", x.as(spot, 0), spot % 8);
        }
        check.due("the ninth", x.cask(0, 0), Check.FULL);
    }

    /** A SPOT holds what it held when the image was kept, not a CASK that isn't there any more. */
    private static void spotsOfTakenBackCasks() {
        ThunderCasks x = new ThunderCasks();
        x.cask(0, 0);
        x.hold(0, 0);
        x.image();
        x.cask(1, 0);
        x.hold(0, 1);
        x.hold(1, 1);
        x.undo();
        check.due("as(0, 0)", x.as(0, 0), 0);
        check.due("as(1, 0)", x.as(1, 0), Check.MISSING);
        check.due("hold(1, 1)", x.hold(1, 1), Check.BEYOND);
        check.due("of(1, 0)", x.of(1, 0), Check.BEYOND);
        check.due("count(7)", x.count(7), 1);
    }

    private static void keptIsApart() {
        ThunderCasks x = new ThunderCasks();
        x.cask(3, 3);
        x.image();
        String was = Check.shown(x);
        for (int i = 0; i < 3; i++) {
            x.change(0, 2, 500 + i);
            x.frost(3, 9 - i);
            x.storm(3, 90 + i);
            x.hold(i, 0);
            x.go(10 + i);
            check.due("which stays: undo()", x.undo(), 0);
            check.same("all as it was", Check.shown(x), was);
        }
        check.due("tear()", x.tear(), 1);
    }

    private static void latestIsKept() {
        ThunderCasks x = new ThunderCasks();
        x.go(1);
        x.image();
        x.go(1);
        x.image();
        x.go(1);
        check.due("undo()", x.undo(), 2);
        check.due("no older one is behind it: undo()", x.undo(), 2);
        check.due("tear()", x.tear(), 1);
        check.due("no older one is behind it: undo()", x.undo(), Check.NONE);
        check.due("now(0)", x.now(0), 2);
    }

    private static void undoLeavesTapeAndSheets() {
        ThunderCasks x = new ThunderCasks();
        Check.feed(x, "ro");
        Check.fill(x, 0, 8, 5, 6);
        x.sheet(1, 16, 4);
        x.image();
        Check.feed(x, "ll");
        x.write(0, 1, 7);
        x.sheet(1, 0, 0);
        x.sheet(2, 32, 1);
        x.undo();
        check.due("count(5)", x.count(5), 4);
        check.due("load(0)", x.load(0), 2);
        check.due("cellar(1, 1)", x.cellar(1, 1), 7);
        check.due("load(1)", x.load(1), Check.MISSING);
        check.due("load(2)", x.load(2), 1);
        check.due("text()", x.text(), 1);
        check.due("of(0, 0)", x.of(0, 0), Check.ROLL);
        x.undo();
        check.due("THE TAPE stays empty: count(5)", x.count(5), 0);
    }

    private static void undoTakesNoFindingBack() {
        ThunderCasks x = new ThunderCasks();
        x.of(0, 0);
        x.image();
        x.of(0, 0);
        x.load(0);
        x.undo();
        check.due("status(-1)", x.status(-1), 3);
        check.due("status(0)", x.status(0), 2);
        check.due("status(5)", x.status(5), 1);
        x.image();
        x.tear();
        check.due("status(-1)", x.status(-1), 3);
    }

    private static void tearChangesNothingElse() {
        ThunderCasks x = new ThunderCasks();
        x.cask(2, 2);
        x.image();
        x.go(5);
        Check.feed(x, "heat");
        String was = Check.shown(x);
        check.due("tear()", x.tear(), 1);
        check.due("tear()", x.tear(), 0);
        check.same("all as it was", Check.shown(x), was);
        check.due("no finding: status(-1)", x.status(-1), 0);
    }

    private static void counts() {
        ThunderCasks x = new ThunderCasks();
        for (int i = 0; i < 8; i++) {
            Check.add(x, Check.HEAT, i % 6, 999, 0, 999);
            x.change(i, 6, 999);
        }
        for (int spot = 0; spot < 10; spot++) {
            x.hold(spot, 0);
        }
        Check.feed(x, " ".repeat(120));
        x.seed(Integer.MIN_VALUE);
        int[] dues = {0, 8, 7992, 0, 7992, 120, Integer.MIN_VALUE, 10};
        for (int what = 0; what < dues.length; what++) {
            check.due("the greatest: count(" + what + ")", x.count(what), dues[what]);
        }
        check.due("no finding: status(-1)", x.status(-1), 0);
        check.due("count(8)", x.count(8), Check.BEYOND);
        check.due("count(-1)", x.count(-1), Check.BEYOND);
        check.due("status(-1)", x.status(-1), 2);
    }

    private static void statusOfAnother() {
        int[] others = {-2, 7, 8, Integer.MIN_VALUE, Integer.MAX_VALUE};
        ThunderCasks x = new ThunderCasks();
        for (int i = 0; i < others.length; i++) {
            check.due("status(" + others[i] + ")", x.status(others[i]), Check.BEYOND);
            check.due("counted from then on: status(0)", x.status(0), i + 1);
            check.due("counted from then on: status(-1)", x.status(-1), i + 1);
        }
        for (int which = 1; which < 7; which++) {
            check.due("no other: status(" + which + ")", x.status(which), 0);
        }
    }

    /** Each finding that can be had within 512 calls, in its own count alone. STATE can't: see DaysTest. */
    private static void statusOfEach() {
        String[] calls = {"of", "cask", "as", "undo", "", "load", "sheet"};
        int[][] params = {{8, 0}, {0, 0}, {0, 1}, {}, {}, {0}, {0, 0, -1}};
        ThunderCasks x = new ThunderCasks();
        for (int i = 0; i < 8; i++) {
            x.cask(0, 0);
        }
        x.hold(0, 0);
        int all = 0;
        for (int which = 0; which < 7; which++) {
            for (int times = 1; times <= 3 && !calls[which].isEmpty(); times++) {
                check.due(calls[which], Calls.ask(x, calls[which], params[which]), Check.BEYOND - which);
                all++;
                check.due("status(" + which + ")", x.status(which), times);
                check.due("status(-1)", x.status(-1), all);
            }
        }
        check.due("STATE: status(4)", x.status(4), 0);
    }

    /** An object is used for 512 calls: the last one answers as any other. */
    private static void lastCall() {
        ThunderCasks x = new ThunderCasks();
        x.cask(Check.ROLL, 3);
        for (int i = 2; i < 512; i++) {
            x.of(9, 0);
        }
        check.due("the 512th call", x.status(-1), 510);
    }
}
