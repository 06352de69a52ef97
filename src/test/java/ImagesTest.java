/** Promises 41 to 45: images, counts, and how many findings there were. */
public final class ImagesTest {
    private static final Check check = new Check();

    public static void main(String[] args) {
        undo();
        notKept();
        latest();
        tear();
        count();
        status();
        check.end();
    }

    private static ThunderCasks some() {
        ThunderCasks x = new ThunderCasks();
        Check.add(x, Check.CASK, 5, 50, 3, 40);
        Check.add(x, Check.ROLL, 5, 40, 1, 999);
        x.frost(3, 3);
        x.storm(1, 44);
        x.hold(2, 1);
        x.seed(99);
        x.go(7);
        return x;
    }

    private static void undo() {
        ThunderCasks x = some();
        String was = Check.shown(x);
        check.due("image()", x.image(), 1);
        x.cask(6, 1);
        for (int what = 0; what < 7; what++) {
            x.change(0, what, 1);
        }
        x.frost(3, 1);
        x.storm(1, 1);
        x.hold(2, -1);
        x.hold(9, 2);
        x.storms(20);
        x.go(30);
        check.due("undo()", x.undo(), 7);
        check.due("all is as it was", was.equals(Check.shown(x)) ? 1 : 0, 1);
        check.due("as(2, 2)", x.as(2, 2), 1);
        check.due("as(9, 0)", x.as(9, 0), Check.MISSING);
        check.due("of(2, 0)", x.of(2, 0), Check.BEYOND);
        x.go(30);
        check.due("what is kept stays: undo()", x.undo(), 7);
        x.change(0, 2, 77);
        check.due("undo()", x.undo(), 7);
        check.due("of(0, 2) and of(0, 2) ahead", x.of(0, 2), x.ahead(0, 2, 0));
        check.due("a cask again", x.cask(1, 1), 2);
        check.due("HOOPS of it", x.of(2, 4), 100);
    }

    private static void notKept() {
        ThunderCasks x = some();
        x.feed(0, 2);
        Check.fill(x, 1, 8, 5);
        x.image();
        x.feed(0, 3);
        Check.fill(x, 1, 8, 6, 7);
        x.undo();
        check.due("count(5)", x.count(5), 5);
        check.due("load(1)", x.load(1), 2);
        check.due("cellar(0, 1)", x.cellar(0, 1), 6);
    }

    private static void latest() {
        ThunderCasks x = new ThunderCasks();
        x.image();
        x.go(3);
        x.image();
        x.go(3);
        check.due("undo()", x.undo(), 3);
        check.due("undo()", x.undo(), 3);
        check.due("now(0)", x.now(0), 3);
    }

    private static void tear() {
        ThunderCasks x = new ThunderCasks();
        check.due("tear()", x.tear(), 0);
        x.image();
        x.go(1);
        check.due("tear()", x.tear(), 1);
        check.due("tear()", x.tear(), 0);
        check.due("undo()", x.undo(), Check.NONE);
        check.due("now(0)", x.now(0), 1);
        x.image();
        check.due("undo()", x.undo(), 1);
    }

    private static void count() {
        ThunderCasks x = new ThunderCasks();
        Check.add(x, Check.CASK, 5, 50, 3, 40);
        Check.add(x, Check.ROLL, 5, 40, 1, 999);
        x.go(1);
        x.change(1, 6, 10);
        x.feed(0, 3);
        x.seed(-5);
        x.hold(0, 1);
        x.hold(1, 1);
        int[] dues = {1, 2, 63, 1, 11, 3, -5, 2};
        for (int what = 0; what < dues.length; what++) {
            check.due("count(" + what + ")", x.count(what), dues[what]);
        }
        check.due("count(8)", x.count(8), Check.BEYOND);
        check.due("count(-1)", x.count(-1), Check.BEYOND);
    }

    private static void status() {
        ThunderCasks x = new ThunderCasks();
        x.image();
        check.due("status(7)", x.status(7), Check.BEYOND);
        check.due("status(0)", x.status(0), 1);
        check.due("status(-2)", x.status(-2), Check.BEYOND);
        check.due("status(0)", x.status(0), 2);
        for (int i = 0; i < 9; i++) {
            x.cask(0, 0);
        }
        x.hold(0, 0);
        x.as(0, 1);
        x.order(9999);
        x.as(1, 1);
        x.sheet(0, 8, -1);
        x.text();
        int[] dues = {7, 2, 1, 1, 1, 0, 1, 1};
        for (int which = -1; which < 7; which++) {
            check.due("status(" + which + ")", x.status(which), dues[which + 1]);
        }
        x.undo();
        check.due("undo() takes none back: status(-1)", x.status(-1), 7);
    }
}
