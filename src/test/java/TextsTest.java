/** Promises 31 to 33: the tape, and passes from texts. */
public final class TextsTest {
    private static final Check check = new Check();

    public static void main(String[] args) {
        feed();
        wipe();
        caskItems();
        otherItems();
        faults();
        ninth();
        faultChangesNothing();
        check.end();
    }

    private static void feed() {
        ThunderCasks x = new ThunderCasks();
        check.due("feed(0, 0)", x.feed(0, 0), Check.BEYOND);
        check.due("feed(0, 5)", x.feed(0, 5), Check.BEYOND);
        check.due("feed(0, -1)", x.feed(0, -1), Check.BEYOND);
        check.due("feed, a high byte left out", x.feed(0x7A686561, 3), 3);
        check.due("feed", x.feed(0x74, 1), 4);
        check.due("text()", x.text(), 1);
        check.due("of(0, 0)", x.of(0, 0), Check.HEAT);
        for (int i = 1; i <= 29; i++) {
            check.due("feed", x.feed(-1, 4), 4 * i);
        }
        check.due("feed(1, 3)", x.feed(1, 3), 119);
        check.due("feed(1, 2)", x.feed(1, 2), Check.FULL);
        check.due("count(5)", x.count(5), 119);
        check.due("feed(1, 5)", x.feed(1, 5), Check.BEYOND);
        check.due("feed(1, 1)", x.feed(1, 1), 120);
        check.due("feed(1, 1)", x.feed(1, 1), Check.FULL);
    }

    private static void wipe() {
        ThunderCasks x = new ThunderCasks();
        check.due("wipe()", x.wipe(), 0);
        x.feed(0, 3);
        check.due("wipe()", x.wipe(), 3);
        check.due("wipe()", x.wipe(), 0);
        check.due("count(5)", x.count(5), 0);
    }

    private static void marks(ThunderCasks x, int cask, int kind, int cellar, int peal, int pitch, int hoops) {
        int[] dues = {kind, cellar, peal, pitch, hoops, 0, 0};
        for (int what = 0; what < dues.length; what++) {
            check.due("of(" + cask + ", " + what + ")", x.of(cask, what), dues[what]);
        }
    }

    private static void caskItems() {
        ThunderCasks x = new ThunderCasks();
        check.due("text", Check.read(x, "cask;crack in 5;roll peal 999;mellow pitch 11"), 4);
        check.due("text", Check.read(x, "  echo in4peal 07pitch2hoops0   ;heat hoops 999 ;  forged"), 3);
        check.due("count(5)", x.count(5), 0);
        marks(x, 0, Check.CASK, 0, 0, 0, 100);
        marks(x, 1, Check.CRACK, 5, 0, 0, 100);
        marks(x, 2, Check.ROLL, 0, 999, 0, 100);
        marks(x, 3, Check.MELLOW, 0, 0, 11, 100);
        marks(x, 4, Check.ECHO, 4, 7, 2, 0);
        marks(x, 5, Check.HEAT, 0, 0, 0, 999);
        marks(x, 6, Check.FORGED, 0, 0, 0, 100);
        check.due("text", Check.read(x, "roll in 2 hoops 0000000000000000000012"), 1);
        marks(x, 7, Check.ROLL, 2, 0, 0, 12);
    }

    private static void otherItems() {
        ThunderCasks x = new ThunderCasks();
        check.due("text", Check.read(x, "storm 5 99;frost 0 9;storm 0 0;storm 5 98;frost 5 1"), 5);
        check.due("cellar(5, 1)", x.cellar(5, 1), 98);
        check.due("cellar(0, 1)", x.cellar(0, 1), 0);
        check.due("cellar(0, 0)", x.cellar(0, 0), 9);
        check.due("cellar(5, 0)", x.cellar(5, 0), 1);
        check.due("cellar(1, 1)", x.cellar(1, 1), 10);
        check.due("status(-1)", x.status(-1), 0);
    }

    private static void fault(String text, int place) {
        ThunderCasks x = new ThunderCasks();
        check.due("'" + text + "'", Check.read(x, text), -1 - place);
        check.due("count(1)", x.count(1), 0);
        check.due("count(5)", x.count(5), 0);
        check.due("status(-1)", x.status(-1), 0);
    }

    private static void faults() {
        fault("", 0);
        fault("   ", 3);
        fault(";", 0);
        fault("5", 0);
        fault(" casks", 1);
        fault("cas", 0);
        fault("bask", 0);
        fault("caskz", 0);
        fault("caska", 0);
        fault("cask`", 4);
        fault("cask{", 4);
        fault("cask peal 1/", 11);
        fault("cask peal 1:", 11);
        fault("cask xn 5", 5);
        fault("Cask", 0);
        fault("cask ;", 6);
        fault("cask ; ", 7);
        fault("cask ;;", 6);
        fault("cask cask", 5);
        fault("cask 5", 5);
        fault("cask in", 7);
        fault("cask in ", 8);
        fault("cask in 6", 8);
        fault("cask in x", 8);
        fault("cask in ;", 8);
        fault("cask in 0 in 1", 10);
        fault("cask peal 1000", 10);
        fault("cask peal 99999999999999999999", 10);
        fault("cask peal 4294967296", 10);
        fault("cask pitch 12", 11);
        fault("cask hoops 1000", 11);
        fault("cask hoops 1 in 2", 13);
        fault("cask peal 1 in 2", 12);
        fault("cask hoops 1 pitch 2", 13);
        fault("cask?", 4);
        fault("cask in ?", 8);
        fault("ca?sk", 0);
        fault("cask\t", 4);
        fault("cask;" + (char) 233, 5);
        fault("storm", 5);
        fault("storm 6 0", 6);
        fault("storm 5", 7);
        fault("storm 5 100", 8);
        fault("storm 5;", 7);
        fault("storm 5 5 5", 10);
        fault("storm in 5", 6);
        fault("frost 6 0", 6);
        fault("frost 0 10", 8);
        fault("frost 0 9 cask", 10);
        fault("frost 05", 8);
        fault("frost 09", 6);
        fault("in 5", 0);
        fault("-1", 0);
        fault("cask peal -1", 10);
    }

    private static void ninth() {
        ThunderCasks x = new ThunderCasks();
        x.cask(0, 0);
        check.due("text", Check.read(x, "cask;cask;cask;cask;cask;cask;cask; cask"), -1 - 36);
        check.due("count(1)", x.count(1), 1);
        check.due("text", Check.read(x, "cask;cask;cask;cask;cask;cask;cask;frost 1 1"), 8);
        check.due("count(1)", x.count(1), 8);
        check.due("text", Check.read(x, "frost 2 2;heat in 9"), -1 - 10);
        check.due("text", Check.read(x, "frost 2 2"), 1);
        check.due("status(-1)", x.status(-1), 0);
    }

    private static void faultChangesNothing() {
        ThunderCasks x = new ThunderCasks();
        x.cask(3, 3);
        x.hold(1, 0);
        String was = Check.shown(x);
        check.due("text", Check.read(x, "storm 1 1;frost 1 1;cask in 1 peal 1;?"), -1 - 37);
        check.due("all is as it was", was.equals(Check.shown(x)) ? 1 : 0, 1);
        x.cask(1, 0);
        marks(x, 1, 1, 0, 0, 0, 100);
        check.due("as(1, 3)", x.as(1, 3), 0);
        check.due("text", Check.read(x, "heat"), 1);
        check.due("as(1, 3)", x.as(1, 3), 0);
    }
}
