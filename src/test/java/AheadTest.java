/** Promises 11 to 15: what will be. */
public final class AheadTest {
    private static final Check check = new Check();

    public static void main(String[] args) {
        ahead();
        claps();
        bursts();
        when();
        chain();
        nothingChanges();
        check.end();
    }

    private static ThunderCasks pair() {
        ThunderCasks x = new ThunderCasks();
        Check.add(x, Check.CASK, 5, 50, 0, 40);
        Check.add(x, Check.ROLL, 5, 40, 1, 999);
        return x;
    }

    private static void ahead() {
        ThunderCasks x = pair();
        check.due("ahead(1, 2, 0)", x.ahead(1, 2, 0), 40);
        check.due("ahead(1, 2, 1)", x.ahead(1, 2, 1), 63);
        check.due("ahead(1, 5, 1)", x.ahead(1, 5, 1), 1);
        check.due("ahead(0, 5, 3)", x.ahead(0, 5, 3), 2);
        check.due("ahead(0, 6, 1)", x.ahead(0, 6, 1), 1);
        check.due("ahead(1, 7, 1)", x.ahead(1, 7, 1), 49);
        check.due("ahead(1, 7, 3)", x.ahead(1, 7, 3), 49);
        check.due("ahead(1, 5, 100)", x.ahead(1, 5, 100), 100);
        int[] wrong = {-1, 0, 1, 3, 4, 8, 9, 10};
        for (int what : wrong) {
            check.due("ahead(0, " + what + ", 0)", x.ahead(0, what, 0), Check.BEYOND);
        }
        check.due("ahead(2, 2, 0)", x.ahead(2, 2, 0), Check.BEYOND);
        check.due("ahead(-1, 2, 0)", x.ahead(-1, 2, 0), Check.BEYOND);
        check.due("ahead(0, 2, -1)", x.ahead(0, 2, -1), Check.BEYOND);
        check.due("ahead(0, 2, 101)", x.ahead(0, 2, 101), Check.BEYOND);
    }

    private static void claps() {
        ThunderCasks x = pair();
        check.due("claps(0)", x.claps(0), 0);
        check.due("claps(1)", x.claps(1), 1);
        int then = x.claps(100);
        x.go(60);
        check.due("go(40)", x.go(40), then);
        check.due("claps(0)", x.claps(0), then);
        check.due("claps(-1)", x.claps(-1), Check.BEYOND);
        check.due("claps(101)", x.claps(101), Check.BEYOND);
    }

    private static void bursts() {
        ThunderCasks x = new ThunderCasks();
        Check.add(x, Check.ROLL, 3, 0, 0, 0);
        Check.add(x, Check.HEAT, 3, 0, 1, 0);
        x.storm(3, 0);
        check.due("bursts(0)", x.bursts(0), 11);
        check.due("bursts(1)", x.bursts(1), Check.NONE);
        x.change(0, 4, 89);
        check.due("bursts(0)", x.bursts(0), 100);
        x.change(0, 4, 90);
        check.due("bursts(0)", x.bursts(0), Check.NONE);
        x.change(0, 4, 0);
        x.change(0, 6, 999);
        check.due("BURST can't be more: bursts(0)", x.bursts(0), Check.NONE);
        check.due("bursts(2)", x.bursts(2), Check.BEYOND);
        check.due("bursts(-1)", x.bursts(-1), Check.BEYOND);
    }

    private static void when() {
        ThunderCasks x = new ThunderCasks();
        Check.add(x, Check.ROLL, 3, 0, 0, 999);
        x.storm(3, 0);
        check.due("when(0, 0)", x.when(0, 0), 0);
        check.due("when(0, 1)", x.when(0, 1), 1);
        check.due("when(0, 100)", x.when(0, 100), 100);
        check.due("when(0, 101)", x.when(0, 101), Check.NONE);
        check.due("when(0, 2000)", x.when(0, 2000), Check.NONE);
        check.due("when(0, 2001)", x.when(0, 2001), Check.BEYOND);
        check.due("when(0, -1)", x.when(0, -1), Check.BEYOND);
        check.due("when(1, 0)", x.when(1, 0), Check.BEYOND);
    }

    private static void chain() {
        ThunderCasks x = new ThunderCasks();
        Check.add(x, Check.CASK, 5, 0, 0, 9);
        Check.add(x, Check.CASK, 4, 0, 0, 8);
        Check.add(x, Check.CASK, 5, 0, 1, 8);
        x.change(1, 6, 3);
        check.due("chain(0)", x.chain(0), 0);
        check.due("chain(4)", x.chain(4), 0);
        check.due("chain(5)", x.chain(5), 2);
        check.due("chain(12)", x.chain(12), 6);
        x.change(0, 4, 8);
        x.storm(4, 0);
        check.due("chain(6)", x.chain(6), 1);
        x.storm(5, 0);
        check.due("chain(60)", x.chain(60), 0);
        check.due("chain(-1)", x.chain(-1), Check.BEYOND);
        check.due("chain(61)", x.chain(61), Check.BEYOND);
    }

    private static void nothingChanges() {
        ThunderCasks x = pair();
        x.hold(3, 1);
        x.seed(77);
        Check.fill(x, 0, 8, -1, -1, -1, -1);
        String was = Check.shown(x);
        x.ahead(0, 2, 50);
        x.claps(50);
        x.bursts(0);
        x.when(1, 60);
        x.chain(50);
        x.lay(0, 10);
        x.kindFor(0, 10);
        x.pitchFor(0, 10);
        x.hoopsFor(0, 10);
        x.frostFor(5, 0);
        x.empty(6);
        x.blend(3);
        x.order(0);
        x.blends(0, 9999);
        x.fits(0, 0);
        x.pealed(0, 0);
        x.kinds(0, 0);
        x.odds(3, 1);
        x.judge(0);
        check.due("all is as it was", was.equals(Check.shown(x)) ? 1 : 0, 1);
        check.due("as(3, 2)", x.as(3, 2), 1);
    }
}
