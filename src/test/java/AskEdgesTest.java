/** Edges of promises 10 to 24: now, what will be, where, as what, and blends. */
public final class AskEdgesTest {
    private static final Check check = new Check();

    public static void main(String[] args) {
        nowOfNothing();
        nowOfMost();
        loudestOfSeveral();
        aheadOfNoDaysAndOfMost();
        clapsOfNoDaysAndOfMost();
        burstsOnTheFirstAndTheLast();
        burstsThatCannotBeMore();
        whenNowAndOnTheLast();
        whenLoudestOfAll();
        chainOfNoDaysAndOfMost();
        layInTheFirstAndTheLast();
        kindForTheFirstAndTheLast();
        pitchForTheFirstAndTheLast();
        hoopsForTheLeastAndTheMost();
        frostForTheMostAndTheLeast();
        emptyNoneAndAll();
        emptyTheFewest();
        emptyToTheLastDay();
        blendOfNoneAndOfAll();
        orderOfNoneAndOfMost();
        blendsBetween();
        check.end();
    }

    /** LOUD by its AGE alone: so many as DAYS went by. It BEARS its HOOPS and 10. */
    private static ThunderCasks growing(int hoops) {
        ThunderCasks x = new ThunderCasks();
        Check.add(x, Check.ROLL, 3, 0, 0, hoops);
        x.storm(3, 0);
        return x;
    }

    private static void nowOfNothing() {
        ThunderCasks x = new ThunderCasks();
        int[] dues = {0, 0, 0, 0, 0, -1, 0};
        for (int what = 0; what < dues.length; what++) {
            check.due("no CASKS: now(" + what + ")", x.now(what), dues[what]);
        }
        x.cask(Check.HEAT, 5);
        int[] then = {0, 0, 0, 0, 0, 0, 32};
        for (int what = 0; what < then.length; what++) {
            check.due("a silent one: now(" + what + ")", x.now(what), then[what]);
        }
        check.due("status(-1)", x.status(-1), 0);
    }

    private static void nowOfMost() {
        ThunderCasks x = new ThunderCasks();
        for (int c = 0; c < 8; c++) {
            Check.add(x, Check.CRACK, c % 6, 999, 0, 0);
        }
        int[] dues = {0, 0, 7992, 15984, 255, 0, 63};
        for (int what = 0; what < dues.length; what++) {
            check.due("eight of the greatest: now(" + what + ")", x.now(what), dues[what]);
        }
        check.due("count(2)", x.count(2), 7992);
    }

    private static void loudestOfSeveral() {
        ThunderCasks x = new ThunderCasks();
        Check.add(x, Check.CASK, 0, 5, 0, 5);
        Check.add(x, Check.CASK, 0, 6, 0, 5);
        Check.add(x, Check.CASK, 0, 6, 0, 5);
        check.due("of two the least number: now(5)", x.now(5), 1);
        check.due("LOUD as it BEARS isn't LOUDER: now(4)", x.now(4), 6);
        x.change(2, 2, 7);
        check.due("the last: now(5)", x.now(5), 2);
    }

    private static void aheadOfNoDaysAndOfMost() {
        ThunderCasks x = growing(999);
        x.change(0, 6, 7);
        int[] whats = {2, 5, 6, 7};
        int[] nows = {0, 0, 7, 0};
        int[] lasts = {0, 100, 7, 100};
        for (int i = 0; i < whats.length; i++) {
            check.due("ahead(0, " + whats[i] + ", 0)", x.ahead(0, whats[i], 0), nows[i]);
            check.due("ahead(0, " + whats[i] + ", 100)", x.ahead(0, whats[i], 100), lasts[i]);
        }
        check.due("nothing changes: of(0, 5)", x.of(0, 5), 0);
        check.due("nothing changes: now(0)", x.now(0), 0);
    }

    private static void clapsOfNoDaysAndOfMost() {
        ThunderCasks x = growing(89);
        check.due("claps(0)", x.claps(0), 0);
        check.due("LOUD 99 is borne: claps(99)", x.claps(99), 0);
        check.due("LOUD 100 isn't: claps(100)", x.claps(100), 1);
        x.change(0, 4, 90);
        check.due("LOUD 100 is borne: claps(100)", x.claps(100), 0);
        check.due("nothing changes: now(1)", x.now(1), 0);
    }

    private static void burstsOnTheFirstAndTheLast() {
        ThunderCasks x = growing(0);
        x.change(0, 5, 10);
        check.due("on the first: bursts(0)", x.bursts(0), 1);
        x.change(0, 5, 9);
        check.due("on the second: bursts(0)", x.bursts(0), 2);
        x.change(0, 5, 0);
        x.change(0, 4, 89);
        check.due("on the last: bursts(0)", x.bursts(0), 100);
        x.change(0, 4, 90);
        check.due("on the one behind it: bursts(0)", x.bursts(0), Check.NONE);
        check.due("status(3)", x.status(3), 1);
    }

    private static void burstsThatCannotBeMore() {
        ThunderCasks x = growing(0);
        x.change(0, 6, 998);
        check.due("998 can be more: bursts(0)", x.bursts(0), 11);
        check.due("998 can be more: chain(11)", x.chain(11), 1);
        x.change(0, 6, 999);
        check.due("999 can't: bursts(0)", x.bursts(0), Check.NONE);
        check.due("999 can't: chain(11)", x.chain(11), 0);
        check.due("it is as now: hoopsFor(0, 20)", x.hoopsFor(0, 20), 0);
    }

    private static void whenNowAndOnTheLast() {
        ThunderCasks x = growing(999);
        check.due("now: when(0, 0)", x.when(0, 0), 0);
        check.due("when(0, 1)", x.when(0, 1), 1);
        check.due("on the last: when(0, 100)", x.when(0, 100), 100);
        check.due("behind it: when(0, 101)", x.when(0, 101), Check.NONE);
        x.change(0, 5, 5);
        check.due("just so: when(0, 5)", x.when(0, 5), 0);
        check.due("one more: when(0, 6)", x.when(0, 6), 1);
    }

    private static void whenLoudestOfAll() {
        ThunderCasks x = new ThunderCasks();
        Check.add(x, Check.CRACK, 3, 999, 0, 999);
        check.due("when(0, 1998)", x.when(0, 1998), 0);
        check.due("when(0, 1999)", x.when(0, 1999), Check.NONE);
        check.due("when(0, 2000)", x.when(0, 2000), Check.NONE);
        check.due("when(0, 2001)", x.when(0, 2001), Check.BEYOND);
    }

    private static void chainOfNoDaysAndOfMost() {
        ThunderCasks x = growing(0);
        x.change(0, 5, 999);
        check.due("too loud, but no DAYS: chain(0)", x.chain(0), 0);
        check.due("chain(1)", x.chain(1), 1);
        x.change(0, 5, 0);
        x.change(0, 4, 49);
        check.due("on the last: chain(60)", x.chain(60), 1);
        check.due("chain(59)", x.chain(59), 0);
        x.change(0, 4, 50);
        check.due("on the one behind it: chain(60)", x.chain(60), 0);
        ThunderCasks y = new ThunderCasks();
        check.due("no CASKS: chain(60)", y.chain(60), 0);
        for (int c = 0; c < 8; c++) {
            Check.add(y, Check.CASK, 3, 2, c, 0);
        }
        check.due("all eight: chain(1)", y.chain(1), 255);
    }

    private static void layInTheFirstAndTheLast() {
        for (int c = 0; c < 6; c++) {
            ThunderCasks x = new ThunderCasks();
            Check.add(x, Check.MELLOW, 3, 0, 0, 999);
            check.due("all alike: lay(0, 0)", x.lay(0, 0), 0);
            x.storm(c, 90);
            check.due("lay(0, 6)", x.lay(0, 6), c);
            check.due("lay(0, 40)", x.lay(0, 40), c);
            check.due("before that STORM: lay(0, " + c + ")", x.lay(0, c), 0);
            check.due("nothing changes: of(0, 1)", x.of(0, 1), 3);
        }
    }

    private static void kindForTheFirstAndTheLast() {
        ThunderCasks x = new ThunderCasks();
        Check.add(x, Check.HEAT, 3, 0, 0, 999);
        check.due("all alike: kindFor(0, 0)", x.kindFor(0, 0), Check.CASK);
        // Behind a DAY a CRACK is LOUD 2 * 17 - 1, and BURSTS; a FORGED one is LOUD 2 * 15 - 1, which is borne.
        x.change(0, 2, 20);
        x.change(0, 4, 60);
        check.due("the last: kindFor(0, 1)", x.kindFor(0, 1), Check.FORGED);
        x.change(0, 4, 57);
        check.due("neither is borne: kindFor(0, 1)", x.kindFor(0, 1), Check.CASK);
        x.change(0, 4, 66);
        check.due("both are borne: kindFor(0, 1)", x.kindFor(0, 1), Check.CRACK);
        check.due("nothing changes: of(0, 0)", x.of(0, 0), Check.HEAT);
        ThunderCasks y = growing(999);
        check.due("by AGE: kindFor(0, 40)", y.kindFor(0, 40), Check.ROLL);
        for (int i = 0; i < 7; i++) {
            y.cask(Check.HEAT, 3);
        }
        check.due("by those beside it: kindFor(0, 0)", y.kindFor(0, 0), Check.ECHO);
        check.due("35 and 34 / 2: kindFor(0, 34)", y.kindFor(0, 34), Check.ECHO);
    }

    private static void pitchForTheFirstAndTheLast() {
        for (int pitch = 0; pitch < 12; pitch++) {
            ThunderCasks x = new ThunderCasks();
            Check.add(x, Check.MELLOW, 3, 800, 4, 100);
            Check.add(x, Check.MELLOW, 3, 700, pitch, 999);
            check.due("nothing cancels yet: pitchFor(0, 0)", x.pitchFor(0, 0), 0);
            // Without what cancels it BURSTS.
            check.due("it must cancel: pitchFor(0, 1)", x.pitchFor(0, 1), pitch);
            check.due("nothing changes: of(0, 3)", x.of(0, 3), 4);
            x.change(0, 4, 999);
            check.due("it must not cancel: pitchFor(0, 1)", x.pitchFor(0, 1), pitch == 0 ? 1 : 0);
        }
    }

    private static void hoopsForTheLeastAndTheMost() {
        ThunderCasks x = growing(7);
        check.due("no DAYS: hoopsFor(0, 0)", x.hoopsFor(0, 0), 0);
        check.due("LOUD 10: hoopsFor(0, 10)", x.hoopsFor(0, 10), 0);
        check.due("LOUD 11: hoopsFor(0, 11)", x.hoopsFor(0, 11), 1);
        check.due("LOUD 20: hoopsFor(0, 20)", x.hoopsFor(0, 20), 10);
        x.change(0, 5, 190);
        check.due("LOUD 210: hoopsFor(0, 20)", x.hoopsFor(0, 20), 200);
        check.due("LOUD 209: hoopsFor(0, 19)", x.hoopsFor(0, 19), 199);
        x.change(0, 5, 191);
        check.due("LOUD 211: hoopsFor(0, 20)", x.hoopsFor(0, 20), Check.NONE);
        check.due("no DAYS, however LOUD: hoopsFor(0, 0)", x.hoopsFor(0, 0), 0);
        check.due("nothing changes: of(0, 4)", x.of(0, 4), 7);
        x.change(0, 4, 999);
        check.due("above 200 isn't told: hoopsFor(0, 20)", x.hoopsFor(0, 20), Check.NONE);
        x.change(0, 0, Check.HEAT);
        check.due("HEAT never BURSTS: hoopsFor(0, 20)", x.hoopsFor(0, 20), 0);
    }

    private static void frostForTheMostAndTheLeast() {
        ThunderCasks x = growing(75);
        check.due("no DAYS: frostFor(3, 0)", x.frostFor(3, 0), 9);
        check.due("LOUD 40 is borne by 40: frostFor(3, 40)", x.frostFor(3, 40), 9);
        x.change(0, 4, 74);
        check.due("LOUD 40 isn't by 39: frostFor(3, 40)", x.frostFor(3, 40), 8);
        check.due("LOUD 39 is: frostFor(3, 39)", x.frostFor(3, 39), 9);
        x.change(0, 4, 30);
        check.due("LOUD 40 is borne without FROST: frostFor(3, 40)", x.frostFor(3, 40), 0);
        x.change(0, 4, 29);
        check.due("LOUD 40 isn't: frostFor(3, 40)", x.frostFor(3, 40), Check.NONE);
        check.due("LOUD 39 is: frostFor(3, 39)", x.frostFor(3, 39), 0);
        x.frost(3, 9);
        check.due("another CELLAR helps nothing: frostFor(2, 40)", x.frostFor(2, 40), Check.NONE);
        check.due("no DAYS: frostFor(2, 0)", x.frostFor(2, 0), 9);
        check.due("nothing changes: cellar(3, 0)", x.cellar(3, 0), 9);
        for (int c = 0; c < 6; c++) {
            ThunderCasks y = new ThunderCasks();
            Check.add(y, Check.MELLOW, c, 178, 0, 100);
            // LOUD (178 - 44 + 1) / 2 = 67 behind a DAY without a STORM, BEARS 110 - 5 * 8 = 70.
            y.storm(0, 0);
            check.due("frostFor(" + c + ", 1)", y.frostFor(c, 1), 8);
            check.due("frostFor of the next CELLAR", y.frostFor((c + 1) % 6, 1), 9);
        }
    }

    private static void emptyNoneAndAll() {
        ThunderCasks x = new ThunderCasks();
        check.due("no CASKS: empty(0)", x.empty(0), 0);
        check.due("no CASKS: empty(12)", x.empty(12), 0);
        for (int c = 0; c < 8; c++) {
            Check.add(x, Check.CASK, 3, 300, c, 0);
        }
        x.storm(3, 0);
        check.due("too loud, but no DAYS: empty(0)", x.empty(0), 0);
        check.due("all eight: empty(1)", x.empty(1), 255);
        check.due("all eight: empty(12)", x.empty(12), 255);
        check.due("nothing changes: now(2)", x.now(2), 2400);
        x.change(0, 2, 0);
        check.due("but the first: empty(1)", x.empty(1), 254);
        x.change(7, 2, 0);
        check.due("but the last: empty(1)", x.empty(1), 126);
    }

    /**
     * Storms of 40 come to the least PEAL, on DAYS 0 and 6. Left alone, 2 has 59 at once and BURSTS. If 2 is empty, it has
     * 39, and the second storm comes to 0. If 0 or 1 is, the second storm comes to 2, with 53. If both are, neither does.
     */
    private static void emptyTheFewest() {
        ThunderCasks x = new ThunderCasks();
        Check.add(x, Check.CASK, 0, 30, 0, 100);
        Check.add(x, Check.CASK, 0, 30, 1, 100);
        Check.add(x, Check.CASK, 0, 20, 2, 50);
        x.storm(0, 40);
        check.due("one, though two are a lesser number: empty(7)", x.empty(7), 4);
        check.due("of several the least: empty(6)", x.empty(6), 1);
    }

    private static void emptyToTheLastDay() {
        ThunderCasks x = growing(51);
        x.change(0, 5, 50);
        check.due("LOUD 61 is borne: empty(11)", x.empty(11), 0);
        check.due("LOUD 62 isn't: empty(12)", x.empty(12), 1);
        x.change(0, 4, 52);
        check.due("LOUD 62 is borne: empty(12)", x.empty(12), 0);
        x.change(0, 4, 2);
        check.due("emptied it is LOUD 12: empty(12)", x.empty(12), 1);
        x.change(0, 4, 1);
        check.due("which isn't borne: empty(12)", x.empty(12), Check.NONE);
        check.due("nothing changes: of(0, 5)", x.of(0, 5), 50);
    }

    private static void blendOfNoneAndOfAll() {
        ThunderCasks x = new ThunderCasks();
        check.due("no CASKS: blend(0)", x.blend(0), 0);
        check.due("no CASKS: blend(1)", x.blend(1), Check.BEYOND);
        for (int c = 0; c < 8; c++) {
            Check.add(x, Check.CASK, c % 6, 1 << c, 0, 100);
            check.due("all: blend", x.blend((2 << c) - 1), (2 << c) - 1);
            check.due("one: blend", x.blend(1 << c), 1 << c);
            check.due("one too many: blend", x.blend(2 << c), Check.BEYOND);
        }
        for (int set = 0; set < 256; set++) {
            check.due("blend(" + set + ")", x.blend(set), set);
        }
        ThunderCasks y = new ThunderCasks();
        for (int c = 0; c < 8; c++) {
            Check.add(y, Check.CRACK, 0, 999, 0, 100);
        }
        check.due("the loudest: blend(255)", y.blend(255), 15984);
    }

    private static void orderOfNoneAndOfMost() {
        ThunderCasks x = new ThunderCasks();
        check.due("no CASKS: order(0)", x.order(0), 0);
        check.due("no CASKS: order(1)", x.order(1), Check.NONE);
        check.due("no CASKS: order(9999)", x.order(9999), Check.NONE);
        for (int c = 0; c < 5; c++) {
            Check.add(x, Check.CRACK, 0, 999, 0, 100);
        }
        Check.add(x, Check.CASK, 0, 9, 0, 100);
        Check.add(x, Check.CASK, 0, 4, 0, 100);
        Check.add(x, Check.CASK, 0, 5, 0, 100);
        check.due("order(9999)", x.order(9999), 63);
        check.due("order(9998)", x.order(9998), Check.NONE);
        check.due("order(10000)", x.order(10000), Check.BEYOND);
        check.due("order(-1)", x.order(-1), Check.BEYOND);
        check.due("the fewest: order(9)", x.order(9), 32);
        x.change(5, 2, 0);
        check.due("silent ones count, too: order(0)", x.order(0), 0);
        check.due("order(9)", x.order(9), 192);
        x.change(5, 2, 5);
        check.due("of several the least: order(9)", x.order(9), 96);
        x.change(7, 2, 9);
        check.due("one, though two are a lesser number: order(9)", x.order(9), 128);
    }

    private static void blendsBetween() {
        ThunderCasks x = new ThunderCasks();
        check.due("no CASKS: blends(0, 0)", x.blends(0, 0), 1);
        check.due("no CASKS: blends(1, 9999)", x.blends(1, 9999), 0);
        for (int c = 0; c < 8; c++) {
            Check.add(x, Check.CASK, 0, 1 << c, 0, 100);
        }
        check.due("blends(0, 255)", x.blends(0, 255), 256);
        check.due("blends(0, 254)", x.blends(0, 254), 255);
        check.due("blends(1, 255)", x.blends(1, 255), 255);
        check.due("blends(255, 255)", x.blends(255, 255), 1);
        check.due("blends(256, 9999)", x.blends(256, 9999), 0);
        check.due("the one above the other: blends(8, 7)", x.blends(8, 7), 0);
        check.due("blends(9999, 0)", x.blends(9999, 0), 0);
        for (int c = 0; c < 8; c++) {
            x.change(c, 2, 0);
        }
        check.due("all silent: blends(0, 0)", x.blends(0, 0), 256);
        for (int c = 0; c < 5; c++) {
            x.change(c, 0, Check.CRACK);
            x.change(c, 2, 999);
        }
        x.change(5, 2, 9);
        x.change(6, 2, 10);
        x.change(7, 2, 10);
        check.due("blends(9999, 9999)", x.blends(9999, 9999), 1);
        check.due("blends(9990, 9999)", x.blends(9990, 9999), 2);
    }
}
