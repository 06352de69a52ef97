/** Promises 16 to 21: where to lay a cask, as what, with what, and which to empty. */
public final class WhereTest {
    private static final Check check = new Check();

    public static void main(String[] args) {
        lay();
        kindFor();
        pitchFor();
        hoopsFor();
        frostFor();
        empty();
        check.end();
    }

    private static void lay() {
        ThunderCasks x = new ThunderCasks();
        Check.add(x, Check.CASK, 3, 0, 0, 999);
        check.due("lay(0, 0)", x.lay(0, 0), 0);
        check.due("lay(0, 1)", x.lay(0, 1), 0);
        check.due("lay(0, 2)", x.lay(0, 2), 1);
        x.storm(2, 50);
        check.due("lay(0, 40)", x.lay(0, 40), 2);
        x.cask(Check.CASK, 4);
        x.change(0, 0, Check.ECHO);
        check.due("an echo lay(0, 0)", x.lay(0, 0), 4);
        check.due("of(0, 1)", x.of(0, 1), 3);
        check.due("lay(2, 0)", x.lay(2, 0), Check.BEYOND);
        check.due("lay(-1, 0)", x.lay(-1, 0), Check.BEYOND);
        check.due("lay(0, -1)", x.lay(0, -1), Check.BEYOND);
        check.due("lay(0, 41)", x.lay(0, 41), Check.BEYOND);
    }

    private static void kindFor() {
        ThunderCasks x = new ThunderCasks();
        Check.add(x, Check.HEAT, 5, 0, 0, 999);
        check.due("kindFor(0, 0)", x.kindFor(0, 0), Check.CASK);
        check.due("by AGE kindFor(0, 3)", x.kindFor(0, 3), Check.ROLL);
        x.change(0, 2, 40);
        check.due("kindFor(0, 0)", x.kindFor(0, 0), Check.CRACK);
        x.change(0, 5, 100);
        check.due("kindFor(0, 0)", x.kindFor(0, 0), Check.ROLL);
        x.sell(0);
        x.cask(Check.HEAT, 5);
        check.due("kindFor(0, 0)", x.kindFor(0, 0), Check.ECHO);
        check.due("of(0, 0)", x.of(0, 0), Check.HEAT);
        check.due("kindFor(2, 0)", x.kindFor(2, 0), Check.BEYOND);
        check.due("kindFor(0, -1)", x.kindFor(0, -1), Check.BEYOND);
        check.due("kindFor(0, 41)", x.kindFor(0, 41), Check.BEYOND);
    }

    private static void pitchFor() {
        ThunderCasks x = new ThunderCasks();
        Check.add(x, Check.CASK, 5, 20, 7, 999);
        Check.add(x, Check.CASK, 5, 30, 0, 999);
        Check.add(x, Check.CASK, 5, 30, 1, 999);
        Check.add(x, Check.CASK, 4, 30, 2, 999);
        check.due("pitchFor(0, 0)", x.pitchFor(0, 0), 0);
        check.due("pitchFor(0, 1)", x.pitchFor(0, 1), 2);
        check.due("of(0, 3)", x.of(0, 3), 7);
        eighthPitch();
        check.due("pitchFor(4, 1)", x.pitchFor(4, 1), Check.BEYOND);
        check.due("pitchFor(0, -1)", x.pitchFor(0, -1), Check.BEYOND);
        check.due("pitchFor(0, 41)", x.pitchFor(0, 41), Check.BEYOND);
        check.due("pitchFor(0, 40)", x.pitchFor(0, 40) >= 0 ? 1 : 0, 1);
    }

    /** Seven others at most lie beside it, so the eighth pitch is the greatest that can be due. */
    private static void eighthPitch() {
        ThunderCasks x = new ThunderCasks();
        Check.add(x, Check.MELLOW, 5, 500, 0, 999);
        for (int pitch = 0; pitch < 7; pitch++) {
            Check.add(x, Check.MELLOW, 5, 50, pitch, 999);
        }
        check.due("pitchFor(0, 1)", x.pitchFor(0, 1), 7);
    }

    private static void hoopsFor() {
        ThunderCasks x = new ThunderCasks();
        Check.add(x, Check.CASK, 5, 51, 0, 100);
        check.due("hoopsFor(0, 0)", x.hoopsFor(0, 0), 0);
        check.due("hoopsFor(0, 1)", x.hoopsFor(0, 1), 50);
        check.due("hoopsFor(0, 6)", x.hoopsFor(0, 6), 55);
        x.frost(5, 2);
        check.due("hoopsFor(0, 1)", x.hoopsFor(0, 1), 60);
        x.change(0, 2, 191);
        check.due("hoopsFor(0, 1)", x.hoopsFor(0, 1), 200);
        x.change(0, 2, 192);
        check.due("hoopsFor(0, 1)", x.hoopsFor(0, 1), Check.NONE);
        x.change(0, 6, 999);
        check.due("BURST stays: hoopsFor(0, 1)", x.hoopsFor(0, 1), 0);
        check.due("of(0, 4)", x.of(0, 4), 100);
        check.due("hoopsFor(0, 20)", x.hoopsFor(0, 20), 0);
        check.due("hoopsFor(0, 21)", x.hoopsFor(0, 21), Check.BEYOND);
        check.due("hoopsFor(0, -1)", x.hoopsFor(0, -1), Check.BEYOND);
        check.due("hoopsFor(1, 0)", x.hoopsFor(1, 0), Check.BEYOND);
    }

    private static void frostFor() {
        ThunderCasks x = new ThunderCasks();
        Check.add(x, Check.CASK, 5, 81, 0, 100);
        x.frost(5, 7);
        check.due("frostFor(5, 0)", x.frostFor(5, 0), 9);
        check.due("frostFor(5, 1)", x.frostFor(5, 1), 4);
        check.due("frostFor(4, 1)", x.frostFor(4, 1), Check.NONE);
        check.due("cellar(5, 0)", x.cellar(5, 0), 7);
        x.storm(5, 50);
        check.due("a storm on day 5: frostFor(5, 5)", x.frostFor(5, 5), 4);
        check.due("a storm on day 5: frostFor(5, 6)", x.frostFor(5, 6), Check.NONE);
        x.storm(5, 10);
        x.change(0, 4, 80);
        check.due("frostFor(5, 1)", x.frostFor(5, 1), 0);
        x.change(0, 4, 79);
        check.due("frostFor(5, 1)", x.frostFor(5, 1), Check.NONE);
        x.change(0, 4, 999);
        check.due("frostFor(5, 40)", x.frostFor(5, 40), 9);
        check.due("frostFor(5, 41)", x.frostFor(5, 41), Check.BEYOND);
        check.due("frostFor(5, -1)", x.frostFor(5, -1), Check.BEYOND);
        check.due("frostFor(6, 0)", x.frostFor(6, 0), Check.BEYOND);
        check.due("frostFor(-1, 0)", x.frostFor(-1, 0), Check.BEYOND);
    }

    private static void empty() {
        ThunderCasks x = new ThunderCasks();
        Check.add(x, Check.CASK, 3, 200, 0, 100);
        Check.add(x, Check.CASK, 4, 50, 0, 100);
        Check.add(x, Check.CASK, 5, 200, 0, 100);
        check.due("empty(0)", x.empty(0), 0);
        check.due("empty(1)", x.empty(1), 5);
        Check.add(x, Check.ROLL, 5, 0, 1, 100);
        x.change(3, 5, 300);
        check.due("AGE, too: empty(1)", x.empty(1), 13);
        check.due("of(3, 5)", x.of(3, 5), 300);
        check.due("empty(-1)", x.empty(-1), Check.BEYOND);
        check.due("empty(13)", x.empty(13), Check.BEYOND);
        check.due("empty(12)", x.empty(12), 13);
        x.change(3, 0, Check.ECHO);
        x.change(3, 4, 0);
        for (int i = 0; i < 3; i++) {
            x.cask(Check.HEAT, 5);
        }
        check.due("it hums: empty(1)", x.empty(1), Check.NONE);
        either();
        allOfThem();
    }

    private static void allOfThem() {
        ThunderCasks x = new ThunderCasks();
        for (int i = 0; i < 8; i++) {
            Check.add(x, Check.CASK, 1 + i % 5, 300, i, 100);
        }
        check.due("all eight: empty(1)", x.empty(1), 255);
    }

    /** A storm comes to the least PEAL, so either of two emptied casks takes it: the least number counts. */
    private static void either() {
        ThunderCasks x = new ThunderCasks();
        x.storm(0, 99);
        Check.add(x, Check.CASK, 0, 5, 0, 50);
        Check.add(x, Check.CASK, 0, 50, 1, 200);
        Check.add(x, Check.CASK, 0, 50, 2, 200);
        check.due("empty(1)", x.empty(1), 2);
        x.change(1, 4, 90);
        check.due("empty(1)", x.empty(1), 4);
    }
}
