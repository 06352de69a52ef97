/**
 * Every finding of every call: what is just beyond is refused, the least and the greatest are not, findings come in the
 * order in which they are asked, and a refused call changes nothing but status().
 */
public final class RefusedTest {
    private static final Check check = new Check();
    private static final int[] CELLAR = {0, 5};
    private static final int[] KIND = {0, 6};
    private static final int LEAST = Integer.MIN_VALUE;
    private static final int MOST = Integer.MAX_VALUE;

    private static final Twins bare = new Twins(check, "a new object", x -> { });
    private static final Twins some = new Twins(check, "three casks", RefusedTest::makeSome);
    private static final Twins full = new Twins(check, "eight casks", RefusedTest::makeFull);

    public static void main(String[] args) {
        cellars();
        casks(bare, 0);
        casks(some, 3);
        casks(full, 8);
        full();
        marks();
        days();
        ahead();
        where();
        blends();
        told();
        draws();
        feed();
        spots();
        sheet();
        write();
        copy();
        loadAndJudge();
        images();
        check.end();
    }

    private static int[] upTo(int most) {
        return new int[] {0, most};
    }

    /** Something everywhere, and an image that differs from what is now. */
    private static void makeSome(ThunderCasks x) {
        Check.add(x, Check.CASK, 5, 50, 3, 40);
        Check.add(x, Check.ECHO, 5, 40, 1, 999);
        Check.add(x, Check.FORGED, 2, 7, 11, 60);
        x.change(1, 5, 12);
        x.change(2, 6, 5);
        x.frost(3, 3);
        x.storm(1, 44);
        x.hold(2, 1);
        x.hold(9, 2);
        x.seed(99);
        x.image();
        x.go(7);
        x.frost(3, 4);
        x.storm(1, 45);
        x.hold(2, 0);
        x.seed(77);
        makeSheets(x);
        Check.feed(x, "heat in 5;frost 1 3");
    }

    private static void makeSheets(ThunderCasks x) {
        Check.fill(x, 0, 8, 1, 2, 3, 4, 5, 6);
        Check.fill(x, 1, 16, 11, 12, 13, 14);
        Check.fill(x, 2, 32, 21);
    }

    private static void makeFull(ThunderCasks x) {
        for (int i = 0; i < 8; i++) {
            x.cask(i % 7, i % 6);
            x.change(i, 2, 30 + i);
        }
        x.image();
        x.hold(0, 7);
        x.hold(2, 3);
        x.go(3);
        makeSheets(x);
        Check.feed(x, "storm 2 2");
    }

    /** More calls than an object is used for: the last DAY can't be had otherwise. */
    private static void makeLate(ThunderCasks x) {
        for (int i = 0; i < 1666; i++) {
            x.go(60);
        }
        makeSome(x);
    }

    private static void cellars() {
        some.bounds("frost", CELLAR, upTo(9));
        some.bounds("cellar", CELLAR, upTo(3));
        some.bounds("storm", CELLAR, upTo(99));
        some.bounds("cask", KIND, CELLAR);
        bare.bounds("frost", CELLAR, upTo(9));
        bare.bounds("cellar", CELLAR, upTo(3));
        bare.bounds("storm", CELLAR, upTo(99));
        bare.bounds("cask", KIND, CELLAR);
    }

    /** All that asks for a CASK, where there are so many: without any, 0 is beyond. */
    private static void casks(Twins twins, int many) {
        int[][] calls = {{many, 0}, {many, 1}, {-1, 0}, {LEAST, 0}, {MOST, 0}};
        for (int[] call : calls) {
            int cask = call[0];
            twins.refused(Check.BEYOND, "of", cask, call[1]);
            twins.refused(Check.BEYOND, "change", cask, call[1], 0);
            twins.refused(Check.BEYOND, "sell", cask);
            twins.refused(Check.BEYOND, "ahead", cask, 2, call[1]);
            twins.refused(Check.BEYOND, "bursts", cask);
            twins.refused(Check.BEYOND, "when", cask, call[1]);
            twins.refused(Check.BEYOND, "lay", cask, call[1]);
            twins.refused(Check.BEYOND, "kindFor", cask, call[1]);
            twins.refused(Check.BEYOND, "pitchFor", cask, call[1]);
            twins.refused(Check.BEYOND, "hoopsFor", cask, call[1]);
            if (cask != -1) {
                twins.refused(Check.BEYOND, "hold", call[1], cask);
            }
        }
        twins.refused(Check.BEYOND, "hold", 0, -2);
        twins.refused(Check.BEYOND, "blend", 1 << many);
        twins.refused(Check.BEYOND, "blend", (1 << many) + (1 << many) - 1);
        twins.refused(Check.BEYOND, "blend", 1 << 30);
        twins.refused(Check.BEYOND, "blend", -1);
        twins.refused(Check.BEYOND, "blend", LEAST);
        twins.taken("blend", (1 << many) - 1);
        if (many > 0) {
            twins.bounds("of", upTo(many - 1), upTo(9));
            twins.bounds("sell", upTo(many - 1));
            twins.bounds("hold", upTo(9), new int[] {-1, many - 1});
        }
    }

    private static void full() {
        for (int kind = 0; kind < 7; kind++) {
            full.refused(Check.FULL, "cask", kind, kind % 6);
        }
        full.refused(Check.FULL, "cask", 0, 5);
        // BEYOND is asked first.
        full.refused(Check.BEYOND, "cask", 7, 0);
        full.refused(Check.BEYOND, "cask", -1, 0);
        full.refused(Check.BEYOND, "cask", 0, 6);
        full.refused(Check.BEYOND, "cask", 0, -1);
    }

    private static void marks() {
        int[] most = {6, 5, 999, 11, 999, 999, 999};
        for (int what = 0; what < most.length; what++) {
            some.taken("change", 2, what, 0);
            some.taken("change", 2, what, most[what]);
            some.refused(Check.BEYOND, "change", 2, what, -1);
            some.refused(Check.BEYOND, "change", 2, what, most[what] + 1);
            some.refused(Check.BEYOND, "change", 2, what, LEAST);
            some.refused(Check.BEYOND, "change", 2, what, MOST);
            some.refused(Check.BEYOND, "change", 3, what, most[what]);
        }
        int[] wrong = {-1, 7, 8, 9, 10, LEAST, MOST};
        for (int what : wrong) {
            some.refused(Check.BEYOND, "change", 0, what, 0);
        }
    }

    private static void days() {
        some.bounds("go", new int[] {1, 60});
        bare.bounds("go", new int[] {1, 60});
        // DAY is 99967.
        Twins late = new Twins(check, "the last days", RefusedTest::makeLate);
        int[] tooMany = {33, 34, 60};
        for (int n : tooMany) {
            late.refused(Check.STATE, "go", n);
        }
        int[] beyond = {0, 61, LEAST, MOST};
        for (int n : beyond) {
            late.refused(Check.BEYOND, "go", n);
        }
        some.bounds("now", upTo(6));
        bare.bounds("now", upTo(6));
    }

    private static void ahead() {
        int[] whats = {2, 5, 6, 7};
        for (int what : whats) {
            some.taken("ahead", 0, what, 0);
            some.taken("ahead", 2, what, 100);
            some.refused(Check.BEYOND, "ahead", 0, what, -1);
            some.refused(Check.BEYOND, "ahead", 2, what, 101);
            some.refused(Check.BEYOND, "ahead", 0, what, LEAST);
            some.refused(Check.BEYOND, "ahead", 0, what, MOST);
        }
        int[] wrong = {-1, 0, 1, 3, 4, 8, 9, 10, LEAST, MOST};
        for (int what : wrong) {
            some.refused(Check.BEYOND, "ahead", 0, what, 1);
        }
        some.bounds("claps", upTo(100));
        bare.bounds("claps", upTo(100));
        some.bounds("bursts", upTo(2));
        some.bounds("when", upTo(2), upTo(2000));
        some.bounds("chain", upTo(60));
        bare.bounds("chain", upTo(60));
        // It lies alone, and a storm of 10 is less than it bears.
        some.refused(Check.NONE, "bursts", 2);
        some.refused(Check.NONE, "when", 2, 2000);
    }

    private static void where() {
        some.bounds("lay", upTo(2), upTo(40));
        some.bounds("kindFor", upTo(2), upTo(40));
        some.bounds("pitchFor", upTo(2), upTo(40));
        some.bounds("hoopsFor", upTo(2), upTo(20));
        some.bounds("frostFor", CELLAR, upTo(40));
        some.bounds("empty", upTo(12));
        bare.bounds("frostFor", CELLAR, upTo(40));
        bare.bounds("empty", upTo(12));
        Twins loud = new Twins(check, "one too loud", x -> {
            makeSome(x);
            x.change(0, 2, 999);
            x.change(1, 4, 0);
            x.change(1, 5, 999);
            x.frost(5, 0);
        });
        loud.refused(Check.NONE, "hoopsFor", 0, 1);
        loud.refused(Check.NONE, "frostFor", 5, 1);
        loud.refused(Check.NONE, "frostFor", 0, 40);
        Twins humming = new Twins(check, "one that hums", RefusedTest::makeHumming);
        humming.refused(Check.NONE, "empty", 1);
        humming.refused(Check.NONE, "empty", 12);
        humming.refused(Check.BEYOND, "empty", 13);
    }

    /** An ECHO is LOUD 15 by three beside it, though it is empty: above what it BEARS without HOOPS. */
    private static void makeHumming(ThunderCasks x) {
        makeSome(x);
        x.change(1, 4, 0);
        x.change(2, 1, 5);
        x.cask(Check.HEAT, 5);
    }

    private static void blends() {
        some.bounds("order", upTo(9999));
        bare.bounds("order", upTo(9999));
        some.bounds("blends", upTo(9999), upTo(9999));
        bare.bounds("blends", upTo(9999), upTo(9999));
        bare.refused(Check.NONE, "order", 1);
        some.refused(Check.NONE, "order", 9999);
    }

    private static void told() {
        String[] calls = {"fits", "pealed", "kinds"};
        for (String call : calls) {
            int[] wrong = {-1, 4, LEAST, MOST};
            for (int w : wrong) {
                // A sheet that isn't there is asked before all, also where there is no such CASK.
                some.refused(Check.BEYOND, call, w, 0);
                some.refused(Check.BEYOND, call, w, 3);
                bare.refused(Check.BEYOND, call, w, 0);
                // The CASK is asked last.
                some.refused(Check.MISSING, call, 3, w);
                some.refused(Check.BEYOND, call, 2, w);
            }
            some.refused(Check.MISSING, call, 3, 0);
            some.refused(Check.BEYOND, call, 0, 3);
            bare.refused(Check.MISSING, call, 0, 0);
            bare.refused(Check.MISSING, call, 3, -1);
            some.taken(call, 0, 0);
            some.taken(call, 2, 2);
        }
        // CLAPS are not as many as its first number tells.
        some.refused(Check.NONE, "pealed", 2, 1);
        some.refused(Check.NONE, "pealed", 1, 0);
    }

    private static void draws() {
        some.bounds("storms", new int[] {1, 20});
        bare.bounds("storms", new int[] {1, 20});
        Twins last = new Twins(check, "the last day but ten", x -> {
            makeLate(x);
            x.go(22);
        });
        last.refused(Check.STATE, "storms", 11);
        last.refused(Check.STATE, "storms", 20);
        last.refused(Check.BEYOND, "storms", 21);
        last.refused(Check.BEYOND, "storms", 0);
        some.bounds("odds", upTo(23), upTo(1));
        bare.bounds("odds", upTo(23), upTo(1));
    }

    private static void makeTape(ThunderCasks x, int length) {
        makeSome(x);
        x.wipe();
        // A text of one ITEM, so that a byte more would be seen.
        Check.feed(x, "roll hoops 7");
        for (int i = 12; i < length; i++) {
            x.feed(' ', 1);
        }
    }

    private static void feed() {
        int[] bytes = {0, -1, LEAST, MOST, 0x63617368};
        int[] wrong = {0, 5, -1, LEAST, MOST};
        for (int length = 116; length <= 120; length++) {
            int has = length;
            Twins tape = new Twins(check, "a tape of " + has, x -> makeTape(x, has));
            for (int n = 1; n <= 4; n++) {
                if (has + n > 120) {
                    tape.refused(Check.FULL, "feed", 0x20202020, n);
                } else {
                    tape.taken("feed", 0x20202020, n);
                }
            }
            for (int n : wrong) {
                tape.refused(Check.BEYOND, "feed", 0x20202020, n);
            }
        }
        for (int b : bytes) {
            for (int n : wrong) {
                some.refused(Check.BEYOND, "feed", b, n);
                bare.refused(Check.BEYOND, "feed", b, n);
            }
        }
    }

    private static void spots() {
        some.bounds("as", upTo(9), KIND);
        bare.bounds("as", upTo(9), KIND);
        for (int kind = 0; kind < 7; kind++) {
            some.refused(Check.MISSING, "as", 0, kind);
            bare.refused(Check.MISSING, "as", 9, kind);
        }
        // BEYOND is asked before MISSING, and this before KIND.
        some.refused(Check.BEYOND, "as", 0, 7);
        some.refused(Check.BEYOND, "as", 0, -1);
        for (int kind = 1; kind < 7; kind++) {
            some.refused(Check.KIND, "as", 2, kind);
        }
        int[] notForged = {2, 3, 4, 5};
        for (int kind : notForged) {
            some.refused(Check.KIND, "as", 9, kind);
        }
        bare.refused(Check.BEYOND, "hold", 10, -1);
        bare.refused(Check.BEYOND, "hold", -1, -1);
    }

    private static void sheet() {
        int[] wrongSheets = {-1, 4, LEAST, MOST};
        int[] wrongBits = {-8, -1, 1, 7, 9, 15, 17, 24, 31, 33, 64, LEAST, MOST};
        int[] bits = {0, 8, 16, 32};
        int[] sizes = {-1, 0, 1, 40, 41, LEAST, MOST};
        for (int n : sizes) {
            for (int s : wrongSheets) {
                some.refused(Check.BEYOND, "sheet", s, 8, n);
                some.refused(Check.BEYOND, "sheet", s, 0, n);
                some.refused(Check.BEYOND, "sheet", s, 7, n);
            }
            for (int b : wrongBits) {
                some.refused(Check.BEYOND, "sheet", 0, b, n);
            }
        }
        for (int s = 0; s < 4; s++) {
            for (int b : bits) {
                some.refused(Check.SIZE, "sheet", s, b, -1);
                some.refused(Check.SIZE, "sheet", s, b, LEAST);
                some.taken("sheet", s, b, 0);
                some.taken("sheet", s, b, 40);
                some.refused(Check.BEYOND, "sheet", s, b, 41);
                some.refused(Check.BEYOND, "sheet", s, b, MOST);
            }
        }
    }

    private static void write() {
        int[] sizes = {6, 4, 1};
        for (int s = 0; s < 3; s++) {
            some.taken("write", s, 0, 50);
            some.taken("write", s, sizes[s] - 1, 50);
            some.refused(Check.BEYOND, "write", s, sizes[s], 50);
            some.refused(Check.BEYOND, "write", s, -1, 50);
            some.refused(Check.BEYOND, "write", s, LEAST, 50);
            some.refused(Check.BEYOND, "write", s, MOST, 50);
        }
        int[] places = {-1, 0, 40, LEAST, MOST};
        int[] wrongSheets = {-1, 4, LEAST, MOST};
        for (int i : places) {
            some.refused(Check.MISSING, "write", 3, i, 50);
            for (int s : wrongSheets) {
                some.refused(Check.BEYOND, "write", s, i, 50);
            }
        }
        Twins none = new Twins(check, "a sheet of no numbers", x -> {
            makeSome(x);
            x.sheet(2, 32, 0);
        });
        none.refused(Check.BEYOND, "write", 2, 0, 50);
    }

    private static void copy() {
        int[] wrongSheets = {-1, 4, LEAST, MOST};
        for (int w : wrongSheets) {
            // With what would be MISSING, KIND and BEYOND later.
            some.refused(Check.BEYOND, "copy", w, 0, 0, 0, 1);
            some.refused(Check.BEYOND, "copy", 0, 0, w, 0, 1);
            some.refused(Check.BEYOND, "copy", w, -1, 3, -1, -1);
            some.refused(Check.BEYOND, "copy", 3, -1, w, -1, -1);
            some.refused(Check.MISSING, "copy", 3, w, 0, w, w);
            some.refused(Check.MISSING, "copy", 0, w, 3, w, w);
            some.refused(Check.MISSING, "copy", 3, w, 3, w, w);
        }
        for (int s = 0; s < 3; s++) {
            for (int t = 0; t < 3; t++) {
                if (s != t) {
                    some.refused(Check.KIND, "copy", s, 0, t, 0, 1);
                    some.refused(Check.KIND, "copy", s, 0, t, 0, 0);
                    some.refused(Check.KIND, "copy", s, -1, t, 99, MOST);
                }
            }
        }
        Twins alike = new Twins(check, "two sheets alike", x -> {
            makeSome(x);
            Check.fill(x, 3, 8, 31, 32, 33, 34);
        });
        int[][] fine = {{0, 0, 4}, {2, 0, 4}, {0, 3, 1}, {5, 0, 1}, {6, 4, 0}, {0, 0, 0}};
        for (int[] w : fine) {
            alike.taken("copy", 0, w[0], 3, w[1], w[2]);
        }
        int[][] wrong = {{0, 0, 5}, {3, 0, 4}, {0, 1, 4}, {0, 4, 1}, {6, 0, 1}, {-1, 0, 1}, {0, -1, 1}, {0, 0, -1},
            {-1, 0, 0}, {0, -1, 0}, {7, 0, 0}, {0, 5, 0}, {MOST, 0, 1}, {0, MOST, 1}, {1, 1, MOST}, {1, 0, MOST},
            {0, 1, MOST}, {MOST, MOST, MOST}, {LEAST, 0, 1}, {0, LEAST, 1}, {0, 0, LEAST}, {LEAST, LEAST, LEAST},
            {6, 4, -1}, {2, 2, LEAST}};
        for (int[] w : wrong) {
            alike.refused(Check.BEYOND, "copy", 0, w[0], 3, w[1], w[2]);
        }
    }

    private static void loadAndJudge() {
        String[] calls = {"load", "judge"};
        int[] wrongSheets = {-1, 4, LEAST, MOST};
        for (String call : calls) {
            for (int s : wrongSheets) {
                some.refused(Check.BEYOND, call, s);
                bare.refused(Check.BEYOND, call, s);
            }
            some.refused(Check.MISSING, call, 3);
            for (int s = 0; s < 4; s++) {
                bare.refused(Check.MISSING, call, s);
            }
        }
    }

    private static void images() {
        bare.refused(Check.NONE, "undo");
        Twins torn = new Twins(check, "a torn image", x -> {
            makeSome(x);
            x.tear();
        });
        torn.refused(Check.NONE, "undo");
        some.bounds("count", upTo(7));
        bare.bounds("count", upTo(7));
        some.bounds("status", new int[] {-1, 6});
        bare.bounds("status", new int[] {-1, 6});
    }
}
