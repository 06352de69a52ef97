/** Edges of promises 34 to 40: SPOTS that hold nothing, SHEETS that are MISSING, their bits and their numbers. */
public final class SheetEdgesTest {
    private static final int[] BITS = {8, 16, 32};
    private static final Check check = new Check();

    public static void main(String[] args) {
        spotsAtFirst();
        spotsFirstAndLast();
        heldAsItsKinds();
        sheetsAtFirst();
        sheetOfNoneAndOfMost();
        sheetMadeAgain();
        sheetMadeMissing();
        lowestBits();
        writeFirstAndLast();
        copyNoneAndAll();
        copyOverItself();
        loadLeastAndMost();
        loadFewerAndMore();
        judgeFewerAndMore();
        judgeEach();
        check.end();
    }

    private static void spotsAtFirst() {
        ThunderCasks x = new ThunderCasks();
        x.cask(0, 0);
        for (int spot = 0; spot < 10; spot++) {
            check.due("as(" + spot + ", 0)", x.as(spot, 0), Check.MISSING);
        }
        check.due("count(7)", x.count(7), 0);
        check.due("status(5)", x.status(5), 10);
    }

    private static void spotsFirstAndLast() {
        ThunderCasks x = new ThunderCasks();
        for (int i = 0; i < 8; i++) {
            x.cask(0, 0);
        }
        for (int spot = 0; spot < 10; spot++) {
            int cask = spot % 8;
            check.due("hold(" + spot + ", " + cask + ")", x.hold(spot, cask), 1);
            check.due("count(7)", x.count(7), spot + 1);
            check.due("as(" + spot + ", 0)", x.as(spot, 0), cask);
        }
        check.due("another instead: hold(0, 7)", x.hold(0, 7), 1);
        check.due("as(0, 0)", x.as(0, 0), 7);
        check.due("count(7)", x.count(7), 10);
        check.due("nothing instead: hold(9, -1)", x.hold(9, -1), 1);
        check.due("nothing again: hold(9, -1)", x.hold(9, -1), 1);
        check.due("as(9, 0)", x.as(9, 0), Check.MISSING);
        check.due("count(7)", x.count(7), 9);
        ThunderCasks y = new ThunderCasks();
        check.due("nothing, where there is no CASK: hold(0, -1)", y.hold(0, -1), 1);
        check.due("count(7)", y.count(7), 0);
    }

    private static void heldAsItsKinds() {
        String[] kinds = {"0", "10", "20", "320", "4320", "50", "610"};
        for (int kind = 0; kind < 7; kind++) {
            ThunderCasks x = new ThunderCasks();
            x.cask(Check.HEAT, 0);
            x.cask(Check.HEAT, 0);
            x.hold(5, 1);
            x.change(1, 0, kind);
            for (int as = 0; as < 7; as++) {
                int due = kinds[kind].indexOf('0' + as) >= 0 ? 1 : Check.KIND;
                check.due("kind " + kind + ": as(5, " + as + ")", x.as(5, as), due);
            }
        }
    }

    private static void sheetsAtFirst() {
        for (int s = 0; s < 4; s++) {
            ThunderCasks x = new ThunderCasks();
            x.cask(0, 0);
            check.due("write", x.write(s, 0, 0), Check.MISSING);
            check.due("copy", x.copy(s, 0, s, 0, 0), Check.MISSING);
            check.due("load", x.load(s), Check.MISSING);
            check.due("judge", x.judge(s), Check.MISSING);
            check.due("fits", x.fits(s, 0), Check.MISSING);
            check.due("pealed", x.pealed(s, 0), Check.MISSING);
            check.due("kinds", x.kinds(s, 0), Check.MISSING);
        }
    }

    private static void sheetOfNoneAndOfMost() {
        for (int s = 0; s < 4; s++) {
            for (int bits : BITS) {
                ThunderCasks x = new ThunderCasks();
                check.due("sheet of none", x.sheet(s, bits, 0), 0);
                check.due("it isn't MISSING: load", x.load(s), 0);
                check.due("it has no number: write", x.write(s, 0, 1), Check.BEYOND);
                check.due("sheet of one", x.sheet(s, bits, 1), 1);
                check.due("write", x.write(s, 0, 1), 1);
                check.due("write", x.write(s, 1, 1), Check.BEYOND);
                check.due("sheet of forty", x.sheet(s, bits, 40), 40);
                check.due("write", x.write(s, 39, 1), 1);
                check.due("write", x.write(s, 40, 1), Check.BEYOND);
                check.due("sheet of forty-one", x.sheet(s, bits, 41), Check.BEYOND);
                check.due("it has forty still: write", x.write(s, 39, 1), 1);
                check.due("sheet of -1", x.sheet(s, bits, -1), Check.SIZE);
                check.due("it has forty still: write", x.write(s, 39, 1), 1);
            }
        }
    }

    /** Of a sheet's numbers: whether all, from one on, are 0. Told by a sheet of one that is judged. */
    private static int firstNotNought(ThunderCasks x, int s, int t, int size) {
        for (int i = 0; i < size; i++) {
            x.copy(s, i, t, 0, 1);
            if (x.judge(t) != 0) {
                return i;
            }
        }
        return -1;
    }

    private static void sheetMadeAgain() {
        for (int bits : BITS) {
            ThunderCasks x = new ThunderCasks();
            x.cask(0, 0);
            x.sheet(1, bits, 1);
            x.sheet(0, bits, 40);
            check.due("all 0", firstNotNought(x, 0, 1, 40), -1);
            for (int i = 0; i < 40; i++) {
                x.write(0, i, 7);
            }
            check.due("none 0", firstNotNought(x, 0, 1, 40), 0);
            x.sheet(0, bits, 40);
            check.due("all 0 again", firstNotNought(x, 0, 1, 40), -1);
            x.write(0, 39, 7);
            check.due("but the last", firstNotNought(x, 0, 1, 40), 39);
            x.sheet(0, bits, 1);
            x.sheet(0, bits, 40);
            check.due("all 0, shorter in between", firstNotNought(x, 0, 1, 40), -1);
        }
    }

    private static void sheetMadeMissing() {
        for (int s = 0; s < 4; s++) {
            ThunderCasks x = new ThunderCasks();
            check.due("MISSING already", x.sheet(s, 0, 0), 0);
            x.sheet(s, 16, 5);
            check.due("-1 with bits 0, too", x.sheet(s, 0, -1), Check.SIZE);
            check.due("it is there still", x.write(s, 4, 1), 1);
            check.due("41 with bits 0, too", x.sheet(s, 0, 41), Check.BEYOND);
            check.due("it is there still", x.write(s, 4, 1), 1);
            check.due("0, not 40", x.sheet(s, 0, 40), 0);
            check.due("it is MISSING", x.load(s), Check.MISSING);
            x.sheet(s, 16, 5);
            check.due("0, not 5", x.sheet(s, 0, 5), 0);
            check.due("it is MISSING", x.write(s, 0, 1), Check.MISSING);
            for (int t = 0; t < 4; t++) {
                check.due("the others are as they were", x.judge(t), Check.MISSING);
            }
        }
    }

    /** A number is what a PEAL is: 0 to 999 can be told so. */
    private static void isPeal(int bits, int v, int peal) {
        ThunderCasks x = new ThunderCasks();
        Check.add(x, Check.CASK, 0, peal, 0, 100);
        Check.fill(x, 0, bits, v);
        check.due(v + " in " + bits + " bits is " + peal, x.judge(0), 0);
        x.change(0, 2, peal == 0 ? 1 : peal - 1);
        check.due(v + " in " + bits + " bits is no other", x.judge(0), 1);
    }

    /** A number below 0 or above 999: nor is it what its bits would tell without a sign. */
    private static void isNoPeal(int bits, int v) {
        ThunderCasks x = new ThunderCasks();
        Check.add(x, Check.CASK, 0, 0, 0, 100);
        Check.fill(x, 0, bits, v);
        int[] peals = {0, 1, 127, 128, 255, 256, 999, v & 127, v & 255, Math.min(v & 65535, 999)};
        for (int peal : peals) {
            x.change(0, 2, peal);
            check.due(v + " in " + bits + " bits isn't " + peal, x.judge(0), 1);
        }
    }

    private static void lowestBits() {
        int[][] peals = {{8, 0, 0}, {8, 1, 1}, {8, 127, 127}, {8, 256, 0}, {8, 257, 1}, {8, 383, 127}, {8, -129, 127},
            {8, -256, 0}, {8, Integer.MIN_VALUE, 0}, {16, 127, 127}, {16, 128, 128},
            {16, 255, 255}, {16, 256, 256}, {16, 999, 999}, {16, 65536, 0}, {16, 65536 + 999, 999}, {16, -65536, 0},
            {16, -65535, 1}, {16, Integer.MIN_VALUE, 0}, {32, 0, 0}, {32, 255, 255}, {32, 999, 999}};
        for (int[] p : peals) {
            isPeal(p[0], p[1], p[2]);
        }
        int[][] none = {{8, 128}, {8, 255}, {8, -1}, {8, -128}, {8, 384}, {8, 999}, {8, Integer.MAX_VALUE}, {16, 32768},
            {16, 65535}, {16, -1}, {16, -32768}, {16, Integer.MAX_VALUE}, {32, -1}, {32, 65536}, {32, -65536}, {32, Integer.MAX_VALUE},
            {32, Integer.MIN_VALUE}};
        for (int[] p : none) {
            isNoPeal(p[0], p[1]);
        }
    }

    private static void writeFirstAndLast() {
        ThunderCasks x = new ThunderCasks();
        Check.fill(x, 0, 8, 1, 2, 3, 4, 5, 6);
        check.due("write(0, 0, 50)", x.write(0, 0, 50), 1);
        check.due("write(0, 5, 60)", x.write(0, 5, 60), 1);
        check.due("write(0, 6, 70)", x.write(0, 6, 70), Check.BEYOND);
        check.due("write(0, -1, 70)", x.write(0, -1, 70), Check.BEYOND);
        list(x, 0, 50, 2, 3, 4, 5, 60);
    }

    private static void list(ThunderCasks x, int s, int... dues) {
        check.due("load(" + s + ")", x.load(s), dues.length);
        for (int c = 0; c < dues.length; c++) {
            check.due("cellar(" + c + ", 1)", x.cellar(c, 1), dues[c]);
        }
    }

    private static void copyNoneAndAll() {
        for (int bits : BITS) {
            ThunderCasks x = new ThunderCasks();
            Check.fill(x, 0, bits, 1, 2, 3, 4, 5, 6);
            Check.fill(x, 1, bits, 11, 12, 13);
            check.due("none: copy", x.copy(0, 0, 1, 0, 0), 0);
            check.due("none, behind the last: copy", x.copy(0, 6, 1, 3, 0), 0);
            list(x, 1, 11, 12, 13);
            check.due("the last: copy", x.copy(0, 5, 1, 2, 1), 1);
            list(x, 1, 11, 12, 6);
            check.due("one too many of it: copy", x.copy(0, 4, 1, 0, 3), Check.BEYOND);
            check.due("one too many for it: copy", x.copy(0, 0, 1, 1, 3), Check.BEYOND);
            list(x, 1, 11, 12, 6);
            check.due("all: copy", x.copy(1, 0, 0, 3, 3), 3);
            list(x, 0, 1, 2, 3, 11, 12, 6);
            x.sheet(2, bits, 0);
            check.due("none of none: copy", x.copy(2, 0, 2, 0, 0), 0);
            check.due("one of none: copy", x.copy(2, 0, 0, 0, 1), Check.BEYOND);
            check.due("one to none: copy", x.copy(0, 0, 2, 0, 1), Check.BEYOND);
            x.sheet(2, bits, 40);
            x.sheet(3, bits, 40);
            check.due("forty: copy", x.copy(2, 0, 3, 0, 40), 40);
            check.due("forty-one: copy", x.copy(2, 0, 3, 0, 41), Check.BEYOND);
        }
    }

    private static void copyOverItself() {
        for (int bits : BITS) {
            for (int from = 0; from < 6; from++) {
                for (int to = 0; to < 6; to++) {
                    int n = 6 - Math.max(from, to);
                    ThunderCasks x = new ThunderCasks();
                    Check.fill(x, 0, bits, 1, 2, 3, 4, 5, 6);
                    int[] dues = {1, 2, 3, 4, 5, 6};
                    for (int i = 0; i < n; i++) {
                        dues[to + i] = from + i + 1;
                    }
                    check.due("as they all were: copy", x.copy(0, from, 0, to, n), n);
                    list(x, 0, dues);
                    check.due("one too many: copy", x.copy(0, from, 0, to, n + 1), Check.BEYOND);
                }
            }
        }
    }

    private static void loadLeastAndMost() {
        for (int place = 0; place < 6; place++) {
            int[][] rows = {{8, -1}, {8, 100}, {8, 127}, {8, 128}, {16, 100}, {16, -1}, {32, 100}, {32, Integer.MIN_VALUE}};
            for (int[] row : rows) {
                ThunderCasks x = new ThunderCasks();
                Check.fill(x, 0, row[0], 99, 0, 99, 0, 99, 0);
                x.write(0, place, row[1]);
                check.due("load up to " + place, x.load(0), place);
                for (int c = 0; c < 6; c++) {
                    check.due("cellar(" + c + ", 1)", x.cellar(c, 1), c >= place ? 10 : c % 2 == 0 ? 99 : 0);
                }
            }
        }
    }

    private static void loadFewerAndMore() {
        for (int size = 0; size <= 8; size++) {
            ThunderCasks x = new ThunderCasks();
            x.sheet(2, 8, size);
            for (int i = 0; i < size; i++) {
                x.write(2, i, 20 + i);
            }
            check.due("load of " + size, x.load(2), Math.min(size, 6));
            for (int c = 0; c < 6; c++) {
                check.due("cellar(" + c + ", 1)", x.cellar(c, 1), c < size ? 20 + c : 10);
            }
        }
        ThunderCasks y = new ThunderCasks();
        y.sheet(2, 8, 40);
        y.write(2, 6, -1);
        check.due("a seventh that isn't as told: load(2)", y.load(2), 6);
        check.due("status(-1)", y.status(-1), 0);
    }

    private static void judgeFewerAndMore() {
        for (int casks = 0; casks <= 8; casks++) {
            ThunderCasks x = new ThunderCasks();
            for (int c = 0; c < casks; c++) {
                Check.add(x, Check.CASK, 0, 10 + c, 0, 100);
            }
            for (int size = 0; size <= 9; size++) {
                x.sheet(0, 8, size);
                for (int i = 0; i < size; i++) {
                    x.write(0, i, 10 + i);
                }
                check.due(size + " numbers of " + casks + " CASKS: judge(0)", x.judge(0), size <= casks ? 0 : casks + 1);
            }
        }
    }

    private static void judgeEach() {
        ThunderCasks x = new ThunderCasks();
        x.sheet(0, 16, 8);
        for (int c = 0; c < 8; c++) {
            Check.add(x, Check.CASK, 0, 992 + c, 0, 100);
            x.write(0, c, 992 + c);
        }
        check.due("judge(0)", x.judge(0), 0);
        for (int c = 7; c >= 0; c--) {
            x.change(c, 2, 991 + c);
            check.due("the first that isn't so: judge(0)", x.judge(0), 1 + c);
        }
        x.write(0, 0, -1);
        check.due("-1 isn't any here: judge(0)", x.judge(0), 1);
        check.due("nothing is changed by it: of(0, 2)", x.of(0, 2), 991);
    }
}
