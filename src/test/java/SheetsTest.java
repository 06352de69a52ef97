/** Promises 34 to 40: spots and sheets. */
public final class SheetsTest {
    private static final Check check = new Check();

    public static void main(String[] args) {
        hold();
        as();
        sheet();
        write();
        copy();
        copyFindings();
        load();
        judge();
        check.end();
    }

    private static void hold() {
        ThunderCasks x = new ThunderCasks();
        x.cask(0, 0);
        check.due("hold(0, 0)", x.hold(0, 0), 1);
        check.due("hold(9, 0)", x.hold(9, 0), 1);
        check.due("hold(0, 1)", x.hold(0, 1), Check.BEYOND);
        check.due("hold(0, -2)", x.hold(0, -2), Check.BEYOND);
        check.due("hold(10, 0)", x.hold(10, 0), Check.BEYOND);
        check.due("hold(-1, 0)", x.hold(-1, 0), Check.BEYOND);
        check.due("hold(10, -1)", x.hold(10, -1), Check.BEYOND);
        check.due("count(7)", x.count(7), 2);
        check.due("hold(0, -1)", x.hold(0, -1), 1);
        check.due("hold(1, -1)", x.hold(1, -1), 1);
        check.due("count(7)", x.count(7), 1);
        check.due("as(0, 0)", x.as(0, 0), Check.MISSING);
        check.due("as(9, 0)", x.as(9, 0), 0);
    }

    private static void as() {
        // Bits of the kinds as which one of each kind can be taken.
        int[] asWhich = {1, 3, 5, 13, 29, 33, 67};
        ThunderCasks x = new ThunderCasks();
        for (int kind = 0; kind < 7; kind++) {
            x.cask(kind, 0);
            x.hold(kind, kind);
            for (int of = 0; of < 7; of++) {
                boolean isOf = (asWhich[kind] >> of & 1) != 0;
                check.due("as(" + kind + ", " + of + ")", x.as(kind, of), isOf ? kind : Check.KIND);
            }
        }
        x.change(0, 0, Check.ECHO);
        check.due("a changed one as(0, 3)", x.as(0, 3), 0);
        check.due("as(8, 6)", x.as(8, 6), Check.MISSING);
        check.due("as(8, 7)", x.as(8, 7), Check.BEYOND);
        check.due("as(0, -1)", x.as(0, -1), Check.BEYOND);
        check.due("as(10, 0)", x.as(10, 0), Check.BEYOND);
        check.due("as(-1, 0)", x.as(-1, 0), Check.BEYOND);
    }

    private static void sheet() {
        ThunderCasks x = new ThunderCasks();
        check.due("sheet(0, 8, 40)", x.sheet(0, 8, 40), 40);
        check.due("sheet(3, 16, 1)", x.sheet(3, 16, 1), 1);
        check.due("sheet(3, 32, 0)", x.sheet(3, 32, 0), 0);
        check.due("it is there: judge(3)", x.judge(3), 0);
        check.due("sheet(3, 0, 7)", x.sheet(3, 0, 7), 0);
        check.due("judge(3)", x.judge(3), Check.MISSING);
        check.due("sheet(3, 0, -1)", x.sheet(3, 0, -1), Check.SIZE);
        check.due("sheet(0, 8, -1)", x.sheet(0, 8, -1), Check.SIZE);
        check.due("sheet(0, 8, 41)", x.sheet(0, 8, 41), Check.BEYOND);
        check.due("sheet(0, 7, -1)", x.sheet(0, 7, -1), Check.BEYOND);
        check.due("sheet(0, 64, 1)", x.sheet(0, 64, 1), Check.BEYOND);
        check.due("sheet(4, 8, -1)", x.sheet(4, 8, -1), Check.BEYOND);
        check.due("sheet(-1, 8, 1)", x.sheet(-1, 8, 1), Check.BEYOND);
        check.due("write(0, 39, 1)", x.write(0, 39, 1), 1);
        check.due("write(0, 0, 1)", x.write(0, 0, 1), 1);
        check.due("write(0, 5, 1)", x.write(0, 5, 1), 1);
        check.due("sheet(0, 8, 40)", x.sheet(0, 8, 40), 40);
        check.due("all 0 again: load(0)", x.load(0), 6);
        check.due("cellar(0, 1)", x.cellar(0, 1), 0);
        check.due("cellar(5, 1)", x.cellar(5, 1), 0);
    }

    private static void write() {
        ThunderCasks x = new ThunderCasks();
        Check.add(x, Check.CASK, 0, 44, 0, 100);
        Check.fill(x, 0, 8, 300);
        check.due("300 in 8 bits: judge(0)", x.judge(0), 0);
        Check.fill(x, 0, 16, 65536 + 44);
        check.due("65580 in 16 bits: judge(0)", x.judge(0), 0);
        Check.fill(x, 0, 16, 300);
        check.due("300 in 16 bits: judge(0)", x.judge(0), 1);
        Check.fill(x, 0, 32, 65536 + 44);
        check.due("65580 in 32 bits: judge(0)", x.judge(0), 1);
        x.change(0, 2, 200);
        Check.fill(x, 0, 8, 200);
        check.due("200 in 8 bits is below 0: judge(0)", x.judge(0), 1);
        check.due("write(0, 1, 0)", x.write(0, 1, 0), Check.BEYOND);
        check.due("write(0, -1, 0)", x.write(0, -1, 0), Check.BEYOND);
        check.due("write(1, -1, 0)", x.write(1, -1, 0), Check.MISSING);
        check.due("write(4, 0, 0)", x.write(4, 0, 0), Check.BEYOND);
        check.due("write(-1, 0, 0)", x.write(-1, 0, 0), Check.BEYOND);
    }

    private static void loaded(ThunderCasks x, int s, int... dues) {
        check.due("load(" + s + ")", x.load(s), dues.length);
        for (int c = 0; c < dues.length; c++) {
            check.due("cellar(" + c + ", 1)", x.cellar(c, 1), dues[c]);
        }
    }

    private static void copy() {
        ThunderCasks x = new ThunderCasks();
        Check.fill(x, 0, 8, 1, 2, 3, 4, 5, 6);
        Check.fill(x, 1, 8, 11, 12, 13, 14);
        check.due("copy", x.copy(1, 1, 0, 2, 3), 3);
        loaded(x, 0, 1, 2, 12, 13, 14, 6);
        check.due("over itself, up: copy", x.copy(0, 0, 0, 1, 5), 5);
        loaded(x, 0, 1, 1, 2, 12, 13, 14);
        check.due("over itself, down: copy", x.copy(0, 2, 0, 0, 4), 4);
        loaded(x, 0, 2, 12, 13, 14, 13, 14);
        check.due("none, from the end: copy", x.copy(0, 6, 1, 4, 0), 0);
        loaded(x, 1, 11, 12, 13, 14);
    }

    private static void copyFindings() {
        ThunderCasks x = new ThunderCasks();
        x.sheet(0, 8, 6);
        x.sheet(1, 8, 4);
        x.sheet(2, 16, 4);
        check.due("copy(4, 0, 3, 0, -1)", x.copy(4, 0, 3, 0, -1), Check.BEYOND);
        check.due("copy(3, 0, 4, 0, 1)", x.copy(3, 0, 4, 0, 1), Check.BEYOND);
        check.due("copy(-1, 0, 0, 0, 1)", x.copy(-1, 0, 0, 0, 1), Check.BEYOND);
        check.due("copy(0, 0, 3, 0, -1)", x.copy(0, 0, 3, 0, -1), Check.MISSING);
        check.due("copy(3, 0, 0, 0, 1)", x.copy(3, 0, 0, 0, 1), Check.MISSING);
        check.due("copy(0, 0, 2, 0, -1)", x.copy(0, 0, 2, 0, -1), Check.KIND);
        int most = Integer.MAX_VALUE;
        int[][] wrong = {{0, 0, 5}, {2, 0, 5}, {3, 0, 4}, {0, 2, 3}, {-1, 0, 1}, {0, -1, 1}, {0, 0, -1},
            {7, 0, 0}, {0, 5, 0}, {most, 0, 1}, {0, most, 1}, {1, 1, most}, {most, most, most}};
        for (int[] w : wrong) {
            check.due("copy(0, " + w[0] + ", 1, " + w[1] + ", " + w[2] + ")",
                x.copy(0, w[0], 1, w[1], w[2]), Check.BEYOND);
        }
    }

    private static void load() {
        ThunderCasks x = new ThunderCasks();
        Check.fill(x, 0, 16, 99, 0, 100, 4);
        loaded(x, 0, 99, 0);
        check.due("cellar(2, 1)", x.cellar(2, 1), 10);
        check.due("cellar(3, 1)", x.cellar(3, 1), 10);
        Check.fill(x, 0, 8, 5, -1);
        loaded(x, 0, 5);
        Check.fill(x, 0, 32, 1, 2, 3, 4, 5, 6, 7, 8);
        loaded(x, 0, 1, 2, 3, 4, 5, 6);
        x.sheet(0, 8, 0);
        loaded(x, 0);
        check.due("load(1)", x.load(1), Check.MISSING);
        check.due("load(4)", x.load(4), Check.BEYOND);
        check.due("load(-1)", x.load(-1), Check.BEYOND);
    }

    private static void judge() {
        ThunderCasks x = new ThunderCasks();
        Check.add(x, Check.CASK, 0, 44, 0, 100);
        Check.add(x, Check.CASK, 0, 7, 0, 100);
        Check.fill(x, 0, 8, 44, 7);
        check.due("judge(0)", x.judge(0), 0);
        Check.fill(x, 0, 8, 44);
        check.due("fewer judge(0)", x.judge(0), 0);
        Check.fill(x, 0, 8, 44, 7, 0);
        check.due("no such CASK: judge(0)", x.judge(0), 3);
        Check.fill(x, 0, 8, 44, 8, 0);
        check.due("judge(0)", x.judge(0), 2);
        Check.fill(x, 0, 8, -1, 7);
        check.due("judge(0)", x.judge(0), 1);
        x.sheet(0, 8, 0);
        check.due("judge(0)", x.judge(0), 0);
        x.sheet(0, 8, 40);
        check.due("judge(0)", x.judge(0), 1);
        check.due("judge(1)", x.judge(1), Check.MISSING);
        check.due("judge(4)", x.judge(4), Check.BEYOND);
        check.due("judge(-1)", x.judge(-1), Check.BEYOND);
    }
}
