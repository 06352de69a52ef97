/** Promises 25 to 27: peals and kinds by told claps. */
public final class ToldTest {
    private static final Check check = new Check();

    public static void main(String[] args) {
        fits();
        signs();
        kinds();
        findings();
        check.end();
    }

    private static void fits() {
        ThunderCasks x = new ThunderCasks();
        Check.add(x, Check.CASK, 5, 500, 0, 50);
        Check.fill(x, 0, 16, 0, 1);
        check.due("fits(0, 0)", x.fits(0, 0), 49);
        check.due("pealed(0, 0)", x.pealed(0, 0), 52);
        Check.fill(x, 0, 16, 0, 0);
        check.due("fits(0, 0)", x.fits(0, 0), 52);
        check.due("pealed(0, 0)", x.pealed(0, 0), 0);
        Check.fill(x, 0, 16, 0, 0, -1, -1, -1, 1);
        check.due("a storm on day 5: fits(0, 0)", x.fits(0, 0), 0);
        Check.fill(x, 0, 16, 0, 0, -1, -1, -1, -1, 1);
        check.due("a storm on day 5: fits(0, 0)", x.fits(0, 0), 5);
        check.due("a storm on day 5: pealed(0, 0)", x.pealed(0, 0), 47);
        x.change(0, 4, 98);
        Check.fill(x, 0, 16, 0, 1);
        check.due("100 alone: fits(0, 0)", x.fits(0, 0), 1);
        check.due("100 alone: pealed(0, 0)", x.pealed(0, 0), 100);
        x.change(0, 4, 99);
        check.due("101 is too much: fits(0, 0)", x.fits(0, 0), 0);
        check.due("101 is too much: pealed(0, 0)", x.pealed(0, 0), Check.NONE);
        x.change(0, 4, 50);
        Check.fill(x, 0, 16, 1, 1);
        check.due("fits(0, 0)", x.fits(0, 0), 0);
        check.due("pealed(0, 0)", x.pealed(0, 0), Check.NONE);
        x.go(1);
        check.due("CLAPS are 1 now: fits(0, 0)", x.fits(0, 0), 52);
        x.sheet(0, 32, 0);
        check.due("nothing told: fits(0, 0)", x.fits(0, 0), 101);
        check.due("nothing told: pealed(0, 0)", x.pealed(0, 0), 0);
    }

    private static void signs() {
        ThunderCasks x = new ThunderCasks();
        Check.add(x, Check.CASK, 5, 0, 0, 100);
        Check.fill(x, 0, 8, 255);
        check.due("any, by its lowest bits: fits(0, 0)", x.fits(0, 0), 101);
        Check.fill(x, 0, 8, 256);
        check.due("0, by its lowest bits: fits(0, 0)", x.fits(0, 0), 101);
        Check.fill(x, 0, 16, 255);
        check.due("fits(0, 0)", x.fits(0, 0), 0);
        Check.fill(x, 0, 32, 65535);
        check.due("fits(0, 0)", x.fits(0, 0), 0);
        Check.fill(x, 0, 8, -2);
        check.due("fits(0, 0)", x.fits(0, 0), 0);
    }

    private static void kinds() {
        ThunderCasks x = new ThunderCasks();
        Check.add(x, Check.CASK, 5, 50, 0, 999);
        int[][] told = {{50, 49}, {50, 50}, {50, 47}, {50, 45}, {50, -1}, {49, -1}, {-1, -1, 40}, {}};
        int[] dues = {5, 24, 2, 96, 127, 0, 96, 127};
        for (int i = 0; i < told.length; i++) {
            Check.fill(x, 3, 8, told[i]);
            check.due("kinds(3, 0) of row " + i, x.kinds(3, 0), dues[i]);
        }
        x.change(0, 4, 70);
        Check.fill(x, 3, 8, 50, 0);
        check.due("that burst: kinds(3, 0)", x.kinds(3, 0), (1 << Check.CRACK) | (1 << Check.FORGED));
    }

    private static void findings() {
        ThunderCasks x = new ThunderCasks();
        x.cask(0, 0);
        x.sheet(1, 8, 2);
        int[][] wrong = {{-1, 0}, {4, 9}, {0, 9}, {0, 0}, {1, 1}, {1, -1}};
        int[] dues = {Check.BEYOND, Check.BEYOND, Check.MISSING, Check.MISSING, Check.BEYOND, Check.BEYOND};
        for (int i = 0; i < wrong.length; i++) {
            check.due("fits of row " + i, x.fits(wrong[i][0], wrong[i][1]), dues[i]);
            check.due("pealed of row " + i, x.pealed(wrong[i][0], wrong[i][1]), dues[i]);
            check.due("kinds of row " + i, x.kinds(wrong[i][0], wrong[i][1]), dues[i]);
        }
        check.due("status(-1)", x.status(-1), 18);
        check.due("status(5)", x.status(5), 6);
    }
}
