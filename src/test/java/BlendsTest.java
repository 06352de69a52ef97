/** Promises 22 to 24: blends. */
public final class BlendsTest {
    private static final Check check = new Check();

    public static void main(String[] args) {
        blend();
        order();
        blends();
        check.end();
    }

    private static ThunderCasks with(int... peals) {
        ThunderCasks x = new ThunderCasks();
        for (int peal : peals) {
            Check.add(x, Check.CASK, 2, peal, 0, 100);
        }
        return x;
    }

    private static void blend() {
        ThunderCasks x = with(3, 4, 7);
        check.due("blend(0)", x.blend(0), 0);
        check.due("blend(5)", x.blend(5), 10);
        check.due("blend(7)", x.blend(7), 14);
        check.due("blend(8)", x.blend(8), Check.BEYOND);
        check.due("blend(-1)", x.blend(-1), Check.BEYOND);
        check.due("blend(MIN)", x.blend(Integer.MIN_VALUE), Check.BEYOND);
        x.change(1, 0, Check.CRACK);
        check.due("blend(6)", x.blend(6), 15);
        x.change(1, 0, Check.ECHO);
        check.due("as an echo blend(2)", x.blend(2), 11);
        ThunderCasks y = with(1, 1, 1, 1, 1, 1, 1, 1);
        check.due("blend(255)", y.blend(255), 8);
        check.due("blend(256)", y.blend(256), Check.BEYOND);
    }

    private static void order() {
        ThunderCasks x = with(3, 4, 7, 7, 0);
        check.due("order(0)", x.order(0), 0);
        check.due("fewest order(7)", x.order(7), 4);
        check.due("least of several order(11)", x.order(11), 6);
        check.due("order(14)", x.order(14), 12);
        check.due("order(21)", x.order(21), 15);
        x.change(4, 2, 900);
        check.due("all of them: order(921)", x.order(921), 31);
        check.due("order(1)", x.order(1), Check.NONE);
        check.due("order(9999)", x.order(9999), Check.NONE);
        check.due("order(10000)", x.order(10000), Check.BEYOND);
        check.due("order(-1)", x.order(-1), Check.BEYOND);
    }

    private static void blends() {
        ThunderCasks x = with(3, 4, 7);
        check.due("blends(0, 9999)", x.blends(0, 9999), 8);
        check.due("blends(0, 0)", x.blends(0, 0), 1);
        check.due("blends(7, 7)", x.blends(7, 7), 2);
        check.due("blends(4, 10)", x.blends(4, 10), 4);
        check.due("blends(10, 4)", x.blends(10, 4), 0);
        check.due("blends(-1, 4)", x.blends(-1, 4), Check.BEYOND);
        check.due("blends(4, -1)", x.blends(4, -1), Check.BEYOND);
        check.due("blends(10000, 4)", x.blends(10000, 4), Check.BEYOND);
        check.due("blends(4, 10000)", x.blends(4, 10000), Check.BEYOND);
        ThunderCasks y = new ThunderCasks();
        for (int i = 0; i < 8; i++) {
            Check.add(y, Check.CRACK, 2, 999, 0, 100);
        }
        check.due("louder than can be asked: blends(0, 9999)", y.blends(0, 9999), 1 + 8 + 28 + 56 + 70 + 56);
    }
}
