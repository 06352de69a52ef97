/** Compares answers with those that are due, and ends with 1 if one is not. */
final class Check {
    static final int BEYOND = -1000001;
    static final int FULL = -1000002;
    static final int KIND = -1000003;
    static final int NONE = -1000004;
    static final int STATE = -1000005;
    static final int MISSING = -1000006;
    static final int SIZE = -1000007;

    static final int CASK = 0;
    static final int CRACK = 1;
    static final int ROLL = 2;
    static final int MELLOW = 3;
    static final int ECHO = 4;
    static final int HEAT = 5;
    static final int FORGED = 6;

    private int asked = 0;
    private int wrong = 0;

    void due(String call, long got, long want) {
        asked++;
        if (got != want) {
            wrong++;
            System.out.println(call + " answered " + got + ", due is " + want);
        }
    }

    void same(String what, String got, String want) {
        asked++;
        if (!got.equals(want)) {
            wrong++;
            System.out.println(what + ": is\n" + got + "\ndue is\n" + want);
        }
    }

    void end() {
        System.out.println(asked + " answers, " + wrong + " not as due");
        if (wrong != 0 || asked == 0) {
            System.exit(1);
        }
    }

    /** A new cask with marks: 2 peal, 3 pitch, 4 hoops. */
    static int add(ThunderCasks x, int kind, int cellar, int peal, int pitch, int hoops) {
        int cask = x.cask(kind, cellar);
        x.change(cask, 2, peal);
        x.change(cask, 3, pitch);
        x.change(cask, 4, hoops);
        return cask;
    }

    static void feed(ThunderCasks x, String text) {
        for (int i = 0; i < text.length(); i++) {
            x.feed(text.charAt(i), 1);
        }
    }

    static int read(ThunderCasks x, String text) {
        x.wipe();
        feed(x, text);
        return x.text();
    }

    static void fill(ThunderCasks x, int s, int bits, int... numbers) {
        x.sheet(s, bits, numbers.length);
        for (int i = 0; i < numbers.length; i++) {
            x.write(s, i, numbers[i]);
        }
    }

    /** All that can be asked of an object without a finding, as one text. */
    static String shown(ThunderCasks x) {
        StringBuilder all = new StringBuilder();
        for (int c = 0; c < 6; c++) {
            for (int what = 0; what < 4; what++) {
                all.append(x.cellar(c, what)).append(' ');
            }
        }
        for (int c = 0; c < x.count(1); c++) {
            for (int what = 0; what < 10; what++) {
                all.append(x.of(c, what)).append(' ');
            }
        }
        for (int what = 0; what < 7; what++) {
            all.append(x.now(what)).append(' ');
        }
        for (int what = 0; what < 8; what++) {
            all.append(x.count(what)).append(' ');
        }
        for (int which = -1; which < 7; which++) {
            all.append(x.status(which)).append(' ');
        }
        return all.toString();
    }
}
