import java.util.function.Consumer;

/**
 * Two objects made alike: one of them is asked what must be refused, then both are asked all that can be seen of an
 * object. What is kept out of sight (sheets, the tape, spots, the image) is seen by what later calls make of it.
 */
final class Twins {
    private static final int FINDINGS = 7;

    private final Check check;
    private final String name;
    private final Consumer<ThunderCasks> build;

    Twins(Check check, String name, Consumer<ThunderCasks> build) {
        this.check = check;
        this.name = name;
        this.build = build;
    }

    private ThunderCasks made() {
        ThunderCasks x = new ThunderCasks();
        build.accept(x);
        return x;
    }

    /** Of all of an object nothing but status() may change, and of this just the finding that was answered. */
    void refused(int finding, String call, int... p) {
        ThunderCasks asked = made();
        ThunderCasks other = made();
        String told = name + ": " + Calls.told(call, p);
        check.due(told, Calls.ask(asked, call, p), finding);
        int which = Check.BEYOND - finding;
        for (int i = -1; i < FINDINGS; i++) {
            int more = i == -1 || i == which ? 1 : 0;
            check.due(told + ", then status(" + i + ")", asked.status(i), other.status(i) + more);
        }
        check.same(told + " changes nothing else", seen(asked), seen(other));
    }

    /** It isn't refused as beyond: the least and the greatest that may be asked. */
    void taken(String call, int... p) {
        long answer = Calls.ask(made(), call, p);
        check.due(name + ": " + Calls.told(call, p) + " isn't beyond", answer == Check.BEYOND ? 0 : 1, 1);
    }

    /** Of each parameter {least, greatest}: both are taken, one beyond and the farthest ints are refused. */
    void bounds(String call, int[]... ranges) {
        for (int corner = 0; corner < 1 << ranges.length; corner++) {
            int[] p = corner(ranges, corner);
            taken(call, p);
            for (int i = 0; i < ranges.length; i++) {
                boolean isMost = (corner >> i & 1) != 0;
                int fine = p[i];
                p[i] = isMost ? fine + 1 : fine - 1;
                refused(Check.BEYOND, call, p);
                p[i] = isMost ? Integer.MAX_VALUE : Integer.MIN_VALUE;
                refused(Check.BEYOND, call, p);
                p[i] = fine;
            }
        }
    }

    private static int[] corner(int[][] ranges, int corner) {
        int[] p = new int[ranges.length];
        for (int i = 0; i < p.length; i++) {
            p[i] = ranges[i][corner >> i & 1];
        }
        return p;
    }

    /** Some 330 calls at most, so that an object stays below its 512. */
    private static String seen(ThunderCasks x) {
        StringBuilder all = new StringBuilder();
        putState(x, all.append("now:"));
        putSheets(x, all.append("sheets:"));
        all.append("text: ").append(x.text());
        putState(x, all.append("by the text:"));
        all.append("undo: ").append(x.undo());
        putState(x, all.append("kept:"));
        all.append("tear: ").append(x.tear());
        return all.toString();
    }

    private static void putState(ThunderCasks x, StringBuilder all) {
        for (int cellar = 0; cellar < 6; cellar++) {
            all.append(' ').append(x.cellar(cellar, 0)).append(' ').append(x.cellar(cellar, 1));
        }
        int casks = x.count(1);
        for (int cask = 0; cask < casks; cask++) {
            for (int what = 0; what < 7; what++) {
                all.append(' ').append(x.of(cask, what));
            }
        }
        for (int what = 0; what < 8; what++) {
            all.append(' ').append(x.count(what));
        }
        for (int spot = 0; spot < 10; spot++) {
            all.append(' ').append(x.as(spot, 0));
        }
        all.append('\n');
    }

    /** Numbers by what the list becomes, bits by which sheets are alike, sizes by where writing ends. */
    private static void putSheets(ThunderCasks x, StringBuilder all) {
        for (int s = 0; s < 4; s++) {
            all.append(' ').append(x.load(s));
            for (int cellar = 0; cellar < 6; cellar++) {
                all.append(' ').append(x.cellar(cellar, 1));
            }
            for (int t = s + 1; t < 4; t++) {
                all.append(' ').append(x.copy(s, 0, t, 0, 0));
            }
            for (int i = 0; i < 8; i++) {
                all.append(' ').append(x.write(s, i, 0));
            }
        }
        all.append('\n');
    }
}
