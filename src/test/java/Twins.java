import java.util.List;
import java.util.function.Consumer;
import java.util.function.Function;

/**
 * Two objects made alike: one of them is asked what must be refused, then both are looked at. What is kept out of sight
 * (sheets, the tape, spots, the image) is seen by what later calls make of it. Each look has twins of its own, for a look
 * may be refused something, too, and what that did wrong would be seen of both.
 */
final class Twins {
    private static final int FINDINGS = 7;
    private static final List<Function<ThunderCasks, String>> LOOKS = List.of(
        Twins::state, Twins::spots, Twins::numbers, Twins::bits, Twins::alike, Twins::sizes, Twins::byText, Twins::kept,
        Twins::torn);

    private final Check check;
    private final String name;
    private final Consumer<ThunderCasks> build;

    Twins(Check check, String name, Consumer<ThunderCasks> build) {
        this.check = check;
        this.name = name;
        this.build = build;
    }

    private ThunderCasks made() {
        ThunderCasks x = new ThunderCasks();
        build.accept(x);
        return x;
    }

    /** Of all of an object nothing but status() may change, and of this just the finding that was answered. */
    void refused(int finding, String call, int... p) {
        String told = name + ": " + Calls.told(call, p);
        ThunderCasks asked = made();
        ThunderCasks other = made();
        check.due(told, Calls.ask(asked, call, p), finding);
        int which = Check.BEYOND - finding;
        for (int i = -1; i < FINDINGS; i++) {
            int more = i == -1 || i == which ? 1 : 0;
            check.due(told + ", then status(" + i + ")", asked.status(i), other.status(i) + more);
        }
        for (Function<ThunderCasks, String> look : LOOKS) {
            asked = made();
            Calls.ask(asked, call, p);
            check.same(told + " changes nothing else", look.apply(asked), look.apply(made()));
        }
    }

    /** It isn't refused as beyond: the least and the greatest that may be asked. */
    void taken(String call, int... p) {
        long answer = Calls.ask(made(), call, p);
        check.due(name + ": " + Calls.told(call, p) + " isn't beyond", answer == Check.BEYOND ? 0 : 1, 1);
    }

    /** Of each parameter {least, greatest}: both are taken, one beyond and the farthest ints are refused. */
    void bounds(String call, int[]... ranges) {
        for (int corner = 0; corner < 1 << ranges.length; corner++) {
            int[] p = corner(ranges, corner);
            taken(call, p);
            for (int i = 0; i < ranges.length; i++) {
                boolean isMost = (corner >> i & 1) != 0;
                int fine = p[i];
                p[i] = isMost ? fine + 1 : fine - 1;
                refused(Check.BEYOND, call, p);
                p[i] = isMost ? Integer.MAX_VALUE : Integer.MIN_VALUE;
                refused(Check.BEYOND, call, p);
                p[i] = fine;
            }
        }
    }

    private static int[] corner(int[][] ranges, int corner) {
        int[] p = new int[ranges.length];
        for (int i = 0; i < p.length; i++) {
            p[i] = ranges[i][corner >> i & 1];
        }
        return p;
    }

    private static String state(ThunderCasks x) {
        StringBuilder all = new StringBuilder("state:");
        for (int cellar = 0; cellar < 6; cellar++) {
            all.append(' ').append(x.cellar(cellar, 0)).append(' ').append(x.cellar(cellar, 1));
        }
        int casks = x.count(1);
        for (int cask = 0; cask < casks; cask++) {
            for (int what = 0; what < 7; what++) {
                all.append(' ').append(x.of(cask, what));
            }
        }
        for (int what = 0; what < 8; what++) {
            all.append(' ').append(x.count(what));
        }
        return all.toString();
    }

    private static String spots(ThunderCasks x) {
        StringBuilder all = new StringBuilder("spots:");
        for (int spot = 9; spot >= 0; spot--) {
            all.append(' ').append(x.as(spot, 0));
        }
        return all.toString();
    }

    private static String loaded(ThunderCasks x, int s) {
        StringBuilder all = new StringBuilder(" load: ").append(x.load(s));
        for (int cellar = 0; cellar < 6; cellar++) {
            all.append(' ').append(x.cellar(cellar, 1));
        }
        return all.toString();
    }

    private static String numbers(ThunderCasks x) {
        StringBuilder all = new StringBuilder("numbers:");
        for (int s = 0; s < 4; s++) {
            all.append(loaded(x, s));
        }
        return all.toString();
    }

    /** 300 is 44 in 8 bits; 65541 is 5 in 8 and in 16. */
    private static String bits(ThunderCasks x) {
        StringBuilder all = new StringBuilder("bits:");
        for (int s = 0; s < 4; s++) {
            all.append(' ').append(x.write(s, 0, 300)).append(loaded(x, s));
            all.append(' ').append(x.write(s, 0, 65541)).append(loaded(x, s));
        }
        return all.toString();
    }

    private static String alike(ThunderCasks x) {
        StringBuilder all = new StringBuilder("alike:");
        for (int s = 0; s < 4; s++) {
            for (int t = s; t < 4; t++) {
                all.append(' ').append(x.copy(s, 0, t, 0, 0));
            }
        }
        return all.toString();
    }

    private static String sizes(ThunderCasks x) {
        StringBuilder all = new StringBuilder("sizes:");
        for (int i = 0; i < 8; i++) {
            for (int s = 0; s < 4; s++) {
                all.append(' ').append(x.write(s, i, 0));
            }
        }
        return all.toString();
    }

    private static String byText(ThunderCasks x) {
        return "text: " + x.text() + " " + state(x);
    }

    private static String kept(ThunderCasks x) {
        return "undo: " + x.undo() + " " + state(x) + " " + spots(x);
    }

    private static String torn(ThunderCasks x) {
        return "tear: " + x.tear() + " " + x.undo();
    }
}
