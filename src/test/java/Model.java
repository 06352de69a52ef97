import java.math.BigInteger;
import java.util.ArrayList;
import java.util.Arrays;
import java.util.List;
import java.util.function.Consumer;
import java.util.function.Predicate;
import java.util.regex.Matcher;
import java.util.regex.Pattern;

/** The document written a second time, with the whole library and no thought of speed, to compare with. */
final class Model {
    static final class Finding extends RuntimeException {
        private static final long serialVersionUID = 1;
        final int which;

        Finding(int which) {
            super("finding", null, false, false);
            this.which = which;
        }
    }

    private static void ask(boolean isGood, int which) {
        if (!isGood) {
            throw new Finding(which);
        }
    }

    private static void within(int v, int least, int most) {
        ask(v >= least && v <= most, 0);
    }

    private static final String[] NAMES = {"cask", "crack", "roll", "mellow", "echo", "heat", "forged"};
    private static final int[][] ABOVE = {{0}, {1, 0}, {2, 0}, {3, 2, 0}, {4, 3, 2, 0}, {5, 0}, {6, 1, 0}};

    static final class Cask {
        int kind, cellar, peal, pitch, hoops = 100, age, burst;

        Cask(int kind, int cellar) {
            this.kind = kind;
            this.cellar = cellar;
        }

        Cask same() {
            Cask c = new Cask(kind, cellar);
            c.peal = peal;
            c.pitch = pitch;
            c.hoops = hoops;
            c.age = age;
            c.burst = burst;
            return c;
        }

        int get(int what) {
            return new int[] {kind, cellar, peal, pitch, hoops, age, burst}[what];
        }

        void set(int what, int v) {
            switch (what) {
                case 0 -> kind = v;
                case 1 -> cellar = v;
                case 2 -> peal = v;
                case 3 -> pitch = v;
                case 4 -> hoops = v;
                case 5 -> age = v;
                default -> burst = v;
            }
        }
    }

    static final class World {
        int[] frost = new int[6];
        int[] list = {10, 10, 10, 10, 10, 10};
        List<Cask> casks = new ArrayList<>();
        int[] spots = new int[10];
        int day, claps, z = 1;

        World() {
            Arrays.fill(spots, -1);
        }

        World same() {
            World w = new World();
            w.frost = frost.clone();
            w.list = list.clone();
            w.spots = spots.clone();
            casks.forEach(c -> w.casks.add(c.same()));
            w.day = day;
            w.claps = claps;
            w.z = z;
            return w;
        }

        int loud(Cask c) {
            return loudAs(c, c.kind);
        }

        int loudAs(Cask c, int kind) {
            switch (NAMES[kind]) {
                case "cask": return c.peal;
                case "crack": return Math.max(loudAs(c, 0) * 2 - c.age, 0);
                case "forged": return c.age >= 10 ? 0 : loudAs(c, 1);
                case "roll": return loudAs(c, 0) - loudAs(c, 0) / 4 + c.age;
                case "mellow": return loudAs(c, 2) / 2;
                case "echo": return loudAs(c, 3) + 5 * (int) casks.stream().filter(o -> o != c && o.cellar == c.cellar).count();
                default: return 0;
            }
        }

        int leaks(int kind) {
            switch (NAMES[kind]) {
                case "crack": return leaks(0) + 2;
                case "forged": return leaks(1) + 2;
                case "roll": return leaks(0);
                case "mellow": case "echo": return 0;
                case "heat": return leaks(0) + 4;
                default: return 1;
            }
        }

        int bears(Cask c, int kind) {
            switch (NAMES[kind]) {
                case "crack": case "forged": return bears(c, 0) / 2;
                case "roll": case "mellow": case "echo": return bears(c, 0) + 10;
                case "heat": return bears(c, 0);
                default: return Math.max(c.hoops - 5 * frost[c.cellar], 0);
            }
        }

        int catcher(int cellar) {
            return casks.stream().filter(c -> c.cellar == cellar)
                .sorted((a, b) -> a.peal - b.peal).map(c -> casks.indexOf(c)).findFirst().orElse(-1);
        }

        World days(int n) {
            for (int i = 0; i < n; i++) {
                day();
            }
            return this;
        }

        void day() {
            int where = day % 6;
            int catcher = catcher(where);
            if (catcher != -1) {
                Cask c = casks.get(catcher);
                c.peal = Math.min(999, c.peal + list[where]);
            }
            for (Cask c : casks) {
                c.peal -= Math.min(c.peal, leaks(c.kind));
                c.age = Math.min(999, c.age + 1);
            }
            for (int a = 0; a < casks.size(); a++) {
                for (int b = a + 1; b < casks.size(); b++) {
                    cancel(casks.get(a), casks.get(b));
                }
            }
            for (int times = 0; times < 8; times++) {
                Cask loud = casks.stream().filter(c -> loud(c) > bears(c, c.kind)).findFirst().orElse(null);
                if (loud != null) {
                    burst(loud);
                }
            }
            day = Math.min(99999, day + 1);
        }

        void cancel(Cask a, Cask b) {
            if (a.cellar == b.cellar && a.pitch == b.pitch && a.peal > 0 && b.peal > 0) {
                int lesser = Math.min(a.peal, b.peal);
                a.peal -= lesser;
                b.peal -= lesser;
            }
        }

        void burst(Cask c) {
            for (Cask o : casks) {
                if (o != c && o.cellar == c.cellar) {
                    o.peal = Math.min(999, o.peal + c.peal / 2);
                }
            }
            c.peal = 0;
            c.age = 0;
            c.burst = Math.min(999, c.burst + 1);
            claps = Math.min(99999, claps + 1);
        }

        int set(Predicate<Cask> which) {
            int set = 0;
            for (int i = 0; i < casks.size(); i++) {
                set += which.test(casks.get(i)) ? 1 << i : 0;
            }
            return set;
        }

        int draw() {
            z = BigInteger.valueOf(z).multiply(BigInteger.valueOf(1103515245)).add(BigInteger.valueOf(12345)).intValue();
            return z >>> 8;
        }
    }

    private World world = new World();
    private World kept;
    private String tape = "";
    private final int[] bits = new int[4];
    private final int[][] sheets = new int[4][];
    private final int[] told = new int[7];

    /** The answer of a call by its name, findings counted. */
    long call(String name, int... p) {
        try {
            return answer(name, p);
        } catch (Finding f) {
            told[f.which]++;
            return -1000001 - f.which;
        }
    }

    private World behind(int n) {
        return world.same().days(n);
    }

    private World with(Consumer<World> change, int n) {
        World w = world.same();
        change.accept(w);
        return w.days(n);
    }

    private Cask cask(int i) {
        within(i, 0, world.casks.size() - 1);
        return world.casks.get(i);
    }

    private int[] sheet(int s) {
        within(s, 0, 3);
        ask(sheets[s] != null, 5);
        return sheets[s];
    }

    private int blend(int set) {
        int sum = 0;
        for (int i = 0; i < world.casks.size(); i++) {
            sum += (set & 1 << i) != 0 ? world.loud(world.casks.get(i)) : 0;
        }
        return sum;
    }

    private int all() {
        return (1 << world.casks.size()) - 1;
    }

    private int fewest(Predicate<Integer> does) {
        for (int size = 0; size <= 8; size++) {
            for (int set = 0; set <= all(); set++) {
                if (Integer.bitCount(set) == size && does.test(set)) {
                    return set;
                }
            }
        }
        throw new Finding(3);
    }

    private int best(int i, int what, int choices, int n) {
        cask(i);
        within(n, 0, 40);
        int best = 0;
        int most = -1;
        for (int v = 0; v < choices; v++) {
            int choice = v;
            World w = with(x -> x.casks.get(i).set(what, choice), n);
            if (w.loud(w.casks.get(i)) > most) {
                most = w.loud(w.casks.get(i));
                best = v;
            }
        }
        return best;
    }

    private List<Integer> pealsTold(int s, int i) {
        int[] row = sheet(s);
        cask(i);
        List<Integer> fits = new ArrayList<>();
        for (int peal = 0; peal <= 100; peal++) {
            boolean good = true;
            World w = world.same();
            w.casks.get(i).peal = peal;
            for (int d = 0; d < row.length; d++, w.day()) {
                good &= row[d] == -1 || row[d] == w.claps;
            }
            if (good) {
                fits.add(peal);
            }
        }
        return fits;
    }

    private int kindsTold(int s, int i) {
        int[] row = sheet(s);
        cask(i);
        int set = 0;
        for (int kind = 0; kind < 7; kind++) {
            boolean good = true;
            World w = world.same();
            w.casks.get(i).kind = kind;
            for (int d = 0; d < row.length; d++, w.day()) {
                good &= row[d] == -1 || row[d] == w.casks.get(i).peal;
            }
            set += good ? 1 << kind : 0;
        }
        return set;
    }

    private long answer(String name, int[] p) {
        switch (name) {
            case "frost": case "cellar": case "storm": case "cask": case "of": case "change": case "sell":
                return answerCellars(name, p);
            case "go": case "now": case "ahead": case "claps": case "bursts": case "when": case "chain":
                return answerDays(name, p);
            case "lay": case "kindFor": case "pitchFor": case "hoopsFor": case "frostFor": case "empty":
                return answerWhere(name, p);
            case "blend": case "order": case "blends": case "fits": case "pealed": case "kinds":
            case "storms": case "odds": case "seed":
                return answerBlends(name, p);
            case "feed": case "wipe": case "text": case "hold": case "as":
                return answerTexts(name, p);
            case "sheet": case "write": case "copy": case "load": case "judge":
                return answerSheets(name, p);
            default:
                return answerImages(name, p);
        }
    }

    private long answerCellars(String name, int[] p) {
        int was;
        switch (name) {
            case "frost":
                within(p[0], 0, 5);
                within(p[1], 0, 9);
                was = world.frost[p[0]];
                world.frost[p[0]] = p[1];
                return was;
            case "cellar":
                within(p[0], 0, 5);
                within(p[1], 0, 3);
                return p[1] == 0 ? world.frost[p[0]] : p[1] == 1 ? world.list[p[0]]
                    : p[1] == 2 ? world.set(c -> c.cellar == p[0]) : world.catcher(p[0]);
            case "storm":
                within(p[0], 0, 5);
                within(p[1], 0, 99);
                was = world.list[p[0]];
                world.list[p[0]] = p[1];
                return was;
            case "cask":
                within(p[0], 0, 6);
                within(p[1], 0, 5);
                ask(world.casks.size() < 8, 1);
                world.casks.add(new Cask(p[0], p[1]));
                return world.casks.size() - 1;
            case "of": {
                Cask c = cask(p[0]);
                within(p[1], 0, 9);
                return p[1] < 7 ? c.get(p[1]) : p[1] == 7 ? world.loud(c)
                    : p[1] == 8 ? world.leaks(c.kind) : world.bears(c, c.kind);
            }
            case "change": {
                Cask c = cask(p[0]);
                within(p[1], 0, 6);
                within(p[2], 0, p[1] == 0 ? 6 : p[1] == 1 ? 5 : p[1] == 3 ? 11 : 999);
                was = c.get(p[1]);
                c.set(p[1], p[2]);
                return was;
            }
            default: {
                Cask c = cask(p[0]);
                was = world.loud(c);
                c.peal = c.age = 0;
                return was;
            }
        }
    }

    private long answerDays(String name, int[] p) {
        switch (name) {
            case "go":
                within(p[0], 1, 60);
                ask(world.day + p[0] <= 99999, 4);
                return world.days(p[0]).claps;
            case "now":
                within(p[0], 0, 6);
                return now(p[0]);
            case "ahead": {
                cask(p[0]);
                ask(p[1] == 2 || p[1] == 5 || p[1] == 6 || p[1] == 7, 0);
                within(p[2], 0, 100);
                World w = behind(p[2]);
                Cask c = w.casks.get(p[0]);
                return p[1] == 7 ? w.loud(c) : c.get(p[1]);
            }
            case "claps":
                within(p[0], 0, 100);
                return behind(p[0]).claps;
            case "bursts": {
                Cask c = cask(p[0]);
                for (int n = 1; n <= 100; n++) {
                    if (behind(n).casks.get(p[0]).burst > c.burst) {
                        return n;
                    }
                }
                throw new Finding(3);
            }
            case "when": {
                cask(p[0]);
                within(p[1], 0, 2000);
                for (int n = 0; n <= 100; n++) {
                    World w = behind(n);
                    if (w.loud(w.casks.get(p[0])) >= p[1]) {
                        return n;
                    }
                }
                throw new Finding(3);
            }
            default: {
                within(p[0], 0, 60);
                World w = behind(p[0]);
                return world.set(c -> w.casks.get(world.casks.indexOf(c)).burst > c.burst);
            }
        }
    }

    private int now(int what) {
        List<Cask> casks = world.casks;
        switch (what) {
            case 0: return world.day;
            case 1: return world.claps;
            case 2: return casks.stream().mapToInt(c -> c.peal).sum();
            case 3: return blend(all());
            case 4: return world.set(c -> world.loud(c) > world.bears(c, c.kind));
            case 5: {
                int most = casks.stream().mapToInt(c -> world.loud(c)).max().orElse(-1);
                return casks.stream().filter(c -> world.loud(c) == most).map(c -> casks.indexOf(c)).findFirst().orElse(-1);
            }
            default: return casks.stream().mapToInt(c -> 1 << c.cellar).distinct().sum();
        }
    }

    private long answerWhere(String name, int[] p) {
        switch (name) {
            case "lay": return best(p[0], 1, 6, p[1]);
            case "kindFor": return best(p[0], 0, 7, p[1]);
            case "pitchFor": return best(p[0], 3, 12, p[1]);
            case "hoopsFor": {
                Cask c = cask(p[0]);
                within(p[1], 0, 20);
                for (int v = 0; v <= 200; v++) {
                    int hoops = v;
                    if (with(w -> w.casks.get(p[0]).hoops = hoops, p[1]).casks.get(p[0]).burst == c.burst) {
                        return v;
                    }
                }
                throw new Finding(3);
            }
            case "frostFor":
                within(p[0], 0, 5);
                within(p[1], 0, 40);
                for (int v = 9; v >= 0; v--) {
                    int frost = v;
                    if (with(w -> w.frost[p[0]] = frost, p[1]).claps == world.claps) {
                        return v;
                    }
                }
                throw new Finding(3);
            default:
                within(p[0], 0, 12);
                return fewest(set -> with(w -> {
                    for (int i = 0; i < w.casks.size(); i++) {
                        if ((set & 1 << i) != 0) {
                            w.casks.get(i).peal = w.casks.get(i).age = 0;
                        }
                    }
                }, p[0]).claps == world.claps);
        }
    }

    private long answerBlends(String name, int[] p) {
        switch (name) {
            case "blend":
                ask((p[0] & ~all()) == 0, 0);
                return blend(p[0]);
            case "order":
                within(p[0], 0, 9999);
                return fewest(set -> blend(set) == p[0]);
            case "blends": {
                within(p[0], 0, 9999);
                within(p[1], 0, 9999);
                int many = 0;
                for (int set = 0; set <= all(); set++) {
                    many += blend(set) >= p[0] && blend(set) <= p[1] ? 1 : 0;
                }
                return many;
            }
            case "fits": return pealsTold(p[0], p[1]).size();
            case "pealed": {
                List<Integer> peals = pealsTold(p[0], p[1]);
                ask(!peals.isEmpty(), 3);
                return peals.get(0);
            }
            case "kinds": return kindsTold(p[0], p[1]);
            case "storms":
                within(p[0], 1, 20);
                ask(world.day + p[0] <= 99999, 4);
                for (int i = 0; i < p[0]; i++) {
                    int first = world.draw();
                    int second = world.draw();
                    world.list[first % 6] = second % 100;
                    world.day();
                }
                return world.claps;
            case "odds": {
                within(p[0], 0, 23);
                within(p[1], 0, 1);
                BigInteger above = BigInteger.valueOf(6 - Integer.bitCount(now(6))).pow(p[0]);
                BigInteger below = BigInteger.valueOf(6).pow(p[0]);
                return (p[1] == 0 ? above : below).divide(above.gcd(below)).longValueExact();
            }
            default: {
                int was = world.z;
                world.z = p[0];
                return was;
            }
        }
    }

    private long answerTexts(String name, int[] p) {
        switch (name) {
            case "feed":
                within(p[1], 1, 4);
                ask(tape.length() + p[1] <= 120, 1);
                for (int i = p[1] - 1; i >= 0; i--) {
                    tape += (char) (p[0] >> 8 * i & 255);
                }
                return tape.length();
            case "wipe": {
                int was = tape.length();
                tape = "";
                return was;
            }
            case "text": return readText();
            case "hold":
                within(p[0], 0, 9);
                within(p[1], -1, world.casks.size() - 1);
                world.spots[p[0]] = p[1];
                return 1;
            default: {
                within(p[0], 0, 9);
                within(p[1], 0, 6);
                int held = world.spots[p[0]];
                ask(held != -1, 5);
                ask(Arrays.stream(ABOVE[world.casks.get(held).kind]).anyMatch(k -> k == p[1]), 2);
                return held;
            }
        }
    }

    private static final Pattern TOKEN = Pattern.compile(" *([a-z]+|[0-9]+|;|[^ ])", Pattern.DOTALL);

    /** Reads by a list of tokens and what may stand next, told as words with their bounds. */
    private int readText() {
        List<String> tokens = new ArrayList<>();
        List<Integer> places = new ArrayList<>();
        Matcher m = TOKEN.matcher(tape);
        for (int at = 0; at < tape.length() && m.find(at); at = m.end()) {
            tokens.add(m.group(1));
            places.add(m.start(1));
        }
        tokens.add("");
        places.add(tape.length());
        tape = "";
        World w = world.same();
        int at = 0;
        int items = 0;
        while (true) {
            at = readItem(w, tokens, at);
            if (at < 0) {
                return -1 - places.get(-1 - at);
            }
            items++;
            if (tokens.get(at).isEmpty()) {
                world = w;
                return items;
            }
            if (!tokens.get(at).equals(";")) {
                return -1 - places.get(at);
            }
            at++;
        }
    }

    private static boolean isNumber(String token, int most) {
        return token.matches("[0-9]+") && new BigInteger(token).compareTo(BigInteger.valueOf(most)) <= 0;
    }

    /** The place behind the item, or -1 less the place of the token at fault. */
    private static int readItem(World w, List<String> tokens, int from) {
        String word = tokens.get(from);
        int at = from + 1;
        if (word.equals("storm") || word.equals("frost")) {
            if (!isNumber(tokens.get(at), 5)) {
                return -1 - at;
            }
            if (!isNumber(tokens.get(at + 1), word.equals("storm") ? 99 : 9)) {
                return -1 - (at + 1);
            }
            int[] row = word.equals("storm") ? w.list : w.frost;
            row[Integer.parseInt(tokens.get(at))] = Integer.parseInt(tokens.get(at + 1));
            return at + 2;
        }
        int kind = Arrays.asList(NAMES).indexOf(word);
        if (kind < 0 || w.casks.size() == 8) {
            return -1 - from;
        }
        Cask c = new Cask(kind, 0);
        w.casks.add(c);
        String[] marks = {"in", "peal", "pitch", "hoops"};
        int[] most = {5, 999, 11, 999};
        for (int i = 0; i < 4; i++) {
            if (tokens.get(at).equals(marks[i])) {
                if (!isNumber(tokens.get(at + 1), most[i])) {
                    return -1 - (at + 1);
                }
                c.set(i + 1, new BigInteger(tokens.get(at + 1)).intValue());
                at += 2;
            }
        }
        return at;
    }

    private long answerSheets(String name, int[] p) {
        switch (name) {
            case "sheet":
                within(p[0], 0, 3);
                ask(p[1] == 0 || p[1] == 8 || p[1] == 16 || p[1] == 32, 0);
                ask(p[2] >= 0, 6);
                within(p[2], 0, 40);
                bits[p[0]] = p[1];
                sheets[p[0]] = p[1] == 0 ? null : new int[p[2]];
                return p[1] == 0 ? 0 : p[2];
            case "write": {
                int[] row = sheet(p[0]);
                within(p[1], 0, row.length - 1);
                int over = 32 - bits[p[0]];
                row[p[1]] = p[2] << over >> over;
                return 1;
            }
            case "copy": {
                within(p[0], 0, 3);
                within(p[2], 0, 3);
                int[] from = sheet(p[0]);
                int[] to = sheet(p[2]);
                ask(bits[p[0]] == bits[p[2]], 2);
                ask(p[1] >= 0 && p[3] >= 0 && p[4] >= 0, 0);
                ask((long) p[1] + p[4] <= from.length && (long) p[3] + p[4] <= to.length, 0);
                int[] were = from.clone();
                for (int i = 0; i < p[4]; i++) {
                    to[p[3] + i] = were[p[1] + i];
                }
                return p[4];
            }
            case "load": {
                int came = 0;
                for (int v : sheet(p[0])) {
                    if (v < 0 || v > 99 || came == 6) {
                        break;
                    }
                    world.list[came++] = v;
                }
                return came;
            }
            default: {
                int place = 0;
                for (int v : sheet(p[0])) {
                    if (place >= world.casks.size() || world.casks.get(place).peal != v) {
                        return 1 + place;
                    }
                    place++;
                }
                return 0;
            }
        }
    }

    private long answerImages(String name, int[] p) {
        switch (name) {
            case "image":
                kept = world.same();
                return 1;
            case "undo":
                ask(kept != null, 3);
                world = kept.same();
                return world.day;
            case "tear": {
                int was = kept == null ? 0 : 1;
                kept = null;
                return was;
            }
            case "count":
                within(p[0], 0, 7);
                return new int[] {world.day, world.casks.size(), now(2), world.claps,
                    world.casks.stream().mapToInt(c -> c.burst).sum(), tape.length(), world.z,
                    (int) Arrays.stream(world.spots).filter(c -> c != -1).count()}[p[0]];
            default:
                within(p[0], -1, 6);
                return p[0] == -1 ? Arrays.stream(told).sum() : told[p[0]];
        }
    }
}
