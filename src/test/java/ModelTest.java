import java.lang.reflect.Method;
import java.lang.reflect.Modifier;
import java.util.ArrayList;
import java.util.Arrays;
import java.util.Comparator;
import java.util.List;
import java.util.Random;

/** Long runs of drawn calls, of all promises, each answer compared with that of the Model. */
public final class ModelTest {
    private static final Check check = new Check();
    private static final String[] WORDS = {"cask", "crack", "roll", "mellow", "echo", "heat", "forged",
        "storm", "frost", "in", "peal", "pitch", "hoops", "casks", "x", "?"};
    private static final int[] ODD = {-1, -2, 5, 6, 7, 8, 10, 11, 12, 13, 20, 21, 40, 41, 60, 61, 99, 100, 101,
        999, 1000, 2000, 2001, 9999, 10000, Integer.MAX_VALUE, Integer.MIN_VALUE, -1000001};
    private static final String[] DEAR = {"hoopsFor", "empty", "fits", "pealed", "bursts", "when", "pitchFor"};

    private final Random random;
    private final ThunderCasks real = new ThunderCasks();
    private final Model model = new Model();
    private final String run;
    private final List<Method> methods;
    private int calls = 0;

    private ModelTest(long seed, List<Method> methods) {
        random = new Random(seed);
        run = "run " + seed;
        this.methods = methods;
    }

    public static void main(String[] args) throws ReflectiveOperationException {
        int runs = args.length > 0 ? Integer.parseInt(args[0]) : 300;
        int first = args.length > 1 ? Integer.parseInt(args[1]) : 1;
        List<Method> methods = new ArrayList<>();
        for (Method m : ThunderCasks.class.getDeclaredMethods()) {
            if (Modifier.isPublic(m.getModifiers())) {
                methods.add(m);
            }
        }
        methods.sort(Comparator.comparing(Method::getName));
        for (int i = 0; i < runs; i++) {
            new ModelTest(first + i, methods).go();
        }
        check.end();
    }

    private void go() throws ReflectiveOperationException {
        start();
        while (calls < 512) {
            int pick = random.nextInt(12);
            if (pick == 0) {
                text();
            } else if (pick == 1) {
                tellSheet();
            } else if (pick == 2) {
                changeOne();
            } else {
                any();
            }
        }
    }

    private long call(String name, int... p) throws ReflectiveOperationException {
        calls++;
        for (Method m : methods) {
            if (m.getName().equals(name)) {
                Object[] boxed = Arrays.stream(p).boxed().toArray();
                long got = ((Number) m.invoke(real, boxed)).longValue();
                check.due(run + ", call " + calls + ": " + name + Arrays.toString(p), got, model.call(name, p));
                return got;
            }
        }
        throw new IllegalStateException(name);
    }

    private void start() throws ReflectiveOperationException {
        int casks = random.nextInt(9);
        int cellars = 1 + random.nextInt(6);
        int pitches = 1 + random.nextInt(12);
        for (int i = 0; i < casks; i++) {
            call("cask", random.nextInt(7), random.nextInt(cellars));
            call("change", i, 2, random.nextInt(random.nextBoolean() ? 150 : 1000));
            call("change", i, 3, random.nextInt(pitches));
            call("change", i, 4, random.nextInt(random.nextBoolean() ? 150 : 1000));
            if (random.nextInt(3) == 0) {
                call("change", i, 5, random.nextInt(300));
            }
        }
        for (int c = 0; c < 6; c++) {
            call("storm", c, random.nextInt(100));
            call("frost", c, random.nextInt(10));
        }
    }

    private void any() throws ReflectiveOperationException {
        Method m = methods.get(random.nextInt(methods.size()));
        if (Arrays.asList(DEAR).contains(m.getName()) && random.nextInt(3) != 0) {
            return;
        }
        int[] p = new int[m.getParameterCount()];
        for (int i = 0; i < p.length; i++) {
            p[i] = number();
        }
        call(m.getName(), p);
    }

    private int number() {
        switch (random.nextInt(20)) {
            case 0: return ODD[random.nextInt(ODD.length)];
            case 1: return random.nextInt(1000);
            case 2: case 3: return random.nextInt(60);
            case 4: case 5: case 6: return random.nextInt(10);
            default: return random.nextInt(6);
        }
    }

    private void changeOne() throws ReflectiveOperationException {
        int casks = (int) call("count", 1);
        if (casks > 0) {
            int what = random.nextInt(7);
            int[] most = {7, 6, 200, 12, 200, 50, 1000};
            call("change", random.nextInt(casks), what, random.nextInt(most[what]));
        }
    }

    /** Claps or peals as they will be, some left open, so that what is told fits now and then. */
    private void tellSheet() throws ReflectiveOperationException {
        int casks = (int) call("count", 1);
        int cask = random.nextInt(casks + 1);
        int n = random.nextInt(8);
        boolean isClaps = random.nextBoolean();
        int s = random.nextInt(4);
        call("sheet", s, 8 << random.nextInt(3), n);
        for (int i = 0; i < n; i++) {
            long v = isClaps ? call("claps", i) : call("ahead", cask, 2, i);
            call("write", s, i, random.nextInt(3) == 0 ? -1 : (int) v);
        }
        if (isClaps) {
            call("fits", s, cask);
            call("pealed", s, cask);
        } else {
            call("kinds", s, cask);
        }
        call("judge", s);
    }

    private void text() throws ReflectiveOperationException {
        StringBuilder text = new StringBuilder();
        int items = 1 + random.nextInt(4);
        for (int i = 0; i < items; i++) {
            text.append(i > 0 ? ";" : "").append(blank()).append(item()).append(blank());
        }
        if (random.nextInt(4) == 0) {
            int at = random.nextInt(text.length() + 1);
            text.insert(at, WORDS[random.nextInt(WORDS.length)]);
        }
        if (random.nextInt(6) == 0) {
            text.setLength(random.nextInt(text.length() + 1));
        }
        if (random.nextInt(4) != 0) {
            call("wipe");
        }
        for (int at = 0; at < text.length();) {
            int n = Math.min(1 + random.nextInt(4), text.length() - at);
            int bytes = random.nextInt(256);
            for (int i = 0; i < n; i++) {
                bytes = bytes << 8 | text.charAt(at + i);
            }
            call("feed", bytes, n);
            at += n;
        }
        call("text");
    }

    private String blank() {
        return random.nextInt(4) == 0 ? " " : "";
    }

    private String item() {
        if (random.nextInt(3) == 0) {
            return (random.nextBoolean() ? "storm" : "frost") + blank() + few(6) + " " + few(10);
        }
        String[] marks = {"in", "peal", "pitch", "hoops"};
        int[] bounds = {6, 1000, 12, 1000};
        StringBuilder item = new StringBuilder(WORDS[random.nextInt(7)]);
        for (int i = 0; i < 4; i++) {
            if (random.nextInt(3) == 0) {
                item.append(' ').append(marks[i]).append(blank()).append(few(bounds[i]));
            }
        }
        return item.toString();
    }

    private int few(int bound) {
        return random.nextInt(15) == 0 ? bound + random.nextInt(3) : random.nextInt(bound);
    }
}
