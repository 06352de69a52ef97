/** Thunder in casks: cellars, storms by a list, days, and what will come of them. */
public final class ThunderCasks {
    private static final int LOW = -1000001;
    private static final int BEYOND = 0;
    private static final int FULL = 1;
    private static final int KIND = 2;
    private static final int NONE = 3;
    private static final int STATE = 4;
    private static final int MISSING = 5;
    private static final int SIZE = 6;
    private static final int FINDINGS = 7;

    private static final int CELLARS = 6;
    private static final int CASKS = 8;
    private static final int SPOTS = 10;
    private static final int KINDS = 7;
    private static final int SHEETS = 4;
    private static final int SHEET_SIZE = 40;
    private static final int TAPE_SIZE = 120;

    private static final int MOST_FROST = 9;
    private static final int MOST_STORM = 99;
    private static final int MOST_MARK = 999;
    private static final int MOST_COUNTED = 99999;
    private static final int MOST_BLEND = 9999;
    private static final int MOST_AHEAD = 100;
    private static final int BURSTS_A_DAY = 8;

    private static final int CRACK = 1;
    private static final int ROLL = 2;
    private static final int MELLOW = 3;
    private static final int ECHO = 4;
    private static final int HEAT = 5;
    private static final int FORGED = 6;

    private static final int MARK_KIND = 0;
    private static final int MARK_CELLAR = 1;
    private static final int MARK_PEAL = 2;
    private static final int MARK_PITCH = 3;
    private static final int MARK_HOOPS = 4;
    private static final int MARK_AGE = 5;
    private static final int MARK_BURST = 6;
    private static final int MARKS = 7;
    private static final int MARK_LOUD = 7;

    private static final int[] MOST_OF_MARK = {6, 5, 999, 11, 999, 999, 999};
    private static final int[] KIND_ABOVE = {-1, 0, 0, 2, 3, 0, 1};

    private final Pass live = new Pass();
    private final Pass trial = new Pass();
    private final Pass kept = new Pass();
    private boolean isKept = false;
    private final Tape tape = new Tape();
    private final Sheets sheets = new Sheets();
    private final int[] findings = new int[FINDINGS];

    public ThunderCasks() {
    }

    // ---- cellars, storms, casks

    public int frost(int cellar, int v) {
        if (!isWithin(cellar, CELLARS - 1) || !isWithin(v, MOST_FROST)) {
            return finding(BEYOND);
        }
        int was = live.frosts[cellar];
        live.frosts[cellar] = v;
        return was;
    }

    public int cellar(int cellar, int what) {
        if (!isWithin(cellar, CELLARS - 1)) {
            return finding(BEYOND);
        }
        switch (what) {
            case 0: return live.frosts[cellar];
            case 1: return live.list[cellar];
            case 2: return live.setIn(cellar);
            case 3: return live.catcherIn(cellar);
            default: return finding(BEYOND);
        }
    }

    public int storm(int cellar, int v) {
        if (!isWithin(cellar, CELLARS - 1) || !isWithin(v, MOST_STORM)) {
            return finding(BEYOND);
        }
        int was = live.list[cellar];
        live.list[cellar] = v;
        return was;
    }

    public int cask(int kind, int cellar) {
        if (!isWithin(kind, KINDS - 1) || !isWithin(cellar, CELLARS - 1)) {
            return finding(BEYOND);
        }
        if (live.casks >= CASKS) {
            return finding(FULL);
        }
        return live.addCask(kind, cellar);
    }

    public int of(int cask, int what) {
        if (!isCask(cask)) {
            return finding(BEYOND);
        }
        if (isWithin(what, MARKS - 1)) {
            return live.marksOf(what)[cask];
        }
        switch (what) {
            case MARK_LOUD: return live.loudOf(cask);
            case 8: return live.leaksOf(cask);
            case 9: return live.bearsOf(cask);
            default: return finding(BEYOND);
        }
    }

    public int change(int cask, int what, int v) {
        if (!isCask(cask) || !isWithin(what, MARKS - 1)) {
            return finding(BEYOND);
        }
        if (!isWithin(v, MOST_OF_MARK[what])) {
            return finding(BEYOND);
        }
        int[] marks = live.marksOf(what);
        int was = marks[cask];
        marks[cask] = v;
        return was;
    }

    public int sell(int cask) {
        if (!isCask(cask)) {
            return finding(BEYOND);
        }
        int was = live.loudOf(cask);
        live.makeEmpty(cask);
        return was;
    }

    // ---- days

    public int go(int n) {
        if (n < 1 || n > 60) {
            return finding(BEYOND);
        }
        if (live.day + n > MOST_COUNTED) {
            return finding(STATE);
        }
        live.passDays(n);
        return live.claps;
    }

    public int now(int what) {
        switch (what) {
            case 0: return live.day;
            case 1: return live.claps;
            case 2: return live.sumOf(MARK_PEAL);
            case 3: return live.blendOf(live.allCasks());
            case 4: return live.setTooLoud();
            case 5: return live.loudestCask();
            case 6: return live.setOfCellars();
            default: return finding(BEYOND);
        }
    }

    // ---- what will be (nothing changes)

    public int ahead(int cask, int what, int n) {
        if (!isCask(cask) || !isWithin(n, MOST_AHEAD)) {
            return finding(BEYOND);
        }
        if (what != MARK_PEAL && what != MARK_AGE && what != MARK_BURST && what != MARK_LOUD) {
            return finding(BEYOND);
        }
        trial.takeFrom(live);
        trial.passDays(n);
        return what == MARK_LOUD ? trial.loudOf(cask) : trial.marksOf(what)[cask];
    }

    public int claps(int n) {
        if (!isWithin(n, MOST_AHEAD)) {
            return finding(BEYOND);
        }
        trial.takeFrom(live);
        trial.passDays(n);
        return trial.claps;
    }

    public int bursts(int cask) {
        if (!isCask(cask)) {
            return finding(BEYOND);
        }
        trial.takeFrom(live);
        for (int n = 1; n <= MOST_AHEAD; n++) {
            trial.passDays(1);
            if (trial.burst[cask] > live.burst[cask]) {
                return n;
            }
        }
        return finding(NONE);
    }

    public int when(int cask, int v) {
        if (!isCask(cask) || !isWithin(v, 2000)) {
            return finding(BEYOND);
        }
        trial.takeFrom(live);
        for (int n = 0; n <= MOST_AHEAD; n++) {
            if (trial.loudOf(cask) >= v) {
                return n;
            }
            trial.passDays(1);
        }
        return finding(NONE);
    }

    public int chain(int n) {
        if (!isWithin(n, 60)) {
            return finding(BEYOND);
        }
        trial.takeFrom(live);
        trial.passDays(n);
        int set = 0;
        for (int c = 0; c < live.casks; c++) {
            if (trial.burst[c] > live.burst[c]) {
                set |= 1 << c;
            }
        }
        return set;
    }

    // ---- where, as what

    public int lay(int cask, int n) {
        return loudestWith(cask, MARK_CELLAR, n);
    }

    public int kindFor(int cask, int n) {
        return loudestWith(cask, MARK_KIND, n);
    }

    public int pitchFor(int cask, int n) {
        return loudestWith(cask, MARK_PITCH, n);
    }

    public int hoopsFor(int cask, int n) {
        if (!isCask(cask) || !isWithin(n, 20)) {
            return finding(BEYOND);
        }
        for (int hoops = 0; hoops <= 200; hoops++) {
            trial.takeFrom(live);
            trial.hoops[cask] = hoops;
            if (staysWhole(cask, n)) {
                return hoops;
            }
        }
        return finding(NONE);
    }

    public int frostFor(int cellar, int n) {
        if (!isWithin(cellar, CELLARS - 1) || !isWithin(n, 40)) {
            return finding(BEYOND);
        }
        for (int frost = MOST_FROST; frost >= 0; frost--) {
            trial.takeFrom(live);
            trial.frosts[cellar] = frost;
            if (staysStill(n)) {
                return frost;
            }
        }
        return finding(NONE);
    }

    public int empty(int n) {
        if (!isWithin(n, 12)) {
            return finding(BEYOND);
        }
        int all = live.allCasks();
        for (int size = 0; size <= live.casks; size++) {
            for (int set = 0; set <= all; set++) {
                if (Integer.bitCount(set) != size) {
                    continue;
                }
                trial.takeFrom(live);
                trial.makeEmptyAll(set);
                if (staysStill(n)) {
                    return set;
                }
            }
        }
        return finding(NONE);
    }

    // ---- blends

    public int blend(int set) {
        if (!isWithin(set, live.allCasks())) {
            return finding(BEYOND);
        }
        return live.blendOf(set);
    }

    public int order(int v) {
        if (!isWithin(v, MOST_BLEND)) {
            return finding(BEYOND);
        }
        int all = live.allCasks();
        int best = -1;
        for (int set = 0; set <= all; set++) {
            boolean isFewer = best < 0 || Integer.bitCount(set) < Integer.bitCount(best);
            if (isFewer && live.blendOf(set) == v) {
                best = set;
            }
        }
        return best < 0 ? finding(NONE) : best;
    }

    public int blends(int v, int w) {
        if (!isWithin(v, MOST_BLEND) || !isWithin(w, MOST_BLEND)) {
            return finding(BEYOND);
        }
        int all = live.allCasks();
        int many = 0;
        for (int set = 0; set <= all; set++) {
            int loud = live.blendOf(set);
            if (loud >= v && loud <= w) {
                many++;
            }
        }
        return many;
    }

    // ---- told claps

    public int fits(int s, int cask) {
        int wrong = wrongTelling(s, cask);
        if (wrong >= 0) {
            return finding(wrong);
        }
        int many = 0;
        for (int peal = 0; peal <= 100; peal++) {
            if (isToldWithPeal(s, cask, peal)) {
                many++;
            }
        }
        return many;
    }

    public int pealed(int s, int cask) {
        int wrong = wrongTelling(s, cask);
        if (wrong >= 0) {
            return finding(wrong);
        }
        for (int peal = 0; peal <= 100; peal++) {
            if (isToldWithPeal(s, cask, peal)) {
                return peal;
            }
        }
        return finding(NONE);
    }

    public int kinds(int s, int cask) {
        int wrong = wrongTelling(s, cask);
        if (wrong >= 0) {
            return finding(wrong);
        }
        int set = 0;
        for (int kind = 0; kind < KINDS; kind++) {
            if (isToldAsKind(s, cask, kind)) {
                set |= 1 << kind;
            }
        }
        return set;
    }

    // ---- storms by draws

    public int storms(int n) {
        if (n < 1 || n > 20) {
            return finding(BEYOND);
        }
        if (live.day + n > MOST_COUNTED) {
            return finding(STATE);
        }
        for (int i = 0; i < n; i++) {
            int cellar = live.draw() % CELLARS;
            live.list[cellar] = live.draw() % (MOST_STORM + 1);
            live.passDays(1);
        }
        return live.claps;
    }

    public long odds(int n, int what) {
        if (!isWithin(n, 23) || !isWithin(what, 1)) {
            return finding(BEYOND);
        }
        int free = CELLARS - Integer.bitCount(live.setOfCellars());
        int part = lowestPart(free, CELLARS, what);
        long answer = 1;
        for (int i = 0; i < n; i++) {
            answer *= part;
        }
        return answer;
    }

    public int seed(int v) {
        int was = live.z;
        live.z = v;
        return was;
    }

    // ---- texts

    public int feed(int bytes, int n) {
        if (n < 1 || n > 4) {
            return finding(BEYOND);
        }
        if (tape.length + n > TAPE_SIZE) {
            return finding(FULL);
        }
        for (int i = n - 1; i >= 0; i--) {
            tape.addByte((bytes >>> (8 * i)) & 255);
        }
        return tape.length;
    }

    public int wipe() {
        int was = tape.length;
        tape.length = 0;
        return was;
    }

    public int text() {
        // Items come to a trial first, for a fault in a later one must leave all as it was.
        trial.takeFrom(live);
        int answer = tape.readInto(trial);
        tape.length = 0;
        if (answer >= 0) {
            live.takeFrom(trial);
        }
        return answer;
    }

    // ---- spots, sheets

    public int hold(int spot, int cask) {
        if (!isWithin(spot, SPOTS - 1) || (cask != -1 && !isCask(cask))) {
            return finding(BEYOND);
        }
        live.spots[spot] = cask;
        return 1;
    }

    public int as(int spot, int kind) {
        if (!isWithin(spot, SPOTS - 1) || !isWithin(kind, KINDS - 1)) {
            return finding(BEYOND);
        }
        int cask = live.spots[spot];
        if (!isCask(cask)) {
            return finding(MISSING);
        }
        if (!isUnder(live.kind[cask], kind)) {
            return finding(KIND);
        }
        return cask;
    }

    public int sheet(int s, int bits, int n) {
        boolean isWidth = bits == 0 || bits == 8 || bits == 16 || bits == 32;
        if (!isWithin(s, SHEETS - 1) || !isWidth) {
            return finding(BEYOND);
        }
        if (n < 0) {
            return finding(SIZE);
        }
        if (n > SHEET_SIZE) {
            return finding(BEYOND);
        }
        sheets.makeNew(s, bits, n);
        return sheets.sizes[s];
    }

    public int write(int s, int i, int v) {
        int wrong = wrongSheet(s);
        if (wrong >= 0) {
            return finding(wrong);
        }
        if (!isWithin(i, sheets.sizes[s] - 1)) {
            return finding(BEYOND);
        }
        sheets.put(s, i, v);
        return 1;
    }

    public int copy(int s, int from, int t, int to, int n) {
        if (!isWithin(s, SHEETS - 1) || !isWithin(t, SHEETS - 1)) {
            return finding(BEYOND);
        }
        if (sheets.isMissing(s) || sheets.isMissing(t)) {
            return finding(MISSING);
        }
        if (sheets.widths[s] != sheets.widths[t]) {
            return finding(KIND);
        }
        if (!sheets.hasRun(s, from, n) || !sheets.hasRun(t, to, n)) {
            return finding(BEYOND);
        }
        System.arraycopy(sheets.rows[s], from, sheets.rows[t], to, n);
        return n;
    }

    public int load(int s) {
        int wrong = wrongSheet(s);
        if (wrong >= 0) {
            return finding(wrong);
        }
        int most = Math.min(sheets.sizes[s], CELLARS);
        for (int i = 0; i < most; i++) {
            if (!isWithin(sheets.rows[s][i], MOST_STORM)) {
                return i;
            }
            live.list[i] = sheets.rows[s][i];
        }
        return most;
    }

    public int judge(int s) {
        int wrong = wrongSheet(s);
        if (wrong >= 0) {
            return finding(wrong);
        }
        for (int i = 0; i < sheets.sizes[s]; i++) {
            if (!isCask(i) || sheets.rows[s][i] != live.peal[i]) {
                return 1 + i;
            }
        }
        return 0;
    }

    // ---- images

    public int image() {
        kept.takeFrom(live);
        isKept = true;
        return 1;
    }

    public int undo() {
        if (!isKept) {
            return finding(NONE);
        }
        live.takeFrom(kept);
        return live.day;
    }

    public int tear() {
        int was = isKept ? 1 : 0;
        isKept = false;
        return was;
    }

    public int count(int what) {
        switch (what) {
            case 0: return live.day;
            case 1: return live.casks;
            case 2: return live.sumOf(MARK_PEAL);
            case 3: return live.claps;
            case 4: return live.sumOf(MARK_BURST);
            case 5: return tape.length;
            case 6: return live.z;
            case 7: return live.spotsHeld();
            default: return finding(BEYOND);
        }
    }

    public int status(int which) {
        if (which == -1) {
            int all = 0;
            for (int i = 0; i < FINDINGS; i++) {
                all += findings[i];
            }
            return all;
        }
        return isWithin(which, FINDINGS - 1) ? findings[which] : finding(BEYOND);
    }

    // ---- what several calls ask

    private int finding(int which) {
        findings[which]++;
        return LOW - which;
    }

    private static boolean isWithin(int v, int most) {
        return v >= 0 && v <= most;
    }

    private boolean isCask(int cask) {
        return isWithin(cask, live.casks - 1);
    }

    private static boolean isUnder(int kind, int above) {
        int k = kind;
        for (int i = 0; i < KINDS && isWithin(k, KINDS - 1); i++) {
            if (k == above) {
                return true;
            }
            k = KIND_ABOVE[k];
        }
        return false;
    }

    /** The value of a mark with which a cask is loudest behind n days. */
    private int loudestWith(int cask, int mark, int n) {
        if (!isCask(cask) || !isWithin(n, 40)) {
            return finding(BEYOND);
        }
        int best = 0;
        int bestLoud = -1;
        for (int v = 0; v <= MOST_OF_MARK[mark]; v++) {
            trial.takeFrom(live);
            trial.marksOf(mark)[cask] = v;
            trial.passDays(n);
            int loud = trial.loudOf(cask);
            if (loud > bestLoud) {
                best = v;
                bestLoud = loud;
            }
        }
        return best;
    }

    // BURST and CLAPS never shrink in a day, so the first day on which they grow decides.

    private boolean staysWhole(int cask, int n) {
        for (int i = 0; i < n; i++) {
            trial.passDays(1);
            if (trial.burst[cask] != live.burst[cask]) {
                return false;
            }
        }
        return true;
    }

    private boolean staysStill(int n) {
        for (int i = 0; i < n; i++) {
            trial.passDays(1);
            if (trial.claps != live.claps) {
                return false;
            }
        }
        return true;
    }

    /** The finding that stands against a sheet, or -1. */
    private int wrongSheet(int s) {
        if (!isWithin(s, SHEETS - 1)) {
            return BEYOND;
        }
        return sheets.isMissing(s) ? MISSING : -1;
    }

    /** The finding that stands against a sheet that tells of a cask, or -1. */
    private int wrongTelling(int s, int cask) {
        int wrong = wrongSheet(s);
        if (wrong >= 0) {
            return wrong;
        }
        return isCask(cask) ? -1 : BEYOND;
    }

    private boolean isToldWithPeal(int s, int cask, int peal) {
        trial.takeFrom(live);
        trial.peal[cask] = peal;
        for (int i = 0; i < sheets.sizes[s]; i++) {
            if (i > 0) {
                trial.passDays(1);
            }
            if (!sheets.tells(s, i, trial.claps)) {
                return false;
            }
        }
        return true;
    }

    private boolean isToldAsKind(int s, int cask, int kind) {
        trial.takeFrom(live);
        trial.kind[cask] = kind;
        for (int i = 0; i < sheets.sizes[s]; i++) {
            if (i > 0) {
                trial.passDays(1);
            }
            if (!sheets.tells(s, i, trial.peal[cask])) {
                return false;
            }
        }
        return true;
    }

    /** What stands above (0) or below the line (1) of a fraction in lowest terms. */
    private static int lowestPart(int above, int below, int what) {
        int part = what == 0 ? above : below;
        for (int d = below; d > 1; d--) {
            if (above % d == 0 && below % d == 0) {
                return part / d;
            }
        }
        return part;
    }

    /** All that an image keeps. An object makes three in its constructor and uses them again, for room is short. */
    private static final class Pass {
        final int[] frosts = new int[CELLARS];
        final int[] list = new int[CELLARS];
        final int[] kind = new int[CASKS];
        final int[] home = new int[CASKS];
        final int[] peal = new int[CASKS];
        final int[] pitch = new int[CASKS];
        final int[] hoops = new int[CASKS];
        final int[] age = new int[CASKS];
        final int[] burst = new int[CASKS];
        final int[] spots = new int[SPOTS];
        int casks = 0;
        int day = 0;
        int claps = 0;
        int z = 1;

        Pass() {
            for (int i = 0; i < CELLARS; i++) {
                list[i] = 10;
            }
            for (int i = 0; i < SPOTS; i++) {
                spots[i] = -1;
            }
        }

        void takeFrom(Pass other) {
            System.arraycopy(other.frosts, 0, frosts, 0, CELLARS);
            System.arraycopy(other.list, 0, list, 0, CELLARS);
            for (int mark = 0; mark < MARKS; mark++) {
                System.arraycopy(other.marksOf(mark), 0, marksOf(mark), 0, CASKS);
            }
            System.arraycopy(other.spots, 0, spots, 0, SPOTS);
            casks = other.casks;
            day = other.day;
            claps = other.claps;
            z = other.z;
        }

        int[] marksOf(int mark) {
            switch (mark) {
                case MARK_KIND: return kind;
                case MARK_CELLAR: return home;
                case MARK_PEAL: return peal;
                case MARK_PITCH: return pitch;
                case MARK_HOOPS: return hoops;
                case MARK_AGE: return age;
                default: return burst;
            }
        }

        /** Only where casks is below CASKS. */
        int addCask(int newKind, int cellar) {
            int c = casks;
            casks++;
            kind[c] = newKind;
            home[c] = cellar;
            peal[c] = 0;
            pitch[c] = 0;
            hoops[c] = 100;
            age[c] = 0;
            burst[c] = 0;
            return c;
        }

        void makeEmpty(int c) {
            peal[c] = 0;
            age[c] = 0;
        }

        void makeEmptyAll(int set) {
            for (int c = 0; c < casks; c++) {
                if ((set >> c & 1) != 0) {
                    makeEmpty(c);
                }
            }
        }

        int draw() {
            z = z * 1103515245 + 12345;
            return z >>> 8;
        }

        // ---- what a cask is

        int loudOf(int c) {
            switch (kind[c]) {
                case CRACK: return crackLoud(c);
                case ROLL: return rollLoud(c);
                case MELLOW: return rollLoud(c) / 2;
                case ECHO: return rollLoud(c) / 2 + 5 * othersBeside(c);
                case HEAT: return 0;
                case FORGED: return age[c] >= 10 ? 0 : crackLoud(c);
                default: return peal[c];
            }
        }

        int crackLoud(int c) {
            return Math.max(0, 2 * peal[c] - age[c]);
        }

        int rollLoud(int c) {
            return peal[c] - peal[c] / 4 + age[c];
        }

        int othersBeside(int c) {
            int many = 0;
            for (int b = 0; b < casks; b++) {
                if (b != c && home[b] == home[c]) {
                    many++;
                }
            }
            return many;
        }

        int leaksOf(int c) {
            switch (kind[c]) {
                case CRACK: return 3;
                case MELLOW: return 0;
                case ECHO: return 0;
                case HEAT: return 5;
                case FORGED: return 5;
                default: return 1;
            }
        }

        int bearsOf(int c) {
            int plain = Math.max(0, hoops[c] - 5 * frosts[home[c]]);
            switch (kind[c]) {
                case CRACK: return plain / 2;
                case ROLL: return plain + 10;
                case MELLOW: return plain + 10;
                case ECHO: return plain + 10;
                case FORGED: return plain / 2;
                default: return plain;
            }
        }

        // ---- what all are

        int allCasks() {
            return (1 << casks) - 1;
        }

        int setIn(int cellar) {
            int set = 0;
            for (int c = 0; c < casks; c++) {
                if (home[c] == cellar) {
                    set |= 1 << c;
                }
            }
            return set;
        }

        int catcherIn(int cellar) {
            int least = -1;
            for (int c = 0; c < casks; c++) {
                if (home[c] == cellar && (least < 0 || peal[c] < peal[least])) {
                    least = c;
                }
            }
            return least;
        }

        int sumOf(int mark) {
            int[] marks = marksOf(mark);
            int sum = 0;
            for (int c = 0; c < casks; c++) {
                sum += marks[c];
            }
            return sum;
        }

        int blendOf(int set) {
            int sum = 0;
            for (int c = 0; c < casks; c++) {
                if ((set >> c & 1) != 0) {
                    sum += loudOf(c);
                }
            }
            return sum;
        }

        int setTooLoud() {
            int set = 0;
            for (int c = 0; c < casks; c++) {
                if (loudOf(c) > bearsOf(c)) {
                    set |= 1 << c;
                }
            }
            return set;
        }

        int loudestCask() {
            int best = -1;
            int bestLoud = -1;
            for (int c = 0; c < casks; c++) {
                int loud = loudOf(c);
                if (loud > bestLoud) {
                    best = c;
                    bestLoud = loud;
                }
            }
            return best;
        }

        int setOfCellars() {
            int set = 0;
            for (int c = 0; c < casks; c++) {
                set |= 1 << home[c];
            }
            return set;
        }

        int spotsHeld() {
            int many = 0;
            for (int i = 0; i < SPOTS; i++) {
                if (spots[i] >= 0) {
                    many++;
                }
            }
            return many;
        }

        // ---- what a day does

        void passDays(int n) {
            for (int i = 0; i < n; i++) {
                catchStorm();
                leakAndAge();
                cancelPeals();
                burstAll();
                day = Math.min(day + 1, MOST_COUNTED);
            }
        }

        void catchStorm() {
            int cellar = day % CELLARS;
            int c = catcherIn(cellar);
            if (c >= 0) {
                peal[c] = Math.min(peal[c] + list[cellar], MOST_MARK);
            }
        }

        void leakAndAge() {
            for (int c = 0; c < casks; c++) {
                peal[c] = Math.max(0, peal[c] - leaksOf(c));
                age[c] = Math.min(age[c] + 1, MOST_MARK);
            }
        }

        void cancelPeals() {
            for (int a = 0; a < casks; a++) {
                for (int b = a + 1; b < casks && peal[a] > 0; b++) {
                    if (home[a] == home[b] && pitch[a] == pitch[b]) {
                        int lesser = Math.min(peal[a], peal[b]);
                        peal[a] -= lesser;
                        peal[b] -= lesser;
                    }
                }
            }
        }

        void burstAll() {
            for (int times = 0; times < BURSTS_A_DAY; times++) {
                int c = firstTooLoud();
                if (c < 0) {
                    return;
                }
                burstOne(c);
            }
        }

        int firstTooLoud() {
            for (int c = 0; c < casks; c++) {
                if (loudOf(c) > bearsOf(c)) {
                    return c;
                }
            }
            return -1;
        }

        void burstOne(int c) {
            int half = peal[c] / 2;
            for (int b = 0; b < casks; b++) {
                if (b != c && home[b] == home[c]) {
                    peal[b] = Math.min(peal[b] + half, MOST_MARK);
                }
            }
            makeEmpty(c);
            burst[c] = Math.min(burst[c] + 1, MOST_MARK);
            claps = Math.min(claps + 1, MOST_COUNTED);
        }
    }

    /** The sheets' numbers, cut to their bits when they are written. */
    private static final class Sheets {
        final int[] widths = new int[SHEETS];
        final int[] sizes = new int[SHEETS];
        final int[][] rows = new int[SHEETS][SHEET_SIZE];

        /** Width 0 makes it missing. */
        void makeNew(int s, int width, int size) {
            widths[s] = width;
            sizes[s] = width == 0 ? 0 : size;
            for (int i = 0; i < SHEET_SIZE; i++) {
                rows[s][i] = 0;
            }
        }

        boolean isMissing(int s) {
            return widths[s] == 0;
        }

        void put(int s, int i, int v) {
            if (widths[s] == 8) {
                rows[s][i] = (byte) v;
            } else if (widths[s] == 16) {
                rows[s][i] = (short) v;
            } else {
                rows[s][i] = v;
            }
        }

        /** Told by taking away, for a sum could wrap around. */
        boolean hasRun(int s, int from, int n) {
            return from >= 0 && n >= 0 && from <= sizes[s] && n <= sizes[s] - from;
        }

        boolean tells(int s, int i, int v) {
            return rows[s][i] == -1 || rows[s][i] == v;
        }
    }

    /** The tape's bytes, and the one token of them that is looked at. */
    private static final class Tape {
        private static final int END = 0;
        private static final int WORD = 1;
        private static final int NUMBER = 2;
        private static final int SIGN = 3;
        private static final int STRANGE = 4;

        final int[] bytes = new int[TAPE_SIZE];
        int length = 0;
        int token = END;
        int start = 0;
        int end = 0;
        int value = 0;

        /** Only where there is room. */
        void addByte(int b) {
            bytes[length] = b;
            length++;
        }

        /** How many items came to the pass, or -1 less the fault. */
        int readInto(Pass pass) {
            end = 0;
            step();
            int items = 0;
            // Each item takes a byte at least.
            while (items <= TAPE_SIZE) {
                if (!readItem(pass)) {
                    return -1 - start;
                }
                items++;
                if (token == END) {
                    return items;
                }
                if (token != SIGN) {
                    return -1 - start;
                }
                step();
            }
            return -1 - start;
        }

        /** Where it answers false, the token looked at is the one at fault. */
        boolean readItem(Pass pass) {
            if (isWord("storm")) {
                return readPair(pass.list, MOST_STORM);
            }
            if (isWord("frost")) {
                return readPair(pass.frosts, MOST_FROST);
            }
            int kind = kindOfWord();
            if (kind < 0 || pass.casks >= CASKS) {
                return false;
            }
            int c = pass.addCask(kind, 0);
            step();
            return readMark(pass, c, "in", MARK_CELLAR)
                && readMark(pass, c, "peal", MARK_PEAL)
                && readMark(pass, c, "pitch", MARK_PITCH)
                && readMark(pass, c, "hoops", MARK_HOOPS);
        }

        boolean readPair(int[] row, int most) {
            step();
            if (!isNumber(CELLARS - 1)) {
                return false;
            }
            int cellar = value;
            step();
            if (!isNumber(most)) {
                return false;
            }
            row[cellar] = value;
            step();
            return true;
        }

        boolean readMark(Pass pass, int c, String name, int mark) {
            if (!isWord(name)) {
                return true;
            }
            step();
            if (!isNumber(MOST_OF_MARK[mark])) {
                return false;
            }
            pass.marksOf(mark)[c] = value;
            step();
            return true;
        }

        int kindOfWord() {
            for (int kind = 0; kind < KINDS; kind++) {
                if (isWord(nameOfKind(kind))) {
                    return kind;
                }
            }
            return -1;
        }

        static String nameOfKind(int kind) {
            switch (kind) {
                case CRACK: return "crack";
                case ROLL: return "roll";
                case MELLOW: return "mellow";
                case ECHO: return "echo";
                case HEAT: return "heat";
                case FORGED: return "forged";
                default: return "cask";
            }
        }

        boolean isNumber(int most) {
            return token == NUMBER && value <= most;
        }

        boolean isWord(String name) {
            if (token != WORD || end - start != name.length()) {
                return false;
            }
            for (int i = 0; i < name.length(); i++) {
                if (bytes[start + i] != name.charAt(i)) {
                    return false;
                }
            }
            return true;
        }

        /** The token behind the one looked at is looked at. */
        void step() {
            start = end;
            while (start < length && bytes[start] == ' ') {
                start++;
            }
            end = start;
            if (start >= length) {
                token = END;
            } else if (isLetter(bytes[start])) {
                token = WORD;
                while (end < length && isLetter(bytes[end])) {
                    end++;
                }
            } else if (isDigit(bytes[start])) {
                token = NUMBER;
                stepNumber();
            } else {
                token = bytes[start] == ';' ? SIGN : STRANGE;
                end++;
            }
        }

        void stepNumber() {
            value = 0;
            while (end < length && isDigit(bytes[end])) {
                // Held just above the greatest, so that many digits don't wrap around.
                value = Math.min(value * 10 + bytes[end] - '0', MOST_MARK + 1);
                end++;
            }
        }

        static boolean isLetter(int b) {
            return b >= 'a' && b <= 'z';
        }

        static boolean isDigit(int b) {
            return b >= '0' && b <= '9';
        }
    }
}
