/** Edges of promises 31 to 33 and of the Terms' third part: THE TAPE, TOKENS, NUMBERS, FAULT. */
public final class TextEdgesTest {
    private static final String[] KINDS = {"cask", "crack", "roll", "mellow", "echo", "heat", "forged"};
    private static final String[] MARKS = {"in", "peal", "pitch", "hoops"};
    private static final int[] MOST = {5, 999, 11, 999};
    private static final Check check = new Check();

    public static void main(String[] args) {
        fedBytes();
        fullTape();
        wipedTape();
        bytesAlone();
        bytesBehindAWord();
        bytesBehindANumber();
        bytesBehindASign();
        tokensAsLongAsCanBe();
        blanks();
        numbersOfMarks();
        numbersOfPairs();
        longNumbers();
        marksInTheirOrder();
        otherWords();
        endsTooEarly();
        longestTexts();
        eighthAndNinth();
        firstFaultCounts();
        faultIsNoFinding();
        laterItemsCount();
        check.end();
    }

    private static void reads(String text, int due) {
        check.due("'" + text + "'", Check.read(new ThunderCasks(), text), due);
    }

    private static void fault(String text, int place) {
        reads(text, -1 - place);
    }

    private static void fedBytes() {
        ThunderCasks x = new ThunderCasks();
        check.due("the lowest one: feed", x.feed(0x7A7A7A63, 1), 1);
        check.due("the two lowest: feed", x.feed(0x7A7A6173, 2), 3);
        check.due("the three lowest: feed", x.feed(0xFF6B3B63, 3), 6);
        check.due("all four: feed", x.feed(0x7261636B, 4), 10);
        check.due("count(5)", x.count(5), 10);
        check.due("'cask;crack': text()", x.text(), 2);
        check.due("of(1, 0)", x.of(1, 0), Check.CRACK);
        check.due("feed(MIN, 4)", x.feed(Integer.MIN_VALUE, 4), 4);
        check.due("its first byte is 128: text()", x.text(), -1);
        check.due("feed(-1, 1)", x.feed(-1, 1), 1);
        check.due("feed(0x20, 4), noughts first", x.feed(0x20, 4), 5);
        check.due("text()", x.text(), -1);
    }

    private static void fullTape() {
        for (int left = 0; left <= 5; left++) {
            for (int n = 1; n <= 4; n++) {
                ThunderCasks x = new ThunderCasks();
                Check.feed(x, " ".repeat(120 - left));
                int due = n <= left ? 120 - left + n : Check.FULL;
                check.due(n + " more with room for " + left, x.feed(0x20202020, n), due);
                int has = n <= left ? due : 120 - left;
                check.due("count(5)", x.count(5), has);
                check.due("blanks alone end too early: text()", x.text(), -1 - has);
                check.due("count(5)", x.count(5), 0);
            }
        }
    }

    private static void wipedTape() {
        ThunderCasks x = new ThunderCasks();
        check.due("nothing on it: wipe()", x.wipe(), 0);
        Check.feed(x, " ".repeat(120));
        check.due("full: wipe()", x.wipe(), 120);
        check.due("wipe()", x.wipe(), 0);
        check.due("there is room again: feed", x.feed(0x63617368 + 3, 4), 4);
        check.due("status(-1)", x.status(-1), 0);
    }

    /** Texts are made of bytes here, so that all 256 can be fed. */
    private static int readBytes(String text, int last) {
        ThunderCasks x = new ThunderCasks();
        Check.feed(x, text);
        x.feed(last, 1);
        return x.text();
    }

    private static boolean isLetter(int b) {
        return b >= 97 && b <= 122;
    }

    private static boolean isDigit(int b) {
        return b >= 48 && b <= 57;
    }

    private static void bytesAlone() {
        for (int b = 0; b < 256; b++) {
            check.due("byte " + b, readBytes("", b), b == 32 ? -2 : -1);
        }
    }

    private static void bytesBehindAWord() {
        for (int b = 0; b < 256; b++) {
            int due = b == 32 ? 1 : isLetter(b) ? -1 : b == 59 ? -6 : -5;
            check.due("'cask' and byte " + b, readBytes("cask", b), due);
        }
    }

    private static void bytesBehindANumber() {
        for (int b = 0; b < 256; b++) {
            int due = b == 32 || isDigit(b) ? 1 : b == 59 ? -14 : -13;
            check.due("'cask peal 12' and byte " + b, readBytes("cask peal 12", b), due);
            int dueThen = b == 32 ? 1 : isDigit(b) ? -11 : b == 59 ? -15 : -14;
            check.due("'cask peal 123' and byte " + b, readBytes("cask peal 123", b), dueThen);
        }
    }

    private static void bytesBehindASign() {
        for (int b = 0; b < 256; b++) {
            check.due("'cask;' and byte " + b, readBytes("cask;", b), b == 32 ? -7 : -6);
        }
    }

    private static void tokensAsLongAsCanBe() {
        reads("cask in5peal9pitch1hoops1", 1);
        reads("storm5 9", 1);
        reads("frost 5 9;cask", 2);
        fault("caskin 5", 0);
        fault("storm 59", 6);
        fault("storm 05", 8);
        fault("storm 5 9cask", 9);
        fault("frostx 1 1", 0);
        fault("cask in 5 5", 10);
        fault("cask peal 5 5", 12);
        fault("cask pealx 5", 5);
    }

    private static void blanks() {
        reads(" cask ", 1);
        reads("    cask   in   5   peal   1   ;   heat    ", 2);
        reads("cask;heat", 2);
        fault("ca sk", 0);
        fault("cask peal 1 2", 12);
        fault("cask\tin 5", 4);
        fault("cask\nin 5", 4);
        fault("\rcask", 0);
        fault("cask" + (char) 160, 4);
    }

    private static void numbersOfMarks() {
        for (int i = 0; i < MARKS.length; i++) {
            for (String kind : KINDS) {
                String text = kind + " " + MARKS[i] + " ";
                markIs(text + "0", i + 1, 0);
                markIs(text + MOST[i], i + 1, MOST[i]);
                fault(text + (MOST[i] + 1), text.length());
                fault(text + "1000", text.length());
                fault(text + "-1", text.length());
                fault(text + ";", text.length());
                fault(text + "x", text.length());
                fault(text + "in", text.length());
                fault(text, text.length());
            }
        }
    }

    private static void markIs(String text, int what, int due) {
        ThunderCasks x = new ThunderCasks();
        check.due("'" + text + "'", Check.read(x, text), 1);
        int[] dues = {x.of(0, 0), 0, 0, 0, 100, 0, 0};
        dues[what] = due;
        for (int i = 0; i < dues.length; i++) {
            check.due("'" + text + "': of(0, " + i + ")", x.of(0, i), dues[i]);
        }
    }

    private static void numbersOfPairs() {
        String[] words = {"storm", "frost"};
        int[] most = {99, 9};
        for (int i = 0; i < words.length; i++) {
            for (int cellar = 0; cellar < 6; cellar++) {
                String text = words[i] + " " + cellar + " ";
                ThunderCasks x = new ThunderCasks();
                check.due("'" + text + "greatest'", Check.read(x, text + most[i]), 1);
                check.due("cellar", x.cellar(cellar, 1 - i), most[i]);
                check.due("cellar, the other mark", x.cellar(cellar, i), i == 0 ? 0 : 10);
                check.due("'" + text + "0'", Check.read(x, text + "0"), 1);
                check.due("cellar", x.cellar(cellar, 1 - i), 0);
                fault(text + (most[i] + 1), text.length());
                fault(text + "1000", text.length());
                fault(text + ";", text.length());
                fault(text + "x", text.length());
                fault(text, text.length());
            }
            fault(words[i] + " 6 0", 6);
            fault(words[i] + " 6", 6);
            fault(words[i] + " 1000 0", 6);
            fault(words[i] + " -1 0", 6);
            fault(words[i] + " in 0", 6);
            fault(words[i] + ";", 5);
            fault(words[i] + " 0 0 0", 10);
            fault(words[i] + " 0 0 peal 1", 10);
        }
    }

    private static void longNumbers() {
        reads("cask peal 999", 1);
        fault("cask peal 1000", 10);
        fault("cask peal 9990", 10);
        String[] wraps = {"2147483647", "2147483648", "4294967295", "4294967296", "4294967301", "18446744073709551616",
            "18446744073709551621", "9".repeat(110), "1" + "0".repeat(109)};
        for (String digits : wraps) {
            fault("cask peal " + digits, 10);
            fault("cask in " + digits, 8);
        }
    }

    private static void marksInTheirOrder() {
        for (int set = 0; set < 16; set++) {
            ThunderCasks x = new ThunderCasks();
            StringBuilder text = new StringBuilder("echo");
            int[] dues = {4, 0, 0, 0, 100, 0, 0};
            for (int i = 0; i < 4; i++) {
                if ((set >> i & 1) != 0) {
                    text.append(' ').append(MARKS[i]).append(' ').append(i + 2);
                    dues[i + 1] = i + 2;
                }
            }
            check.due("'" + text + "'", Check.read(x, text.toString()), 1);
            for (int what = 0; what < dues.length; what++) {
                check.due("'" + text + "': of(0, " + what + ")", x.of(0, what), dues[what]);
            }
        }
        for (int i = 0; i < 4; i++) {
            for (int k = 0; k <= i; k++) {
                String first = "echo " + MARKS[i] + " 1 ";
                fault(first + MARKS[k] + " 1", first.length());
            }
        }
    }

    private static void otherWords() {
        for (String kind : KINDS) {
            reads(kind, 1);
            fault(kind + "s", 0);
            fault("s" + kind, 0);
            fault(kind.substring(1), 0);
            fault("z" + kind.substring(1), 0);
            fault(kind.substring(0, kind.length() - 1) + "z", 0);
            fault(kind.substring(0, kind.length() - 1), 0);
            fault(kind.toUpperCase(), 0);
            fault("heat " + kind, 5);
            fault("heat;" + kind + kind, 5);
        }
        for (String mark : MARKS) {
            fault("heat z" + mark.substring(1) + " 1", 5);
        }
        fault("ztorm 1 1", 0);
        fault("zrost 1 1", 0);
        String[] notFirst = {"in", "peal", "pitch", "hoops", "x", "5", "storms", "frosts", "stor", "fros"};
        for (String word : notFirst) {
            fault(word, 0);
            fault("  " + word, 2);
            fault("cask;" + word, 5);
            fault("cask; " + word, 6);
        }
    }

    /** Each begin of a text: a whole one where an ITEM may end, else a FAULT at what can't stand there or behind all. */
    private static void endsTooEarly() {
        String text = "roll in 5 peal 9;storm 5 9;frost 5 9";
        for (int n = 0; n <= text.length(); n++) {
            String begin = text.substring(0, n);
            boolean isWhole = n == 4 || n == 5 || n == 9 || n == 10 || n == 16 || n == 26 || n == 36;
            boolean isTorn = isTorn(n, 0, 4) || isTorn(n, 5, 7) || isTorn(n, 10, 14) || isTorn(n, 17, 22) || isTorn(n, 27, 32);
            if (isWhole) {
                reads(begin, n <= 16 ? 1 : n == 26 ? 2 : 3);
            } else if (isTorn) {
                fault(begin, n < 5 ? 0 : n < 7 ? 5 : n < 14 ? 10 : n < 22 ? 17 : 27);
            } else {
                fault(begin, n);
            }
        }
        fault("", 0);
        fault(" ", 1);
        fault("cask;", 5);
        fault("cask;   ", 8);
    }

    private static boolean isTorn(int n, int from, int to) {
        return n > from && n < to;
    }

    private static void longestTexts() {
        StringBuilder storms = new StringBuilder();
        for (int i = 0; i < 12; i++) {
            storms.append(i == 0 ? "" : ";").append("storm ").append(i % 6).append(' ').append(i % 10);
        }
        check.due("twelve ITEMS have 119 bytes", storms.length(), 119);
        reads(storms.toString(), 12);
        reads(storms + " ", 12);
        fault(storms + ";", 120);
        fault(storms + "?", 119);
        fault(storms + "x", 119);
        fault(" ".repeat(120), 120);
        fault(" ".repeat(119) + ";", 119);
        fault(" ".repeat(119) + "x", 119);
        reads(" ".repeat(116) + "roll", 1);
        reads("roll" + " ".repeat(116), 1);
        fault("x".repeat(120), 0);
        fault("1".repeat(120), 0);
        fault(";".repeat(120), 0);
        fault("cask;" + "x".repeat(115), 5);
        fault(" ".repeat(113) + "cask in", 120);
        fault(" ".repeat(112) + "cask in ", 120);
        fault(" ".repeat(112) + "cask in6", 119);
        reads(" ".repeat(112) + "cask in5", 1);
    }

    private static void eighthAndNinth() {
        for (int has = 0; has <= 8; has++) {
            StringBuilder text = new StringBuilder();
            for (int i = has; i < 8; i++) {
                text.append(i == has ? "" : ";").append(KINDS[i % 7]);
            }
            if (has < 8) {
                ThunderCasks x = withCasks(has);
                check.due("to the eighth", Check.read(x, text.toString()), 8 - has);
                check.due("count(1)", x.count(1), 8);
            }
            ThunderCasks y = withCasks(has);
            String ninth = text + (has < 8 ? "; " : "");
            String was = Check.shown(y);
            check.due("the ninth's own WORD", Check.read(y, ninth + "roll in 9"), -1 - ninth.length());
            check.same("nothing but THE TAPE", Check.shown(y), was);
            check.due("STORMS and FROST need no room", Check.read(y, "storm 1 1;frost 1 1"), 2);
        }
    }

    private static ThunderCasks withCasks(int many) {
        ThunderCasks x = new ThunderCasks();
        for (int i = 0; i < many; i++) {
            x.cask(i % 7, i % 6);
        }
        return x;
    }

    private static void firstFaultCounts() {
        fault("cask in 6 peal 1000", 8);
        fault("storm 6 100", 6);
        fault("cask ?;roll in 9", 5);
        fault("roll in 9;cask ?", 8);
        ThunderCasks x = withCasks(8);
        check.due("a NUMBER before the ninth", Check.read(x, "storm 0 100;cask"), -1 - 8);
        check.due("the ninth before a NUMBER", Check.read(x, "cask;storm 0 100"), -1);
        check.due("an unknown WORD where eight are", Check.read(x, "casks"), -1);
    }

    private static void faultIsNoFinding() {
        ThunderCasks x = withCasks(2);
        x.hold(4, 1);
        x.image();
        x.sheet(1, 8, 3);
        String was = Check.shown(x);
        String[] faults = {"", "frost 1 1;", "storm 1 1;frost 1 1;heat in 3;?", "roll in 3 hoops 7;cask in 6", "5"};
        int[] places = {0, 10, 30, 26, 0};
        for (int i = 0; i < faults.length; i++) {
            check.due("'" + faults[i] + "'", Check.read(x, faults[i]), -1 - places[i]);
            check.same("nothing is told by '" + faults[i] + "'", Check.shown(x), was);
        }
        check.due("no finding: status(-1)", x.status(-1), 0);
        check.due("as(4, 1)", x.as(4, 1), 1);
        check.due("judge(1)", x.judge(1), 3);
        check.due("undo()", x.undo(), 0);
    }

    private static void laterItemsCount() {
        ThunderCasks x = new ThunderCasks();
        check.due("text", Check.read(x, "storm 1 1;storm 1 2;frost 1 3;frost 1 4;cask in 1;cask in 1"), 6);
        check.due("the later one: cellar(1, 1)", x.cellar(1, 1), 2);
        check.due("the later one: cellar(1, 0)", x.cellar(1, 0), 4);
        check.due("both: cellar(1, 2)", x.cellar(1, 2), 3);
        check.due("a TEXT is read once: text()", x.text(), -1);
        check.due("count(1)", x.count(1), 2);
    }
}
