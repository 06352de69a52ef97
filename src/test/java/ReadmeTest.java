import java.io.IOException;
import java.nio.file.Files;
import java.nio.file.Path;
import java.util.ArrayList;
import java.util.Comparator;
import java.util.List;
import java.util.Set;
import java.util.TreeSet;
import java.util.regex.Matcher;
import java.util.regex.Pattern;
import java.util.stream.Stream;

/** What README.md tells is so: its calls compile and answer as told, its commands run, its table names every test. */
public final class ReadmeTest {
    private static final Check check = new Check();
    private static final Path ROOT = Path.of("").toAbsolutePath();
    private static final Pattern TOLD = Pattern.compile("(?:(?:int|long) (\\w+) = )?(pass\\.\\w+\\(.*\\)); *// (-?\\d+): .*");
    private static final Pattern ROW = Pattern.compile("\\| (\\w+Test) \\| .* \\|");

    public static void main(String[] args) throws IOException, InterruptedException {
        List<String> page = Files.readAllLines(Path.of("README.md"));
        Path room = Files.createTempDirectory("readme");
        try {
            calls(page, room);
            commands(page, room);
        } finally {
            removeAll(room);
        }
        table(page);
        findings(String.join("\n", page));
        check.end();
    }

    private static void holds(String what, boolean isSo) {
        check.due(what, isSo ? 1 : 0, 1);
    }

    // ---- the calls

    private static void calls(List<String> page, Path room) throws IOException, InterruptedException {
        List<List<String>> blocks = blocksOf(page);
        holds("there are calls", !blocks.isEmpty());
        StringBuilder source = new StringBuilder("public final class ReadmeCalls {\n    private static final Check check = new Check();\n");
        StringBuilder main = new StringBuilder("    public static void main(String[] args) {\n");
        for (int i = 0; i < blocks.size(); i++) {
            source.append("    private static void block").append(i).append("() {\n");
            boolean tells = false;
            for (String line : blocks.get(i)) {
                source.append(asked(line)).append('\n');
                tells |= TOLD.matcher(line.trim()).matches();
            }
            source.append("    }\n");
            main.append("        block").append(i).append("();\n");
            holds("block " + i + " tells answers", tells);
        }
        source.append(main).append("        check.end();\n    }\n}\n");
        Path file = room.resolve("ReadmeCalls.java");
        Files.writeString(file, source);
        String classes = ownClasses();
        check.due("the calls compile", run(room, "javac", "-cp", classes, "-d", room.toString(), file.toString()), 0);
        check.due("the calls answer as told", run(room, "java", "-cp", classes + ":" + room, "ReadmeCalls"), 0);
    }

    /** Where this test's own classes lie, for the calls run elsewhere. */
    private static String ownClasses() {
        List<String> places = new ArrayList<>();
        for (String place : System.getProperty("java.class.path").split(":")) {
            places.add(Path.of(place).toAbsolutePath().toString());
        }
        return String.join(":", places);
    }

    private static List<List<String>> blocksOf(List<String> page) {
        List<List<String>> blocks = new ArrayList<>();
        boolean isInside = false;
        for (String line : page) {
            if (line.equals("```java")) {
                isInside = true;
                blocks.add(new ArrayList<>());
            } else if (line.equals("```")) {
                isInside = false;
            } else if (isInside) {
                blocks.get(blocks.size() - 1).add(line);
            }
        }
        return blocks;
    }

    /** A line that tells an answer, made to compare it; another one as it stands. */
    private static String asked(String line) {
        Matcher m = TOLD.matcher(line.trim());
        if (!m.matches()) {
            // A comment without a number would go untested.
            holds("it tells its answer: " + line, !line.contains("//"));
            return line;
        }
        String call = m.group(2);
        String got = m.group(1) == null ? call : m.group(1);
        String kept = m.group(1) == null ? "" : line + "\n";
        return kept + "check.due(\"" + call.replace("\"", "'") + "\", " + got + ", " + m.group(3) + "L);";
    }

    // ---- the commands

    private static void commands(List<String> page, Path room) throws IOException, InterruptedException {
        // They run in a folder that looks like the checkout, so that what they make is gone with it.
        Path like = Files.createDirectory(room.resolve("like"));
        Files.createSymbolicLink(like.resolve("src"), ROOT.resolve("src"));
        int commands = 0;
        for (String line : page) {
            if (line.equals("    .ci/run")) {
                holds(".ci/run can be run", Files.isExecutable(ROOT.resolve(".ci/run")));
                commands++;
            } else if (line.startsWith("    javac ")) {
                check.due(line.trim(), run(like, "bash", "-c", line.trim()), 0);
                commands++;
            }
        }
        check.due("commands of README.md", commands, 3);
    }

    /** The command's end; what it printed is shown only if that is no good. */
    private static int run(Path where, String... words) throws IOException, InterruptedException {
        Process process = new ProcessBuilder(words).directory(where.toFile()).redirectErrorStream(true).start();
        String printed = new String(process.getInputStream().readAllBytes());
        int end = process.waitFor();
        if (end != 0) {
            System.out.println(String.join(" ", words) + ":\n" + printed);
        }
        return end;
    }

    private static void removeAll(Path folder) throws IOException {
        List<Path> all = new ArrayList<>();
        try (Stream<Path> paths = Files.walk(folder)) {
            paths.sorted(Comparator.reverseOrder()).forEach(all::add);
        }
        for (Path path : all) {
            Files.delete(path);
        }
    }

    // ---- what is told beside

    private static void table(List<String> page) throws IOException {
        Set<String> told = new TreeSet<>();
        for (String line : page) {
            Matcher m = ROW.matcher(line);
            if (m.matches()) {
                holds(m.group(1) + " stands once", told.add(m.group(1)));
            }
        }
        Set<String> there = new TreeSet<>();
        try (Stream<Path> paths = Files.list(Path.of("src/test/java"))) {
            paths.map(path -> path.getFileName().toString()).filter(name -> name.endsWith("Test.java"))
                .forEach(name -> there.add(name.replace(".java", "")));
        }
        check.same("tests of the table", told.toString(), there.toString());
    }

    private static void findings(String page) {
        Matcher m = Pattern.compile("(-\\d+) BEYOND, then downwards ([A-Z, ]+)\\.").matcher(page);
        holds("findings are told", m.find());
        check.due("the first of them", Long.parseLong(m.group(1)), Check.BEYOND);
        String[] names = m.group(2).split(", ");
        String due = "FULL KIND NONE STATE MISSING SIZE";
        check.same("the others", String.join(" ", names), due);
    }
}
