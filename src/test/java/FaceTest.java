import java.io.IOException;
import java.lang.reflect.Constructor;
import java.lang.reflect.Field;
import java.lang.reflect.Method;
import java.lang.reflect.Modifier;
import java.nio.file.Files;
import java.nio.file.Path;
import java.util.ArrayList;
import java.util.Arrays;
import java.util.List;
import java.util.Set;
import java.util.TreeSet;
import java.util.regex.Matcher;
import java.util.regex.Pattern;

/** The public face as the document tells it, and rules of LANGUAGE.md that can be read off. */
public final class FaceTest {
    private static final Path SOURCE = Path.of("src/main/java/ThunderCasks.java");
    private static final Check check = new Check();

    /** A method as 'type name n', n being how many ints it takes. */
    private static final String FACE = "int frost 2,int cellar 2,int storm 2,int cask 2,int of 2,int change 3,int sell 1,"
        + "int go 1,int now 1,int ahead 3,int claps 1,int bursts 1,int when 2,int chain 1,int lay 2,int kindFor 2,"
        + "int pitchFor 2,int hoopsFor 2,int frostFor 2,int empty 1,int blend 1,int order 1,int blends 2,int fits 2,"
        + "int pealed 2,int kinds 2,int storms 1,long odds 2,int seed 1,int feed 2,int wipe 0,int text 0,int hold 2,"
        + "int as 2,int sheet 3,int write 3,int copy 5,int load 1,int judge 1,int image 0,int undo 0,int tear 0,"
        + "int count 1,int status 1";

    public static void main(String[] args) throws IOException {
        face();
        members(ThunderCasks.class);
        classesInside();
        words();
        lengths();
        check.end();
    }

    private static void rule(String what, boolean holds) {
        check.due(what, holds ? 1 : 0, 1);
    }

    private static void face() {
        Set<String> seen = new TreeSet<>();
        for (Method m : ThunderCasks.class.getDeclaredMethods()) {
            if (!Modifier.isPrivate(m.getModifiers())) {
                rule(m + " is public", Modifier.isPublic(m.getModifiers()) && !Modifier.isStatic(m.getModifiers()));
                rule(m + " takes ints", Arrays.stream(m.getParameterTypes()).allMatch(t -> t == int.class));
                seen.add(m.getReturnType() + " " + m.getName() + " " + m.getParameterCount());
            }
        }
        Set<String> due = new TreeSet<>(Arrays.asList(FACE.split(",")));
        rule("the face is " + due + ", not " + seen, due.equals(seen));
        Constructor<?>[] constructors = ThunderCasks.class.getDeclaredConstructors();
        rule("one public constructor", constructors.length == 1 && constructors[0].getParameterCount() == 0
            && Modifier.isPublic(constructors[0].getModifiers()));
        rule("the class is final", Modifier.isFinal(ThunderCasks.class.getModifiers()));
        rule("it has no other above it", ThunderCasks.class.getSuperclass() == Object.class);
    }

    private static void members(Class<?> type) {
        int fields = 0;
        for (Field f : type.getDeclaredFields()) {
            boolean isStatic = Modifier.isStatic(f.getModifiers());
            rule(f + " is final if static", !isStatic || Modifier.isFinal(f.getModifiers()));
            rule(f + " is private in the face", type != ThunderCasks.class || Modifier.isPrivate(f.getModifiers()));
            fields += isStatic ? 0 : 1;
        }
        rule(type + " has twenty fields at most", fields <= 20);
        Set<String> open = new TreeSet<>();
        for (String m : FACE.split(",")) {
            open.add(m.split(" ")[1]);
        }
        for (Method m : type.getDeclaredMethods()) {
            boolean isOfFace = type == ThunderCasks.class && Modifier.isPublic(m.getModifiers());
            rule(m + " bears a name of its own", isOfFace || !open.contains(m.getName()));
            rule(m + " takes seven at most", m.getParameterCount() <= 7);
        }
    }

    private static void classesInside() {
        Class<?>[] inside = ThunderCasks.class.getDeclaredClasses();
        rule("twelve classes at most", inside.length < 12);
        for (Class<?> type : inside) {
            rule(type + " is static", Modifier.isStatic(type.getModifiers()));
            rule(type + " is not public", !Modifier.isPublic(type.getModifiers()) && !Modifier.isProtected(type.getModifiers()));
            rule(type + " has none inside", type.getDeclaredClasses().length == 0);
            members(type);
        }
    }

    private static String bare(String source) {
        return source.replaceAll("(?s)/\\*.*?\\*/", " ").replaceAll("//[^\n]*", " ")
            .replaceAll("\"[^\"\n]*\"", "\"\"").replaceAll("'[^'\n]*'", "''");
    }

    private static void words() throws IOException {
        String source = Files.readString(SOURCE);
        rule("signs 1 to 127 alone", source.chars().allMatch(c -> c >= 1 && c <= 127));
        String code = bare(source);
        String[] barred = {"throw", "throws", "try", "catch", "finally", "synchronized", "assert", "import", "package",
            "protected", "native", "volatile", "transient", "strictfp", "var", "yield"};
        for (String word : barred) {
            rule("no " + word, !Pattern.compile("\\b" + word + "\\b").matcher(code).find());
        }
        rule("no lambda, no method reference", !code.contains("->") && !code.contains("::"));
        rule("no static block", !Pattern.compile("\\bstatic\\s*\\{").matcher(code).find());
        List<String> library = new ArrayList<>();
        Matcher m = Pattern.compile("\\b(Math|Integer|Long|System|Arrays|String|StringBuilder)\\.(\\w+)").matcher(code);
        while (m.find()) {
            library.add(m.group(1) + "." + m.group(2));
        }
        Set<String> fine = Set.of("Math.min", "Math.max", "Integer.bitCount", "System.arraycopy");
        rule("the library is " + fine, fine.containsAll(library));
        rule("new only for fields", Pattern.compile("\\n {8,}(?!final )[^\\n]*\\bnew\\b").matcher(code).find() == false);
    }

    private static void lengths() throws IOException {
        int start = -1;
        String indent = "";
        List<String> lines = Files.readAllLines(SOURCE);
        for (int i = 0; i < lines.size(); i++) {
            String line = lines.get(i);
            rule("line " + (i + 1) + " is no longer than 120", line.length() <= 120);
            if (start < 0 && line.matches(" +[\\w\\[\\] ]+\\([^;]*\\) \\{") && !line.matches(" *(\\} else )?(if|for|while|switch) .*")) {
                start = i;
                indent = line.substring(0, line.indexOf(line.trim()));
            } else if (start >= 0 && line.equals(indent + "}")) {
                rule("the method at line " + (start + 1) + " is short", i - start < 60);
                start = -1;
            }
        }
    }
}
