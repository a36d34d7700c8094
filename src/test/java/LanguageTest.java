import java.io.IOException;
import java.lang.management.ManagementFactory;
import java.lang.reflect.Constructor;
import java.lang.reflect.Field;
import java.lang.reflect.Method;
import java.lang.reflect.Modifier;
import java.nio.file.Files;
import java.nio.file.Path;
import java.util.ArrayList;
import java.util.List;
import java.util.Map;
import java.util.Set;
import java.util.TreeMap;
import java.util.TreeSet;
import java.util.regex.Matcher;
import java.util.regex.Pattern;

/** What LANGUAGE.md asks and a test can see: the face, words that are out, what a run makes. */
public final class LanguageTest {
    private static final Check check = new Check();
    private static final String[] FACE = {
        "int all(int)", "int as(int,int,int)", "int beats(int)", "int copy(int,int,int,int,int)",
        "int diagram(int)", "int does(int,int)", "int drop(int)", "int foot(int,boolean)", "int hard()",
        "int many(int)", "int mark(int,int,int)", "int moves()", "int note(int,int,int,boolean)",
        "int of(int,int,int)", "int pitch(int,int)", "int plain(int,int,int)", "int put(int,int,int)",
        "int run(int,int,int,int)", "int sheet(int,int,int)", "int shift(int)", "int split(int,int)",
        "int stand(int,int)", "int start(int,int)", "int string(int,int,int)", "int stuck()",
        "int tune(int)", "int undo()", "int ways()", "int without(int,int)",
    };
    private static final String[] OUT = {
        "throw", "throws", "try", "catch", "finally", "synchronized", "assert", "protected", "volatile",
        "native", "hashCode", "toString", "equals", "Object", "Exception", "Random", "Thread", "System.out",
        "->", "::", "Exact",
    };

    public static void main(String[] args) throws IOException {
        face();
        nested();
        words();
        lengths();
        order();
        depth();
        whatARunMakes();
        check.end();
    }

    private static void face() {
        Set<String> seen = new TreeSet<>();
        for (Method m : SevenPedals.class.getDeclaredMethods()) {
            if (!Modifier.isPrivate(m.getModifiers())) {
                check.that("rule 1: " + m + " is public", Modifier.isPublic(m.getModifiers()));
                check.that("rule 1: " + m + " is not static", !Modifier.isStatic(m.getModifiers()));
                seen.add(signature(m));
            }
        }
        check.that("rule 1: methods are " + seen, seen.equals(new TreeSet<>(List.of(FACE))));
        Constructor<?>[] makers = SevenPedals.class.getDeclaredConstructors();
        check.due("rule 1: constructors", makers.length, 1);
        check.due("rule 1: its parameters", makers[0].getParameterCount(), 0);
        check.that("rule 1: the class is public, final",
            (SevenPedals.class.getModifiers() & (Modifier.PUBLIC | Modifier.FINAL)) == (Modifier.PUBLIC | Modifier.FINAL));
        for (Field f : SevenPedals.class.getDeclaredFields()) {
            check.that("rule 1: " + f + " is private", Modifier.isPrivate(f.getModifiers()));
        }
    }

    private static String signature(Method m) {
        List<String> types = new ArrayList<>();
        for (Class<?> type : m.getParameterTypes()) {
            types.add(type.getName());
        }
        return m.getReturnType().getName() + " " + m.getName() + "(" + String.join(",", types) + ")";
    }

    private static void nested() {
        Set<String> names = new TreeSet<>();
        for (String s : FACE) {
            names.add(s.substring(4, s.indexOf('(')));
        }
        Class<?>[] inside = SevenPedals.class.getDeclaredClasses();
        check.that("rule 11: some twelve classes", inside.length <= 11);
        for (Class<?> c : inside) {
            check.that("rule 2: " + c + " is static", Modifier.isStatic(c.getModifiers()));
            check.that("rule 11: fields of " + c, c.getDeclaredFields().length <= 30);
            for (Method m : c.getDeclaredMethods()) {
                check.that("rule 1: " + m + " has its own name", !names.contains(m.getName()));
                check.that("rule 11: parameters of " + m, m.getParameterCount() <= 7);
            }
            for (Field f : c.getDeclaredFields()) {
                boolean kept = !Modifier.isStatic(f.getModifiers()) || Modifier.isFinal(f.getModifiers());
                check.that("rule 5: " + f + " is final", kept);
            }
        }
    }

    private static String source() throws IOException {
        String text = Files.readString(Path.of("src/main/java/SevenPedals.java"));
        return text.replaceAll("(?s)/\\*.*?\\*/", "").replaceAll("//[^\n]*", "");
    }

    private static void words() throws IOException {
        String text = source();
        for (String word : OUT) {
            boolean isName = Character.isLetter(word.charAt(0));
            String pattern = isName && !word.equals("Exact") ? "\\b" + Pattern.quote(word) + "\\b" : Pattern.quote(word);
            check.that("rule 4 or 6: no " + word, !Pattern.compile(pattern).matcher(text).find());
        }
        Matcher imports = Pattern.compile("import ([^;]*);").matcher(text);
        while (imports.find()) {
            check.that("rule 4: import " + imports.group(1), imports.group(1).equals("java.util.Arrays"));
        }
        check.that("rule 5: no static block", !Pattern.compile("static\\s*\\{").matcher(text).find());
        check.that("signs 1 to 127", text.chars().allMatch(c -> c > 0 && c < 128));
    }

    private static void lengths() throws IOException {
        int at = 0;
        int begun = 0;
        for (String line : source().split("\n")) {
            at++;
            if (line.matches(" {4,8}\\S.*\\) \\{")) {
                begun = at;
            } else if (line.matches(" {4,8}\\}")) {
                check.that("rule 11: the method that ends at line " + at, at - begun <= 60 || begun == 0);
                begun = 0;
            }
        }
    }

    /** What the document says of the interface: which calls stand behind which words, in its order. */
    private static void order() throws IOException {
        check.says(0, "Ahead of the calls `beats`, `note`, `drop`, `as`, `of`, `shift`, `mark`, `start` the interface says: ---- the part.");
        section("the part", "diagrams", "beats", "note", "drop", "as", "of", "shift", "mark", "start");
        check.says(0, "Ahead of the calls `pitch`, `string`, `does`, `many` the interface says: ---- diagrams.");
        section("diagrams", "the way", "pitch", "string", "does", "many");
        check.says(0, "Ahead of the calls `moves`, `diagram`, `stand`, `foot`, `ways`, `stuck`, `without` the interface says: ---- the way.");
        section("the way", "hands, runs", "moves", "diagram", "stand", "foot", "ways", "stuck", "without");
        check.says(0, "Ahead of the calls `split`, `hard`, `run`, `plain` the interface says: ---- hands, runs.");
        section("hands, runs", "sheets, the whole", "split", "hard", "run", "plain");
        check.says(0, "Ahead of the calls `sheet`, `put`, `copy`, `tune`, `undo`, `all` the interface says: ---- sheets, the whole.");
        section("sheets, the whole", "what every act asks", "sheet", "put", "copy", "tune", "undo", "all");
        check.says(0, "");
    }

    private static void section(String words, String end, String... calls) throws IOException {
        String text = Files.readString(Path.of("src/main/java/SevenPedals.java"));
        int from = text.indexOf("    // ---- " + words + "\n");
        int to = text.indexOf("    // ---- " + end + "\n");
        boolean stands = from >= 0 && from < to;
        check.that(words + " stands ahead of " + end, stands);
        List<String> seen = new ArrayList<>();
        Matcher faces = Pattern.compile("\n    public int (\\w+)\\(").matcher(stands ? text.substring(from, to) : "");
        while (faces.find()) {
            seen.add(faces.group(1));
        }
        check.that(words + " has the calls " + seen, seen.equals(List.of(calls)));
    }

    /** By names alone, so a chain may look longer than it is, never shorter. */
    private static void depth() throws IOException {
        Map<String, Set<String>> calls = new TreeMap<>();
        Set<String> body = null;
        for (String line : source().split("\n")) {
            Matcher head = Pattern.compile(" {4,8}\\w[\\w\\[\\] ]*?(\\w+)\\([^()]*\\) \\{").matcher(line);
            if (head.matches()) {
                body = calls.computeIfAbsent(head.group(1), k -> new TreeSet<>());
                continue;
            }
            Matcher call = Pattern.compile("(\\w+)\\(").matcher(line);
            while (body != null && call.find()) {
                body.add(call.group(1));
            }
        }
        for (String s : FACE) {
            String name = s.substring(4, s.indexOf('('));
            check.that("rule 11: the source has " + name, calls.containsKey(name));
            int deep = deepest(name, calls, 0);
            check.that("rule 11: " + name + " goes " + deep + " deep", deep <= 8);
        }
    }

    private static int deepest(String name, Map<String, Set<String>> calls, int above) {
        int deep = above + 1;
        if (deep > 20 || !calls.containsKey(name)) {
            return calls.containsKey(name) ? deep : above;
        }
        for (String next : calls.get(name)) {
            deep = Math.max(deep, deepest(next, calls, above + 1));
        }
        return deep;
    }

    /** Nothing is made behind the constructor, whatever is asked. */
    private static void whatARunMakes() {
        askAll(new SevenPedals(), 40);
        long before = made();
        SevenPedals x = new SevenPedals();
        long forOne = made() - before;
        check.that("rule 12: an object takes " + forOne + " bytes", forOne < 400_000);
        before = made();
        askAll(x, 16);
        long forCalls = made() - before;
        check.that("rule 12: some 500 calls take " + forCalls + " bytes", forCalls < 20_000);
    }

    private static long made() {
        com.sun.management.ThreadMXBean bean =
            (com.sun.management.ThreadMXBean) ManagementFactory.getThreadMXBean();
        return bean.getThreadAllocatedBytes(Thread.currentThread().getId());
    }

    private static void askAll(SevenPedals x, int rounds) {
        for (int i = 0; i < rounds; i++) {
            x.beats(i % 12 + 1);
            x.note(i % 12, i % 4, i % 100, true);
            x.drop((i + 7) % 12);
            x.as(i % 12, 0, 0);
            x.of(i % 12, 0, 2);
            x.shift(i % 3 - 1);
            x.mark(i % 12, i % 7, i % 3);
            x.start(i % 7, i % 3);
            x.pitch(i % 42, i);
            x.string(i % 12, 0, 1093);
            x.does(i % 12, 1093);
            x.many(i % 12);
            x.moves();
            x.diagram(0);
            x.stand(0, i % 7);
            x.foot(0, true);
            x.ways();
            x.stuck();
            x.without(i % 12, i % 7);
            x.split(i % 12, 1093);
            x.hard();
            x.run(0, 41, i, i % 42);
            x.plain(0, 41, i);
            x.sheet(i % 4, 8, 12);
            x.put(i % 4, i % 12, i % 100);
            x.copy(0, 0, i % 4, 1, 3);
            x.tune(i % 4);
            x.undo();
            x.all(1);
        }
    }
}
