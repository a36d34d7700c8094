import java.io.IOException;
import java.nio.file.DirectoryStream;
import java.nio.file.Files;
import java.nio.file.Path;
import java.util.ArrayList;
import java.util.List;
import java.util.Map;
import java.util.TreeMap;
import java.util.regex.Matcher;
import java.util.regex.Pattern;

/**
 * No test: lists the sentences of ../shared/DOC.md that no test names with check.says(..), and what
 * tests quote that the document does not say. Run it by hand from the project's directory.
 */
public final class Sentences {
    private static final Pattern SAYS = Pattern.compile("says\\((\\d+),\\s*((?:\"[^\"]*\"[\\s+]*)+)\\)");
    private static final Pattern HEAD = Pattern.compile("(?m)^## (?:Promise (\\d+):.*|Terms|.*)$");

    public static void main(String[] args) throws IOException {
        Map<Integer, String> document = document(Files.readString(Path.of("../shared/DOC.md")));
        Map<Integer, List<String>> quoted = quoted(Path.of("src/test/java"));
        for (int promise : document.keySet()) {
            String text = document.get(promise);
            List<String> quotes = quoted.getOrDefault(promise, List.of());
            for (String quote : quotes) {
                if (!text.contains(quote)) {
                    System.out.println(promise + " does not say: " + quote);
                }
            }
            for (String sentence : text.split("(?<=[.)]) (?=[A-Z(])")) {
                if (quotes.stream().noneMatch(q -> q.contains(sentence) || sentence.contains(q))) {
                    System.out.println(promise + " no test names: " + sentence);
                }
            }
        }
    }

    private static Map<Integer, String> document(String text) {
        Map<Integer, String> parts = new TreeMap<>();
        Matcher heads = HEAD.matcher(text);
        int promise = -1;
        int begin = 0;
        while (heads.find()) {
            if (promise >= 0) {
                parts.put(promise, plain(text.substring(begin, heads.start())));
            }
            boolean terms = heads.group().equals("## Terms");
            promise = heads.group(1) != null ? Integer.parseInt(heads.group(1)) : terms ? 0 : -1;
            begin = heads.end();
        }
        return parts;
    }

    private static String plain(String text) {
        return text.replaceAll("`[^`\n]*\\)`: ", "").replaceAll("\\s+", " ").trim();
    }

    private static Map<Integer, List<String>> quoted(Path tests) throws IOException {
        Map<Integer, List<String>> quoted = new TreeMap<>();
        try (DirectoryStream<Path> files = Files.newDirectoryStream(tests, "*Test.java")) {
            for (Path file : files) {
                Matcher says = SAYS.matcher(Files.readString(file));
                while (says.find()) {
                    String words = says.group(2).replaceAll("\"\\s*\\+\\s*\"", "").replace("\"", "").trim();
                    quoted.computeIfAbsent(Integer.parseInt(says.group(1)), k -> new ArrayList<>()).add(words);
                }
            }
        }
        return quoted;
    }
}
