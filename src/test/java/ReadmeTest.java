import java.io.IOException;
import java.lang.reflect.Method;
import java.lang.reflect.Modifier;
import java.nio.file.DirectoryStream;
import java.nio.file.Files;
import java.nio.file.Path;
import java.util.regex.Matcher;
import java.util.regex.Pattern;

/** README.md tells answers that the class gives, every call of the face, and every test. */
public final class ReadmeTest {
    private static final Check check = new Check();
    private static final Pattern BLOCK = Pattern.compile("(?s)```java\n(.*?)```");
    private static final Pattern NEW = Pattern.compile("SevenPedals desk = new SevenPedals\\(\\);");
    private static final Pattern CALL = Pattern.compile("desk\\.(\\w+)\\(([^)]*)\\); +// (-?\\d+): .*");

    public static void main(String[] args) throws IOException, ReflectiveOperationException {
        String readme = Files.readString(Path.of("README.md"));
        Matcher blocks = BLOCK.matcher(readme);
        int found = 0;
        while (blocks.find()) {
            found++;
            askLines(blocks.group(1).split("\n"));
        }
        check.that("README.md has an example", found > 0);
        namesEveryCall(readme);
        namesEveryTest(readme);
        check.end();
    }

    private static void askLines(String[] lines) throws ReflectiveOperationException {
        SevenPedals desk = null;
        for (String line : lines) {
            if (NEW.matcher(line).matches()) {
                desk = new SevenPedals();
                continue;
            }
            Matcher call = CALL.matcher(line);
            boolean known = desk != null && call.matches();
            check.that("README.md: a call with its answer: " + line, known);
            if (known) {
                check.due("README.md: " + line, ask(desk, call.group(1), call.group(2)), Integer.parseInt(call.group(3)));
            }
        }
    }

    private static int ask(SevenPedals desk, String name, String told) throws ReflectiveOperationException {
        String[] words = told.isEmpty() ? new String[0] : told.split(", ");
        for (Method m : SevenPedals.class.getMethods()) {
            if (m.getName().equals(name) && m.getParameterCount() == words.length) {
                Object[] values = new Object[words.length];
                for (int i = 0; i < words.length; i++) {
                    boolean isNumber = m.getParameterTypes()[i] == int.class;
                    values[i] = isNumber ? (Object) Integer.valueOf(words[i]) : (Object) Boolean.valueOf(words[i]);
                }
                return (int) m.invoke(desk, values);
            }
        }
        check.that("README.md: there is a call " + name + "(" + told + ")", false);
        return 0;
    }

    private static void namesEveryCall(String readme) {
        for (Method m : SevenPedals.class.getDeclaredMethods()) {
            if (Modifier.isPublic(m.getModifiers())) {
                check.that("README.md names the call " + m.getName(), readme.contains("`" + m.getName() + "`"));
            }
        }
    }

    private static void namesEveryTest(String readme) throws IOException {
        try (DirectoryStream<Path> files = Files.newDirectoryStream(Path.of("src/test/java"), "*.java")) {
            for (Path file : files) {
                String name = file.getFileName().toString().replace(".java", "");
                check.that("README.md names " + name, readme.contains("`" + name + "`"));
            }
        }
    }
}
