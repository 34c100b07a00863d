import java.io.IOException;
import java.lang.reflect.Method;
import java.lang.reflect.Modifier;
import java.nio.charset.StandardCharsets;
import java.nio.file.Files;
import java.nio.file.Path;
import java.util.Set;
import java.util.TreeSet;
import java.util.regex.Matcher;
import java.util.regex.Pattern;

/** The examples of README.md answer what stands behind them; its table names every call of the face. */
public final class ReadmeTest {
    private static final Check C = new Check();
    private static final Path README = Path.of("README.md");
    private static final Pattern NEW = Pattern.compile("EdgesOff shore = new EdgesOff\\(\\);");
    private static final Pattern FED = Pattern.compile("for \\(char c : \"(.*)\"\\.toCharArray\\(\\)\\) shore\\.feed\\(c\\);");
    private static final Pattern CALL = Pattern.compile("shore\\.(\\w+\\([^)]*\\)); +// (-?\\w+)(:.*)?");

    public static void main(String[] args) throws IOException {
        String page = Files.readString(README, StandardCharsets.US_ASCII);
        examples(page);
        everyCallIsNamed(page);
        everyTestIsNamed(page);
        C.end();
    }

    private static void examples(String page) {
        Rows rows = new Rows(C);
        boolean inside = false;
        int seen = 0;
        for (String line : page.lines().toList()) {
            if (line.startsWith("```")) {
                inside = line.equals("```java");
            } else if (inside) {
                example(rows, line);
                seen++;
            }
        }
        C.holds("there are examples", seen > 20);
    }

    private static void example(Rows rows, String line) {
        Matcher fed = FED.matcher(line);
        Matcher call = CALL.matcher(line);
        if (NEW.matcher(line).matches()) {
            rows.row("new");
        } else if (fed.matches()) {
            rows.feed(fed.group(1));
        } else if (call.matches()) {
            rows.row(call.group(1) + " = " + call.group(2));
        } else {
            C.holds("an example that can be asked: " + line, false);
        }
    }

    private static void everyCallIsNamed(String page) {
        for (Method m : EdgesOff.class.getDeclaredMethods()) {
            if (Modifier.isPublic(m.getModifiers())) {
                C.holds("README.md names " + m.getName(), page.contains("`" + m.getName() + "`"));
            }
        }
    }

    private static void everyTestIsNamed(String page) throws IOException {
        Set<String> tests = new TreeSet<>();
        try (var files = Files.newDirectoryStream(Path.of("src/test/java"), "*Test.java")) {
            for (Path file : files) {
                tests.add(file.getFileName().toString().replace(".java", ""));
            }
        }
        for (String test : tests) {
            C.holds("README.md names " + test, Pattern.compile("\\| .*\\b" + test + "\\b.* \\|").matcher(page).find());
        }
    }
}
