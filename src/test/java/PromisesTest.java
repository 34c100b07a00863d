import java.io.IOException;
import java.nio.charset.StandardCharsets;
import java.nio.file.Files;
import java.nio.file.Path;
import java.util.List;
import java.util.Map;
import java.util.Set;
import java.util.TreeMap;
import java.util.TreeSet;
import java.util.regex.Matcher;
import java.util.regex.Pattern;

/**
 * Each promise once, in the document's order, as rows of src/test/promises.txt: ordinary
 * inputs, the edges that the document names, wrong inputs.
 */
public final class PromisesTest {
    private static final Check C = new Check();
    private static final Path ROWS = Path.of("src/test/promises.txt"), DOCUMENT = Path.of("../shared/DOC.md");
    private static final Set<String> MARKS = Set.of("ordinary", "edge", "wrong");
    /** A new object and an image take no numbers and are never refused. */
    private static final Set<Integer> NEVER_WRONG = Set.of(1, 23);

    private static final Map<Integer, Set<String>> held = new TreeMap<>();

    public static void main(String[] args) throws IOException {
        Rows rows = new Rows(C);
        int promise = 0;
        for (String line : Files.readAllLines(ROWS, StandardCharsets.US_ASCII)) {
            String row = line.strip();
            Matcher heading = Pattern.compile("Promise (\\d+): .*").matcher(row);
            if (heading.matches()) {
                promise = Integer.parseInt(heading.group(1));
                C.sentence(row);
                held.put(promise, new TreeSet<>());
            } else if (MARKS.contains(row)) {
                held.get(promise).add(row);
                rows.row("new");
            } else if (!row.isEmpty() && !row.startsWith("#")) {
                rows.row(row);
            }
        }
        everyPromiseIsHeld();
        C.end();
    }

    private static void everyPromiseIsHeld() throws IOException {
        C.holds("thirty promises: " + held.keySet(), held.size() == 30);
        for (Map.Entry<Integer, Set<String>> one : held.entrySet()) {
            int due = NEVER_WRONG.contains(one.getKey()) ? 2 : 3;
            C.holds("Promise " + one.getKey() + " has inputs of each sort: " + one.getValue(), one.getValue().size() == due);
        }
        if (!Files.isReadable(DOCUMENT)) {
            return;
        }
        List<String> document = Files.readAllLines(DOCUMENT, StandardCharsets.UTF_8);
        for (String line : document) {
            Matcher heading = Pattern.compile("## Promise (\\d+): .*").matcher(line);
            if (heading.matches()) {
                C.holds(line, held.containsKey(Integer.parseInt(heading.group(1))));
            }
        }
    }
}
