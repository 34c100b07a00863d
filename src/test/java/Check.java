import java.io.IOException;
import java.nio.charset.StandardCharsets;
import java.nio.file.Files;
import java.nio.file.Path;
import java.util.ArrayList;
import java.util.List;

/** Counts the answers that are not as due; a test's main method ends with end(). */
final class Check {
    private static final Path DOCUMENT = Path.of("../shared/DOC.md");

    private int seen = 0;
    private int wrong = 0;
    private int seenAhead = 0;
    private String held = "";
    private final List<String> sentences = new ArrayList<>();

    /** What is asked from here on holds these words of the document, which are told with what is not as due. */
    void sentence(String words) {
        endsSentence();
        sentences.add(words);
        held = "[" + words + "] ";
    }

    private void endsSentence() {
        if (!held.isEmpty() && seen == seenAhead) {
            wrong++;
            System.out.println(held + "has no test");
        }
        seenAhead = seen;
    }

    void due(String call, long got, long want) {
        seen++;
        if (got != want) {
            wrong++;
            System.out.println(held + call + " answered " + got + ", due is " + want);
        }
    }

    void holds(String what, boolean holds) {
        seen++;
        if (!holds) {
            wrong++;
            System.out.println(held + "does not hold: " + what);
        }
    }

    void end() {
        endsSentence();
        tellsWhatTheDocumentHasNoMore();
        String of = sentences.isEmpty() ? "" : " to " + sentences.size() + " sentences";
        System.out.println(seen + " answers" + of + ", " + wrong + " not as due");
        if (wrong != 0 || seen == 0) {
            System.exit(1);
        }
    }

    /** Told only, since the document may be worded anew while what it asks stays. */
    private void tellsWhatTheDocumentHasNoMore() {
        if (sentences.isEmpty() || !Files.isReadable(DOCUMENT)) {
            return;
        }
        try {
            String document = Files.readString(DOCUMENT, StandardCharsets.UTF_8).replaceAll("\\s+", " ");
            for (String words : sentences) {
                if (!document.contains(words)) {
                    System.out.println("the document does not have these words: " + words);
                }
            }
        } catch (IOException e) {
            System.out.println("the document was not read: " + e);
        }
    }

    /** Puts a text's bytes behind the tape: what the last feed() answered. */
    static int feed(EdgesOff x, String text) {
        int last = 0;
        for (int i = 0; i < text.length(); i++) {
            last = x.feed(text.charAt(i));
        }
        return last;
    }

    /** Feeds a text and has it read: what text() answered. */
    static int read(EdgesOff x, String text) {
        feed(x, text);
        return x.text();
    }

    /** A new object under a text of these three parts. */
    static EdgesOff under(String wears, String carries, String clashes) {
        EdgesOff x = new EdgesOff();
        int text = read(x, "wears " + wears + ";carries " + carries + ";clashes " + clashes + ";");
        x.force(text);
        return x;
    }

    /** A sheet becomes a row of a sort with these numbers. */
    static void sheet(EdgesOff x, int sheet, int sort, int... numbers) {
        x.sheet(sheet, sort, numbers.length);
        for (int i = 0; i < numbers.length; i++) {
            x.cell(sheet, i, numbers[i]);
        }
    }
}
