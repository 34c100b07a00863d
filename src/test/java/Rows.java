import java.lang.reflect.InvocationTargetException;
import java.lang.reflect.Method;
import java.util.HashMap;
import java.util.Map;
import java.util.regex.Matcher;
import java.util.regex.Pattern;

/**
 * Calls written as rows, with the answers that are due: "tide() = 1". Further rows: "new" (another object),
 * "read "wears 2;.." = 1" (the bytes are fed, then text() is asked), "row 0 2: 5 7" (SHEET 0 becomes a row of sort 2
 * of these numbers).
 */
final class Rows {
    private static final Pattern CALL = Pattern.compile("(\\w+)\\(([^)]*)\\) = (\\S+)");
    private static final Pattern READ = Pattern.compile("read \"(.*)\" = (\\S+)");
    private static final Pattern ROW = Pattern.compile("row (\\d+) (\\d+):(.*)");
    private static final Map<String, Long> NAMED = Map.of("NONE", -1L, "BAD", -2L, "STATE", -3L, "FULL", -4L,
            "NO", -4611686018427387904L, "MIN", (long) Integer.MIN_VALUE, "MAX", (long) Integer.MAX_VALUE);

    private final Check check;
    private final Map<String, Method> calls = new HashMap<>();
    private EdgesOff x = new EdgesOff();

    Rows(Check check) {
        this.check = check;
        for (Method m : EdgesOff.class.getDeclaredMethods()) {
            calls.put(m.getName(), m);
        }
    }

    void row(String row) {
        Matcher call = CALL.matcher(row);
        Matcher read = READ.matcher(row);
        Matcher sheet = ROW.matcher(row);
        if (row.equals("new")) {
            x = new EdgesOff();
        } else if (read.matches()) {
            check.due(row, Check.read(x, read.group(1)), number(read.group(2)));
        } else if (sheet.matches()) {
            Check.sheet(x, (int) number(sheet.group(1)), (int) number(sheet.group(2)), numbers(sheet.group(3)));
        } else if (call.matches()) {
            check.due(row, asked(call.group(1), numbers(call.group(2))), number(call.group(3)));
        } else {
            check.holds("a row that can be read: " + row, false);
        }
    }

    void feed(String text) {
        Check.feed(x, text);
    }

    private long asked(String name, int[] numbers) {
        Object[] of = new Object[numbers.length];
        for (int i = 0; i < of.length; i++) {
            of[i] = numbers[i];
        }
        try {
            return ((Number) calls.get(name).invoke(x, of)).longValue();
        } catch (IllegalAccessException | InvocationTargetException e) {
            throw new IllegalStateException(name, e);
        }
    }

    private static int[] numbers(String words) {
        String[] parts = words.isBlank() ? new String[0] : words.strip().split(",? +");
        int[] numbers = new int[parts.length];
        for (int i = 0; i < parts.length; i++) {
            numbers[i] = (int) number(parts[i]);
        }
        return numbers;
    }

    private static long number(String word) {
        return NAMED.containsKey(word) ? NAMED.get(word) : Long.parseLong(word);
    }
}
