/** Counts the answers that are not as due; a test's main method ends with end(). */
final class Check {
    private int seen = 0;
    private int wrong = 0;

    void due(String call, long got, long want) {
        seen++;
        if (got != want) {
            wrong++;
            System.out.println(call + " answered " + got + ", due is " + want);
        }
    }

    void holds(String what, boolean holds) {
        seen++;
        if (!holds) {
            wrong++;
            System.out.println("does not hold: " + what);
        }
    }

    void end() {
        System.out.println(seen + " answers, " + wrong + " not as due");
        if (wrong != 0 || seen == 0) {
            System.exit(1);
        }
    }

    /** Puts a text's bytes behind the tape: what the last feed() answered. */
    static int feed(EdgesOff x, String text) {
        int last = 0;
        for (int i = 0; i < text.length(); i++) {
            last = x.feed(text.charAt(i));
        }
        return last;
    }

    /** Feeds a text and has it read: what text() answered. */
    static int read(EdgesOff x, String text) {
        feed(x, text);
        return x.text();
    }

    /** A new object under a text of these three parts. */
    static EdgesOff under(String wears, String carries, String clashes) {
        EdgesOff x = new EdgesOff();
        int text = read(x, "wears " + wears + ";carries " + carries + ";clashes " + clashes + ";");
        x.force(text);
        return x;
    }

    /** A sheet becomes a row of a sort with these numbers. */
    static void sheet(EdgesOff x, int sheet, int sort, int... numbers) {
        x.sheet(sheet, sort, numbers.length);
        for (int i = 0; i < numbers.length; i++) {
            x.cell(sheet, i, numbers[i]);
        }
    }
}
