import java.util.Random;

/** Draws texts by the document's grammar, of at most 160 bytes, some of them with more opened than may be. */
final class TextMaker {
    private static final String[] NAMES = {"sharp", "theirs", "apart", "number", "tide", "place"};
    private static final String[] TOKENS = {
        "sharp", "tide", "or", "and", "not", "(", ")", ";", "+", "-", "*", "<", "=", "7", "12345", "x", "?", "wears",
        "carries", "clashes", "notnot", "0000", "\t", "A", ""};

    private final Random random;
    private final int deepest;

    TextMaker(Random random, int deepest) {
        this.random = random;
        this.deepest = deepest;
    }

    String text() {
        for (int i = 0; i < 100; i++) {
            String text = gap() + "wears" + gap1() + ors(0) + ";" + gap() + "carries" + gap1() + ors(0) + ";" + gap()
                    + "clashes" + gap1() + ors(0) + gap() + ";" + gap();
            if (text.length() <= 160) {
                return text;
            }
        }
        return "wears 1;carries 1;clashes 1;";
    }

    /** A text with a piece of it taken out, put in or put in another's place. */
    static String spoilt(Random random, String text) {
        int at = random.nextInt(text.length());
        int to = Math.min(text.length(), at + random.nextInt(4));
        String in = random.nextInt(4) == 0 ? "" : TOKENS[random.nextInt(TOKENS.length)];
        String spoilt = text.substring(0, at) + in + text.substring(random.nextInt(5) == 0 ? text.length() : to);
        return spoilt.length() <= 160 ? spoilt : spoilt.substring(0, 160);
    }

    private String gap() {
        int r = random.nextInt(8);
        return r == 0 ? " " : r == 1 ? "\n" : "";
    }

    private String gap1() {
        return gap() + " ";
    }

    private boolean more() {
        return random.nextInt(4) == 0;
    }

    private String ors(int deep) {
        return more() ? ands(deep) + " or " + ands(deep) : ands(deep);
    }

    private String ands(int deep) {
        return more() ? nots(deep) + gap() + " and " + nots(deep) : nots(deep);
    }

    private String nots(int deep) {
        if (deep < deepest && random.nextInt(5) == 0) {
            return "not " + nots(deep + 1);
        }
        return random.nextInt(3) == 0 ? sums(deep) + gap() + (random.nextBoolean() ? "<" : "=") + sums(deep) : sums(deep);
    }

    private String sums(int deep) {
        String sum = terms(deep);
        while (more()) {
            sum += gap() + (random.nextBoolean() ? "+" : "-") + terms(deep);
        }
        return sum;
    }

    private String terms(int deep) {
        return more() ? ones(deep) + "*" + gap() + ones(deep) : ones(deep);
    }

    private String ones(int deep) {
        int r = random.nextInt(10);
        if (deep < deepest && r < 3) {
            return r == 0 ? "-" + gap() + ones(deep + 1) : "(" + ors(deep + 1) + gap() + ")";
        }
        return r < 7 ? Integer.toString(random.nextInt(r < 5 ? 12 : 10000)) : NAMES[random.nextInt(NAMES.length)];
    }
}
