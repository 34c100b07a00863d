import java.util.ArrayList;
import java.util.List;

/**
 * Two objects made alike, of which one is asked a thing that must change nothing: whatever both are asked then,
 * they answer alike. All goes through the document's face; no object is asked more than 512 times.
 */
final class Twins {
    interface Made {
        void by(EdgesOff x);
    }

    interface Call {
        long of(EdgesOff x);
    }

    interface CallWith {
        long of(EdgesOff x, int v);
    }

    /** What both are asked in the end, each part of new twins, since asking of a part may change another. */
    private enum Part { PIECES, TIDES, TEXTS, TAPE, IMAGE, SHEET_0, SHEET_1, SHEET_2, SHEET_3 }

    private static final int MIN = Integer.MIN_VALUE, MAX = Integer.MAX_VALUE, NOT_FOUND = -1;
    private static final String SHORT = "wears1;carries1;clashes1;";

    static final Made BARE = x -> { };

    /** Three PIECES, the last since the image; two TEXTS, the second THE RULE; SHEET 3 is missing. */
    static final Made SOME = x -> {
        x.piece(1, 3, 40, 105);
        x.piece(4, 3, 9, 2);
        x.set(0, 0, 5);
        x.image();
        x.set(0, 0, 7);
        x.set(1, 0, 4);
        x.set(2, 1, 8);
        x.set(3, 1, 3);
        x.set(4, 0, 0);
        x.piece(0, 5, 0, 11);
        Check.read(x, "wears 3;carries 2;clashes sharp<theirs;");
        x.force(1);
        Check.sheet(x, 0, 0, 5, 7, 9, 1, 2);
        Check.sheet(x, 1, 1, 0, 9, 99, 111, 5, 1, 6, 11);
        Check.sheet(x, 2, 2);
        Check.feed(x, "wears 1;carries ");
    };

    /** As much as there can be of everything, in the last TIDE. */
    static final Made FULL = x -> {
        for (int i = 0; i < 8; i++) {
            if (i == 5) {
                x.image();
            }
            x.piece(i % 6, i % 4, 99 - 9 * i, i % 2 * 100 + 11 - i);
        }
        for (int i = 1; i <= 5; i++) {
            Check.read(x, SHORT);
        }
        x.force(5);
        x.set(0, 0, 999);
        for (int i = 0; i < 4; i++) {
            x.sheet(i, Math.min(i, 2), 40);
            x.cell(i, 0, 3 + i);
            x.cell(i, 39, 8);
        }
        for (int i = 0; i < 160; i++) {
            x.feed(i < SHORT.length() ? SHORT.charAt(i) : ' ');
        }
    };

    private final Check check;

    Twins(Check check) {
        this.check = check;
    }

    static EdgesOff made(Made made) {
        EdgesOff x = new EdgesOff();
        made.by(x);
        return x;
    }

    /** The call answers what is due, and changes nothing. */
    void asked(String call, Made made, Call asked, long due) {
        for (Part part : Part.values()) {
            EdgesOff x = made(made);
            long got = asked.of(x);
            if (part == Part.PIECES) {
                check.due(call, got, due);
            }
            check.holds(call + " changes nothing of " + part, told(x, part).equals(told(made(made), part)));
        }
    }

    /** A number of the call is taken from the least to the most; others are refused, and change nothing. */
    void bounds(String call, Made made, int least, int most, CallWith asked, long refusal) {
        for (int v : new int[] {least, most}) {
            check.holds(call + " takes " + v, asked.of(made(made), v) != refusal);
        }
        for (int v : new int[] {least - 1, most + 1, MIN, MAX}) {
            asked(call + " with " + v, made, x -> asked.of(x, v), refusal);
        }
    }

    private static List<Long> told(EdgesOff x, Part part) {
        List<Long> all = new ArrayList<>();
        switch (part) {
            case PIECES -> pieces(x, all);
            case TIDES -> tides(x, all);
            case TEXTS -> texts(x, all);
            case TAPE -> tape(x, all);
            case IMAGE -> image(x, all);
            default -> sheet(x, part.ordinal() - Part.SHEET_0.ordinal(), all);
        }
        return all;
    }

    private static void counts(EdgesOff x, List<Long> all) {
        for (int what = 0; what <= 5; what++) {
            all.add((long) x.count(what));
        }
    }

    private static void pieces(EdgesOff x, List<Long> all) {
        counts(x, all);
        for (int piece = 0; piece < x.count(0); piece++) {
            for (int what = 1; what <= 7; what++) {
                all.add((long) x.told(piece, what));
            }
            all.add((long) x.carried(piece));
        }
    }

    private static void tides(EdgesOff x, List<Long> all) {
        x.set(0, 0, x.count(2) / 2);
        for (int i = 0; i < 3; i++) {
            all.add((long) x.tide());
            for (int piece = 0; piece < x.count(0); piece++) {
                all.add((long) x.told(piece, 2));
                all.add((long) x.told(piece, 3));
            }
        }
    }

    private static void texts(EdgesOff x, List<Long> all) {
        x.piece(0, 2, 30, 4);
        for (int text = 0; text < x.count(3); text++) {
            x.force(text);
            all.add((long) x.told(0, 6));
            all.add((long) x.carried(0));
            all.add((long) x.told(0, 7));
        }
    }

    private static void tape(EdgesOff x, List<Long> all) {
        all.add((long) x.text());
        all.add((long) x.count(3));
        all.add((long) x.count(4));
        texts(x, all);
    }

    private static void image(EdgesOff x, List<Long> all) {
        all.add((long) x.back());
        pieces(x, all);
    }

    /** Its sort, its size and its first and last items, as far as they may be SHARP. */
    private static void sheet(EdgesOff x, int sheet, List<Long> all) {
        x.piece(0, 0, 0, 0);
        int sort = NOT_FOUND;
        for (int i = 0; i <= 2; i++) {
            int found = x.finds(sheet, i, 0, 0);
            all.add((long) found);
            sort = found == 0 ? i : sort;
        }
        int size = 0;
        while (size <= 40 && x.copy(sheet, size, sheet, size, 1) == 1) {
            size++;
        }
        all.add((long) size);
        int other = (sheet + 1) % 4;
        x.sheet(other, sort, 1);
        for (int i = 0; i < size; i++) {
            if (i < 8 || i >= size - 4) {
                x.copy(sheet, i, other, 0, 1);
                all.add((long) x.tells(other, 0, 4));
            }
        }
    }
}
