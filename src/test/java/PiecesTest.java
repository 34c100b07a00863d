/** Promises 1 to 5: a new object, set, piece, told, carried. */
public final class PiecesTest {
    private static final Check C = new Check();
    private static final int MIN = Integer.MIN_VALUE, MAX = Integer.MAX_VALUE;

    public static void main(String[] args) {
        aNewObject();
        setAnswersWhatWas();
        setRefuses();
        pieceComesAndRefuses();
        toldTellsEach();
        toldRefuses();
        wearsByKind();
        wearsIsBounded();
        carriedByKind();
        carriedIsBoundedAsTheTextTells();
        clashesByKind();
        C.end();
    }

    private static void aNewObject() {
        EdgesOff x = new EdgesOff();
        int[] counts = {0, 0, 0, 1, 0, 0};
        for (int i = 0; i < counts.length; i++) {
            C.due("new: count(" + i + ")", x.count(i), counts[i]);
        }
        for (int i = 0; i < 4; i++) {
            C.due("new: walk(" + i + ")", x.walk(i), -11);
        }
        for (int i = 0; i < 12; i++) {
            C.due("new: told(" + i + ", 8)", x.told(i, 8), 0);
        }
        C.due("new: back()", x.back(), EdgesOff.STATE);
        C.due("new: text()", x.text(), -100);
        C.due("new: force(0)", x.force(0), 0);
        EdgesOff other = new EdgesOff();
        other.piece(0, 0, 0, 0);
        C.due("new: objects are apart", x.count(0), 0);
    }

    private static void setAnswersWhatWas() {
        EdgesOff x = new EdgesOff();
        C.due("set(0, 77, 999)", x.set(0, 77, 999), 0);
        C.due("set(0, -5, 0)", x.set(0, -5, 0), 999);
        x.piece(3, 4, 50, 107);
        x.piece(0, 0, 0, 0);
        int[] was = {0, 4, 50, 7, 1};
        int[] most = {999, 9, 99, 11, 1};
        for (int what = 1; what <= 4; what++) {
            C.due("set(" + what + ", 0, most)", x.set(what, 0, most[what]), was[what]);
            C.due("told(0, " + what + ")", x.told(0, what), most[what]);
            C.due("told(1, " + what + ") of the other", x.told(1, what), 0);
            C.due("set(" + what + ", 0, 0)", x.set(what, 0, 0), most[what]);
            C.due("told(0, " + what + ") then", x.told(0, what), 0);
        }
        C.due("set leaves KIND", x.told(0, 5), 3);
    }

    private static void setRefuses() {
        EdgesOff x = new EdgesOff();
        C.due("set(1, 0, 0) of none", x.set(1, 0, 0), EdgesOff.BAD);
        x.piece(0, 1, 2, 3);
        int[] most = {999, 9, 99, 11, 1};
        for (int what = 0; what <= 4; what++) {
            C.due("set(" + what + ", 0, above)", x.set(what, 0, most[what] + 1), EdgesOff.BAD);
            C.due("set(" + what + ", 0, -1)", x.set(what, 0, -1), EdgesOff.BAD);
            C.due("set(" + what + ", 0, MAX)", x.set(what, 0, MAX), EdgesOff.BAD);
            C.due("set(" + what + ", 0, MIN)", x.set(what, 0, MIN), EdgesOff.BAD);
        }
        for (int of : new int[] {-1, 1, 8, MIN, MAX}) {
            C.due("set(2, " + of + ", 0)", x.set(2, of, 0), EdgesOff.BAD);
        }
        for (int what : new int[] {-1, 5, 6, MIN, MAX}) {
            C.due("set(" + what + ", 0, 0)", x.set(what, 0, 0), EdgesOff.BAD);
        }
        C.due("set refused, NUMBER stays", x.told(0, 1), 1);
        C.due("set refused, SHARP stays", x.told(0, 2), 2);
        C.due("set refused, PLACE stays", x.told(0, 3), 3);
        C.due("set refused, SIDE stays", x.told(0, 4), 0);
    }

    private static void pieceComesAndRefuses() {
        EdgesOff x = new EdgesOff();
        int[] wheres = {12, 99, 112, 199, 200, 211, -1, -100, MIN, MAX};
        for (int where : wheres) {
            C.due("piece(0, 0, 0, " + where + ")", x.piece(0, 0, 0, where), EdgesOff.BAD);
        }
        for (int v : new int[] {-1, 100, MIN, MAX}) {
            C.due("piece(" + v + ", 0, 0, 0)", x.piece(v, 0, 0, 0), EdgesOff.BAD);
            C.due("piece(0, " + v + ", 0, 0)", x.piece(0, v, 0, 0), EdgesOff.BAD);
            C.due("piece(0, 0, " + v + ", 0)", x.piece(0, 0, v, 0), EdgesOff.BAD);
        }
        C.due("piece(6, 0, 0, 0)", x.piece(6, 0, 0, 0), EdgesOff.BAD);
        C.due("piece(0, 10, 0, 0)", x.piece(0, 10, 0, 0), EdgesOff.BAD);
        C.due("none came", x.count(0), 0);
        for (int i = 0; i < 8; i++) {
            C.due("piece " + i, x.piece(i % 6, i, 99 - i, i % 2 * 100 + 11 - i), i);
        }
        for (int i = 0; i < 8; i++) {
            C.due("KIND of " + i, x.told(i, 5), i % 6);
            C.due("NUMBER of " + i, x.told(i, 1), i);
            C.due("SHARP of " + i, x.told(i, 2), 99 - i);
            C.due("PLACE of " + i, x.told(i, 3), 11 - i);
            C.due("SIDE of " + i, x.told(i, 4), i % 2);
        }
        C.due("a ninth", x.piece(0, 0, 0, 0), EdgesOff.FULL);
        C.due("a ninth that is BAD", x.piece(0, 0, 0, 12), EdgesOff.BAD);
        C.due("eight stay", x.count(0), 8);
    }

    private static void toldTellsEach() {
        EdgesOff x = new EdgesOff();
        x.set(0, 0, 7);
        x.piece(1, 3, 15, 103);
        x.piece(0, 4, 40, 3);
        C.due("told(0, 0)", x.told(0, 0), 7);
        C.due("told(-9, 0): of does not matter", x.told(-9, 0), 7);
        C.due("told(MAX, 0)", x.told(MAX, 0), 7);
        C.due("told(0, 6)", x.told(0, 6), 3);
        C.due("told(1, 6)", x.told(1, 6), 2);
        C.due("told(0, 7)", x.told(0, 7), 2);
        C.due("told(1, 7)", x.told(1, 7), 1);
        C.due("told(3, 8)", x.told(3, 8), 3);
        C.due("told(4, 8)", x.told(4, 8), 0);
        C.due("told(11, 8): no PIECE 11 is asked for", x.told(11, 8), 0);
    }

    private static void toldRefuses() {
        EdgesOff x = new EdgesOff();
        x.piece(0, 0, 0, 0);
        for (int what = 1; what <= 7; what++) {
            for (int of : new int[] {-1, 1, MIN, MAX}) {
                C.due("told(" + of + ", " + what + ")", x.told(of, what), EdgesOff.BAD);
            }
        }
        for (int of : new int[] {-1, 12, MIN, MAX}) {
            C.due("told(" + of + ", 8)", x.told(of, 8), EdgesOff.BAD);
        }
        for (int what : new int[] {-1, 9, MIN, MAX}) {
            C.due("told(0, " + what + ")", x.told(0, what), EdgesOff.BAD);
        }
    }

    private static void wearsByKind() {
        // three at one place, v 7: so two others with each
        for (int tide = 0; tide <= 4; tide++) {
            EdgesOff x = Check.under("7", "1", "1");
            x.set(0, 0, tide);
            int[] due = {7, 9, 3, 18, tide == 1 || tide == 3 ? 3 : 0, 7};
            x.piece(0, 0, 0, 5);
            x.piece(0, 0, 0, 5);
            x.piece(0, 0, 0, 6);
            for (int kind = 0; kind <= 5; kind++) {
                int piece = 3;
                x.image();
                x.piece(kind, 0, 19, 105);
                C.due("WEARS of kind " + kind + " in TIDE " + tide, x.told(piece, 6), due[kind]);
                x.back();
            }
        }
        EdgesOff x = Check.under("5", "1", "1");
        x.piece(3, 0, 20, 0);
        x.piece(3, 0, 19, 1);
        x.piece(5, 0, 51, 2);
        x.piece(5, 0, 50, 3);
        C.due("GRACE of SHARP 20", x.told(0, 6), 5);
        C.due("GRACE of SHARP 19", x.told(1, 6), 10);
        C.due("FRESH of SHARP 51", x.told(2, 6), 0);
        C.due("FRESH of SHARP 50", x.told(3, 6), 5);
    }

    private static void wearsIsBounded() {
        String[] texts = {"9999", "0-9999", "99", "98"};
        int[][] due = {{99, 99, 49, 99, 49, 99}, {0, 1, 0, 2, 0, 0}, {99, 99, 49, 99, 49, 99}, {98, 99, 49, 99, 49, 98}};
        for (int i = 0; i < texts.length; i++) {
            for (int kind = 0; kind <= 5; kind++) {
                EdgesOff x = Check.under(texts[i], "1", "1");
                x.set(0, 0, 1);
                x.piece(kind, 0, 10, 0);
                x.piece(0, 0, 0, 0);
                C.due("WEARS by " + texts[i] + " of kind " + kind, x.told(0, 6), due[i][kind]);
            }
        }
    }

    private static void carriedByKind() {
        for (int side = 0; side <= 1; side++) {
            EdgesOff x = Check.under("7", "5", "1");
            int[] due = {5, 9, -5, 9, side == 1 ? 1 : -5, 0};
            for (int kind = 0; kind <= 5; kind++) {
                x.piece(kind, 4, 1, side * 100);
                C.due("CARRIED of kind " + kind + " of SIDE " + side, x.carried(kind), due[kind]);
            }
        }
        EdgesOff x = new EdgesOff();
        for (int piece : new int[] {0, -1, MIN, MAX}) {
            C.due("carried(" + piece + ")", x.carried(piece), -1000);
        }
        x.piece(3, 9, 0, 0);
        C.due("GRACE that is ROUND", x.carried(0), 0);
        x.set(2, 0, 1);
        C.due("GRACE that is not ROUND", x.carried(0), 10);
        C.due("carried(1)", x.carried(1), -1000);
    }

    private static void carriedIsBoundedAsTheTextTells() {
        int[][] due = {{99, 108, -99, 108, -93, 0}, {-99, -90, 99, -90, 105, 0}};
        String[] texts = {"9999", "-9999"};
        for (int i = 0; i < 2; i++) {
            EdgesOff x = Check.under("1", texts[i], "1");
            for (int kind = 0; kind <= 5; kind++) {
                x.piece(kind, 9, 1, 100);
                C.due("CARRIED by " + texts[i] + " of kind " + kind, x.carried(kind), due[i][kind]);
            }
        }
    }

    private static void clashesByKind() {
        // others: 1 of the same SIDE and NUMBER, 2 of another SIDE, 3 of another NUMBER, 4 ROUND, 5 FRESH of the same
        int[][] due = {
            {4, 4, 4, 4, 4}, {8, 8, 8, 8, 8}, {20, 20, 20, 20, 20}, {0, 0, 0, 0, 0}, {0, 20, 20, 0, 20},
            {30, 30, 30, 30, 30}};
        int[][] dueIfNo = {
            {0, 0, 0, 0, 0}, {0, 0, 0, 0, 0}, {16, 16, 16, 16, 16}, {0, 0, 0, 0, 0}, {0, 16, 16, 0, 16},
            {30, 30, 30, 30, 30}};
        for (int yes = 0; yes <= 1; yes++) {
            for (int kind = 0; kind <= 5; kind++) {
                for (int tide = 0; tide <= 4; tide++) {
                    EdgesOff x = Check.under("1", "1", yes == 1 ? "-3" : "0");
                    x.piece(kind, 1, 9, 0);
                    x.piece(0, 1, 9, 0);
                    x.piece(0, 1, 9, 100);
                    x.piece(0, 2, 9, 0);
                    x.piece(0, 1, 0, 0);
                    x.piece(5, 1, 9, 0);
                    x.set(0, 0, tide);
                    C.due("CLASHES of kind " + kind + " in TIDE " + tide + ", yes " + yes, x.told(0, 7),
                            (yes == 1 ? due : dueIfNo)[kind][tide]);
                }
            }
        }
    }
}
