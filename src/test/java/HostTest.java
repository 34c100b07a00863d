/** Promises 26 to 30: sheet, cell, copy, finds, taken. */
public final class HostTest {
    private static final Check C = new Check();
    private static final int MIN = Integer.MIN_VALUE, MAX = Integer.MAX_VALUE;

    public static void main(String[] args) {
        sheetComesAndGoes();
        sheetRefuses();
        cellIsCut();
        cellRefuses();
        copyIsAsTheyWere();
        copyRefuses();
        findsLeavesOut();
        findsRefuses();
        takenByKind();
        takenRefuses();
        C.end();
    }

    private static void sheetComesAndGoes() {
        EdgesOff x = new EdgesOff();
        x.piece(0, 0, 0, 0);
        for (int sheet = 0; sheet < 4; sheet++) {
            for (int sort = 0; sort <= 2; sort++) {
                C.due("sheet(" + sheet + ", " + sort + ", 30)", x.sheet(sheet, sort, 30), 1);
                C.due("all 0", x.tells(sheet, 0, 0), EdgesOff.NONE);
                x.cell(sheet, 7, 9);
                C.due("one not 0", x.tells(sheet, 0, 0), 7);
            }
            C.due("sheet(" + sheet + ", 0, 40)", x.sheet(sheet, 0, 40), 1);
            C.due("40 long", x.cell(sheet, 39, 0), 1);
            C.due("not longer", x.cell(sheet, 40, 0), -12);
            C.due("missing, n below", x.sheet(sheet, -1, MIN), 1);
            C.due("missing, n above", x.sheet(sheet, -1, 41), 1);
            C.due("it is missing", x.cell(sheet, 0, 0), -11);
        }
    }

    private static void sheetRefuses() {
        EdgesOff x = new EdgesOff();
        x.sheet(0, 1, 3);
        for (int v : new int[] {-1, 4, MIN, MAX}) {
            C.due("sheet(" + v + ", 0, 0)", x.sheet(v, 0, 0), EdgesOff.BAD);
            C.due("sheet(" + v + ", 0, -1)", x.sheet(v, 0, -1), EdgesOff.BAD);
        }
        for (int v : new int[] {-2, 3, MIN, MAX}) {
            C.due("sheet(0, " + v + ", 0)", x.sheet(0, v, 0), EdgesOff.BAD);
            C.due("sheet(0, " + v + ", -1)", x.sheet(0, v, -1), EdgesOff.BAD);
        }
        C.due("sheet(0, 0, 41)", x.sheet(0, 0, 41), EdgesOff.BAD);
        C.due("sheet(0, 0, MAX)", x.sheet(0, 0, MAX), EdgesOff.BAD);
        C.due("sheet(0, 0, -1)", x.sheet(0, 0, -1), -14);
        C.due("sheet(0, 2, MIN)", x.sheet(0, 2, MIN), -14);
        C.due("it stays", x.finds(0, 1, 0, 0), 0);
        C.due("its size stays", x.cell(0, 3, 0), -12);
    }

    private static void cellIsCut() {
        EdgesOff x = new EdgesOff();
        x.piece(0, 0, 44, 0);
        int[] values = {44, 256 + 44, 65536 + 44, -256 + 44};
        boolean[][] same = {{true, true, true, true}, {true, false, true, false}, {true, false, false, false}};
        for (int sort = 0; sort <= 2; sort++) {
            x.sheet(0, sort, 1);
            for (int i = 0; i < values.length; i++) {
                C.due("cell(0, 0, " + values[i] + ")", x.cell(0, 0, values[i]), 1);
                C.due("cut to sort " + sort, x.tells(0, 0, 0), same[sort][i] ? -1 : 0);
            }
        }
        x.sheet(0, 0, 1);
        x.cell(0, 0, 128 + 5);
        C.due("a byte below 0 is no PLACE", x.walk(0), EdgesOff.BAD);
        x.sheet(0, 1, 1);
        x.cell(0, 0, 65536 + 5);
        C.due("a short that is a PLACE", x.walk(0), 0);
    }

    private static void cellRefuses() {
        EdgesOff x = new EdgesOff();
        for (int v : new int[] {-1, 4, MIN, MAX}) {
            C.due("cell(" + v + ", 0, 0)", x.cell(v, 0, 0), EdgesOff.BAD);
        }
        C.due("cell of a missing one", x.cell(0, -1, 0), -11);
        x.sheet(0, 0, 2);
        for (int v : new int[] {-1, 2, MIN, MAX}) {
            C.due("cell(0, " + v + ", 0)", x.cell(0, v, 0), -12);
        }
    }

    private static void copyIsAsTheyWere() {
        EdgesOff x = new EdgesOff();
        x.piece(0, 0, 10, 0);
        Check.sheet(x, 0, 0, 10, 8, 6, 4, 2);
        x.sheet(1, 0, 7);
        C.due("copy(0, 1, 1, 4, 3)", x.copy(0, 1, 1, 4, 3), 3);
        C.due("copy(1, 4, 1, 1, 3)", x.copy(1, 4, 1, 1, 3), 3);
        x.cell(1, 0, 10);
        C.due("10 8 6 4, then not 2", x.tells(1, 0, 0), 4);
        // over itself, both ways
        Check.sheet(x, 2, 2, 10, 10, 8, 6, 4, 2);
        C.due("copy(2, 1, 2, 0, 5)", x.copy(2, 1, 2, 0, 5), 5);
        C.due("10 8 6 4 2 2", x.tells(2, 0, 0), 5);
        Check.sheet(x, 2, 2, 10, 8, 6, 4, 2, 0);
        C.due("copy(2, 0, 2, 1, 5)", x.copy(2, 0, 2, 1, 5), 5);
        C.due("10 10 8 6 4 2", x.copy(2, 1, 2, 0, 5), 5);
        C.due("10 8 6 4 2 2", x.tells(2, 0, 0), 5);
        C.due("none, at the ends", x.copy(0, 5, 1, 7, 0), 0);
    }

    private static void copyRefuses() {
        EdgesOff x = new EdgesOff();
        for (int v : new int[] {-1, 4, MIN, MAX}) {
            C.due("copy(" + v + ", 0, 0, 0, 0)", x.copy(v, 0, 0, 0, 0), EdgesOff.BAD);
            C.due("copy(0, 0, " + v + ", 0, 0)", x.copy(0, 0, v, 0, 0), EdgesOff.BAD);
        }
        x.sheet(0, 0, 5);
        C.due("to a missing one", x.copy(0, 0, 1, 0, 0), -11);
        C.due("from a missing one", x.copy(1, 0, 0, 0, -1), -11);
        x.sheet(1, 1, 5);
        C.due("unlike sorts", x.copy(0, 0, 1, 0, 1), -13);
        C.due("unlike sorts, outside too", x.copy(0, 0, 1, 0, -1), -13);
        x.sheet(1, 0, 5);
        C.due("n below 0", x.copy(0, 0, 1, 0, -1), -12);
        C.due("n MIN", x.copy(0, 0, 1, 0, MIN), -12);
        C.due("n MAX", x.copy(0, 1, 1, 1, MAX), -12);
        C.due("i below 0", x.copy(0, -1, 1, 0, 1), -12);
        C.due("j below 0", x.copy(0, 0, 1, -1, 1), -12);
        C.due("i MAX", x.copy(0, MAX, 1, 0, 1), -12);
        C.due("j MIN", x.copy(0, 0, 1, MIN, 0), -12);
        C.due("i too far", x.copy(0, 1, 1, 0, 5), -12);
        C.due("j too far", x.copy(0, 0, 1, 1, 5), -12);
        C.due("none, behind the end", x.copy(0, 6, 1, 0, 0), -12);
    }

    private static void findsLeavesOut() {
        EdgesOff x = new EdgesOff();
        Check.sheet(x, 0, 0, 9, 3, 2, 40, 105, 6, 0, 0, 0, 1, 4, 50, 11);
        C.due("finds(0, 0, 1, 3)", x.finds(0, 0, 1, 3), 2);
        C.due("KIND", x.told(0, 5), 3);
        C.due("NUMBER", x.told(0, 1), 2);
        C.due("SHARP", x.told(0, 2), 40);
        C.due("PLACE", x.told(0, 3), 5);
        C.due("SIDE", x.told(0, 4), 1);
        C.due("the other's NUMBER", x.told(1, 1), 4);
        C.due("finds none", x.finds(0, 0, 0, 0), 0);
        EdgesOff y = new EdgesOff();
        y.sheet(3, 2, 40);
        C.due("eight", y.finds(3, 2, 0, 8), 8);
        C.due("no more have room", y.finds(3, 2, 0, 8), 0);
        EdgesOff z = new EdgesOff();
        z.sheet(3, 2, 40);
        for (int i = 0; i < 6; i++) {
            z.piece(0, 0, 0, 0);
        }
        C.due("two have room", z.finds(3, 2, 0, 8), 2);
    }

    private static void findsRefuses() {
        EdgesOff x = new EdgesOff();
        for (int v : new int[] {-1, 4, MIN, MAX}) {
            C.due("finds(" + v + ", 0, 0, 0)", x.finds(v, 0, 0, 0), EdgesOff.BAD);
        }
        for (int v : new int[] {-1, 3, MIN, MAX}) {
            C.due("finds(0, " + v + ", 0, 0)", x.finds(0, v, 0, 0), EdgesOff.BAD);
        }
        for (int v : new int[] {-1, 9, MIN, MAX}) {
            C.due("finds(0, 0, 0, " + v + ")", x.finds(0, 0, 0, v), EdgesOff.BAD);
        }
        C.due("a missing one", x.finds(0, 2, 0, 1), -11);
        x.sheet(0, 1, 10);
        C.due("another sort", x.finds(0, 2, 99, 1), -13);
        C.due("another sort, none asked", x.finds(0, 0, 0, 0), -13);
        for (int v : new int[] {-1, 7, 10, MIN, MAX, MAX - 3}) {
            C.due("finds(0, 1, " + v + ", 1)", x.finds(0, 1, v, 1), -12);
        }
        C.due("none came", x.count(0), 0);
        C.due("the last four", x.finds(0, 1, 6, 1), 1);
        C.due("the third is outside", x.finds(0, 1, 0, 3), -12);
        C.due("what stood ahead came", x.count(0), 3);
    }

    private static void takenByKind() {
        EdgesOff x = new EdgesOff();
        for (int kind = 0; kind <= 5; kind++) {
            x.piece(kind, kind + 1, 0, 0);
        }
        // bits of the KINDS that each KIND can be taken for
        int[] due = {1, 1 + 2, 1 + 4, 1 + 2 + 8, 1 + 4 + 16, 1 + 32};
        for (int piece = 0; piece <= 5; piece++) {
            for (int k = 0; k <= 5; k++) {
                C.due("taken(" + piece + ", " + k + ")", x.taken(piece, k), (due[piece] >> k & 1) == 1 ? piece + 1 : -13);
            }
        }
    }

    private static void takenRefuses() {
        EdgesOff x = new EdgesOff();
        for (int v : new int[] {-1, 6, MIN, MAX}) {
            C.due("taken(0, " + v + ")", x.taken(0, v), EdgesOff.BAD);
        }
        C.due("none such", x.taken(0, 0), -11);
        x.piece(0, 3, 0, 0);
        for (int v : new int[] {-1, 1, MIN, MAX}) {
            C.due("taken(" + v + ", 0)", x.taken(v, 0), -11);
        }
    }
}
