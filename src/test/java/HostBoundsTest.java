/** The boundary cases of promises 26 to 30 and of the SHEETS, sentence by sentence. */
public final class HostBoundsTest {
    private static final Check C = new Check();
    private static final Twins T = new Twins(C);
    private static final int MIN = Integer.MIN_VALUE, MAX = Integer.MAX_VALUE;
    private static final int BAD = EdgesOff.BAD, NONE = EdgesOff.NONE;
    private static final int NOTHING = -11, OUTSIDE = -12, UNLIKE = -13, BELOW = -14;

    public static void main(String[] args) {
        allAreMissingAtFirst();
        sheetHasBounds();
        sheetIsAll0();
        nDoesNotMatterToAMissingOne();
        sheetRefusesTheFirstThatIsNamed();
        cellHasBounds();
        cellRefusesTheFirstThatIsNamed();
        cellIsCut();
        copyHasBounds();
        copyIsOutside();
        copyIsAsTheyWere();
        copyRefusesTheFirstThatIsNamed();
        findsHasBounds();
        findsFourByFour();
        findsLeavesOut();
        whatStoodAheadCame();
        findsRefusesTheFirstThatIsNamed();
        takenHasBounds();
        takenAlsoByOthersBetween();
        takenRefusesTheFirstThatIsNamed();
        C.end();
    }

    /** What item i of a sheet is, if it may be SHARP, by way of SHEET 3; the shore must have a PIECE. */
    private static int item(EdgesOff x, int sheet, int sort, int i) {
        x.sheet(3, sort, 1);
        C.due("copy(" + sheet + ", " + i + ", 3, 0, 1)", x.copy(sheet, i, 3, 0, 1), 1);
        return x.tells(3, 0, 4);
    }

    private static void items(String of, EdgesOff x, int sheet, int sort, int... due) {
        for (int i = 0; i < due.length; i++) {
            C.due("item " + i + " of " + of, item(x, sheet, sort, i), due[i]);
        }
        C.due("the size of " + of, x.cell(sheet, due.length, 0), OUTSIDE);
    }

    // ---- sheet

    private static void allAreMissingAtFirst() {
        C.sentence("SHEETS 0 .. 3 are rows of numbers, or missing (as all are at first): of sort 0 bytes, 1 shorts, 2 ints.");
        EdgesOff x = new EdgesOff();
        x.piece(0, 0, 0, 0);
        for (int sheet = 0; sheet <= 3; sheet++) {
            C.due("walk(" + sheet + ")", x.walk(sheet), NOTHING);
            C.due("tells(" + sheet + ", 0, 0)", x.tells(sheet, 0, 0), NOTHING);
            C.due("cell(" + sheet + ", 0, 0)", x.cell(sheet, 0, 0), NOTHING);
            C.due("copy(" + sheet + ", 0, " + sheet + ", 0, 0)", x.copy(sheet, 0, sheet, 0, 0), NOTHING);
            for (int sort = 0; sort <= 2; sort++) {
                C.due("finds(" + sheet + ", " + sort + ", 0, 0)", x.finds(sheet, sort, 0, 0), NOTHING);
            }
        }
    }

    private static void sheetHasBounds() {
        C.sentence("BAD: no such SHEET, sort; n above 40; -14.");
        T.bounds("sheet(v, 0, 3)", Twins.SOME, 0, 3, (x, v) -> x.sheet(v, 0, 3), BAD);
        T.bounds("sheet(1, v, 3)", Twins.SOME, -1, 2, (x, v) -> x.sheet(1, v, 3), BAD);
        for (int sort = 0; sort <= 2; sort++) {
            int of = sort;
            for (int n : new int[] {0, 1, 39, 40}) {
                EdgesOff x = Twins.made(Twins.SOME);
                C.due("sheet(1, " + sort + ", " + n + ")", x.sheet(1, sort, n), 1);
                C.due("its last item", x.cell(1, n - 1, 5), n == 0 ? OUTSIDE : 1);
                C.due("one behind its last", x.cell(1, n, 5), OUTSIDE);
            }
            for (int n : new int[] {41, 42, MAX}) {
                T.asked("sheet(1, " + sort + ", " + n + ")", Twins.SOME, x -> x.sheet(1, of, n), BAD);
            }
            for (int n : new int[] {-1, -40, MIN}) {
                T.asked("sheet(1, " + sort + ", " + n + ")", Twins.SOME, x -> x.sheet(1, of, n), BELOW);
                T.asked("sheet(3, " + sort + ", " + n + ") of a missing one", Twins.SOME, x -> x.sheet(3, of, n), BELOW);
            }
        }
    }

    private static void sheetIsAll0() {
        C.sentence("A SHEET becomes a row of n of a sort, all 0");
        for (int sort = 0; sort <= 2; sort++) {
            EdgesOff x = new EdgesOff();
            x.piece(0, 0, 0, 0);
            x.sheet(2, sort, 40);
            for (int i = 0; i < 40; i++) {
                x.cell(2, i, 7);
            }
            x.sheet(2, sort, 3);
            items("one that was longer", x, 2, sort, 0, 0, 0);
            x.sheet(2, sort, 30);
            C.due("all are 0", x.tells(2, 0, 0), NONE);
            x.cell(2, 29, 1);
            C.due("but the last", x.tells(2, 0, 0), 29);
            x.sheet(2, sort, 30);
            C.due("made anew, all are 0", x.tells(2, 0, 0), NONE);
        }
    }

    private static void nDoesNotMatterToAMissingOne() {
        C.sentence("or missing (sort -1: n does not matter): 1.");
        for (int n : new int[] {MIN, -1, 0, 40, 41, MAX}) {
            EdgesOff x = Twins.made(Twins.FULL);
            C.due("sheet(2, -1, " + n + ")", x.sheet(2, -1, n), 1);
            C.due("it is missing", x.walk(2), NOTHING);
            C.due("sheet(2, -1, " + n + ") again", x.sheet(2, -1, n), 1);
            C.due("it is missing still", x.walk(2), NOTHING);
            C.due("the others are not", x.cell(3, 39, 0), 1);
            x.sheet(2, 0, 1);
            C.due("it is there again", x.cell(2, 0, 0), 1);
        }
    }

    private static void sheetRefusesTheFirstThatIsNamed() {
        C.sentence("Refusals, the first that the call's words name; they change nothing");
        T.asked("no such SHEET, a size below 0", Twins.SOME, x -> x.sheet(4, 0, -1), BAD);
        T.asked("no such SHEET below, a size below 0", Twins.SOME, x -> x.sheet(-1, 0, -1), BAD);
        T.asked("no such sort, a size below 0", Twins.SOME, x -> x.sheet(1, 3, -1), BAD);
        T.asked("no such sort below, a size below 0", Twins.SOME, x -> x.sheet(1, -2, -1), BAD);
        T.asked("no such SHEET, that would be missing", Twins.SOME, x -> x.sheet(4, -1, 0), BAD);
    }

    // ---- cell

    private static void cellHasBounds() {
        C.sentence("BAD: no such SHEET; -11; -12.");
        T.bounds("cell(v, 0, 6)", Twins.FULL, 0, 3, (x, v) -> x.cell(v, 0, 6), BAD);
        T.bounds("cell(0, v, 6)", Twins.SOME, 0, 4, (x, v) -> x.cell(0, v, 6), OUTSIDE);
        T.bounds("cell(1, v, 6)", Twins.SOME, 0, 7, (x, v) -> x.cell(1, v, 6), OUTSIDE);
        T.bounds("cell(3, v, 6)", Twins.FULL, 0, 39, (x, v) -> x.cell(3, v, 6), OUTSIDE);
        T.asked("cell(2, 0, 6) of one of no items", Twins.SOME, x -> x.cell(2, 0, 6), OUTSIDE);
        T.asked("cell(3, 0, 6) of a missing one", Twins.SOME, x -> x.cell(3, 0, 6), NOTHING);
        EdgesOff x = Twins.made(Twins.SOME);
        C.due("cell(0, 4, 66)", x.cell(0, 4, 66), 1);
        items("one whose last was put", x, 0, 0, 5, 7, 9, 1, 66);
        EdgesOff y = Twins.made(Twins.SOME);
        C.due("cell(0, 0, 66)", y.cell(0, 0, 66), 1);
        items("one whose first was put", y, 0, 0, 66, 7, 9, 1, 2);
    }

    private static void cellRefusesTheFirstThatIsNamed() {
        C.sentence("-11 nothing where something is asked, -12 a place outside");
        for (int i : new int[] {-1, 40, MIN, MAX}) {
            C.due("cell(4, " + i + ", 0) of a bare shore", new EdgesOff().cell(4, i, 0), BAD);
            C.due("cell(0, " + i + ", 0) of a bare shore", new EdgesOff().cell(0, i, 0), NOTHING);
        }
    }

    private static void cellIsCut() {
        C.sentence("Item i of a SHEET becomes v (of bytes, shorts its lowest 8, 16 bits): 1.");
        int[] low8 = {256, -256, 512, 65536, MIN, MAX - 255, 1 << 30};
        for (int v : low8) {
            cut(0, v + 44, 44);
            cut(0, v + 99, 99);
        }
        int[] low16 = {65536, -65536, 131072, MIN, MAX - 65535, 1 << 30};
        for (int v : low16) {
            cut(1, v + 44, 44);
            cut(2, v + 44, NONE);
        }
        cut(0, 255, NONE);
        cut(0, 128 + 44, NONE);
        cut(1, 256 + 44, NONE);
        cut(1, 255, NONE);
        cut(1, 65535, NONE);
        cut(1, 32768 + 44, NONE);
        cut(2, 44, 44);
        cut(2, MIN, NONE);
        cut(2, MAX, NONE);
        // a byte of 127 is itself, one of 128 is below 0: neither is a PLACE nor SHARP
        cut(0, 127, NONE);
        cut(0, 128, NONE);
    }

    private static void cut(int sort, int v, int due) {
        EdgesOff x = new EdgesOff();
        x.piece(0, 0, 0, 0);
        x.sheet(0, sort, 1);
        C.due("cell(0, 0, " + v + ") of sort " + sort, x.cell(0, 0, v), 1);
        C.due(v + " of sort " + sort, x.tells(0, 0, 4), due);
    }

    // ---- copy

    private static void copyHasBounds() {
        C.sentence("BAD: no such SHEET; -11; -13: they are of unlike sorts; -12 (also with n below 0).");
        T.bounds("copy(v, 0, v, 0, 1)", Twins.FULL, 0, 3, (x, v) -> x.copy(v, 0, v, 0, 1), BAD);
        T.bounds("copy(v, 0, 2, 0, 1)", Twins.FULL, 0, 3, (x, v) -> x.copy(v, 0, 2, 0, 1), BAD);
        T.bounds("copy(2, 0, v, 0, 1)", Twins.FULL, 0, 3, (x, v) -> x.copy(2, 0, v, 0, 1), BAD);
        T.asked("from a missing one", Twins.SOME, x -> x.copy(3, 0, 0, 0, 0), NOTHING);
        T.asked("to a missing one", Twins.SOME, x -> x.copy(0, 0, 3, 0, 0), NOTHING);
        T.asked("a missing one to itself", Twins.SOME, x -> x.copy(3, 0, 3, 0, 0), NOTHING);
        for (int from = 0; from <= 2; from++) {
            for (int to = 0; to <= 2; to++) {
                int one = from;
                int other = to;
                T.asked("copy(" + from + ", 0, " + to + ", 0, 0)", Twins.SOME, x -> x.copy(one, 0, other, 0, 0), one == other ? 0 : UNLIKE);
            }
        }
    }

    /** SHEETS 0 and 1, bytes, of 5 and of 8. */
    private static final Twins.Made TWO = x -> {
        Twins.SOME.by(x);
        Check.sheet(x, 1, 0, 11, 12, 13, 14, 15, 16, 17, 18);
    };

    private static void copyIsOutside() {
        C.sentence("-12 (also with n below 0)");
        T.bounds("copy(0, v, 1, 0, 2)", TWO, 0, 3, (x, v) -> x.copy(0, v, 1, 0, 2), OUTSIDE);
        T.bounds("copy(0, 0, 1, v, 2)", TWO, 0, 6, (x, v) -> x.copy(0, 0, 1, v, 2), OUTSIDE);
        T.bounds("copy(0, 0, 1, 0, v)", TWO, 0, 5, (x, v) -> x.copy(0, 0, 1, 0, v), OUTSIDE);
        T.bounds("copy(1, 0, 0, 0, v)", TWO, 0, 5, (x, v) -> x.copy(1, 0, 0, 0, v), OUTSIDE);
        T.bounds("copy(0, v, 1, 0, 0)", TWO, 0, 5, (x, v) -> x.copy(0, v, 1, 0, 0), OUTSIDE);
        T.bounds("copy(0, 0, 1, v, 0)", TWO, 0, 8, (x, v) -> x.copy(0, 0, 1, v, 0), OUTSIDE);
        T.bounds("copy(0, 5, 1, 8, v)", TWO, 0, 0, (x, v) -> x.copy(0, 5, 1, 8, v), OUTSIDE);
        T.bounds("copy(0, 1, 1, 1, v)", TWO, 0, 4, (x, v) -> x.copy(0, 1, 1, 1, v), OUTSIDE);
        T.bounds("copy(3, v, 3, 0, 1)", Twins.FULL, 0, 39, (x, v) -> x.copy(3, v, 3, 0, 1), OUTSIDE);
        T.asked("n below 0 with much room", TWO, x -> x.copy(0, 3, 1, 3, -1), OUTSIDE);
        T.asked("i and n that would wrap", TWO, x -> x.copy(0, MAX, 1, 0, MAX), OUTSIDE);
        T.asked("j and n that would wrap", TWO, x -> x.copy(0, 0, 1, MAX, MAX), OUTSIDE);
        T.asked("i less n that would wrap", TWO, x -> x.copy(0, MIN, 1, MIN, MIN), OUTSIDE);
        T.asked("of no items, one", Twins.SOME, x -> x.copy(2, 0, 2, 0, 1), OUTSIDE);
        T.asked("of no items, none", Twins.SOME, x -> x.copy(2, 0, 2, 0, 0), 0);
        T.asked("of no items, none behind them", Twins.SOME, x -> x.copy(2, 1, 2, 0, 0), OUTSIDE);
    }

    private static void copyIsAsTheyWere() {
        C.sentence("n numbers of a SHEET, from item i on, come to another one's item j on (as they were): n.");
        EdgesOff x = Twins.made(TWO);
        C.due("copy(0, 0, 1, 3, 5)", x.copy(0, 0, 1, 3, 5), 5);
        items("the other one", x, 1, 0, 11, 12, 13, 5, 7, 9, 1, 2);
        items("the one", x, 0, 0, 5, 7, 9, 1, 2);
        EdgesOff y = Twins.made(TWO);
        C.due("copy(1, 0, 1, 1, 7), on by 1", y.copy(1, 0, 1, 1, 7), 7);
        items("one copied on by 1", y, 1, 0, 11, 11, 12, 13, 14, 15, 16, 17);
        C.due("copy(1, 1, 1, 0, 7), back by 1", y.copy(1, 1, 1, 0, 7), 7);
        items("one copied back by 1", y, 1, 0, 11, 12, 13, 14, 15, 16, 17, 17);
        C.due("copy(1, 0, 1, 0, 8), to where they are", y.copy(1, 0, 1, 0, 8), 8);
        items("one copied to where it is", y, 1, 0, 11, 12, 13, 14, 15, 16, 17, 17);
        C.due("copy(1, 8, 0, 5, 0), none at the ends", y.copy(1, 8, 0, 5, 0), 0);
        EdgesOff z = Twins.made(Twins.FULL);
        z.sheet(1, 2, 40);
        C.due("copy(2, 0, 1, 0, 40), all", z.copy(2, 0, 1, 0, 40), 40);
        C.due("its last", item(z, 1, 2, 39), 8);
    }

    private static void copyRefusesTheFirstThatIsNamed() {
        C.sentence("-13 a thing of another sort or KIND, -14 a size below 0");
        T.asked("no such SHEET, the other missing", Twins.SOME, x -> x.copy(4, 0, 3, 0, -1), BAD);
        T.asked("a missing one, no such other", Twins.SOME, x -> x.copy(3, 0, -1, 0, -1), BAD);
        T.asked("a missing one, outside", Twins.SOME, x -> x.copy(3, -1, 0, 0, -1), NOTHING);
        T.asked("the other missing, outside", Twins.SOME, x -> x.copy(0, 99, 3, 99, 99), NOTHING);
        T.asked("unlike sorts, n below 0", Twins.SOME, x -> x.copy(0, 0, 1, 0, -1), UNLIKE);
        T.asked("unlike sorts, outside", Twins.SOME, x -> x.copy(1, 99, 0, 99, 1), UNLIKE);
    }

    // ---- finds

    private static void findsHasBounds() {
        C.sentence("BAD: no such SHEET, sort, n; -13; -11; -12: what stood ahead came.");
        T.bounds("finds(v, 0, 0, 0)", Twins.SOME, 0, 3, (x, v) -> x.finds(v, 0, 0, 0), BAD);
        T.bounds("finds(1, v, 0, 0)", Twins.SOME, 0, 2, (x, v) -> x.finds(1, v, 0, 0), BAD);
        T.bounds("finds(1, 1, 0, v)", Twins.SOME, 0, 8, (x, v) -> x.finds(1, 1, 0, v), BAD);
        T.bounds("finds(1, 1, v, 1)", Twins.SOME, 0, 4, (x, v) -> x.finds(1, 1, v, 1), OUTSIDE);
        T.asked("finds(0, 1, 0, 1) of bytes", Twins.SOME, x -> x.finds(0, 1, 0, 1), UNLIKE);
        T.asked("finds(0, 2, 0, 1) of bytes", Twins.SOME, x -> x.finds(0, 2, 0, 1), UNLIKE);
        T.asked("finds(1, 0, 0, 1) of shorts", Twins.SOME, x -> x.finds(1, 0, 0, 1), UNLIKE);
        T.asked("finds(1, 2, 0, 1) of shorts", Twins.SOME, x -> x.finds(1, 2, 0, 1), UNLIKE);
        T.asked("finds(2, 0, 0, 0) of ints", Twins.SOME, x -> x.finds(2, 0, 0, 0), UNLIKE);
        T.asked("finds(2, 1, 0, 0) of ints", Twins.SOME, x -> x.finds(2, 1, 0, 0), UNLIKE);
        for (int sort = 0; sort <= 2; sort++) {
            int of = sort;
            T.asked("finds(3, " + sort + ", 0, 1) of a missing one", Twins.SOME, x -> x.finds(3, of, 0, 1), NOTHING);
        }
        T.asked("finds(1, 1, 0, 0), none", Twins.SOME, x -> x.finds(1, 1, 0, 0), 0);
        T.asked("finds(2, 2, 0, 0), none of no items", Twins.SOME, x -> x.finds(2, 2, 0, 0), 0);
        T.asked("finds(2, 2, 0, 1) of no items", Twins.SOME, x -> x.finds(2, 2, 0, 1), OUTSIDE);
        T.asked("finds(1, 1, 99, 0), none behind the end", Twins.SOME, x -> x.finds(1, 1, 99, 0), 0);
    }

    private static void findsFourByFour() {
        C.sentence("from one on, four by four (as of piece()), n of them (0 .. 8): how many came");
        for (int from = 0; from <= 3; from++) {
            EdgesOff x = new EdgesOff();
            x.sheet(0, 2, 32 + from);
            for (int i = 0; i < 8; i++) {
                int[] four = {i % 6, 9 - i, 99 - i, 100 * (i % 2) + 11 - i};
                for (int k = 0; k < 4; k++) {
                    x.cell(0, from + 4 * i + k, four[k]);
                }
            }
            C.due("finds(0, 2, " + from + ", 8)", x.finds(0, 2, from, 8), 8);
            for (int i = 0; i < 8; i++) {
                int[] due = {0, 9 - i, 99 - i, 11 - i, i % 2, i % 6};
                for (int what = 1; what <= 5; what++) {
                    C.due("told(" + i + ", " + what + ")", x.told(i, what), due[what]);
                }
            }
        }
        for (int size = 4; size <= 7; size++) {
            EdgesOff x = new EdgesOff();
            x.sheet(0, 1, size);
            C.due("finds() from the last four of " + size, x.finds(0, 1, size - 4, 1), 1);
            C.due("finds() from the last three of " + size, x.finds(0, 1, size - 3, 1), OUTSIDE);
        }
    }

    private static void findsLeavesOut() {
        C.sentence("how many came (others are left out)");
        int[][] bad = {{6, 0, 0, 0}, {-1, 0, 0, 0}, {0, 10, 0, 0}, {0, -1, 0, 0}, {0, 0, 100, 0}, {0, 0, -1, 0}, {0, 0, 0, 12},
            {0, 0, 0, 99}, {0, 0, 0, 112}, {0, 0, 0, 200}, {0, 0, 0, -1}, {0, 0, 0, MAX}, {MIN, 0, 0, 0}};
        for (int[] one : bad) {
            EdgesOff x = new EdgesOff();
            Check.sheet(x, 0, 2, 1, 1, 1, 1, one[0], one[1], one[2], one[3], 5, 9, 99, 111);
            C.due("finds() with one that is BAD between", x.finds(0, 2, 0, 3), 2);
            C.due("the second that came", x.told(1, 5), 5);
            C.due("its PLACE", x.told(1, 3), 11);
            C.due("finds() of the one that is BAD", x.finds(0, 2, 4, 1), 0);
        }
        for (int there = 0; there <= 8; there++) {
            EdgesOff x = new EdgesOff();
            for (int i = 0; i < there; i++) {
                x.piece(0, 0, 0, 0);
            }
            x.sheet(0, 2, 40);
            C.due("finds() of 8 with " + there + " there", x.finds(0, 2, 0, 8), 8 - there);
            C.due("count(0)", x.count(0), 8);
        }
        T.asked("finds() of 8 with 8 there", Twins.FULL, x -> x.finds(2, 2, 0, 8), 0);
    }

    private static void whatStoodAheadCame() {
        C.sentence("-12: what stood ahead came");
        for (int size = 0; size <= 31; size++) {
            EdgesOff x = new EdgesOff();
            x.sheet(0, 0, size);
            C.due("finds(0, 0, 0, 8) of " + size + " items", x.finds(0, 0, 0, 8), OUTSIDE);
            C.due("so many came", x.count(0), size / 4);
        }
        EdgesOff x = new EdgesOff();
        Check.sheet(x, 0, 0, 1, 1, 1, 1, 6, 0, 0, 0, 2, 2);
        C.due("one that came, one left out, one outside", x.finds(0, 0, 0, 3), OUTSIDE);
        C.due("one came", x.count(0), 1);
        T.asked("from below 0", Twins.SOME, y -> y.finds(1, 1, -1, 3), OUTSIDE);
        T.asked("from far below 0", Twins.SOME, y -> y.finds(1, 1, MIN, 3), OUTSIDE);
        T.asked("from -4, none of which is there", Twins.SOME, y -> y.finds(1, 1, -4, 2), OUTSIDE);
        T.asked("from the greatest int", Twins.SOME, y -> y.finds(1, 1, MAX, 8), OUTSIDE);
        T.asked("from where four more wrap", Twins.SOME, y -> y.finds(1, 1, MAX - 3, 8), OUTSIDE);
        EdgesOff z = Twins.made(Twins.FULL);
        C.due("a full shore, the 8th outside", z.finds(3, 2, 12, 8), OUTSIDE);
        C.due("a full shore, the 7th is not", z.finds(3, 2, 12, 7), 0);
    }

    private static void findsRefusesTheFirstThatIsNamed() {
        C.sentence("PIECES by a SHEET that is taken for one of a sort");
        T.asked("no such SHEET, sort nor n", Twins.SOME, x -> x.finds(4, 3, -1, 9), BAD);
        T.asked("no such sort, a missing one", Twins.SOME, x -> x.finds(3, 3, 0, 1), BAD);
        T.asked("no such n, a missing one", Twins.SOME, x -> x.finds(3, 0, 0, 9), BAD);
        T.asked("no such n, another sort", Twins.SOME, x -> x.finds(0, 1, 0, 9), BAD);
        T.asked("no such n below, another sort", Twins.SOME, x -> x.finds(0, 1, 0, -1), BAD);
        T.asked("another sort, outside", Twins.SOME, x -> x.finds(0, 1, 99, 1), UNLIKE);
        T.asked("a missing one, outside", Twins.SOME, x -> x.finds(3, 1, -1, 1), NOTHING);
    }

    // ---- taken

    private static void takenHasBounds() {
        C.sentence("BAD: k; -11: no such PIECE; -13.");
        T.bounds("taken(0, v)", Twins.SOME, 0, 5, (x, v) -> x.taken(0, v), BAD);
        T.bounds("taken(v, 0)", Twins.SOME, 0, 2, (x, v) -> x.taken(v, 0), NOTHING);
        T.bounds("taken(v, 0)", Twins.FULL, 0, 7, (x, v) -> x.taken(v, 0), NOTHING);
        T.asked("taken(2, 1): a PIECE is no GREEN", Twins.SOME, x -> x.taken(2, 1), UNLIKE);
    }

    private static void takenAlsoByOthersBetween() {
        C.sentence("A PIECE taken for one of KIND k (0 .. 5), or one under that one (also by others between): the NUMBER.");
        // for each KIND the KINDS that it may be taken for
        String[] may = {"0", "01", "02", "013", "024", "05"};
        for (int number : new int[] {0, 9}) {
            EdgesOff x = new EdgesOff();
            for (int kind = 0; kind <= 5; kind++) {
                x.piece(kind, number, 0, 0);
                for (int k = 0; k <= 5; k++) {
                    boolean isOne = may[kind].indexOf('0' + k) >= 0;
                    C.due("taken(" + kind + ", " + k + ")", x.taken(kind, k), isOne ? number : UNLIKE);
                }
            }
        }
    }

    private static void takenRefusesTheFirstThatIsNamed() {
        C.sentence("-11: no such PIECE");
        T.asked("no such KIND, no such PIECE", Twins.SOME, x -> x.taken(3, 6), BAD);
        T.asked("no such KIND below, no such PIECE below", Twins.SOME, x -> x.taken(-1, -1), BAD);
        T.asked("no such PIECE, of a bare shore", Twins.BARE, x -> x.taken(0, 5), NOTHING);
    }
}
