/** The boundary cases of what WEARS off, how far one is CARRIED and with which it CLASHES, sentence by sentence. */
public final class KindsBoundsTest {
    private static final Check C = new Check();
    private static final int PIECE = 0, GREEN = 1, BROWN = 2, GRACE = 3, JUDAS = 4, FRESH = 5;

    public static void main(String[] args) {
        pieceWears();
        greenWearsByOthers();
        brownWearsHalf();
        graceWearsTwiceBelow20();
        judasWearsIfTheTideIsOdd();
        freshWearsUpTo50();
        wearsHasBounds();
        greenIsCarriedByNumber();
        brownIsCarriedBack();
        graceIsCarriedIfNotRound();
        judasIsCarriedBySide();
        freshIsNotCarried();
        carriesHasBounds();
        yesIsWhatIsNot0();
        pieceClashesAcross();
        greenClashesByNumber();
        brownClashesWithRoundOnes();
        graceNeverClashes();
        judasClashesByTheTide();
        freshClashesButWithFresh();
        C.end();
    }

    /** What WEARS off a PIECE of a KIND and SHARP at PLACE 5 in a TIDE, so many others being there. */
    private static int worn(int kind, String wears, int sharp, int tide, int others) {
        EdgesOff x = Check.under(wears, "1", "1");
        x.set(0, 0, tide);
        x.piece(kind, 0, sharp, 5);
        for (int i = 0; i < others; i++) {
            x.piece(0, 0, 0, 105);
        }
        return x.told(0, 6);
    }

    /** How far a PIECE of a KIND is CARRIED. */
    private static int on(int kind, String carries, int number, int sharp, int side) {
        EdgesOff x = Check.under("1", carries, "1");
        x.piece(kind, number, sharp, 100 * side);
        return x.carried(0);
    }

    /** Whether one of a KIND, SHARP 9, NUMBER 4, SIDE 0 CLASHES with this other one in a TIDE. */
    private static int clashes(int kind, String yes, int tide, int otherKind, int otherNumber, int otherSharp, int otherSide) {
        EdgesOff x = Check.under("1", "1", yes);
        x.set(0, 0, tide);
        x.piece(kind, 4, 9, 3);
        x.piece(otherKind, otherNumber, otherSharp, otherSide * 100 + 7);
        return x.told(0, 7) >> 1;
    }

    private static void pieceWears() {
        C.sentence("PIECE: v; GREEN: 1 more for each other one than a PIECE");
        for (int tide : new int[] {0, 1, 998, 999}) {
            for (int sharp : new int[] {0, 1, 19, 20, 50, 51, 99}) {
                C.due("PIECE of SHARP " + sharp + " in TIDE " + tide, worn(PIECE, "7", sharp, tide, 7), 7);
            }
        }
    }

    private static void greenWearsByOthers() {
        C.sentence("GREEN: 1 more for each other one than a PIECE");
        for (int others = 0; others <= 7; others++) {
            C.due("GREEN with " + others + " others", worn(GREEN, "7", 10, 0, others), 7 + others);
        }
        EdgesOff x = new EdgesOff();
        x.piece(GREEN, 0, 10, 0);
        x.piece(GREEN, 0, 10, 11);
        x.piece(GREEN, 0, 10, 1);
        C.due("GREEN at 0, others at 11 and at 1", x.told(0, 6), 2);
        C.due("GREEN at 11, another at 0", x.told(1, 6), 2);
    }

    private static void brownWearsHalf() {
        C.sentence("Quotients are cut toward 0.");
        int[] halves = {0, 0, 1, 1, 2, 2};
        for (int v = 0; v < halves.length; v++) {
            C.due("BROWN by " + v, worn(BROWN, "" + v, 10, 0, 7), halves[v]);
        }
        C.due("BROWN by 98", worn(BROWN, "98", 10, 0, 0), 49);
        C.due("BROWN by 99", worn(BROWN, "99", 10, 0, 0), 49);
    }

    private static void graceWearsTwiceBelow20() {
        C.sentence("GRACE: twice a GREEN's, if SHARP is below 20, else as a GREEN");
        C.due("GRACE of SHARP 0", worn(GRACE, "7", 0, 0, 3), 20);
        C.due("GRACE of SHARP 19", worn(GRACE, "7", 19, 0, 3), 20);
        C.due("GRACE of SHARP 20", worn(GRACE, "7", 20, 0, 3), 10);
        C.due("GRACE of SHARP 99", worn(GRACE, "7", 99, 0, 3), 10);
    }

    private static void judasWearsIfTheTideIsOdd() {
        C.sentence("JUDAS: as a BROWN, but 0, if TIDE is even");
        int[] tides = {0, 1, 2, 3, 998, 999};
        for (int tide : tides) {
            C.due("JUDAS in TIDE " + tide, worn(JUDAS, "7", 10, tide, 0), tide % 2 == 0 ? 0 : 3);
        }
        EdgesOff x = Check.under("8", "0", "1");
        x.piece(JUDAS, 0, 40, 0);
        x.set(0, 0, 999);
        C.due("JUDAS in thought, behind TIDE 999", x.run(0, 1, 0), 36);
        C.due("JUDAS in thought, behind TIDE 1000", x.run(0, 2, 0), 36);
        C.due("JUDAS in thought, behind TIDE 1001", x.run(0, 3, 0), 32);
    }

    private static void freshWearsUpTo50() {
        C.sentence("FRESH: 0, if SHARP is above 50, else as a PIECE.");
        C.due("FRESH of SHARP 0", worn(FRESH, "7", 0, 0, 3), 7);
        C.due("FRESH of SHARP 50", worn(FRESH, "7", 50, 0, 3), 7);
        C.due("FRESH of SHARP 51", worn(FRESH, "7", 51, 0, 3), 0);
        C.due("FRESH of SHARP 99", worn(FRESH, "7", 99, 0, 3), 0);
    }

    private static void wearsHasBounds() {
        C.sentence("(0 .. 99, else the bound: laid once, on what comes out.)");
        C.due("GREEN by 98 with 1 other", worn(GREEN, "98", 10, 0, 1), 99);
        C.due("GREEN by 98 with 2 others", worn(GREEN, "98", 10, 0, 2), 99);
        C.due("GREEN by 92 with 7 others", worn(GREEN, "92", 10, 0, 7), 99);
        C.due("GREEN by 91 with 7 others", worn(GREEN, "91", 10, 0, 7), 98);
        C.due("GREEN by 99 with 7 others", worn(GREEN, "99", 10, 0, 7), 99);
        C.due("GRACE by 49", worn(GRACE, "49", 19, 0, 0), 98);
        C.due("GRACE by 50", worn(GRACE, "50", 19, 0, 0), 99);
        C.due("GRACE by 49 with 1 other", worn(GRACE, "49", 19, 0, 1), 99);
        C.due("GRACE by 99 with 7 others", worn(GRACE, "99", 19, 0, 7), 99);
        C.sentence("wears (0 .. 99, else the bound), carries (-99 .. 99, else the bound), clashes.");
        int[] kinds = {PIECE, FRESH};
        for (int kind : kinds) {
            C.due("by 0", worn(kind, "0", 10, 1, 0), 0);
            C.due("by -1", worn(kind, "-1", 10, 1, 0), 0);
            C.due("by 99", worn(kind, "99", 10, 1, 0), 99);
            C.due("by 100", worn(kind, "100", 10, 1, 0), 99);
            C.due("by 9999", worn(kind, "9999", 10, 1, 0), 99);
            C.due("by the greatest int", worn(kind, TextsBoundsTest.GREATEST, 10, 1, 0), 99);
            C.due("by the least int", worn(kind, TextsBoundsTest.GREATEST + "+1", 10, 1, 0), 0);
        }
        C.due("BROWN by 100", worn(BROWN, "100", 10, 1, 0), 49);
        C.due("JUDAS by 100", worn(JUDAS, "100", 10, 1, 0), 49);
        C.due("GREEN by -1 with 1 other", worn(GREEN, "-1", 10, 1, 1), 1);
        C.due("GRACE by -1 with 1 other", worn(GRACE, "-1", 10, 1, 1), 2);
    }

    private static void greenIsCarriedByNumber() {
        C.sentence("GREEN: NUMBER more than a PIECE");
        C.due("PIECE of NUMBER 9", on(PIECE, "5", 9, 1, 1), 5);
        C.due("GREEN of NUMBER 0", on(GREEN, "5", 0, 1, 1), 5);
        C.due("GREEN of NUMBER 9", on(GREEN, "5", 9, 1, 1), 14);
        C.due("GREEN of NUMBER 9 that is ROUND", on(GREEN, "5", 9, 0, 1), 14);
        C.due("GREEN of NUMBER 9, by -5", on(GREEN, "-5", 9, 1, 1), 4);
    }

    private static void brownIsCarriedBack() {
        C.sentence("BROWN: 0 less a PIECE's");
        C.due("BROWN by 0", on(BROWN, "0", 9, 1, 1), 0);
        C.due("BROWN by 99", on(BROWN, "99", 9, 1, 1), -99);
        C.due("BROWN by -99", on(BROWN, "-99", 9, 1, 1), 99);
    }

    private static void graceIsCarriedIfNotRound() {
        C.sentence("GRACE: as a GREEN, if it is not ROUND, else 0");
        C.due("GRACE of SHARP 0", on(GRACE, "5", 9, 0, 1), 0);
        C.due("GRACE of SHARP 1", on(GRACE, "5", 9, 1, 1), 14);
        C.due("GRACE of SHARP 99", on(GRACE, "5", 0, 99, 0), 5);
    }

    private static void judasIsCarriedBySide() {
        C.sentence("JUDAS: 6 more than a BROWN, if SIDE is 1, else as a BROWN");
        C.due("JUDAS of SIDE 1", on(JUDAS, "5", 9, 1, 1), 1);
        C.due("JUDAS of SIDE 0", on(JUDAS, "5", 9, 1, 0), -5);
        C.due("JUDAS of SIDE 1 by 0", on(JUDAS, "0", 9, 0, 1), 6);
    }

    private static void freshIsNotCarried() {
        C.sentence("FRESH: 0. CLASHES");
        C.due("FRESH of SHARP 99", on(FRESH, "5", 9, 99, 1), 0);
        C.due("FRESH of SHARP 0", on(FRESH, "-5", 9, 0, 0), 0);
    }

    private static void carriesHasBounds() {
        C.sentence("carries (-99 .. 99, else the bound)");
        String[] by = {"99", "100", "9999", TextsBoundsTest.GREATEST, "-99", "-100", "-9999", TextsBoundsTest.GREATEST + "+1"};
        for (int i = 0; i < by.length; i++) {
            int v = i < 4 ? 99 : -99;
            C.due("PIECE by " + by[i], on(PIECE, by[i], 9, 1, 1), v);
            C.due("GREEN by " + by[i], on(GREEN, by[i], 9, 1, 1), v + 9);
            C.due("BROWN by " + by[i], on(BROWN, by[i], 9, 1, 1), -v);
            C.due("GRACE by " + by[i], on(GRACE, by[i], 9, 1, 1), v + 9);
            C.due("JUDAS by " + by[i], on(JUDAS, by[i], 9, 1, 1), 6 - v);
            C.due("FRESH by " + by[i], on(FRESH, by[i], 9, 1, 1), 0);
        }
        C.due("PIECE by 98", on(PIECE, "98", 9, 1, 1), 98);
        C.due("PIECE by -98", on(PIECE, "-98", 9, 1, 1), -98);
    }

    private static void yesIsWhatIsNot0() {
        C.sentence("CLASHES (with another one, clashes telling yes, if it isn't 0)");
        String[] yes = {"1", "2", "-1", "9999", TextsBoundsTest.GREATEST, TextsBoundsTest.GREATEST + "+1"};
        for (String text : yes) {
            C.due("by " + text, clashes(PIECE, text, 1, PIECE, 4, 9, 1), 1);
        }
        for (String text : new String[] {"0", "1-1", "4096*4096*256", "-0"}) {
            C.due("by " + text, clashes(PIECE, text, 1, PIECE, 4, 9, 1), 0);
        }
    }

    private static void pieceClashesAcross() {
        C.sentence("PIECE: if yes, and the SIDES are not the same");
        C.due("of unlike SIDES", clashes(PIECE, "1", 0, PIECE, 4, 9, 1), 1);
        C.due("of the same SIDE", clashes(PIECE, "1", 0, PIECE, 5, 0, 0), 0);
        C.due("of unlike SIDES, no", clashes(PIECE, "0", 0, PIECE, 5, 0, 1), 0);
    }

    private static void greenClashesByNumber() {
        C.sentence("GREEN: if yes, and that one's NUMBER isn't its own");
        C.due("of unlike NUMBERS", clashes(GREEN, "1", 0, PIECE, 5, 9, 0), 1);
        C.due("of the same NUMBER", clashes(GREEN, "1", 0, PIECE, 4, 0, 1), 0);
        C.due("of unlike NUMBERS, no", clashes(GREEN, "0", 0, PIECE, 5, 9, 1), 0);
    }

    private static void brownClashesWithRoundOnes() {
        C.sentence("BROWN: as a PIECE, or if that one is ROUND");
        C.due("that one is ROUND", clashes(BROWN, "0", 0, PIECE, 4, 0, 0), 1);
        C.due("that one is of SHARP 1", clashes(BROWN, "1", 0, PIECE, 4, 1, 0), 0);
        C.due("of unlike SIDES", clashes(BROWN, "1", 0, PIECE, 4, 1, 1), 1);
        C.due("of unlike SIDES, no", clashes(BROWN, "0", 0, PIECE, 4, 1, 1), 0);
        EdgesOff x = Check.under("1", "1", "0");
        x.piece(BROWN, 0, 0, 0);
        x.piece(BROWN, 0, 1, 0);
        C.due("itself ROUND, the other not", x.told(0, 7), 0);
        C.due("the other ROUND", x.told(1, 7), 1);
    }

    private static void graceNeverClashes() {
        C.sentence("GRACE: never");
        C.due("yes, all unlike, ROUND", clashes(GRACE, "1", 1, FRESH, 5, 0, 1), 0);
    }

    private static void judasClashesByTheTide() {
        C.sentence("JUDAS: as a BROWN, if TIDE modulo 3 isn't 0, else never");
        for (int tide : new int[] {0, 1, 2, 3, 4, 5, 6, 996, 997, 998, 999}) {
            int due = tide % 3 == 0 ? 0 : 1;
            C.due("that one is ROUND, in TIDE " + tide, clashes(JUDAS, "0", tide, PIECE, 4, 0, 0), due);
            C.due("of unlike SIDES, in TIDE " + tide, clashes(JUDAS, "1", tide, PIECE, 4, 1, 1), due);
            C.due("of the same SIDE, in TIDE " + tide, clashes(JUDAS, "1", tide, PIECE, 4, 1, 0), 0);
        }
    }

    private static void freshClashesButWithFresh() {
        C.sentence("FRESH: always, but with another FRESH.");
        for (int kind = PIECE; kind <= FRESH; kind++) {
            C.due("with KIND " + kind + ", no", clashes(FRESH, "0", 0, kind, 4, 9, 0), kind == FRESH ? 0 : 1);
            C.due("with KIND " + kind + ", yes", clashes(FRESH, "1", 0, kind, 5, 0, 1), kind == FRESH ? 0 : 1);
        }
    }
}
