/** The boundary cases of promises 1 to 5 and of the terms that they use, sentence by sentence. */
public final class PiecesBoundsTest {
    private static final Check C = new Check();
    private static final Twins T = new Twins(C);
    private static final int MIN = Integer.MIN_VALUE, MAX = Integer.MAX_VALUE;
    private static final int BAD = EdgesOff.BAD;

    public static void main(String[] args) {
        constants();
        aBareShoreTellsNothing();
        aBareShoreHasNoPiece();
        theTideHasBounds();
        ofDoesNotMatterToTheTide();
        eightPiecesAtMost();
        kindsHaveBounds();
        valuesHaveBounds();
        whereHasBounds();
        setAnswersWhatItWas();
        setRefuses();
        badIsAheadOfFull();
        toldRefuses();
        toldOfAPlace();
        toldOfClashesHasNoBitOfItsOwn();
        carriedRefuses();
        apartIsTheLesserWay();
        calledUpTo512Times();
        C.end();
    }

    private static void constants() {
        C.sentence("NONE is -1; NO, where a long is answered, -4611686018427387904.");
        C.due("NONE", EdgesOff.NONE, -1);
        C.due("NO", EdgesOff.NO, -4611686018427387904L);
        C.sentence("BAD (-2: a number is none such or not as told), STATE (-3), FULL (-4)");
        C.due("BAD", EdgesOff.BAD, -2);
        C.due("STATE", EdgesOff.STATE, -3);
        C.due("FULL", EdgesOff.FULL, -4);
    }

    private static void aBareShoreTellsNothing() {
        C.sentence("A bare shore.");
        EdgesOff x = new EdgesOff();
        int[] counts = {0, 0, 0, 1, 0, 0};
        for (int what = 0; what < counts.length; what++) {
            C.due("count(" + what + ")", x.count(what), counts[what]);
        }
        int[] all = {0, 0, 0, -1};
        int[] jars = {0, 0, -1, 0};
        for (int what = 0; what <= 3; what++) {
            C.due("all(" + what + ")", x.all(what), all[what]);
            C.due("jars(" + what + ")", x.jars(what), jars[what]);
        }
        for (int place = 0; place <= 11; place++) {
            C.due("told(" + place + ", 8)", x.told(place, 8), 0);
        }
        C.due("twos(6)", x.twos(6), 0);
        C.due("mean(0)", x.mean(0), EdgesOff.NO);
        C.due("mean(1)", x.mean(1), EdgesOff.NO);
        C.due("drawn(7, 40)", x.drawn(7, 40), 0);
        C.due("chance(7, 20, 0, 0): none are 0 or more", x.chance(7, 20, 0, 0), 1);
        C.due("chance(7, 20, 1, 0)", x.chance(7, 20, 1, 0), 0);
        C.due("chance(7, 20, 1, 1)", x.chance(7, 20, 1, 1), 1);
        C.due("image()", x.image(), 0);
        C.due("back()", x.back(), 0);
        C.due("tide()", x.tide(), 0);
    }

    private static void aBareShoreHasNoPiece() {
        C.sentence("PIECES (8 at most, numbered from 0)");
        for (int what = 1; what <= 4; what++) {
            int of = what;
            T.asked("set(" + what + ", 0, 0) of none", Twins.BARE, x -> x.set(of, 0, 0), BAD);
        }
        for (int what = 1; what <= 7; what++) {
            int of = what;
            T.asked("told(0, " + what + ") of none", Twins.BARE, x -> x.told(0, of), BAD);
        }
        T.asked("carried(0) of none", Twins.BARE, x -> x.carried(0), -1000);
        T.asked("run(0, 0, 2) of none", Twins.BARE, x -> x.run(0, 0, 2), BAD);
        T.asked("meet(0, 1) of none", Twins.BARE, x -> x.meet(0, 1), BAD);
        T.asked("can(0, 1) of none", Twins.BARE, x -> x.can(0, 1), BAD);
        T.asked("toss(0, 0) of none", Twins.BARE, x -> x.toss(0, 0), BAD);
        T.asked("tells(0, 0, 7) of none", Twins.BARE, x -> x.tells(0, 0, 7), BAD);
        T.asked("film(0, 0, 0) of none", Twins.BARE, x -> x.film(0, 0, 0), BAD);
        T.asked("taken(0, 0) of none", Twins.BARE, x -> x.taken(0, 0), -11);
    }

    private static void theTideHasBounds() {
        C.sentence("TIDE (0 .. 999; 0 at first)");
        EdgesOff x = new EdgesOff();
        C.due("told(0, 0) at first", x.told(0, 0), 0);
        C.due("set(0, 0, 999)", x.set(0, 0, 999), 0);
        C.due("told(0, 0) then", x.told(0, 0), 999);
        C.due("set(0, 0, 0)", x.set(0, 0, 0), 999);
        C.due("count(2)", x.count(2), 0);
        T.bounds("set(0, 0, v)", Twins.SOME, 0, 999, (y, v) -> y.set(0, 0, v), BAD);
        T.bounds("set(0, 0, v)", Twins.FULL, 0, 999, (y, v) -> y.set(0, 0, v), BAD);
    }

    private static void ofDoesNotMatterToTheTide() {
        C.sentence("TIDE (what 0; of does not matter)");
        EdgesOff x = new EdgesOff();
        int was = 0;
        for (int of : new int[] {MIN, -1, 0, 8, MAX}) {
            C.due("set(0, " + of + ", ..)", x.set(0, of, was + 3), was);
            was += 3;
            C.due("told(" + of + ", 0)", x.told(of, 0), was);
        }
    }

    private static void eightPiecesAtMost() {
        C.sentence("A PIECE (where: 100 times the SIDE, and the PLACE): its number. BAD; FULL.");
        EdgesOff x = new EdgesOff();
        for (int i = 0; i < 8; i++) {
            C.due("piece " + i, x.piece(0, 0, 0, 0), i);
            C.due("count(0)", x.count(0), i + 1);
        }
        C.due("a ninth", x.piece(0, 0, 0, 0), EdgesOff.FULL);
        C.due("count(0)", x.count(0), 8);
        T.asked("a ninth", Twins.FULL, y -> y.piece(5, 9, 99, 111), EdgesOff.FULL);
    }

    private static void kindsHaveBounds() {
        C.sentence("0 PIECE, 1 GREEN under PIECE, 2 BROWN under PIECE, 3 GRACE under GREEN, 4 JUDAS under BROWN, 5 FRESH under PIECE");
        for (int kind = 0; kind <= 5; kind++) {
            EdgesOff x = new EdgesOff();
            C.due("piece(" + kind + ", ..)", x.piece(kind, 0, 0, 0), 0);
            C.due("told(0, 5)", x.told(0, 5), kind);
        }
        T.bounds("piece(v, 0, 0, 0)", Twins.SOME, 0, 5, (x, v) -> x.piece(v, 0, 0, 0), BAD);
    }

    private static void valuesHaveBounds() {
        C.sentence("a NUMBER (0 .. 9), SHARP (0 .. 99), a SIDE (0, 1), lie at a PLACE.");
        T.bounds("piece(0, v, 0, 0)", Twins.SOME, 0, 9, (x, v) -> x.piece(0, v, 0, 0), BAD);
        T.bounds("piece(0, 0, v, 0)", Twins.SOME, 0, 99, (x, v) -> x.piece(0, 0, v, 0), BAD);
        int[] most = {999, 9, 99, 11, 1};
        for (int what = 1; what <= 4; what++) {
            int of = what;
            T.bounds("set(" + what + ", 2, v)", Twins.SOME, 0, most[what], (x, v) -> x.set(of, 2, v), BAD);
            T.bounds("set(" + what + ", 7, v)", Twins.FULL, 0, most[what], (x, v) -> x.set(of, 7, v), BAD);
        }
        EdgesOff x = new EdgesOff();
        x.piece(0, 9, 99, 111);
        x.piece(0, 0, 0, 0);
        for (int what = 1; what <= 4; what++) {
            C.due("told(0, " + what + "), the most", x.told(0, what), most[what]);
            C.due("told(1, " + what + "), the least", x.told(1, what), 0);
        }
    }

    private static void whereHasBounds() {
        C.sentence("where: 100 times the SIDE, and the PLACE");
        for (int side = 0; side <= 1; side++) {
            for (int place = 0; place <= 11; place++) {
                EdgesOff x = new EdgesOff();
                C.due("piece(0, 0, 0, " + (100 * side + place) + ")", x.piece(0, 0, 0, 100 * side + place), 0);
                C.due("told(0, 3)", x.told(0, 3), place);
                C.due("told(0, 4)", x.told(0, 4), side);
            }
        }
        for (int where : new int[] {-1, 12, 99, 112, 199, 200, 211, -100, -89, -189, 1000, 1100, 10011, MIN, MAX, MAX - 47}) {
            T.asked("piece(0, 0, 0, " + where + ")", Twins.SOME, x -> x.piece(0, 0, 0, where), BAD);
        }
    }

    private static void setAnswersWhatItWas() {
        C.sentence("NUMBER (1), SHARP (2), PLACE (3), SIDE (4) of a PIECE becomes v: what it was. BAD.");
        int[] most = {999, 9, 99, 11, 1};
        for (int piece : new int[] {0, 7}) {
            EdgesOff x = Twins.made(Twins.FULL);
            for (int what = 1; what <= 4; what++) {
                int was = x.told(piece, what);
                C.due("set(" + what + ", " + piece + ", most)", x.set(what, piece, most[what]), was);
                C.due("set(" + what + ", " + piece + ", most) again", x.set(what, piece, most[what]), most[what]);
                C.due("set(" + what + ", " + piece + ", 0)", x.set(what, piece, 0), most[what]);
                C.due("told(" + piece + ", " + what + ")", x.told(piece, what), 0);
            }
        }
        EdgesOff x = Twins.made(Twins.FULL);
        x.set(2, 3, 1);
        EdgesOff y = Twins.made(Twins.FULL);
        for (int piece = 0; piece < 8; piece++) {
            for (int what = 1; what <= 5; what++) {
                boolean isSet = piece == 3 && what == 2;
                C.due("told(" + piece + ", " + what + "), the others stay", x.told(piece, what), isSet ? 1 : y.told(piece, what));
            }
        }
    }

    private static void setRefuses() {
        C.sentence("NUMBER (1), SHARP (2), PLACE (3), SIDE (4) of a PIECE");
        T.bounds("set(v, 0, 0)", Twins.SOME, 0, 4, (x, v) -> x.set(v, 0, 0), BAD);
        T.bounds("set(1, v, 0)", Twins.SOME, 0, 2, (x, v) -> x.set(1, v, 0), BAD);
        T.bounds("set(4, v, 0)", Twins.SOME, 0, 2, (x, v) -> x.set(4, v, 0), BAD);
        T.bounds("set(2, v, 0)", Twins.FULL, 0, 7, (x, v) -> x.set(2, v, 0), BAD);
        T.bounds("set(3, v, 0)", Twins.FULL, 0, 7, (x, v) -> x.set(3, v, 0), BAD);
        T.asked("set(5, 0, 0): KIND stays", Twins.FULL, x -> x.set(5, 0, 0), BAD);
    }

    private static void badIsAheadOfFull() {
        C.sentence("Refusals, the first that the call's words name; they change nothing");
        T.asked("a ninth of KIND 6", Twins.FULL, x -> x.piece(6, 0, 0, 0), BAD);
        T.asked("a ninth of KIND -1", Twins.FULL, x -> x.piece(-1, 0, 0, 0), BAD);
        T.asked("a ninth of NUMBER 10", Twins.FULL, x -> x.piece(0, 10, 0, 0), BAD);
        T.asked("a ninth of SHARP 100", Twins.FULL, x -> x.piece(0, 0, 100, 0), BAD);
        T.asked("a ninth at 12", Twins.FULL, x -> x.piece(0, 0, 0, 12), BAD);
        T.asked("a ninth of SIDE 2", Twins.FULL, x -> x.piece(0, 0, 0, 200), BAD);
        T.asked("a ninth at -1", Twins.FULL, x -> x.piece(0, 0, 0, -1), BAD);
    }

    private static void toldRefuses() {
        C.sentence("What 0 .. 4 as of set(), 5 KIND, 6 what WEARS off, 7 with which it CLASHES (bits) of a PIECE; 8 which are at a PLACE (bits). BAD.");
        T.bounds("told(0, v)", Twins.SOME, 0, 8, (x, v) -> x.told(0, v), BAD);
        for (int what = 1; what <= 7; what++) {
            int of = what;
            T.bounds("told(v, " + what + ")", Twins.SOME, 0, 2, (x, v) -> x.told(v, of), BAD);
            C.due("told(8, " + what + ") of eight", Twins.made(Twins.FULL).told(8, what), BAD);
        }
        T.bounds("told(v, 8)", Twins.SOME, 0, 11, (x, v) -> x.told(v, 8), BAD);
        T.bounds("told(v, 8)", Twins.BARE, 0, 11, (x, v) -> x.told(v, 8), BAD);
        for (int of : new int[] {MIN, -1, 3, 12, MAX}) {
            T.asked("told(" + of + ", 0)", Twins.SOME, x -> x.told(of, 0), 7);
        }
    }

    private static void toldOfAPlace() {
        C.sentence("8 which are at a PLACE (bits)");
        EdgesOff x = new EdgesOff();
        for (int i = 0; i < 8; i++) {
            x.piece(0, 0, 0, 11);
        }
        C.due("none at 0", x.told(0, 8), 0);
        C.due("all at 11", x.told(11, 8), 255);
        x.set(3, 7, 0);
        C.due("the last at 0", x.told(0, 8), 128);
        C.due("the others at 11", x.told(11, 8), 127);
        x.set(3, 0, 0);
        C.due("the first and the last at 0", x.told(0, 8), 129);
    }

    private static void toldOfClashesHasNoBitOfItsOwn() {
        C.sentence("7 with which it CLASHES (bits) of a PIECE");
        EdgesOff x = new EdgesOff();
        for (int i = 0; i < 8; i++) {
            x.piece(i == 7 ? 5 : 3, 0, 0, 0);
        }
        C.due("a FRESH, the last of eight", x.told(7, 7), 127);
        C.due("a GRACE", x.told(0, 7), 0);
        EdgesOff y = new EdgesOff();
        for (int i = 0; i < 8; i++) {
            y.piece(i == 0 ? 5 : 2, 0, 0, 0);
        }
        C.due("a FRESH, the first of eight", y.told(0, 7), 254);
        C.due("a BROWN that is ROUND, with all others ROUND", y.told(1, 7), 253);
        EdgesOff z = new EdgesOff();
        z.piece(2, 0, 0, 0);
        C.due("one alone", z.told(0, 7), 0);
    }

    private static void carriedRefuses() {
        C.sentence("How far a PIECE is CARRIED. -1000: none such.");
        T.bounds("carried(v)", Twins.SOME, 0, 2, (x, v) -> x.carried(v), -1000);
        T.bounds("carried(v)", Twins.FULL, 0, 7, (x, v) -> x.carried(v), -1000);
    }

    private static void apartIsTheLesserWay() {
        C.sentence("11 round: behind 11 is 0. APART: the lesser of the two ways round.");
        int[] due = {0, 1, 2, 3, 4, 5, 6, 5, 4, 3, 2, 1};
        for (int apart = 0; apart <= 7; apart++) {
            for (int one = 0; one <= 11; one++) {
                EdgesOff x = Check.under("1", "1", "apart=" + apart);
                x.piece(0, 0, 1, one);
                x.piece(0, 0, 1, 100);
                for (int other = 0; other <= 11; other++) {
                    x.set(3, 1, other);
                    boolean isSo = due[(other - one + 12) % 12] == apart;
                    C.due(one + " and " + other + " are " + apart + " APART", x.told(0, 7), isSo ? 2 : 0);
                }
            }
        }
    }

    private static void calledUpTo512Times() {
        C.sentence("An object is used for at most 512 calls after it has been made");
        EdgesOff x = new EdgesOff();
        x.piece(5, 9, 99, 111);
        for (int i = 2; i <= 511; i++) {
            C.due("call " + i, x.tide(), 0);
        }
        C.due("call 512", x.told(0, 0), 510);
        EdgesOff y = new EdgesOff();
        for (int i = 1; i <= 512; i++) {
            C.due("call " + i, y.set(0, 0, i), i - 1);
        }
    }
}
