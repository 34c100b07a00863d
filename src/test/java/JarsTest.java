/** Promises 14 to 18: jars, can, twos, toss, mean. */
public final class JarsTest {
    private static final Check C = new Check();
    private static final int MIN = Integer.MIN_VALUE, MAX = Integer.MAX_VALUE;

    public static void main(String[] args) {
        jarsOfNone();
        jarsThatAllFitInOne();
        jarsOfAllApart();
        jarsAreTheFirstWay();
        leaveOutIsTheFirst();
        canLooksBothWays();
        twosAreTheMost();
        twosRefuse();
        tossIsTheSoonest();
        tossRefuses();
        meanIsInLowestTerms();
        C.end();
    }

    private static void jars(EdgesOff x, String of, int... due) {
        for (int what = 0; what <= 3; what++) {
            C.due("jars(" + what + ") of " + of, x.jars(what), due[what]);
        }
    }

    private static void jarsOfNone() {
        EdgesOff x = new EdgesOff();
        jars(x, "none", 0, 0, -1, 0);
        for (int what : new int[] {-1, 4, MIN, MAX}) {
            C.due("jars(" + what + ")", x.jars(what), EdgesOff.BAD);
        }
    }

    private static void jarsThatAllFitInOne() {
        EdgesOff x = new EdgesOff();
        x.piece(0, 0, 5, 0);
        jars(x, "one", 1, 1, 0, 0);
        for (int i = 1; i < 8; i++) {
            x.piece(0, 0, 5, i);
        }
        jars(x, "eight of one SIDE", 1, 11111111, 0, 1);
    }

    private static void jarsOfAllApart() {
        EdgesOff x = new EdgesOff();
        for (int i = 0; i < 8; i++) {
            x.piece(1, i, 5, i);
        }
        jars(x, "eight of unlike NUMBERS", 8, 12345678, 0, 7);
    }

    private static void jarsAreTheFirstWay() {
        // PIECES 0, 2, 3, 1 lie in a row, next ones clash: the first jar with room for each would take three
        EdgesOff x = Check.under("1", "0", "apart<2");
        int[] wheres = {0, 103, 1, 102};
        for (int where : wheres) {
            x.piece(1, where % 10, 5, where);
        }
        jars(x, "a row", 2, 1221, 0, 2);
        EdgesOff y = Check.under("1", "0", "apart=1");
        for (int i = 0; i < 7; i++) {
            y.piece(1, i, 5, i < 6 ? i : 11);
        }
        jars(y, "a longer row", 2, 1212122, 0, 2);
        EdgesOff z = new EdgesOff();
        z.piece(0, 0, 5, 0);
        z.piece(5, 0, 5, 0);
        z.piece(3, 0, 5, 100);
        z.piece(5, 0, 5, 100);
        z.piece(0, 0, 5, 100);
        // the GRACE clashes with none, but PIECE 0 with it
        jars(z, "FRESH ones between", 3, 12323, 0, 2);
    }

    private static void leaveOutIsTheFirst() {
        EdgesOff x = new EdgesOff();
        x.piece(3, 0, 5, 0);
        x.piece(3, 0, 5, 0);
        x.piece(5, 0, 5, 0);
        jars(x, "two GRACE, one FRESH", 2, 112, 2, 1);
        EdgesOff y = new EdgesOff();
        y.piece(3, 0, 5, 0);
        y.piece(5, 0, 5, 0);
        jars(y, "one GRACE, one FRESH", 2, 12, 0, 1);
    }

    private static void canLooksBothWays() {
        EdgesOff x = new EdgesOff();
        x.piece(3, 0, 5, 0);
        x.piece(5, 0, 5, 0);
        x.piece(3, 1, 5, 100);
        C.due("can(0, 1)", x.can(0, 1), 0);
        C.due("can(1, 0)", x.can(1, 0), 0);
        C.due("can(0, 2)", x.can(0, 2), 1);
        C.due("count(1)", x.count(1), 2);
        C.due("can(1, 1)", x.can(1, 1), EdgesOff.BAD);
        for (int v : new int[] {-1, 3, MIN, MAX}) {
            C.due("can(0, " + v + ")", x.can(0, v), EdgesOff.BAD);
            C.due("can(" + v + ", 0)", x.can(v, 0), EdgesOff.BAD);
        }
    }

    private static void twosAreTheMost() {
        EdgesOff x = new EdgesOff();
        x.piece(0, 1, 5, 0);
        x.piece(0, 1, 5, 2);
        x.piece(0, 1, 5, 101);
        x.piece(0, 1, 5, 111);
        // greedy would give 101 to PIECE 0 and leave PIECE 1 alone
        C.due("twos(0)", x.twos(0), 0);
        C.due("twos(1)", x.twos(1), 2);
        C.due("twos(3)", x.twos(3), 2);
        x.set(1, 3, 2);
        C.due("twos of unlike NUMBERS", x.twos(6), 1);
        x.set(4, 3, 0);
        C.due("twos of one SIDE", x.twos(6), 1);
        EdgesOff y = new EdgesOff();
        for (int i = 0; i < 8; i++) {
            y.piece(0, 9, 5, i < 3 ? i : 100 + i);
        }
        C.due("twos, 3 and 5", y.twos(6), 3);
        C.due("twos, 3 and 5, near", y.twos(1), 1);
        C.due("twos, 3 and 5, 2 or less", y.twos(2), 2);
        C.due("twos of none", new EdgesOff().twos(6), 0);
    }

    private static void twosRefuse() {
        EdgesOff x = new EdgesOff();
        for (int v : new int[] {-1, 7, MIN, MAX}) {
            C.due("twos(" + v + ")", x.twos(v), EdgesOff.BAD);
        }
    }

    private static void tossIsTheSoonest() {
        EdgesOff x = Check.under("(place=7)*10+(place=9)*10+1", "0", "1");
        x.piece(0, 0, 33, 2);
        C.due("toss(0, 0)", x.toss(0, 0), 7);
        C.due("toss(0, 1)", x.toss(0, 1), 3);
        C.due("it stays where it was", x.told(0, 3), 2);
        x.set(2, 0, 0);
        C.due("toss of one ROUND", x.toss(0, 0), 0);
        C.due("toss of one ROUND, how many", x.toss(0, 1), 0);
        // others make a GREEN round sooner
        EdgesOff y = Check.under("1", "0", "1");
        y.piece(1, 0, 9, 0);
        y.piece(0, 0, 9, 11);
        y.piece(0, 0, 9, 11);
        C.due("toss of a GREEN", y.toss(0, 0), 11);
        C.due("toss of a GREEN, how many", y.toss(0, 1), 3);
        EdgesOff z = Check.under("(place=11)", "0", "1");
        z.piece(0, 0, 60, 0);
        C.due("toss, 60 TIDES", z.toss(0, 1), 60);
        C.due("toss, 60 TIDES, where", z.toss(0, 0), 11);
        z.set(2, 0, 61);
        C.due("toss, not by then", z.toss(0, 1), 61);
        C.due("toss, not by then, where", z.toss(0, 0), 0);
    }

    private static void tossRefuses() {
        EdgesOff x = new EdgesOff();
        C.due("toss of none", x.toss(0, 0), EdgesOff.BAD);
        x.piece(0, 0, 5, 0);
        for (int v : new int[] {-1, 2, MIN, MAX}) {
            C.due("toss(0, " + v + ")", x.toss(0, v), EdgesOff.BAD);
            C.due("toss(" + v + ", 0)", x.toss(v, 0), EdgesOff.BAD);
        }
        C.due("toss(1, 0)", x.toss(1, 0), EdgesOff.BAD);
    }

    private static void meanIsInLowestTerms() {
        EdgesOff x = new EdgesOff();
        C.due("mean of none", x.mean(0), EdgesOff.NO);
        x.piece(0, 0, 7, 0);
        C.due("mean of one, above", x.mean(0), 7);
        C.due("mean of one, below", x.mean(1), 1);
        x.set(2, 0, 0);
        x.piece(0, 0, 0, 0);
        C.due("mean 0, above", x.mean(0), 0);
        C.due("mean 0, below", x.mean(1), 1);
        x.set(2, 0, 99);
        C.due("mean 99 by 2, above", x.mean(0), 99);
        C.due("mean 99 by 2, below", x.mean(1), 2);
        x.set(2, 1, 51);
        C.due("mean 150 by 2, above", x.mean(0), 75);
        C.due("mean 150 by 2, below", x.mean(1), 1);
        x.piece(0, 0, 0, 0);
        x.piece(0, 0, 0, 0);
        C.due("mean 150 by 4, above", x.mean(0), 75);
        C.due("mean 150 by 4, below", x.mean(1), 2);
        for (int v : new int[] {-1, 2, MIN, MAX}) {
            C.due("mean(" + v + ")", x.mean(v), EdgesOff.NO);
        }
    }
}
