/** Promises 9 to 13: tide, run, all, meet, walk. */
public final class TidesTest {
    private static final Check C = new Check();
    private static final int MIN = Integer.MIN_VALUE, MAX = Integer.MAX_VALUE;

    public static void main(String[] args) {
        tideWearsAndCarries();
        tideIsToldAhead();
        tideHasALast();
        runThinksOnly();
        runRefuses();
        allOfNone();
        allOfSome();
        farOutIsFromAllOthers();
        whenHasABound();
        meetIsFirst();
        meetRefuses();
        walkHurts();
        walkRefuses();
        C.end();
    }

    private static void tideWearsAndCarries() {
        EdgesOff x = Check.under("10", "-13", "1");
        x.piece(0, 0, 15, 0);
        x.piece(0, 0, 10, 2);
        C.due("tide()", x.tide(), 1);
        C.due("SHARP", x.told(0, 2), 5);
        C.due("PLACE, back round", x.told(0, 3), 11);
        C.due("PLACE of the other", x.told(1, 3), 1);
        C.due("TIDE", x.count(2), 1);
        C.due("tide() again", x.tide(), 2);
        C.due("SHARP is 0 at least", x.told(0, 2), 0);
        EdgesOff bare = new EdgesOff();
        C.due("tide() of none", bare.tide(), 0);
        C.due("TIDE of none", bare.count(2), 1);
    }

    private static void tideIsToldAhead() {
        // 0 goes from 3 to 4; a GREEN at 3 still has it with it, one at 4 not yet
        EdgesOff x = new EdgesOff();
        x.piece(0, 0, 50, 3);
        x.piece(1, 0, 50, 3);
        x.piece(1, 0, 50, 4);
        x.tide();
        C.due("GREEN with the one that goes", x.told(1, 2), 47);
        C.due("GREEN where it comes to", x.told(2, 2), 48);
        EdgesOff y = new EdgesOff();
        y.piece(3, 4, 1, 0);
        y.tide();
        C.due("GRACE goes on as it was ahead", y.told(0, 3), 5);
        y.tide();
        C.due("GRACE that is ROUND stays", y.told(0, 3), 5);
    }

    private static void tideHasALast() {
        EdgesOff x = new EdgesOff();
        x.piece(0, 0, 50, 3);
        x.set(0, 0, 998);
        C.due("tide() in 998", x.tide(), 0);
        C.due("tide() in 999", x.tide(), EdgesOff.STATE);
        C.due("SHARP stays", x.told(0, 2), 48);
        C.due("PLACE stays", x.told(0, 3), 4);
        C.due("TIDE stays", x.count(2), 999);
    }

    private static void runThinksOnly() {
        EdgesOff x = Check.under("tide-998", "1", "1");
        x.set(0, 0, 999);
        x.piece(0, 0, 90, 3);
        x.piece(0, 0, 0, 4);
        C.due("in thought TIDE passes 999", x.run(0, 4, 0), 80);
        C.due("PLACE", x.run(0, 60, 1), 3);
        C.due("PLACE behind 10", x.run(1, 10, 1), 2);
        C.due("SHARP together", x.run(1, 2, 2), 87);
        C.due("ROUND", x.run(0, 2, 3), 1);
        C.due("ROUND at last", x.run(0, 60, 3), 2);
        C.due("PLACES with any", x.run(0, 60, 4), 2);
        C.due("behind none", x.run(0, 0, 0), 90);
        C.due("TIDE stays", x.count(2), 999);
        C.due("SHARP stays", x.told(0, 2), 90);
        C.due("PLACE stays", x.told(0, 3), 3);
    }

    private static void runRefuses() {
        EdgesOff x = new EdgesOff();
        C.due("run of none", x.run(0, 0, 3), EdgesOff.BAD);
        x.piece(0, 0, 9, 0);
        for (int v : new int[] {-1, 61, MIN, MAX}) {
            C.due("run(0, " + v + ", 0)", x.run(0, v, 0), EdgesOff.BAD);
            C.due("run(" + v + ", 0, 0)", x.run(v, 0, 0), EdgesOff.BAD);
            C.due("run(0, 0, " + v + ")", x.run(0, 0, v), EdgesOff.BAD);
        }
        C.due("run(0, 0, 5)", x.run(0, 0, 5), EdgesOff.BAD);
        C.due("run(1, 0, 2)", x.run(1, 0, 2), EdgesOff.BAD);
    }

    private static void allOfNone() {
        EdgesOff x = new EdgesOff();
        int[] due = {0, 0, 0, -1};
        for (int what = 0; what <= 3; what++) {
            C.due("all(" + what + ") of none", x.all(what), due[what]);
        }
        for (int what : new int[] {-1, 4, MIN, MAX}) {
            C.due("all(" + what + ")", x.all(what), EdgesOff.BAD);
        }
    }

    private static void allOfSome() {
        EdgesOff x = new EdgesOff();
        x.piece(0, 0, 7, 0);
        x.piece(0, 0, 0, 0);
        x.piece(0, 0, 9, 6);
        x.piece(0, 0, 1, 11);
        C.due("all(0)", x.all(0), 5);
        C.due("all(1)", x.all(1), 1);
        C.due("all(2)", x.all(2), 3);
        C.due("all(3)", x.all(3), 2);
        x.set(3, 2, 0);
        x.set(3, 3, 0);
        C.due("all(3) of like ones", x.all(3), 0);
        x.set(3, 0, 6);
        x.set(3, 1, 2);
        C.due("all(3), the first of them", x.all(3), 0);
        x.set(3, 0, 3);
        C.due("all(3), APART from the first too", x.all(3), 0);
        x.set(3, 0, 0);
        C.due("all(3), the second", x.all(3), 1);
        C.due("TIDE stays", x.count(2), 0);
    }

    private static void farOutIsFromAllOthers() {
        EdgesOff x = new EdgesOff();
        x.piece(0, 0, 7, 0);
        C.due("all(3) of one", x.all(3), 0);
        x.piece(0, 0, 7, 6);
        x.piece(0, 0, 7, 1);
        C.due("all(3), far from the first", x.all(3), 1);
        x.set(3, 2, 7);
        C.due("all(3), now the first", x.all(3), 0);
    }

    private static void whenHasABound() {
        EdgesOff x = Check.under("1", "0", "1");
        x.piece(0, 0, 60, 0);
        C.due("WHEN 60", x.all(0), 60);
        x.set(2, 0, 61);
        C.due("WHEN never", x.all(0), EdgesOff.NONE);
        x.set(2, 0, 0);
        C.due("WHEN now", x.all(0), 0);
    }

    private static void meetIsFirst() {
        EdgesOff x = new EdgesOff();
        x.piece(0, 0, 99, 0);
        x.piece(5, 0, 99, 11);
        x.piece(0, 0, 99, 1);
        C.due("meet(0, 1)", x.meet(0, 1), 11);
        C.due("meet(1, 0)", x.meet(1, 0), 11);
        C.due("meet(0, 2)", x.meet(0, 2), EdgesOff.NONE);
        x.set(3, 2, 0);
        C.due("meet now", x.meet(0, 2), 0);
        // on from the 49th TIDE alone: the 60th brings them together, then the 61st would
        EdgesOff y = Check.under("0", "not tide<49", "1");
        y.piece(0, 0, 99, 1);
        y.piece(5, 0, 99, 0);
        C.due("meet behind 60", y.meet(0, 1), 60);
        y.set(3, 0, 0);
        y.set(3, 1, 0);
        C.due("meet at once", y.meet(0, 1), 0);
        EdgesOff z = Check.under("0", "not tide<50", "1");
        z.piece(0, 0, 99, 1);
        z.piece(5, 0, 99, 0);
        C.due("meet behind 61", z.meet(0, 1), EdgesOff.NONE);
    }

    private static void meetRefuses() {
        EdgesOff x = new EdgesOff();
        C.due("meet of none", x.meet(0, 1), EdgesOff.BAD);
        x.piece(0, 0, 99, 0);
        x.piece(0, 0, 99, 0);
        C.due("meet(1, 1)", x.meet(1, 1), EdgesOff.BAD);
        for (int v : new int[] {-1, 2, MIN, MAX}) {
            C.due("meet(0, " + v + ")", x.meet(0, v), EdgesOff.BAD);
            C.due("meet(" + v + ", 0)", x.meet(v, 0), EdgesOff.BAD);
        }
    }

    private static void walkHurts() {
        EdgesOff x = new EdgesOff();
        x.piece(0, 0, 31, 0);
        x.piece(0, 0, 99, 0);
        x.piece(0, 0, 30, 1);
        x.piece(0, 0, 99, 11);
        Check.sheet(x, 3, 1, 0, 1, 0, 0, 11, 5, 1);
        C.due("walk(3)", x.walk(3), 4);
        Check.sheet(x, 0, 2);
        C.due("a walk of no PLACES", x.walk(0), 0);
        EdgesOff y = new EdgesOff();
        y.piece(0, 0, 31, 7);
        Check.sheet(y, 0, 0, 7);
        C.due("SHARP 31 hurts", y.walk(0), 1);
        y.set(2, 0, 30);
        C.due("SHARP 30 does not", y.walk(0), 0);
    }

    private static void walkRefuses() {
        EdgesOff x = new EdgesOff();
        for (int v : new int[] {-1, 4, MIN, MAX}) {
            C.due("walk(" + v + ")", x.walk(v), EdgesOff.BAD);
        }
        C.due("walk of a missing one", x.walk(3), -11);
        Check.sheet(x, 3, 2, 0, 12);
        C.due("walk to 12", x.walk(3), EdgesOff.BAD);
        Check.sheet(x, 3, 0, 0, 255);
        C.due("walk to -1", x.walk(3), EdgesOff.BAD);
        Check.sheet(x, 3, 2, MIN);
        C.due("walk to MIN", x.walk(3), EdgesOff.BAD);
    }
}
