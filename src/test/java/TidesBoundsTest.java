/** The boundary cases of promises 9 to 13 and of the TIDES and WALKS that they tell of, sentence by sentence. */
public final class TidesBoundsTest {
    private static final Check C = new Check();
    private static final Twins T = new Twins(C);
    private static final int BAD = EdgesOff.BAD, NONE = EdgesOff.NONE;

    public static void main(String[] args) {
        sharpIs0AtLeast();
        placesAreRound();
        tideIs1More();
        the999thIsTheLast();
        roundIsSharp0();
        allIsToldAhead();
        runHasBounds();
        runIsInThought();
        runPasses999();
        runTellsTogether();
        whenHasBounds();
        whenPasses999();
        allHasBounds();
        placesThatHaveAny();
        farOutOfLikeOnes();
        meetHasBounds();
        meetRefuses();
        walkRefuses();
        walkRefusesTheFirstThatIsNamed();
        hurtIsAbove30();
        hurtEachTime();
        C.end();
    }

    private static void sharpIs0AtLeast() {
        C.sentence("then SHARP is so much less (0 at least)");
        int[] due = {0, 0, 0, 0, 0, 0, 1, 2};
        EdgesOff x = Check.under("5", "1", "1");
        for (int i = 0; i < 8; i++) {
            x.piece(0, 0, i, 0);
        }
        C.due("tide()", x.tide(), 6);
        for (int i = 0; i < 8; i++) {
            C.due("SHARP " + i + " less 5", x.told(i, 2), due[i]);
        }
        EdgesOff y = Check.under("99", "1", "1");
        y.piece(0, 0, 99, 0);
        C.due("tide() that wears 99 off 99", y.tide(), 1);
        EdgesOff z = Check.under("98", "1", "1");
        z.piece(0, 0, 99, 0);
        C.due("tide() that wears 98 off 99", z.tide(), 0);
        C.due("SHARP", z.told(0, 2), 1);
    }

    private static void placesAreRound() {
        C.sentence("the PLACE is so many on, round");
        int[] by = {0, 1, 11, 12, 13, 24, 99, -1, -11, -12, -13, -24, -99};
        for (int on : by) {
            for (int place = 0; place <= 11; place++) {
                EdgesOff x = Check.under("1", "" + on, "1");
                x.piece(0, 0, 9, place);
                x.piece(2, 0, 9, place);
                x.tide();
                C.due("from " + place + ", " + on + " on", x.told(0, 3), ((place + on) % 12 + 12) % 12);
                C.due("from " + place + ", " + on + " back", x.told(1, 3), ((place - on) % 12 + 12) % 12);
            }
        }
        EdgesOff x = new EdgesOff();
        x.piece(0, 0, 9, 11);
        x.piece(2, 0, 9, 0);
        x.tide();
        C.due("behind 11", x.told(0, 3), 0);
        C.due("ahead of 0", x.told(1, 3), 11);
        EdgesOff y = Check.under("1", "99", "1");
        y.piece(1, 9, 9, 11);
        y.tide();
        C.due("a GREEN, 108 on from 11", y.told(0, 3), 11);
        EdgesOff z = Check.under("1", "-99", "1");
        z.piece(4, 0, 9, 111);
        z.tide();
        C.due("a JUDAS, 105 on from 11", z.told(0, 3), 8);
    }

    private static void tideIs1More() {
        C.sentence("TIDE is 1 more.");
        EdgesOff x = new EdgesOff();
        x.tide();
        C.due("TIDE of a bare shore", x.count(2), 1);
        x.set(0, 0, 500);
        x.tide();
        C.due("TIDE behind 500", x.told(0, 0), 501);
    }

    private static void the999thIsTheLast() {
        C.sentence("A TIDE, truly: how many are ROUND then. STATE: TIDE is 999.");
        EdgesOff x = new EdgesOff();
        x.piece(0, 0, 2, 0);
        x.piece(0, 0, 3, 0);
        x.set(0, 0, 998);
        C.due("tide() in 998", x.tide(), 1);
        C.due("TIDE", x.count(2), 999);
        C.due("tide() in 999", x.tide(), EdgesOff.STATE);
        C.due("SHARP stays", x.told(1, 2), 1);
        C.due("PLACE stays", x.told(1, 3), 1);
        x.set(0, 0, 998);
        C.due("tide() in 998 again", x.tide(), 2);
        T.asked("tide() in 999", Twins.FULL, y -> y.tide(), EdgesOff.STATE);
        T.asked("tide() in 999 of a bare shore", y -> y.set(0, 0, 999), y -> y.tide(), EdgesOff.STATE);
    }

    private static void roundIsSharp0() {
        C.sentence("ROUND: SHARP is 0.");
        EdgesOff x = new EdgesOff();
        x.piece(0, 0, 1, 0);
        C.due("all(1) of SHARP 1", x.all(1), 0);
        x.set(2, 0, 0);
        C.due("all(1) of SHARP 0", x.all(1), 1);
        EdgesOff y = new EdgesOff();
        for (int i = 0; i < 8; i++) {
            y.piece(0, 0, 0, 0);
        }
        C.due("all(1), all eight", y.all(1), 8);
        C.due("tide(), all eight", y.tide(), 8);
    }

    private static void allIsToldAhead() {
        C.sentence("A TIDE: of all it is told ahead what WEARS off, how far one is CARRIED");
        EdgesOff x = new EdgesOff();
        x.piece(0, 0, 50, 11);
        x.piece(1, 0, 50, 11);
        x.piece(1, 0, 50, 0);
        x.piece(3, 3, 1, 0);
        x.tide();
        C.due("GREEN with the first that goes on", x.told(1, 2), 47);
        C.due("GREEN with the last alone, not with those that come", x.told(2, 2), 47);
        C.due("GRACE that becomes ROUND goes on as one that is not", x.told(3, 3), 4);
    }

    private static void runHasBounds() {
        C.sentence("n TIDES: as told. BAD.");
        T.bounds("run(0, v, 0)", Twins.SOME, 0, 60, (x, v) -> x.run(0, v, 0), BAD);
        T.bounds("run(0, 1, v)", Twins.SOME, 0, 4, (x, v) -> x.run(0, 1, v), BAD);
        for (int what = 0; what <= 4; what++) {
            int of = what;
            T.bounds("run(v, 1, " + what + ")", Twins.SOME, 0, 2, (x, v) -> x.run(v, 1, of), BAD);
            C.due("run(8, 0, " + what + ") of eight", Twins.made(Twins.FULL).run(8, 0, what), BAD);
        }
    }

    private static void runIsInThought() {
        C.sentence("n TIDES (0 .. 60), in thought");
        EdgesOff x = Check.under("1", "1", "1");
        x.piece(0, 0, 61, 11);
        int[] behind0 = {61, 11, 61, 0, 1};
        int[] behind60 = {1, 11, 1, 0, 1};
        for (int what = 0; what <= 4; what++) {
            C.due("run(0, 0, " + what + ")", x.run(0, 0, what), behind0[what]);
            C.due("run(0, 60, " + what + ")", x.run(0, 60, what), behind60[what]);
        }
        x.set(2, 0, 60);
        C.due("run(0, 60, 3), ROUND behind 60", x.run(0, 60, 3), 1);
        C.due("run(0, 59, 3)", x.run(0, 59, 3), 0);
        for (int what = 0; what <= 4; what++) {
            int of = what;
            T.asked("run(2, 60, " + what + ")", Twins.SOME, y -> y.run(2, 60, of), Twins.made(Twins.SOME).run(2, 60, what));
        }
    }

    private static void runPasses999() {
        C.sentence("(there TIDE may pass 999)");
        EdgesOff x = Check.under("tide-999", "0", "1");
        x.piece(0, 0, 99, 0);
        x.set(0, 0, 999);
        int[] due = {99, 99, 98, 96, 93};
        for (int n = 0; n < due.length; n++) {
            C.due("run(0, " + n + ", 0)", x.run(0, n, 0), due[n]);
        }
        EdgesOff y = Check.under("tide=1058", "0", "1");
        y.piece(0, 0, 99, 0);
        y.set(0, 0, 999);
        C.due("the 60th TIDE is 1058, ahead of it", y.run(0, 59, 0), 99);
        C.due("the 60th TIDE is 1058", y.run(0, 60, 0), 98);
        C.due("TIDE stays", y.count(2), 999);
    }

    private static void runTellsTogether() {
        C.sentence("SHARP of one (what 0), PLACE (1), SHARP of all, together (2), how many are ROUND (3), how many PLACES have any (4).");
        EdgesOff x = Check.under("1", "place=0", "1");
        for (int i = 0; i < 8; i++) {
            x.piece(0, 0, 99, i);
        }
        C.due("SHARP together, the most", x.run(0, 0, 2), 792);
        C.due("SHARP together then", x.run(0, 1, 2), 784);
        C.due("PLACES, eight", x.run(0, 0, 4), 8);
        C.due("PLACES, the first comes to the second", x.run(0, 1, 4), 7);
        C.due("PLACE of the first", x.run(0, 2, 1), 1);
        C.due("PLACE of the last", x.run(7, 2, 1), 7);
        x.set(2, 7, 1);
        C.due("SHARP of the last", x.run(7, 1, 0), 0);
        C.due("ROUND", x.run(0, 1, 3), 1);
    }

    private static void whenHasBounds() {
        C.sentence("WHEN: behind how many TIDES (0 .. 60) all are ROUND (no PIECES: 0); NONE.");
        C.due("all(0) of none", new EdgesOff().all(0), 0);
        EdgesOff x = Check.under("1", "1", "1");
        x.piece(0, 0, 0, 0);
        x.piece(0, 0, 0, 0);
        int[][] sharpAndDue = {{0, 0}, {1, 1}, {59, 59}, {60, 60}, {61, NONE}, {99, NONE}};
        for (int[] one : sharpAndDue) {
            x.set(2, 1, one[0]);
            C.due("all(0) of SHARP " + one[0], x.all(0), one[1]);
        }
        x.set(2, 1, 0);
        x.set(2, 0, 60);
        C.due("all(0), the first being SHARP 60", x.all(0), 60);
        EdgesOff y = Check.under("0", "1", "1");
        y.piece(0, 0, 1, 0);
        C.due("all(0), nothing worn off", y.all(0), NONE);
        T.asked("all(0)", Twins.SOME, z -> z.all(0), Twins.made(Twins.SOME).all(0));
    }

    private static void whenPasses999() {
        C.sentence("in thought (there TIDE may pass 999)");
        EdgesOff x = Check.under("(999<tide)*99", "0", "1");
        x.piece(0, 0, 99, 0);
        x.piece(5, 0, 99, 1);
        x.set(0, 0, 999);
        x.set(2, 1, 0);
        C.due("all(0)", x.all(0), 2);
        C.due("toss(0, 1)", x.toss(0, 1), 2);
        EdgesOff y = Check.under("0", "999<tide", "1");
        y.piece(0, 0, 99, 0);
        y.piece(5, 0, 99, 1);
        y.set(0, 0, 999);
        C.due("meet(0, 1)", y.meet(0, 1), 2);
    }

    private static void allHasBounds() {
        C.sentence("WHEN (what 0; NONE), how many are ROUND now (1), how many PLACES have any (2), FAR OUT (3; NONE). BAD.");
        T.bounds("all(v)", Twins.SOME, 0, 3, (x, v) -> x.all(v), BAD);
        T.bounds("all(v)", Twins.BARE, 0, 3, (x, v) -> x.all(v), BAD);
    }

    private static void placesThatHaveAny() {
        C.sentence("how many PLACES have any (2)");
        EdgesOff x = new EdgesOff();
        C.due("all(2) of none", x.all(2), 0);
        for (int i = 0; i < 8; i++) {
            x.piece(0, 0, 0, 11);
        }
        C.due("all(2), all at 11", x.all(2), 1);
        for (int i = 0; i < 8; i++) {
            x.set(3, i, i + 4);
        }
        C.due("all(2), at 4 to 11", x.all(2), 8);
    }

    private static void farOutOfLikeOnes() {
        C.sentence("FAR OUT: the PIECE APART from all others, together, most; of like ones the first; NONE.");
        EdgesOff x = new EdgesOff();
        C.due("all(3) of none", x.all(3), NONE);
        x.piece(0, 0, 0, 5);
        C.due("all(3) of one", x.all(3), 0);
        x.piece(0, 0, 0, 11);
        C.due("all(3) of two", x.all(3), 0);
        x.piece(0, 0, 0, 0);
        C.due("all(3) of three: 11, 7, 6 together", x.all(3), 0);
        x.piece(0, 0, 0, 6);
        // at 5, 11, 0, 6: each is 5, 6 and 1 from the others
        C.due("all(3) of four that are like", x.all(3), 0);
        x.set(3, 0, 6);
        x.set(3, 2, 6);
        C.due("all(3), the second alone", x.all(3), 1);
        x.set(3, 1, 6);
        C.due("all(3), all at one PLACE", x.all(3), 0);
        x.set(3, 3, 7);
        C.due("all(3), the last", x.all(3), 3);
    }

    private static void meetHasBounds() {
        C.sentence("MEET (two): behind how many TIDES (0 .. 60) they are at one PLACE first; NONE.");
        // one goes on from the TIDE of this number on, the other stays; 12 TIDES bring it round
        int[][] tideAndDue = {{0, 11}, {1, 12}, {48, 59}, {49, 60}, {50, NONE}};
        for (int[] one : tideAndDue) {
            EdgesOff x = Check.under("0", "not tide<" + one[0], "1");
            x.piece(0, 0, 9, 0);
            x.piece(5, 0, 9, 11);
            C.due("meet(0, 1), on from " + one[0], x.meet(0, 1), one[1]);
            C.due("meet(1, 0), on from " + one[0], x.meet(1, 0), one[1]);
        }
        EdgesOff x = new EdgesOff();
        x.piece(0, 0, 9, 3);
        x.piece(5, 0, 9, 3);
        C.due("meet(0, 1), there already", x.meet(0, 1), 0);
        x.set(3, 1, 2);
        C.due("meet(0, 1), all the way round", x.meet(0, 1), 11);
        T.asked("meet(0, 1)", Twins.SOME, y -> y.meet(0, 1), Twins.made(Twins.SOME).meet(0, 1));
    }

    private static void meetRefuses() {
        C.sentence("BAD: no such two, one and the same; NONE.");
        T.bounds("meet(0, v)", Twins.SOME, 1, 2, (x, v) -> x.meet(0, v), BAD);
        T.bounds("meet(v, 0)", Twins.SOME, 1, 2, (x, v) -> x.meet(v, 0), BAD);
        T.asked("meet(2, 2)", Twins.SOME, x -> x.meet(2, 2), BAD);
        T.asked("meet(3, 3), none such", Twins.SOME, x -> x.meet(3, 3), BAD);
        C.holds("meet(0, 7) of eight", Twins.made(Twins.FULL).meet(0, 7) != BAD);
        C.due("meet(0, 8) of eight", Twins.made(Twins.FULL).meet(0, 8), BAD);
        C.due("meet(8, 0) of eight", Twins.made(Twins.FULL).meet(8, 0), BAD);
    }

    private static Twins.Made places(int sort, int... places) {
        return x -> {
            Twins.SOME.by(x);
            Check.sheet(x, 1, sort, places);
        };
    }

    private static void walkRefuses() {
        C.sentence("HURT by a WALK. BAD: SHEET; -11; BAD: it tells no PLACE.");
        T.bounds("walk(v)", Twins.FULL, 0, 3, (x, v) -> x.walk(v), BAD);
        T.asked("walk(3) of a missing one", Twins.SOME, x -> x.walk(3), -11);
        for (int sort = 0; sort <= 2; sort++) {
            T.asked("a walk to 12", places(sort, 0, 12), x -> x.walk(1), BAD);
            T.asked("a walk from 12", places(sort, 12, 0), x -> x.walk(1), BAD);
            T.asked("a walk to -1", places(sort, 0, -1, 0), x -> x.walk(1), BAD);
            T.asked("a walk from 0 to 11", places(sort, 0, 11), x -> x.walk(1), 0);
            T.asked("a walk of no PLACES", places(sort), x -> x.walk(1), 0);
        }
        T.asked("a walk to the least int", places(2, 0, Integer.MIN_VALUE), x -> x.walk(1), BAD);
        T.asked("a walk to the greatest int", places(2, 0, Integer.MAX_VALUE), x -> x.walk(1), BAD);
        T.asked("a walk that hurts and goes to 12", places(2, 5, 5, 12), x -> x.walk(1), BAD);
        EdgesOff x = new EdgesOff();
        x.sheet(0, 2, 40);
        x.cell(0, 39, 12);
        C.due("a walk of 40, the last to 12", x.walk(0), BAD);
        x.cell(0, 39, 11);
        C.due("a walk of 40, the last to 11", x.walk(0), 0);
    }

    private static void walkRefusesTheFirstThatIsNamed() {
        C.sentence("Refusals, the first that the call's words name");
        C.due("walk(4) of a bare shore: no SHEET, and nothing there", new EdgesOff().walk(4), BAD);
        C.due("walk(-1) of a bare shore", new EdgesOff().walk(-1), BAD);
        C.due("walk(0) of a bare shore", new EdgesOff().walk(0), -11);
    }

    private static void hurtIsAbove30() {
        C.sentence("how many times a PLACE has any of SHARP above 30");
        EdgesOff x = new EdgesOff();
        x.piece(0, 0, 30, 11);
        Check.sheet(x, 0, 0, 11);
        C.due("SHARP 30", x.walk(0), 0);
        x.set(2, 0, 31);
        C.due("SHARP 31", x.walk(0), 1);
        x.set(2, 0, 99);
        C.due("SHARP 99", x.walk(0), 1);
        x.set(3, 0, 0);
        C.due("behind 11", x.walk(0), 0);
        x.piece(0, 0, 99, 0);
        Check.sheet(x, 0, 0, 0);
        C.due("two at one PLACE hurt once", x.walk(0), 1);
    }

    private static void hurtEachTime() {
        C.sentence("(each time it is come to)");
        EdgesOff x = new EdgesOff();
        x.piece(0, 0, 0, 7);
        x.piece(0, 0, 31, 7);
        Check.sheet(x, 0, 0, 7, 7, 6, 7, 8);
        C.due("three times", x.walk(0), 3);
        x.sheet(1, 2, 40);
        for (int i = 0; i < 40; i++) {
            x.cell(1, i, 7);
        }
        C.due("forty times", x.walk(1), 40);
        C.due("forty times again: nothing was worn", x.walk(1), 40);
    }
}
