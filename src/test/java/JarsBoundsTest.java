/** The boundary cases of promises 14 to 18 and of JARS, TWOS, THROW and MEAN, sentence by sentence. */
public final class JarsBoundsTest {
    private static final Check C = new Check();
    private static final Twins T = new Twins(C);
    private static final int BAD = EdgesOff.BAD, NONE = EdgesOff.NONE;
    private static final int PIECE = 0, GREEN = 1, GRACE = 3, FRESH = 5;

    public static void main(String[] args) {
        jarsHasBounds();
        jarsOfNone();
        jarsFromOneToEight();
        jarsAreTheFirstOfAsFew();
        jarsAreThoseOfNow();
        leaveOutOfLikeOnes();
        leaveOutOfOne();
        eitherClashes();
        canRefuses();
        twosHasBounds();
        twosAreNOrLessApart();
        twosAreOfEitherSideAndLikeNumber();
        twosAreTheMost();
        tossHasBounds();
        tossOfLikePlaces();
        tossHas12Places();
        tossHas60();
        tossIsAsWereItNow();
        meanHasBounds();
        meanIsInLowestTerms();
        C.end();
    }

    private static void jars(String of, EdgesOff x, int... due) {
        for (int what = 0; what <= 3; what++) {
            C.due("jars(" + what + ") of " + of, x.jars(what), due[what]);
        }
    }

    private static void jarsHasBounds() {
        C.sentence("JARS: how many (what 0), which go where (1; digits), LEAVE OUT (2; NONE), how many then (3; 0, if there are none). BAD.");
        T.bounds("jars(v)", Twins.SOME, 0, 3, (x, v) -> x.jars(v), BAD);
        T.bounds("jars(v)", Twins.BARE, 0, 3, (x, v) -> x.jars(v), BAD);
        for (int what = 0; what <= 3; what++) {
            int of = what;
            T.asked("jars(" + what + ")", Twins.FULL, x -> x.jars(of), Twins.made(Twins.FULL).jars(what));
        }
    }

    private static void jarsOfNone() {
        C.sentence("as digits (the first the highest; no PIECES: 0)");
        jars("none", new EdgesOff(), 0, 0, NONE, 0);
        EdgesOff x = new EdgesOff();
        x.image();
        x.piece(FRESH, 0, 0, 0);
        x.piece(PIECE, 0, 0, 0);
        x.jars(1);
        x.back();
        jars("none, some having been there", x, 0, 0, NONE, 0);
    }

    private static void jarsFromOneToEight() {
        C.sentence("by JAR of PIECE 0, then of PIECE 1, .., numbered from 1 on as they are first used");
        EdgesOff like = new EdgesOff();
        EdgesOff unlike = new EdgesOff();
        int ones = 0;
        int counted = 0;
        for (int i = 0; i < 8; i++) {
            like.piece(GREEN, 7, 5, 0);
            unlike.piece(GREEN, i, 5, 0);
            ones = ones * 10 + 1;
            counted = counted * 10 + i + 1;
            jars(i + 1 + " that may be together", like, 1, ones, 0, i == 0 ? 0 : 1);
            jars(i + 1 + " that may not", unlike, i + 1, counted, 0, i);
        }
    }

    private static void jarsAreTheFirstOfAsFew() {
        C.sentence("of all ways with as few the first");
        // apart by 1 means a clash: a row at 0, 3, 1, 2 that the first jar with room would fill into three
        EdgesOff x = Check.under("1", "0", "apart=1");
        int[] places = {0, 3, 1, 2};
        for (int place : places) {
            x.piece(GREEN, place, 5, place);
        }
        jars("a row out of order", x, 2, 1221, 0, 2);
        // a GRACE last, which may be in any jar, is in the first
        x.piece(GRACE, 0, 5, 9);
        C.due("jars(1) with one more that may be anywhere", x.jars(1), 12211);
        // a ring of five needs three; the first way that has three
        EdgesOff y = Check.under("1", "0", "apart=4 or apart=6 or apart=2 and (place=0 or place=10)");
        int[] ring = {0, 4, 8, 2, 10};
        for (int i = 0; i < ring.length; i++) {
            y.piece(GREEN, i, 5, ring[i]);
        }
        C.due("jars(0) of a ring and more", y.jars(0), jarsByAllWays(y, 5)[0]);
        C.due("jars(1) of a ring and more", y.jars(1), jarsByAllWays(y, 5)[1]);
    }

    private static void jarsAreThoseOfNow() {
        C.sentence("so that no two that CAN'T are in one");
        EdgesOff x = new EdgesOff();
        for (int i = 0; i < 3; i++) {
            x.piece(GREEN, i, 5, 0);
        }
        jars("three that may not be together", x, 3, 123, 0, 2);
        for (int i = 0; i < 3; i++) {
            x.set(1, i, 4);
        }
        jars("the same, now that they may", x, 1, 111, 0, 1);
        x.set(1, 2, 5);
        jars("the same, but for the last", x, 2, 112, 2, 1);
    }

    /** The fewest jars and the first way, by going through all numbers of so many digits. */
    private static int[] jarsByAllWays(EdgesOff x, int pieces) {
        boolean[][] can = new boolean[pieces][pieces];
        for (int i = 0; i < pieces; i++) {
            for (int j = 0; j < pieces; j++) {
                can[i][j] = i == j || x.can(i, j) == 1;
            }
        }
        int most = (int) Math.pow(10, pieces);
        int[] best = {99, 0};
        for (int digits = most / 10; digits < most; digits++) {
            String way = Integer.toString(digits);
            int used = used(way, can);
            if (used > 0 && used < best[0]) {
                best = new int[] {used, digits};
            }
        }
        return best;
    }

    private static int used(String way, boolean[][] can) {
        int used = 0;
        for (int i = 0; i < way.length(); i++) {
            int jar = way.charAt(i) - '0';
            if (jar < 1 || jar > used + 1) {
                return 0;
            }
            used = Math.max(used, jar);
            for (int j = 0; j < i; j++) {
                if (way.charAt(j) == way.charAt(i) && !can[i][j]) {
                    return 0;
                }
            }
        }
        return used;
    }

    private static void leaveOutOfLikeOnes() {
        C.sentence("LEAVE OUT: the PIECE without which fewest JARS are needed, of like ones the first; NONE.");
        for (int fresh = 0; fresh < 8; fresh++) {
            EdgesOff x = new EdgesOff();
            for (int i = 0; i < 8; i++) {
                x.piece(i == fresh ? FRESH : GRACE, 0, 5, 0);
            }
            C.due("jars(2), the FRESH being " + fresh, x.jars(2), fresh);
            C.due("jars(3), the FRESH being " + fresh, x.jars(3), 1);
        }
        EdgesOff x = new EdgesOff();
        for (int i = 0; i < 4; i++) {
            x.piece(i < 2 ? GRACE : FRESH, 0, 5, 0);
        }
        jars("two GRACE and two FRESH", x, 2, 1122, 0, 2);
    }

    private static void leaveOutOfOne() {
        C.sentence("how many then (3; 0, if there are none)");
        C.due("jars(3) of none", new EdgesOff().jars(3), 0);
        EdgesOff x = new EdgesOff();
        x.piece(FRESH, 0, 5, 0);
        C.due("jars(2) of one", x.jars(2), 0);
        C.due("jars(3) of one", x.jars(3), 0);
    }

    private static void eitherClashes() {
        C.sentence("Two CAN'T be in one JAR, if either CLASHES with the other.");
        EdgesOff x = Check.under("1", "1", "sharp<theirs");
        x.piece(PIECE, 0, 5, 0);
        x.piece(PIECE, 0, 6, 100);
        x.piece(PIECE, 0, 6, 0);
        C.due("told(0, 7)", x.told(0, 7), 2);
        C.due("told(1, 7)", x.told(1, 7), 0);
        C.due("can(0, 1), the first with the other", x.can(0, 1), 0);
        C.due("can(1, 0), the other with the first", x.can(1, 0), 0);
        C.due("can(1, 2), neither", x.can(1, 2), 1);
        C.due("can(0, 2), of the same SIDE", x.can(0, 2), 1);
        C.due("count(1)", x.count(1), 1);
    }

    private static void canRefuses() {
        C.sentence("Whether two CAN be in one JAR (1, 0). BAD: no such two, one and the same.");
        T.bounds("can(0, v)", Twins.SOME, 1, 2, (x, v) -> x.can(0, v), BAD);
        T.bounds("can(v, 0)", Twins.SOME, 1, 2, (x, v) -> x.can(v, 0), BAD);
        T.bounds("can(7, v)", Twins.FULL, 0, 6, (x, v) -> x.can(7, v), BAD);
        T.asked("can(2, 2)", Twins.SOME, x -> x.can(2, 2), BAD);
        T.asked("can(3, 3), none such", Twins.SOME, x -> x.can(3, 3), BAD);
    }

    private static void twosHasBounds() {
        C.sentence("TWOS that WERE ONE. BAD.");
        T.bounds("twos(v)", Twins.SOME, 0, 6, (x, v) -> x.twos(v), BAD);
        T.bounds("twos(v)", Twins.BARE, 0, 6, (x, v) -> x.twos(v), BAD);
        T.bounds("twos(v)", Twins.FULL, 0, 6, (x, v) -> x.twos(v), BAD);
        C.due("twos(0) of none", new EdgesOff().twos(0), 0);
        C.due("twos(6) of none", new EdgesOff().twos(6), 0);
    }

    private static void twosAreNOrLessApart() {
        C.sentence("that are n (0 .. 6) or less APART");
        int[] apart = {0, 1, 2, 3, 4, 5, 6, 5, 4, 3, 2, 1};
        for (int place = 0; place <= 11; place++) {
            EdgesOff x = new EdgesOff();
            x.piece(PIECE, 9, 5, 5);
            x.piece(PIECE, 9, 5, 100 + (5 + place) % 12);
            for (int n = 0; n <= 6; n++) {
                C.due("twos(" + n + ") of two " + place + " on", x.twos(n), apart[place] <= n ? 1 : 0);
            }
        }
    }

    private static void twosAreOfEitherSideAndLikeNumber() {
        C.sentence("two of either SIDE of like NUMBER");
        EdgesOff x = new EdgesOff();
        x.piece(PIECE, 9, 5, 5);
        C.due("one alone", x.twos(6), 0);
        x.piece(PIECE, 9, 5, 5);
        C.due("of the same SIDE 0", x.twos(6), 0);
        x.set(4, 0, 1);
        C.due("of either SIDE", x.twos(0), 1);
        x.set(4, 1, 1);
        C.due("of the same SIDE 1", x.twos(6), 0);
        x.set(4, 1, 0);
        x.set(1, 1, 8);
        C.due("of unlike NUMBERS", x.twos(6), 0);
    }

    private static void twosAreTheMost() {
        C.sentence("the most of them there are, no PIECE in two");
        for (int ofSide0 = 0; ofSide0 <= 8; ofSide0++) {
            EdgesOff x = new EdgesOff();
            for (int i = 0; i < 8; i++) {
                x.piece(PIECE, 4, 5, i < ofSide0 ? 0 : 100);
            }
            C.due("twos(0) of " + ofSide0 + " and " + (8 - ofSide0), x.twos(0), Math.min(ofSide0, 8 - ofSide0));
        }
        // the first may go with either, the second with one of them alone
        EdgesOff y = new EdgesOff();
        y.piece(PIECE, 4, 5, 2);
        y.piece(PIECE, 4, 5, 0);
        y.piece(PIECE, 4, 5, 101);
        y.piece(PIECE, 4, 5, 103);
        C.due("twos(1), the first gives way", y.twos(1), 2);
        // by 1: 0 with 4 or 5, 1 with 4, 2 with 6, 3 with 5; by 2: 1 with 7 too
        EdgesOff x = new EdgesOff();
        int[] places = {2, 0, 5, 4, 1, 3, 6, 10};
        for (int i = 0; i < 8; i++) {
            x.piece(PIECE, 4, 5, places[i] + (i < 4 ? 0 : 100));
        }
        C.due("twos(1), the last has none", x.twos(1), 3);
        C.due("twos(2)", x.twos(2), 4);
    }

    private static void tossHasBounds() {
        C.sentence("THROW (what 0), how many (1). BAD.");
        T.bounds("toss(0, v)", Twins.SOME, 0, 1, (x, v) -> x.toss(0, v), BAD);
        T.bounds("toss(v, 0)", Twins.SOME, 0, 2, (x, v) -> x.toss(v, 0), BAD);
        T.bounds("toss(v, 1)", Twins.FULL, 0, 7, (x, v) -> x.toss(v, 1), BAD);
        T.asked("toss(0, 0)", Twins.SOME, x -> x.toss(0, 0), Twins.made(Twins.SOME).toss(0, 0));
    }

    private static void tossOfLikePlaces() {
        C.sentence("THROW (one): the PLACE at which, were it now, it would be ROUND behind fewest TIDES");
        for (int place = 0; place <= 11; place++) {
            EdgesOff x = Check.under("1+(place=" + place + ")", "0", "1");
            x.piece(PIECE, 0, 9, 3);
            C.due("toss(0, 0), soonest at " + place, x.toss(0, 0), place);
            C.due("toss(0, 1), soonest at " + place, x.toss(0, 1), 5);
            C.due("PLACE stays", x.told(0, 3), 3);
        }
        C.sentence("of like ones the first; how many");
        EdgesOff x = Check.under("1+(4<place)", "0", "1");
        x.piece(PIECE, 0, 8, 11);
        C.due("toss(0, 0), like from 5 on", x.toss(0, 0), 5);
        C.due("toss(0, 1), like from 5 on", x.toss(0, 1), 4);
        x.set(2, 0, 0);
        C.due("toss(0, 0) of one that is ROUND", x.toss(0, 0), 0);
        C.due("toss(0, 1) of one that is ROUND", x.toss(0, 1), 0);
        x.set(2, 0, 1);
        C.due("toss(0, 0) of SHARP 1", x.toss(0, 0), 0);
        C.due("toss(0, 1) of SHARP 1", x.toss(0, 1), 1);
    }

    private static void tossHas12Places() {
        C.sentence("11 round: behind 11 is 0.");
        EdgesOff x = Check.under("1+9*(place=12)+9*(place=0-1)", "0", "1");
        x.piece(PIECE, 0, 10, 3);
        C.due("toss(0, 0), soonest where no PLACE is", x.toss(0, 0), 0);
        C.due("toss(0, 1), soonest where no PLACE is", x.toss(0, 1), 10);
    }

    private static void tossHas60() {
        C.sentence("(60 at most; not by then: 61)");
        EdgesOff x = Check.under("place=11", "0", "1");
        x.piece(PIECE, 0, 59, 0);
        int[][] sharpPlaceMany = {{59, 11, 59}, {60, 11, 60}, {61, 0, 61}, {99, 0, 61}};
        for (int[] one : sharpPlaceMany) {
            x.set(2, 0, one[0]);
            C.due("toss(0, 0) of SHARP " + one[0], x.toss(0, 0), one[1]);
            C.due("toss(0, 1) of SHARP " + one[0], x.toss(0, 1), one[2]);
        }
    }

    private static void tossIsAsWereItNow() {
        C.sentence("were it now");
        // a GREEN is worn more beside others; FRESH ones stay where they are
        EdgesOff x = Check.under("1", "0", "1");
        x.piece(GREEN, 0, 9, 0);
        x.piece(FRESH, 0, 99, 7);
        x.piece(FRESH, 0, 99, 7);
        x.piece(FRESH, 0, 99, 2);
        C.due("toss(0, 0)", x.toss(0, 0), 7);
        C.due("toss(0, 1)", x.toss(0, 1), 3);
        C.due("toss(1, 1) of a FRESH above 50", x.toss(1, 1), 61);
        C.due("toss(1, 0) of a FRESH above 50", x.toss(1, 0), 0);
    }

    private static void meanHasBounds() {
        C.sentence("NO: part, no PIECES.");
        T.bounds("mean(v)", Twins.SOME, 0, 1, (x, v) -> x.mean(v), EdgesOff.NO);
        T.asked("mean(0) of none", Twins.BARE, x -> x.mean(0), EdgesOff.NO);
        T.asked("mean(1) of none", Twins.BARE, x -> x.mean(1), EdgesOff.NO);
        T.asked("mean(2) of none", Twins.BARE, x -> x.mean(2), EdgesOff.NO);
    }

    private static void mean(EdgesOff x, String of, long above, long below) {
        C.due("mean(0) of " + of, x.mean(0), above);
        C.due("mean(1) of " + of, x.mean(1), below);
    }

    private static void meanIsInLowestTerms() {
        C.sentence("MEAN: part 0 above, 1 below the line, in lowest terms.");
        EdgesOff x = new EdgesOff();
        x.piece(PIECE, 0, 0, 0);
        mean(x, "0 by 1", 0, 1);
        x.set(2, 0, 99);
        mean(x, "99 by 1", 99, 1);
        for (int i = 1; i < 8; i++) {
            x.piece(PIECE, 0, 0, 0);
        }
        mean(x, "99 by 8", 99, 8);
        x.set(2, 0, 0);
        mean(x, "0 by 8", 0, 1);
        x.set(2, 7, 1);
        mean(x, "1 by 8", 1, 8);
        x.set(2, 7, 6);
        mean(x, "6 by 8", 3, 4);
        x.set(2, 7, 8);
        mean(x, "8 by 8", 1, 1);
        x.set(2, 7, 12);
        mean(x, "12 by 8", 3, 2);
        for (int i = 0; i < 8; i++) {
            x.set(2, i, 99);
        }
        mean(x, "792 by 8", 99, 1);
        x.set(2, 0, 98);
        mean(x, "791 by 8", 791, 8);
    }
}
