/** Promises 19 to 25: tells, film, drawn, chance, image, back, count. */
public final class ToldTest {
    private static final Check C = new Check();
    private static final int MIN = Integer.MIN_VALUE, MAX = Integer.MAX_VALUE;

    public static void main(String[] args) {
        tellsOfWhatIsSo();
        tellsOfWhatIsOtherwise();
        tellsOfTheSharpest();
        tellsOfTexts();
        tellsRefuses();
        filmMakesASheet();
        filmRefuses();
        drawnBySeeds();
        chanceInLowestTerms();
        imageAndBack();
        backLeavesNothing(102, 105);
        backLeavesNothing(105, 102);
        countRefuses();
        C.end();
    }

    private static void tells(EdgesOff x, int sheet, int piece, int... due) {
        for (int what = 0; what <= 7; what++) {
            C.due("tells(" + sheet + ", " + piece + ", " + what + ")", x.tells(sheet, piece, what), due[what]);
        }
    }

    private static void tellsOfWhatIsSo() {
        EdgesOff x = new EdgesOff();
        x.piece(0, 0, 40, 0);
        x.piece(1, 5, 40, 7);
        x.piece(2, 0, 40, 7);
        Check.sheet(x, 0, 2, 40, 38, 36);
        // KINDS: PIECE and FRESH; a GREEN or a GRACE would have PIECE 1 with it the second time
        tells(x, 0, 0, -1, 1 + 32, 1023, 1, 40, 4095, 1, 1);
        // the GREEN has PIECE 2 with it at 7, then PIECE 0 at 1; or PIECE 0 at 0, then PIECE 2 at 6
        Check.sheet(x, 1, 1, 40, 37, 34);
        tells(x, 1, 1, -1, 2 + 8, 1 << 5, 1, 40, 1 + (1 << 7), 1, 2);
        C.due("all is as it was", x.told(1, 2), 40);
        C.due("KIND is as it was", x.told(1, 5), 1);
    }

    private static void tellsOfWhatIsOtherwise() {
        EdgesOff x = new EdgesOff();
        x.piece(0, 0, 40, 0);
        x.piece(5, 0, 70, 0);
        Check.sheet(x, 0, 2, 70, 70, 70);
        tells(x, 0, 0, 0, 0, 0, 0, -1, 0, 0, 2);
        tells(x, 0, 1, -1, 32, 1023, 1, 70, 4095, 1, 2);
        Check.sheet(x, 0, 2, 40, 38, 37);
        tells(x, 0, 0, 2, 0, 0, 0, -1, 0, 0, 0);
        Check.sheet(x, 0, 2, 0, 0, 0, 0);
        tells(x, 0, 0, 0, 0, 0, 1, 0, 0, 0, 0);
        Check.sheet(x, 0, 2, 256 + 40);
        C.due("ints are not cut", x.tells(0, 0, 0), 0);
        x.sheet(0, 0, 0);
        tells(x, 0, 0, -1, 63, 1023, 100, 0, 4095, 1, 3);
        // a PLACE from which it wears otherwise, a NUMBER by which it goes there
        EdgesOff y = Check.under("place+1", "number", "1");
        y.piece(0, 3, 90, 4);
        Check.sheet(y, 2, 0, 90, 85, 77);
        C.due("PLACES", y.tells(2, 0, 5), 1 << 4);
        C.due("NUMBERS", y.tells(2, 0, 2), 1 << 3);
        Check.sheet(y, 2, 0, 90, 79);
        C.due("PLACES, another one", y.tells(2, 0, 5), 1 << 10);
        C.due("the first otherwise", y.tells(2, 0, 0), 1);
    }

    private static void tellsOfTheSharpest() {
        EdgesOff x = new EdgesOff();
        x.piece(0, 0, 5, 0);
        Check.sheet(x, 0, 0, 99, 97);
        C.due("SHARPS up to 99", x.tells(0, 0, 3), 1);
        C.due("the least is 99", x.tells(0, 0, 4), 99);
        Check.sheet(x, 0, 2, 100, 98);
        C.due("SHARPS not up to 100", x.tells(0, 0, 3), 0);
        C.due("none is the least", x.tells(0, 0, 4), EdgesOff.NONE);
        Check.sheet(x, 0, 2, 0, 0, 0);
        C.due("SHARPS from 0", x.tells(0, 0, 3), 1);
        C.due("the least is 0", x.tells(0, 0, 4), 0);
    }

    private static void tellsOfTexts() {
        EdgesOff x = new EdgesOff();
        Check.read(x, "wears 3;carries 1;clashes 1;");
        Check.read(x, "wears 2+(sharp<38);carries 5;clashes 1;");
        Check.read(x, "wears 2;carries 0;clashes 0;");
        x.piece(0, 0, 40, 0);
        x.force(1);
        Check.sheet(x, 0, 0, 40, 38, 36);
        C.due("TEXTS", x.tells(0, 0, 6), 1 + 4 + 8);
        Check.sheet(x, 0, 0, 40, 38, 36, 33);
        C.due("TEXTS then", x.tells(0, 0, 6), 4);
        C.due("by THE RULE", x.tells(0, 0, 0), 1);
        C.due("THE RULE stays", x.count(5), 1);
    }

    private static void tellsRefuses() {
        EdgesOff x = new EdgesOff();
        x.sheet(0, 0, 1);
        C.due("tells of none", x.tells(0, 0, 0), EdgesOff.BAD);
        x.piece(0, 0, 0, 0);
        for (int v : new int[] {-1, 8, MIN, MAX}) {
            C.due("tells(" + v + ", 0, 0)", x.tells(v, 0, 0), EdgesOff.BAD);
            C.due("tells(0, " + v + ", 0)", x.tells(0, v, 0), EdgesOff.BAD);
            C.due("tells(0, 0, " + v + ")", x.tells(0, 0, v), EdgesOff.BAD);
            C.due("BAD is ahead of -11", x.tells(1, v, 0), EdgesOff.BAD);
            C.due("BAD is ahead of -11, what", x.tells(1, 0, v), EdgesOff.BAD);
        }
        C.due("tells(4, 0, 0)", x.tells(4, 0, 0), EdgesOff.BAD);
        C.due("of a missing one", x.tells(1, 0, 0), -11);
        x.sheet(0, 2, 31);
        C.due("31 numbers", x.tells(0, 0, 0), EdgesOff.BAD);
        x.sheet(0, 2, 30);
        C.due("30 numbers", x.tells(0, 0, 0), EdgesOff.NONE);
    }

    private static void filmMakesASheet() {
        EdgesOff x = new EdgesOff();
        x.piece(0, 0, 99, 5);
        C.due("film(3, 0, 30)", x.film(3, 0, 30), 30);
        C.due("as it is", x.tells(3, 0, 0), EdgesOff.NONE);
        C.due("of bytes", x.finds(3, 0, 0, 0), 0);
        C.due("not of shorts", x.finds(3, 1, 0, 0), -13);
        C.due("30 long", x.cell(3, 30, 0), -12);
        C.due("the last", x.cell(3, 29, 99 - 58), 1);
        C.due("the last was so", x.tells(3, 0, 0), EdgesOff.NONE);
        C.due("SHARP stays", x.told(0, 2), 99);
        C.due("TIDE stays", x.count(2), 0);
        x.sheet(1, 2, 40);
        C.due("film(1, 0, 2)", x.film(1, 0, 2), 2);
        C.due("2 long", x.cell(1, 2, 0), -12);
        C.due("film(1, 0, 0)", x.film(1, 0, 0), 0);
        C.due("0 long", x.cell(1, 0, 0), -12);
        x.set(0, 0, 999);
        C.due("film behind TIDE 999", x.film(1, 0, 30), 30);
    }

    private static void filmRefuses() {
        EdgesOff x = new EdgesOff();
        C.due("film of none", x.film(0, 0, 0), EdgesOff.BAD);
        C.due("none came", x.cell(0, 0, 0), -11);
        x.piece(0, 0, 9, 0);
        for (int v : new int[] {-1, 31, MIN, MAX}) {
            C.due("film(" + v + ", 0, 0)", x.film(v, 0, 0), EdgesOff.BAD);
            C.due("film(0, " + v + ", 0)", x.film(0, v, 0), EdgesOff.BAD);
            C.due("film(0, 0, " + v + ")", x.film(0, 0, v), EdgesOff.BAD);
        }
        C.due("film(4, 0, 0)", x.film(4, 0, 0), EdgesOff.BAD);
        C.due("film(0, 1, 0)", x.film(0, 1, 0), EdgesOff.BAD);
    }

    /** By hand: which PIECE is struck ahead of each TIDE. */
    private static int struck(int seed, int n) {
        int z = seed;
        for (int i = 0; i < n; i++) {
            z = z * 1103515245 + 12345;
        }
        return (z >>> 9) % 16;
    }

    private static void drawnBySeeds() {
        EdgesOff x = Check.under("9", "0", "1");
        for (int i = 0; i < 8; i++) {
            x.piece(0, 0, i == 0 ? 9 : 0, i);
        }
        for (int seed : new int[] {0, 1, -1, 77, 4096, MIN, MAX}) {
            C.due("drawn(" + seed + ", 0)", x.drawn(seed, 0), 7);
            int first = struck(seed, 1);
            C.due("drawn(" + seed + ", 1)", x.drawn(seed, 1), first < 8 ? 7 : 8);
            int second = struck(seed, 2);
            int sharp = (first < 8 ? 1 : 0) + (second < 8 && second != first ? 1 : 0);
            C.due("drawn(" + seed + ", 2)", x.drawn(seed, 2), 8 - sharp);
        }
        C.due("SHARP stays", x.told(0, 2), 9);
        for (int v : new int[] {-1, 41, MIN, MAX}) {
            C.due("drawn(0, " + v + ")", x.drawn(0, v), EdgesOff.BAD);
        }
        C.due("drawn of none", new EdgesOff().drawn(5, 40), 0);
    }

    private static EdgesOff fiveInStorms() {
        EdgesOff x = Check.under("9", "0", "1");
        for (int i = 0; i < 5; i++) {
            x.piece(0, 0, 50, i);
        }
        return x;
    }

    private static void chanceInLowestTerms() {
        for (int seed : new int[] {0, 3, -7, MAX}) {
            for (int m = 1; m <= 20; m++) {
                EdgesOff x = fiveInStorms();
                for (int k = 0; k <= 8; k++) {
                    int those = 0;
                    for (int i = 0; i < m; i++) {
                        those += x.drawn(seed + i, 20) >= k ? 1 : 0;
                    }
                    int by = those == 0 ? m : java.math.BigInteger.valueOf(those).gcd(java.math.BigInteger.valueOf(m)).intValue();
                    C.due("chance(" + seed + ", " + m + ", " + k + ", 0)", x.chance(seed, m, k, 0), those / by);
                    C.due("chance(" + seed + ", " + m + ", " + k + ", 1)", x.chance(seed, m, k, 1), m / by);
                }
            }
        }
        EdgesOff x = fiveInStorms();
        for (int v : new int[] {-1, 21, MIN, MAX}) {
            C.due("chance(0, " + v + ", 0, 0)", x.chance(0, v, 0, 0), EdgesOff.NO);
            C.due("chance(0, 1, " + v + ", 0)", x.chance(0, 1, v, 0), EdgesOff.NO);
            C.due("chance(0, 1, 0, " + v + ")", x.chance(0, 1, 0, v), EdgesOff.NO);
        }
        C.due("chance(0, 0, 0, 0)", x.chance(0, 0, 0, 0), EdgesOff.NO);
        C.due("chance(0, 1, 9, 0)", x.chance(0, 1, 9, 0), EdgesOff.NO);
        C.due("chance(0, 1, 0, 2)", x.chance(0, 1, 0, 2), EdgesOff.NO);
    }

    private static void imageAndBack() {
        EdgesOff x = new EdgesOff();
        C.due("back() without", x.back(), EdgesOff.STATE);
        C.due("image() of none", x.image(), 0);
        x.piece(0, 0, 0, 0);
        C.due("back() to none", x.back(), 0);
        C.due("none", x.count(0), 0);
        x.piece(1, 2, 30, 104);
        x.piece(2, 3, 40, 5);
        Check.read(x, "wears 9;carries 9;clashes 0;");
        x.force(1);
        x.set(0, 0, 8);
        C.due("image()", x.image(), 2);
        for (int again = 0; again < 2; again++) {
            x.force(0);
            x.set(0, 0, 9);
            x.set(1, 0, 9);
            x.set(2, 0, 9);
            x.set(3, 0, 9);
            x.set(4, 0, 0);
            x.piece(3, 3, 3, 3);
            x.tide();
            Check.feed(x, "wears");
            x.sheet(0, 0, 3);
            C.due("back()", x.back(), 2);
            C.due("PIECES", x.count(0), 2);
            C.due("TIDE", x.count(2), 8);
            C.due("THE RULE", x.count(5), 1);
            C.due("TEXTS stay", x.count(3), 2);
            C.due("THE TAPE stays", x.count(4), 5 * (again + 1));
            C.due("a SHEET stays", x.cell(0, 2, 0), 1);
            int[] due = {8, 2, 30, 4, 1, 1};
            int[] dueOther = {8, 3, 40, 5, 0, 2};
            for (int what = 0; what <= 5; what++) {
                C.due("told(0, " + what + ")", x.told(0, what), due[what]);
                C.due("told(1, " + what + ")", x.told(1, what), dueOther[what]);
            }
            C.due("the third is gone", x.told(2, 5), EdgesOff.BAD);
        }
        C.due("a third comes anew", x.piece(4, 4, 4, 4), 2);
        C.due("image() anew", x.image(), 3);
        x.set(2, 2, 77);
        C.due("back() to the newer", x.back(), 3);
        C.due("SHARP of the newer", x.told(2, 2), 4);
        C.due("KIND of the newer", x.told(2, 5), 4);
    }

    /** What lay beyond the image's pieces is in nothing that is told then. */
    private static void backLeavesNothing(int gone, int goneToo) {
        EdgesOff x = new EdgesOff();
        x.piece(1, 1, 40, 2);
        x.piece(0, 2, 20, 102);
        x.image();
        x.piece(5, 1, 99, gone);
        x.piece(0, 1, 99, goneToo);
        x.back();
        Check.sheet(x, 0, 0, 5);
        Check.sheet(x, 1, 0, 99);
        C.due("walk", x.walk(0), 0);
        C.due("WEARS", x.told(0, 6), 3);
        C.due("CLASHES", x.told(0, 7), 2);
        C.due("which are there", x.told(2, 8), 3);
        C.due("SHARP together", x.run(0, 0, 2), 60);
        C.due("PLACES with any", x.all(2), 1);
        C.due("FAR OUT", x.all(3), 0);
        C.due("twos", x.twos(6), 0);
        C.due("jars", x.jars(1), 12);
        C.due("mean", x.mean(0), 30);
        C.due("PIECES that it is told of", x.tells(1, 0, 7), 0);
        C.due("taken", x.taken(2, 5), -11);
        C.due("can", x.can(0, 2), EdgesOff.BAD);
        x.set(2, 0, 0);
        x.set(2, 1, 0);
        C.due("WHEN", x.all(0), 0);
        C.due("ROUND", x.all(1), 2);
    }

    private static void countRefuses() {
        EdgesOff x = new EdgesOff();
        for (int v : new int[] {-1, 6, MIN, MAX}) {
            C.due("count(" + v + ")", x.count(v), EdgesOff.BAD);
        }
        x.piece(0, 0, 1, 0);
        x.piece(0, 0, 1, 100);
        x.piece(3, 0, 1, 0);
        C.due("count(0)", x.count(0), 3);
        C.due("count(1)", x.count(1), 2);
        x.feed('w');
        C.due("count(4)", x.count(4), 1);
    }
}
