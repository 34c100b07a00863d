/** The boundary cases of promises 19 to 25 and of TOLD, DRAWN and AN IMAGE, sentence by sentence. */
public final class ToldBoundsTest {
    private static final Check C = new Check();
    private static final Twins T = new Twins(C);
    private static final int MIN = Integer.MIN_VALUE, MAX = Integer.MAX_VALUE;
    private static final int BAD = EdgesOff.BAD, NONE = EdgesOff.NONE;
    private static final long NO = EdgesOff.NO;
    private static final int PIECE = 0, GREEN = 1, BROWN = 2, FRESH = 5;

    public static void main(String[] args) {
        tellsHasBounds();
        tellsRefusesTheFirstThatIsNamed();
        tellsHas30();
        firstOtherwise();
        nothingIsOtherwiseInNothing();
        kindsAreBits();
        numbersAreBits();
        sharpsAreCounted();
        placesAreBits();
        textsAreBits();
        piecesAreBits();
        tellsIsInThought();
        filmHasBounds();
        filmMakesBytes();
        drawnHasBounds();
        drawnBySeed();
        drawnIfThereIsOne();
        chanceHasBounds();
        chanceOfSeeds();
        chanceInLowestTerms();
        imageKeeps();
        imageKeepsNoMore();
        piecesThatCameSinceGo();
        backHasNone();
        countHasBounds();
        twosThatCant();
        C.end();
    }

    // ---- tells

    private static Twins.Made with30(int piece, int sheet, int size) {
        return x -> {
            for (int i = 0; i <= piece; i++) {
                x.piece(0, 0, 0, 0);
            }
            x.sheet(sheet, 2, size);
        };
    }

    private static void tellsHasBounds() {
        C.sentence("BAD: SHEET, no such PIECE, what; -11; BAD: it tells more than 30.");
        T.bounds("tells(v, 0, 0)", x -> {
            Twins.SOME.by(x);
            x.sheet(3, 0, 0);
        }, 0, 3, (x, v) -> x.tells(v, 0, 0), BAD);
        T.bounds("tells(0, v, 0)", Twins.SOME, 0, 2, (x, v) -> x.tells(0, v, 0), BAD);
        T.bounds("tells(0, 0, v)", Twins.SOME, 0, 7, (x, v) -> x.tells(0, 0, v), BAD);
        for (int what = 0; what <= 7; what++) {
            int of = what;
            T.asked("tells(3, 0, " + what + ") of a missing one", Twins.SOME, x -> x.tells(3, 0, of), -11);
            C.due("tells(0, 3, " + what + ") of no such PIECE", Twins.made(Twins.SOME).tells(0, 3, what), BAD);
            T.asked("tells(1, 0, " + what + ") of 31", with30(0, 1, 31), x -> x.tells(1, 0, of), BAD);
        }
    }

    private static void tellsRefusesTheFirstThatIsNamed() {
        C.sentence("Refusals, the first that the call's words name; they change nothing");
        T.asked("no such PIECE, and nothing there", Twins.SOME, x -> x.tells(3, 3, 0), BAD);
        T.asked("no such what, and nothing there", Twins.SOME, x -> x.tells(3, 0, 8), BAD);
        T.asked("no such SHEET, and nothing there", Twins.SOME, x -> x.tells(4, 0, 0), BAD);
        T.asked("no such PIECE, and more than 30", Twins.FULL, x -> x.tells(0, 8, 0), BAD);
    }

    private static void tellsHas30() {
        C.sentence("(30 at most numbers)");
        for (int sort = 0; sort <= 2; sort++) {
            EdgesOff x = new EdgesOff();
            x.piece(0, 0, 0, 0);
            x.sheet(0, sort, 30);
            C.due("30 numbers of sort " + sort, x.tells(0, 0, 0), NONE);
            x.sheet(0, sort, 31);
            C.due("31 numbers of sort " + sort, x.tells(0, 0, 0), BAD);
            x.sheet(0, sort, 40);
            C.due("40 numbers of sort " + sort, x.tells(0, 0, 0), BAD);
            x.sheet(0, sort, 0);
            C.due("no numbers of sort " + sort, x.tells(0, 0, 0), NONE);
        }
    }

    private static void firstOtherwise() {
        C.sentence("the first that is otherwise; NONE");
        EdgesOff x = new EdgesOff();
        x.piece(0, 0, 99, 0);
        x.film(0, 0, 30);
        C.due("as it is", x.tells(0, 0, 0), NONE);
        for (int i = 29; i >= 0; i--) {
            x.cell(0, i, 100);
            C.due("otherwise from " + i + " on", x.tells(0, 0, 0), i);
        }
        x.film(0, 0, 30);
        x.cell(0, 7, 3);
        C.due("otherwise at 7 alone", x.tells(0, 0, 0), 7);
        x.set(0, 0, 999);
        x.film(0, 0, 30);
        C.due("behind TIDE 999", x.tells(0, 0, 0), NONE);
    }

    private static void nothingIsOtherwiseInNothing() {
        C.sentence("by which all would be so");
        int[] due = {NONE, 63, 1023, 100, 0, 4095, 1, 3};
        EdgesOff x = new EdgesOff();
        x.piece(0, 3, 44, 5);
        x.piece(5, 3, 99, 5);
        x.sheet(2, 1, 0);
        for (int what = 0; what <= 7; what++) {
            C.due("tells(2, 0, " + what + ") of no numbers", x.tells(2, 0, what), due[what]);
        }
        int[] dueNever = {0, 0, 0, 0, NONE, 0, 0, 0};
        Check.sheet(x, 2, 1, 100);
        for (int what = 0; what <= 7; what++) {
            C.due("tells(2, 0, " + what + ") of what none is", x.tells(2, 0, what), dueNever[what]);
        }
    }

    private static void kindsAreBits() {
        C.sentence("KINDS (bits 0 .. 5)");
        // SHARP 10 in TIDE 1, wears 4, one other there: PIECE 6, GREEN 5, BROWN 8, GRACE 0, JUDAS 8, FRESH 6
        int[] behind = {6, 5, 8, 0, 8, 6};
        int[] bits = {1 + 32, 2, 4 + 16, 8, 4 + 16, 1 + 32};
        for (int kind = 0; kind <= 5; kind++) {
            EdgesOff x = Check.under("4", "0", "1");
            x.set(0, 0, 1);
            x.piece(GREEN, 0, 10, 0);
            x.piece(PIECE, 0, 10, 0);
            Check.sheet(x, 0, 0, 10, behind[kind]);
            C.due("tells(0, 0, 1) of KIND " + kind, x.tells(0, 0, 1), bits[kind]);
        }
        EdgesOff x = Check.under("4", "0", "1");
        x.piece(PIECE, 0, 51, 0);
        Check.sheet(x, 0, 0, 51, 51, 51);
        C.due("FRESH alone", x.tells(0, 0, 1), 32);
        Check.sheet(x, 0, 0, 51, 46);
        C.due("none", x.tells(0, 0, 1), 0);
    }

    private static void numbersAreBits() {
        C.sentence("NUMBERS (bits 0 .. 9)");
        EdgesOff x = Check.under("number", "0", "1");
        x.piece(PIECE, 4, 50, 0);
        for (int number = 0; number <= 9; number++) {
            Check.sheet(x, 0, 0, 50, 50 - number);
            C.due("tells(0, 0, 2), NUMBER " + number, x.tells(0, 0, 2), 1 << number);
        }
        Check.sheet(x, 0, 0, 50, 40);
        C.due("tells(0, 0, 2), as of NUMBER 10", x.tells(0, 0, 2), 0);
        Check.sheet(x, 0, 0, 50);
        C.due("tells(0, 0, 2), all", x.tells(0, 0, 2), 1023);
    }

    private static void sharpsAreCounted() {
        C.sentence("SHARPS (of 0 .. 99: how many, the least)");
        EdgesOff x = new EdgesOff();
        x.piece(PIECE, 4, 50, 0);
        for (int sharp : new int[] {0, 1, 2, 50, 98, 99}) {
            Check.sheet(x, 0, 0, sharp, Math.max(0, sharp - 2));
            C.due("tells(0, 0, 3), SHARP " + sharp, x.tells(0, 0, 3), 1);
            C.due("tells(0, 0, 4), SHARP " + sharp, x.tells(0, 0, 4), sharp);
        }
        for (int sharp : new int[] {-1, 100, 127}) {
            Check.sheet(x, 0, 0, sharp);
            C.due("tells(0, 0, 3), SHARP " + sharp, x.tells(0, 0, 3), 0);
            C.due("tells(0, 0, 4), SHARP " + sharp, x.tells(0, 0, 4), NONE);
        }
        x.sheet(0, 0, 0);
        C.due("tells(0, 0, 3), all", x.tells(0, 0, 3), 100);
        C.due("tells(0, 0, 4), all", x.tells(0, 0, 4), 0);
    }

    private static void placesAreBits() {
        C.sentence("PLACES (bits 0 .. 11)");
        EdgesOff x = Check.under("place", "1", "1");
        x.piece(PIECE, 4, 50, 6);
        for (int place = 0; place <= 11; place++) {
            int next = (place + 1) % 12;
            Check.sheet(x, 0, 0, 50, 50 - place, 50 - place - next);
            C.due("tells(0, 0, 5), PLACE " + place, x.tells(0, 0, 5), 1 << place);
        }
        Check.sheet(x, 0, 0, 50, 38);
        C.due("tells(0, 0, 5), as of PLACE 12", x.tells(0, 0, 5), 0);
        Check.sheet(x, 0, 0, 50);
        C.due("tells(0, 0, 5), all", x.tells(0, 0, 5), 4095);
    }

    private static void textsAreBits() {
        C.sentence("TEXTS (bits), were they THE RULE");
        EdgesOff x = new EdgesOff();
        x.piece(PIECE, 4, 50, 6);
        Check.sheet(x, 0, 0, 50);
        C.due("tells(0, 0, 6), TEXT 0 alone", x.tells(0, 0, 6), 1);
        for (int i = 1; i <= 5; i++) {
            Check.read(x, "wears" + (2 + i) + ";carries1;clashes1;");
        }
        C.due("tells(0, 0, 6), all", x.tells(0, 0, 6), 63);
        for (int text = 0; text <= 5; text++) {
            Check.sheet(x, 0, 0, 50, 48 - text, 46 - 2 * text);
            C.due("tells(0, 0, 6), TEXT " + text, x.tells(0, 0, 6), 1 << text);
        }
        Check.sheet(x, 0, 0, 50, 49);
        C.due("tells(0, 0, 6), none", x.tells(0, 0, 6), 0);
        C.due("THE RULE stays", x.count(5), 0);
    }

    private static void piecesAreBits() {
        C.sentence("PIECES (bits) of which it is so");
        EdgesOff x = new EdgesOff();
        for (int i = 0; i < 8; i++) {
            x.piece(PIECE, 0, 50 + i, 0);
        }
        for (int i = 0; i < 8; i++) {
            Check.sheet(x, 0, 0, 50 + i, 48 + i);
            C.due("tells(0, 3, 7), PIECE " + i, x.tells(0, 3, 7), 1 << i);
        }
        Check.sheet(x, 0, 0, 49);
        C.due("tells(0, 3, 7), none", x.tells(0, 3, 7), 0);
        x.sheet(0, 0, 0);
        C.due("tells(0, 3, 7), all", x.tells(0, 3, 7), 255);
    }

    private static void tellsIsInThought() {
        C.sentence("a SHEET tells SHARP of one behind 0, 1, .. TIDES");
        for (int what = 0; what <= 7; what++) {
            int of = what;
            T.asked("tells(0, 1, " + what + ")", Twins.SOME, x -> x.tells(0, 1, of), Twins.made(Twins.SOME).tells(0, 1, what));
        }
        EdgesOff x = new EdgesOff();
        x.piece(PIECE, 0, 50, 0);
        Check.sheet(x, 0, 0, 50);
        C.due("behind 0 TIDES", x.tells(0, 0, 0), NONE);
        x.tide();
        C.due("behind 0 TIDES from the next on", x.tells(0, 0, 0), 0);
    }

    // ---- film

    private static void filmHasBounds() {
        C.sentence("A SHEET truly becomes SHARP of a PIECE behind 0, .., n less 1 TIDES (n 0 .. 30; bytes): n. BAD.");
        T.bounds("film(v, 0, 2)", Twins.SOME, 0, 3, (x, v) -> x.film(v, 0, 2), BAD);
        T.bounds("film(1, v, 2)", Twins.SOME, 0, 2, (x, v) -> x.film(1, v, 2), BAD);
        T.bounds("film(1, 0, v)", Twins.SOME, 0, 30, (x, v) -> x.film(1, 0, v), BAD);
        T.bounds("film(3, v, 2)", Twins.FULL, 0, 7, (x, v) -> x.film(3, v, 2), BAD);
        EdgesOff x = new EdgesOff();
        x.piece(PIECE, 0, 99, 0);
        for (int n = 0; n <= 30; n++) {
            C.due("film(2, 0, " + n + ")", x.film(2, 0, n), n);
            C.due("item " + (n - 1), x.cell(2, n - 1, 0), n == 0 ? -12 : 1);
            C.due("item " + n, x.cell(2, n, 0), -12);
        }
    }

    private static void filmMakesBytes() {
        C.sentence("(n 0 .. 30; bytes)");
        for (int sort = 0; sort <= 2; sort++) {
            EdgesOff x = new EdgesOff();
            x.piece(PIECE, 0, 5, 0);
            x.sheet(1, sort, 40);
            x.film(1, 0, 5);
            C.due("taken for bytes", x.finds(1, 0, 0, 0), 0);
            C.due("taken for shorts", x.finds(1, 1, 0, 0), -13);
            C.due("taken for ints", x.finds(1, 2, 0, 0), -13);
            int[] due = {5, 3, 1, 0, 0};
            x.sheet(2, 0, 1);
            for (int i = 0; i < due.length; i++) {
                x.copy(1, i, 2, 0, 1);
                C.due("item " + i, x.tells(2, 0, 4), due[i]);
            }
        }
        EdgesOff x = new EdgesOff();
        x.piece(PIECE, 0, 99, 11);
        x.set(0, 0, 999);
        C.due("film(0, 0, 30) in TIDE 999", x.film(0, 0, 30), 30);
        C.due("TIDE stays", x.count(2), 999);
        C.due("SHARP stays", x.told(0, 2), 99);
        C.due("PLACE stays", x.told(0, 3), 11);
        C.due("all is so", x.tells(0, 0, 0), NONE);
    }

    // ---- drawn, chance

    private static void drawnHasBounds() {
        C.sentence("DRAWN. BAD: n.");
        T.bounds("drawn(5, v)", Twins.SOME, 0, 40, (x, v) -> x.drawn(5, v), BAD);
        T.bounds("drawn(5, v)", Twins.BARE, 0, 40, (x, v) -> x.drawn(5, v), BAD);
        for (int seed : new int[] {0, -1, MIN, MAX}) {
            T.asked("drawn(" + seed + ", 40)", Twins.SOME, x -> x.drawn(seed, 40), Twins.made(Twins.SOME).drawn(seed, 40));
        }
    }

    /** The z of the so manieth TIDE, by numbers that do not wrap. */
    private static long z(int seed, int tide) {
        java.math.BigInteger z = java.math.BigInteger.valueOf(seed);
        java.math.BigInteger all = java.math.BigInteger.ONE.shiftLeft(32);
        for (int i = 0; i < tide; i++) {
            z = z.multiply(java.math.BigInteger.valueOf(1103515245)).add(java.math.BigInteger.valueOf(12345)).mod(all);
        }
        return z.mod(all).longValueExact();
    }

    private static int struck(int seed, int tide) {
        return (int) (z(seed, tide) / 512 % 16);
    }

    private static void drawnBySeed() {
        C.sentence("ahead of each the PIECE numbered (z >>> 9) % 16, if there is one, is of SHARP 99, z being z * 1103515245 + 12345 (an int; SEED at first) anew for each: how many are ROUND then.");
        EdgesOff x = Check.under("99", "0", "1");
        EdgesOff y = Check.under("98", "0", "1");
        for (int i = 0; i < 8; i++) {
            x.piece(PIECE, 0, 0, i);
            y.piece(PIECE, 0, 0, i);
        }
        for (int seed : new int[] {0, 1, 2, 3, 4, 5, -1, -2, 512, 8191, 1 << 30, MIN, MIN + 1, MAX}) {
            C.due("drawn(" + seed + ", 0): none is struck", y.drawn(seed, 0), 8);
            C.due("drawn(" + seed + ", 40): all is worn off", x.drawn(seed, 40), 8);
            for (int n = 1; n <= 6; n++) {
                // what was struck ahead of the last TIDE alone is of SHARP 1 then
                int left = struck(seed, n) < 8 ? 1 : 0;
                C.due("drawn(" + seed + ", " + n + ")", y.drawn(seed, n), 8 - left);
            }
        }
        C.due("SHARP stays", y.told(0, 2), 0);
    }

    private static void drawnIfThereIsOne() {
        C.sentence("if there is one");
        for (int pieces = 0; pieces <= 8; pieces++) {
            EdgesOff x = Check.under("98", "0", "1");
            for (int i = 0; i < pieces; i++) {
                x.piece(PIECE, 0, 0, i);
            }
            for (int seed = 0; seed < 40; seed++) {
                int left = struck(seed, 1) < pieces ? 1 : 0;
                C.due("drawn(" + seed + ", 1) of " + pieces, x.drawn(seed, 1), pieces - left);
            }
        }
    }

    private static void chanceHasBounds() {
        C.sentence("NO: m, k, part.");
        T.bounds("chance(5, v, 1, 0)", Twins.SOME, 1, 20, (x, v) -> x.chance(5, v, 1, 0), NO);
        T.bounds("chance(5, 1, v, 0)", Twins.SOME, 0, 8, (x, v) -> x.chance(5, 1, v, 0), NO);
        T.bounds("chance(5, 1, 1, v)", Twins.SOME, 0, 1, (x, v) -> x.chance(5, 1, 1, v), NO);
        T.bounds("chance(5, v, 1, 1)", Twins.BARE, 1, 20, (x, v) -> x.chance(5, v, 1, 1), NO);
        T.asked("chance(MAX, 20, 1, 0)", Twins.SOME, x -> x.chance(MAX, 20, 1, 0), Twins.made(Twins.SOME).chance(MAX, 20, 1, 0));
    }

    private static void chanceOfSeeds() {
        C.sentence("IN m seeds (1 .. 20), SEED and each 1 more (an int), 20 TIDES: of these those by which that is k (0 .. 8) or more.");
        EdgesOff x = Check.under("49", "0", "1");
        for (int i = 0; i < 8; i++) {
            x.piece(PIECE, 0, 0, i);
        }
        for (int seed : new int[] {MAX, MAX - 1, MIN, -1, 0, 77}) {
            for (int k = 5; k <= 8; k++) {
                int those = 0;
                for (int m = 1; m <= 3; m++) {
                    // what is struck ahead of the last two TIDES alone is not ROUND then
                    int of = seed + m - 1;
                    int one = struck(of, 19);
                    int other = struck(of, 20);
                    int left = (one < 8 ? 1 : 0) + (other < 8 && other != one ? 1 : 0);
                    those += 8 - left >= k ? 1 : 0;
                    C.holds("chance(" + seed + ", " + m + ", " + k + ", ..) is " + those + " by " + m,
                            x.chance(seed, m, k, 0) * m == those * x.chance(seed, m, k, 1));
                }
            }
        }
    }

    private static void chanceInLowestTerms() {
        C.sentence("IN m seeds: part 0 above, 1 below the line, in lowest terms.");
        EdgesOff x = new EdgesOff();
        for (int m = 1; m <= 20; m++) {
            C.due("all of " + m + ", above", x.chance(3, m, 0, 0), 1);
            C.due("all of " + m + ", below", x.chance(3, m, 0, 1), 1);
            C.due("none of " + m + ", above", x.chance(3, m, 1, 0), 0);
            C.due("none of " + m + ", below", x.chance(3, m, 1, 1), 1);
        }
        for (int i = 0; i < 8; i++) {
            x.piece(PIECE, 0, 0, i);
        }
        C.due("0 or more", x.chance(3, 20, 0, 0), 1);
        EdgesOff y = Check.under("98", "0", "1");
        for (int i = 0; i < 8; i++) {
            y.piece(PIECE, 0, 0, i);
        }
        for (int m = 1; m <= 20; m++) {
            int those = 0;
            for (int i = 0; i < m; i++) {
                those += struck(i, 20) >= 8 ? 1 : 0;
            }
            int by = java.math.BigInteger.valueOf(those).gcd(java.math.BigInteger.valueOf(m)).intValueExact();
            C.due("chance(0, " + m + ", 8, 0)", y.chance(0, m, 8, 0), those / by);
            C.due("chance(0, " + m + ", 8, 1)", y.chance(0, m, 8, 1), m / by);
            C.due("chance(0, " + m + ", 7, 0)", y.chance(0, m, 7, 0), 1);
        }
    }

    // ---- image, back, count

    private static void imageKeeps() {
        C.sentence("AN IMAGE keeps TIDE, NUMBERS, SHARP, PLACES, SIDES, THE RULE");
        EdgesOff x = new EdgesOff();
        for (int i = 0; i < 8; i++) {
            x.piece(i % 6, 9 - i, 90 + i, 11 - i + 100 * (i % 2));
        }
        Check.read(x, "wears 0;carries 0;clashes 0;");
        x.force(1);
        x.set(0, 0, 999);
        C.due("image() of eight", x.image(), 8);
        for (int again = 0; again < 2; again++) {
            for (int i = 0; i < 8; i++) {
                x.set(1, i, i / 2);
                x.set(2, i, i);
                x.set(3, i, i);
                x.set(4, i, 1 - i % 2);
            }
            x.set(0, 0, 0);
            x.force(0);
            x.tide();
            C.due("back()", x.back(), 8);
            for (int i = 0; i < 8; i++) {
                int[] due = {999, 9 - i, 90 + i, 11 - i, i % 2, i % 6};
                for (int what = 0; what <= 5; what++) {
                    C.due("told(" + i + ", " + what + ")", x.told(i, what), due[what]);
                }
            }
            C.due("THE RULE", x.count(5), 1);
        }
        x.set(2, 7, 3);
        C.due("image() anew", x.image(), 8);
        x.set(2, 7, 4);
        x.back();
        C.due("as it was in the newer", x.told(7, 2), 3);
    }

    private static void imageKeepsNoMore() {
        C.sentence("All that it keeps is as in THE IMAGE: how many PIECES.");
        EdgesOff x = new EdgesOff();
        C.due("image() of none", x.image(), 0);
        C.due("a text since", Check.read(x, "wears 9;carries 9;clashes 9;"), 1);
        Check.feed(x, "wears");
        Check.sheet(x, 0, 0, 0, 0);
        x.force(1);
        C.due("back() to none", x.back(), 0);
        C.due("TEXTS stay", x.count(3), 2);
        C.due("THE TAPE stays", x.count(4), 5);
        C.due("a SHEET stays", x.walk(0), 0);
        C.due("THE RULE is as it was", x.count(5), 0);
        C.due("back() again", x.back(), 0);
        T.asked("image(), asked of nothing else", x2 -> {
            Twins.SOME.by(x2);
            x2.image();
        }, x2 -> x2.image(), 3);
    }

    private static void piecesThatCameSinceGo() {
        C.sentence("(PIECES that came since go)");
        EdgesOff x = new EdgesOff();
        x.piece(GREEN, 1, 40, 0);
        C.due("image() of one", x.image(), 1);
        for (int i = 1; i < 8; i++) {
            x.piece(FRESH, i, 40, 0);
        }
        C.due("a ninth", x.piece(0, 0, 0, 0), EdgesOff.FULL);
        C.due("back()", x.back(), 1);
        C.due("count(0)", x.count(0), 1);
        C.due("WEARS, alone again", x.told(0, 6), 2);
        C.due("CLASHES, alone again", x.told(0, 7), 0);
        C.due("those at 0", x.told(0, 8), 1);
        for (int i = 1; i < 8; i++) {
            C.due("told(" + i + ", 5)", x.told(i, 5), BAD);
        }
        for (int i = 1; i < 8; i++) {
            C.due("piece " + i + " anew", x.piece(PIECE, 2, 30, 5), i);
        }
        C.due("KIND of one anew", x.told(7, 5), PIECE);
        C.due("a ninth again", x.piece(0, 0, 0, 0), EdgesOff.FULL);
    }

    private static void backHasNone() {
        C.sentence("STATE: there is none.");
        T.asked("back()", Twins.BARE, x -> x.back(), EdgesOff.STATE);
        T.asked("back() of a shore without", x -> {
            x.piece(GREEN, 3, 30, 104);
            x.set(0, 0, 9);
            Check.feed(x, "wears");
            Check.sheet(x, 0, 0, 4, 5);
        }, x -> x.back(), EdgesOff.STATE);
        EdgesOff x = new EdgesOff();
        x.image();
        C.due("back() to one of nothing", x.back(), 0);
    }

    private static void countHasBounds() {
        C.sentence("How many: 0 PIECES, 1 twos that CAN'T be in one JAR, 2 TIDE, 3 TEXTS, 4 bytes of THE TAPE, 5 THE RULE. BAD.");
        T.bounds("count(v)", Twins.BARE, 0, 5, (x, v) -> x.count(v), BAD);
        T.bounds("count(v)", Twins.FULL, 0, 5, (x, v) -> x.count(v), BAD);
        int[] most = {8, 0, 999, 6, 160, 5};
        EdgesOff x = Twins.made(Twins.FULL);
        for (int what = 0; what <= 5; what++) {
            if (what != 1) {
                C.due("count(" + what + "), the most", x.count(what), most[what]);
            }
        }
    }

    private static void twosThatCant() {
        C.sentence("1 twos that CAN'T be in one JAR");
        EdgesOff x = new EdgesOff();
        C.due("of none", x.count(1), 0);
        for (int i = 0; i < 8; i++) {
            x.piece(GREEN, i, 5, 0);
            C.due("of " + (i + 1), x.count(1), i * (i + 1) / 2);
        }
        for (int i = 0; i < 8; i++) {
            x.set(1, i, 0);
        }
        C.due("of eight alike", x.count(1), 0);
        x.set(1, 7, 1);
        C.due("the last with each", x.count(1), 7);
        EdgesOff y = new EdgesOff();
        y.piece(BROWN, 0, 0, 0);
        C.due("a BROWN that is ROUND is no two with itself", y.count(1), 0);
        y.piece(PIECE, 0, 5, 0);
        C.due("nor with one that is not ROUND", y.count(1), 0);
    }
}
