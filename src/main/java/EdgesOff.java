import java.util.Arrays;

/** Sea-glass along a round shore: pieces that tides wear and carry on, by a rule of texts. */
public final class EdgesOff {
    public static final int NONE = -1, BAD = -2, STATE = -3, FULL = -4;
    public static final long NO = -4611686018427387904L;

    private static final int NOTHING = -11, OUTSIDE = -12, UNLIKE = -13, BELOW = -14;
    private static final int NOT_CARRIED = -1000, FAULTY = -100;

    private static final int PLACES = 12, MOST_PIECES = 8, MOST_TEXTS = 6, TAPE = 160;
    private static final int SHEETS = 4, MOST_ITEMS = 40, MOST_TOLD = 30;
    private static final int LAST_TIDE = 999, MOST_TIDES = 60, MOST_DRAWN = 40, CHANCE_TIDES = 20, MOST_SEEDS = 20;
    private static final int SHARPEST = 99, FARTHEST = 99, HURTS_ABOVE = 30, FARTHEST_APART = 6;

    private static final int TIDE = 0, NUMBER = 1, SHARP = 2, PLACE = 3, SIDE = 4, KIND = 5;
    /** The greatest value of each of the six above, the least being 0. */
    private static final int[] GREATEST = {LAST_TIDE, 9, SHARPEST, PLACES - 1, 1, 5};

    private static final int PIECE = 0, GREEN = 1, BROWN = 2, GRACE = 3, JUDAS = 4, FRESH = 5, KINDS = 6;
    private static final int[] KIND_ABOVE = {NONE, PIECE, PIECE, GREEN, BROWN, PIECE};

    private static final int WEARS = 0, CARRIES = 1, CLASHES = 2, PARTS = 3;

    private final Texts texts;
    private final Reader reader;
    private final Shore now;
    private final Shore thought;
    private final Shore kept;
    private final Jars jarring;
    private final Row[] rows;
    private boolean isKept;

    public EdgesOff() {
        texts = new Texts();
        reader = new Reader();
        now = new Shore(texts);
        thought = new Shore(texts);
        kept = new Shore(texts);
        jarring = new Jars();
        rows = new Row[SHEETS];
        for (int i = 0; i < SHEETS; i++) {
            rows[i] = new Row();
        }
        isKept = false;
    }

    // ---- pieces

    public int set(int what, int of, int v) {
        if (!isIn(what, TIDE, SIDE)) {
            return BAD;
        }
        if (what != TIDE && !isPiece(of)) {
            return BAD;
        }
        if (!isIn(v, 0, GREATEST[what])) {
            return BAD;
        }
        if (what == TIDE) {
            int was = now.tides;
            now.tides = v;
            return was;
        }
        int[] values = now.valuesOf(what);
        int was = values[of];
        values[of] = v;
        return was;
    }

    public int piece(int kind, int number, int sharp, int where) {
        return now.adds(kind, number, sharp, where);
    }

    public int told(int of, int what) {
        if (what == TIDE) {
            return now.tides;
        }
        if (what == 8) {
            return isIn(of, 0, PLACES - 1) ? now.whichAt(of) : BAD;
        }
        if (!isIn(what, NUMBER, 7) || !isPiece(of)) {
            return BAD;
        }
        if (what == 6) {
            return now.wornOff(of);
        }
        if (what == 7) {
            return now.whichClash(of);
        }
        return now.valuesOf(what)[of];
    }

    public int carried(int piece) {
        return isPiece(piece) ? now.carriedOn(piece) : NOT_CARRIED;
    }

    // ---- texts

    public int feed(int letter) {
        if (!isIn(letter, 0, 255)) {
            return BAD;
        }
        return reader.takes(letter) ? reader.size : FULL;
    }

    public int text() {
        if (texts.size >= MOST_TEXTS) {
            return FULL;
        }
        Text read = reader.reads();
        reader.size = 0;
        if (read == null) {
            return FAULTY - reader.fault;
        }
        return texts.adds(read);
    }

    public int force(int text) {
        if (!isIn(text, 0, texts.size - 1)) {
            return BAD;
        }
        int was = now.rule;
        now.rule = text;
        return was;
    }

    // ---- tides, walks

    public int tide() {
        if (now.tides >= LAST_TIDE) {
            return STATE;
        }
        now.passes();
        return now.howManyRound();
    }

    public int run(int piece, int n, int what) {
        if (!isPiece(piece) || !isIn(n, 0, MOST_TIDES) || !isIn(what, 0, 4)) {
            return BAD;
        }
        thought.becomes(now);
        for (int i = 0; i < n; i++) {
            thought.passes();
        }
        switch (what) {
            case 0:
                return thought.sharp[piece];
            case 1:
                return thought.place[piece];
            case 2:
                return thought.sharpTogether();
            case 3:
                return thought.howManyRound();
            default:
                return thought.howManyPlaces();
        }
    }

    public int all(int what) {
        switch (what) {
            case 0:
                return behindWhichAllAreRound();
            case 1:
                return now.howManyRound();
            case 2:
                return now.howManyPlaces();
            case 3:
                return now.farthestOut();
            default:
                return BAD;
        }
    }

    public int meet(int one, int other) {
        if (!areTwo(one, other)) {
            return BAD;
        }
        thought.becomes(now);
        for (int behind = 0; behind <= MOST_TIDES; behind++) {
            if (thought.place[one] == thought.place[other]) {
                return behind;
            }
            thought.passes();
        }
        return NONE;
    }

    public int walk(int sheet) {
        if (!isSheet(sheet)) {
            return BAD;
        }
        Row row = rows[sheet];
        if (row.isMissing()) {
            return NOTHING;
        }
        if (!row.isAllIn(0, PLACES - 1)) {
            return BAD;
        }
        int hurt = 0;
        for (int i = 0; i < row.size; i++) {
            if (now.hurtsAt(row.items[i])) {
                hurt++;
            }
        }
        return hurt;
    }

    // ---- jars, twos

    public int jars(int what) {
        if (!isIn(what, 0, 3)) {
            return BAD;
        }
        jarring.looksAt(now);
        switch (what) {
            case 0:
                return jarring.fewestWithout(NONE);
            case 1:
                return jarring.digits();
            case 2:
                return jarring.leftOut();
            default:
                return jarring.fewestWithoutLeftOut();
        }
    }

    public int can(int one, int other) {
        if (!areTwo(one, other)) {
            return BAD;
        }
        return now.isApartByClash(one, other) ? 0 : 1;
    }

    public int twos(int n) {
        if (!isIn(n, 0, FARTHEST_APART)) {
            return BAD;
        }
        return mostTwos(now, n, 0, 0);
    }

    public int toss(int piece, int what) {
        if (!isPiece(piece) || !isIn(what, 0, 1)) {
            return BAD;
        }
        int best = 0;
        int fewest = MOST_TIDES + 1;
        for (int place = 0; place < PLACES; place++) {
            int behind = behindWhichRoundFrom(piece, place, fewest);
            if (behind < fewest) {
                best = place;
                fewest = behind;
            }
        }
        return what == 0 ? best : fewest;
    }

    public long mean(int part) {
        if (!isIn(part, 0, 1) || now.size == 0) {
            return NO;
        }
        return inLowestTerms(now.sharpTogether(), now.size, part);
    }

    // ---- what was told of one

    public int tells(int sheet, int piece, int what) {
        if (!isSheet(sheet) || !isPiece(piece) || !isIn(what, 0, 7)) {
            return BAD;
        }
        Row row = rows[sheet];
        if (row.isMissing()) {
            return NOTHING;
        }
        if (row.size > MOST_TOLD) {
            return BAD;
        }
        switch (what) {
            case 0:
                thought.becomes(now);
                return firstOtherwise(row, piece);
            case 1:
                return whichAreSo(row, piece, KIND);
            case 2:
                return whichAreSo(row, piece, NUMBER);
            case 3:
                return howManySharpsAreSo(row, piece);
            case 4:
                return leastSharpThatIsSo(row, piece);
            case 5:
                return whichAreSo(row, piece, PLACE);
            case 6:
                return whichTextsAreSo(row, piece);
            default:
                return whichPiecesAreSo(row);
        }
    }

    public int film(int sheet, int piece, int n) {
        if (!isSheet(sheet) || !isPiece(piece) || !isIn(n, 0, MOST_TOLD)) {
            return BAD;
        }
        Row row = rows[sheet];
        row.becomes(0, n);
        thought.becomes(now);
        for (int i = 0; i < n; i++) {
            row.puts(i, thought.sharp[piece]);
            thought.passes();
        }
        return n;
    }

    public int drawn(int seed, int n) {
        if (!isIn(n, 0, MOST_DRAWN)) {
            return BAD;
        }
        return howManyRoundBySeed(seed, n);
    }

    public long chance(int seed, int m, int k, int part) {
        if (!isIn(m, 1, MOST_SEEDS) || !isIn(k, 0, MOST_PIECES) || !isIn(part, 0, 1)) {
            return NO;
        }
        int those = 0;
        for (int i = 0; i < m; i++) {
            if (howManyRoundBySeed(seed + i, CHANCE_TIDES) >= k) {
                those++;
            }
        }
        return inLowestTerms(those, m, part);
    }

    public int image() {
        kept.becomes(now);
        isKept = true;
        return kept.size;
    }

    public int back() {
        if (!isKept) {
            return STATE;
        }
        now.becomes(kept);
        return now.size;
    }

    public int count(int what) {
        switch (what) {
            case 0:
                return now.size;
            case 1:
                return now.howManyApartByClash();
            case 2:
                return now.tides;
            case 3:
                return texts.size;
            case 4:
                return reader.size;
            case 5:
                return now.rule;
            default:
                return BAD;
        }
    }

    // ---- the host

    public int sheet(int sheet, int sort, int n) {
        if (!isSheet(sheet) || !isIn(sort, Row.MISSING, Row.LAST_SORT)) {
            return BAD;
        }
        if (sort == Row.MISSING) {
            rows[sheet].becomes(Row.MISSING, 0);
            return 1;
        }
        if (n > MOST_ITEMS) {
            return BAD;
        }
        if (n < 0) {
            return BELOW;
        }
        rows[sheet].becomes(sort, n);
        return 1;
    }

    public int cell(int sheet, int i, int v) {
        if (!isSheet(sheet)) {
            return BAD;
        }
        Row row = rows[sheet];
        if (row.isMissing()) {
            return NOTHING;
        }
        if (!row.has(i, 1)) {
            return OUTSIDE;
        }
        row.puts(i, v);
        return 1;
    }

    public int copy(int sheet, int i, int other, int j, int n) {
        if (!isSheet(sheet) || !isSheet(other)) {
            return BAD;
        }
        Row from = rows[sheet];
        Row to = rows[other];
        if (from.isMissing() || to.isMissing()) {
            return NOTHING;
        }
        if (from.sort != to.sort) {
            return UNLIKE;
        }
        if (!from.has(i, n) || !to.has(j, n)) {
            return OUTSIDE;
        }
        System.arraycopy(from.items, i, to.items, j, n);
        return n;
    }

    public int finds(int sheet, int sort, int from, int n) {
        if (!isSheet(sheet) || !isIn(sort, 0, Row.LAST_SORT) || !isIn(n, 0, MOST_PIECES)) {
            return BAD;
        }
        Row row = rows[sheet];
        if (row.isMissing()) {
            return NOTHING;
        }
        if (row.sort != sort) {
            return UNLIKE;
        }
        int came = 0;
        int at = from;
        for (int i = 0; i < n; i++) {
            if (!row.has(at, 4)) {
                return OUTSIDE;
            }
            if (now.adds(row.items[at], row.items[at + 1], row.items[at + 2], row.items[at + 3]) >= 0) {
                came++;
            }
            at += 4;
        }
        return came;
    }

    public int taken(int piece, int k) {
        if (!isIn(k, 0, KINDS - 1)) {
            return BAD;
        }
        if (!isPiece(piece)) {
            return NOTHING;
        }
        return isOfKind(now.kind[piece], k) ? now.number[piece] : UNLIKE;
    }

    // ---- what the calls share

    private static boolean isIn(int v, int least, int most) {
        return v >= least && v <= most;
    }

    private boolean isPiece(int piece) {
        return piece >= 0 && piece < now.size;
    }

    private boolean areTwo(int one, int other) {
        return isPiece(one) && isPiece(other) && one != other;
    }

    private static boolean isSheet(int sheet) {
        return sheet >= 0 && sheet < SHEETS;
    }

    private static boolean isOfKind(int kind, int above) {
        int at = kind;
        for (int i = 0; i < KINDS && at >= 0; i++) {
            if (at == above) {
                return true;
            }
            at = KIND_ABOVE[at];
        }
        return false;
    }

    private static int bounded(int v, int least, int most) {
        return Math.max(least, Math.min(most, v));
    }

    private static int apart(int one, int other) {
        int way = Math.abs(one - other);
        return Math.min(way, PLACES - way);
    }

    private static long inLowestTerms(int above, int below, int part) {
        int a = above;
        int b = below;
        for (int i = 0; i < 64 && b != 0; i++) {
            int rest = a % b;
            a = b;
            b = rest;
        }
        if (a == 0) {
            return NO;
        }
        return part == 0 ? above / a : below / a;
    }

    private int behindWhichAllAreRound() {
        thought.becomes(now);
        for (int behind = 0; behind <= MOST_TIDES; behind++) {
            if (thought.howManyRound() == thought.size) {
                return behind;
            }
            thought.passes();
        }
        return NONE;
    }

    /** Looked for below a bound, since only fewer than were found elsewhere count. */
    private int behindWhichRoundFrom(int piece, int place, int bound) {
        thought.becomes(now);
        thought.place[piece] = place;
        for (int behind = 0; behind < bound; behind++) {
            if (thought.sharp[piece] == 0) {
                return behind;
            }
            thought.passes();
        }
        return bound;
    }

    private int howManyRoundBySeed(int seed, int n) {
        thought.becomes(now);
        int z = seed;
        for (int i = 0; i < n; i++) {
            z = z * 1103515245 + 12345;
            int struck = (z >>> 9) % 16;
            if (struck < thought.size) {
                thought.sharp[struck] = SHARPEST;
            }
            thought.passes();
        }
        return thought.howManyRound();
    }

    /** The most twos of the pieces from this one on, those of the bits "used" being in one already. */
    private static int mostTwos(Shore shore, int n, int piece, int used) {
        if (piece >= shore.size) {
            return 0;
        }
        int most = mostTwos(shore, n, piece + 1, used);
        if (shore.side[piece] != 0) {
            return most;
        }
        for (int other = 0; other < shore.size; other++) {
            if ((used & 1 << other) == 0 && shore.wereOne(piece, other, n)) {
                most = Math.max(most, 1 + mostTwos(shore, n, piece + 1, used | 1 << other));
            }
        }
        return most;
    }

    // ---- a sheet held against what would be

    /** The first item of a sheet that is otherwise than the thought goes on: which is gone on with here. */
    private int firstOtherwise(Row row, int piece) {
        for (int i = 0; i < row.size; i++) {
            if (thought.sharp[piece] != row.items[i]) {
                return i;
            }
            thought.passes();
        }
        return NONE;
    }

    private boolean isSoWith(Row row, int piece, int what, int v) {
        thought.becomes(now);
        thought.valuesOf(what)[piece] = v;
        return firstOtherwise(row, piece) == NONE;
    }

    private int whichAreSo(Row row, int piece, int what) {
        int bits = 0;
        for (int v = 0; v <= GREATEST[what]; v++) {
            if (isSoWith(row, piece, what, v)) {
                bits |= 1 << v;
            }
        }
        return bits;
    }

    private int howManySharpsAreSo(Row row, int piece) {
        int many = 0;
        for (int v = 0; v <= SHARPEST; v++) {
            if (isSoWith(row, piece, SHARP, v)) {
                many++;
            }
        }
        return many;
    }

    private int leastSharpThatIsSo(Row row, int piece) {
        for (int v = 0; v <= SHARPEST; v++) {
            if (isSoWith(row, piece, SHARP, v)) {
                return v;
            }
        }
        return NONE;
    }

    private int whichTextsAreSo(Row row, int piece) {
        int bits = 0;
        for (int i = 0; i < texts.size; i++) {
            thought.becomes(now);
            thought.rule = i;
            if (firstOtherwise(row, piece) == NONE) {
                bits |= 1 << i;
            }
        }
        return bits;
    }

    private int whichPiecesAreSo(Row row) {
        int bits = 0;
        for (int i = 0; i < now.size; i++) {
            thought.becomes(now);
            if (firstOtherwise(row, i) == NONE) {
                bits |= 1 << i;
            }
        }
        return bits;
    }

    /** The pieces and what the tides do to them: one such is true, others are thought or kept. */
    private static final class Shore {
        final Texts texts;
        final int[] number = new int[MOST_PIECES];
        final int[] sharp = new int[MOST_PIECES];
        final int[] place = new int[MOST_PIECES];
        final int[] side = new int[MOST_PIECES];
        final int[] kind = new int[MOST_PIECES];
        final int[] worn = new int[MOST_PIECES];
        final int[] on = new int[MOST_PIECES];
        int size = 0;
        int tides = 0;
        int rule = 0;

        Shore(Texts texts) {
            this.texts = texts;
        }

        void becomes(Shore other) {
            System.arraycopy(other.number, 0, number, 0, other.size);
            System.arraycopy(other.sharp, 0, sharp, 0, other.size);
            System.arraycopy(other.place, 0, place, 0, other.size);
            System.arraycopy(other.side, 0, side, 0, other.size);
            System.arraycopy(other.kind, 0, kind, 0, other.size);
            size = other.size;
            tides = other.tides;
            rule = other.rule;
        }

        int[] valuesOf(int what) {
            switch (what) {
                case NUMBER:
                    return number;
                case SHARP:
                    return sharp;
                case PLACE:
                    return place;
                case SIDE:
                    return side;
                default:
                    return kind;
            }
        }

        int adds(int ofKind, int ofNumber, int ofSharp, int where) {
            if (!isIn(ofKind, 0, GREATEST[KIND]) || !isIn(ofNumber, 0, GREATEST[NUMBER])
                    || !isIn(ofSharp, 0, GREATEST[SHARP]) || where < 0) {
                return BAD;
            }
            if (where / 100 > GREATEST[SIDE] || where % 100 > GREATEST[PLACE]) {
                return BAD;
            }
            if (size >= MOST_PIECES) {
                return FULL;
            }
            kind[size] = ofKind;
            number[size] = ofNumber;
            sharp[size] = ofSharp;
            side[size] = where / 100;
            place[size] = where % 100;
            size++;
            return size - 1;
        }

        /** All is told of all ahead, since what is done to one may change what is told of another. */
        void passes() {
            for (int i = 0; i < size; i++) {
                // of one that is round no text need be asked
                worn[i] = sharp[i] == 0 ? 0 : wornOff(i);
                on[i] = carriedOn(i);
            }
            for (int i = 0; i < size; i++) {
                sharp[i] = Math.max(0, sharp[i] - worn[i]);
                place[i] = Math.floorMod(place[i] + on[i], PLACES);
            }
            tides++;
        }

        int wornOff(int piece) {
            namesAlone(piece);
            int v = bounded(texts.valueOf(rule, WEARS), 0, SHARPEST);
            return bounded(wornByKind(piece, v), 0, SHARPEST);
        }

        private int wornByKind(int piece, int v) {
            switch (kind[piece]) {
                case GREEN:
                    return v + othersWith(piece);
                case BROWN:
                    return v / 2;
                case GRACE:
                    return sharp[piece] < 20 ? 2 * (v + othersWith(piece)) : v + othersWith(piece);
                case JUDAS:
                    return tides % 2 == 0 ? 0 : v / 2;
                case FRESH:
                    return sharp[piece] > 50 ? 0 : v;
                default:
                    return v;
            }
        }

        int carriedOn(int piece) {
            if (kind[piece] == FRESH || kind[piece] == GRACE && sharp[piece] == 0) {
                return 0;
            }
            namesAlone(piece);
            int v = bounded(texts.valueOf(rule, CARRIES), -FARTHEST, FARTHEST);
            switch (kind[piece]) {
                case GREEN:
                case GRACE:
                    return v + number[piece];
                case BROWN:
                    return -v;
                case JUDAS:
                    return side[piece] == 1 ? 6 - v : -v;
                default:
                    return v;
            }
        }

        private boolean isClashing(int piece, int other) {
            switch (kind[piece]) {
                case GREEN:
                    return number[piece] != number[other] && isYes(piece, other);
                case BROWN:
                    return sharp[other] == 0 || isYesAcross(piece, other);
                case GRACE:
                    return false;
                case JUDAS:
                    return tides % 3 != 0 && (sharp[other] == 0 || isYesAcross(piece, other));
                case FRESH:
                    return kind[other] != FRESH;
                default:
                    return isYesAcross(piece, other);
            }
        }

        private boolean isYesAcross(int piece, int other) {
            return side[piece] != side[other] && isYes(piece, other);
        }

        private boolean isYes(int piece, int other) {
            texts.names(sharp[piece], sharp[other], apart(place[piece], place[other]),
                    number[piece], tides, place[piece]);
            return texts.valueOf(rule, CLASHES) != 0;
        }

        /** Where there is no other one, what is told of it is 0. */
        private void namesAlone(int piece) {
            texts.names(sharp[piece], 0, 0, number[piece], tides, place[piece]);
        }

        private int othersWith(int piece) {
            int many = 0;
            for (int i = 0; i < size; i++) {
                if (i != piece && place[i] == place[piece]) {
                    many++;
                }
            }
            return many;
        }

        int whichAt(int where) {
            int bits = 0;
            for (int i = 0; i < size; i++) {
                if (place[i] == where) {
                    bits |= 1 << i;
                }
            }
            return bits;
        }

        int whichClash(int piece) {
            int bits = 0;
            for (int i = 0; i < size; i++) {
                if (i != piece && isClashing(piece, i)) {
                    bits |= 1 << i;
                }
            }
            return bits;
        }

        boolean isApartByClash(int one, int other) {
            return isClashing(one, other) || isClashing(other, one);
        }

        int howManyApartByClash() {
            int many = 0;
            for (int i = 0; i < size; i++) {
                for (int j = i + 1; j < size; j++) {
                    if (isApartByClash(i, j)) {
                        many++;
                    }
                }
            }
            return many;
        }

        boolean wereOne(int one, int other, int n) {
            return side[one] != side[other] && number[one] == number[other]
                    && apart(place[one], place[other]) <= n;
        }

        boolean hurtsAt(int where) {
            for (int i = 0; i < size; i++) {
                if (place[i] == where && sharp[i] > HURTS_ABOVE) {
                    return true;
                }
            }
            return false;
        }

        int howManyRound() {
            int many = 0;
            for (int i = 0; i < size; i++) {
                if (sharp[i] == 0) {
                    many++;
                }
            }
            return many;
        }

        int howManyPlaces() {
            int bits = 0;
            for (int i = 0; i < size; i++) {
                bits |= 1 << place[i];
            }
            return Integer.bitCount(bits);
        }

        int sharpTogether() {
            int together = 0;
            for (int i = 0; i < size; i++) {
                together += sharp[i];
            }
            return together;
        }

        int farthestOut() {
            int which = NONE;
            int most = -1;
            for (int i = 0; i < size; i++) {
                int together = 0;
                for (int j = 0; j < size; j++) {
                    together += apart(place[i], place[j]);
                }
                if (together > most) {
                    which = i;
                    most = together;
                }
            }
            return which;
        }
    }

    /** The fewest jars of a shore's pieces, by trying their ways in the order that the document ranks them. */
    private static final class Jars {
        final int[] cant = new int[MOST_PIECES];
        final int[] held = new int[MOST_PIECES];
        final int[] jar = new int[MOST_PIECES];
        int size = 0;

        void looksAt(Shore shore) {
            size = shore.size;
            Arrays.fill(cant, 0);
            for (int i = 0; i < size; i++) {
                for (int j = i + 1; j < size; j++) {
                    if (shore.isApartByClash(i, j)) {
                        cant[i] |= 1 << j;
                        cant[j] |= 1 << i;
                    }
                }
            }
        }

        /** How many jars are needed without one piece, or with all for NONE; "jar" holds the first such way. */
        int fewestWithout(int left) {
            for (int most = 0; most <= size; most++) {
                Arrays.fill(held, 0);
                if (isFilled(this, 0, left, 0, most)) {
                    return most;
                }
            }
            return size;
        }

        private static boolean isFilled(Jars jars, int piece, int left, int used, int most) {
            if (piece >= jars.size) {
                return true;
            }
            if (piece == left) {
                return isFilled(jars, piece + 1, left, used, most);
            }
            int last = Math.min(used + 1, most);
            for (int i = 0; i < last; i++) {
                if ((jars.held[i] & jars.cant[piece]) == 0) {
                    jars.held[i] |= 1 << piece;
                    jars.jar[piece] = i + 1;
                    if (isFilled(jars, piece + 1, left, Math.max(used, i + 1), most)) {
                        return true;
                    }
                    jars.held[i] &= ~(1 << piece);
                }
            }
            return false;
        }

        int digits() {
            fewestWithout(NONE);
            int digits = 0;
            for (int i = 0; i < size; i++) {
                digits = digits * 10 + jar[i];
            }
            return digits;
        }

        int leftOut() {
            int which = NONE;
            int fewest = size + 1;
            for (int i = 0; i < size; i++) {
                int needed = fewestWithout(i);
                if (needed < fewest) {
                    which = i;
                    fewest = needed;
                }
            }
            return which;
        }

        int fewestWithoutLeftOut() {
            return fewestWithout(leftOut());
        }
    }

    /** A sheet: its items are held as ints, cut to its sort as they are put. */
    private static final class Row {
        static final int MISSING = -1, BYTES = 0, SHORTS = 1, LAST_SORT = 2;

        final int[] items = new int[MOST_ITEMS];
        int sort = MISSING;
        int size = 0;

        void becomes(int newSort, int newSize) {
            sort = newSort;
            size = newSize;
            Arrays.fill(items, 0);
        }

        boolean isMissing() {
            return sort == MISSING;
        }

        /** Tested without a sum, which could wrap. */
        boolean has(int from, int n) {
            return from >= 0 && n >= 0 && from <= size && n <= size - from;
        }

        boolean isAllIn(int least, int most) {
            for (int i = 0; i < size; i++) {
                if (!isIn(items[i], least, most)) {
                    return false;
                }
            }
            return true;
        }

        void puts(int i, int v) {
            if (sort == BYTES) {
                items[i] = (byte) v;
            } else if (sort == SHORTS) {
                items[i] = (short) v;
            } else {
                items[i] = v;
            }
        }
    }

    /** All texts, and the values of the names while one is being told. */
    private static final class Texts {
        static final int SHARP_OF = 0, THEIRS = 1, APART = 2, NUMBER_OF = 3, TIDE_OF = 4, PLACE_OF = 5, NAMES = 6;

        final Text[] list = new Text[MOST_TEXTS];
        final int[] values = new int[NAMES];
        final int[] stack = new int[TAPE];
        int size = 1;

        Texts() {
            list[0] = new Text(new int[] {2, 1, 1}, 1, 2);
        }

        int adds(Text read) {
            if (size >= MOST_TEXTS) {
                return FULL;
            }
            list[size] = read;
            size++;
            return size - 1;
        }

        void names(int sharp, int theirs, int apart, int number, int tides, int place) {
            values[SHARP_OF] = sharp;
            values[THEIRS] = theirs;
            values[APART] = apart;
            values[NUMBER_OF] = number;
            values[TIDE_OF] = tides;
            values[PLACE_OF] = place;
        }

        /** What a part of a text comes to, by the names as they were given last. */
        int valueOf(int which, int part) {
            Text one = which >= 0 && which < size ? list[which] : null;
            if (one == null) {
                return 0;
            }
            int to = one.endOf(part);
            int top = 0;
            for (int i = one.startOf(part); i < to && top < stack.length; i++) {
                int token = -1 - one.code[i];
                if (token < 0) {
                    stack[top] = one.code[i];
                    top++;
                } else if (token < NAMES) {
                    stack[top] = values[token];
                    top++;
                } else if (top >= 1 && (token == Reader.NOT || token == Reader.NEGATE)) {
                    stack[top - 1] = alone(token, stack[top - 1]);
                } else if (top >= 2) {
                    top--;
                    stack[top - 1] = joined(token, stack[top - 1], stack[top]);
                }
            }
            return stack[0];
        }

        private static int alone(int token, int one) {
            if (token == Reader.NEGATE) {
                return -one;
            }
            return one == 0 ? 1 : 0;
        }

        private static int joined(int token, int one, int other) {
            switch (token) {
                case Reader.OR:
                    return one != 0 || other != 0 ? 1 : 0;
                case Reader.AND:
                    return one != 0 && other != 0 ? 1 : 0;
                case Reader.LESS:
                    return one < other ? 1 : 0;
                case Reader.EQUAL:
                    return one == other ? 1 : 0;
                case Reader.PLUS:
                    return one + other;
                case Reader.MINUS:
                    return one - other;
                default:
                    return one * other;
            }
        }
    }

    /**
     * A text that was read: operands ahead of what joins them, so that it is told without recursion.
     * A code of 0 or more is a number, one below 0 is -1 less a token of Reader's.
     */
    private static final class Text {
        final int[] code;
        final int carriesAt;
        final int clashesAt;

        Text(int[] code, int carriesAt, int clashesAt) {
            this.code = code;
            this.carriesAt = carriesAt;
            this.clashesAt = clashesAt;
        }

        int startOf(int part) {
            if (part == WEARS) {
                return 0;
            }
            return part == CARRIES ? carriesAt : clashesAt;
        }

        int endOf(int part) {
            if (part == WEARS) {
                return carriesAt;
            }
            return part == CARRIES ? clashesAt : code.length;
        }
    }

    /** The tape, and the reading of it as a text. */
    private static final class Reader {
        /** Each word begins at eight times its token. */
        private static final String WORDS =
                "sharp   theirs  apart   number  tide    place   wears   carries clashes or      and     not     ";
        private static final int WORD_WIDTH = 8, ALL_WORDS = 12, KEY_WEARS = 6;
        private static final String SIGNS = "();+-*<=";
        static final int OR = 9, AND = 10, NOT = 11;
        static final int OPENING = 12, CLOSING = 13, ENDING = 14, PLUS = 15, MINUS = 16, TIMES = 17, LESS = 18, EQUAL = 19;
        static final int NUMBER_TOKEN = 20, END = 21, WRONG = 22, NEGATE = 23;

        private static final int ORS = 0, ANDS = 1, COMPARISONS = 2, SUMS = 3, TERMS = 4, ONES = 5;
        private static final int MOST_DIGITS = 4, MOST_OPEN = 5;

        final int[] tape = new int[TAPE];
        int size = 0;
        /** Where the fault is, or NONE: the first that is found stays. */
        int fault = NONE;

        private final int[] code = new int[TAPE];
        private int length = 0;
        private int at = 0;
        private int start = 0;
        private int token = END;
        private int digits = 0;

        boolean takes(int letter) {
            if (size >= TAPE) {
                return false;
            }
            tape[size] = letter;
            size++;
            return true;
        }

        /** The text on the tape, or null, where "fault" tells the place. */
        Text reads() {
            fault = NONE;
            length = 0;
            at = 0;
            goesOn();
            int carriesAt = 0;
            int clashesAt = 0;
            for (int part = 0; part < PARTS; part++) {
                if (part == CARRIES) {
                    carriesAt = length;
                } else if (part == CLASHES) {
                    clashesAt = length;
                }
                wants(KEY_WEARS + part);
                readsFrom(ORS, 0);
                wants(ENDING);
            }
            wants(END);
            if (fault != NONE) {
                return null;
            }
            return new Text(Arrays.copyOf(code, length), carriesAt, clashesAt);
        }

        private void wants(int due) {
            if (fault != NONE) {
                return;
            }
            if (token == due) {
                goesOn();
            } else {
                fault = start;
            }
        }

        /** Reads one thing of a level of the grammar; "open" of ( , not and - ahead of a ONE are open. */
        private void readsFrom(int level, int open) {
            if (fault != NONE) {
                return;
            }
            if (level >= ONES) {
                readsOne(open);
                return;
            }
            if (level == COMPARISONS && token == NOT) {
                readsBehind(COMPARISONS, open, NOT);
                return;
            }
            readsFrom(level + 1, open);
            int most = level == COMPARISONS ? 1 : TAPE;
            for (int i = 0; i < most && fault == NONE && levelJoinedBy(token) == level; i++) {
                int joining = token;
                goesOn();
                readsFrom(level + 1, open);
                puts(-1 - joining);
            }
        }

        private void readsOne(int open) {
            if (token == NUMBER_TOKEN) {
                puts(digits);
                goesOn();
            } else if (token < Texts.NAMES) {
                puts(-1 - token);
                goesOn();
            } else if (token == MINUS) {
                readsBehind(ONES, open, NEGATE);
            } else if (token == OPENING && open < MOST_OPEN) {
                goesOn();
                readsFrom(ORS, open + 1);
                wants(CLOSING);
            } else {
                fault = start;
            }
        }

        /** Reads what a not or a - ahead of a ONE belongs to. */
        private void readsBehind(int level, int open, int joining) {
            if (open >= MOST_OPEN) {
                fault = start;
                return;
            }
            goesOn();
            readsFrom(level, open + 1);
            puts(-1 - joining);
        }

        private static int levelJoinedBy(int token) {
            switch (token) {
                case OR:
                    return ORS;
                case AND:
                    return ANDS;
                case LESS:
                case EQUAL:
                    return COMPARISONS;
                case PLUS:
                case MINUS:
                    return SUMS;
                case TIMES:
                    return TERMS;
                default:
                    return NONE;
            }
        }

        private void puts(int one) {
            if (length < code.length) {
                code[length] = one;
                length++;
            }
        }

        /** Takes the next token; one that can stand nowhere is WRONG, so that it is a fault wherever it is met. */
        private void goesOn() {
            while (at < size && (tape[at] == ' ' || tape[at] == '\n')) {
                at++;
            }
            start = at;
            if (at >= size) {
                token = END;
            } else if (isLetter(tape[at])) {
                while (at < size && isLetter(tape[at])) {
                    at++;
                }
                token = wordFromStart();
            } else if (isDigit(tape[at])) {
                while (at < size && isDigit(tape[at])) {
                    at++;
                }
                token = numberFromStart();
            } else {
                int sign = SIGNS.indexOf((char) tape[at]);
                token = sign >= 0 ? OPENING + sign : WRONG;
                at++;
            }
        }

        private static boolean isLetter(int letter) {
            return letter >= 'a' && letter <= 'z';
        }

        private static boolean isDigit(int letter) {
            return letter >= '0' && letter <= '9';
        }

        private int numberFromStart() {
            if (at - start > MOST_DIGITS) {
                return WRONG;
            }
            digits = 0;
            for (int i = start; i < at; i++) {
                digits = digits * 10 + tape[i] - '0';
            }
            return NUMBER_TOKEN;
        }

        private int wordFromStart() {
            int letters = at - start;
            if (letters >= WORD_WIDTH) {
                return WRONG;
            }
            for (int word = 0; word < ALL_WORDS; word++) {
                int first = word * WORD_WIDTH;
                int like = 0;
                for (int i = 0; i < letters; i++) {
                    if (WORDS.charAt(first + i) == tape[start + i]) {
                        like++;
                    }
                }
                // the blank keeps the beginning of a word from being taken for it
                if (like == letters && WORDS.charAt(first + letters) == ' ') {
                    return word;
                }
            }
            return WRONG;
        }
    }
}
