import java.util.Random;

/** Runs of drawn calls, with ordinary and with wrong numbers, whose answers must be the model's. */
public final class ModelTest {
    private static final Check C = new Check();
    private static final int RUNS = 800, CALLS = 140, TEXTS = 20000;
    private static final int[] EDGES = {-1, Integer.MIN_VALUE, Integer.MAX_VALUE, -2, 256, 1000, 100, 41, 61, 12};

    public static void main(String[] args) {
        for (int seed = 0; seed < RUNS; seed++) {
            run(seed);
        }
        for (int seed = 0; seed < TEXTS; seed++) {
            text(seed);
        }
        C.end();
    }

    private static Random random;

    /** 0 .. most, or seldom an edge or one just outside. */
    private static int upTo(int most) {
        int r = random.nextInt(100);
        if (r == 0) {
            return EDGES[random.nextInt(EDGES.length)];
        }
        if (r == 1) {
            return most + 1;
        }
        return random.nextInt(most + 1);
    }

    private static int where() {
        return random.nextInt(2) * 100 + upTo(11);
    }

    private static void run(int seed) {
        random = new Random(seed);
        EdgesOff x = new EdgesOff();
        Model m = new Model();
        int few = 2 + random.nextInt(7);
        int used = 0;
        while (used < CALLS) {
            int call = random.nextInt(30);
            if (call == 5 && random.nextInt(2) == 0) {
                used += wholeText(x, m, seed);
                continue;
            }
            if (call == 2 && x.count(0) >= few && random.nextInt(10) != 0) {
                continue;
            }
            one(x, m, call, "run " + seed + ", call " + used);
            used++;
        }
    }

    private static int wholeText(EdgesOff x, Model m, int seed) {
        String text = new TextMaker(random, 4).text();
        for (int i = 0; i < text.length(); i++) {
            C.due("run " + seed + ": feed", x.feed(text.charAt(i)), m.feed(text.charAt(i)));
        }
        int got = x.text();
        C.due("run " + seed + ": text() of " + text, got, m.text());
        if (got > 0 && random.nextInt(3) != 0) {
            C.due("run " + seed + ": force()", x.force(got), m.force(got));
        }
        return text.length() + 2;
    }

    private static void due(String at, String call, long got, long want, int... of) {
        C.due(at + ": " + call + java.util.Arrays.toString(of), got, want);
    }

    private static void one(EdgesOff x, Model m, int call, String at) {
        int a = upTo(7);
        int b = upTo(7);
        int c = upTo(7);
        int d = upTo(7);
        int e;
        switch (call) {
            case 0:
            case 1:
                a = upTo(4);
                int[] most = {999, 9, 99, 11, 1};
                c = upTo(a >= 0 && a <= 4 ? most[a] : 9);
                due(at, "set", x.set(a, b, c), m.set(a, b, c), a, b, c);
                break;
            case 2:
                a = upTo(5);
                b = random.nextInt(3) == 0 ? upTo(9) : upTo(2);
                c = random.nextInt(4) == 0 ? 0 : upTo(99);
                d = where();
                due(at, "piece", x.piece(a, b, c, d), m.piece(a, b, c, d), a, b, c, d);
                break;
            case 3:
                a = upTo(11);
                b = upTo(8);
                due(at, "told", x.told(a, b), m.told(a, b), a, b);
                due(at, "told", x.told(d, b), m.told(d, b), d, b);
                break;
            case 4:
                due(at, "carried", x.carried(a), m.carried(a), a);
                break;
            case 5:
                a = upTo(255);
                due(at, "feed", x.feed(a), m.feed(a), a);
                break;
            case 6:
                due(at, "text", x.text(), m.text());
                break;
            case 7:
                a = upTo(5);
                due(at, "force", x.force(a), m.force(a), a);
                break;
            case 8:
                due(at, "tide", x.tide(), m.tide());
                break;
            case 9:
                b = upTo(60);
                c = upTo(4);
                due(at, "run", x.run(a, b, c), m.run(a, b, c), a, b, c);
                break;
            case 10:
                a = upTo(3);
                due(at, "all", x.all(a), m.all(a), a);
                break;
            case 11:
                due(at, "meet", x.meet(a, b), m.meet(a, b), a, b);
                break;
            case 12:
                a = upTo(3);
                due(at, "walk", x.walk(a), m.walk(a), a);
                break;
            case 13:
                a = upTo(3);
                due(at, "jars", x.jars(a), m.jars(a), a);
                break;
            case 14:
                due(at, "can", x.can(a, b), m.can(a, b), a, b);
                break;
            case 15:
                a = upTo(6);
                due(at, "twos", x.twos(a), m.twos(a), a);
                break;
            case 16:
                b = upTo(1);
                due(at, "toss", x.toss(a, b), m.toss(a, b), a, b);
                break;
            case 17:
                a = upTo(1);
                due(at, "mean", x.mean(a), m.mean(a), a);
                break;
            case 18:
                c = upTo(3);
                for (int what = -1; what <= 8; what++) {
                    due(at, "tells", x.tells(c, b, what), m.tells(c, b, what), c, b, what);
                }
                break;
            case 19:
                a = upTo(3);
                c = random.nextInt(3) == 0 ? upTo(30) : upTo(5);
                due(at, "film", x.film(a, b, c), m.film(a, b, c), a, b, c);
                d = upTo(7);
                for (int what = 0; what <= 7; what++) {
                    due(at, "tells", x.tells(a, d, what), m.tells(a, d, what), a, d, what);
                }
                break;
            case 20:
                a = random.nextInt();
                b = upTo(40);
                due(at, "drawn", x.drawn(a, b), m.drawn(a, b), a, b);
                break;
            case 21:
                a = random.nextInt(4) == 0 ? EDGES[random.nextInt(EDGES.length)] : random.nextInt();
                b = upTo(20);
                c = upTo(8);
                d = upTo(1);
                due(at, "chance", x.chance(a, b, c, d), m.chance(a, b, c, d), a, b, c, d);
                break;
            case 22:
                due(at, "image", x.image(), m.image());
                break;
            case 23:
                due(at, "back", x.back(), m.back());
                break;
            case 24:
                a = upTo(5);
                due(at, "count", x.count(a), m.count(a), a);
                break;
            case 25:
                a = upTo(3);
                b = random.nextInt(8) == 0 ? -1 : upTo(2);
                c = upTo(40);
                due(at, "sheet", x.sheet(a, b, c), m.sheet(a, b, c), a, b, c);
                break;
            case 26:
                a = upTo(3);
                for (int i = 0; i < 8; i++) {
                    b = upTo(20);
                    c = random.nextInt(3) == 0 ? random.nextInt() : upTo(11);
                    due(at, "cell", x.cell(a, b, c), m.cell(a, b, c), a, b, c);
                }
                break;
            case 27:
                a = upTo(3);
                b = upTo(20);
                c = upTo(3);
                d = upTo(20);
                e = upTo(9);
                due(at, "copy", x.copy(a, b, c, d, e), m.copy(a, b, c, d, e), a, b, c, d, e);
                break;
            case 28:
                a = upTo(3);
                b = upTo(2);
                c = upTo(20);
                d = upTo(3);
                due(at, "finds", x.finds(a, b, c, d), m.finds(a, b, c, d), a, b, c, d);
                break;
            default:
                b = upTo(5);
                due(at, "taken", x.taken(a, b), m.taken(a, b), a, b);
                break;
        }
    }

    /** A text alone: whether it is read, where its fault is, what it tells of two pieces. */
    private static void text(int seed) {
        random = new Random(1000003L * seed);
        EdgesOff x = new EdgesOff();
        Model m = new Model();
        String text = new TextMaker(random, 6).text();
        if (random.nextInt(2) == 0) {
            text = TextMaker.spoilt(random, text);
        }
        for (int i = 0; i < text.length(); i++) {
            x.feed(text.charAt(i));
            m.feed(text.charAt(i));
        }
        int got = x.text();
        C.due("text() of " + text, got, m.text());
        if (got < 0) {
            return;
        }
        x.force(got);
        m.force(got);
        int tide = random.nextInt(1000);
        x.set(0, 0, tide);
        m.set(0, 0, tide);
        for (int i = 0; i < 2; i++) {
            int number = random.nextInt(10);
            int sharp = random.nextInt(100);
            int where = i * 100 + random.nextInt(12);
            x.piece(0, number, sharp, where);
            m.piece(0, number, sharp, where);
        }
        for (int i = 0; i < 2; i++) {
            C.due("wears by " + text, x.told(i, 6), m.told(i, 6));
            C.due("carries by " + text, x.carried(i), m.carried(i));
            C.due("clashes by " + text, x.told(i, 7), m.told(i, 7));
        }
    }
}
