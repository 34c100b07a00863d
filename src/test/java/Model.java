import java.util.ArrayDeque;
import java.util.ArrayList;
import java.util.Deque;
import java.util.HashMap;
import java.util.HashSet;
import java.util.List;
import java.util.Map;
import java.util.Set;

/**
 * The document once more, built otherwise than EdgesOff: pieces are objects of real classes, sheets real arrays
 * whose faults the machine finds, texts trees behind an operator stack, the best ways found by trying all.
 * It is there to be compared with, so it may be slow and may throw inside.
 */
final class Model {
    static final int BAD = -2, STATE = -3, FULL = -4;
    static final long NO = -(1L << 62);

    // ---- kinds

    static class Piece implements Cloneable {
        int number, sharp, side, place;

        int wears(Shore s, int v) { return v; }
        int carried(Shore s, int v) { return v; }
        boolean clashes(Shore s, Piece other, boolean yes) { return yes && side != other.side; }

        Piece twin() {
            try {
                return (Piece) clone();
            } catch (CloneNotSupportedException e) {
                throw new IllegalStateException(e);
            }
        }

        Piece as(int kind) {
            Piece p = ofKind(kind);
            p.number = number;
            p.sharp = sharp;
            p.side = side;
            p.place = place;
            return p;
        }
    }

    static class Green extends Piece {
        @Override int wears(Shore s, int v) {
            int others = 0;
            for (Piece p : s.pieces) {
                others += p != this && p.place == place ? 1 : 0;
            }
            return super.wears(s, v) + others;
        }
        @Override int carried(Shore s, int v) { return super.carried(s, v) + number; }
        @Override boolean clashes(Shore s, Piece other, boolean yes) { return yes && number != other.number; }
    }

    static class Brown extends Piece {
        @Override int wears(Shore s, int v) { return super.wears(s, v) / 2; }
        @Override int carried(Shore s, int v) { return 0 - super.carried(s, v); }
        @Override boolean clashes(Shore s, Piece other, boolean yes) {
            return super.clashes(s, other, yes) || other.sharp == 0;
        }
    }

    static class Grace extends Green {
        @Override int wears(Shore s, int v) { return sharp < 20 ? super.wears(s, v) * 2 : super.wears(s, v); }
        @Override int carried(Shore s, int v) { return sharp == 0 ? 0 : super.carried(s, v); }
        @Override boolean clashes(Shore s, Piece other, boolean yes) { return false; }
    }

    static class Judas extends Brown {
        @Override int wears(Shore s, int v) { return s.tide % 2 == 0 ? 0 : super.wears(s, v); }
        @Override int carried(Shore s, int v) { return super.carried(s, v) + (side == 1 ? 6 : 0); }
        @Override boolean clashes(Shore s, Piece other, boolean yes) {
            return s.tide % 3 != 0 && super.clashes(s, other, yes);
        }
    }

    static class Fresh extends Piece {
        @Override int wears(Shore s, int v) { return sharp > 50 ? 0 : super.wears(s, v); }
        @Override int carried(Shore s, int v) { return 0; }
        @Override boolean clashes(Shore s, Piece other, boolean yes) { return !(other instanceof Fresh); }
    }

    private static final List<Class<? extends Piece>> KINDS =
            List.of(Piece.class, Green.class, Brown.class, Grace.class, Judas.class, Fresh.class);

    static Piece ofKind(int kind) {
        switch (kind) {
            case 1: return new Green();
            case 2: return new Brown();
            case 3: return new Grace();
            case 4: return new Judas();
            case 5: return new Fresh();
            default: return new Piece();
        }
    }

    // ---- texts

    interface Tree { int value(Map<String, Integer> names); }

    record Text(Tree wears, Tree carries, Tree clashes) { }

    static final Text FIRST = new Text(n -> 2, n -> 1, n -> 1);

    record Token(String word, int place) { }

    static final Set<String> NAMES = Set.of("sharp", "theirs", "apart", "number", "tide", "place");
    static final Set<String> KEYS = Set.of("wears", "carries", "clashes", "or", "and", "not");

    static final class Fault extends Exception {
        private static final long serialVersionUID = 1L;
        final int place;
        Fault(int place) { this.place = place; }
    }

    /** Tokens up to the end; one that is none stands as "?", the end as "". */
    static List<Token> tokens(String tape) {
        List<Token> all = new ArrayList<>();
        java.util.regex.Matcher m = java.util.regex.Pattern.compile("[ \n]*(?:([a-z]+)|([0-9]+)|([();+*<=-])|([^ \n]))",
                java.util.regex.Pattern.DOTALL).matcher(tape);
        int at = 0;
        while (m.find(at) && m.start() == at) {
            int group = m.group(1) != null ? 1 : m.group(2) != null ? 2 : m.group(3) != null ? 3 : 4;
            String word = m.group(group);
            boolean none = group == 4 || group == 2 && word.length() > 4
                    || group == 1 && !NAMES.contains(word) && !KEYS.contains(word);
            all.add(new Token(none ? "?" : word, m.start(group)));
            at = m.end();
        }
        all.add(new Token("", tape.length()));
        return all;
    }

    static final Map<String, Integer> RANK = new HashMap<>();
    static {
        RANK.put("or", 1);
        RANK.put("and", 2);
        RANK.put("not", 3);
        RANK.put("<", 4);
        RANK.put("=", 4);
        RANK.put("+", 5);
        RANK.put("-", 5);
        RANK.put("*", 6);
        RANK.put("neg", 7);
    }

    static Text read(String tape) throws Fault {
        List<Token> all = tokens(tape);
        int[] at = {0};
        Tree[] parts = new Tree[3];
        String[] keys = {"wears", "carries", "clashes"};
        for (int i = 0; i < 3; i++) {
            if (!all.get(at[0]).word.equals(keys[i])) {
                throw new Fault(all.get(at[0]).place);
            }
            at[0]++;
            parts[i] = expression(all, at);
            at[0]++;
        }
        if (!all.get(at[0]).word.isEmpty()) {
            throw new Fault(all.get(at[0]).place);
        }
        return new Text(parts[0], parts[1], parts[2]);
    }

    /** Up to the ; that ends it, by a stack of operators and one of operands. */
    private static Tree expression(List<Token> all, int[] at) throws Fault {
        Deque<String> ops = new ArrayDeque<>();
        Deque<Tree> out = new ArrayDeque<>();
        boolean wantsOne = true;
        for (;; at[0]++) {
            Token t = all.get(at[0]);
            String w = t.word;
            if (wantsOne) {
                boolean opens = w.equals("(") || w.equals("not") || w.equals("-");
                long open = ops.stream().filter(o -> o.equals("(") || o.equals("not") || o.equals("neg")).count();
                if (opens && open >= 5) {
                    throw new Fault(t.place);
                }
                if (w.equals("(")) {
                    ops.push("(");
                } else if (w.equals("-")) {
                    ops.push("neg");
                } else if (w.equals("not")) {
                    String top = ops.isEmpty() ? "(" : ops.peek();
                    if (!Set.of("(", "or", "and", "not").contains(top)) {
                        throw new Fault(t.place);
                    }
                    ops.push("not");
                } else if (NAMES.contains(w)) {
                    out.push(n -> n.get(w));
                    wantsOne = false;
                } else if (!w.isEmpty() && Character.isDigit(w.charAt(0))) {
                    int v = Integer.parseInt(w);
                    out.push(n -> v);
                    wantsOne = false;
                } else {
                    throw new Fault(t.place);
                }
                if (!wantsOne) {
                    reduce(ops, out, 7);
                }
                continue;
            }
            if (w.equals(";")) {
                reduce(ops, out, 0);
                if (!ops.isEmpty()) {
                    throw new Fault(t.place);
                }
                return out.pop();
            } else if (w.equals(")")) {
                reduce(ops, out, 0);
                if (ops.isEmpty()) {
                    throw new Fault(t.place);
                }
                ops.pop();
                reduce(ops, out, 7);
            } else if (RANK.containsKey(w) && !w.equals("not")) {
                int rank = RANK.get(w);
                if (rank == 4) {
                    reduce(ops, out, 5);
                    if (!ops.isEmpty() && (ops.peek().equals("<") || ops.peek().equals("="))) {
                        throw new Fault(t.place);
                    }
                } else {
                    reduce(ops, out, rank);
                }
                ops.push(w);
                wantsOne = true;
            } else {
                throw new Fault(t.place);
            }
        }
    }

    /** Joins all on the stack that bind as strongly as the rank or more. */
    private static void reduce(Deque<String> ops, Deque<Tree> out, int rank) {
        while (!ops.isEmpty() && !ops.peek().equals("(") && RANK.get(ops.peek()) >= rank) {
            String op = ops.pop();
            Tree b = out.pop();
            if (op.equals("not")) {
                out.push(n -> b.value(n) == 0 ? 1 : 0);
            } else if (op.equals("neg")) {
                out.push(n -> -b.value(n));
            } else {
                Tree a = out.pop();
                out.push(n -> join(op, a.value(n), b.value(n)));
            }
        }
    }

    private static int join(String op, int a, int b) {
        switch (op) {
            case "or": return (a != 0) | (b != 0) ? 1 : 0;
            case "and": return (a != 0) & (b != 0) ? 1 : 0;
            case "<": return a < b ? 1 : 0;
            case "=": return a == b ? 1 : 0;
            case "+": return a + b;
            case "-": return a - b;
            default: return a * b;
        }
    }

    // ---- the shore

    static int apart(int a, int b) {
        int n = 0;
        while ((a + n) % 12 != b && (b + n) % 12 != a) {
            n++;
        }
        return n;
    }

    static final class Shore {
        List<Piece> pieces = new ArrayList<>();
        int tide = 0;
        int rule = 0;
        List<Text> texts;

        Shore twin() {
            Shore s = new Shore();
            for (Piece p : pieces) {
                s.pieces.add(p.twin());
            }
            s.tide = tide;
            s.rule = rule;
            s.texts = texts;
            return s;
        }

        private Map<String, Integer> names(Piece p, Piece other) {
            return Map.of("sharp", p.sharp, "theirs", other == null ? 0 : other.sharp,
                    "apart", other == null ? 0 : apart(p.place, other.place),
                    "number", p.number, "tide", tide, "place", p.place);
        }

        int wears(Piece p) {
            int v = Math.max(0, Math.min(99, texts.get(rule).wears.value(names(p, null))));
            return Math.max(0, Math.min(99, p.wears(this, v)));
        }

        int carried(Piece p) {
            return p.carried(this, Math.max(-99, Math.min(99, texts.get(rule).carries.value(names(p, null)))));
        }

        boolean clashes(Piece p, Piece other) {
            return p.clashes(this, other, texts.get(rule).clashes.value(names(p, other)) != 0);
        }

        boolean cant(int i, int j) {
            return clashes(pieces.get(i), pieces.get(j)) || clashes(pieces.get(j), pieces.get(i));
        }

        Shore behind() {
            Shore s = twin();
            for (int i = 0; i < pieces.size(); i++) {
                Piece p = s.pieces.get(i);
                p.sharp = Math.max(0, p.sharp - wears(pieces.get(i)));
                p.place = ((p.place + carried(pieces.get(i))) % 12 + 12) % 12;
            }
            s.tide = tide + 1;
            return s;
        }

        Shore behind(int n) {
            Shore s = this;
            for (int i = 0; i < n; i++) {
                s = s.behind();
            }
            return s;
        }

        int round() {
            return (int) pieces.stream().filter(p -> p.sharp == 0).count();
        }

        int places() {
            return (int) pieces.stream().map(p -> p.place).distinct().count();
        }

        int together() {
            return pieces.stream().mapToInt(p -> p.sharp).sum();
        }

        int firstOtherwise(List<Integer> told, int piece) {
            Shore s = this;
            for (int i = 0; i < told.size(); i++) {
                if (s.pieces.get(piece).sharp != told.get(i)) {
                    return i;
                }
                s = s.behind();
            }
            return -1;
        }
    }

    private final List<Text> texts = new ArrayList<>(List.of(FIRST));
    private Shore now = new Shore();
    private Shore image = null;
    private final StringBuilder tape = new StringBuilder();
    private final Object[] sheets = new Object[4];

    Model() {
        now.texts = texts;
    }

    private boolean none(int piece) {
        return piece < 0 || piece >= now.pieces.size();
    }

    private static boolean out(int v, int most) {
        return v < 0 || v > most;
    }

    // ---- pieces

    int set(int what, int of, int v) {
        int[] most = {999, 9, 99, 11, 1};
        if (out(what, 4) || out(v, most[what]) || what > 0 && none(of)) {
            return BAD;
        }
        int was = told(of, what);
        switch (what) {
            case 0: now.tide = v; break;
            case 1: now.pieces.get(of).number = v; break;
            case 2: now.pieces.get(of).sharp = v; break;
            case 3: now.pieces.get(of).place = v; break;
            default: now.pieces.get(of).side = v;
        }
        return was;
    }

    int piece(int kind, int number, int sharp, int where) {
        if (out(kind, 5) || out(number, 9) || out(sharp, 99) || out(where, 11) && out(where - 100, 11)) {
            return BAD;
        }
        if (now.pieces.size() == 8) {
            return FULL;
        }
        Piece p = ofKind(kind);
        p.number = number;
        p.sharp = sharp;
        p.side = where >= 100 ? 1 : 0;
        p.place = where - 100 * p.side;
        now.pieces.add(p);
        return now.pieces.size() - 1;
    }

    int told(int of, int what) {
        if (what == 0) {
            return now.tide;
        }
        if (what == 8 && !out(of, 11)) {
            int bits = 0;
            for (int i = 0; i < now.pieces.size(); i++) {
                bits += now.pieces.get(i).place == of ? 1 << i : 0;
            }
            return bits;
        }
        if (what < 1 || what > 7 || none(of)) {
            return BAD;
        }
        Piece p = now.pieces.get(of);
        switch (what) {
            case 1: return p.number;
            case 2: return p.sharp;
            case 3: return p.place;
            case 4: return p.side;
            case 5: return KINDS.indexOf(p.getClass());
            case 6: return now.wears(p);
            default:
                int bits = 0;
                for (int i = 0; i < now.pieces.size(); i++) {
                    bits += i != of && now.clashes(p, now.pieces.get(i)) ? 1 << i : 0;
                }
                return bits;
        }
    }

    int carried(int piece) {
        return none(piece) ? -1000 : now.carried(now.pieces.get(piece));
    }

    // ---- texts

    int feed(int letter) {
        if (out(letter, 255)) {
            return BAD;
        }
        if (tape.length() == 160) {
            return FULL;
        }
        tape.append((char) letter);
        return tape.length();
    }

    int text() {
        if (texts.size() == 6) {
            return FULL;
        }
        String read = tape.toString();
        tape.setLength(0);
        try {
            texts.add(read(read));
            return texts.size() - 1;
        } catch (Fault f) {
            return -100 - f.place;
        }
    }

    int force(int text) {
        if (out(text, texts.size() - 1)) {
            return BAD;
        }
        int was = now.rule;
        now.rule = text;
        return was;
    }

    // ---- tides, walks

    int tide() {
        if (now.tide == 999) {
            return STATE;
        }
        now = now.behind();
        return now.round();
    }

    int run(int piece, int n, int what) {
        if (none(piece) || out(n, 60) || out(what, 4)) {
            return BAD;
        }
        Shore s = now.behind(n);
        int[] all = {s.pieces.get(piece).sharp, s.pieces.get(piece).place, s.together(), s.round(), s.places()};
        return all[what];
    }

    int all(int what) {
        switch (what) {
            case 0:
                Shore s = now;
                for (int n = 0; n <= 60; n++, s = s.behind()) {
                    if (s.together() == 0) {
                        return n;
                    }
                }
                return -1;
            case 1: return now.round();
            case 2: return now.places();
            case 3:
                int best = -1;
                int far = -1;
                for (int i = 0; i < now.pieces.size(); i++) {
                    int mine = now.pieces.get(i).place;
                    int sum = now.pieces.stream().mapToInt(p -> apart(p.place, mine)).sum();
                    if (sum > far) {
                        far = sum;
                        best = i;
                    }
                }
                return best;
            default: return BAD;
        }
    }

    int meet(int one, int other) {
        if (none(one) || none(other) || one == other) {
            return BAD;
        }
        Shore s = now;
        for (int n = 0; n <= 60; n++, s = s.behind()) {
            if (s.pieces.get(one).place == s.pieces.get(other).place) {
                return n;
            }
        }
        return -1;
    }

    /** What a sheet tells, whatever its sort. */
    private List<Integer> numbers(int sheet) {
        List<Integer> all = new ArrayList<>();
        for (int i = 0; i < java.lang.reflect.Array.getLength(sheets[sheet]); i++) {
            all.add(java.lang.reflect.Array.getInt(sheets[sheet], i));
        }
        return all;
    }

    int walk(int sheet) {
        if (out(sheet, 3)) {
            return BAD;
        }
        if (sheets[sheet] == null) {
            return -11;
        }
        int hurt = 0;
        for (int place : numbers(sheet)) {
            if (out(place, 11)) {
                return BAD;
            }
            hurt += now.pieces.stream().anyMatch(p -> p.place == place && p.sharp > 30) ? 1 : 0;
        }
        return hurt;
    }

    // ---- jars, twos

    /** The fewest and the first way as digits, of all ways there are, for the pieces of this list. */
    private int[] jarsOf(List<Integer> which) {
        int[] best = {0, 0};
        if (!which.isEmpty()) {
            best[0] = 99;
            ways(which, 0, new int[which.size()], 0, best);
        }
        return best;
    }

    private void ways(List<Integer> which, int at, int[] jar, int used, int[] best) {
        if (at == which.size()) {
            int digits = 0;
            for (int j : jar) {
                digits = digits * 10 + j;
            }
            if (used < best[0] || used == best[0] && digits < best[1]) {
                best[0] = used;
                best[1] = digits;
            }
            return;
        }
        next:
        for (int j = 1; j <= used + 1; j++) {
            for (int i = 0; i < at; i++) {
                if (jar[i] == j && now.cant(which.get(i), which.get(at))) {
                    continue next;
                }
            }
            jar[at] = j;
            ways(which, at + 1, jar, Math.max(used, j), best);
        }
    }

    int jars(int what) {
        if (out(what, 3)) {
            return BAD;
        }
        List<Integer> every = new ArrayList<>();
        for (int i = 0; i < now.pieces.size(); i++) {
            every.add(i);
        }
        if (what < 2) {
            return jarsOf(every)[what];
        }
        int left = -1;
        int fewest = 99;
        for (Integer i : every) {
            List<Integer> rest = new ArrayList<>(every);
            rest.remove(i);
            int needed = jarsOf(rest)[0];
            if (needed < fewest) {
                fewest = needed;
                left = i;
            }
        }
        return what == 2 ? left : left < 0 ? 0 : fewest;
    }

    int can(int one, int other) {
        if (none(one) || none(other) || one == other) {
            return BAD;
        }
        return now.cant(one, other) ? 0 : 1;
    }

    int twos(int n) {
        if (out(n, 6)) {
            return BAD;
        }
        List<int[]> pairs = new ArrayList<>();
        for (int i = 0; i < now.pieces.size(); i++) {
            for (int j = 0; j < i; j++) {
                Piece p = now.pieces.get(i);
                Piece q = now.pieces.get(j);
                if (p.side != q.side && p.number == q.number && apart(p.place, q.place) <= n) {
                    pairs.add(new int[] {i, j});
                }
            }
        }
        return most(pairs, 0, new HashSet<>());
    }

    private static int most(List<int[]> pairs, int at, Set<Integer> used) {
        if (at == pairs.size()) {
            return used.size() / 2;
        }
        int best = most(pairs, at + 1, used);
        int[] pair = pairs.get(at);
        if (!used.contains(pair[0]) && !used.contains(pair[1])) {
            Set<Integer> more = new HashSet<>(used);
            more.add(pair[0]);
            more.add(pair[1]);
            best = Math.max(best, most(pairs, at + 1, more));
        }
        return best;
    }

    int toss(int piece, int what) {
        if (none(piece) || out(what, 1)) {
            return BAD;
        }
        int best = -1;
        int fewest = 99;
        for (int place = 0; place < 12; place++) {
            Shore s = now.twin();
            s.pieces.get(piece).place = place;
            int n = 0;
            while (n <= 60 && s.pieces.get(piece).sharp != 0) {
                s = s.behind();
                n++;
            }
            if (n < fewest) {
                fewest = n;
                best = place;
            }
        }
        return what == 0 ? best : fewest;
    }

    private static long lowest(int above, int below, int part) {
        for (int d = below; d > 1; d--) {
            if (above % d == 0 && below % d == 0) {
                return (part == 0 ? above : below) / d;
            }
        }
        return part == 0 ? above : below;
    }

    long mean(int part) {
        return out(part, 1) || now.pieces.isEmpty() ? NO : lowest(now.together(), now.pieces.size(), part);
    }

    // ---- what was told of one

    int tells(int sheet, int piece, int what) {
        if (out(sheet, 3) || none(piece) || out(what, 7)) {
            return BAD;
        }
        if (sheets[sheet] == null) {
            return -11;
        }
        List<Integer> told = numbers(sheet);
        if (told.size() > 30) {
            return BAD;
        }
        if (what == 0) {
            return now.firstOtherwise(told, piece);
        }
        List<Integer> so = new ArrayList<>();
        int[] tries = {0, 6, 10, 100, 100, 12, texts.size(), now.pieces.size()};
        for (int v = 0; v < tries[what]; v++) {
            Shore s = now.twin();
            Piece p = s.pieces.get(piece);
            switch (what) {
                case 1: s.pieces.set(piece, p.as(v)); break;
                case 2: p.number = v; break;
                case 5: p.place = v; break;
                case 6: s.rule = v; break;
                case 7: break;
                default: p.sharp = v;
            }
            if (s.firstOtherwise(told, what == 7 ? v : piece) == -1) {
                so.add(v);
            }
        }
        if (what == 3) {
            return so.size();
        }
        if (what == 4) {
            return so.isEmpty() ? -1 : so.get(0);
        }
        return so.stream().mapToInt(v -> 1 << v).sum();
    }

    int film(int sheet, int piece, int n) {
        if (out(sheet, 3) || none(piece) || out(n, 30)) {
            return BAD;
        }
        byte[] row = new byte[n];
        for (int i = 0; i < n; i++) {
            row[i] = (byte) now.behind(i).pieces.get(piece).sharp;
        }
        sheets[sheet] = row;
        return n;
    }

    int drawn(int seed, int n) {
        if (out(n, 40)) {
            return BAD;
        }
        Shore s = now.twin();
        int z = seed;
        for (int i = 0; i < n; i++) {
            z = (int) ((long) z * 1103515245L + 12345L);
            int struck = (int) ((z & 0xffffffffL) / 512 % 16);
            if (struck < s.pieces.size()) {
                s.pieces.get(struck).sharp = 99;
            }
            s = s.behind();
        }
        return s.round();
    }

    long chance(int seed, int m, int k, int part) {
        if (m < 1 || m > 20 || out(k, 8) || out(part, 1)) {
            return NO;
        }
        int those = 0;
        for (int i = 0; i < m; i++) {
            those += drawn(seed + i, 20) >= k ? 1 : 0;
        }
        return lowest(those, m, part);
    }

    int image() {
        image = now.twin();
        return now.pieces.size();
    }

    int back() {
        if (image == null) {
            return STATE;
        }
        now = image.twin();
        return now.pieces.size();
    }

    int count(int what) {
        int twos = 0;
        for (int i = 0; i < now.pieces.size(); i++) {
            for (int j = 0; j < i; j++) {
                twos += now.cant(i, j) ? 1 : 0;
            }
        }
        int[] all = {now.pieces.size(), twos, now.tide, texts.size(), tape.length(), now.rule};
        return out(what, 5) ? BAD : all[what];
    }

    // ---- the host: what the machine throws is what is answered

    int sheet(int sheet, int sort, int n) {
        if (out(sheet, 3) || sort < -1 || sort > 2 || sort >= 0 && n > 40) {
            return BAD;
        }
        try {
            sheets[sheet] = sort == -1 ? null : sort == 0 ? new byte[n] : sort == 1 ? new short[n] : (Object) new int[n];
            return 1;
        } catch (NegativeArraySizeException e) {
            return -14;
        }
    }

    int cell(int sheet, int i, int v) {
        if (out(sheet, 3)) {
            return BAD;
        }
        try {
            if (sheets[sheet] instanceof byte[] b) {
                b[i] = (byte) v;
            } else if (sheets[sheet] instanceof short[] s) {
                s[i] = (short) v;
            } else {
                ((int[]) sheets[sheet])[i] = v;
            }
            return 1;
        } catch (NullPointerException e) {
            return -11;
        } catch (ArrayIndexOutOfBoundsException e) {
            return -12;
        }
    }

    @SuppressWarnings("SuspiciousSystemArraycopy")
    int copy(int sheet, int i, int other, int j, int n) {
        if (out(sheet, 3) || out(other, 3)) {
            return BAD;
        }
        try {
            System.arraycopy(sheets[sheet], i, sheets[other], j, n);
            return n;
        } catch (NullPointerException e) {
            return -11;
        } catch (ArrayStoreException e) {
            return -13;
        } catch (IndexOutOfBoundsException e) {
            return -12;
        }
    }

    int finds(int sheet, int sort, int from, int n) {
        if (out(sheet, 3) || out(sort, 2) || out(n, 8)) {
            return BAD;
        }
        try {
            Object row = sort == 0 ? (byte[]) sheets[sheet] : sort == 1 ? (short[]) sheets[sheet] : (Object) (int[]) sheets[sheet];
            java.lang.reflect.Array.getLength(row);
            int came = 0;
            for (int k = 0; k < n; k++) {
                int[] four = new int[4];
                for (int i = 0; i < 4; i++) {
                    four[i] = java.lang.reflect.Array.getInt(row, from + 4 * k + i);
                }
                came += piece(four[0], four[1], four[2], four[3]) >= 0 ? 1 : 0;
            }
            return came;
        } catch (ClassCastException e) {
            return -13;
        } catch (NullPointerException e) {
            return -11;
        } catch (ArrayIndexOutOfBoundsException e) {
            return -12;
        }
    }

    int taken(int piece, int k) {
        if (out(k, 5)) {
            return BAD;
        }
        try {
            return KINDS.get(k).cast(none(piece) ? null : now.pieces.get(piece)).number;
        } catch (ClassCastException e) {
            return -13;
        } catch (NullPointerException e) {
            return -11;
        }
    }
}
