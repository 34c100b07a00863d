import java.lang.reflect.Constructor;
import java.lang.reflect.Field;
import java.lang.reflect.Method;
import java.lang.reflect.Modifier;
import java.nio.charset.StandardCharsets;
import java.nio.file.Files;
import java.nio.file.Path;
import java.util.ArrayList;
import java.util.Arrays;
import java.util.HashMap;
import java.util.List;
import java.util.Map;
import java.util.Set;
import java.util.TreeSet;
import java.util.regex.Matcher;
import java.util.regex.Pattern;

/** The document's face, and those rules of LANGUAGE.md that can be seen from the source or the class. */
public final class LanguageTest {
    private static final Check C = new Check();

    private static final String[] FACE = {
        "int set(int,int,int)", "int piece(int,int,int,int)", "int told(int,int)", "int carried(int)", "int feed(int)",
        "int text()", "int force(int)", "int tide()", "int run(int,int,int)", "int all(int)", "int meet(int,int)",
        "int walk(int)", "int jars(int)", "int can(int,int)", "int twos(int)", "int toss(int,int)", "long mean(int)",
        "int tells(int,int,int)", "int film(int,int,int)", "int drawn(int,int)", "long chance(int,int,int,int)",
        "int image()", "int back()", "int count(int)", "int sheet(int,int,int)", "int cell(int,int,int)",
        "int copy(int,int,int,int,int)", "int finds(int,int,int,int)", "int taken(int,int)"};

    public static void main(String[] args) throws Exception {
        String path = args.length > 0 ? args[0] : "src/main/java/EdgesOff.java";
        String source = Files.readString(Path.of(path), StandardCharsets.ISO_8859_1);
        theFace();
        theConstants();
        classesInside();
        C.holds("rule 3, 4: signs of the source are 1 to 127", source.chars().allMatch(c -> c >= 1 && c <= 127));
        String bare = bare(source);
        words(bare);
        library(bare);
        methods(bare);
        C.end();
    }

    private static void theFace() {
        Class<?> x = EdgesOff.class;
        C.holds("rule 1: public and final", Modifier.isPublic(x.getModifiers()) && Modifier.isFinal(x.getModifiers()));
        Set<String> names = new TreeSet<>();
        Set<String> seen = new TreeSet<>();
        for (Method m : x.getDeclaredMethods()) {
            if (Modifier.isPrivate(m.getModifiers())) {
                continue;
            }
            StringBuilder of = new StringBuilder();
            for (Class<?> p : m.getParameterTypes()) {
                of.append(of.length() == 0 ? "" : ",").append(p.getName());
            }
            seen.add(m.getReturnType().getName() + " " + m.getName() + "(" + of + ")");
            names.add(m.getName());
            C.holds("public, not static: " + m, m.getModifiers() == Modifier.PUBLIC);
        }
        C.holds("rule 1: the document's methods and no other: " + seen, seen.equals(new TreeSet<>(Arrays.asList(FACE))));
        Constructor<?>[] made = x.getDeclaredConstructors();
        C.holds("one constructor, public, of nothing",
                made.length == 1 && Modifier.isPublic(made[0].getModifiers()) && made[0].getParameterCount() == 0);
        List<Class<?>> all = new ArrayList<>(Arrays.asList(x.getDeclaredClasses()));
        all.add(x);
        for (Class<?> one : all) {
            for (Method m : one.getDeclaredMethods()) {
                C.holds("rule 1: a name of the face: " + m, one == x && Modifier.isPublic(m.getModifiers()) || !names.contains(m.getName()));
                C.holds("rule 11: seven parameters at most: " + m, m.getParameterCount() <= 7);
            }
        }
    }

    private static void theConstants() throws Exception {
        Map<String, Object> due = Map.of("NONE", -1, "BAD", -2, "STATE", -3, "FULL", -4, "NO", -4611686018427387904L);
        Map<String, Object> seen = new HashMap<>();
        for (Field f : EdgesOff.class.getDeclaredFields()) {
            if (!Modifier.isPrivate(f.getModifiers())) {
                seen.put(f.getName(), f.get(null));
            }
        }
        C.holds("rule 1: the document's constants and no other: " + seen, seen.equals(due));
    }

    private static void classesInside() {
        List<Class<?>> all = new ArrayList<>(Arrays.asList(EdgesOff.class.getDeclaredClasses()));
        C.holds("rule 11: twelve classes at most", all.size() <= 11);
        for (Class<?> one : all) {
            C.holds("rule 1, 2: private or package-visible, and static: " + one, Modifier.isStatic(one.getModifiers())
                    && !Modifier.isPublic(one.getModifiers()) && !Modifier.isProtected(one.getModifiers()));
        }
        all.add(EdgesOff.class);
        for (Class<?> one : all) {
            int fields = 0;
            for (Field f : one.getDeclaredFields()) {
                fields += Modifier.isStatic(f.getModifiers()) ? 0 : 1;
                C.holds("rule 5: static means final: " + f, !Modifier.isStatic(f.getModifiers()) || Modifier.isFinal(f.getModifiers()));
                C.holds("rule 5: a static field's type: " + f, !Modifier.isStatic(f.getModifiers()) || Set.of("int", "long",
                        "boolean", "char", "String", "int[]", "long[]", "char[]", "byte[]").contains(f.getType().getSimpleName()));
            }
            C.holds("rule 11: twenty fields at most: " + one, fields <= 20);
        }
    }

    /** The source without its comments and without what stands in quotes. */
    private static String bare(String source) {
        Matcher m = Pattern.compile("/\\*.*?\\*/|//[^\n]*|\"(?:\\\\.|[^\"\\\\])*\"|'(?:\\\\.|[^'\\\\])*'", Pattern.DOTALL).matcher(source);
        return m.replaceAll(r -> r.group().startsWith("\"") ? "\"\"" : r.group().startsWith("'") ? "'_'" : "");
    }

    private static void words(String bare) {
        String[] none = {"throw", "throws", "try", "catch", "finally", "synchronized", "assert", "var", "native", "volatile",
            "transient", "strictfp", "package", "Object", "System.out", "System.exit", "double", "float", "yield"};
        for (String word : none) {
            C.holds("rule 6, 3: " + word, !Pattern.compile("\\b" + Pattern.quote(word) + "\\b").matcher(bare).find());
        }
        C.holds("rule 2: no lambda, no method reference", !bare.contains("->") && !bare.contains("::"));
        C.holds("rule 5: no static block", !Pattern.compile("\\bstatic\\s*\\{").matcher(bare).find());
        C.holds("rule 10: texts are not joined by +", !Pattern.compile("\"\"\\s*\\+|\\+\\s*\"\"").matcher(bare).find());
        C.holds("rule 9: no loop without an end", !Pattern.compile("while\\s*\\(\\s*true|for\\s*\\([^;]*;\\s*;").matcher(bare).find());
    }

    private static void library(String bare) {
        Matcher m = Pattern.compile("\\bimport\\s+([^;]+);").matcher(bare);
        while (m.find()) {
            C.holds("rule 4: import " + m.group(1), Set.of("java.util.Arrays", "java.util.ArrayList", "java.util.List").contains(m.group(1)));
        }
        Set<String> may = Set.of("Math.max", "Math.min", "Math.abs", "Math.floorMod", "Arrays.fill", "Arrays.copyOf",
                "System.arraycopy", "Integer.bitCount");
        m = Pattern.compile("\\b(Math|Arrays|System|Integer|Long|String)\\.\\w+").matcher(bare);
        while (m.find()) {
            C.holds("rule 4: " + m.group(), may.contains(m.group()));
        }
    }

    private static void methods(String bare) {
        Map<String, Set<String>> calls = new HashMap<>();
        Matcher m = Pattern.compile("^( {4}| {8})(?:(?:public|private|static|final) )*(?:[\\w\\[\\]]+ )?(\\w+)\\([^;{]*\\) \\{$", Pattern.MULTILINE)
                .matcher(bare);
        while (m.find()) {
            if (Set.of("if", "for", "while", "switch", "else").contains(m.group(2))) {
                continue;
            }
            int end = bare.indexOf("\n" + m.group(1) + "}", m.end());
            String body = bare.substring(m.end(), end);
            C.holds("rule 11: sixty lines at most: " + m.group(2), body.lines().count() <= 60);
            Set<String> to = calls.computeIfAbsent(m.group(2), k -> new TreeSet<>());
            Matcher call = Pattern.compile("\\b(\\w+)\\(").matcher(body);
            while (call.find()) {
                to.add(call.group(1));
            }
        }
        C.holds("all methods were found", calls.size() > 80 && calls.containsKey("EdgesOff"));
        onlyWhatTheRulesName(calls);
        for (String from : calls.keySet()) {
            List<String> deepest = deepest(from, calls, new ArrayList<>());
            C.holds("rule 11: eight deep at most: " + deepest, deepest.size() <= 8);
        }
    }

    private static void onlyWhatTheRulesName(Map<String, Set<String>> calls) {
        Set<String> may = new TreeSet<>(Set.of("if", "for", "while", "switch", "max", "min", "abs", "floorMod", "fill", "copyOf",
                "arraycopy", "bitCount", "charAt", "indexOf"));
        for (Class<?> one : EdgesOff.class.getDeclaredClasses()) {
            may.add(one.getSimpleName());
        }
        for (Map.Entry<String, Set<String>> one : calls.entrySet()) {
            for (String to : one.getValue()) {
                C.holds("rule 4: " + one.getKey() + " calls " + to, may.contains(to) || calls.containsKey(to));
            }
        }
    }

    /** The longest chain of calls from a method on in which none stands twice, by the methods' names. */
    private static List<String> deepest(String from, Map<String, Set<String>> calls, List<String> open) {
        List<String> best = new ArrayList<>();
        open.add(from);
        for (String to : calls.get(from)) {
            if (calls.containsKey(to) && !open.contains(to)) {
                List<String> behind = deepest(to, calls, open);
                best = behind.size() > best.size() ? behind : best;
            }
        }
        open.remove(open.size() - 1);
        best = new ArrayList<>(best);
        best.add(0, from);
        return best;
    }
}
