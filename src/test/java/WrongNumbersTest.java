import java.lang.reflect.InvocationTargetException;
import java.lang.reflect.Method;
import java.lang.reflect.Modifier;
import java.util.ArrayList;
import java.util.Comparator;
import java.util.List;
import java.util.Random;

/** No call throws, whatever the numbers: each call with all of its edges crossed, and runs of drawn ones. */
public final class WrongNumbersTest {
    private static final Check C = new Check();
    private static final int[] EDGES = {
        0, 1, 2, 3, 4, 5, 7, 8, 9, 11, 12, 30, 31, 40, 41, 60, 61, 99, 100, 111, 160, 255, 256, 999, 1000, -1, -2, -100,
        Integer.MAX_VALUE, Integer.MIN_VALUE, Integer.MAX_VALUE - 3, Integer.MIN_VALUE + 1, 1 << 30, -(1 << 30)};
    private static final int RUNS = 600, CALLS = 512;

    public static void main(String[] args) throws Exception {
        List<Method> face = new ArrayList<>();
        for (Method m : EdgesOff.class.getDeclaredMethods()) {
            if (Modifier.isPublic(m.getModifiers())) {
                face.add(m);
            }
        }
        face.sort(Comparator.comparing(Method::getName));
        for (int seed = 0; seed < RUNS; seed++) {
            Random random = new Random(seed);
            EdgesOff x = new EdgesOff();
            for (int i = 0; i < CALLS; i++) {
                Method m = face.get(random.nextInt(face.size()));
                Object[] numbers = new Object[m.getParameterCount()];
                for (int k = 0; k < numbers.length; k++) {
                    numbers[k] = random.nextInt(3) == 0 ? EDGES[random.nextInt(EDGES.length)] : (Object) random.nextInt(4);
                }
                called(x, m, numbers, seed);
            }
        }
        C.end();
    }

    private static void called(EdgesOff x, Method m, Object[] numbers, int seed) throws IllegalAccessException {
        try {
            m.invoke(x, numbers);
            C.holds("", true);
        } catch (InvocationTargetException e) {
            C.holds("run " + seed + ": " + m.getName() + java.util.Arrays.toString(numbers) + " threw " + e.getCause(), false);
        }
    }
}
