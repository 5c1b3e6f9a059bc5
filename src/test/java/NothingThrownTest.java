import java.lang.reflect.InvocationTargetException;
import java.lang.reflect.Method;
import java.util.ArrayList;
import java.util.Comparator;
import java.util.List;
import java.util.Random;

/** "No call may ever throw": calls with any numbers in any state, far beyond the 512 calls whose answers are told. */
public final class NothingThrownTest {
    private static final int OBJECTS = 12, CALLS = 8000;
    private static final int[] EDGES = {Integer.MIN_VALUE, -1000000, -2, -1, 10, 11, 12, 40, 41, 59, 60, 61, 100, 101,
        Integer.MAX_VALUE};
    private static final Due DUE = new Due();

    public static void main(String[] args) throws IllegalAccessException {
        List<Method> face = new ArrayList<>();
        for (Method m : LineBundles.class.getDeclaredMethods()) {
            if (java.lang.reflect.Modifier.isPublic(m.getModifiers())) {
                face.add(m);
            }
        }
        face.sort(Comparator.comparing(Method::getName));
        DUE.same("calls of the face", face.size(), 27);
        for (int seed = 0; seed < OBJECTS; seed++) {
            run(face, new Random(seed), 2 + seed % 9);
        }
        DUE.end();
    }

    /** Most numbers are below a small one, so that many calls are not refused. */
    private static void run(List<Method> face, Random random, int below) throws IllegalAccessException {
        LineBundles x = new LineBundles();
        for (int i = 0; i < CALLS; i++) {
            Method m = face.get(random.nextInt(face.size()));
            Object[] given = new Object[m.getParameterCount()];
            for (int k = 0; k < given.length; k++) {
                given[k] = random.nextInt(10) > 0 ? random.nextInt(below) : EDGES[random.nextInt(EDGES.length)];
            }
            try {
                m.invoke(x, given);
            } catch (InvocationTargetException e) {
                DUE.same(m + " threw " + e.getCause(), 1, 0);
            }
        }
    }
}
