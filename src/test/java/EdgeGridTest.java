import java.lang.reflect.Method;
import java.util.Arrays;
import java.util.HashMap;
import java.util.Map;

/** Each call with edge numbers in all its places, in all combinations, compared with the plain model. */
public final class EdgeGridTest {
    private static final int MIN = Integer.MIN_VALUE, MAX = Integer.MAX_VALUE;
    private static final int[] EDGES = {MIN, -1000001, -1000000, -2, -1, 0, 1, 2, 3, 4, 5, 6, 7, 8, 9, 10, 11, 12, 50, 51,
        60, 61, 100, 101, 255, 65535, MAX};
    private static final int[] FEW = {MIN, -1, 0, 1, 2, 3, 4, 7, 8, 59, 60, 61, MAX};
    private static final int[] SHEETS = {-1, 0, 1, 2, 3, 7, 8}, LINES = {-1, 0, 1, 2, 3, 11, 12};
    private static final int[] PLACES = {MIN, -1, 0, 1, 2, 3, 4, 60, 61, MAX};
    /** Fewer than an object is used for, with those that build the net and look at it. */
    private static final int CALLS = 250;
    private static final Map<String, Method> METHODS = new HashMap<>();
    private static final Due DUE = new Due();

    private final boolean crowded;
    private LineBundles x;
    private PlainModel y;
    private int calls;

    private EdgeGridTest(boolean crowded) {
        this.crowded = crowded;
    }

    public static void main(String[] args) {
        for (int i = 0; i < 2; i++) {
            EdgeGridTest test = new EdgeGridTest(i == 1);
            for (String name : "drop lead take all detour tint kind trace count".split(" ")) {
                test.grid(name, EDGES);
            }
            for (String name : "point shut open line rule way shared reads as ask".split(" ")) {
                test.grid(name, EDGES, EDGES);
            }
            test.grid("lay", LINES, SHEETS, PLACES, new int[] {MIN, -1, 0, 1, 2, 3, 4, 40, 41, MAX});
        }
        EdgeGridTest test = new EdgeGridTest(false);
        test.grid("sheet", SHEETS, EDGES, EDGES);
        test.grid("set", SHEETS, FEW, EDGES);
        test.grid("width", FEW, FEW, FEW);
        test.grid("copy", SHEETS, PLACES, SHEETS, PLACES, PLACES);
        DUE.end();
    }

    private void grid(String name, int[]... places) {
        begin();
        int[] at = new int[places.length];
        while (at[0] < places[0].length) {
            int[] numbers = new int[at.length];
            for (int i = 0; i < at.length; i++) {
                numbers[i] = places[i][at[i]];
            }
            both(name, numbers);
            both("status");
            if (calls > CALLS) {
                compare();
                begin();
            }
            step(at, places);
        }
        compare();
    }

    private static void step(int[] at, int[][] places) {
        int i = at.length - 1;
        at[i]++;
        while (i > 0 && at[i] == places[i].length) {
            at[i] = 0;
            i--;
            at[i]++;
        }
    }

    private void begin() {
        x = new LineBundles();
        y = new PlainModel();
        calls = 0;
        both("sheet", 0, 0, 4);
        both("sheet", 1, 0, 3);
        both("sheet", 2, 1, 60);
        both("set", 0, 0, 1);
        both("set", 0, 1, 2);
        both("set", 0, 2, 3);
        both("set", 1, 1, 1);
        int[][] points = {{0, 0}, {1, 0}, {1, 1}, {0, 1}, {9, 9}, {4, 0}, {4, 5}, {7, 2}, {2, 7}, {0, 9}, {9, 0}, {5, 5}};
        for (int i = 0; i < (crowded ? 12 : 5); i++) {
            both("point", points[i]);
        }
        for (int i = 0; i < (crowded ? 12 : 4); i++) {
            both("line", i % 4, (i + 1 + i / 4) % 4);
        }
        both("shut", 3, 3);
        both("shut", 9, 8);
        both(crowded ? "rest" : "pass");
        both("take", crowded ? 11 : 3);
        both("ask", 1, 1);
        both("drop", 5);
    }

    private void compare() {
        for (int i = 0; i < 8; i++) {
            both("count", i);
            both("all", i);
            both("trace", i);
        }
        for (int line = 0; line < 12; line++) {
            for (int i = -1; i < 3; i++) {
                both("way", line, i);
            }
        }
        for (int s = 0; s < 4; s++) {
            for (int i = 0; i < 4; i++) {
                both("lay", i, s, i, 1);
            }
            both("set", s, 0, 99999);
            both("drop", s);
        }
    }

    private void both(String name, int... numbers) {
        calls++;
        DUE.same(name + Arrays.toString(numbers) + (crowded ? " in a crowd" : ""), answer(x, name, numbers),
            answer(y, name, numbers));
    }

    private static int answer(Object of, String name, int[] numbers) {
        Object[] given = new Object[numbers.length];
        for (int i = 0; i < numbers.length; i++) {
            given[i] = numbers[i];
        }
        try {
            return (int) METHODS.computeIfAbsent(of.getClass() + name, key -> method(of, name, numbers.length))
                .invoke(of, given);
        } catch (ReflectiveOperationException e) {
            throw new IllegalStateException(name, e);
        }
    }

    private static Method method(Object of, String name, int numbers) {
        Class<?>[] types = new Class<?>[numbers];
        Arrays.fill(types, int.class);
        try {
            return of.getClass().getDeclaredMethod(name, types);
        } catch (NoSuchMethodException e) {
            throw new IllegalStateException(name, e);
        }
    }
}
