import java.util.Random;

/** Leading on whole boards with winding ways and dear or cheap sides, compared with the plain model. */
public final class MazeTest {
    // Seeds 480 and 555 are the first to tell a disordered heap in the finder.
    private static final int BOARDS = 600, CALLS = 500;
    private static final Due DUE = new Due();

    private final Random random;
    private final int seed;
    private final LineBundles x = new LineBundles();
    private final PlainModel y = new PlainModel();
    private int calls;

    private MazeTest(int seed) {
        this.seed = seed;
        this.random = new Random(seed);
    }

    public static void main(String[] args) {
        for (int seed = 0; seed < BOARDS; seed++) {
            new MazeTest(seed).run();
        }
        DUE.end();
    }

    private void due(String call, int got, int want) {
        DUE.same("seed " + seed + ": " + call, got, want);
        calls++;
    }

    private void run() {
        for (int i = 0; i < 12; i++) {
            int px = random.nextInt(10), py = random.nextInt(10);
            due("point", x.point(px, py), y.point(px, py));
        }
        for (int i = 0; i < 12; i++) {
            int a = random.nextInt(12), b = random.nextInt(12);
            due("line", x.line(a, b), y.line(a, b));
        }
        while (calls < CALLS - 130) {
            wall();
            rules();
            lead(random.nextInt(12));
            lead(random.nextInt(12));
        }
    }

    private void wall() {
        int turned = random.nextInt(20);
        for (int i = 0; i < turned; i++) {
            int px = random.nextInt(10), py = random.nextInt(10);
            if (random.nextInt(3) > 0) {
                due("shut", x.shut(px, py), y.shut(px, py));
            } else {
                due("open", x.open(px, py), y.open(px, py));
            }
        }
    }

    private void rules() {
        int base = 1 + random.nextInt(100), save = random.nextInt(random.nextBoolean() ? 51 : 12);
        due("base", x.rule(0, base), y.rule(0, base));
        due("save", x.rule(1, save), y.rule(1, save));
    }

    private void lead(int line) {
        due("lead " + line, x.lead(line), y.lead(line));
        int sides = y.way(line, -1);
        for (int i = -1; i <= sides; i++) {
            due("way(" + line + ", " + i + ")", x.way(line, i), y.way(line, i));
        }
    }
}
