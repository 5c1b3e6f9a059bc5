import java.util.ArrayList;
import java.util.List;
import java.util.Random;

/** What lead() finds in a corner of 4 by 4 open places, compared with all WAYS that there are. */
public final class LeadTest {
    private static final int SPAN = 4, BOARDS = 150, LEADS = 18;
    private static final int[] DX = {0, 1, 0, -1};
    private static final int[] DY = {-1, 0, 1, 0};
    private static final Due DUE = new Due();

    private final Random random;
    private final LineBundles x = new LineBundles();
    private final boolean[] open = new boolean[SPAN * SPAN];
    private final List<int[]> points = new ArrayList<>();
    private final List<int[]> lines = new ArrayList<>();
    private final List<List<Integer>> ways = new ArrayList<>();
    private final int[][] widths = new int[SPAN * SPAN][4];
    private int base = 10, save = 3;

    private int bestCost;
    private List<Integer> best;

    private LeadTest(int seed) {
        random = new Random(seed);
    }

    public static void main(String[] args) {
        for (int seed = 0; seed < BOARDS; seed++) {
            new LeadTest(seed).run();
        }
        DUE.end();
    }

    private void run() {
        build();
        for (int i = 0; i < LEADS; i++) {
            if (random.nextInt(4) == 0) {
                base = 1 + random.nextInt(20);
                save = random.nextInt(12);
                x.rule(0, base);
                x.rule(1, save);
            }
            compare(random.nextInt(lines.size()));
        }
    }

    private void build() {
        for (int i = 0; i < 100; i++) {
            int px = i % 10, py = i / 10;
            boolean in = px < SPAN && py < SPAN;
            if (in) {
                open[py * SPAN + px] = random.nextInt(8) > 0;
            }
            if (!in || !open[py * SPAN + px]) {
                x.shut(px, py);
            }
        }
        for (int i = 0; i < SPAN * SPAN && points.size() < 6; i++) {
            int px = random.nextInt(SPAN), py = random.nextInt(SPAN);
            if (x.point(px, py) >= 0) {
                points.add(new int[] {px, py});
            }
        }
        for (int i = 0; i < 6; i++) {
            int a = random.nextInt(points.size()), b = (a + 1 + random.nextInt(points.size() - 1)) % points.size();
            x.line(a, b);
            lines.add(new int[] {a, b});
            ways.add(List.of());
        }
    }

    private void compare(int line) {
        int[] from = points.get(lines.get(line)[0]);
        count(from, ways.get(line), -1);
        best = null;
        walk(from[0], from[1], points.get(lines.get(line)[1]), new boolean[SPAN * SPAN], new ArrayList<>(), 0);
        DUE.same("lead", x.lead(line), best == null ? LineBundles.NONE : bestCost);
        DUE.same("sides", x.way(line, -1), best == null ? 0 : best.size());
        for (int i = 0; best != null && i < best.size(); i++) {
            DUE.same("direction " + i + " of " + best, x.way(line, i), best.get(i));
        }
        ways.set(line, best == null ? List.of() : best);
        count(from, ways.get(line), 1);
    }

    /** Widths are kept here, from both ends of each side, so that the object's calls stay under 512. */
    private void count(int[] from, List<Integer> way, int more) {
        int px = from[0], py = from[1];
        for (int d : way) {
            widths[py * SPAN + px][d] += more;
            px += DX[d];
            py += DY[d];
            widths[py * SPAN + px][(d + 2) % 4] += more;
        }
    }

    /** Directions are tried in their order, so that of equal WAYS the first found is the least. */
    private void walk(int px, int py, int[] to, boolean[] been, List<Integer> way, int cost) {
        if (px == to[0] && py == to[1]) {
            if (best == null || cost < bestCost || cost == bestCost && way.size() < best.size()) {
                best = new ArrayList<>(way);
                bestCost = cost;
            }
            return;
        }
        been[py * SPAN + px] = true;
        for (int d = 0; d < 4; d++) {
            int qx = px + DX[d], qy = py + DY[d];
            if (qx < 0 || qy < 0 || qx >= SPAN || qy >= SPAN || !open[qy * SPAN + qx] || been[qy * SPAN + qx]) {
                continue;
            }
            way.add(d);
            walk(qx, qy, to, been, way, cost + Math.max(1, base - save * widths[py * SPAN + px][d]));
            way.remove(way.size() - 1);
        }
        been[py * SPAN + px] = false;
    }
}
