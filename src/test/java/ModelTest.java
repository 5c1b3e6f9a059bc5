import java.util.Random;

/** Long random runs of calls, each answer compared with that of the plain model. */
public final class ModelTest {
    private static final int RUNS = 150, CROWDED_RUNS = 60, CALLS = 440;
    private static final Due DUE = new Due();

    private final Random random;
    private final int seed;
    private final LineBundles x = new LineBundles();
    private final PlainModel y = new PlainModel();
    private int line;

    private ModelTest(int seed) {
        this.seed = seed;
        this.random = new Random(seed);
    }

    public static void main(String[] args) {
        for (int seed = 0; seed < RUNS; seed++) {
            new ModelTest(seed).run();
        }
        for (int seed = RUNS; seed < RUNS + CROWDED_RUNS; seed++) {
            new ModelTest(seed).runCrowded();
        }
        DUE.end();
    }

    private void run() {
        int span = 3 + random.nextInt(8);
        int points = 2 + random.nextInt(12);
        int lines = 1 + random.nextInt(13);
        int calls = build(span, points, lines, random.nextInt(span * span / 3));
        while (calls < CALLS) {
            calls += step(span);
        }
    }

    /** All LINES there can be, in a small room, so that many share their SIDES, up to all of them. */
    private void runCrowded() {
        int span = 2 + random.nextInt(3);
        int calls = build(span, 2 + random.nextInt(3), 40, random.nextInt(2));
        calls += wallIn(span);
        if (random.nextBoolean()) {
            due("pass", x.pass(), y.pass());
            calls++;
        }
        while (calls < CALLS) {
            calls += random.nextInt(3) == 0 ? wanders(span) : random.nextInt(3) == 0 ? tints() : step(span);
        }
    }

    private int wallIn(int span) {
        for (int i = 0; i <= span && span < 10; i++) {
            due("shut", x.shut(span, i), y.shut(span, i));
            due("shut", x.shut(i, span), y.shut(i, span));
        }
        return 2 * span + 2;
    }

    private int build(int span, int points, int lines, int shuts) {
        int calls = 0;
        for (int i = 0; i < points; i++, calls++) {
            int px = random.nextInt(span), py = random.nextInt(span);
            due("point(" + px + ", " + py + ")", x.point(px, py), y.point(px, py));
        }
        for (int i = 0; i < lines; i++, calls++) {
            int a = random.nextInt(points), b = random.nextInt(points);
            due("line(" + a + ", " + b + ")", x.line(a, b), y.line(a, b));
        }
        for (int i = 0; i < shuts; i++, calls++) {
            int px = random.nextInt(span), py = random.nextInt(span);
            due("shut(" + px + ", " + py + ")", x.shut(px, py), y.shut(px, py));
        }
        return calls;
    }

    private void due(String call, int got, int want) {
        DUE.same("seed " + seed + ": " + call, got, want);
    }

    /** A number from 0 to less than n, or now and then one that is out of it. */
    private int some(int n) {
        int odd = random.nextInt(60);
        if (odd == 0) return n;
        if (odd == 1) return -1;
        if (odd == 2) return random.nextInt();
        return n > 0 ? random.nextInt(n) : 0;
    }

    private int step(int span) {
        switch (random.nextInt(12)) {
            case 0:
                return sheets();
            case 1:
                return net(span);
            case 2:
            case 3:
                return leads();
            case 4:
                return lays();
            case 5:
                return asks();
            case 6:
                return looks();
            case 7:
                return reading();
            default:
                return measures();
        }
    }

    private int sheets() {
        int a = some(3), b = some(3), i = some(6), j = some(6), n = some(7);
        due("sheet", x.sheet(a, b, n), y.sheet(a, b, n));
        int v = random.nextInt();
        due("set", x.set(b, i, v), y.set(b, i, v));
        due("status", x.status(), y.status());
        due("copy", x.copy(a, i, b, j, n), y.copy(a, i, b, j, n));
        due("status", x.status(), y.status());
        if (random.nextInt(4) == 0) {
            due("drop", x.drop(b), y.drop(b));
        }
        due("count 0", x.count(0), y.count(0));
        return 7;
    }

    private int net(int span) {
        int px = some(span), py = some(span), what = some(2), v = random.nextInt(what == 0 ? 102 : 52);
        switch (random.nextInt(5)) {
            case 0:
                due("point", x.point(px, py), y.point(px, py));
                break;
            case 1:
                due("line", x.line(px, py), y.line(px, py));
                break;
            case 2:
                due("rule", x.rule(what, v), y.rule(what, v));
                break;
            case 3:
                due("open", x.open(px, py), y.open(px, py));
                break;
            default:
                due("shut", x.shut(px, py), y.shut(px, py));
        }
        due("count 7", x.count(7), y.count(7));
        return 2;
    }

    private int leads() {
        line = some(y.count(2));
        switch (random.nextInt(6)) {
            case 0:
                due("rest", x.rest(), y.rest());
                break;
            case 1:
                due("pass", x.pass(), y.pass());
                break;
            case 2:
                due("take", x.take(line), y.take(line));
                break;
            default:
                due("lead " + line, x.lead(line), y.lead(line));
        }
        int look = some(y.count(2));
        int sides = y.way(look, -1);
        for (int i = -1; i <= sides; i++) {
            due("way(" + look + ", " + i + ")", x.way(look, i), y.way(look, i));
        }
        return 4 + Math.max(0, sides);
    }

    /** Another LINE's WAY, changed a little or not at all, laid for a LINE. */
    private int lays() {
        int from = some(y.count(2));
        line = random.nextInt(3) == 0 ? some(y.count(2)) : from;
        int n = Math.min(36, Math.max(1, y.way(from, -1)));
        boolean round = random.nextInt(2) == 0;
        int bulge = random.nextInt(n);
        int size = round ? n + 2 : n;
        due("sheet", x.sheet(0, 0, size), y.sheet(0, 0, size));
        int at = 0;
        for (int i = 0; i < n; i++) {
            int d = Math.max(0, y.way(from, i));
            if (round && i == bulge) {
                int aside = (d + (random.nextBoolean() ? 1 : 3)) % 4;
                x.set(0, at, aside);
                y.set(0, at++, aside);
                x.set(0, at, d);
                y.set(0, at++, d);
                d = (aside + 2) % 4;
            }
            x.set(0, at, d);
            y.set(0, at++, d);
        }
        due("lay", x.lay(line, 0, 0, size), y.lay(line, 0, 0, size));
        due("status", x.status(), y.status());
        int i = some(3);
        due("lay from elsewhere", x.lay(line, i, i, size), y.lay(line, i, i, size));
        due("status", x.status(), y.status());
        return size + 6;
    }

    private int asks() {
        line = some(y.count(2));
        int what = some(2), kind = some(4);
        due("ask(" + line + ", " + what + ")", x.ask(line, what), y.ask(line, what));
        for (int i = -1; i < 5; i++) {
            due("trace " + i, x.trace(i), y.trace(i));
        }
        due("as(" + line + ", " + kind + ")", x.as(line, kind), y.as(line, kind));
        due("status", x.status(), y.status());
        due("kind", x.kind(line), y.kind(line));
        due("detour", x.detour(line), y.detour(line));
        return 11;
    }

    private int looks() {
        int px = some(10), py = some(10), d = some(4), a = some(y.count(2)), b = some(y.count(2));
        due("width", x.width(px, py, d), y.width(px, py, d));
        due("shared", x.shared(a, b), y.shared(a, b));
        int tinted = random.nextInt(3) == 0 ? LineBundles.NONE : some(y.count(2));
        due("tint " + tinted, x.tint(tinted), y.tint(tinted));
        return 5;
    }

    /** A LINE laid by a walk without aim; the walks that come to its second POINT are tried first. */
    private int wanders(int span) {
        line = some(y.count(2));
        String walk = "";
        for (int tries = 0; tries < 200 && !y.isWay(line, walk); tries++) {
            walk = "";
            for (int n = 1 + random.nextInt(span * span / 2 + 1); n > 0; n--) {
                walk += random.nextInt(4);
            }
        }
        due("sheet", x.sheet(0, 2, walk.length()), y.sheet(0, 2, walk.length()));
        for (int i = 0; i < walk.length(); i++) {
            x.set(0, i, walk.charAt(i) - '0');
            y.set(0, i, walk.charAt(i) - '0');
        }
        due("lay " + walk, x.lay(line, 0, 0, walk.length()), y.lay(line, 0, 0, walk.length()));
        return walk.length() + 2;
    }

    private int tints() {
        int lines = y.count(2);
        int[] row = y.tintRow();
        due("tints", x.tint(LineBundles.NONE), row[lines]);
        for (int i = 0; i < lines; i++) {
            due("tint " + i, x.tint(i), row[i]);
        }
        due("greatest width", x.all(2), y.all(2));
        due("forks", x.all(3), y.all(3));
        due("crossings", x.all(4), y.all(4));
        return lines + 4;
    }

    private int reading() {
        int point = some(y.count(1));
        for (int d = -1; d <= 4; d++) {
            due("reads(" + point + ", " + d + ")", x.reads(point, d), y.reads(point, d));
        }
        return 7;
    }

    private int measures() {
        int what = some(6), counted = some(8);
        due("all " + what, x.all(what), y.all(what));
        due("count " + counted, x.count(counted), y.count(counted));
        return 2;
    }
}
