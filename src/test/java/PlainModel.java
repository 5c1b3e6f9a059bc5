import java.util.ArrayList;
import java.util.Arrays;
import java.util.HashMap;
import java.util.HashSet;
import java.util.List;
import java.util.Map;
import java.util.Set;

/** A second LineBundles, slow, written from the document's definitions as they stand. */
final class PlainModel {
    private static final int NONE = -1000000, BAD = -1000001, STATE = -1000002, FULL = -1000003;
    private static final int[] DX = {0, 1, 0, -1};
    private static final int[] DY = {-1, 0, 1, 0};

    private record Place(int x, int y) {
        Place to(int d) {
            return new Place(x + DX[d], y + DY[d]);
        }

        boolean onBoard() {
            return x >= 0 && x <= 9 && y >= 0 && y <= 9;
        }
    }

    /** A SIDE, told by its upper or left place and whether it goes down. */
    private record Side(Place place, boolean down) {
        boolean at(Place p) {
            return p.equals(place) || p.equals(place.to(down ? 2 : 1));
        }
    }

    private static Side side(Place p, int d) {
        return new Side(d == 0 || d == 3 ? p.to(d) : p, d == 0 || d == 2);
    }

    private final class Line {
        Place from, to;
        List<Integer> way; // null: none

        Set<Side> sides() {
            Set<Side> all = new HashSet<>();
            if (way != null) {
                Place p = from;
                for (int d : way) {
                    all.add(side(p, d));
                    p = p.to(d);
                }
            }
            return all;
        }

        /** The DIRECTION in which it goes straight on through a place, or -1. */
        int straightAt(Place at) {
            Place p = from;
            for (int i = 0; way != null && i + 1 < way.size(); i++) {
                p = p.to(way.get(i));
                if (p.equals(at)) {
                    return way.get(i).equals(way.get(i + 1)) ? way.get(i) : -1;
                }
            }
            return -1;
        }
    }

    private record Label(int cost, List<Integer> way) implements Comparable<Label> {
        public int compareTo(Label o) {
            if (cost != o.cost) {
                return Integer.compare(cost, o.cost);
            }
            if (way.size() != o.way.size()) {
                return Integer.compare(way.size(), o.way.size());
            }
            for (int i = 0; i < way.size(); i++) {
                if (!way.get(i).equals(o.way.get(i))) {
                    return Integer.compare(way.get(i), o.way.get(i));
                }
            }
            return 0;
        }
    }

    private final long[][] sheets = new long[8][];
    private final int[] lanes = new int[8];
    private final Set<Place> shuts = new HashSet<>();
    private final List<Place> points = new ArrayList<>();
    private final List<Line> lines = new ArrayList<>();
    private final List<Integer> trace = new ArrayList<>();
    private int base = 10, save = 3, status = 0;

    private int finding(int number) {
        status = number;
        return -1000010 - number;
    }

    private int fine(int answer) {
        status = 0;
        return answer;
    }

    private boolean noSheet(int s) {
        return s < 0 || s > 7;
    }

    private boolean noLine(int l) {
        return l < 0 || l >= lines.size();
    }

    int sheet(int s, int lane, int n) {
        if (noSheet(s) || lane < 0 || lane > 2 || n > 60) return BAD;
        if (n < 0) return finding(4);
        sheets[s] = new long[n];
        lanes[s] = lane;
        return fine(n);
    }

    int set(int s, int i, int v) {
        if (noSheet(s)) return BAD;
        if (sheets[s] == null) return finding(1);
        if (i < 0 || i >= sheets[s].length) return finding(2);
        long modulus = lanes[s] == 0 ? 1L << 8 : lanes[s] == 1 ? 1L << 16 : 1L << 32;
        long low = Math.floorMod((long) v, modulus);
        sheets[s][i] = low >= modulus / 2 ? low - modulus : low;
        return fine((int) sheets[s][i]);
    }

    int copy(int a, int i, int b, int j, int n) {
        if (noSheet(a) || noSheet(b)) return BAD;
        if (sheets[a] == null || sheets[b] == null) return finding(1);
        if (lanes[a] != lanes[b]) return finding(5);
        if (i < 0 || j < 0 || n < 0 || (long) i + n > sheets[a].length || (long) j + n > sheets[b].length) {
            return finding(2);
        }
        long[] ahead = Arrays.copyOfRange(sheets[a], i, i + n);
        for (int k = 0; k < n; k++) sheets[b][j + k] = ahead[k];
        return fine(n);
    }

    int drop(int s) {
        if (noSheet(s)) return BAD;
        if (sheets[s] == null) return finding(1);
        int n = sheets[s].length;
        sheets[s] = null;
        return fine(n);
    }

    int point(int x, int y) {
        Place p = new Place(x, y);
        if (!p.onBoard()) return BAD;
        if (shuts.contains(p) || points.contains(p)) return STATE;
        if (points.size() == 12) return FULL;
        points.add(p);
        return points.size() - 1;
    }

    int shut(int x, int y) {
        Place p = new Place(x, y);
        if (!p.onBoard()) return BAD;
        if (points.contains(p)) return STATE;
        for (Line l : lines) for (Side s : l.sides()) if (s.at(p)) return STATE;
        return shuts.add(p) ? 1 : 0;
    }

    int open(int x, int y) {
        Place p = new Place(x, y);
        if (!p.onBoard()) return BAD;
        return shuts.remove(p) ? 1 : 0;
    }

    int line(int a, int b) {
        if (a < 0 || b < 0 || a >= points.size() || b >= points.size() || a == b) return BAD;
        if (lines.size() == 12) return FULL;
        Line l = new Line();
        l.from = points.get(a);
        l.to = points.get(b);
        lines.add(l);
        return lines.size() - 1;
    }

    int rule(int what, int v) {
        if (what == 0 && v >= 1 && v <= 100) {
            int was = base;
            base = v;
            return was;
        }
        if (what == 1 && v >= 0 && v <= 50) {
            int was = save;
            save = v;
            return was;
        }
        return BAD;
    }

    private Map<Side, Integer> widths() {
        Map<Side, Integer> widths = new HashMap<>();
        for (Line l : lines) for (Side s : l.sides()) widths.merge(s, 1, Integer::sum);
        return widths;
    }

    private int next(int j) {
        return base - j * save < 1 ? 1 : base - j * save;
    }

    /** Labels spread forward from the first POINT, till none betters; the LINE itself must be off. */
    private Label best(Line l) {
        Map<Side, Integer> widths = widths();
        Map<Place, Label> labels = new HashMap<>();
        labels.put(l.from, new Label(0, List.of()));
        boolean changed = true;
        while (changed) {
            changed = false;
            for (Place p : new ArrayList<>(labels.keySet())) {
                for (int d = 0; d < 4; d++) {
                    Place q = p.to(d);
                    if (!q.onBoard() || shuts.contains(q)) continue;
                    List<Integer> way = new ArrayList<>(labels.get(p).way);
                    way.add(d);
                    Label n = new Label(labels.get(p).cost + next(widths.getOrDefault(side(p, d), 0)), way);
                    if (labels.get(q) == null || n.compareTo(labels.get(q)) < 0) {
                        labels.put(q, n);
                        changed = true;
                    }
                }
            }
        }
        return labels.get(l.to);
    }

    int lead(int line) {
        if (noLine(line)) return BAD;
        Line l = lines.get(line);
        l.way = null;
        Label b = best(l);
        if (b == null) return NONE;
        l.way = b.way;
        return b.cost;
    }

    int lay(int line, int s, int i, int n) {
        if (noLine(line) || noSheet(s) || n < 1 || n > 40) return BAD;
        if (sheets[s] == null) return finding(1);
        if (i < 0 || (long) i + n > sheets[s].length) return finding(2);
        Line l = lines.get(line);
        List<Integer> way = new ArrayList<>();
        for (int k = i; k < i + n; k++) way.add((int) sheets[s][k]);
        if (!isWay(l, way)) return BAD;
        l.way = way;
        return fine(1);
    }

    /** Whether directions written as digits are a WAY of a LINE. */
    boolean isWay(int line, String told) {
        List<Integer> way = new ArrayList<>();
        for (char c : told.toCharArray()) way.add(c - '0');
        return !noLine(line) && isWay(lines.get(line), way);
    }

    private boolean isWay(Line l, List<Integer> way) {
        Set<Place> been = new HashSet<>();
        Place p = l.from;
        been.add(p);
        for (int d : way) {
            if (d < 0 || d > 3) return false;
            p = p.to(d);
            if (!p.onBoard() || shuts.contains(p) || !been.add(p)) return false;
        }
        return p.equals(l.to);
    }

    int take(int line) {
        if (noLine(line)) return BAD;
        int had = lines.get(line).way == null ? 0 : 1;
        lines.get(line).way = null;
        return had;
    }

    int pass() {
        int changed = 0;
        for (int i = 0; i < lines.size(); i++) {
            List<Integer> had = lines.get(i).way;
            int cost = all(0);
            if (lead(i) == NONE) {
                lines.get(i).way = had;
            } else if (had != null && all(0) >= cost) {
                lines.get(i).way = had;
            } else {
                changed++;
            }
        }
        return changed;
    }

    int rest() {
        int n = 0;
        while (pass() > 0) n++;
        return n;
    }

    int way(int line, int i) {
        if (noLine(line) || i < -1) return BAD;
        List<Integer> way = lines.get(line).way;
        if (i == -1) return way == null ? 0 : way.size();
        return way == null || i >= way.size() ? NONE : way.get(i);
    }

    int width(int x, int y, int d) {
        Place p = new Place(x, y);
        if (!p.onBoard() || d < 0 || d > 3) return BAD;
        return p.to(d).onBoard() ? widths().getOrDefault(side(p, d), 0) : 0;
    }

    private static boolean part(Set<Side> a, Set<Side> b, Place p) {
        Set<Side> ofA = sidesAt(a, p), ofB = sidesAt(b, p), both = new HashSet<>(ofA);
        both.retainAll(ofB);
        return !both.isEmpty() && (!ofA.containsAll(ofB) || !ofB.containsAll(ofA));
    }

    private static Set<Side> sidesAt(Set<Side> sides, Place p) {
        Set<Side> at = new HashSet<>();
        for (int d = 0; d < 4; d++) if (sides.contains(side(p, d))) at.add(side(p, d));
        return at;
    }

    private int forks() {
        List<Set<Side>> sides = new ArrayList<>();
        for (Line l : lines) sides.add(l.sides());
        int forks = 0;
        for (int i = 0; i < 100; i++) {
            boolean fork = false;
            for (Set<Side> a : sides) {
                for (Set<Side> b : sides) fork |= a != b && part(a, b, new Place(i % 10, i / 10));
            }
            if (fork) forks++;
        }
        return forks;
    }

    private int crossings() {
        int crossings = 0;
        for (int i = 0; i < 100; i++) {
            for (int a = 0; a < lines.size(); a++) {
                for (int b = a + 1; b < lines.size(); b++) {
                    if (cross(lines.get(a), lines.get(b), new Place(i % 10, i / 10))) crossings++;
                }
            }
        }
        return crossings;
    }

    private boolean cross(Line a, Line b, Place p) {
        int da = a.straightAt(p), db = b.straightAt(p);
        return da >= 0 && db >= 0 && da % 2 != db % 2;
    }

    int all(int what) {
        int sum = 0;
        switch (what) {
            case 0:
                for (int width : widths().values()) {
                    for (int j = 0; j < width; j++) sum += next(j);
                }
                return sum;
            case 1:
                return widths().size();
            case 2:
                for (int width : widths().values()) sum = Math.max(sum, width);
                return sum;
            case 3:
                return forks();
            case 4:
                return crossings();
            case 5:
                for (Line l : lines) sum += l.sides().size();
                return sum;
            default:
                return BAD;
        }
    }

    int detour(int line) {
        if (noLine(line)) return BAD;
        Line l = lines.get(line);
        if (l.way == null) return STATE;
        return l.way.size() * 100 / (Math.abs(l.from.x - l.to.x) + Math.abs(l.from.y - l.to.y));
    }

    int shared(int a, int b) {
        if (noLine(a) || noLine(b)) return BAD;
        Set<Side> both = lines.get(a).sides();
        both.retainAll(lines.get(b).sides());
        return both.size();
    }

    private boolean tinted(List<Integer> with, boolean[][] clash, int[] row, int at, int k) {
        if (at == with.size()) return true;
        for (int t = 0; t < k; t++) {
            boolean fits = true;
            for (int b = 0; b < at; b++) fits &= row[b] != t || !clash[with.get(b)][with.get(at)];
            if (fits) {
                row[at] = t;
                if (tinted(with, clash, row, at + 1, k)) return true;
            }
        }
        return false;
    }

    /** For each set of LINES: one more than for what is left without some of which no two clash. */
    private static int fewest(List<Integer> with, boolean[][] clash) {
        int[] few = new int[1 << with.size()];
        for (int set = 1; set < few.length; set++) {
            few[set] = with.size();
            for (int part = set; part > 0; part = part - 1 & set) {
                if (few[set ^ part] + 1 < few[set] && apart(part, with, clash)) few[set] = few[set ^ part] + 1;
            }
        }
        return few[few.length - 1];
    }

    private static boolean apart(int part, List<Integer> with, boolean[][] clash) {
        for (int a = 0; a < with.size(); a++) {
            for (int b = 0; b < a; b++) {
                if ((part >> a & part >> b & 1) == 1 && clash[with.get(a)][with.get(b)]) return false;
            }
        }
        return true;
    }

    int tint(int line) {
        if (line != NONE && noLine(line)) return BAD;
        return tintRow()[line == NONE ? lines.size() : line];
    }

    /** The TINTS of all LINES, and behind them how many TINTS. */
    int[] tintRow() {
        List<Integer> with = new ArrayList<>();
        boolean[][] clash = new boolean[12][12];
        for (int i = 0; i < lines.size(); i++) {
            if (lines.get(i).way != null) with.add(i);
            for (int j = 0; j < lines.size(); j++) clash[i][j] = shared(i, j) > 0;
        }
        int[] row = new int[with.size()], all = new int[lines.size() + 1];
        int k = fewest(with, clash);
        tinted(with, clash, row, 0, k);
        for (int i = 0; i < lines.size(); i++) all[i] = with.contains(i) ? row[with.indexOf(i)] : NONE;
        all[lines.size()] = k;
        return all;
    }

    private boolean lineEndsAt(Place p) {
        for (Line l : lines) if (l.way != null && (l.from.equals(p) || l.to.equals(p))) return true;
        return false;
    }

    int reads(int point, int d) {
        if (point < 0 || point >= points.size() || d < 0 || d > 3) return BAD;
        Place start = points.get(point), p = start;
        if (width(p.x, p.y, d) == 0) return STATE;
        int sides = 0;
        while (true) {
            p = p.to(d);
            sides++;
            if (sides == 100) break;
            if (!p.equals(start) && points.contains(p) && lineEndsAt(p)) break;
            int right = d == 3 ? 0 : d + 1, left = d == 0 ? 3 : d - 1;
            if (width(p.x, p.y, d) > 0) continue;
            if (width(p.x, p.y, right) > 0) {
                d = right;
            } else if (width(p.x, p.y, left) > 0) {
                d = left;
            } else {
                break;
            }
        }
        return points.contains(p) ? points.indexOf(p) : NONE;
    }

    private int sharedSides(Line l) {
        int n = 0;
        Map<Side, Integer> widths = widths();
        for (Side s : l.sides()) if (widths.get(s) > 1) n++;
        return n;
    }

    int kind(int line) {
        if (noLine(line)) return BAD;
        Line l = lines.get(line);
        if (l.way == null) return NONE;
        int n = sharedSides(l);
        return n == 0 ? 1 : n == l.way.size() ? 2 : 3;
    }

    int as(int line, int kind) {
        if (noLine(line) || kind < 0 || kind > 3) return BAD;
        if (lines.get(line).way == null) return STATE;
        if (kind != 0 && kind != kind(line)) return finding(3);
        return fine(lines.get(line).way.size());
    }

    private int lent(int line, int what) {
        trace.add(what == 0 ? 10 : 20);
        Line l = lines.get(line);
        if (what == 0) return l.way.size();
        int sum = 0;
        Map<Side, Integer> widths = widths();
        for (Side s : l.sides()) sum += next(widths.get(s) - 1);
        return sum;
    }

    private int asked(int line, int what) {
        int kind = kind(line);
        if (what == 0 && kind == 1) {
            trace.add(11);
            return lent(line, 0) + detour(line);
        }
        if (what == 0 && kind == 2) {
            trace.add(12);
            return 2 * lent(line, 0);
        }
        if (what == 0 && kind == 3) {
            trace.add(13);
            return lent(line, 0) + asked(line, 1);
        }
        if (what == 1 && kind == 2) {
            trace.add(21);
            return lent(line, 1) + asked(line, 0);
        }
        if (what == 1 && kind == 3) {
            trace.add(22);
            return lent(line, 1) + sharedSides(lines.get(line));
        }
        return lent(line, what);
    }

    int ask(int line, int what) {
        if (noLine(line) || what < 0 || what > 1) return BAD;
        if (lines.get(line).way == null) return STATE;
        trace.clear();
        return asked(line, what);
    }

    int trace(int i) {
        return i >= 0 && i < 16 && i < trace.size() ? trace.get(i) : NONE;
    }

    int count(int what) {
        int n = 0;
        switch (what) {
            case 0:
                for (long[] s : sheets) if (s != null) n++;
                return n;
            case 1:
                return points.size();
            case 2:
                return lines.size();
            case 3:
                for (Line l : lines) if (l.way != null) n++;
                return n;
            case 4:
            case 5:
            case 6:
                for (int i = 0; i < lines.size(); i++) if (kind(i) == what - 3) n++;
                return n;
            case 7:
                return shuts.size();
            default:
                return BAD;
        }
    }

    int status() {
        return status;
    }
}
