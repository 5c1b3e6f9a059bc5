/** A net of lines on a board of places, led in bundles. The document's words stand in capitals. */
public final class LineBundles {
    public static final int NONE = -1000000, BAD = -1000001, STATE = -1000002, FULL = -1000003;

    private static final int FINDINGS = -1000010;
    private static final int NULL_FOUND = 1, PLACE_FOUND = 2, KIND_FOUND = 3, SIZE_FOUND = 4, STORE_FOUND = 5;

    private static final int SHEETS = 8, LANES = 3, ITEMS = 60;
    private static final int SPAN = 10, PLACES = SPAN * SPAN, DIRECTIONS = 4;
    private static final int POINTS = 12, LINES = 12;
    private static final int LONGEST_LAID = 40, LONGEST_READ = 100, TRACED = 16;
    private static final int REST_BOUND = 1000000;

    private static final int LINE = 0, ALONE = 1, BOUND = 2, FORKED = 3;

    private final Sheet[] sheets = new Sheet[SHEETS];
    private final int[] pointPlaces = new int[POINTS];
    private final Line[] lines = new Line[LINES];
    private final Net net = new Net();
    private final Finder finder = new Finder();
    private final Tinter tinter = new Tinter();
    private final int[] traced = new int[TRACED];
    private int pointCount, lineCount, traceCount, latestFinding;

    public LineBundles() {
        for (int i = 0; i < SHEETS; i++) {
            sheets[i] = new Sheet();
        }
        for (int i = 0; i < LINES; i++) {
            lines[i] = new Line(1 << i);
        }
    }

    // ---- sheets

    public int sheet(int sheet, int lane, int n) {
        if (!isSheet(sheet) || lane < 0 || lane >= LANES || n > ITEMS) {
            return BAD;
        }
        if (n < 0) {
            return found(SIZE_FOUND);
        }
        sheets[sheet].begin(lane, n);
        return unfound(n);
    }

    public int set(int sheet, int i, int v) {
        if (!isSheet(sheet)) {
            return BAD;
        }
        Sheet s = sheets[sheet];
        if (s.isMissing()) {
            return found(NULL_FOUND);
        }
        if (!s.holds(i, 1)) {
            return found(PLACE_FOUND);
        }
        return unfound(s.put(i, v));
    }

    public int copy(int a, int i, int b, int j, int n) {
        if (!isSheet(a) || !isSheet(b)) {
            return BAD;
        }
        Sheet from = sheets[a];
        Sheet to = sheets[b];
        if (from.isMissing() || to.isMissing()) {
            return found(NULL_FOUND);
        }
        if (from.lane != to.lane) {
            return found(STORE_FOUND);
        }
        if (!from.holds(i, n) || !to.holds(j, n)) {
            return found(PLACE_FOUND);
        }
        System.arraycopy(from.items, i, to.items, j, n);
        return unfound(n);
    }

    public int drop(int sheet) {
        if (!isSheet(sheet)) {
            return BAD;
        }
        Sheet s = sheets[sheet];
        if (s.isMissing()) {
            return found(NULL_FOUND);
        }
        int had = s.size;
        s.end();
        return unfound(had);
    }

    // ---- the net

    public int point(int x, int y) {
        if (!isPlace(x, y)) {
            return BAD;
        }
        int place = placeAt(x, y);
        if (net.shutAt[place] || net.pointAt[place] != NONE) {
            return STATE;
        }
        if (pointCount >= POINTS) {
            return FULL;
        }
        pointPlaces[pointCount] = place;
        net.pointAt[place] = pointCount;
        return pointCount++;
    }

    public int shut(int x, int y) {
        if (!isPlace(x, y)) {
            return BAD;
        }
        int place = placeAt(x, y);
        if (net.pointAt[place] != NONE || net.isGoneThrough(place)) {
            return STATE;
        }
        return turn(place, true);
    }

    public int open(int x, int y) {
        return isPlace(x, y) ? turn(placeAt(x, y), false) : BAD;
    }

    public int line(int a, int b) {
        if (!isPoint(a) || !isPoint(b) || a == b) {
            return BAD;
        }
        if (lineCount >= LINES) {
            return FULL;
        }
        lines[lineCount].join(pointPlaces[a], pointPlaces[b]);
        return lineCount++;
    }

    public int rule(int what, int v) {
        int was = BAD;
        if (what == 0 && v >= 1 && v <= 100) {
            was = net.base;
            net.base = v;
        } else if (what == 1 && v >= 0 && v <= 50) {
            was = net.save;
            net.save = v;
        }
        return was;
    }

    // ---- ways

    public int lead(int line) {
        if (!isLine(line)) {
            return BAD;
        }
        Line led = lines[line];
        if (!finder.findWay(net, led)) {
            net.lift(led);
            return NONE;
        }
        net.giveWay(led, finder.steps, 0, finder.length);
        return finder.cost;
    }

    public int lay(int line, int sheet, int i, int n) {
        if (!isLine(line) || !isSheet(sheet) || n < 1 || n > LONGEST_LAID) {
            return BAD;
        }
        Sheet s = sheets[sheet];
        if (s.isMissing()) {
            return found(NULL_FOUND);
        }
        if (!s.holds(i, n)) {
            return found(PLACE_FOUND);
        }
        if (!net.isWay(lines[line], s.items, i, n)) {
            return BAD;
        }
        net.giveWay(lines[line], s.items, i, n);
        return unfound(1);
    }

    public int take(int line) {
        if (!isLine(line)) {
            return BAD;
        }
        int had = lines[line].hasWay() ? 1 : 0;
        net.lift(lines[line]);
        return had;
    }

    public int pass() {
        return goThroughLines();
    }

    public int rest() {
        int passes = 0;
        // Each PASS that changes a LINE gives one a WAY or makes COST less, so the bound is never met.
        while (passes < REST_BOUND && goThroughLines() > 0) {
            passes++;
        }
        return passes;
    }

    public int way(int line, int i) {
        if (!isLine(line) || i < -1) {
            return BAD;
        }
        Line of = lines[line];
        if (i == -1) {
            return of.length;
        }
        return i < of.length ? of.steps[i] : NONE;
    }

    public int width(int x, int y, int direction) {
        if (!isPlace(x, y) || !isDirection(direction)) {
            return BAD;
        }
        return net.widthFrom(placeAt(x, y), direction);
    }

    public int all(int what) {
        switch (what) {
            case 0:
                return net.costOfAll();
            case 1:
                return net.usedSides();
            case 2:
                return net.greatestWidth();
            case 3:
                return net.forks();
            case 4:
                return net.crossings();
            case 5:
                return sidesOfWays();
            default:
                return BAD;
        }
    }

    public int detour(int line) {
        if (!isLine(line)) {
            return BAD;
        }
        return lines[line].hasWay() ? lines[line].detourOfWay() : STATE;
    }

    public int shared(int a, int b) {
        if (!isLine(a) || !isLine(b)) {
            return BAD;
        }
        return net.sidesWithAll(lines[a].bit | lines[b].bit);
    }

    public int tint(int line) {
        if (line != NONE && !isLine(line)) {
            return BAD;
        }
        tinter.tintAll(net, waysMask());
        return line == NONE ? tinter.tintCount : tinter.tints[line];
    }

    public int reads(int point, int direction) {
        if (!isPoint(point) || !isDirection(direction)) {
            return BAD;
        }
        int start = pointPlaces[point];
        if (net.widthFrom(start, direction) == 0) {
            return STATE;
        }
        int place = start;
        int heading = direction;
        for (int gone = 0; gone < LONGEST_READ && heading >= 0; gone++) {
            place = beside(place, heading);
            if (place < 0) {
                return NONE;
            }
            heading = place != start && isEndOfWay(place) ? -1 : net.onward(place, heading);
        }
        return net.pointAt[place];
    }

    // ---- asked

    public int kind(int line) {
        return isLine(line) ? net.kindOf(lines[line]) : BAD;
    }

    public int as(int line, int kind) {
        if (!isLine(line) || kind < LINE || kind > FORKED) {
            return BAD;
        }
        Line taken = lines[line];
        if (!taken.hasWay()) {
            return STATE;
        }
        if (kind != LINE && kind != net.kindOf(taken)) {
            return found(KIND_FOUND);
        }
        return unfound(taken.length);
    }

    public int ask(int line, int what) {
        if (!isLine(line) || what < 0 || what > 1) {
            return BAD;
        }
        Line asked = lines[line];
        if (!asked.hasWay()) {
            return STATE;
        }
        traceCount = 0;
        return what == 0 ? sizeAsked(asked) : markAsked(asked);
    }

    public int trace(int i) {
        return i >= 0 && i < traceCount ? traced[i] : NONE;
    }

    public int count(int what) {
        switch (what) {
            case 0:
                return sheetsThere();
            case 1:
                return pointCount;
            case 2:
                return lineCount;
            case 3:
                return Integer.bitCount(waysMask());
            case 4:
                return linesOfKind(ALONE);
            case 5:
                return linesOfKind(BOUND);
            case 6:
                return linesOfKind(FORKED);
            case 7:
                return net.shutPlaces();
            default:
                return BAD;
        }
    }

    public int status() {
        return latestFinding;
    }

    // ---- what the calls are made of

    private int found(int finding) {
        latestFinding = finding;
        return FINDINGS - finding;
    }

    private int unfound(int answer) {
        latestFinding = 0;
        return answer;
    }

    private static boolean isSheet(int sheet) {
        return sheet >= 0 && sheet < SHEETS;
    }

    private static boolean isPlace(int x, int y) {
        return x >= 0 && x < SPAN && y >= 0 && y < SPAN;
    }

    private static boolean isDirection(int direction) {
        return direction >= 0 && direction < DIRECTIONS;
    }

    private boolean isPoint(int point) {
        return point >= 0 && point < pointCount;
    }

    private boolean isLine(int line) {
        return line >= 0 && line < lineCount;
    }

    private static int placeAt(int x, int y) {
        return y * SPAN + x;
    }

    /** The place one SIDE away; -1 beyond the edge of THE BOARD. */
    private static int beside(int place, int direction) {
        switch (direction) {
            case 0:
                return place >= SPAN ? place - SPAN : -1;
            case 1:
                return place % SPAN < SPAN - 1 ? place + 1 : -1;
            case 2:
                return place < PLACES - SPAN ? place + SPAN : -1;
            default:
                return place % SPAN > 0 ? place - 1 : -1;
        }
    }

    /** A SIDE bears the same number from both its places: that of the upper or left one tells it. */
    private static int sideBetween(int place, int other, int direction) {
        return Math.min(place, other) * 2 + direction % 2;
    }

    private int turn(int place, boolean toShut) {
        if (net.shutAt[place] == toShut) {
            return 0;
        }
        net.shutAt[place] = toShut;
        return 1;
    }

    private int goThroughLines() {
        int changed = 0;
        for (int i = 0; i < lineCount; i++) {
            if (leadIfBetter(lines[i])) {
                changed++;
            }
        }
        return changed;
    }

    /** COST of all changes by just what the LINE's own SIDES cost it, so only these are compared. */
    private boolean leadIfBetter(Line line) {
        if (!finder.findWay(net, line)) {
            return false;
        }
        if (line.hasWay() && finder.cost >= net.costAmongOthers(line)) {
            return false;
        }
        net.giveWay(line, finder.steps, 0, finder.length);
        return true;
    }

    private int sidesOfWays() {
        int sum = 0;
        for (int i = 0; i < lineCount; i++) {
            sum += lines[i].length;
        }
        return sum;
    }

    private int waysMask() {
        int mask = 0;
        for (int i = 0; i < lineCount; i++) {
            if (lines[i].hasWay()) {
                mask |= lines[i].bit;
            }
        }
        return mask;
    }

    private boolean isEndOfWay(int place) {
        for (int i = 0; i < lineCount; i++) {
            if (lines[i].hasWay() && (lines[i].start == place || lines[i].goal == place)) {
                return true;
            }
        }
        return false;
    }

    private int sheetsThere() {
        int there = 0;
        for (int i = 0; i < SHEETS; i++) {
            if (!sheets[i].isMissing()) {
                there++;
            }
        }
        return there;
    }

    private int linesOfKind(int kind) {
        int such = 0;
        for (int i = 0; i < lineCount; i++) {
            if (net.kindOf(lines[i]) == kind) {
                such++;
            }
        }
        return such;
    }

    // ---- BODIES

    private void leave(int body) {
        if (traceCount < TRACED) {
            traced[traceCount] = body;
            traceCount++;
        }
    }

    private int sizeAsked(Line line) {
        switch (net.kindOf(line)) {
            case ALONE:
                return sizeOfAlone(line);
            case BOUND:
                return sizeOfBound(line);
            case FORKED:
                return sizeOfForked(line);
            default:
                return sizeLent(line);
        }
    }

    private int markAsked(Line line) {
        switch (net.kindOf(line)) {
            case BOUND:
                return markOfBound(line);
            case FORKED:
                return markOfForked(line);
            default:
                return markLent(line);
        }
    }

    private int sizeLent(Line line) {
        leave(10);
        return line.length;
    }

    private int sizeOfAlone(Line line) {
        leave(11);
        return sizeLent(line) + line.detourOfWay();
    }

    private int sizeOfBound(Line line) {
        leave(12);
        return 2 * sizeLent(line);
    }

    private int sizeOfForked(Line line) {
        leave(13);
        // MARK asked anew of a FORKED LINE is always the FORKED one's BODY.
        return sizeLent(line) + markOfForked(line);
    }

    private int markLent(Line line) {
        leave(20);
        return net.costAmongOthers(line);
    }

    private int markOfBound(Line line) {
        leave(21);
        // SIZE asked anew of a BOUND LINE is always the BOUND one's BODY.
        return markLent(line) + sizeOfBound(line);
    }

    private int markOfForked(Line line) {
        leave(22);
        return markLent(line) + net.sidesWithOthers(line);
    }

    /** A SHEET: its row of ITEMS is made once and used again. */
    private static final class Sheet {
        private static final int MISSING = -1;

        private final int[] items = new int[ITEMS];
        private int lane;
        private int size = MISSING;

        boolean isMissing() {
            return size == MISSING;
        }

        void begin(int newLane, int n) {
            lane = newLane;
            size = n;
            for (int i = 0; i < n; i++) {
                items[i] = 0;
            }
        }

        void end() {
            size = MISSING;
        }

        /** Whether n ITEMS from i on are there; written so that no sum can wrap around. */
        boolean holds(int i, int n) {
            return i >= 0 && n >= 0 && i <= size - n;
        }

        int put(int i, int v) {
            items[i] = lane == 0 ? (byte) v : lane == 1 ? (short) v : v;
            return items[i];
        }
    }

    /** A LINE, with the places of its two POINTS, and its WAY: without one its length is 0. */
    private static final class Line {
        private final int bit;
        private final int[] steps = new int[PLACES];
        private int start, goal, length;

        Line(int bit) {
            this.bit = bit;
        }

        void join(int first, int second) {
            start = first;
            goal = second;
            length = 0;
        }

        boolean hasWay() {
            return length > 0;
        }

        int detourOfWay() {
            int apart = Math.abs(start % SPAN - goal % SPAN) + Math.abs(start / SPAN - goal / SPAN);
            return apart > 0 ? length * 100 / apart : NONE;
        }
    }

    /** THE BOARD, with the RULES and the LINES that go by each SIDE (as bits). */
    private static final class Net {
        private static final int NUMBERED_SIDES = 2 * PLACES;

        private final boolean[] shutAt = new boolean[PLACES];
        private final int[] pointAt = new int[PLACES];
        private final int[] linesBy = new int[NUMBERED_SIDES];
        private final boolean[] goneTo = new boolean[PLACES];
        private int base = 10, save = 3;

        Net() {
            for (int place = 0; place < PLACES; place++) {
                pointAt[place] = NONE;
            }
        }

        /** What a SIDE with j LINES on it costs the next one. */
        int price(int j) {
            return Math.max(1, base - j * save);
        }

        int linesFrom(int place, int direction) {
            int other = beside(place, direction);
            return other < 0 ? 0 : linesBy[sideBetween(place, other, direction)];
        }

        int widthFrom(int place, int direction) {
            return Integer.bitCount(linesFrom(place, direction));
        }

        int shutPlaces() {
            int sum = 0;
            for (int place = 0; place < PLACES; place++) {
                if (shutAt[place]) {
                    sum++;
                }
            }
            return sum;
        }

        boolean isGoneThrough(int place) {
            int any = 0;
            for (int d = 0; d < DIRECTIONS; d++) {
                any |= linesFrom(place, d);
            }
            return any != 0;
        }

        /** Whether n DIRECTIONS from i on lead a LINE to its goal, by open places, to none twice. */
        boolean isWay(Line line, int[] told, int i, int n) {
            for (int p = 0; p < PLACES; p++) {
                goneTo[p] = shutAt[p];
            }
            int place = line.start;
            goneTo[place] = true;
            for (int k = i; k < i + n; k++) {
                place = isDirection(told[k]) ? beside(place, told[k]) : -1;
                if (place < 0 || goneTo[place]) {
                    return false;
                }
                goneTo[place] = true;
            }
            return place == line.goal;
        }

        void giveWay(Line line, int[] told, int i, int n) {
            lift(line);
            System.arraycopy(told, i, line.steps, 0, n);
            line.length = n;
            flipAlong(line);
        }

        void lift(Line line) {
            flipAlong(line);
            line.length = 0;
        }

        /** A WAY goes by no SIDE twice, so that flipping its bit puts it on or takes it off. */
        private void flipAlong(Line line) {
            int place = line.start;
            for (int k = 0; k < line.length; k++) {
                int next = beside(place, line.steps[k]);
                if (next < 0) {
                    return;
                }
                linesBy[sideBetween(place, next, line.steps[k])] ^= line.bit;
                place = next;
            }
        }

        int costAmongOthers(Line line) {
            int sum = 0;
            for (int side = 0; side < NUMBERED_SIDES; side++) {
                if ((linesBy[side] & line.bit) != 0) {
                    sum += price(Integer.bitCount(linesBy[side]) - 1);
                }
            }
            return sum;
        }

        int sidesWithAll(int bits) {
            int sum = 0;
            for (int side = 0; side < NUMBERED_SIDES; side++) {
                if ((linesBy[side] & bits) == bits) {
                    sum++;
                }
            }
            return sum;
        }

        int sidesWithOthers(Line line) {
            int sum = 0;
            for (int side = 0; side < NUMBERED_SIDES; side++) {
                if ((linesBy[side] & line.bit) != 0 && linesBy[side] != line.bit) {
                    sum++;
                }
            }
            return sum;
        }

        int kindOf(Line line) {
            if (!line.hasWay()) {
                return NONE;
            }
            int withOthers = sidesWithOthers(line);
            if (withOthers == 0) {
                return ALONE;
            }
            return withOthers == line.length ? BOUND : FORKED;
        }

        int costOfAll() {
            int sum = 0;
            for (int side = 0; side < NUMBERED_SIDES; side++) {
                int lines = Integer.bitCount(linesBy[side]);
                for (int j = 0; j < lines; j++) {
                    sum += price(j);
                }
            }
            return sum;
        }

        int usedSides() {
            int sum = 0;
            for (int side = 0; side < NUMBERED_SIDES; side++) {
                if (linesBy[side] != 0) {
                    sum++;
                }
            }
            return sum;
        }

        int greatestWidth() {
            int greatest = 0;
            for (int side = 0; side < NUMBERED_SIDES; side++) {
                greatest = Math.max(greatest, Integer.bitCount(linesBy[side]));
            }
            return greatest;
        }

        int forks() {
            int sum = 0;
            for (int place = 0; place < PLACES; place++) {
                if (isFork(place)) {
                    sum++;
                }
            }
            return sum;
        }

        /** Two LINES PART, where of those by one SIDE some go by another SIDE too, and some do not. */
        private boolean isFork(int place) {
            for (int d = 0; d < DIRECTIONS; d++) {
                int sharing = linesFrom(place, d);
                for (int e = 0; e < DIRECTIONS; e++) {
                    int going = sharing & linesFrom(place, e);
                    if (going != 0 && going != sharing) {
                        return true;
                    }
                }
            }
            return false;
        }

        /** A LINE comes to a place once, so that one with two opposite SIDES there goes straight on. */
        int crossings() {
            int sum = 0;
            for (int place = 0; place < PLACES; place++) {
                int upright = linesFrom(place, 0) & linesFrom(place, 2);
                int level = linesFrom(place, 1) & linesFrom(place, 3);
                sum += Integer.bitCount(upright) * Integer.bitCount(level);
            }
            return sum;
        }

        /** The DIRECTION in which a reader goes on; -1: none. */
        int onward(int place, int heading) {
            int right = (heading + 1) % DIRECTIONS;
            int left = (heading + 3) % DIRECTIONS;
            if (linesFrom(place, heading) != 0) {
                return heading;
            }
            if (linesFrom(place, right) != 0) {
                return right;
            }
            return linesFrom(place, left) != 0 ? left : -1;
        }
    }

    /**
     * Finds the WAY that a LINE is LED by. How much is left to go to the goal is told for each place
     * as one number, COST times SCALE and SIDES added, so that fewer SIDES decide among equal costs;
     * from the start on, the least DIRECTION that loses nothing is then taken.
     */
    private static final class Finder {
        private static final int SCALE = 128;
        private static final int FAR = 1 << 29;
        /** Each SIDE is looked at once from each of its places; those beyond the edge leave room to spare. */
        private static final int HEAP = DIRECTIONS * PLACES;

        private final int[] left = new int[PLACES];
        private final int[] heap = new int[HEAP];
        private final int[] steps = new int[PLACES];
        private int heaped, length, cost;

        boolean findWay(Net net, Line line) {
            spread(net, line);
            length = 0;
            if (left[line.start] >= FAR) {
                return false;
            }
            cost = left[line.start] / SCALE;
            int place = line.start;
            for (int i = 0; i < PLACES && place >= 0 && place != line.goal; i++) {
                int d = leastDirection(net, line, place);
                if (d < 0) {
                    return false;
                }
                steps[i] = d;
                length = i + 1;
                place = beside(place, d);
            }
            return true;
        }

        /** The LINE's own WAY counts as taken off. */
        private static int weight(Net net, Line line, int side) {
            return net.price(Integer.bitCount(net.linesBy[side] & ~line.bit)) * SCALE + 1;
        }

        private int leastDirection(Net net, Line line, int place) {
            for (int d = 0; d < DIRECTIONS; d++) {
                int next = beside(place, d);
                if (next >= 0 && left[place] - left[next] == weight(net, line, sideBetween(place, next, d))) {
                    return d;
                }
            }
            return -1;
        }

        /** Goes out from the goal, nearest places first, as far as the start. */
        private void spread(Net net, Line line) {
            for (int place = 0; place < PLACES; place++) {
                left[place] = FAR;
            }
            heaped = 0;
            reach(line.goal, 0);
            for (int i = 0; i < HEAP && heaped > 0; i++) {
                int key = pull();
                int place = key % SCALE;
                if (place == line.start) {
                    return;
                }
                if (key / SCALE == left[place]) {
                    reachFrom(net, line, place);
                }
            }
        }

        private void reachFrom(Net net, Line line, int place) {
            for (int d = 0; d < DIRECTIONS; d++) {
                int next = beside(place, d);
                if (next >= 0 && !net.shutAt[next]) {
                    int sum = left[place] + weight(net, line, sideBetween(place, next, d));
                    if (sum < left[next]) {
                        reach(next, sum);
                    }
                }
            }
        }

        private void reach(int place, int sum) {
            if (heaped >= HEAP) {
                return;
            }
            left[place] = sum;
            int key = sum * SCALE + place;
            int at = heaped;
            heaped++;
            while (at > 0 && heap[(at - 1) / 2] > key) {
                heap[at] = heap[(at - 1) / 2];
                at = (at - 1) / 2;
            }
            heap[at] = key;
        }

        private int pull() {
            int least = heap[0];
            heaped--;
            int key = heap[heaped];
            int at = 0;
            for (int child = 1; child < heaped; child = 2 * at + 1) {
                if (child + 1 < heaped && heap[child + 1] < heap[child]) {
                    child++;
                }
                if (heap[child] >= key) {
                    break;
                }
                heap[at] = heap[child];
                at = child;
            }
            heap[at] = key;
            return least;
        }
    }

    /** Finds TINTS: tries more and more of them, till a row fits; LINES by one SIDE need one each. */
    private static final class Tinter {
        private final int[] clashes = new int[LINES];
        private final int[] tints = new int[LINES];
        private final int[] members = new int[LINES];
        private int tintCount;

        void tintAll(Net net, int lineBits) {
            gatherClashes(net);
            for (int i = 0; i < LINES; i++) {
                tints[i] = NONE;
                members[i] = 0;
            }
            tintCount = net.greatestWidth();
            // The row is tried ahead of the bound: with as many TINTS as LINES it always fits.
            while (!tintFrom(this, lineBits, 0, 0) && tintCount < LINES) {
                tintCount++;
            }
        }

        private void gatherClashes(Net net) {
            for (int i = 0; i < LINES; i++) {
                clashes[i] = 0;
                for (int side = 0; side < Net.NUMBERED_SIDES; side++) {
                    if ((net.linesBy[side] >> i & 1) != 0) {
                        clashes[i] |= net.linesBy[side];
                    }
                }
            }
        }

        /**
         * Gives the LINES from one on the least TINTS that fit; the depth is the LINE's number.
         * In the least row a new TINT is always the next unused one, so that no other new one is tried.
         */
        private static boolean tintFrom(Tinter t, int lineBits, int line, int used) {
            if (line >= LINES) {
                return true;
            }
            if ((lineBits >> line & 1) == 0) {
                return tintFrom(t, lineBits, line + 1, used);
            }
            for (int tint = 0; tint <= used && tint < t.tintCount; tint++) {
                if ((t.members[tint] & t.clashes[line]) == 0) {
                    t.members[tint] |= 1 << line;
                    t.tints[line] = tint;
                    if (tintFrom(t, lineBits, line + 1, Math.max(used, tint + 1))) {
                        return true;
                    }
                    t.members[tint] &= ~(1 << line);
                }
            }
            return false;
        }
    }
}
