/** THE BOARD, POINTS, LINES and RULES at their limits, sentence by sentence (Terms; promises 1, 6 to 10). */
public final class NetEdgeTest extends Hand {
    public static void main(String[] args) {
        newObject();
        noSuchPlace();
        allPlacesAreThere();
        onePointAtEach();
        pointsAtOpenPlaces();
        twelvePoints();
        refusedPointsHaveNoNumber();
        pointsWhereWaysGo();
        shutOrItWas();
        shutWherePointsStand();
        shutWhereWaysGo();
        shutAfterWays();
        shutAll();
        openOrItWas();
        noSuchPoint();
        samePoint();
        twelveLines();
        linesWithoutWay();
        rulesAtFirst();
        baseLimits();
        saveLimits();
        noSuchRule();
        waysStay();
        oneAtLeast();
        sharesOfTwelve();
        DUE.end();
    }

    /** "No SHEETS, POINTS, LINES; all places are open." */
    private static void newObject() {
        LineBundles x = new LineBundles();
        for (int what = 0; what < 8; what++) {
            due("new: count " + what, x.count(what), 0);
        }
        for (int i = 0; i < 100; i++) {
            due("new: open already", x.open(i % 10, i / 10), 0);
        }
        due("new: no line", x.kind(0), BAD);
        due("new: no point", x.reads(0, 0), BAD);
        due("new: no sheet", x.drop(0), NULL);
        due("new: two have nothing in common", new LineBundles().count(1) + x.point(0, 0), 0);
        due("new: another one is new still", new LineBundles().count(1), 0);
    }

    /** "places x, y, 0 to 9 each"; "BAD" of point, shut, open, width. */
    private static void noSuchPlace() {
        LineBundles x = new LineBundles();
        for (int off : beyond(10)) {
            for (int on : new int[] {0, 9}) {
                due("no place: point", x.point(off, on), BAD);
                due("no place: point", x.point(on, off), BAD);
                due("no place: shut", x.shut(off, on), BAD);
                due("no place: shut", x.shut(on, off), BAD);
                due("no place: open", x.open(off, on), BAD);
                due("no place: open", x.open(on, off), BAD);
                due("no place: width", x.width(off, on, 1), BAD);
                due("no place: width", x.width(on, off, 2), BAD);
            }
            due("no place: both", x.point(off, off), BAD);
        }
        due("no place: no points", x.count(1), 0);
        due("no place: none shut", x.count(7), 0);
    }

    private static void allPlacesAreThere() {
        LineBundles x = new LineBundles();
        for (int i = 0; i < 100; i++) {
            due("place: shut", x.shut(i % 10, i / 10), 1);
            due("place: open", x.open(i % 10, i / 10), 1);
        }
        due("corner 0, 0", x.point(0, 0), 0);
        due("corner 9, 0", x.point(9, 0), 1);
        due("corner 0, 9", x.point(0, 9), 2);
        due("corner 9, 9", x.point(9, 9), 3);
        x.line(0, 3);
        due("from corner to corner", x.lead(0), 180);
    }

    /** "one at each at most": "STATE: the place .. has one" */
    private static void onePointAtEach() {
        LineBundles x = new LineBundles();
        for (int i = 0; i < 10; i++) {
            due("one each", x.point(i, 9 - i), i);
            for (int j = 0; j <= i; j++) {
                due("one at each at most", x.point(j, 9 - j), STATE);
            }
        }
        due("the other way round is another place", x.point(0, 0), 10);
    }

    /** "STATE: the place is SHUT" */
    private static void pointsAtOpenPlaces() {
        LineBundles x = new LineBundles();
        x.shut(3, 4);
        due("shut", x.point(3, 4), STATE);
        due("x and y are not alike", x.point(4, 3), 0);
        x.open(3, 4);
        due("open again", x.point(3, 4), 1);
    }

    /** "POINTS 0 .. 11 (12 at most)": "FULL: 12", behind BAD and STATE. */
    private static void twelvePoints() {
        LineBundles x = new LineBundles();
        x.shut(9, 9);
        for (int i = 0; i < 12; i++) {
            due("twelve: " + i, x.point(i % 10, i / 10), i);
            due("twelve: count", x.count(1), i + 1);
        }
        for (int i = 12; i < 99; i++) {
            due("twelve: full", x.point(i % 10, i / 10), FULL);
        }
        due("twelve: one is there", x.point(1, 1), STATE);
        due("twelve: shut", x.point(9, 9), STATE);
        due("twelve: no place", x.point(9, 10), BAD);
        due("twelve: count", x.count(1), 12);
        due("twelve: the last can be joined", x.line(11, 0), 0);
        due("twelve: the last stands where it was put", x.lead(0), 20);
    }

    private static void refusedPointsHaveNoNumber() {
        LineBundles x = new LineBundles();
        due("first", x.point(0, 0), 0);
        x.point(0, 0);
        x.point(-1, 0);
        x.shut(1, 1);
        x.point(1, 1);
        due("second", x.point(2, 2), 1);
        due("two", x.count(1), 2);
    }

    /** A WAY that goes by a place is none of the reasons for STATE. */
    private static void pointsWhereWaysGo() {
        LineBundles x = new LineBundles();
        x.point(0, 0);
        x.point(3, 0);
        x.line(0, 1);
        x.lead(0);
        due("a point by the way", x.point(1, 0), 2);
        dueWay("the way stays", x, 0, "111");
    }

    /** "A place is SHUT: 1; 0: it was." */
    private static void shutOrItWas() {
        LineBundles x = new LineBundles();
        for (int i = 0; i < 10; i++) {
            due("shut", x.shut(i, i), 1);
            due("it was", x.shut(i, i), 0);
            due("count", x.count(7), i + 1);
        }
    }

    /** "STATE: a POINT stands there", with or without a LINE. */
    private static void shutWherePointsStand() {
        LineBundles x = star();
        x.point(0, 0);
        due("a point with lines", x.shut(5, 5), STATE);
        due("a point with one line", x.shut(4, 5), STATE);
        due("a point without lines", x.shut(0, 0), STATE);
        due("none shut", x.count(7), 0);
        due("beside it", x.shut(0, 1), 1);
    }

    /** "STATE: .. or a WAY goes there": at its turns and straight on, in every DIRECTION. */
    private static void shutWhereWaysGo() {
        LineBundles x = new LineBundles();
        x.point(4, 4);
        x.point(5, 4);
        x.line(0, 1);
        String round = "00332222221111110000333";
        due("round", lay(x, 0, round), 1);
        int px = 4, py = 4;
        for (int i = 0; i < round.length(); i++) {
            int d = round.charAt(i) - '0';
            px += d == 1 ? 1 : d == 3 ? -1 : 0;
            py += d == 2 ? 1 : d == 0 ? -1 : 0;
            due("a way goes there: " + i, x.shut(px, py), STATE);
        }
        due("none goes inside", x.shut(4, 5), 1);
        due("none goes outside", x.shut(1, 1), 1);
        due("two shut", x.count(7), 2);
    }

    /** A WAY that was taken off, laid elsewhere or led elsewhere goes there no more. */
    private static void shutAfterWays() {
        LineBundles x = new LineBundles();
        x.point(0, 0);
        x.point(2, 0);
        x.line(0, 1);
        x.line(1, 0);
        lay(x, 0, "11");
        lay(x, 1, "33");
        due("two go there", x.shut(1, 0), STATE);
        x.take(0);
        due("one goes there", x.shut(1, 0), STATE);
        lay(x, 1, "2330");
        due("none goes there", x.shut(1, 0), 1);
        due("it goes here", x.shut(1, 1), STATE);
        x.open(1, 0);
        x.rule(1, 0);
        x.lead(1);
        due("led elsewhere", x.shut(1, 1), 1);
        due("led here", x.shut(1, 0), STATE);
        x.take(1);
        due("taken off", x.shut(1, 0), 1);
        due("a line without a way keeps no place open", x.shut(0, 1), 1);
    }

    /** All places can be SHUT, where there are no POINTS. */
    private static void shutAll() {
        LineBundles x = new LineBundles();
        for (int i = 0; i < 100; i++) {
            due("shut all", x.shut(i % 10, i / 10), 1);
        }
        due("all are shut", x.count(7), 100);
        due("no place for a point", x.point(5, 5), STATE);
        for (int i = 0; i < 100; i++) {
            due("open all", x.open(i % 10, i / 10), 1);
        }
        due("none is shut", x.count(7), 0);
    }

    /** "A place is open: 1; 0: it was." */
    private static void openOrItWas() {
        LineBundles x = star();
        x.lead(1);
        due("open at first", x.open(0, 9), 0);
        due("a point stands there", x.open(5, 5), 0);
        due("shut", x.shut(0, 9), 1);
        due("the other way round it was open", x.open(9, 0), 0);
        due("open", x.open(0, 9), 1);
        due("it was", x.open(0, 9), 0);
        due("shut again", x.shut(0, 9), 1);
        due("one shut", x.count(7), 1);
    }

    /** "BAD: POINTS" of line. */
    private static void noSuchPoint() {
        LineBundles x = new LineBundles();
        due("no points yet", x.line(0, 1), BAD);
        x.point(0, 0);
        due("one is too few", x.line(0, 1), BAD);
        due("one is too few", x.line(1, 0), BAD);
        x.point(1, 0);
        for (int p : beyond(2)) {
            due("no point " + p, x.line(p, 0), BAD);
            due("no point " + p, x.line(1, p), BAD);
            due("no point twice " + p, x.line(p, p), BAD);
        }
        due("no lines", x.count(2), 0);
        due("both are there", x.line(1, 0), 0);
        for (int i = 2; i < 12; i++) {
            x.point(i % 10, i / 10 + 1);
        }
        due("the last there can be", x.line(0, 11), 1);
        due("one more", x.line(0, 12), BAD);
    }

    /** "(or the same)": "two unlike POINTS" */
    private static void samePoint() {
        LineBundles x = star();
        for (int p = 0; p < 5; p++) {
            due("the same", x.line(p, p), BAD);
        }
        due("still four", x.count(2), 4);
        due("joined already", x.line(0, 1), 4);
        due("joined already, the other way round", x.line(1, 0), 5);
    }

    /** "LINES 0 .. 11 (12 at most)": "FULL: 12", behind BAD. */
    private static void twelveLines() {
        LineBundles x = new LineBundles();
        for (int i = 0; i < 12; i++) {
            x.point(i % 10, i / 10);
        }
        for (int i = 0; i < 12; i++) {
            due("twelve: " + i, x.line(i, (i + 1) % 12), i);
            due("twelve: count", x.count(2), i + 1);
        }
        due("twelve: full", x.line(0, 5), FULL);
        due("twelve: full again", x.line(0, 1), FULL);
        due("twelve: the same", x.line(5, 5), BAD);
        due("twelve: no point", x.line(0, 12), BAD);
        due("twelve: no point below", x.line(-1, 0), BAD);
        due("twelve: still", x.count(2), 12);
        due("twelve: the last is there", x.lead(11), 20);
        due("twelve: the first is there, along it", x.lead(0), 7);
        due("twelve: no thirteenth", x.lead(12), BAD);
    }

    /** "A LINE without a WAY" */
    private static void linesWithoutWay() {
        LineBundles x = rope(3);
        due("new line", x.line(0, 1), 3);
        due("no sides", x.way(3, -1), 0);
        due("no first one", x.way(3, 0), NONE);
        due("no kind", x.kind(3), NONE);
        due("the others' side", x.width(0, 0, 1), 3);
        due("with ways", x.count(3), 3);
    }

    /** "BASE 1 to 100 (at first 10), SAVE 0 to 50 (3)" */
    private static void rulesAtFirst() {
        LineBundles x = rope(2);
        due("first and second", x.all(0), 10 + 7);
        due("base", x.rule(0, 1), 10);
        due("save", x.rule(1, 0), 3);
        due("of another object", new LineBundles().rule(0, 5), 10);
    }

    private static void baseLimits() {
        LineBundles x = rope(1);
        int was = 10;
        for (int v = 1; v <= 100; v++) {
            due("base " + v, x.rule(0, v), was);
            due("cost by base " + v, x.all(0), v);
            was = v;
        }
        for (int v : new int[] {MIN, MIN + 1, -100, -1, 0, 101, 102, 256, MAX - 1, MAX}) {
            due("no base " + v, x.rule(0, v), BAD);
            due("base stays", x.all(0), 100);
        }
        due("base was", x.rule(0, 1), 100);
        due("save is another rule", x.rule(1, 3), 3);
    }

    private static void saveLimits() {
        LineBundles x = rope(2);
        x.rule(0, 100);
        int was = 3;
        for (int v = 0; v <= 50; v++) {
            due("save " + v, x.rule(1, v), was);
            due("cost by save " + v, x.all(0), 200 - v);
            was = v;
        }
        for (int v : new int[] {MIN, MIN + 1, -50, -2, -1, 51, 52, 100, MAX - 1, MAX}) {
            due("no save " + v, x.rule(1, v), BAD);
            due("save stays", x.all(0), 150);
        }
        due("save was", x.rule(1, 0), 50);
        due("base is another rule", x.rule(0, 10), 100);
    }

    private static void noSuchRule() {
        LineBundles x = new LineBundles();
        for (int what : beyond(2)) {
            for (int v : new int[] {MIN, 0, 1, 10, 50, 100, MAX}) {
                due("no rule " + what, x.rule(what, v), BAD);
            }
        }
        due("base stays", x.rule(0, 10), 10);
        due("save stays", x.rule(1, 3), 3);
    }

    /** "WAYS stay": though another WAY would cost less by the new RULES. */
    private static void waysStay() {
        LineBundles x = new LineBundles();
        x.point(0, 0);
        x.point(4, 0);
        x.point(0, 1);
        x.point(4, 1);
        x.line(0, 1);
        x.line(2, 3);
        x.rest();
        x.rule(1, 9);
        dueWay("ways stay", x, 0, "1111");
        dueWay("ways stay", x, 1, "1111");
        due("till a pass", x.pass(), 1);
    }

    /** "BASE less j SAVE, 1 at least": just above, at and below 1. */
    private static void oneAtLeast() {
        LineBundles x = rope(3);
        x.rule(1, 5);
        int[][] rows = {{12, 12 + 7 + 2}, {11, 11 + 6 + 1}, {10, 10 + 5 + 1}, {9, 9 + 4 + 1}, {7, 7 + 2 + 1},
            {6, 6 + 1 + 1}, {5, 5 + 1 + 1}, {4, 4 + 1 + 1}, {2, 2 + 1 + 1}, {1, 3}};
        for (int[] row : rows) {
            x.rule(0, row[0]);
            due("cost by base " + row[0], x.all(0), row[1]);
            due("what the third costs", x.lead(2), Math.max(1, row[0] - 10));
        }
        x.rule(1, 50);
        x.rule(0, 100);
        due("greatest base and save", x.all(0), 100 + 50 + 1);
        x.rule(0, 1);
        due("least base, greatest save", x.all(0), 3);
        x.rule(1, 0);
        due("least base, no save", x.all(0), 3);
        x.rule(0, 100);
        due("greatest base, no save", x.all(0), 300);
    }

    /** "the costs of the first, the second, .. the m-th one": up to the twelfth. */
    private static void sharesOfTwelve() {
        LineBundles x = rope(12);
        x.rule(0, 40);
        int sum = 0;
        for (int j = 0; j < 12; j++) {
            sum += 40 - 3 * j;
        }
        due("all twelve", x.all(0), sum);
        due("the twelfth", x.lead(11), 40 - 33);
        due("the first, the others being there", x.ask(0, 1), 40 - 33 + 2);
        for (int m = 12; m > 0; m--) {
            due("width", x.width(1, 0, 3), m);
            x.take(12 - m);
            sum -= 40 - 3 * (m - 1);
            due("cost without", x.all(0), sum);
        }
    }
}
