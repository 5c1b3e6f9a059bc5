/** What is told of WAYS, at its limits, sentence by sentence (Terms; promises 17 to 22). */
public final class LookEdgeTest extends Hand {
    public static void main(String[] args) {
        widthBeyondTheEdge();
        widthFromBothPlaces();
        widthOfBadNumbers();
        widthUpToTwelve();
        cornersCount();
        allOfBadNumbers();
        allOfNone();
        allAtItsMost();
        forkWhereOneEnds();
        forkInEachDirection();
        forkOfTwoSides();
        noForkWithoutShare();
        noForkWhereBothGo();
        forkOnce();
        crossStraightOn();
        noCrossAtTurnsAndEnds();
        noCrossOfOneWay();
        crossInPairs();
        detourRefused();
        detourCut();
        sharedRefused();
        sharedOfNone();
        sharedAlike();
        tintRefused();
        tintOfNone();
        tintMoreThanWidth();
        tintLeastRow();
        tintAnew();
        tintOverGaps();
        readsRefused();
        readsWithoutWidth();
        readsStraightAhead();
        readsRightThenLeft();
        readsAtCorners();
        readsToPointsWithWays();
        readsBackToItsStart();
        readsToItsStart();
        readsHundredSides();
        DUE.end();
    }

    /** "0 where there is none": the 40 SIDES beyond the edges, though WAYS go along all edges. */
    private static void widthBeyondTheEdge() {
        LineBundles x = new LineBundles();
        x.point(0, 0);
        x.point(9, 9);
        x.line(0, 1);
        x.line(0, 1);
        lay(x, 0, "1".repeat(9) + "2".repeat(9));
        lay(x, 1, "2".repeat(9) + "1".repeat(9));
        for (int i = 0; i < 10; i++) {
            due("beyond above", x.width(i, 0, 0), 0);
            due("beyond right", x.width(9, i, 1), 0);
            due("beyond below", x.width(i, 9, 2), 0);
            due("beyond left", x.width(0, i, 3), 0);
            due("along above", x.width(i, 0, 1), i < 9 ? 1 : 0);
            due("along right", x.width(9, i, 2), i < 9 ? 1 : 0);
            due("along below", x.width(i, 9, 1), i < 9 ? 1 : 0);
            due("along left", x.width(0, i, 2), i < 9 ? 1 : 0);
        }
    }

    /** Each SIDE is one SIDE, from both its places. */
    private static void widthFromBothPlaces() {
        LineBundles x = star();
        for (int d = 0; d < 4; d++) {
            x.lead(d);
            int px = 5 + (d == 1 ? 1 : d == 3 ? -1 : 0), py = 5 + (d == 2 ? 1 : d == 0 ? -1 : 0);
            due("from the one", x.width(5, 5, d), 1);
            due("from the other", x.width(px, py, (d + 2) % 4), 1);
            due("the next one ahead", x.width(px, py, d), 0);
            due("aside", x.width(px, py, (d + 1) % 4), 0);
            x.take(d);
            due("off", x.width(px, py, (d + 2) % 4), 0);
        }
    }

    private static void widthOfBadNumbers() {
        LineBundles x = rope(2);
        for (int bad : beyond(4)) {
            due("no direction " + bad, x.width(0, 0, bad), BAD);
            due("no direction beyond the edge " + bad, x.width(9, 9, bad), BAD);
        }
        for (int bad : beyond(10)) {
            due("no place x " + bad, x.width(bad, 0, 1), BAD);
            due("no place y " + bad, x.width(0, bad, 1), BAD);
            due("no place, no direction " + bad, x.width(bad, bad, 4), BAD);
        }
        due("it is there", x.width(0, 0, 1), 2);
    }

    private static void widthUpToTwelve() {
        LineBundles x = rope(0);
        for (int i = 0; i < 12; i++) {
            x.line(i % 2, 1 - i % 2);
            due("without its way", x.width(0, 0, 1), i);
            x.lead(i);
            due("with its way", x.width(0, 0, 1), i + 1);
            due("from the other place", x.width(1, 0, 3), i + 1);
        }
    }

    /** The SIDES of all four corners count as others do. */
    private static void cornersCount() {
        for (int turn = 0; turn < 4; turn++) {
            for (int down = 0; down < 2; down++) {
                LineBundles x = new LineBundles();
                pointTurned(x, 0, 0, turn);
                pointTurned(x, 1 - down, down, turn);
                x.line(0, 1);
                x.line(1, 0);
                x.rest();
                dueAll("two in a corner", x, 17, 1, 2, 0, 0, 2);
                due("shared", x.shared(0, 1), 1);
                due("bound", x.kind(0), 2);
                due("mark", x.ask(1, 1), 7 + 2);
                due("led", x.lead(0), 7);
                dueTints("two in a corner", x, 0, 1);
                x.take(0);
                dueAll("one in a corner", x, 10, 1, 1, 0, 0, 1);
                due("alone", x.ask(1, 1), 10);
            }
        }
    }

    private static void allOfBadNumbers() {
        LineBundles x = rope(2);
        for (int what : beyond(6)) {
            due("no such " + what, x.all(what), BAD);
        }
    }

    /** Without WAYS all are 0. */
    private static void allOfNone() {
        dueAll("new", new LineBundles(), 0, 0, 0, 0, 0, 0);
        LineBundles x = star();
        dueAll("lines without ways", x, 0, 0, 0, 0, 0, 0);
        x.rest();
        for (int d = 0; d < 4; d++) {
            x.take(d);
        }
        dueAll("taken off", x, 0, 0, 0, 0, 0, 0);
    }

    /** Twelve LINES as long as can be laid, all by the same SIDES. */
    private static void allAtItsMost() {
        LineBundles x = new LineBundles();
        x.point(0, 0);
        x.point(0, 4);
        String forty = ("1".repeat(9) + "2" + "3".repeat(9) + "2").repeat(2);
        write(x, 0, forty);
        for (int i = 0; i < 12; i++) {
            x.line(0, 1);
            due("forty", x.lay(i, 0, 0, 40), 1);
        }
        x.rule(0, 100);
        x.rule(1, 0);
        dueAll("at their most", x, 40 * 12 * 100, 40, 12, 0, 0, 480);
    }

    /** PART: "(or end there)": where the one ends, the other one has another SIDE, straight on or aside. */
    private static void forkWhereOneEnds() {
        LineBundles x = new LineBundles();
        for (int i = 0; i < 4; i++) {
            x.point(3 * i, 4);
        }
        x.line(0, 2);
        x.line(1, 3);
        x.rest();
        dueAll("share the middle", x, 6 * 10 + 3 * 17, 9, 2, 2, 0, 12);
        x.line(1, 2);
        x.lead(2);
        due("a third one of the middle alone", x.all(3), 2);
        x.take(0);
        due("one end less", x.all(3), 1);
        x.take(2);
        due("none to part from", x.all(3), 0);
    }

    private static void forkInEachDirection() {
        for (int came = 0; came < 4; came++) {
            for (int goes = 0; goes < 4; goes++) {
                LineBundles x = star();
                x.line(1 + came, 1 + goes);
                x.lead(came);
                int back = (came + 2) % 4;
                due("through the middle", lay(x, 4, "" + back + goes), goes == came ? BAD : 1);
                due("came by " + came + ", goes by " + goes, x.all(3), goes == came ? 0 : 1);
            }
        }
    }

    /** Both turn aside, or the one goes on: each counts. */
    private static void forkOfTwoSides() {
        LineBundles x = new LineBundles();
        x.point(2, 5);
        x.point(5, 2);
        x.point(5, 8);
        x.point(8, 5);
        for (int i = 1; i < 4; i++) {
            x.line(0, i);
        }
        lay(x, 0, "111000");
        lay(x, 1, "111222");
        due("both turn aside", x.all(3), 1);
        due("they do not cross", x.all(4), 0);
        x.take(1);
        lay(x, 2, "111111");
        due("one goes straight on", x.all(3), 1);
        lay(x, 1, "111222");
        due("all three", x.all(3), 1);
    }

    /** "share a SIDE at it": those that only meet at a place do not PART there. */
    private static void noForkWithoutShare() {
        LineBundles x = new LineBundles();
        x.point(5, 3);
        x.point(3, 5);
        x.point(7, 5);
        x.point(5, 7);
        x.line(0, 1);
        x.line(2, 3);
        lay(x, 0, "2233");
        lay(x, 1, "3322");
        dueAll("they touch at a turn", x, 80, 8, 1, 0, 0, 8);
        x.line(0, 3);
        x.line(1, 2);
        x.take(0);
        x.take(1);
        lay(x, 2, "2222");
        lay(x, 3, "1111");
        dueAll("they cross", x, 80, 8, 1, 0, 1, 8);
        x.point(5, 5);
        x.line(4, 0);
        x.take(2);
        x.lead(4);
        dueAll("one ends at the other", x, 60, 6, 1, 0, 0, 6);
    }

    /** Where both have the same SIDES, or both end, they do not PART; the other way round is no other SIDE. */
    private static void noForkWhereBothGo() {
        LineBundles x = new LineBundles();
        x.point(2, 2);
        x.point(6, 4);
        x.line(0, 1);
        x.line(1, 0);
        x.line(0, 1);
        lay(x, 0, "112211");
        lay(x, 1, "330033");
        lay(x, 2, "112211");
        dueAll("side by side", x, 6 * 21, 6, 3, 0, 0, 18);
    }

    /** "a place where some two PART": it counts once, however many do. */
    private static void forkOnce() {
        LineBundles x = new LineBundles();
        x.point(2, 5);
        x.point(5, 2);
        x.point(5, 8);
        x.point(8, 5);
        String[] in = {"111", "222", "000", "333"}, out = {"333", "000", "222", "111"};
        for (int i = 0; i < 12; i++) {
            int from = i % 4, to = (i + 1 + i / 4) % 4;
            x.line(from, to);
            due("by the middle", lay(x, i, in[from] + out[to]), 1);
        }
        due("one fork", x.all(3), 1);
        due("upright ones and level ones", x.all(4), 4);
    }

    private static LineBundles cross(String first, String second) {
        LineBundles x = new LineBundles();
        x.point(2, 5);
        x.point(8, 5);
        x.point(5, 2);
        x.point(5, 8);
        x.line(0, 1);
        x.line(2, 3);
        due("laid", lay(x, 0, first), 1);
        due("laid", lay(x, 1, second), 1);
        return x;
    }

    /** "They CROSS at a place, if both go straight on through it" */
    private static void crossStraightOn() {
        due("at one place", cross("111111", "222222").all(4), 1);
        due("at three places", cross("111111", "2222100122" + "2233").all(4), 3);
        due("at none", cross("0000111111" + "2222", "222222").all(4), 0);
    }

    /** Where one turns, or begins or ends, they do not CROSS. */
    private static void noCrossAtTurnsAndEnds() {
        dueAll("the first one turns", cross("11121110", "222222"), 12 * 10 + 17, 13, 2, 2, 0, 14);
        dueAll("the second one turns", cross("111111", "22212223"), 12 * 10 + 17, 13, 2, 2, 0, 14);
        due("both turn", cross("111011" + "12", "22212223").all(4), 0);
        LineBundles x = new LineBundles();
        x.point(2, 5);
        x.point(8, 5);
        x.point(5, 2);
        x.point(5, 5);
        x.line(0, 1);
        x.line(2, 3);
        x.line(3, 2);
        x.rest();
        due("they end there", x.all(4), 0);
        due("both are there", x.width(5, 5, 0), 2);
    }

    /** "one by DIRECTIONS 0 or 2, the other by 1 or 3": along one another, in whichever way, they do not. */
    private static void noCrossOfOneWay() {
        LineBundles x = new LineBundles();
        x.point(2, 5);
        x.point(8, 5);
        x.line(0, 1);
        x.line(0, 1);
        x.line(1, 0);
        x.rest();
        due("along one another", x.all(4), 0);
        due("three", x.all(2), 3);
    }

    /** "(pairs of LINES at places)" */
    private static void crossInPairs() {
        LineBundles x = new LineBundles();
        x.point(2, 5);
        x.point(8, 5);
        x.point(5, 2);
        x.point(5, 8);
        for (int i = 0; i < 12; i++) {
            x.line(i < 6 ? i % 2 : 2 + i % 2, i < 6 ? 1 - i % 2 : 3 - i % 2);
        }
        for (int i = 0; i < 12; i++) {
            due("laid", lay(x, i, (i < 6 ? i % 2 == 0 ? "1" : "3" : i % 2 == 0 ? "2" : "0").repeat(6)), 1);
            int upright = Math.max(0, i - 5);
            due("pairs", x.all(4), 6 * upright);
        }
        x.take(3);
        due("one less", x.all(4), 30);
        due("no forks", x.all(3), 0);
    }

    /** "BAD; STATE: it has no WAY." */
    private static void detourRefused() {
        for (int lines : new int[] {0, 1, 12}) {
            LineBundles x = rope(lines);
            for (int line : beyond(lines)) {
                due("no line " + line, x.detour(line), BAD);
            }
            for (int i = 0; i < lines; i++) {
                due("straight", x.detour(i), 100);
                x.take(i);
                due("no way", x.detour(i), STATE);
            }
        }
    }

    /** "SIDES of its WAY times 100 by how far its POINTS are apart (x and y, added), cut" */
    private static void detourCut() {
        LineBundles x = new LineBundles();
        x.point(5, 5);
        x.point(6, 7);
        x.point(4, 5);
        x.point(4, 8);
        x.line(0, 1);
        x.line(1, 0);
        x.line(0, 2);
        x.line(3, 0);
        String[] rows = {"0 122 100", "0 01222 166", "0 0112232 233", "0 001122223 300", "1 003 100", "1 10033 166",
            "2 3 100", "2 032 300", "2 00322 500", "3 0001 100", "3 300011 150", "3 33000111 200"};
        for (String row : rows) {
            String[] parts = row.split(" ");
            int line = parts[0].charAt(0) - '0';
            due("laid " + row, lay(x, line, parts[1]), 1);
            due("detour " + row, x.detour(line), Integer.parseInt(parts[2]));
        }
    }

    private static void sharedRefused() {
        for (int lines : new int[] {0, 1, 12}) {
            LineBundles x = rope(lines);
            for (int line : beyond(lines)) {
                due("no line " + line, x.shared(line, 0), BAD);
                due("no line " + line, x.shared(0, line), BAD);
                due("no line twice " + line, x.shared(line, line), BAD);
            }
        }
        due("both are there", rope(12).shared(0, 11), 1);
    }

    /** Without WAYS there is nothing to share. */
    private static void sharedOfNone() {
        LineBundles x = rope(3);
        x.take(0);
        due("the first has none", x.shared(0, 1), 0);
        due("the second has none", x.shared(1, 0), 0);
        due("alike, without", x.shared(0, 0), 0);
        due("others", x.shared(1, 2), 1);
        x.take(1);
        due("both have none", x.shared(0, 1), 0);
    }

    /** "(alike: all of its own)" */
    private static void sharedAlike() {
        LineBundles x = rope(2);
        due("alike", x.shared(0, 0), 1);
        lay(x, 0, "210");
        due("alike, three", x.shared(0, 0), 3);
        due("beside one another", x.shared(0, 1), 0);
        lay(x, 1, "22100");
        due("in part", x.shared(0, 1), 2);
        due("in part, the other way round", x.shared(1, 0), 2);
        due("alike, five", x.shared(1, 1), 5);
    }

    /** "BAD"; "how many TINTS (line = NONE)" alone. */
    private static void tintRefused() {
        for (int lines : new int[] {0, 1, 12}) {
            LineBundles x = rope(lines);
            for (int line : beyond(lines)) {
                due("no line " + line, x.tint(line), line == NONE ? lines : BAD);
            }
            for (int line : new int[] {NONE - 1, NONE + 1, BAD, STATE, FULL}) {
                due("no line " + line, x.tint(line), BAD);
            }
        }
    }

    /** "NONE: it has no WAY." */
    private static void tintOfNone() {
        LineBundles x = rope(12);
        for (int i = 0; i < 12; i++) {
            due("how many", x.tint(NONE), 12 - i);
            due("with a way", x.tint(i), 0);
            x.take(i);
            due("without", x.tint(i), NONE);
        }
        due("none", x.tint(NONE), 0);
        due("none of none", new LineBundles().tint(NONE), 0);
    }

    /** A ring of five, each sharing with the next alone: three TINTS, though no SIDE has more than two LINES. */
    private static void tintMoreThanWidth() {
        String ring = "1".repeat(5) + "2".repeat(5) + "3".repeat(5) + "0".repeat(5);
        int[] xs = new int[20], ys = new int[20];
        for (int i = 0; i < 19; i++) {
            int d = ring.charAt(i) - '0';
            xs[i + 1] = xs[i] + (d == 1 ? 1 : d == 3 ? -1 : 0);
            ys[i + 1] = ys[i] + (d == 2 ? 1 : d == 0 ? -1 : 0);
        }
        LineBundles x = new LineBundles();
        for (int i = 0; i < 5; i++) {
            x.point(xs[4 * i], ys[4 * i]);
            x.point(xs[(4 * i + 5) % 20], ys[(4 * i + 5) % 20]);
        }
        for (int i = 0; i < 5; i++) {
            x.line(2 * i, 2 * i + 1);
            due("an arc", lay(x, i, (ring + ring).substring(4 * i, 4 * i + 5)), 1);
        }
        due("two by a side at most", x.all(2), 2);
        dueTints("a ring of five", x, 0, 1, 0, 1, 2);
        x.take(3);
        dueTints("a chain of four", x, 0, 1, 0, NONE, 1);
    }

    /** "of all such the least row, by the numbers of LINES" */
    private static void tintLeastRow() {
        LineBundles x = new LineBundles();
        for (int i = 0; i < 10; i++) {
            x.point(i, 0);
        }
        x.line(0, 2);
        x.line(7, 9);
        x.line(1, 4);
        x.line(6, 8);
        x.line(3, 7);
        x.rest();
        // A chain 0 - 2 - 4 - 3 - 1: two TINTS do, but then 1 has that of 0.
        dueTints("a chain", x, 0, 0, 1, 1, 0);
        x.take(2);
        dueTints("two chains", x, 0, 0, NONE, 1, 0);
        x.take(3);
        dueTints("all apart", x, 0, 0, NONE, NONE, 0);
        x.line(0, 9);
        x.lead(5);
        dueTints("one along all", x, 0, 0, NONE, NONE, 0, 1);
    }

    /** TINTS are told for the WAYS as they are, not as they were. */
    private static void tintAnew() {
        LineBundles x = rope(3);
        dueTints("by one side", x, 0, 1, 2);
        lay(x, 1, "210");
        dueTints("one apart", x, 0, 0, 1);
        lay(x, 2, "210");
        dueTints("another one apart", x, 0, 0, 1);
        lay(x, 1, "22100");
        dueTints("in part", x, 0, 0, 1);
        lay(x, 2, "1");
        dueTints("with the first one", x, 0, 0, 1);
        x.take(0);
        dueTints("without the first one", x, NONE, 0, 0);
        x.lead(0);
        x.lead(1);
        dueTints("all again", x, 0, 1, 2);
    }

    /** LINES without WAYS have none, and those behind them count as if they were not there. */
    private static void tintOverGaps() {
        LineBundles x = rope(12);
        for (int i = 0; i < 12; i += 2) {
            x.take(i);
        }
        dueTints("every other one", x, NONE, 0, NONE, 1, NONE, 2, NONE, 3, NONE, 4, NONE, 5);
        x.lead(11);
        x.take(1);
        x.lead(0);
        dueTints("another one", x, 0, NONE, NONE, 1, NONE, 2, NONE, 3, NONE, 4, NONE, 5);
    }

    private static void readsRefused() {
        LineBundles none = new LineBundles();
        LineBundles x = rope(2);
        for (int point : beyond(2)) {
            due("no point " + point, x.reads(point, 1), BAD);
            due("no points " + point, none.reads(point, 1), BAD);
            due("no point, no direction " + point, x.reads(point, -1), BAD);
        }
        for (int direction : beyond(4)) {
            due("no direction " + direction, x.reads(0, direction), BAD);
        }
        due("it is there", x.reads(0, 1), 1);
    }

    /** "STATE: that SIDE has WIDTH 0": beyond the edge too. */
    private static void readsWithoutWidth() {
        LineBundles x = rope(1);
        x.point(9, 9);
        for (int d = 0; d < 4; d++) {
            due("the one", x.reads(0, d), d == 1 ? 1 : STATE);
            due("the other", x.reads(1, d), d == 3 ? 0 : STATE);
            due("a point without lines", x.reads(2, d), STATE);
        }
        x.take(0);
        due("without its way", x.reads(0, 1), STATE);
        due("no direction comes first", x.reads(0, 4), BAD);
    }

    /** "go on straight, as long as the SIDE ahead has WIDTH 1 or more": not as its LINE goes. */
    private static void readsStraightAhead() {
        LineBundles x = new LineBundles();
        x.point(0, 5);
        x.point(5, 0);
        x.point(5, 9);
        x.point(9, 5);
        x.line(0, 1);
        x.line(2, 3);
        due("turns", lay(x, 0, "1111100000"), 1);
        due("turns", lay(x, 1, "00001111"), 1);
        due("straight on from left", x.reads(0, 1), 3);
        due("straight on from right", x.reads(3, 3), 0);
        due("straight on from above", x.reads(1, 2), 2);
        due("straight on from below", x.reads(2, 0), 1);
        x.take(1);
        due("left, where none is ahead", x.reads(0, 1), 1);
        due("right, where none is ahead", x.reads(1, 2), 0);
    }

    /** "where it has none: right, if that SIDE has, else left, if that has" */
    private static void readsRightThenLeft() {
        int[][] ends = {{5, 2}, {8, 5}, {5, 8}, {2, 5}};
        for (int from = 0; from < 4; from++) {
            LineBundles x = new LineBundles();
            for (int[] end : ends) {
                x.point(end[0], end[1]);
            }
            int inward = (from + 2) % 4, right = (inward + 1) % 4, left = (inward + 3) % 4;
            x.line(from, right);
            x.line(from, left);
            due("to the left", lay(x, 1, ("" + inward).repeat(3) + ("" + left).repeat(3)), 1);
            due("left alone", x.reads(from, inward), left);
            due("to the right", lay(x, 0, ("" + inward).repeat(3) + ("" + right).repeat(3)), 1);
            due("right ahead of left", x.reads(from, inward), right);
            due("straight on, from left to right", x.reads(left, right), right);
            x.take(1);
            due("right alone", x.reads(from, inward), right);
        }
    }

    /** At the corners of THE BOARD no SIDE is ahead. */
    private static void readsAtCorners() {
        LineBundles x = new LineBundles();
        x.point(0, 0);
        x.point(0, 1);
        x.line(0, 1);
        due("round the edge", lay(x, 0, "1".repeat(9) + "2".repeat(9) + "3".repeat(9) + "0".repeat(8)), 1);
        due("right at each corner", x.reads(0, 1), 1);
        due("left at each corner", x.reads(1, 2), 0);
        x.point(9, 0);
        x.point(0, 9);
        due("points of no line with a way", x.reads(0, 1), 1);
        x.line(2, 3);
        due("a line without a way", x.reads(0, 1), 1);
        due("a way", lay(x, 1, "2".repeat(9) + "3".repeat(9)), 1);
        due("the corner is an end now", x.reads(0, 1), 2);
        due("from the corner", x.reads(2, 2), 3);
        due("from the corner back", x.reads(2, 3), 0);
        due("none goes on over the edge", x.reads(3, 3), STATE);
    }

    /** "at a POINT at which some LINE with a WAY begins or ends it ends, too": whichever LINE that is. */
    private static void readsToPointsWithWays() {
        for (int ahead = 0; ahead <= 9; ahead += 9) {
            LineBundles x = new LineBundles();
            for (int i = 0; i < 4; i++) {
                x.point(3 * i, 5);
            }
            x.point(3, 0);
            for (int i = 0; i < ahead; i++) {
                x.line(0, 1);
            }
            int begins = x.line(1, 4), ends = x.line(4, 2), all = x.line(0, 3);
            x.lead(all);
            due("by points of lines without ways", x.reads(0, 1), 3);
            due("one begins there", lay(x, begins, "00000"), 1);
            due("to where one begins", x.reads(0, 1), 1);
            due("to it from the other end", x.reads(3, 3), 1);
            due("one ends there", lay(x, ends, "11122222"), 1);
            due("to where one ends", x.reads(3, 3), 2);
            x.take(begins);
            due("taken off", x.reads(0, 1), 2);
            x.take(ends);
            due("both taken off", x.reads(0, 1), 3);
        }
    }

    /** A ring from 3, 3 to 6, 6 with a stem behind each corner; a reader goes round it without an end. */
    private static LineBundles ring() {
        LineBundles x = new LineBundles();
        x.point(6, 0);
        x.point(9, 6);
        x.point(3, 9);
        x.point(0, 3);
        String[] ways = {"222222111", "333333222", "000000333", "111111000"};
        for (int i = 0; i < 4; i++) {
            x.line(i, (i + 1) % 4);
            due("a leg", lay(x, i, ways[i]), 1);
        }
        return x;
    }

    /** "(but never at that from which it goes, when it comes there again either)" */
    private static void readsBackToItsStart() {
        LineBundles x = ring();
        due("a point on the ring", x.point(5, 3), 4);
        x.line(4, 1);
        due("a line begins there", lay(x, 4, "1222111"), 1);
        due("to it", x.reads(0, 2), 4);
        due("by it, again and again", x.reads(4, 1), NONE);
        due("a point 4 sides on", x.point(6, 6), 5);
        due("by it 8 times, and 4 sides on", x.reads(4, 1), 5);
        due("back, straight on at the first corner", x.reads(4, 3), 3);
    }

    /** Where it can't go on at the POINT from which it goes, it ends there: in all four turns of THE BOARD. */
    private static void readsToItsStart() {
        for (int turn = 0; turn < 4; turn++) {
            LineBundles x = new LineBundles();
            pointTurned(x, 0, 5, turn);
            pointTurned(x, 4, 8, turn);
            pointTurned(x, 8, 4, turn);
            pointTurned(x, 4, 0, turn);
            String[] ways = {"1111222", "00010111", "33303000", "222322333"};
            for (int i = 0; i < 4; i++) {
                x.line(i, (i + 1) % 4);
                due("a stem and a side of the loop", lay(x, i, turned(ways[i], turn)), 1);
            }
            due("round the loop and back", x.reads(0, (1 + turn) % 4), 0);
            due("into the loop", x.reads(1, turn), 0);
        }
    }

    /** "and after 100 SIDES": neither 99 nor 101. */
    private static void readsHundredSides() {
        LineBundles x = ring();
        due("round and round", x.reads(0, 2), NONE);
        due("a point", x.point(6, 3), 4);
        due("after 99", x.reads(0, 2), NONE);
        due("a point", x.point(6, 5), 5);
        due("after 101", x.reads(0, 2), NONE);
        due("a point", x.point(6, 4), 6);
        due("after 100", x.reads(0, 2), 6);
        due("from a point without lines", x.reads(4, 2), NONE);
        due("a point", x.point(5, 6), 7);
        due("from a point without lines, after 100", x.reads(4, 2), 7);
    }
}
