/** LEADING, laying and taking at their limits, sentence by sentence (Terms; promises 11 to 16). */
public final class LeadEdgeTest extends Hand {
    /** A WAY from 0, 0 by all 100 places to 0, 1, next to where it began. */
    private static final String ROUND = "1".repeat(9)
        + ("2" + "3".repeat(8) + "2" + "1".repeat(8)).repeat(4) + "2" + "3".repeat(9) + "0".repeat(8);

    public static void main(String[] args) {
        noSuchLine();
        leadOneSide();
        leadTakesItsWayOff();
        leadWithoutWay();
        leadKeepsNoWayOfOthers();
        leadLeastCost();
        leadFewestSides();
        leadLeastDirections();
        leadThroughPoints();
        leadNotOverTheEdge();
        leadRoundTheEdge();
        leadAsFarAsCanBe();
        layFewestAndMost();
        layOfWrongNumbers();
        layOfMissing();
        layBeyondAnEnd();
        layNoDirections();
        layOverTheEdge();
        layByShutPlaces();
        layTwice();
        layNotToItsEnd();
        layBadIsLast();
        layInsteadOfAnother();
        takeOrNone();
        passOfNone();
        passOfTwelve();
        passEqualCost();
        passLessByOne();
        passWithoutWay();
        restInPasses();
        restOfNone();
        wayLimits();
        DUE.end();
    }

    /** "BAD" of lead, lay, take, way: LINES there are not. */
    private static void noSuchLine() {
        for (int lines : new int[] {0, 1, 12}) {
            LineBundles x = rope(lines);
            x.sheet(0, 0, 1);
            x.set(0, 0, 1);
            for (int line : beyond(lines)) {
                due("no line: lead " + line, x.lead(line), BAD);
                due("no line: lay " + line, x.lay(line, 0, 0, 1), BAD);
                due("no line: take " + line, x.take(line), BAD);
                due("no line: way " + line, x.way(line, 0), BAD);
                due("no line: way -1 " + line, x.way(line, -1), BAD);
            }
            due("no line: all as they were", x.all(2), lines);
        }
    }

    /** Neighbours: a WAY of one SIDE. */
    private static void leadOneSide() {
        LineBundles x = star();
        for (int d = 0; d < 4; d++) {
            due("one side", x.lead(d), 10);
            dueWay("one side", x, d, "" + d);
        }
        x.line(1, 0);
        due("one side back", x.lead(4), 7);
        dueWay("one side back", x, 4, "2");
    }

    /** "its WAY is taken off": it shares no SIDE with itself, and its old WAY is gone. */
    private static void leadTakesItsWayOff() {
        LineBundles x = rope(1);
        for (int i = 0; i < 3; i++) {
            due("alone", x.lead(0), 10);
        }
        x.line(1, 0);
        for (int i = 0; i < 3; i++) {
            due("with another one", x.lead(1), 7);
            due("the other one", x.lead(0), 7);
        }
        due("two of them", x.width(0, 0, 1), 2);
        due("laid round", lay(x, 0, "210"), 1);
        due("led back", x.lead(0), 7);
        due("the old way is off", x.all(1), 1);
        x.take(1);
        lay(x, 0, "210");
        x.rule(0, 100);
        x.rule(1, 50);
        due("its own sides are no cheaper", x.lead(0), 100);
        dueWay("its own sides are no cheaper", x, 0, "1");
    }

    /** "without one: none": "NONE: there is no WAY". */
    private static void leadWithoutWay() {
        LineBundles x = new LineBundles();
        x.point(0, 0);
        x.point(9, 9);
        x.point(0, 1);
        x.line(0, 1);
        x.line(1, 0);
        x.line(0, 2);
        for (int i = 0; i < 10; i++) {
            if (i != 4) {
                due("a wall with a gap", x.shut(i, 5), 1);
            }
        }
        due("by the gap", x.lead(0), 180);
        x.take(0);
        due("no gap", x.shut(4, 5), 1);
        due("from the one side", x.lead(0), NONE);
        due("from the other side", x.lead(1), NONE);
        due("no sides", x.way(0, -1), 0);
        due("no kind", x.kind(0), NONE);
        due("with ways", x.count(3), 0);
        due("on the same side", x.lead(2), 10);
        due("open again", x.open(4, 5), 1);
        due("by the gap again, along it", x.lead(1), 177);
    }

    private static void leadKeepsNoWayOfOthers() {
        LineBundles x = new LineBundles();
        x.point(0, 0);
        x.point(1, 0);
        x.point(9, 9);
        x.line(0, 1);
        x.line(0, 2);
        x.shut(8, 9);
        x.shut(9, 8);
        x.lead(0);
        due("none", x.lead(1), NONE);
        dueWay("the other one stays", x, 0, "1");
        due("status is not of lead", x.status(), 0);
    }

    /** Two LINES of five SIDES, the first one in the row below the second one's; both straight. */
    private static LineBundles twoRows() {
        LineBundles x = new LineBundles();
        x.point(0, 0);
        x.point(5, 0);
        x.point(0, 1);
        x.point(5, 1);
        x.line(2, 3);
        x.line(0, 1);
        x.lead(0);
        x.rule(1, 0);
        x.lead(1);
        return x;
    }

    /** "that whose SIDES cost it least": less by 1 is less, though it is longer. */
    private static void leadLeastCost() {
        LineBundles x = twoRows();
        x.rule(1, 5);
        x.rule(0, 13);
        due("65, not 66", x.lead(1), 65);
        dueWay("65, not 66", x, 1, "11111");
        x.rule(0, 12);
        due("59, not 60", x.lead(1), 59);
        dueWay("59, not 60", x, 1, "2111110");
    }

    /** "of several that with fewest SIDES": as dear, but longer, it is not led so. */
    private static void leadFewestSides() {
        LineBundles x = twoRows();
        x.rule(1, 4);
        due("50 by both", x.lead(1), 50);
        dueWay("fewest sides", x, 1, "11111");
        lay(x, 1, "2111110");
        due("50 by both still", x.lead(1), 50);
        dueWay("fewest sides still", x, 1, "11111");
        due("50 by both for the other one", x.lead(0), 50);
        dueWay("fewest sides, though the longer one begins by a lesser direction", x, 0, "11111");
    }

    /** "then that whose first DIRECTION is the least, then the second, .." */
    private static void leadLeastDirections() {
        String[] rows = {"00 22 1122", "22 00 0033", "02 20 0011", "20 02 2233", "00 21 112", "00 12 122",
            "99 78 033", "79 98 011", "09 18 01", "90 81 23", "55 57 22", "75 55 33"};
        for (String row : rows) {
            LineBundles x = new LineBundles();
            x.point(row.charAt(0) - '0', row.charAt(1) - '0');
            x.point(row.charAt(3) - '0', row.charAt(4) - '0');
            x.line(0, 1);
            x.lead(0);
            dueWay("from " + row, x, 0, row.substring(6));
        }
        LineBundles x = new LineBundles();
        x.point(0, 0);
        x.point(2, 2);
        x.line(0, 1);
        x.shut(2, 0);
        x.lead(0);
        dueWay("the first one that is left", x, 0, "1212");
        x.take(0);
        x.shut(1, 1);
        x.lead(0);
        dueWay("the last one that is left", x, 0, "2211");
    }

    /** "(Other POINTS may be gone through.)" */
    private static void leadThroughPoints() {
        LineBundles x = new LineBundles();
        for (int i = 0; i < 10; i++) {
            x.point(i, 0);
            x.shut(i, 1);
        }
        x.line(0, 9);
        x.line(9, 0);
        x.line(3, 6);
        due("by eight points", x.lead(0), 90);
        dueWay("by eight points", x, 0, "1".repeat(9));
        due("back", x.lead(1), 63);
        due("from one of them", x.lead(2), 12);
    }

    /** SIDES end at the edges of THE BOARD: from 9, 0 none goes to 0, 1. */
    private static void leadNotOverTheEdge() {
        LineBundles x = new LineBundles();
        x.point(9, 0);
        x.point(0, 1);
        x.point(5, 0);
        x.point(5, 9);
        x.point(0, 0);
        x.point(9, 9);
        x.rule(1, 0);
        x.line(0, 1);
        x.line(1, 0);
        x.line(2, 3);
        x.line(3, 2);
        x.line(4, 5);
        x.line(5, 4);
        int[] sides = {10, 10, 9, 9, 18, 18};
        for (int i = 0; i < 6; i++) {
            due("not over the edge", x.lead(i), 10 * sides[i]);
            due("not over the edge", x.way(i, -1), sides[i]);
        }
    }

    /** All but the places at the edge are SHUT. */
    private static void leadRoundTheEdge() {
        LineBundles x = new LineBundles();
        for (int i = 0; i < 64; i++) {
            x.shut(1 + i % 8, 1 + i / 8);
        }
        x.point(0, 0);
        x.point(0, 1);
        x.point(9, 9);
        x.line(0, 1);
        x.line(0, 2);
        x.line(2, 0);
        due("half round", x.lead(1), 180);
        dueWay("by the least direction", x, 1, "1".repeat(9) + "2".repeat(9));
        due("half round back", x.lead(2), 126);
        dueWay("along it", x, 2, "0".repeat(9) + "3".repeat(9));
        String round = "1".repeat(9) + "2".repeat(9) + "3".repeat(9) + "0".repeat(8);
        due("all round", lay(x, 0, round), 1);
        due("the one side", x.lead(0), 10);
        due("shut", x.shut(0, 5), 1);
        due("round is no way any more", lay(x, 0, round), BAD);
        dueWay("the one side", x, 0, "2");
    }

    /** By all 100 places to the place next to the first one: 99 SIDES at 1 each, 100 being asked for the one. */
    private static void leadAsFarAsCanBe() {
        LineBundles x = new LineBundles();
        int[][] at = {{0, 0}, {0, 0}, {0, 0}, {0, 1}};
        int px = 0, py = 0;
        for (int i = 0; i < 99; i++) {
            int d = ROUND.charAt(i) - '0';
            px += d == 1 ? 1 : d == 3 ? -1 : 0;
            py += d == 2 ? 1 : d == 0 ? -1 : 0;
            at[(i + 1) / 33] = (i + 1) % 33 == 0 ? new int[] {px, py} : at[(i + 1) / 33];
        }
        for (int[] p : at) {
            x.point(p[0], p[1]);
        }
        for (int i = 0; i < 6; i++) {
            x.line(i % 3, i % 3 + 1);
            due("a third", lay(x, i, ROUND.substring(i % 3 * 33, i % 3 * 33 + 33)), 1);
        }
        x.line(0, 3);
        x.rule(0, 100);
        x.rule(1, 50);
        due("99 sides at 1 each", x.lead(6), 99);
        dueWay("99 sides", x, 6, ROUND);
        due("the longest detour", x.detour(6), 9900);
        due("bound", x.ask(6, 0), 198);
        due("no more than 40 are laid", lay(x, 6, "2"), 1);
        x.rule(1, 49);
        due("the one side", x.lead(6), 100);
        dueWay("the one side", x, 6, "2");
    }

    /** "n ITEMS (1 to 40)" */
    private static void layFewestAndMost() {
        LineBundles x = new LineBundles();
        x.point(0, 0);
        x.point(1, 0);
        x.point(0, 4);
        x.point(1, 4);
        x.line(0, 1);
        x.line(0, 2);
        x.line(0, 3);
        String forty = ("1".repeat(9) + "2" + "3".repeat(9) + "2").repeat(2);
        due("one", lay(x, 0, "1"), 1);
        dueWay("one", x, 0, "1");
        due("forty", lay(x, 1, forty), 1);
        dueWay("forty", x, 1, forty);
        due("41, though it would be one", lay(x, 2, forty + "1"), BAD);
        due("41: no way", x.way(2, -1), 0);
        write(x, 0, "3".repeat(20) + forty);
        x.take(1);
        due("forty, the sheet's last ones", x.lay(1, 0, 20, 40), 1);
        dueWay("forty, the sheet's last ones", x, 1, forty);
        due("39 of them", x.lay(1, 0, 20, 39), BAD);
        due("forty, one earlier", x.lay(1, 0, 19, 40), BAD);
    }

    /** "BAD: LINE, SHEET, n": ahead of NULL and PLACE. */
    private static void layOfWrongNumbers() {
        LineBundles x = star();
        write(x, 0, "1");
        for (int n : new int[] {MIN, MIN + 1, -40, -1, 0, 41, 42, 60, 61, MAX - 1, MAX}) {
            due("n " + n, x.lay(1, 0, 0, n), BAD);
            due("n, missing too " + n, x.lay(1, 1, 0, n), BAD);
            due("n, no place too " + n, x.lay(1, 0, -1, n), BAD);
        }
        for (int line : beyond(4)) {
            due("line, missing too", x.lay(line, 1, 0, 1), BAD);
            due("line, no place too", x.lay(line, 0, 1, 1), BAD);
        }
        for (int sheet : beyond(8)) {
            due("sheet, no place too", x.lay(1, sheet, 1, 1), BAD);
        }
        due("no way yet", x.count(3), 0);
    }

    /** "NULL" of lay, ahead of PLACE. */
    private static void layOfMissing() {
        LineBundles x = star();
        for (int i : new int[] {MIN, -1, 0, 60, MAX}) {
            for (int n : new int[] {1, 40}) {
                due("missing, i " + i, x.lay(0, 3, i, n), NULL);
                due("missing, status", x.status(), 1);
            }
        }
        due("no way yet", x.count(3), 0);
    }

    /** "PLACE" of lay, ahead of BAD for no WAY. */
    private static void layBeyondAnEnd() {
        LineBundles x = star();
        write(x, 0, "2222");
        x.sheet(1, 0, 0);
        x.sheet(2, 0, 60);
        for (int i = -1; i <= 5; i++) {
            for (int n = 1; n <= 5; n++) {
                boolean there = i >= 0 && i + n <= 4;
                due("i " + i + ", n " + n, x.lay(2, 0, i, n), !there ? PLACE : n == 1 ? 1 : BAD);
                due("none there", x.lay(2, 1, i, n), PLACE);
                due("none there, status", x.status(), 2);
            }
        }
        for (int i : new int[] {MIN, MIN + 1, -40, 60, 61, 1000000, MAX - 39, MAX - 1, MAX}) {
            due("far, i " + i, x.lay(2, 2, i, 1), PLACE);
            due("far, n 40, i " + i, x.lay(2, 2, i, 40), PLACE);
        }
        due("the last 40", x.lay(2, 2, 20, 40), BAD);
        due("one beyond", x.lay(2, 2, 21, 40), PLACE);
        due("the last one", x.lay(0, 2, 59, 1), 1);
    }

    /** A WAY is "a row of DIRECTIONS": 0 to 3. */
    private static void layNoDirections() {
        LineBundles x = star();
        x.sheet(0, 2, 1);
        for (int v : new int[] {MIN, -4, -3, -2, -1, 4, 5, 6, 7, 8, 256, 257, 65536, 1 << 30, MAX, NONE}) {
            x.set(0, 0, v);
            for (int line = 0; line < 4; line++) {
                due("no direction " + v, x.lay(line, 0, 0, 1), BAD);
            }
        }
        LineBundles y = new LineBundles();
        y.point(1, 0);
        y.point(3, 0);
        y.line(0, 1);
        due("no direction at the end", lay(y, 0, "114"), BAD);
        due("no direction between", lay(y, 0, "141"), BAD);
        due("no direction first", lay(y, 0, "411"), BAD);
        due("directions", lay(y, 0, "11"), 1);
        y.point(0, 0);
        y.line(0, 2);
        due("no direction, to the first place", lay(y, 1, "4"), BAD);
        due("no direction, to the first place", lay(y, 1, "13" + "4"), BAD);
        due("to the first place", lay(y, 1, "3"), 1);
    }

    /** From each of the four corners over both edges, and straight over to where the next row begins. */
    private static void layOverTheEdge() {
        LineBundles x = new LineBundles();
        x.point(0, 0);
        x.point(9, 0);
        x.point(0, 9);
        x.point(9, 9);
        x.point(0, 1);
        x.point(9, 8);
        for (int from = 0; from < 4; from++) {
            x.line(from, 3 - from);
        }
        x.line(1, 4);
        x.line(4, 1);
        x.line(2, 5);
        x.line(5, 2);
        x.line(0, 2);
        x.line(2, 0);
        String[] over = {"0", "3", "0", "1", "2", "3", "1", "2"};
        for (int i = 0; i < 8; i++) {
            due("over the edge from " + i / 2, lay(x, i / 2, over[i] + "12301230"), BAD);
        }
        due("over the right edge", lay(x, 4, "1"), BAD);
        due("over the left edge", lay(x, 5, "3"), BAD);
        due("over the left edge, from below", lay(x, 6, "3"), BAD);
        due("over the right edge, from above", lay(x, 7, "1"), BAD);
        due("over the upper edge", lay(x, 8, "0"), BAD);
        due("over the lower edge", lay(x, 9, "2"), BAD);
        due("no ways", x.count(3), 0);
        due("along the edge", lay(x, 4, "3333333332"), 1);
    }

    /** "by open places" */
    private static void layByShutPlaces() {
        LineBundles x = new LineBundles();
        x.point(0, 0);
        x.point(3, 0);
        x.line(0, 1);
        for (int i = 1; i < 3; i++) {
            x.shut(i, 0);
            due("shut at " + i, lay(x, 0, "111"), BAD);
            due("round it", lay(x, 0, "21110"), 1);
            x.take(0);
            x.open(i, 0);
            due("open at " + i, lay(x, 0, "111"), 1);
            x.take(0);
        }
    }

    /** "to none twice": not to its first place, nor to its last, nor to another one, nor back. */
    private static void layTwice() {
        LineBundles x = new LineBundles();
        x.point(3, 3);
        x.point(5, 3);
        x.line(0, 1);
        due("back and forth", lay(x, 0, "1311"), BAD);
        due("forth and back and forth", lay(x, 0, "1131"), BAD);
        due("by its first place again", lay(x, 0, "103211"), BAD);
        due("round, by its first place again", lay(x, 0, "032111"), BAD);
        due("by a place between again", lay(x, 0, "01103221"), BAD);
        due("by its last place, and round to it", lay(x, 0, "111032"), BAD);
        due("beside itself is fine", lay(x, 0, "101123"), 1);
        dueWay("beside itself", x, 0, "101123");
        due("round its last place is fine", lay(x, 0, "011123"), 1);
        dueWay("round its last place", x, 0, "011123");
    }

    /** "from its first POINT to its second one" */
    private static void layNotToItsEnd() {
        LineBundles x = new LineBundles();
        x.point(3, 3);
        x.point(5, 3);
        x.point(6, 3);
        x.line(0, 1);
        due("too short", lay(x, 0, "1"), BAD);
        due("too long", lay(x, 0, "111"), BAD);
        due("beside it", lay(x, 0, "110"), BAD);
        due("from its second to its first", lay(x, 0, "33"), BAD);
        due("to it", lay(x, 0, "11"), 1);
        x.line(1, 0);
        due("another line's", lay(x, 1, "11"), BAD);
        due("back", lay(x, 1, "33"), 1);
    }

    /** "NULL; PLACE; then BAD: it is no WAY of it": BAD, so that status() is as before. */
    private static void layBadIsLast() {
        LineBundles x = star();
        write(x, 0, "22");
        x.lay(1, 5, 0, 1);
        due("status of NULL", x.status(), 1);
        due("no way", x.lay(1, 0, 0, 1), BAD);
        due("status stays 1", x.status(), 1);
        due("no place, and no way", x.lay(1, 0, 1, 2), PLACE);
        due("no way", x.lay(1, 0, 0, 2), BAD);
        due("status stays 2", x.status(), 2);
        due("a way", x.lay(2, 0, 1, 1), 1);
        due("status of none", x.status(), 0);
        due("no way", x.lay(1, 0, 0, 2), BAD);
        due("status stays 0", x.status(), 0);
    }

    private static void layInsteadOfAnother() {
        LineBundles x = rope(2);
        due("round", lay(x, 0, "210"), 1);
        due("the old way is off", x.width(0, 0, 1), 1);
        due("the new one is on", x.width(0, 1, 1), 1);
        due("the same again", lay(x, 0, "210"), 1);
        due("once", x.width(0, 1, 1), 1);
        due("refused", lay(x, 0, "21"), BAD);
        dueWay("it stays", x, 0, "210");
        due("its sides stay", x.all(5), 4);
        x.set(7, 0, 3);
        dueWay("the way is its own, not the sheet's", x, 0, "210");
    }

    /** "A LINE has no WAY: 1; 0: it had none." */
    private static void takeOrNone() {
        LineBundles x = rope(12);
        for (int i = 0; i < 12; i++) {
            due("it had", x.take(i), 1);
            due("it had none", x.take(i), 0);
            due("others have", x.count(3), 11 - i);
            due("width", x.width(0, 0, 1), 11 - i);
        }
        x.line(0, 1);
        due("all off", x.all(5), 0);
    }

    /** Without LINES there is nothing that could change. */
    private static void passOfNone() {
        LineBundles x = new LineBundles();
        due("no points", x.pass(), 0);
        due("no points", x.rest(), 0);
        x.point(0, 0);
        x.point(1, 0);
        due("no lines", x.pass(), 0);
        due("no lines", x.rest(), 0);
    }

    /** "each LINE, by numbers": all twelve, the first one first. */
    private static void passOfTwelve() {
        LineBundles x = new LineBundles();
        x.point(0, 0);
        x.point(9, 9);
        for (int i = 0; i < 12; i++) {
            x.line(i % 2, 1 - i % 2);
        }
        due("all twelve", x.pass(), 12);
        due("with ways", x.count(3), 12);
        due("all along the first", x.all(1), 18);
        due("by the first one's way", x.width(9, 0, 2), 12);
        due("none", x.pass(), 0);
        x.take(11);
        due("the last one", x.pass(), 1);
        x.take(0);
        x.take(5);
        due("two", x.pass(), 2);
    }

    /** "if that makes COST of all less": as much is not less, fewer SIDES or a lesser DIRECTION do not count. */
    private static void passEqualCost() {
        LineBundles x = new LineBundles();
        x.point(0, 0);
        x.point(2, 2);
        x.line(0, 1);
        lay(x, 0, "2211");
        due("a lesser direction", x.pass(), 0);
        dueWay("it stays", x, 0, "2211");
        due("led, it goes by that", x.lead(0), 40);
        dueWay("led", x, 0, "1122");
        LineBundles y = twoRows();
        y.rule(1, 4);
        lay(y, 1, "2111110");
        due("fewer sides", y.pass(), 0);
        dueWay("it stays", y, 1, "2111110");
        due("cost", y.all(0), 100);
        due("rest", y.rest(), 0);
        y.lead(1);
        dueWay("led", y, 1, "11111");
        due("cost as it was", y.all(0), 100);
    }

    /** "less": by 1 is enough; as much, or more by 1, is not. */
    private static void passLessByOne() {
        LineBundles x = twoRows();
        x.rule(1, 4);
        due("50 and 50", x.pass(), 0);
        x.rule(1, 5);
        x.rule(0, 13);
        due("65 and 66", x.pass(), 0);
        due("cost", x.all(0), 130);
        x.rule(0, 12);
        due("60 and 59", x.pass(), 1);
        due("cost less by 1", x.all(0), 119);
        dueWay("the first one changed", x, 0, "0111112");
        dueWay("the second one stays", x, 1, "11111");
        due("none more", x.pass(), 0);
    }

    /** "or it has no WAY and there is one; else it stays as it was" */
    private static void passWithoutWay() {
        LineBundles x = new LineBundles();
        x.point(0, 0);
        x.point(9, 9);
        x.point(1, 0);
        x.line(0, 1);
        x.line(0, 2);
        x.shut(8, 9);
        x.shut(9, 8);
        due("one of two", x.pass(), 1);
        due("without", x.way(0, -1), 0);
        due("none to change", x.pass(), 0);
        due("at rest", x.rest(), 0);
        x.open(8, 9);
        due("now there is one", x.pass(), 1);
        due("with", x.way(0, -1), 18);
    }

    /** Three LINES, of which the second joins the others in the second PASS alone. */
    private static LineBundles threeRows() {
        LineBundles x = new LineBundles();
        for (int y : new int[] {0, 2, 1}) {
            x.point(0, y);
            x.point(9, y);
        }
        x.line(0, 1);
        x.line(2, 3);
        x.line(4, 5);
        x.rule(1, 4);
        return x;
    }

    /** "PASSES till they REST: how many changed some LINE." */
    private static void restInPasses() {
        LineBundles x = threeRows();
        due("first pass", x.pass(), 3);
        dueWay("first", x, 0, "1".repeat(9));
        dueWay("second", x, 1, "1".repeat(9));
        dueWay("third", x, 2, "0" + "1".repeat(9) + "2");
        due("cost", x.all(0), 9 * 16 + 20 + 90);
        due("second pass", x.pass(), 1);
        dueWay("second, along both", x, 1, "00" + "1".repeat(9) + "22");
        due("cost", x.all(0), 9 * 18 + 32 + 20);
        due("third pass", x.pass(), 0);
        LineBundles y = threeRows();
        due("two passes changed some", y.rest(), 2);
        due("cost at rest", y.all(0), 9 * 18 + 32 + 20);
        due("at rest", y.rest(), 0);
        due("at rest", y.pass(), 0);
        LineBundles z = threeRows();
        z.pass();
        due("one is left", z.rest(), 1);
    }

    private static void restOfNone() {
        LineBundles x = rope(12);
        due("at rest", x.rest(), 0);
        for (int i = 0; i < 12; i++) {
            x.take(i);
        }
        due("one pass for all", x.rest(), 1);
        due("all of them", x.width(0, 0, 1), 12);
    }

    /** "of i = -1 how many SIDES (0 without one); NONE: there are not so many. BAD: LINE, i below -1." */
    private static void wayLimits() {
        LineBundles x = new LineBundles();
        x.point(0, 0);
        x.point(3, 0);
        x.line(0, 1);
        for (int with = 0; with < 2; with++) {
            int sides = with == 0 ? 0 : 3;
            due("how many", x.way(0, -1), sides);
            for (int i : new int[] {MIN, MIN + 1, NONE, -100, -3, -2}) {
                due("below -1: " + i, x.way(0, i), BAD);
            }
            for (int i : new int[] {3, 4, 39, 40, 98, 99, 100, 101, 1000000, MAX - 1, MAX}) {
                due("not so many: " + i, x.way(0, i), NONE);
            }
            for (int i = 0; i < 3; i++) {
                due("direction " + i, x.way(0, i), i < sides ? 1 : NONE);
            }
            x.lead(0);
        }
        lay(x, 0, "21110");
        x.take(0);
        due("after a longer one", x.way(0, 0), NONE);
        x.lead(0);
        due("after a longer one", x.way(0, 3), NONE);
    }
}
